set_option maxRecDepth 100000 in
set_option maxHeartbeats 4000000 in
theorem c_X12_canTie {l : Launch} {ad : Nat → Nat} {ca : FieldType → ClassId} {D : va_G} {sa sv : Nat → Nat} (r : Nat) (hr0 : layM[r]? = some (.inr (.int, 43))) (a2 : Int32) (a3 : Int32) : zC l yX12_canTie cX12_canTie 4 (some .boolean) 5 layM ad ca D (xtM ad sa sv) [.ref (ad 0), .ref (ad r), .int a2, .int a3] zvi (p_X12_canTie r a2 a3) := by
  refine z_enter (by decide) (Nat.le_of_ble_eq_true rfl) (fun E hE hl0 hcD hr => ?_)
  have hE : zok layM ad (xtM ad sa sv) E cX12_canTie 4 RX12 5 := hE
  show Z layM ad E 4 (zFin layM ad E zvi) 0 [(0, .ref (ad 0)), (1, .ref (ad r)), (2, .int a2), (3, .int a3)] [] (p_X12_canTie r a2 a3)
  unfold p_X12_canTie
  refine z_aload_n (pc := 0) hE 1 1 rfl rfl dX12_canTie_0 ?_
  refine z_iload_n (pc := 1) hE 2 2 rfl rfl dX12_canTie_1 ?_
  refine z_callSi (pc := 2) (st := []) [.ref (ad r), .int a2] hE kk_RX12_311 (c_X12_apart r hr0 a2) rfl rfl (Nat.le_of_ble_eq_true rfl) (by decide) dX12_canTie_2 (fun x1 => ?_)
  refine z_aload_n (pc := 5) hE 0 0 rfl rfl dX12_canTie_5 ?_
  refine z_getr (pc := 6) hE fk_RX12_20 lM_0 rfl dX12_canTie_6 ?_
  refine z_iload_n (pc := 9) hE 2 2 rfl rfl dX12_canTie_9 ?_
  refine z_iald (pc := 10) hE lM_4 dX12_canTie_10 (fun x2 => ?_)
  refine z_icmp_gt (pc := 11) hE 38 rfl dX12_canTie_11 ?_ ?_
  · refine z_iconst (pc := 38) hE dX12_canTie_38 qM_iconst_0 ?_
    exact z_zreturn (pc := 39) hE hr dX12_canTie_39
  · refine z_aload_n (pc := 14) hE 0 0 rfl rfl dX12_canTie_14 ?_
    refine z_aload_n (pc := 15) hE 1 1 rfl rfl dX12_canTie_15 ?_
    refine z_iload_n (pc := 16) hE 2 2 rfl rfl dX12_canTie_16 ?_
    refine z_callVi (pc := 17) (st := []) [.ref (ad r), .int a2] hE kk_RX12_290 (c_X12_highOf r hr0 a2) lM_0 rfl rfl rfl (Nat.le_of_ble_eq_true rfl) (by decide) dX12_canTie_17 (fun x3 => ?_)
    refine z_aload_n (pc := 20) hE 0 0 rfl rfl dX12_canTie_20 ?_
    refine z_getr (pc := 21) hE fk_RX12_13 lM_0 rfl dX12_canTie_21 ?_
    refine z_iload_n (pc := 24) hE 3 3 rfl rfl dX12_canTie_24 ?_
    refine z_iald (pc := 25) hE lM_2 dX12_canTie_25 (fun x4 => ?_)
    refine z_isub (pc := 26) hE dX12_canTie_26 ?_
    refine z_abs (pc := 27) hE kk_RX12_308 (Nat.le_of_ble_eq_true rfl) (by decide) dX12_canTie_27 ?_
    refine z_iconst (pc := 30) hE dX12_canTie_30 qM_iconst_1 ?_
    refine z_icmp_gt (pc := 31) hE 38 rfl dX12_canTie_31 ?_ ?_
    · refine z_iconst (pc := 38) hE dX12_canTie_38 qM_iconst_0 ?_
      exact z_zreturn (pc := 39) hE hr dX12_canTie_39
    · refine z_iconst (pc := 34) hE dX12_canTie_34 qM_iconst_1 ?_
      refine z_goto (pc := 35) hE 39 rfl dX12_canTie_35 ?_
      exact z_zreturn (pc := 39) hE hr dX12_canTie_39
set_option maxRecDepth 100000 in
set_option maxHeartbeats 4000000 in
theorem c_X12_moors {l : Launch} {ad : Nat → Nat} {ca : FieldType → ClassId} {D : va_G} {sa sv : Nat → Nat} (a1 : Int32) (a2 : Int32) : zC l yX12_moors cX12_moors 3 (some .int) 6 layM ad ca D (xtM ad sa sv) [.ref (ad 0), .int a1, .int a2] zvi (p_X12_moors a1 a2) := by
  refine z_enter (by decide) (Nat.le_of_ble_eq_true rfl) (fun E hE hl0 hcD hr => ?_)
  have hE : zok layM ad (xtM ad sa sv) E cX12_moors 3 RX12 6 := hE
  show Z layM ad E 3 (zFin layM ad E zvi) 0 [(0, .ref (ad 0)), (1, .int a1), (2, .int a2)] [] (p_X12_moors a1 a2)
  unfold p_X12_moors
  refine z_aload_n (pc := 0) hE 0 0 rfl rfl dX12_moors_0 ?_
  refine z_iload_n (pc := 1) hE 1 1 rfl rfl dX12_moors_1 ?_
  refine z_callVi (pc := 2) (st := []) [.int a1] hE kk_RX12_282 (c_X12_isBalloon a1) lM_0 rfl rfl rfl (Nat.le_of_ble_eq_true rfl) (by decide) dX12_moors_2 (fun x1 => ?_)
  refine z_if_eq (pc := 5) hE 16 rfl dX12_moors_5 ?_ ?_
  · refine z_iconst (pc := 16) hE dX12_moors_16 qM_iconst_m1 ?_
    exact z_ireturn (pc := 17) hE hr dX12_moors_17
  · refine z_aload_n (pc := 8) hE 0 0 rfl rfl dX12_moors_8 ?_
    refine z_iload_n (pc := 9) hE 2 2 rfl rfl dX12_moors_9 ?_
    refine z_callVi (pc := 10) (st := []) [.int a2] hE kk_RX12_271 (c_X12_isRing a2) lM_0 rfl rfl rfl (Nat.le_of_ble_eq_true rfl) (by decide) dX12_moors_10 (fun x2 => ?_)
    refine z_if_ne (pc := 13) hE 18 rfl dX12_moors_13 ?_ ?_
    · refine z_aload_n (pc := 18) hE 0 0 rfl rfl dX12_moors_18 ?_
      refine z_iload_n (pc := 19) hE 1 1 rfl rfl dX12_moors_19 ?_
      refine z_callVi (pc := 20) (st := []) [.int a1] hE kk_RX12_268 (c_X12_how a1) lM_0 rfl rfl rfl (Nat.le_of_ble_eq_true rfl) (by decide) dX12_moors_20 (fun x3 => ?_)
      refine z_iconst (pc := 23) hE dX12_moors_23 qM_iconst_1 ?_
      refine z_icmp_eq (pc := 24) hE 30 rfl dX12_moors_24 ?_ ?_
      · refine z_aload_n (pc := 30) hE 0 0 rfl rfl dX12_moors_30 ?_
        refine z_getr (pc := 31) hE fk_RX12_32 lM_0 rfl dX12_moors_31 ?_
        refine z_iload_n (pc := 34) hE 1 1 rfl rfl dX12_moors_34 ?_
        refine z_callSi (pc := 35) (st := []) [.ref (ad 8), .int a1] hE kk_RX12_311 (c_X12_apart 8 lM_8 a1) rfl rfl (Nat.le_of_ble_eq_true rfl) (by decide) dX12_moors_35 (fun x4 => ?_)
        refine z_aload_n (pc := 38) hE 0 0 rfl rfl dX12_moors_38 ?_
        refine z_getr (pc := 39) hE fk_RX12_20 lM_0 rfl dX12_moors_39 ?_
        refine z_iload_n (pc := 42) hE 1 1 rfl rfl dX12_moors_42 ?_
        refine z_iald (pc := 43) hE lM_4 dX12_moors_43 (fun x5 => ?_)
        refine z_icmp_le (pc := 44) hE 50 rfl dX12_moors_44 ?_ ?_
        · refine z_aload_n (pc := 50) hE 0 0 rfl rfl dX12_moors_50 ?_
          refine z_aload_n (pc := 51) hE 0 0 rfl rfl dX12_moors_51 ?_
          refine z_getr (pc := 52) hE fk_RX12_32 lM_0 rfl dX12_moors_52 ?_
          refine z_iload_n (pc := 55) hE 1 1 rfl rfl dX12_moors_55 ?_
          refine z_iload_n (pc := 56) hE 2 2 rfl rfl dX12_moors_56 ?_
          refine z_callVi (pc := 57) (st := []) [.ref (ad 8), .int a1, .int a2] hE kk_RX12_314 (c_X12_canTie 8 lM_8 a1 a2) lM_0 rfl rfl rfl (Nat.le_of_ble_eq_true rfl) (by decide) dX12_moors_57 (fun x6 => ?_)
          refine z_if_ne (pc := 60) hE 66 rfl dX12_moors_60 ?_ ?_
          · refine z_aload_n (pc := 66) hE 0 0 rfl rfl dX12_moors_66 ?_
            refine z_iload_n (pc := 67) hE 2 2 rfl rfl dX12_moors_67 ?_
            refine z_callVi (pc := 68) (st := []) [.int a2] hE kk_RX12_279 (c_X12_mooredAt a2) lM_0 rfl rfl rfl (Nat.le_of_ble_eq_true rfl) (by decide) dX12_moors_68 (fun x7 => ?_)
            refine z_if_lt (pc := 71) hE 77 rfl dX12_moors_71 ?_ ?_
            · refine z_aload_n (pc := 77) hE 0 0 rfl rfl dX12_moors_77 ?_
              refine z_getr (pc := 78) hE fk_RX12_32 lM_0 rfl dX12_moors_78 ?_
              refine z_bipush (pc := 81) hE dX12_moors_81 qM_bipush_7 ?_
              refine z_iload_n (pc := 83) hE 1 1 rfl rfl dX12_moors_83 ?_
              refine z_imul (pc := 84) hE dX12_moors_84 ?_
              refine z_iconst (pc := 85) hE dX12_moors_85 qM_iconst_3 ?_
              refine z_iadd (pc := 86) hE dX12_moors_86 ?_
              refine z_iconst (pc := 87) hE dX12_moors_87 qM_iconst_2 ?_
              refine z_iast (pc := 88) hE lM_8 dX12_moors_88 ?_
              refine z_aload_n (pc := 89) hE 0 0 rfl rfl dX12_moors_89 ?_
              refine z_getr (pc := 90) hE fk_RX12_32 lM_0 rfl dX12_moors_90 ?_
              refine z_bipush (pc := 93) hE dX12_moors_93 qM_bipush_7 ?_
              refine z_iload_n (pc := 95) hE 1 1 rfl rfl dX12_moors_95 ?_
              refine z_imul (pc := 96) hE dX12_moors_96 ?_
              refine z_iconst (pc := 97) hE dX12_moors_97 qM_iconst_4 ?_
              refine z_iadd (pc := 98) hE dX12_moors_98 ?_
              refine z_iload_n (pc := 99) hE 2 2 rfl rfl dX12_moors_99 ?_
              refine z_iast (pc := 100) hE lM_8 dX12_moors_100 ?_
              refine z_aload_n (pc := 101) hE 0 0 rfl rfl dX12_moors_101 ?_
              refine z_getr (pc := 102) hE fk_RX12_13 lM_0 rfl dX12_moors_102 ?_
              refine z_iload_n (pc := 105) hE 2 2 rfl rfl dX12_moors_105 ?_
              refine z_iald (pc := 106) hE lM_2 dX12_moors_106 (fun x8 => ?_)
              exact z_ireturn (pc := 107) hE hr dX12_moors_107
            · refine z_bipush (pc := 74) hE dX12_moors_74 qM_bipush_m5 ?_
              exact z_ireturn (pc := 76) hE hr dX12_moors_76
          · refine z_bipush (pc := 63) hE dX12_moors_63 qM_bipush_m4 ?_
            exact z_ireturn (pc := 65) hE hr dX12_moors_65
        · refine z_bipush (pc := 47) hE dX12_moors_47 qM_bipush_m3 ?_
          exact z_ireturn (pc := 49) hE hr dX12_moors_49
      · refine z_bipush (pc := 27) hE dX12_moors_27 qM_bipush_m2 ?_
        exact z_ireturn (pc := 29) hE hr dX12_moors_29
    · refine z_iconst (pc := 16) hE dX12_moors_16 qM_iconst_m1 ?_
      exact z_ireturn (pc := 17) hE hr dX12_moors_17
set_option maxRecDepth 100000 in
set_option maxHeartbeats 4000000 in
theorem c_X12_casts {l : Launch} {ad : Nat → Nat} {ca : FieldType → ClassId} {D : va_G} {sa sv : Nat → Nat} (r : Nat) (hr0 : layM[r]? = some (.inr (.int, 43))) (a2 : Int32) : zC l yX12_casts cX12_casts 3 (some .int) 2 layM ad ca D (xtM ad sa sv) [.ref (ad 0), .ref (ad r), .int a2] zvi (p_X12_casts r a2) := by
  refine z_enter (by decide) (Nat.le_of_ble_eq_true rfl) (fun E hE hl0 hcD hr => ?_)
  have hE : zok layM ad (xtM ad sa sv) E cX12_casts 3 RX12 2 := hE
  show Z layM ad E 3 (zFin layM ad E zvi) 0 [(0, .ref (ad 0)), (1, .ref (ad r)), (2, .int a2)] [] (p_X12_casts r a2)
  unfold p_X12_casts
  refine z_aload_n (pc := 0) hE 0 0 rfl rfl dX12_casts_0 ?_
  refine z_iload_n (pc := 1) hE 2 2 rfl rfl dX12_casts_1 ?_
  refine z_callVi (pc := 2) (st := []) [.int a2] hE kk_RX12_282 (c_X12_isBalloon a2) lM_0 rfl rfl rfl (Nat.le_of_ble_eq_true rfl) (by decide) dX12_casts_2 (fun x1 => ?_)
  refine z_if_ne (pc := 5) hE 10 rfl dX12_casts_5 ?_ ?_
  · refine z_aload_n (pc := 10) hE 1 1 rfl rfl dX12_casts_10 ?_
    refine z_bipush (pc := 11) hE dX12_casts_11 qM_bipush_7 ?_
    refine z_iload_n (pc := 13) hE 2 2 rfl rfl dX12_casts_13 ?_
    refine z_imul (pc := 14) hE dX12_casts_14 ?_
    refine z_iconst (pc := 15) hE dX12_casts_15 qM_iconst_3 ?_
    refine z_iadd (pc := 16) hE dX12_casts_16 ?_
    refine z_iald (pc := 17) hE hr0 dX12_casts_17 (fun x2 => ?_)
    refine z_iconst (pc := 18) hE dX12_casts_18 qM_iconst_2 ?_
    refine z_icmp_eq (pc := 19) hE 25 rfl dX12_casts_19 ?_ ?_
    · refine z_aload_n (pc := 25) hE 1 1 rfl rfl dX12_casts_25 ?_
      refine z_iload_n (pc := 26) hE 2 2 rfl rfl dX12_casts_26 ?_
      refine z_callSv (pc := 27) (st := []) [.ref (ad r), .int a2] hE kk_RX12_304 (c_X12_frees r hr0 a2) rfl rfl (Nat.le_of_ble_eq_true rfl) (by decide) dX12_casts_27 (fun x3 => ?_)
      refine z_aload_n (pc := 30) hE 1 1 rfl rfl dX12_casts_30 ?_
      refine z_bipush (pc := 31) hE dX12_casts_31 qM_bipush_7 ?_
      refine z_iload_n (pc := 33) hE 2 2 rfl rfl dX12_casts_33 ?_
      refine z_imul (pc := 34) hE dX12_casts_34 ?_
      refine z_iconst (pc := 35) hE dX12_casts_35 qM_iconst_4 ?_
      refine z_iadd (pc := 36) hE dX12_casts_36 ?_
      refine z_iald (pc := 37) hE hr0 dX12_casts_37 (fun x4 => ?_)
      exact z_ireturn (pc := 38) hE hr dX12_casts_38
    · refine z_bipush (pc := 22) hE dX12_casts_22 qM_bipush_m2 ?_
      exact z_ireturn (pc := 24) hE hr dX12_casts_24
  · refine z_iconst (pc := 8) hE dX12_casts_8 qM_iconst_m1 ?_
    exact z_ireturn (pc := 9) hE hr dX12_casts_9
set_option maxRecDepth 100000 in
set_option maxHeartbeats 4000000 in
theorem c_X12_sacksBy {l : Launch} {ad : Nat → Nat} {ca : FieldType → ClassId} {D : va_G} {sa sv : Nat → Nat} (a1 : Int32) (a2 : Int32) : zC l yX12_sacksBy cX12_sacksBy 5 (some .int) 2 layM ad ca D (xtM ad sa sv) [.ref (ad 0), .int a1, .int a2] zvi (p_X12_sacksBy a1 a2) := by
  refine z_enter (by decide) (Nat.le_of_ble_eq_true rfl) (fun E hE hl0 hcD hr => ?_)
  have hE : zok layM ad (xtM ad sa sv) E cX12_sacksBy 5 RX12 2 := hE
  show Z layM ad E 5 (zFin layM ad E zvi) 0 [(0, .ref (ad 0)), (1, .int a1), (2, .int a2)] [] (p_X12_sacksBy a1 a2)
  unfold p_X12_sacksBy
  refine z_aload_n (pc := 0) hE 0 0 rfl rfl dX12_sacksBy_0 ?_
  refine z_iload_n (pc := 1) hE 1 1 rfl rfl dX12_sacksBy_1 ?_
  refine z_callVi (pc := 2) (st := []) [.int a1] hE kk_RX12_282 (c_X12_isBalloon a1) lM_0 rfl rfl rfl (Nat.le_of_ble_eq_true rfl) (by decide) dX12_sacksBy_2 (fun x1 => ?_)
  refine z_if_eq (pc := 5) hE 12 rfl dX12_sacksBy_5 ?_ ?_
  · refine z_iconst (pc := 12) hE dX12_sacksBy_12 qM_iconst_m1 ?_
    exact z_ireturn (pc := 13) hE hr dX12_sacksBy_13
  · refine z_iload_n (pc := 8) hE 2 2 rfl rfl dX12_sacksBy_8 ?_
    refine z_if_ne (pc := 9) hE 14 rfl dX12_sacksBy_9 ?_ ?_
    · refine z_aload_n (pc := 14) hE 0 0 rfl rfl dX12_sacksBy_14 ?_
      refine z_iload_n (pc := 15) hE 1 1 rfl rfl dX12_sacksBy_15 ?_
      refine z_callVi (pc := 16) (st := []) [.int a1] hE kk_RX12_268 (c_X12_how a1) lM_0 rfl rfl rfl (Nat.le_of_ble_eq_true rfl) (by decide) dX12_sacksBy_16 (fun x2 => ?_)
      refine z_iconst (pc := 19) hE dX12_sacksBy_19 qM_iconst_3 ?_
      refine z_icmp_eq (pc := 20) hE 36 rfl dX12_sacksBy_20 ?_ ?_
      · refine z_bipush (pc := 36) hE dX12_sacksBy_36 qM_bipush_m2 ?_
        exact z_ireturn (pc := 38) hE hr dX12_sacksBy_38
      · refine z_iload_n (pc := 23) hE 2 2 rfl rfl dX12_sacksBy_23 ?_
        refine z_join (Y := Unit) (pcJ := 39) (Lj := fun y3 => [(0, .ref (ad 0)), (1, .int a1), (2, .int a2)]) (sj := fun y3 => []) (fun y3 => ?_) (fun j4 hj4 => ?_)
        · refine z_aload_n (pc := 39) hE 0 0 rfl rfl dX12_sacksBy_39 ?_
          refine z_getr (pc := 40) hE fk_RX12_32 lM_0 rfl dX12_sacksBy_40 ?_
          refine z_bipush (pc := 43) hE dX12_sacksBy_43 qM_bipush_7 ?_
          refine z_iload_n (pc := 45) hE 1 1 rfl rfl dX12_sacksBy_45 ?_
          refine z_imul (pc := 46) hE dX12_sacksBy_46 ?_
          refine z_iconst (pc := 47) hE dX12_sacksBy_47 qM_iconst_1 ?_
          refine z_iadd (pc := 48) hE dX12_sacksBy_48 ?_
          refine z_iald (pc := 49) hE lM_8 dX12_sacksBy_49 (fun x5 => ?_)
          refine z_i2l (pc := 50) hE dX12_sacksBy_50 ?_
          refine z_iload_n (pc := 51) hE 2 2 rfl rfl dX12_sacksBy_51 ?_
          refine z_i2l (pc := 52) hE dX12_sacksBy_52 ?_
          refine z_ladd (pc := 53) hE dX12_sacksBy_53 ?_
          refine z_lstore_n (L' := [(3, .long (x5.toInt64 + a2.toInt64)), (0, .ref (ad 0)), (1, .int a1), (2, .int a2)]) (pc := 54) hE 3 rfl (by decide) rfl dX12_sacksBy_54 ?_
          refine z_lload_n (pc := 55) hE 0 3 rfl rfl dX12_sacksBy_55 ?_
          refine z_lconst (v := (0 : Int64)) (pc := 56) hE dX12_sacksBy_56 (by decide) ?_
          refine z_ldc2 (pc := 57) hE wM_3 dX12_sacksBy_57 ?_
          refine z_callSi (pc := 60) (st := []) [.long (x5.toInt64 + a2.toInt64), .long ((0 : Int64)), .long ((9 : Int64))] hE kk_RX12_131 (c_X12_in (x5.toInt64 + a2.toInt64) ((0 : Int64)) ((9 : Int64))) rfl rfl (Nat.le_of_ble_eq_true rfl) (by decide) dX12_sacksBy_60 (fun x6 => ?_)
          refine z_if_ne (pc := 63) hE 69 rfl dX12_sacksBy_63 ?_ ?_
          · refine z_aload_n (pc := 69) hE 1 0 rfl rfl dX12_sacksBy_69 ?_
            refine z_getr (pc := 70) hE fk_RX12_32 lM_0 rfl dX12_sacksBy_70 ?_
            refine z_bipush (pc := 73) hE dX12_sacksBy_73 qM_bipush_7 ?_
            refine z_iload_n (pc := 75) hE 2 1 rfl rfl dX12_sacksBy_75 ?_
            refine z_imul (pc := 76) hE dX12_sacksBy_76 ?_
            refine z_iconst (pc := 77) hE dX12_sacksBy_77 qM_iconst_1 ?_
            refine z_iadd (pc := 78) hE dX12_sacksBy_78 ?_
            refine z_lload_n (pc := 79) hE 0 3 rfl rfl dX12_sacksBy_79 ?_
            refine z_l2i (pc := 80) hE dX12_sacksBy_80 ?_
            refine z_iast (pc := 81) hE lM_8 dX12_sacksBy_81 ?_
            refine z_lload_n (pc := 82) hE 0 3 rfl rfl dX12_sacksBy_82 ?_
            refine z_l2i (pc := 83) hE dX12_sacksBy_83 ?_
            exact z_ireturn (pc := 84) hE hr dX12_sacksBy_84
          · refine z_bipush (pc := 66) hE dX12_sacksBy_66 qM_bipush_m3 ?_
            exact z_ireturn (pc := 68) hE hr dX12_sacksBy_68
        refine z_if_le (pc := 24) hE 39 rfl dX12_sacksBy_24 ?_ ?_
        · exact z_sub [0, 1, 2] rfl (hj4 ())
        · refine z_aload_n (pc := 27) hE 0 0 rfl rfl dX12_sacksBy_27 ?_
          refine z_iload_n (pc := 28) hE 1 1 rfl rfl dX12_sacksBy_28 ?_
          refine z_callVi (pc := 29) (st := []) [.int a1] hE kk_RX12_268 (c_X12_how a1) lM_0 rfl rfl rfl (Nat.le_of_ble_eq_true rfl) (by decide) dX12_sacksBy_29 (fun x7 => ?_)
          refine z_iconst (pc := 32) hE dX12_sacksBy_32 qM_iconst_1 ?_
          refine z_icmp_ne (pc := 33) hE 39 rfl dX12_sacksBy_33 ?_ ?_
          · exact z_sub [0, 1, 2] rfl (hj4 ())
          · refine z_bipush (pc := 36) hE dX12_sacksBy_36 qM_bipush_m2 ?_
            exact z_ireturn (pc := 38) hE hr dX12_sacksBy_38
    · refine z_iconst (pc := 12) hE dX12_sacksBy_12 qM_iconst_m1 ?_
      exact z_ireturn (pc := 13) hE hr dX12_sacksBy_13
set_option maxRecDepth 100000 in
set_option maxHeartbeats 4000000 in
theorem c_X12_loads {l : Launch} {ad : Nat → Nat} {ca : FieldType → ClassId} {D : va_G} {sa sv : Nat → Nat} (a1 : Int32) (a2 : Int32) : zC l yX12_loads cX12_loads 4 (some .int) 2 layM ad ca D (xtM ad sa sv) [.ref (ad 0), .int a1, .int a2] zvi (p_X12_loads a1 a2) := by
  refine z_enter (by decide) (Nat.le_of_ble_eq_true rfl) (fun E hE hl0 hcD hr => ?_)
  have hE : zok layM ad (xtM ad sa sv) E cX12_loads 4 RX12 2 := hE
  show Z layM ad E 4 (zFin layM ad E zvi) 0 [(0, .ref (ad 0)), (1, .int a1), (2, .int a2)] [] (p_X12_loads a1 a2)
  unfold p_X12_loads
  refine z_aload_n (pc := 0) hE 0 0 rfl rfl dX12_loads_0 ?_
  refine z_iload_n (pc := 1) hE 1 1 rfl rfl dX12_loads_1 ?_
  refine z_callVi (pc := 2) (st := []) [.int a1] hE kk_RX12_282 (c_X12_isBalloon a1) lM_0 rfl rfl rfl (Nat.le_of_ble_eq_true rfl) (by decide) dX12_loads_2 (fun x1 => ?_)
  refine z_if_eq (pc := 5) hE 20 rfl dX12_loads_5 ?_ ?_
  · refine z_iconst (pc := 20) hE dX12_loads_20 qM_iconst_m1 ?_
    exact z_ireturn (pc := 21) hE hr dX12_loads_21
  · refine z_iload_n (pc := 8) hE 2 2 rfl rfl dX12_loads_8 ?_
    refine z_i2l (pc := 9) hE dX12_loads_9 ?_
    refine z_lconst (v := (0 : Int64)) (pc := 10) hE dX12_loads_10 (by decide) ?_
    refine z_ldc2 (pc := 11) hE wM_3 dX12_loads_11 ?_
    refine z_callSi (pc := 14) (st := []) [.long a2.toInt64, .long ((0 : Int64)), .long ((9 : Int64))] hE kk_RX12_131 (c_X12_in a2.toInt64 ((0 : Int64)) ((9 : Int64))) rfl rfl (Nat.le_of_ble_eq_true rfl) (by decide) dX12_loads_14 (fun x2 => ?_)
    refine z_if_ne (pc := 17) hE 22 rfl dX12_loads_17 ?_ ?_
    · refine z_aload_n (pc := 22) hE 0 0 rfl rfl dX12_loads_22 ?_
      refine z_iload_n (pc := 23) hE 1 1 rfl rfl dX12_loads_23 ?_
      refine z_callVi (pc := 24) (st := []) [.int a1] hE kk_RX12_268 (c_X12_how a1) lM_0 rfl rfl rfl (Nat.le_of_ble_eq_true rfl) (by decide) dX12_loads_24 (fun x3 => ?_)
      refine z_join (Y := Unit) (pcJ := 42) (Lj := fun y4 => [(0, .ref (ad 0)), (1, .int a1), (2, .int a2)]) (sj := fun y4 => []) (fun y4 => ?_) (fun j5 hj5 => ?_)
      · refine z_aload_n (pc := 42) hE 0 0 rfl rfl dX12_loads_42 ?_
        refine z_getr (pc := 43) hE fk_RX12_32 lM_0 rfl dX12_loads_43 ?_
        refine z_bipush (pc := 46) hE dX12_loads_46 qM_bipush_7 ?_
        refine z_iload_n (pc := 48) hE 1 1 rfl rfl dX12_loads_48 ?_
        refine z_imul (pc := 49) hE dX12_loads_49 ?_
        refine z_iconst (pc := 50) hE dX12_loads_50 qM_iconst_2 ?_
        refine z_iadd (pc := 51) hE dX12_loads_51 ?_
        refine z_iald (pc := 52) hE lM_8 dX12_loads_52 (fun x6 => ?_)
        refine z_istore_n (L' := [(3, .int x6), (0, .ref (ad 0)), (1, .int a1), (2, .int a2)]) (pc := 53) hE 3 rfl (by decide) rfl dX12_loads_53 ?_
        refine z_aload_n (pc := 54) hE 1 0 rfl rfl dX12_loads_54 ?_
        refine z_getr (pc := 55) hE fk_RX12_32 lM_0 rfl dX12_loads_55 ?_
        refine z_bipush (pc := 58) hE dX12_loads_58 qM_bipush_7 ?_
        refine z_iload_n (pc := 60) hE 2 1 rfl rfl dX12_loads_60 ?_
        refine z_imul (pc := 61) hE dX12_loads_61 ?_
        refine z_iconst (pc := 62) hE dX12_loads_62 qM_iconst_2 ?_
        refine z_iadd (pc := 63) hE dX12_loads_63 ?_
        refine z_iload_n (pc := 64) hE 3 2 rfl rfl dX12_loads_64 ?_
        refine z_iast (pc := 65) hE lM_8 dX12_loads_65 ?_
        refine z_iload_n (pc := 66) hE 0 3 rfl rfl dX12_loads_66 ?_
        exact z_ireturn (pc := 67) hE hr dX12_loads_67
      refine z_if_eq (pc := 27) hE 42 rfl dX12_loads_27 ?_ ?_
      · exact z_sub [0, 1, 2] rfl (hj5 ())
      · refine z_aload_n (pc := 30) hE 0 0 rfl rfl dX12_loads_30 ?_
        refine z_iload_n (pc := 31) hE 1 1 rfl rfl dX12_loads_31 ?_
        refine z_callVi (pc := 32) (st := []) [.int a1] hE kk_RX12_268 (c_X12_how a1) lM_0 rfl rfl rfl (Nat.le_of_ble_eq_true rfl) (by decide) dX12_loads_32 (fun x7 => ?_)
        refine z_iconst (pc := 35) hE dX12_loads_35 qM_iconst_2 ?_
        refine z_icmp_eq (pc := 36) hE 42 rfl dX12_loads_36 ?_ ?_
        · exact z_sub [0, 1, 2] rfl (hj5 ())
        · refine z_bipush (pc := 39) hE dX12_loads_39 qM_bipush_m2 ?_
          exact z_ireturn (pc := 41) hE hr dX12_loads_41
    · refine z_iconst (pc := 20) hE dX12_loads_20 qM_iconst_m1 ?_
      exact z_ireturn (pc := 21) hE hr dX12_loads_21
set_option maxRecDepth 100000 in
set_option maxHeartbeats 4000000 in
theorem c_X12_fills {l : Launch} {ad : Nat → Nat} {ca : FieldType → ClassId} {D : va_G} {sa sv : Nat → Nat} (a1 : Int32) (a2 : Int32) : zC l yX12_fills cX12_fills 4 (some .int) 2 layM ad ca D (xtM ad sa sv) [.ref (ad 0), .int a1, .int a2] zvi (p_X12_fills a1 a2) := by
  refine z_enter (by decide) (Nat.le_of_ble_eq_true rfl) (fun E hE hl0 hcD hr => ?_)
  have hE : zok layM ad (xtM ad sa sv) E cX12_fills 4 RX12 2 := hE
  show Z layM ad E 4 (zFin layM ad E zvi) 0 [(0, .ref (ad 0)), (1, .int a1), (2, .int a2)] [] (p_X12_fills a1 a2)
  unfold p_X12_fills
  refine z_aload_n (pc := 0) hE 0 0 rfl rfl dX12_fills_0 ?_
  refine z_iload_n (pc := 1) hE 1 1 rfl rfl dX12_fills_1 ?_
  refine z_callVi (pc := 2) (st := []) [.int a1] hE kk_RX12_282 (c_X12_isBalloon a1) lM_0 rfl rfl rfl (Nat.le_of_ble_eq_true rfl) (by decide) dX12_fills_2 (fun x1 => ?_)
  refine z_if_eq (pc := 5) hE 20 rfl dX12_fills_5 ?_ ?_
  · refine z_iconst (pc := 20) hE dX12_fills_20 qM_iconst_m1 ?_
    exact z_ireturn (pc := 21) hE hr dX12_fills_21
  · refine z_iload_n (pc := 8) hE 2 2 rfl rfl dX12_fills_8 ?_
    refine z_i2l (pc := 9) hE dX12_fills_9 ?_
    refine z_lconst (v := (0 : Int64)) (pc := 10) hE dX12_fills_10 (by decide) ?_
    refine z_ldc2 (pc := 11) hE wM_5 dX12_fills_11 ?_
    refine z_callSi (pc := 14) (st := []) [.long a2.toInt64, .long ((0 : Int64)), .long ((99 : Int64))] hE kk_RX12_131 (c_X12_in a2.toInt64 ((0 : Int64)) ((99 : Int64))) rfl rfl (Nat.le_of_ble_eq_true rfl) (by decide) dX12_fills_14 (fun x2 => ?_)
    refine z_if_ne (pc := 17) hE 22 rfl dX12_fills_17 ?_ ?_
    · refine z_aload_n (pc := 22) hE 0 0 rfl rfl dX12_fills_22 ?_
      refine z_iload_n (pc := 23) hE 1 1 rfl rfl dX12_fills_23 ?_
      refine z_callVi (pc := 24) (st := []) [.int a1] hE kk_RX12_268 (c_X12_how a1) lM_0 rfl rfl rfl (Nat.le_of_ble_eq_true rfl) (by decide) dX12_fills_24 (fun x3 => ?_)
      refine z_if_eq (pc := 27) hE 33 rfl dX12_fills_27 ?_ ?_
      · refine z_aload_n (pc := 33) hE 0 0 rfl rfl dX12_fills_33 ?_
        refine z_getr (pc := 34) hE fk_RX12_32 lM_0 rfl dX12_fills_34 ?_
        refine z_bipush (pc := 37) hE dX12_fills_37 qM_bipush_7 ?_
        refine z_iload_n (pc := 39) hE 1 1 rfl rfl dX12_fills_39 ?_
        refine z_imul (pc := 40) hE dX12_fills_40 ?_
        refine z_iconst (pc := 41) hE dX12_fills_41 qM_iconst_0 ?_
        refine z_iadd (pc := 42) hE dX12_fills_42 ?_
        refine z_iald (pc := 43) hE lM_8 dX12_fills_43 (fun x4 => ?_)
        refine z_istore_n (L' := [(3, .int x4), (0, .ref (ad 0)), (1, .int a1), (2, .int a2)]) (pc := 44) hE 3 rfl (by decide) rfl dX12_fills_44 ?_
        refine z_aload_n (pc := 45) hE 1 0 rfl rfl dX12_fills_45 ?_
        refine z_getr (pc := 46) hE fk_RX12_32 lM_0 rfl dX12_fills_46 ?_
        refine z_bipush (pc := 49) hE dX12_fills_49 qM_bipush_7 ?_
        refine z_iload_n (pc := 51) hE 2 1 rfl rfl dX12_fills_51 ?_
        refine z_imul (pc := 52) hE dX12_fills_52 ?_
        refine z_iconst (pc := 53) hE dX12_fills_53 qM_iconst_0 ?_
        refine z_iadd (pc := 54) hE dX12_fills_54 ?_
        refine z_iload_n (pc := 55) hE 3 2 rfl rfl dX12_fills_55 ?_
        refine z_iast (pc := 56) hE lM_8 dX12_fills_56 ?_
        refine z_iload_n (pc := 57) hE 0 3 rfl rfl dX12_fills_57 ?_
        exact z_ireturn (pc := 58) hE hr dX12_fills_58
      · refine z_bipush (pc := 30) hE dX12_fills_30 qM_bipush_m2 ?_
        exact z_ireturn (pc := 32) hE hr dX12_fills_32
    · refine z_iconst (pc := 20) hE dX12_fills_20 qM_iconst_m1 ?_
      exact z_ireturn (pc := 21) hE hr dX12_fills_21
set_option maxRecDepth 100000 in
set_option maxHeartbeats 4000000 in
theorem c_X12_startsCounting {l : Launch} {ad : Nat → Nat} {ca : FieldType → ClassId} {D : va_G} {sa sv : Nat → Nat}  : zC l yX12_startsCounting cX12_startsCounting 1 none 0 layM ad ca D (xtM ad sa sv) [.ref (ad 0)] zvn (p_X12_startsCounting) := by
  refine z_enter (by decide) (Nat.le_of_ble_eq_true rfl) (fun E hE hl0 hcD hr => ?_)
  have hE : zok layM ad (xtM ad sa sv) E cX12_startsCounting 1 RX12 0 := hE
  show Z layM ad E 1 (zFin layM ad E zvn) 0 [(0, .ref (ad 0))] [] (p_X12_startsCounting)
  unfold p_X12_startsCounting
  refine z_aload_n (pc := 0) hE 0 0 rfl rfl dX12_startsCounting_0 ?_
  refine z_iconst (pc := 1) hE dX12_startsCounting_1 qM_iconst_0 ?_
  refine z_puti (pc := 2) hE fk_RX12_320 lM_0 rfl dX12_startsCounting_2 ?_
  refine z_aload_n (pc := 5) hE 0 0 rfl rfl dX12_startsCounting_5 ?_
  refine z_iconst (pc := 6) hE dX12_startsCounting_6 qM_iconst_0 ?_
  refine z_puti (pc := 7) hE fk_RX12_323 lM_0 rfl dX12_startsCounting_7 ?_
  refine z_aload_n (pc := 10) hE 0 0 rfl rfl dX12_startsCounting_10 ?_
  refine z_iconst (pc := 11) hE dX12_startsCounting_11 qM_iconst_0 ?_
  refine z_puti (pc := 12) hE fk_RX12_326 lM_0 rfl dX12_startsCounting_12 ?_
  refine z_aload_n (pc := 15) hE 0 0 rfl rfl dX12_startsCounting_15 ?_
  refine z_iconst (pc := 16) hE dX12_startsCounting_16 qM_iconst_0 ?_
  refine z_puti (pc := 17) hE fk_RX12_329 lM_0 rfl dX12_startsCounting_17 ?_
  exact z_return (pc := 20) hE hr dX12_startsCounting_20
set_option maxRecDepth 100000 in
set_option maxHeartbeats 4000000 in
theorem c_X12_isLost {l : Launch} {ad : Nat → Nat} {ca : FieldType → ClassId} {D : va_G} {sa sv : Nat → Nat} (r : Nat) (hr0 : layM[r]? = some (.inr (.int, 43))) (a2 : Int32) : zC l yX12_isLost cX12_isLost 3 none 0 layM ad ca D (xtM ad sa sv) [.ref (ad 0), .ref (ad r), .int a2] zvn (p_X12_isLost r a2) := by
  refine z_enter (by decide) (Nat.le_of_ble_eq_true rfl) (fun E hE hl0 hcD hr => ?_)
  have hE : zok layM ad (xtM ad sa sv) E cX12_isLost 3 RX12 0 := hE
  show Z layM ad E 3 (zFin layM ad E zvn) 0 [(0, .ref (ad 0)), (1, .ref (ad r)), (2, .int a2)] [] (p_X12_isLost r a2)
  unfold p_X12_isLost
  refine z_aload_n (pc := 0) hE 1 1 rfl rfl dX12_isLost_0 ?_
  refine z_bipush (pc := 1) hE dX12_isLost_1 qM_bipush_7 ?_
  refine z_iload_n (pc := 3) hE 2 2 rfl rfl dX12_isLost_3 ?_
  refine z_imul (pc := 4) hE dX12_isLost_4 ?_
  refine z_iconst (pc := 5) hE dX12_isLost_5 qM_iconst_3 ?_
  refine z_iadd (pc := 6) hE dX12_isLost_6 ?_
  refine z_iconst (pc := 7) hE dX12_isLost_7 qM_iconst_3 ?_
  refine z_iast (pc := 8) hE hr0 dX12_isLost_8 ?_
  refine z_aload_n (pc := 9) hE 0 0 rfl rfl dX12_isLost_9 ?_
  refine z_dup (pc := 10) hE dX12_isLost_10 rfl ?_
  refine z_geti (pc := 11) hE fk_RX12_323 lM_0 rfl dX12_isLost_11 (fun x1 => ?_)
  refine z_iconst (pc := 14) hE dX12_isLost_14 qM_iconst_1 ?_
  refine z_iload_n (pc := 15) hE 2 2 rfl rfl dX12_isLost_15 ?_
  refine z_ishl (pc := 16) hE dX12_isLost_16 ?_
  refine z_ior (pc := 17) hE dX12_isLost_17 ?_
  refine z_puti (pc := 18) hE fk_RX12_323 lM_0 rfl dX12_isLost_18 ?_
  refine z_aload_n (pc := 21) hE 0 0 rfl rfl dX12_isLost_21 ?_
  refine z_dup (pc := 22) hE dX12_isLost_22 rfl ?_
  refine z_geti (pc := 23) hE fk_RX12_329 lM_0 rfl dX12_isLost_23 (fun x2 => ?_)
  refine z_iconst (pc := 26) hE dX12_isLost_26 qM_iconst_1 ?_
  refine z_iadd (pc := 27) hE dX12_isLost_27 ?_
  refine z_puti (pc := 28) hE fk_RX12_329 lM_0 rfl dX12_isLost_28 ?_
  exact z_return (pc := 31) hE hr dX12_isLost_31
set_option maxRecDepth 100000 in
set_option maxHeartbeats 4000000 in
theorem c_X12_eastward {l : Launch} {ad : Nat → Nat} {ca : FieldType → ClassId} {D : va_G} {sa sv : Nat → Nat} (a1 : Int32) : zC l yX12_eastward cX12_eastward 1 (some .int) 0 layM ad ca D (xtM ad sa sv) [.int a1] zvi (p_X12_eastward a1) := by
  refine z_enter (by decide) (Nat.le_of_ble_eq_true rfl) (fun E hE hl0 hcD hr => ?_)
  have hE : zok layM ad (xtM ad sa sv) E cX12_eastward 1 RX12 0 := hE
  show Z layM ad E 1 (zFin layM ad E zvi) 0 [(0, .int a1)] [] (p_X12_eastward a1)
  unfold p_X12_eastward
  refine z_iload_n (pc := 0) hE 0 0 rfl rfl dX12_eastward_0 ?_
  refine z_join (Y := Unit) (pcJ := 9) (Lj := fun y1 => []) (sj := fun y1 => []) (fun y1 => ?_) (fun j2 hj2 => ?_)
  · refine z_iconst (pc := 9) hE dX12_eastward_9 qM_iconst_0 ?_
    refine z_goto (pc := 10) hE 23 rfl dX12_eastward_10 ?_
    exact z_ireturn (pc := 23) hE hr dX12_eastward_23
  refine z_if_eq (pc := 1) hE 9 rfl dX12_eastward_1 ?_ ?_
  · exact z_sub [] rfl (hj2 ())
  · refine z_iload_n (pc := 4) hE 0 0 rfl rfl dX12_eastward_4 ?_
    refine z_iconst (pc := 5) hE dX12_eastward_5 qM_iconst_4 ?_
    refine z_icmp_ne (pc := 6) hE 13 rfl dX12_eastward_6 ?_ ?_
    · refine z_iload_n (pc := 13) hE 0 0 rfl rfl dX12_eastward_13 ?_
      refine z_iconst (pc := 14) hE dX12_eastward_14 qM_iconst_4 ?_
      refine z_icmp_ge (pc := 15) hE 22 rfl dX12_eastward_15 ?_ ?_
      · refine z_iconst (pc := 22) hE dX12_eastward_22 qM_iconst_m1 ?_
        exact z_ireturn (pc := 23) hE hr dX12_eastward_23
      · refine z_iconst (pc := 18) hE dX12_eastward_18 qM_iconst_1 ?_
        refine z_goto (pc := 19) hE 23 rfl dX12_eastward_19 ?_
        exact z_ireturn (pc := 23) hE hr dX12_eastward_23
    · exact z_sub [] rfl (hj2 ())
set_option maxRecDepth 100000 in
set_option maxHeartbeats 4000000 in
theorem c_X12_southward {l : Launch} {ad : Nat → Nat} {ca : FieldType → ClassId} {D : va_G} {sa sv : Nat → Nat} (a1 : Int32) : zC l yX12_southward cX12_southward 1 (some .int) 0 layM ad ca D (xtM ad sa sv) [.int a1] zvi (p_X12_southward a1) := by
  refine z_enter (by decide) (Nat.le_of_ble_eq_true rfl) (fun E hE hl0 hcD hr => ?_)
  have hE : zok layM ad (xtM ad sa sv) E cX12_southward 1 RX12 0 := hE
  show Z layM ad E 1 (zFin layM ad E zvi) 0 [(0, .int a1)] [] (p_X12_southward a1)
  unfold p_X12_southward
  refine z_iload_n (pc := 0) hE 0 0 rfl rfl dX12_southward_0 ?_
  refine z_iconst (pc := 1) hE dX12_southward_1 qM_iconst_2 ?_
  refine z_join (Y := Unit) (pcJ := 11) (Lj := fun y1 => []) (sj := fun y1 => []) (fun y1 => ?_) (fun j2 hj2 => ?_)
  · refine z_iconst (pc := 11) hE dX12_southward_11 qM_iconst_0 ?_
    refine z_goto (pc := 12) hE 31 rfl dX12_southward_12 ?_
    exact z_ireturn (pc := 31) hE hr dX12_southward_31
  refine z_icmp_eq (pc := 2) hE 11 rfl dX12_southward_2 ?_ ?_
  · exact z_sub [] rfl (hj2 ())
  · refine z_iload_n (pc := 5) hE 0 0 rfl rfl dX12_southward_5 ?_
    refine z_bipush (pc := 6) hE dX12_southward_6 qM_bipush_6 ?_
    refine z_icmp_ne (pc := 8) hE 15 rfl dX12_southward_8 ?_ ?_
    · refine z_iload_n (pc := 15) hE 0 0 rfl rfl dX12_southward_15 ?_
      refine z_iconst (pc := 16) hE dX12_southward_16 qM_iconst_2 ?_
      refine z_icmp_le (pc := 17) hE 30 rfl dX12_southward_17 ?_ ?_
      · refine z_iconst (pc := 30) hE dX12_southward_30 qM_iconst_m1 ?_
        exact z_ireturn (pc := 31) hE hr dX12_southward_31
      · refine z_iload_n (pc := 20) hE 0 0 rfl rfl dX12_southward_20 ?_
        refine z_bipush (pc := 21) hE dX12_southward_21 qM_bipush_6 ?_
        refine z_icmp_ge (pc := 23) hE 30 rfl dX12_southward_23 ?_ ?_
        · refine z_iconst (pc := 30) hE dX12_southward_30 qM_iconst_m1 ?_
          exact z_ireturn (pc := 31) hE hr dX12_southward_31
        · refine z_iconst (pc := 26) hE dX12_southward_26 qM_iconst_1 ?_
          refine z_goto (pc := 27) hE 31 rfl dX12_southward_27 ?_
          exact z_ireturn (pc := 31) hE hr dX12_southward_31
    · exact z_sub [] rfl (hj2 ())
set_option maxRecDepth 100000 in
set_option maxHeartbeats 4000000 in
theorem c_X12_blows {l : Launch} {ad : Nat → Nat} {ca : FieldType → ClassId} {D : va_G} {sa sv : Nat → Nat} (r : Nat) (hr0 : layM[r]? = some (.inr (.int, 43))) (a2 : Int32) (a3 : Int32) : zC l yX12_blows cX12_blows 5 (some .boolean) 1 layM ad ca D (xtM ad sa sv) [.ref (ad 0), .ref (ad r), .int a2, .int a3] zvi (p_X12_blows r a2 a3) := by
  refine z_enter (by decide) (Nat.le_of_ble_eq_true rfl) (fun E hE hl0 hcD hr => ?_)
  have hE : zok layM ad (xtM ad sa sv) E cX12_blows 5 RX12 1 := hE
  show Z layM ad E 5 (zFin layM ad E zvi) 0 [(0, .ref (ad 0)), (1, .ref (ad r)), (2, .int a2), (3, .int a3)] [] (p_X12_blows r a2 a3)
  unfold p_X12_blows
  refine z_bipush (pc := 0) hE dX12_blows_0 qM_bipush_7 ?_
  refine z_iload_n (pc := 2) hE 2 2 rfl rfl dX12_blows_2 ?_
  refine z_imul (pc := 3) hE dX12_blows_3 ?_
  refine z_istore (L' := [(4, .int (((7 : Int32)) * a2)), (0, .ref (ad 0)), (1, .ref (ad r)), (2, .int a2), (3, .int a3)]) (pc := 4) hE (by decide) rfl dX12_blows_4 ?_
  refine z_aload_n (pc := 6) hE 1 0 rfl rfl dX12_blows_6 ?_
  refine z_getr (pc := 7) hE fk_RX12_26 lM_0 rfl dX12_blows_7 ?_
  refine z_iload_n (pc := 10) hE 4 3 rfl rfl dX12_blows_10 ?_
  refine z_iald (pc := 11) hE lM_6 dX12_blows_11 (fun x1 => ?_)
  refine z_join (Y := Unit) (pcJ := 66) (Lj := fun y2 => [(1, .ref (ad r)), (4, .int (((7 : Int32)) * a2))]) (sj := fun y2 => []) (fun y2 => ?_) (fun j3 hj3 => ?_)
  · refine z_aload_n (pc := 66) hE 0 1 rfl rfl dX12_blows_66 ?_
    refine z_iload (pc := 67) hE 1 rfl dX12_blows_67 ?_
    refine z_iconst (pc := 69) hE dX12_blows_69 qM_iconst_5 ?_
    refine z_iadd (pc := 70) hE dX12_blows_70 ?_
    refine z_iald (pc := 71) hE hr0 dX12_blows_71 (fun x4 => ?_)
    refine z_i2l (pc := 72) hE dX12_blows_72 ?_
    refine z_ldc2 (pc := 73) hE wM_6 dX12_blows_73 ?_
    refine z_ldc2 (pc := 76) hE wM_3 dX12_blows_76 ?_
    refine z_callSi (pc := 79) (st := []) [.long x4.toInt64, .long ((-9 : Int64)), .long ((9 : Int64))] hE kk_RX12_131 (c_X12_in x4.toInt64 ((-9 : Int64)) ((9 : Int64))) rfl rfl (Nat.le_of_ble_eq_true rfl) (by decide) dX12_blows_79 (fun x5 => ?_)
    refine z_if_eq (pc := 82) hE 109 rfl dX12_blows_82 ?_ ?_
    · refine z_iconst (pc := 109) hE dX12_blows_109 qM_iconst_0 ?_
      exact z_zreturn (pc := 110) hE hr dX12_blows_110
    · refine z_aload_n (pc := 85) hE 0 1 rfl rfl dX12_blows_85 ?_
      refine z_iload (pc := 86) hE 1 rfl dX12_blows_86 ?_
      refine z_bipush (pc := 88) hE dX12_blows_88 qM_bipush_6 ?_
      refine z_iadd (pc := 90) hE dX12_blows_90 ?_
      refine z_iald (pc := 91) hE hr0 dX12_blows_91 (fun x6 => ?_)
      refine z_i2l (pc := 92) hE dX12_blows_92 ?_
      refine z_ldc2 (pc := 93) hE wM_6 dX12_blows_93 ?_
      refine z_ldc2 (pc := 96) hE wM_3 dX12_blows_96 ?_
      refine z_callSi (pc := 99) (st := []) [.long x6.toInt64, .long ((-9 : Int64)), .long ((9 : Int64))] hE kk_RX12_131 (c_X12_in x6.toInt64 ((-9 : Int64)) ((9 : Int64))) rfl rfl (Nat.le_of_ble_eq_true rfl) (by decide) dX12_blows_99 (fun x7 => ?_)
      refine z_if_eq (pc := 102) hE 109 rfl dX12_blows_102 ?_ ?_
      · refine z_iconst (pc := 109) hE dX12_blows_109 qM_iconst_0 ?_
        exact z_zreturn (pc := 110) hE hr dX12_blows_110
      · refine z_iconst (pc := 105) hE dX12_blows_105 qM_iconst_1 ?_
        refine z_goto (pc := 106) hE 110 rfl dX12_blows_106 ?_
        exact z_zreturn (pc := 110) hE hr dX12_blows_110
  refine z_if_lt (pc := 12) hE 66 rfl dX12_blows_12 ?_ ?_
  · exact z_sub [2, 0] rfl (hj3 ())
  · refine z_aload_n (pc := 15) hE 2 1 rfl rfl dX12_blows_15 ?_
    refine z_iload (pc := 16) hE 0 rfl dX12_blows_16 ?_
    refine z_iconst (pc := 18) hE dX12_blows_18 qM_iconst_5 ?_
    refine z_iadd (pc := 19) hE dX12_blows_19 ?_
    refine z_dup2 (pc := 20) hE dX12_blows_20 rfl rfl ?_
    refine z_iald (pc := 21) hE hr0 dX12_blows_21 (fun x8 => ?_)
    refine z_aload_n (pc := 22) hE 1 0 rfl rfl dX12_blows_22 ?_
    refine z_getr (pc := 23) hE fk_RX12_26 lM_0 rfl dX12_blows_23 ?_
    refine z_iload_n (pc := 26) hE 4 3 rfl rfl dX12_blows_26 ?_
    refine z_iald (pc := 27) hE lM_6 dX12_blows_27 (fun x9 => ?_)
    refine z_callSi (pc := 28) (st := [.int x8, .int ((((7 : Int32)) * a2) + ((5 : Int32))), .ref (ad r)]) [.int x9] hE kk_RX12_332 (c_X12_eastward x9) rfl rfl (Nat.le_of_ble_eq_true rfl) (by decide) dX12_blows_28 (fun x10 => ?_)
    refine z_aload_n (pc := 31) hE 1 0 rfl rfl dX12_blows_31 ?_
    refine z_getr (pc := 32) hE fk_RX12_29 lM_0 rfl dX12_blows_32 ?_
    refine z_iload_n (pc := 35) hE 4 3 rfl rfl dX12_blows_35 ?_
    refine z_iald (pc := 36) hE lM_7 dX12_blows_36 (fun x11 => ?_)
    refine z_imul (pc := 37) hE dX12_blows_37 ?_
    refine z_iadd (pc := 38) hE dX12_blows_38 ?_
    refine z_iast (pc := 39) hE hr0 dX12_blows_39 ?_
    refine z_aload_n (pc := 40) hE 2 1 rfl rfl dX12_blows_40 ?_
    refine z_iload (pc := 41) hE 0 rfl dX12_blows_41 ?_
    refine z_bipush (pc := 43) hE dX12_blows_43 qM_bipush_6 ?_
    refine z_iadd (pc := 45) hE dX12_blows_45 ?_
    refine z_dup2 (pc := 46) hE dX12_blows_46 rfl rfl ?_
    refine z_iald (pc := 47) hE hr0 dX12_blows_47 (fun x12 => ?_)
    refine z_aload_n (pc := 48) hE 1 0 rfl rfl dX12_blows_48 ?_
    refine z_getr (pc := 49) hE fk_RX12_26 lM_0 rfl dX12_blows_49 ?_
    refine z_iload_n (pc := 52) hE 4 3 rfl rfl dX12_blows_52 ?_
    refine z_iald (pc := 53) hE lM_6 dX12_blows_53 (fun x13 => ?_)
    refine z_callSi (pc := 54) (st := [.int x12, .int ((((7 : Int32)) * a2) + ((6 : Int32))), .ref (ad r)]) [.int x13] hE kk_RX12_335 (c_X12_southward x13) rfl rfl (Nat.le_of_ble_eq_true rfl) (by decide) dX12_blows_54 (fun x14 => ?_)
    refine z_aload_n (pc := 57) hE 1 0 rfl rfl dX12_blows_57 ?_
    refine z_getr (pc := 58) hE fk_RX12_29 lM_0 rfl dX12_blows_58 ?_
    refine z_iload_n (pc := 61) hE 4 3 rfl rfl dX12_blows_61 ?_
    refine z_iald (pc := 62) hE lM_7 dX12_blows_62 (fun x15 => ?_)
    refine z_imul (pc := 63) hE dX12_blows_63 ?_
    refine z_iadd (pc := 64) hE dX12_blows_64 ?_
    refine z_iast (pc := 65) hE hr0 dX12_blows_65 ?_
    exact z_sub [2, 0] rfl (hj3 ())
set_option maxRecDepth 100000 in
set_option maxHeartbeats 4000000 in
theorem c_X12_touch {l : Launch} {ad : Nat → Nat} {ca : FieldType → ClassId} {D : va_G} {sa sv : Nat → Nat} (a1 : Int32) (a2 : Int32) : zC l yX12_touch cX12_touch 3 (some .boolean) 1 layM ad ca D (xtM ad sa sv) [.ref (ad 0), .int a1, .int a2] zvi (p_X12_touch a1 a2) := by
  refine z_enter (by decide) (Nat.le_of_ble_eq_true rfl) (fun E hE hl0 hcD hr => ?_)
  have hE : zok layM ad (xtM ad sa sv) E cX12_touch 3 RX12 1 := hE
  show Z layM ad E 3 (zFin layM ad E zvi) 0 [(0, .ref (ad 0)), (1, .int a1), (2, .int a2)] [] (p_X12_touch a1 a2)
  unfold p_X12_touch
  refine z_aload_n (pc := 0) hE 0 0 rfl rfl dX12_touch_0 ?_
  refine z_getr (pc := 1) hE fk_RX12_17 lM_0 rfl dX12_touch_1 ?_
  refine z_iload_n (pc := 4) hE 1 1 rfl rfl dX12_touch_4 ?_
  refine z_iald (pc := 5) hE lM_3 dX12_touch_5 (fun x1 => ?_)
  refine z_aload_n (pc := 6) hE 0 0 rfl rfl dX12_touch_6 ?_
  refine z_getr (pc := 7) hE fk_RX12_17 lM_0 rfl dX12_touch_7 ?_
  refine z_iload_n (pc := 10) hE 2 2 rfl rfl dX12_touch_10 ?_
  refine z_iald (pc := 11) hE lM_3 dX12_touch_11 (fun x2 => ?_)
  refine z_icmp_ne (pc := 12) hE 39 rfl dX12_touch_12 ?_ ?_
  · refine z_iconst (pc := 39) hE dX12_touch_39 qM_iconst_0 ?_
    exact z_zreturn (pc := 40) hE hr dX12_touch_40
  · refine z_aload_n (pc := 15) hE 0 0 rfl rfl dX12_touch_15 ?_
    refine z_getr (pc := 16) hE fk_RX12_13 lM_0 rfl dX12_touch_16 ?_
    refine z_iload_n (pc := 19) hE 1 1 rfl rfl dX12_touch_19 ?_
    refine z_iald (pc := 20) hE lM_2 dX12_touch_20 (fun x3 => ?_)
    refine z_aload_n (pc := 21) hE 0 0 rfl rfl dX12_touch_21 ?_
    refine z_getr (pc := 22) hE fk_RX12_13 lM_0 rfl dX12_touch_22 ?_
    refine z_iload_n (pc := 25) hE 2 2 rfl rfl dX12_touch_25 ?_
    refine z_iald (pc := 26) hE lM_2 dX12_touch_26 (fun x4 => ?_)
    refine z_isub (pc := 27) hE dX12_touch_27 ?_
    refine z_abs (pc := 28) hE kk_RX12_308 (Nat.le_of_ble_eq_true rfl) (by decide) dX12_touch_28 ?_
    refine z_iconst (pc := 31) hE dX12_touch_31 qM_iconst_1 ?_
    refine z_icmp_gt (pc := 32) hE 39 rfl dX12_touch_32 ?_ ?_
    · refine z_iconst (pc := 39) hE dX12_touch_39 qM_iconst_0 ?_
      exact z_zreturn (pc := 40) hE hr dX12_touch_40
    · refine z_iconst (pc := 35) hE dX12_touch_35 qM_iconst_1 ?_
      refine z_goto (pc := 36) hE 40 rfl dX12_touch_36 ?_
      exact z_zreturn (pc := 40) hE hr dX12_touch_40
set_option maxRecDepth 100000 in
set_option maxHeartbeats 4000000 in
theorem c_X12_comesDown {l : Launch} {ad : Nat → Nat} {ca : FieldType → ClassId} {D : va_G} {sa sv : Nat → Nat} (r : Nat) (hr0 : layM[r]? = some (.inr (.int, 43))) (a2 : Int32) : zC l yX12_comesDown cX12_comesDown 5 none 4 layM ad ca D (xtM ad sa sv) [.ref (ad 0), .ref (ad r), .int a2] zvn (p_X12_comesDown r a2) := by
  refine z_enter (by decide) (Nat.le_of_ble_eq_true rfl) (fun E hE hl0 hcD hr => ?_)
  have hE : zok layM ad (xtM ad sa sv) E cX12_comesDown 5 RX12 4 := hE
  show Z layM ad E 5 (zFin layM ad E zvn) 0 [(0, .ref (ad 0)), (1, .ref (ad r)), (2, .int a2)] [] (p_X12_comesDown r a2)
  unfold p_X12_comesDown
  refine z_bipush (pc := 0) hE dX12_comesDown_0 qM_bipush_7 ?_
  refine z_iload_n (pc := 2) hE 2 2 rfl rfl dX12_comesDown_2 ?_
  refine z_imul (pc := 3) hE dX12_comesDown_3 ?_
  refine z_istore_n (L' := [(3, .int (((7 : Int32)) * a2)), (0, .ref (ad 0)), (1, .ref (ad r)), (2, .int a2)]) (pc := 4) hE 3 rfl (by decide) rfl dX12_comesDown_4 ?_
  refine z_aload_n (pc := 5) hE 2 1 rfl rfl dX12_comesDown_5 ?_
  refine z_iload_n (pc := 6) hE 0 3 rfl rfl dX12_comesDown_6 ?_
  refine z_iconst (pc := 7) hE dX12_comesDown_7 qM_iconst_3 ?_
  refine z_iadd (pc := 8) hE dX12_comesDown_8 ?_
  refine z_iald (pc := 9) hE hr0 dX12_comesDown_9 (fun x1 => ?_)
  refine z_iconst (pc := 10) hE dX12_comesDown_10 qM_iconst_1 ?_
  refine z_join (Y := Int32) (pcJ := 28) (Lj := fun y2 => [(0, .ref (ad 0)), (1, .ref (ad r)), (2, .int a2), (3, .int (((7 : Int32)) * a2))]) (sj := fun y2 => [.int y2]) (fun y2 => ?_) (fun j3 hj3 => ?_)
  · refine z_istore (L' := [(4, .int y2), (0, .ref (ad 0)), (1, .ref (ad r)), (2, .int a2), (3, .int (((7 : Int32)) * a2))]) (pc := 28) hE (by decide) rfl dX12_comesDown_28 ?_
    refine z_iload (pc := 30) hE 0 rfl dX12_comesDown_30 ?_
    refine z_if_eq (pc := 32) hE 44 rfl dX12_comesDown_32 ?_ ?_
    · exact z_return (pc := 44) hE hr dX12_comesDown_44
    · refine z_aload_n (pc := 35) hE 1 0 rfl rfl dX12_comesDown_35 ?_
      refine z_aload_n (pc := 36) hE 2 1 rfl rfl dX12_comesDown_36 ?_
      refine z_iload_n (pc := 37) hE 3 2 rfl rfl dX12_comesDown_37 ?_
      refine z_callVi (pc := 38) (st := []) [.ref (ad r), .int a2] hE kk_RX12_261 (c_X12_liftOf r hr0 a2) lM_0 rfl rfl rfl (Nat.le_of_ble_eq_true rfl) (by decide) dX12_comesDown_38 (fun x4 => ?_)
      refine z_if_lt (pc := 41) hE 45 rfl dX12_comesDown_41 ?_ ?_
      · refine z_aload_n (pc := 45) hE 2 1 rfl rfl dX12_comesDown_45 ?_
        refine z_iload_n (pc := 46) hE 4 3 rfl rfl dX12_comesDown_46 ?_
        refine z_iconst (pc := 47) hE dX12_comesDown_47 qM_iconst_3 ?_
        refine z_iadd (pc := 48) hE dX12_comesDown_48 ?_
        refine z_iald (pc := 49) hE hr0 dX12_comesDown_49 (fun x5 => ?_)
        refine z_iconst (pc := 50) hE dX12_comesDown_50 qM_iconst_1 ?_
        refine z_join (Y := Unit) (pcJ := 70) (Lj := fun y6 => [(0, .ref (ad 0)), (1, .ref (ad r)), (2, .int a2), (3, .int (((7 : Int32)) * a2))]) (sj := fun y6 => []) (fun y6 => ?_) (fun j7 hj7 => ?_)
        · refine z_aload_n (pc := 70) hE 1 1 rfl rfl dX12_comesDown_70 ?_
          refine z_iload_n (pc := 71) hE 3 3 rfl rfl dX12_comesDown_71 ?_
          refine z_iconst (pc := 72) hE dX12_comesDown_72 qM_iconst_3 ?_
          refine z_iadd (pc := 73) hE dX12_comesDown_73 ?_
          refine z_iconst (pc := 74) hE dX12_comesDown_74 qM_iconst_0 ?_
          refine z_iast (pc := 75) hE hr0 dX12_comesDown_75 ?_
          refine z_aload_n (pc := 76) hE 0 0 rfl rfl dX12_comesDown_76 ?_
          refine z_dup (pc := 77) hE dX12_comesDown_77 rfl ?_
          refine z_geti (pc := 78) hE fk_RX12_320 lM_0 rfl dX12_comesDown_78 (fun x8 => ?_)
          refine z_iconst (pc := 81) hE dX12_comesDown_81 qM_iconst_1 ?_
          refine z_iload_n (pc := 82) hE 2 2 rfl rfl dX12_comesDown_82 ?_
          refine z_ishl (pc := 83) hE dX12_comesDown_83 ?_
          refine z_ior (pc := 84) hE dX12_comesDown_84 ?_
          refine z_puti (pc := 85) hE fk_RX12_320 lM_0 rfl dX12_comesDown_85 ?_
          refine z_aload_n (pc := 88) hE 0 0 rfl rfl dX12_comesDown_88 ?_
          refine z_dup (pc := 89) hE dX12_comesDown_89 rfl ?_
          refine z_geti (pc := 90) hE fk_RX12_326 lM_0 rfl dX12_comesDown_90 (fun x9 => ?_)
          refine z_iconst (pc := 93) hE dX12_comesDown_93 qM_iconst_1 ?_
          refine z_iadd (pc := 94) hE dX12_comesDown_94 ?_
          refine z_puti (pc := 95) hE fk_RX12_326 lM_0 rfl dX12_comesDown_95 ?_
          exact z_return (pc := 98) hE hr dX12_comesDown_98
        refine z_icmp_ne (pc := 51) hE 70 rfl dX12_comesDown_51 ?_ ?_
        · exact z_sub [1, 2, 3, 4] rfl (hj7 ())
        · refine z_aload_n (pc := 54) hE 2 1 rfl rfl dX12_comesDown_54 ?_
          refine z_iload_n (pc := 55) hE 3 2 rfl rfl dX12_comesDown_55 ?_
          refine z_callSi (pc := 56) (st := []) [.ref (ad r), .int a2] hE kk_RX12_311 (c_X12_apart r hr0 a2) rfl rfl (Nat.le_of_ble_eq_true rfl) (by decide) dX12_comesDown_56 (fun x10 => ?_)
          refine z_iconst (pc := 59) hE dX12_comesDown_59 qM_iconst_2 ?_
          refine z_icmp_le (pc := 60) hE 70 rfl dX12_comesDown_60 ?_ ?_
          · exact z_sub [1, 2, 3, 4] rfl (hj7 ())
          · refine z_aload_n (pc := 63) hE 1 0 rfl rfl dX12_comesDown_63 ?_
            refine z_aload_n (pc := 64) hE 2 1 rfl rfl dX12_comesDown_64 ?_
            refine z_iload_n (pc := 65) hE 3 2 rfl rfl dX12_comesDown_65 ?_
            refine z_callVv (pc := 66) (st := []) [.ref (ad r), .int a2] hE kk_RX12_340 (c_X12_isLost r hr0 a2) lM_0 rfl rfl rfl (Nat.le_of_ble_eq_true rfl) (by decide) dX12_comesDown_66 (fun x11 => ?_)
            exact z_return (pc := 69) hE hr dX12_comesDown_69
      · exact z_return (pc := 44) hE hr dX12_comesDown_44
  refine z_join (Y := Unit) (pcJ := 23) (Lj := fun y12 => [(0, .ref (ad 0)), (1, .ref (ad r)), (2, .int a2), (3, .int (((7 : Int32)) * a2))]) (sj := fun y12 => []) (fun y12 => ?_) (fun j13 hj13 => ?_)
  · refine z_iconst (pc := 23) hE dX12_comesDown_23 qM_iconst_1 ?_
    refine z_goto (pc := 24) hE 28 rfl dX12_comesDown_24 ?_
    exact z_sub [0, 1, 2, 3] rfl (hj3 ((1 : Int32)))
  refine z_icmp_eq (pc := 11) hE 23 rfl dX12_comesDown_11 ?_ ?_
  · exact z_sub [1, 2, 3, 0] rfl (hj13 ())
  · refine z_aload_n (pc := 14) hE 2 1 rfl rfl dX12_comesDown_14 ?_
    refine z_iload_n (pc := 15) hE 0 3 rfl rfl dX12_comesDown_15 ?_
    refine z_iconst (pc := 16) hE dX12_comesDown_16 qM_iconst_3 ?_
    refine z_iadd (pc := 17) hE dX12_comesDown_17 ?_
    refine z_iald (pc := 18) hE hr0 dX12_comesDown_18 (fun x14 => ?_)
    refine z_iconst (pc := 19) hE dX12_comesDown_19 qM_iconst_2 ?_
    refine z_icmp_ne (pc := 20) hE 27 rfl dX12_comesDown_20 ?_ ?_
    · refine z_iconst (pc := 27) hE dX12_comesDown_27 qM_iconst_0 ?_
      exact z_sub [1, 2, 3, 0] rfl (hj3 ((0 : Int32)))
    · exact z_sub [1, 2, 3, 0] rfl (hj13 ())
set_option maxRecDepth 100000 in
set_option maxHeartbeats 4000000 in
theorem c_X12_hourGoes {l : Launch} {ad : Nat → Nat} {ca : FieldType → ClassId} {D : va_G} {sa sv : Nat → Nat} (r : Nat) (hr0 : layM[r]? = some (.inr (.int, 43))) : zC l yX12_hourGoes cX12_hourGoes 7 none 5 layM ad ca D (xtM ad sa sv) [.ref (ad 0), .ref (ad r)] zvn (p_X12_hourGoes r) := by
  refine z_enter (by decide) (Nat.le_of_ble_eq_true rfl) (fun E hE hl0 hcD hr => ?_)
  have hE : zok layM ad (xtM ad sa sv) E cX12_hourGoes 7 RX12 5 := hE
  show Z layM ad E 7 (zFin layM ad E zvn) 0 [(0, .ref (ad 0)), (1, .ref (ad r))] [] (p_X12_hourGoes r)
  unfold p_X12_hourGoes
  refine z_iconst (pc := 0) hE dX12_hourGoes_0 qM_iconst_0 ?_
  refine z_istore_n (L' := [(2, .int ((0 : Int32))), (0, .ref (ad 0)), (1, .ref (ad r))]) (pc := 1) hE 2 rfl (by decide) rfl dX12_hourGoes_1 ?_
  refine z_sub (L' := [(0, .ref (ad 0)), (1, .ref (ad r)), (2, .int ((0 : Int32)))]) [1, 2, 0] rfl ?_
  refine z_loop (V := Int32) (X := Unit) (hd := 2) (ex := 49) (Lh := fun v1 => [(0, .ref (ad 0)), (1, .ref (ad r)), (2, .int v1)]) (Lx := fun e4 => [(0, .ref (ad 0)), (1, .ref (ad r))]) (fun rc3 k2 hrc3 hk2 v1 => ?_) zNF ((0 : Int32)) _ (fun e4 => ?_)
  · unfold p_X12_hourGoes_b2
    refine z_iload_n (pc := 2) hE 2 2 rfl rfl dX12_hourGoes_2 ?_
    refine z_aload_n (pc := 3) hE 0 0 rfl rfl dX12_hourGoes_3 ?_
    refine z_geti (pc := 4) hE fk_RX12_135 lM_0 rfl dX12_hourGoes_4 (fun x5 => ?_)
    refine z_icmp_ge (pc := 7) hE 49 rfl dX12_hourGoes_7 ?_ ?_
    · exact z_sub [0, 1] rfl (hk2 ())
    · refine z_aload_n (pc := 10) hE 1 1 rfl rfl dX12_hourGoes_10 ?_
      refine z_bipush (pc := 11) hE dX12_hourGoes_11 qM_bipush_7 ?_
      refine z_iload_n (pc := 13) hE 2 2 rfl rfl dX12_hourGoes_13 ?_
      refine z_imul (pc := 14) hE dX12_hourGoes_14 ?_
      refine z_iconst (pc := 15) hE dX12_hourGoes_15 qM_iconst_3 ?_
      refine z_iadd (pc := 16) hE dX12_hourGoes_16 ?_
      refine z_iald (pc := 17) hE hr0 dX12_hourGoes_17 (fun x6 => ?_)
      refine z_iconst (pc := 18) hE dX12_hourGoes_18 qM_iconst_1 ?_
      refine z_join (Y := Unit) (pcJ := 43) (Lj := fun y7 => [(0, .ref (ad 0)), (1, .ref (ad r)), (2, .int v1)]) (sj := fun y7 => []) (fun y7 => ?_) (fun j8 hj8 => ?_)
      · refine z_iinc (L' := [(2, .int (v1 + (1 : Int32))), (0, .ref (ad 0)), (1, .ref (ad r))]) (pc := 43) hE 2 rfl (zinc qM_iconst_1) (by decide) rfl dX12_hourGoes_43 ?_
        refine z_goto (pc := 46) hE 2 rfl dX12_hourGoes_46 ?_
        exact z_sub [1, 2, 0] rfl (hrc3 (v1 + (1 : Int32)))
      refine z_icmp_ne (pc := 19) hE 43 rfl dX12_hourGoes_19 ?_ ?_
      · exact z_sub [0, 1, 2] rfl (hj8 ())
      · refine z_aload_n (pc := 22) hE 0 0 rfl rfl dX12_hourGoes_22 ?_
        refine z_aload_n (pc := 23) hE 1 1 rfl rfl dX12_hourGoes_23 ?_
        refine z_iload_n (pc := 24) hE 2 2 rfl rfl dX12_hourGoes_24 ?_
        refine z_aload_n (pc := 25) hE 0 0 rfl rfl dX12_hourGoes_25 ?_
        refine z_aload_n (pc := 26) hE 1 1 rfl rfl dX12_hourGoes_26 ?_
        refine z_iload_n (pc := 27) hE 2 2 rfl rfl dX12_hourGoes_27 ?_
        refine z_callVi (pc := 28) (st := [.int v1, .ref (ad r), .ref (ad 0)]) [.ref (ad r), .int v1] hE kk_RX12_290 (c_X12_highOf r hr0 v1) lM_0 rfl rfl rfl (Nat.le_of_ble_eq_true rfl) (by decide) dX12_hourGoes_28 (fun x9 => ?_)
        refine z_callVi (pc := 31) (st := []) [.ref (ad r), .int v1, .int x9] hE kk_RX12_343 (c_X12_blows r hr0 v1 x9) lM_0 rfl rfl rfl (Nat.le_of_ble_eq_true rfl) (by decide) dX12_hourGoes_31 (fun x10 => ?_)
        refine z_if_ne (pc := 34) hE 43 rfl dX12_hourGoes_34 ?_ ?_
        · exact z_sub [0, 1, 2] rfl (hj8 ())
        · refine z_aload_n (pc := 37) hE 0 0 rfl rfl dX12_hourGoes_37 ?_
          refine z_aload_n (pc := 38) hE 1 1 rfl rfl dX12_hourGoes_38 ?_
          refine z_iload_n (pc := 39) hE 2 2 rfl rfl dX12_hourGoes_39 ?_
          refine z_callVv (pc := 40) (st := []) [.ref (ad r), .int v1] hE kk_RX12_340 (c_X12_isLost r hr0 v1) lM_0 rfl rfl rfl (Nat.le_of_ble_eq_true rfl) (by decide) dX12_hourGoes_40 (fun x11 => ?_)
          exact z_sub [0, 1, 2] rfl (hj8 ())
  · refine z_iconst (pc := 49) hE dX12_hourGoes_49 qM_iconst_0 ?_
    refine z_istore_n (L' := [(2, .int ((0 : Int32))), (0, .ref (ad 0)), (1, .ref (ad r))]) (pc := 50) hE 2 rfl (by decide) rfl dX12_hourGoes_50 ?_
    refine z_sub (L' := [(0, .ref (ad 0)), (1, .ref (ad r)), (2, .int ((0 : Int32)))]) [1, 2, 0] rfl ?_
    refine z_loop (V := Int32) (X := Unit) (hd := 51) (ex := 232) (Lh := fun v12 => [(0, .ref (ad 0)), (1, .ref (ad r)), (2, .int v12)]) (Lx := fun e15 => [(0, .ref (ad 0)), (1, .ref (ad r))]) (fun rc14 k13 hrc14 hk13 v12 => ?_) zNF ((0 : Int32)) _ (fun e15 => ?_)
    · unfold p_X12_hourGoes_b51
      refine z_iload_n (pc := 51) hE 2 2 rfl rfl dX12_hourGoes_51 ?_
      refine z_aload_n (pc := 52) hE 0 0 rfl rfl dX12_hourGoes_52 ?_
      refine z_geti (pc := 53) hE fk_RX12_135 lM_0 rfl dX12_hourGoes_53 (fun x16 => ?_)
      refine z_icmp_ge (pc := 56) hE 232 rfl dX12_hourGoes_56 ?_ ?_
      · exact z_sub [0, 1] rfl (hk13 ())
      · refine z_bipush (pc := 59) hE dX12_hourGoes_59 qM_bipush_7 ?_
        refine z_iload_n (pc := 61) hE 2 2 rfl rfl dX12_hourGoes_61 ?_
        refine z_imul (pc := 62) hE dX12_hourGoes_62 ?_
        refine z_istore_n (L' := [(3, .int (((7 : Int32)) * v12)), (0, .ref (ad 0)), (1, .ref (ad r)), (2, .int v12)]) (pc := 63) hE 3 rfl (by decide) rfl dX12_hourGoes_63 ?_
        refine z_aload_n (pc := 64) hE 2 1 rfl rfl dX12_hourGoes_64 ?_
        refine z_iload_n (pc := 65) hE 0 3 rfl rfl dX12_hourGoes_65 ?_
        refine z_iconst (pc := 66) hE dX12_hourGoes_66 qM_iconst_3 ?_
        refine z_iadd (pc := 67) hE dX12_hourGoes_67 ?_
        refine z_iald (pc := 68) hE hr0 dX12_hourGoes_68 (fun x17 => ?_)
        refine z_iconst (pc := 69) hE dX12_hourGoes_69 qM_iconst_1 ?_
        refine z_join (Y := Int32) (pcJ := 87) (Lj := fun y18 => [(0, .ref (ad 0)), (1, .ref (ad r)), (2, .int v12), (3, .int (((7 : Int32)) * v12))]) (sj := fun y18 => [.int y18]) (fun y18 => ?_) (fun j19 hj19 => ?_)
        · refine z_istore (L' := [(4, .int y18), (0, .ref (ad 0)), (1, .ref (ad r)), (2, .int v12), (3, .int (((7 : Int32)) * v12))]) (pc := 87) hE (by decide) rfl dX12_hourGoes_87 ?_
          refine z_aload_n (pc := 89) hE 2 1 rfl rfl dX12_hourGoes_89 ?_
          refine z_iload_n (pc := 90) hE 4 3 rfl rfl dX12_hourGoes_90 ?_
          refine z_iconst (pc := 91) hE dX12_hourGoes_91 qM_iconst_0 ?_
          refine z_iadd (pc := 92) hE dX12_hourGoes_92 ?_
          refine z_iload (pc := 93) hE 0 rfl dX12_hourGoes_93 ?_
          refine z_join (Y := Int32) (pcJ := 122) (Lj := fun y20 => [(0, .ref (ad 0)), (1, .ref (ad r)), (2, .int v12), (3, .int (((7 : Int32)) * v12))]) (sj := fun y20 => [.int y20, .int ((((7 : Int32)) * v12) + ((0 : Int32))), .ref (ad r)]) (fun y20 => ?_) (fun j21 hj21 => ?_)
          · refine z_iast (pc := 122) hE hr0 dX12_hourGoes_122 ?_
            refine z_aload_n (pc := 123) hE 0 0 rfl rfl dX12_hourGoes_123 ?_
            refine z_getr (pc := 124) hE fk_RX12_59 lM_0 rfl dX12_hourGoes_124 ?_
            refine z_iload_n (pc := 127) hE 2 2 rfl rfl dX12_hourGoes_127 ?_
            refine z_iconst (pc := 128) hE dX12_hourGoes_128 qM_iconst_0 ?_
            refine z_iast (pc := 129) hE lM_17 dX12_hourGoes_129 ?_
            refine z_iconst (pc := 130) hE dX12_hourGoes_130 qM_iconst_0 ?_
            refine z_istore (L' := [(5, .int ((0 : Int32))), (0, .ref (ad 0)), (1, .ref (ad r)), (2, .int v12), (3, .int (((7 : Int32)) * v12))]) (pc := 131) hE (by decide) rfl dX12_hourGoes_131 ?_
            refine z_sub (L' := [(0, .ref (ad 0)), (1, .ref (ad r)), (2, .int v12), (3, .int (((7 : Int32)) * v12)), (5, .int ((0 : Int32)))]) [1, 2, 3, 4, 0] rfl ?_
            refine z_loop (V := Int32) (X := Unit) (hd := 133) (ex := 226) (Lh := fun v22 => [(0, .ref (ad 0)), (1, .ref (ad r)), (2, .int v12), (3, .int (((7 : Int32)) * v12)), (5, .int v22)]) (Lx := fun e25 => [(0, .ref (ad 0)), (1, .ref (ad r)), (2, .int v12)]) (fun rc24 k23 hrc24 hk23 v22 => ?_) zNF ((0 : Int32)) _ (fun e25 => ?_)
            · unfold p_X12_hourGoes_b133
              refine z_iload (pc := 133) hE 4 rfl dX12_hourGoes_133 ?_
              refine z_aload_n (pc := 135) hE 0 0 rfl rfl dX12_hourGoes_135 ?_
              refine z_geti (pc := 136) hE fk_RX12_135 lM_0 rfl dX12_hourGoes_136 (fun x26 => ?_)
              refine z_icmp_ge (pc := 139) hE 226 rfl dX12_hourGoes_139 ?_ ?_
              · exact z_sub [0, 1, 2] rfl (hk23 ())
              · refine z_iload (pc := 142) hE 4 rfl dX12_hourGoes_142 ?_
                refine z_iload_n (pc := 144) hE 2 2 rfl rfl dX12_hourGoes_144 ?_
                refine z_join (Y := Int32) (pcJ := 175) (Lj := fun y27 => [(0, .ref (ad 0)), (1, .ref (ad r)), (2, .int v12), (3, .int (((7 : Int32)) * v12)), (5, .int v22)]) (sj := fun y27 => [.int y27]) (fun y27 => ?_) (fun j28 hj28 => ?_)
                · refine z_istore (L' := [(6, .int y27), (0, .ref (ad 0)), (1, .ref (ad r)), (2, .int v12), (3, .int (((7 : Int32)) * v12)), (5, .int v22)]) (pc := 175) hE (by decide) rfl dX12_hourGoes_175 ?_
                  refine z_aload_n (pc := 177) hE 1 0 rfl rfl dX12_hourGoes_177 ?_
                  refine z_getr (pc := 178) hE fk_RX12_59 lM_0 rfl dX12_hourGoes_178 ?_
                  refine z_iload_n (pc := 181) hE 3 2 rfl rfl dX12_hourGoes_181 ?_
                  refine z_dup2 (pc := 182) hE dX12_hourGoes_182 rfl rfl ?_
                  refine z_iald (pc := 183) hE lM_17 dX12_hourGoes_183 (fun x29 => ?_)
                  refine z_iload (pc := 184) hE 0 rfl dX12_hourGoes_184 ?_
                  refine z_join (Y := Int32) (pcJ := 215) (Lj := fun y30 => [(0, .ref (ad 0)), (1, .ref (ad r)), (2, .int v12), (3, .int (((7 : Int32)) * v12)), (5, .int v22)]) (sj := fun y30 => [.int y30, .int x29, .int v12, .ref (ad 17)]) (fun y30 => ?_) (fun j31 hj31 => ?_)
                  · refine z_callSi (pc := 215) (st := [.int x29, .int v12, .ref (ad 17)]) [.int y30] hE kk_RX12_156 (c_X12_flag y30) rfl rfl (Nat.le_of_ble_eq_true rfl) (by decide) dX12_hourGoes_215 (fun x32 => ?_)
                    refine z_iadd (pc := 218) hE dX12_hourGoes_218 ?_
                    refine z_iast (pc := 219) hE lM_17 dX12_hourGoes_219 ?_
                    refine z_iinc (L' := [(5, .int (v22 + (1 : Int32))), (0, .ref (ad 0)), (1, .ref (ad r)), (2, .int v12), (3, .int (((7 : Int32)) * v12))]) (pc := 220) hE 4 rfl (zinc qM_iconst_1) (by decide) rfl dX12_hourGoes_220 ?_
                    refine z_goto (pc := 223) hE 133 rfl dX12_hourGoes_223 ?_
                    exact z_sub [1, 2, 3, 4, 0] rfl (hrc24 (v22 + (1 : Int32)))
                  refine z_join (Y := Unit) (pcJ := 214) (Lj := fun y33 => [(0, .ref (ad 0)), (1, .ref (ad r)), (2, .int v12), (3, .int (((7 : Int32)) * v12)), (5, .int v22)]) (sj := fun y33 => [.int x29, .int v12, .ref (ad 17)]) (fun y33 => ?_) (fun j34 hj34 => ?_)
                  · refine z_iconst (pc := 214) hE dX12_hourGoes_214 qM_iconst_0 ?_
                    exact z_sub [0, 1, 2, 3, 4] rfl (hj31 ((0 : Int32)))
                  refine z_if_eq (pc := 186) hE 214 rfl dX12_hourGoes_186 ?_ ?_
                  · exact z_sub [1, 2, 3, 4, 5] rfl (hj34 ())
                  · refine z_aload_n (pc := 189) hE 1 0 rfl rfl dX12_hourGoes_189 ?_
                    refine z_aload_n (pc := 190) hE 2 1 rfl rfl dX12_hourGoes_190 ?_
                    refine z_iload_n (pc := 191) hE 4 3 rfl rfl dX12_hourGoes_191 ?_
                    refine z_iconst (pc := 192) hE dX12_hourGoes_192 qM_iconst_4 ?_
                    refine z_iadd (pc := 193) hE dX12_hourGoes_193 ?_
                    refine z_iald (pc := 194) hE hr0 dX12_hourGoes_194 (fun x35 => ?_)
                    refine z_aload_n (pc := 195) hE 2 1 rfl rfl dX12_hourGoes_195 ?_
                    refine z_bipush (pc := 196) hE dX12_hourGoes_196 qM_bipush_7 ?_
                    refine z_iload (pc := 198) hE 5 rfl dX12_hourGoes_198 ?_
                    refine z_imul (pc := 200) hE dX12_hourGoes_200 ?_
                    refine z_iconst (pc := 201) hE dX12_hourGoes_201 qM_iconst_4 ?_
                    refine z_iadd (pc := 202) hE dX12_hourGoes_202 ?_
                    refine z_iald (pc := 203) hE hr0 dX12_hourGoes_203 (fun x36 => ?_)
                    refine z_callVi (pc := 204) (st := [.int x29, .int v12, .ref (ad 17)]) [.int x35, .int x36] hE kk_RX12_346 (c_X12_touch x35 x36) lM_0 rfl rfl rfl (Nat.le_of_ble_eq_true rfl) (by decide) dX12_hourGoes_204 (fun x37 => ?_)
                    refine z_if_eq (pc := 207) hE 214 rfl dX12_hourGoes_207 ?_ ?_
                    · exact z_sub [1, 2, 3, 4, 5] rfl (hj34 ())
                    · refine z_iconst (pc := 210) hE dX12_hourGoes_210 qM_iconst_1 ?_
                      refine z_goto (pc := 211) hE 215 rfl dX12_hourGoes_211 ?_
                      exact z_sub [1, 2, 3, 4, 5] rfl (hj31 ((1 : Int32)))
                refine z_join (Y := Unit) (pcJ := 174) (Lj := fun y38 => [(0, .ref (ad 0)), (1, .ref (ad r)), (2, .int v12), (3, .int (((7 : Int32)) * v12)), (5, .int v22)]) (sj := fun y38 => []) (fun y38 => ?_) (fun j39 hj39 => ?_)
                · refine z_iconst (pc := 174) hE dX12_hourGoes_174 qM_iconst_0 ?_
                  exact z_sub [0, 1, 2, 3, 4] rfl (hj28 ((0 : Int32)))
                refine z_icmp_eq (pc := 145) hE 174 rfl dX12_hourGoes_145 ?_ ?_
                · exact z_sub [0, 1, 2, 3, 4] rfl (hj39 ())
                · refine z_aload_n (pc := 148) hE 1 1 rfl rfl dX12_hourGoes_148 ?_
                  refine z_iload_n (pc := 149) hE 3 3 rfl rfl dX12_hourGoes_149 ?_
                  refine z_iconst (pc := 150) hE dX12_hourGoes_150 qM_iconst_3 ?_
                  refine z_iadd (pc := 151) hE dX12_hourGoes_151 ?_
                  refine z_iald (pc := 152) hE hr0 dX12_hourGoes_152 (fun x40 => ?_)
                  refine z_iconst (pc := 153) hE dX12_hourGoes_153 qM_iconst_2 ?_
                  refine z_icmp_ne (pc := 154) hE 174 rfl dX12_hourGoes_154 ?_ ?_
                  · exact z_sub [0, 1, 2, 3, 4] rfl (hj39 ())
                  · refine z_aload_n (pc := 157) hE 1 1 rfl rfl dX12_hourGoes_157 ?_
                    refine z_bipush (pc := 158) hE dX12_hourGoes_158 qM_bipush_7 ?_
                    refine z_iload (pc := 160) hE 4 rfl dX12_hourGoes_160 ?_
                    refine z_imul (pc := 162) hE dX12_hourGoes_162 ?_
                    refine z_iconst (pc := 163) hE dX12_hourGoes_163 qM_iconst_3 ?_
                    refine z_iadd (pc := 164) hE dX12_hourGoes_164 ?_
                    refine z_iald (pc := 165) hE hr0 dX12_hourGoes_165 (fun x41 => ?_)
                    refine z_iconst (pc := 166) hE dX12_hourGoes_166 qM_iconst_2 ?_
                    refine z_icmp_ne (pc := 167) hE 174 rfl dX12_hourGoes_167 ?_ ?_
                    · exact z_sub [0, 1, 2, 3, 4] rfl (hj39 ())
                    · refine z_iconst (pc := 170) hE dX12_hourGoes_170 qM_iconst_1 ?_
                      refine z_goto (pc := 171) hE 175 rfl dX12_hourGoes_171 ?_
                      exact z_sub [0, 1, 2, 3, 4] rfl (hj28 ((1 : Int32)))
            · refine z_iinc (L' := [(2, .int (v12 + (1 : Int32))), (0, .ref (ad 0)), (1, .ref (ad r))]) (pc := 226) hE 2 rfl (zinc qM_iconst_1) (by decide) rfl dX12_hourGoes_226 ?_
              refine z_goto (pc := 229) hE 51 rfl dX12_hourGoes_229 ?_
              exact z_sub [1, 2, 0] rfl (hrc14 (v12 + (1 : Int32)))
          refine z_if_eq (pc := 95) hE 117 rfl dX12_hourGoes_95 ?_ ?_
          · refine z_aload_n (pc := 117) hE 2 1 rfl rfl dX12_hourGoes_117 ?_
            refine z_iload_n (pc := 118) hE 4 3 rfl rfl dX12_hourGoes_118 ?_
            refine z_iconst (pc := 119) hE dX12_hourGoes_119 qM_iconst_0 ?_
            refine z_iadd (pc := 120) hE dX12_hourGoes_120 ?_
            refine z_iald (pc := 121) hE hr0 dX12_hourGoes_121 (fun x42 => ?_)
            exact z_sub [1, 2, 3, 4] rfl (hj21 x42)
          · refine z_iconst (pc := 98) hE dX12_hourGoes_98 qM_iconst_0 ?_
            refine z_aload_n (pc := 99) hE 2 1 rfl rfl dX12_hourGoes_99 ?_
            refine z_iload_n (pc := 100) hE 4 3 rfl rfl dX12_hourGoes_100 ?_
            refine z_iconst (pc := 101) hE dX12_hourGoes_101 qM_iconst_0 ?_
            refine z_iadd (pc := 102) hE dX12_hourGoes_102 ?_
            refine z_iald (pc := 103) hE hr0 dX12_hourGoes_103 (fun x43 => ?_)
            refine z_aload_n (pc := 104) hE 1 0 rfl rfl dX12_hourGoes_104 ?_
            refine z_getr (pc := 105) hE fk_RX12_23 lM_0 rfl dX12_hourGoes_105 ?_
            refine z_iload_n (pc := 108) hE 3 2 rfl rfl dX12_hourGoes_108 ?_
            refine z_iald (pc := 109) hE lM_5 dX12_hourGoes_109 (fun x44 => ?_)
            refine z_isub (pc := 110) hE dX12_hourGoes_110 ?_
            refine z_max (pc := 111) hE kk_RX12_265 (Nat.le_of_ble_eq_true rfl) (by decide) dX12_hourGoes_111 ?_
            refine z_goto (pc := 114) hE 122 rfl dX12_hourGoes_114 ?_
            exact z_sub [1, 2, 3, 4] rfl (hj21 (zmx ((0 : Int32)) (x43 - x44)))
        refine z_join (Y := Unit) (pcJ := 82) (Lj := fun y45 => [(0, .ref (ad 0)), (1, .ref (ad r)), (2, .int v12), (3, .int (((7 : Int32)) * v12))]) (sj := fun y45 => []) (fun y45 => ?_) (fun j46 hj46 => ?_)
        · refine z_iconst (pc := 82) hE dX12_hourGoes_82 qM_iconst_1 ?_
          refine z_goto (pc := 83) hE 87 rfl dX12_hourGoes_83 ?_
          exact z_sub [0, 1, 2, 3] rfl (hj19 ((1 : Int32)))
        refine z_icmp_eq (pc := 70) hE 82 rfl dX12_hourGoes_70 ?_ ?_
        · exact z_sub [1, 2, 3, 0] rfl (hj46 ())
        · refine z_aload_n (pc := 73) hE 2 1 rfl rfl dX12_hourGoes_73 ?_
          refine z_iload_n (pc := 74) hE 0 3 rfl rfl dX12_hourGoes_74 ?_
          refine z_iconst (pc := 75) hE dX12_hourGoes_75 qM_iconst_3 ?_
          refine z_iadd (pc := 76) hE dX12_hourGoes_76 ?_
          refine z_iald (pc := 77) hE hr0 dX12_hourGoes_77 (fun x47 => ?_)
          refine z_iconst (pc := 78) hE dX12_hourGoes_78 qM_iconst_2 ?_
          refine z_icmp_ne (pc := 79) hE 86 rfl dX12_hourGoes_79 ?_ ?_
          · refine z_iconst (pc := 86) hE dX12_hourGoes_86 qM_iconst_0 ?_
            exact z_sub [1, 2, 3, 0] rfl (hj19 ((0 : Int32)))
          · exact z_sub [1, 2, 3, 0] rfl (hj46 ())
    · refine z_iconst (pc := 232) hE dX12_hourGoes_232 qM_iconst_0 ?_
      refine z_istore_n (L' := [(2, .int ((0 : Int32))), (0, .ref (ad 0)), (1, .ref (ad r))]) (pc := 233) hE 2 rfl (by decide) rfl dX12_hourGoes_233 ?_
      refine z_sub (L' := [(0, .ref (ad 0)), (1, .ref (ad r)), (2, .int ((0 : Int32)))]) [1, 2, 0] rfl ?_
      refine z_loop (V := Int32) (X := Unit) (hd := 234) (ex := 275) (Lh := fun v48 => [(0, .ref (ad 0)), (1, .ref (ad r)), (2, .int v48)]) (Lx := fun e51 => [(0, .ref (ad 0)), (1, .ref (ad r))]) (fun rc50 k49 hrc50 hk49 v48 => ?_) zNF ((0 : Int32)) _ (fun e51 => ?_)
      · unfold p_X12_hourGoes_b234
        refine z_iload_n (pc := 234) hE 2 2 rfl rfl dX12_hourGoes_234 ?_
        refine z_aload_n (pc := 235) hE 0 0 rfl rfl dX12_hourGoes_235 ?_
        refine z_geti (pc := 236) hE fk_RX12_135 lM_0 rfl dX12_hourGoes_236 (fun x52 => ?_)
        refine z_icmp_ge (pc := 239) hE 275 rfl dX12_hourGoes_239 ?_ ?_
        · exact z_sub [0, 1] rfl (hk49 ())
        · refine z_aload_n (pc := 242) hE 1 1 rfl rfl dX12_hourGoes_242 ?_
          refine z_bipush (pc := 243) hE dX12_hourGoes_243 qM_bipush_7 ?_
          refine z_iload_n (pc := 245) hE 2 2 rfl rfl dX12_hourGoes_245 ?_
          refine z_imul (pc := 246) hE dX12_hourGoes_246 ?_
          refine z_iconst (pc := 247) hE dX12_hourGoes_247 qM_iconst_0 ?_
          refine z_iadd (pc := 248) hE dX12_hourGoes_248 ?_
          refine z_iconst (pc := 249) hE dX12_hourGoes_249 qM_iconst_0 ?_
          refine z_aload_n (pc := 250) hE 1 1 rfl rfl dX12_hourGoes_250 ?_
          refine z_bipush (pc := 251) hE dX12_hourGoes_251 qM_bipush_7 ?_
          refine z_iload_n (pc := 253) hE 2 2 rfl rfl dX12_hourGoes_253 ?_
          refine z_imul (pc := 254) hE dX12_hourGoes_254 ?_
          refine z_iconst (pc := 255) hE dX12_hourGoes_255 qM_iconst_0 ?_
          refine z_iadd (pc := 256) hE dX12_hourGoes_256 ?_
          refine z_iald (pc := 257) hE hr0 dX12_hourGoes_257 (fun x53 => ?_)
          refine z_aload_n (pc := 258) hE 0 0 rfl rfl dX12_hourGoes_258 ?_
          refine z_getr (pc := 259) hE fk_RX12_59 lM_0 rfl dX12_hourGoes_259 ?_
          refine z_iload_n (pc := 262) hE 2 2 rfl rfl dX12_hourGoes_262 ?_
          refine z_iald (pc := 263) hE lM_17 dX12_hourGoes_263 (fun x54 => ?_)
          refine z_isub (pc := 264) hE dX12_hourGoes_264 ?_
          refine z_max (pc := 265) hE kk_RX12_265 (Nat.le_of_ble_eq_true rfl) (by decide) dX12_hourGoes_265 ?_
          refine z_iast (pc := 268) hE hr0 dX12_hourGoes_268 ?_
          refine z_iinc (L' := [(2, .int (v48 + (1 : Int32))), (0, .ref (ad 0)), (1, .ref (ad r))]) (pc := 269) hE 2 rfl (zinc qM_iconst_1) (by decide) rfl dX12_hourGoes_269 ?_
          refine z_goto (pc := 272) hE 234 rfl dX12_hourGoes_272 ?_
          exact z_sub [1, 2, 0] rfl (hrc50 (v48 + (1 : Int32)))
      · refine z_aload_n (pc := 275) hE 1 1 rfl rfl dX12_hourGoes_275 ?_
        refine z_bipush (pc := 276) hE dX12_hourGoes_276 qM_bipush_42 ?_
        refine z_dup2 (pc := 278) hE dX12_hourGoes_278 rfl rfl ?_
        refine z_iald (pc := 279) hE hr0 dX12_hourGoes_279 (fun x55 => ?_)
        refine z_iconst (pc := 280) hE dX12_hourGoes_280 qM_iconst_1 ?_
        refine z_iadd (pc := 281) hE dX12_hourGoes_281 ?_
        refine z_iast (pc := 282) hE hr0 dX12_hourGoes_282 ?_
        refine z_iconst (pc := 283) hE dX12_hourGoes_283 qM_iconst_0 ?_
        refine z_istore_n (L' := [(2, .int ((0 : Int32))), (0, .ref (ad 0)), (1, .ref (ad r))]) (pc := 284) hE 2 rfl (by decide) rfl dX12_hourGoes_284 ?_
        refine z_sub (L' := [(0, .ref (ad 0)), (1, .ref (ad r)), (2, .int ((0 : Int32)))]) [1, 2, 0] rfl ?_
        refine z_loop (V := Int32) (X := Unit) (hd := 285) (ex := 305) (Lh := fun v56 => [(0, .ref (ad 0)), (1, .ref (ad r)), (2, .int v56)]) (Lx := fun e59 => []) (fun rc58 k57 hrc58 hk57 v56 => ?_) zNF ((0 : Int32)) _ (fun e59 => ?_)
        · unfold p_X12_hourGoes_b285
          refine z_iload_n (pc := 285) hE 2 2 rfl rfl dX12_hourGoes_285 ?_
          refine z_aload_n (pc := 286) hE 0 0 rfl rfl dX12_hourGoes_286 ?_
          refine z_geti (pc := 287) hE fk_RX12_135 lM_0 rfl dX12_hourGoes_287 (fun x60 => ?_)
          refine z_icmp_ge (pc := 290) hE 305 rfl dX12_hourGoes_290 ?_ ?_
          · exact z_sub [] rfl (hk57 ())
          · refine z_aload_n (pc := 293) hE 0 0 rfl rfl dX12_hourGoes_293 ?_
            refine z_aload_n (pc := 294) hE 1 1 rfl rfl dX12_hourGoes_294 ?_
            refine z_iload_n (pc := 295) hE 2 2 rfl rfl dX12_hourGoes_295 ?_
            refine z_callVv (pc := 296) (st := []) [.ref (ad r), .int v56] hE kk_RX12_350 (c_X12_comesDown r hr0 v56) lM_0 rfl rfl rfl (Nat.le_of_ble_eq_true rfl) (by decide) dX12_hourGoes_296 (fun x61 => ?_)
            refine z_iinc (L' := [(2, .int (v56 + (1 : Int32))), (0, .ref (ad 0)), (1, .ref (ad r))]) (pc := 299) hE 2 rfl (zinc qM_iconst_1) (by decide) rfl dX12_hourGoes_299 ?_
            refine z_goto (pc := 302) hE 285 rfl dX12_hourGoes_302 ?_
            exact z_sub [1, 2, 0] rfl (hrc58 (v56 + (1 : Int32)))
        · exact z_return (pc := 305) hE hr dX12_hourGoes_305
set_option maxRecDepth 100000 in
set_option maxHeartbeats 4000000 in
theorem c_X12_launch {l : Launch} {ad : Nat → Nat} {ca : FieldType → ClassId} {D : va_G} {sa sv : Nat → Nat} (a1 : Int32) : zC l yX12_launch cX12_launch 2 (some .int) 6 layM ad ca D (xtM ad sa sv) [.ref (ad 0), .int a1] zvi (p_X12_launch a1) := by
  refine z_enter (by decide) (Nat.le_of_ble_eq_true rfl) (fun E hE hl0 hcD hr => ?_)
  have hE : zok layM ad (xtM ad sa sv) E cX12_launch 2 RX12 6 := hE
  show Z layM ad E 2 (zFin layM ad E zvi) 0 [(0, .ref (ad 0)), (1, .int a1)] [] (p_X12_launch a1)
  unfold p_X12_launch
  refine z_aload_n (pc := 0) hE 0 0 rfl rfl dX12_launch_0 ?_
  refine z_iconst (pc := 1) hE dX12_launch_1 qM_iconst_0 ?_
  refine z_puti (pc := 2) hE fk_RX12_117 lM_0 rfl dX12_launch_2 ?_
  refine z_aload_n (pc := 5) hE 0 0 rfl rfl dX12_launch_5 ?_
  refine z_callVv (pc := 6) (st := []) [] hE kk_RX12_353 (c_X12_putsBy) lM_0 rfl rfl rfl (Nat.le_of_ble_eq_true rfl) (by decide) dX12_launch_6 (fun x1 => ?_)
  refine z_aload_n (pc := 9) hE 0 0 rfl rfl dX12_launch_9 ?_
  refine z_aload_n (pc := 10) hE 0 0 rfl rfl dX12_launch_10 ?_
  refine z_aload_n (pc := 11) hE 0 0 rfl rfl dX12_launch_11 ?_
  refine z_getr (pc := 12) hE fk_RX12_32 lM_0 rfl dX12_launch_12 ?_
  refine z_iload_n (pc := 15) hE 1 1 rfl rfl dX12_launch_15 ?_
  refine z_callVi (pc := 16) (st := [.ref (ad 0)]) [.ref (ad 8), .int a1] hE kk_RX12_356 (c_X12_launches 8 lM_8 a1) lM_0 rfl rfl rfl (Nat.le_of_ble_eq_true rfl) (by decide) dX12_launch_16 (fun x2 => ?_)
  refine z_callVi (pc := 19) (st := []) [.int x2] hE kk_RX12_359 (c_X12_counts x2) lM_0 rfl rfl rfl (Nat.le_of_ble_eq_true rfl) (by decide) dX12_launch_19 (fun x3 => ?_)
  exact z_ireturn (pc := 22) hE hr dX12_launch_22
set_option maxRecDepth 100000 in
set_option maxHeartbeats 4000000 in
theorem c_X12_moor {l : Launch} {ad : Nat → Nat} {ca : FieldType → ClassId} {D : va_G} {sa sv : Nat → Nat} (a1 : Int32) (a2 : Int32) : zC l yX12_moor cX12_moor 3 (some .int) 7 layM ad ca D (xtM ad sa sv) [.ref (ad 0), .int a1, .int a2] zvi (p_X12_moor a1 a2) := by
  refine z_enter (by decide) (Nat.le_of_ble_eq_true rfl) (fun E hE hl0 hcD hr => ?_)
  have hE : zok layM ad (xtM ad sa sv) E cX12_moor 3 RX12 7 := hE
  show Z layM ad E 3 (zFin layM ad E zvi) 0 [(0, .ref (ad 0)), (1, .int a1), (2, .int a2)] [] (p_X12_moor a1 a2)
  unfold p_X12_moor
  refine z_aload_n (pc := 0) hE 0 0 rfl rfl dX12_moor_0 ?_
  refine z_iconst (pc := 1) hE dX12_moor_1 qM_iconst_0 ?_
  refine z_puti (pc := 2) hE fk_RX12_117 lM_0 rfl dX12_moor_2 ?_
  refine z_aload_n (pc := 5) hE 0 0 rfl rfl dX12_moor_5 ?_
  refine z_callVv (pc := 6) (st := []) [] hE kk_RX12_353 (c_X12_putsBy) lM_0 rfl rfl rfl (Nat.le_of_ble_eq_true rfl) (by decide) dX12_moor_6 (fun x1 => ?_)
  refine z_aload_n (pc := 9) hE 0 0 rfl rfl dX12_moor_9 ?_
  refine z_aload_n (pc := 10) hE 0 0 rfl rfl dX12_moor_10 ?_
  refine z_iload_n (pc := 11) hE 1 1 rfl rfl dX12_moor_11 ?_
  refine z_iload_n (pc := 12) hE 2 2 rfl rfl dX12_moor_12 ?_
  refine z_callVi (pc := 13) (st := [.ref (ad 0)]) [.int a1, .int a2] hE kk_RX12_362 (c_X12_moors a1 a2) lM_0 rfl rfl rfl (Nat.le_of_ble_eq_true rfl) (by decide) dX12_moor_13 (fun x2 => ?_)
  refine z_callVi (pc := 16) (st := []) [.int x2] hE kk_RX12_359 (c_X12_counts x2) lM_0 rfl rfl rfl (Nat.le_of_ble_eq_true rfl) (by decide) dX12_moor_16 (fun x3 => ?_)
  exact z_ireturn (pc := 19) hE hr dX12_moor_19
set_option maxRecDepth 100000 in
set_option maxHeartbeats 4000000 in
theorem c_X12_cast {l : Launch} {ad : Nat → Nat} {ca : FieldType → ClassId} {D : va_G} {sa sv : Nat → Nat} (a1 : Int32) : zC l yX12_cast cX12_cast 2 (some .int) 3 layM ad ca D (xtM ad sa sv) [.ref (ad 0), .int a1] zvi (p_X12_cast a1) := by
  refine z_enter (by decide) (Nat.le_of_ble_eq_true rfl) (fun E hE hl0 hcD hr => ?_)
  have hE : zok layM ad (xtM ad sa sv) E cX12_cast 2 RX12 3 := hE
  show Z layM ad E 2 (zFin layM ad E zvi) 0 [(0, .ref (ad 0)), (1, .int a1)] [] (p_X12_cast a1)
  unfold p_X12_cast
  refine z_aload_n (pc := 0) hE 0 0 rfl rfl dX12_cast_0 ?_
  refine z_iconst (pc := 1) hE dX12_cast_1 qM_iconst_0 ?_
  refine z_puti (pc := 2) hE fk_RX12_117 lM_0 rfl dX12_cast_2 ?_
  refine z_aload_n (pc := 5) hE 0 0 rfl rfl dX12_cast_5 ?_
  refine z_callVv (pc := 6) (st := []) [] hE kk_RX12_353 (c_X12_putsBy) lM_0 rfl rfl rfl (Nat.le_of_ble_eq_true rfl) (by decide) dX12_cast_6 (fun x1 => ?_)
  refine z_aload_n (pc := 9) hE 0 0 rfl rfl dX12_cast_9 ?_
  refine z_aload_n (pc := 10) hE 0 0 rfl rfl dX12_cast_10 ?_
  refine z_aload_n (pc := 11) hE 0 0 rfl rfl dX12_cast_11 ?_
  refine z_getr (pc := 12) hE fk_RX12_32 lM_0 rfl dX12_cast_12 ?_
  refine z_iload_n (pc := 15) hE 1 1 rfl rfl dX12_cast_15 ?_
  refine z_callVi (pc := 16) (st := [.ref (ad 0)]) [.ref (ad 8), .int a1] hE kk_RX12_365 (c_X12_casts 8 lM_8 a1) lM_0 rfl rfl rfl (Nat.le_of_ble_eq_true rfl) (by decide) dX12_cast_16 (fun x2 => ?_)
  refine z_callVi (pc := 19) (st := []) [.int x2] hE kk_RX12_359 (c_X12_counts x2) lM_0 rfl rfl rfl (Nat.le_of_ble_eq_true rfl) (by decide) dX12_cast_19 (fun x3 => ?_)
  exact z_ireturn (pc := 22) hE hr dX12_cast_22
set_option maxRecDepth 100000 in
set_option maxHeartbeats 4000000 in
theorem c_X12_sacks {l : Launch} {ad : Nat → Nat} {ca : FieldType → ClassId} {D : va_G} {sa sv : Nat → Nat} (a1 : Int32) (a2 : Int32) : zC l yX12_sacks cX12_sacks 3 (some .int) 3 layM ad ca D (xtM ad sa sv) [.ref (ad 0), .int a1, .int a2] zvi (p_X12_sacks a1 a2) := by
  refine z_enter (by decide) (Nat.le_of_ble_eq_true rfl) (fun E hE hl0 hcD hr => ?_)
  have hE : zok layM ad (xtM ad sa sv) E cX12_sacks 3 RX12 3 := hE
  show Z layM ad E 3 (zFin layM ad E zvi) 0 [(0, .ref (ad 0)), (1, .int a1), (2, .int a2)] [] (p_X12_sacks a1 a2)
  unfold p_X12_sacks
  refine z_aload_n (pc := 0) hE 0 0 rfl rfl dX12_sacks_0 ?_
  refine z_iconst (pc := 1) hE dX12_sacks_1 qM_iconst_0 ?_
  refine z_puti (pc := 2) hE fk_RX12_117 lM_0 rfl dX12_sacks_2 ?_
  refine z_aload_n (pc := 5) hE 0 0 rfl rfl dX12_sacks_5 ?_
  refine z_callVv (pc := 6) (st := []) [] hE kk_RX12_353 (c_X12_putsBy) lM_0 rfl rfl rfl (Nat.le_of_ble_eq_true rfl) (by decide) dX12_sacks_6 (fun x1 => ?_)
  refine z_aload_n (pc := 9) hE 0 0 rfl rfl dX12_sacks_9 ?_
  refine z_aload_n (pc := 10) hE 0 0 rfl rfl dX12_sacks_10 ?_
  refine z_iload_n (pc := 11) hE 1 1 rfl rfl dX12_sacks_11 ?_
  refine z_iload_n (pc := 12) hE 2 2 rfl rfl dX12_sacks_12 ?_
  refine z_callVi (pc := 13) (st := [.ref (ad 0)]) [.int a1, .int a2] hE kk_RX12_368 (c_X12_sacksBy a1 a2) lM_0 rfl rfl rfl (Nat.le_of_ble_eq_true rfl) (by decide) dX12_sacks_13 (fun x2 => ?_)
  refine z_callVi (pc := 16) (st := []) [.int x2] hE kk_RX12_359 (c_X12_counts x2) lM_0 rfl rfl rfl (Nat.le_of_ble_eq_true rfl) (by decide) dX12_sacks_16 (fun x3 => ?_)
  exact z_ireturn (pc := 19) hE hr dX12_sacks_19
set_option maxRecDepth 100000 in
set_option maxHeartbeats 4000000 in
theorem c_X12_cargo {l : Launch} {ad : Nat → Nat} {ca : FieldType → ClassId} {D : va_G} {sa sv : Nat → Nat} (a1 : Int32) (a2 : Int32) : zC l yX12_cargo cX12_cargo 3 (some .int) 3 layM ad ca D (xtM ad sa sv) [.ref (ad 0), .int a1, .int a2] zvi (p_X12_cargo a1 a2) := by
  refine z_enter (by decide) (Nat.le_of_ble_eq_true rfl) (fun E hE hl0 hcD hr => ?_)
  have hE : zok layM ad (xtM ad sa sv) E cX12_cargo 3 RX12 3 := hE
  show Z layM ad E 3 (zFin layM ad E zvi) 0 [(0, .ref (ad 0)), (1, .int a1), (2, .int a2)] [] (p_X12_cargo a1 a2)
  unfold p_X12_cargo
  refine z_aload_n (pc := 0) hE 0 0 rfl rfl dX12_cargo_0 ?_
  refine z_iconst (pc := 1) hE dX12_cargo_1 qM_iconst_0 ?_
  refine z_puti (pc := 2) hE fk_RX12_117 lM_0 rfl dX12_cargo_2 ?_
  refine z_aload_n (pc := 5) hE 0 0 rfl rfl dX12_cargo_5 ?_
  refine z_callVv (pc := 6) (st := []) [] hE kk_RX12_353 (c_X12_putsBy) lM_0 rfl rfl rfl (Nat.le_of_ble_eq_true rfl) (by decide) dX12_cargo_6 (fun x1 => ?_)
  refine z_aload_n (pc := 9) hE 0 0 rfl rfl dX12_cargo_9 ?_
  refine z_aload_n (pc := 10) hE 0 0 rfl rfl dX12_cargo_10 ?_
  refine z_iload_n (pc := 11) hE 1 1 rfl rfl dX12_cargo_11 ?_
  refine z_iload_n (pc := 12) hE 2 2 rfl rfl dX12_cargo_12 ?_
  refine z_callVi (pc := 13) (st := [.ref (ad 0)]) [.int a1, .int a2] hE kk_RX12_371 (c_X12_loads a1 a2) lM_0 rfl rfl rfl (Nat.le_of_ble_eq_true rfl) (by decide) dX12_cargo_13 (fun x2 => ?_)
  refine z_callVi (pc := 16) (st := []) [.int x2] hE kk_RX12_359 (c_X12_counts x2) lM_0 rfl rfl rfl (Nat.le_of_ble_eq_true rfl) (by decide) dX12_cargo_16 (fun x3 => ?_)
  exact z_ireturn (pc := 19) hE hr dX12_cargo_19
set_option maxRecDepth 100000 in
set_option maxHeartbeats 4000000 in
theorem c_X12_fill {l : Launch} {ad : Nat → Nat} {ca : FieldType → ClassId} {D : va_G} {sa sv : Nat → Nat} (a1 : Int32) (a2 : Int32) : zC l yX12_fill cX12_fill 3 (some .int) 3 layM ad ca D (xtM ad sa sv) [.ref (ad 0), .int a1, .int a2] zvi (p_X12_fill a1 a2) := by
  refine z_enter (by decide) (Nat.le_of_ble_eq_true rfl) (fun E hE hl0 hcD hr => ?_)
  have hE : zok layM ad (xtM ad sa sv) E cX12_fill 3 RX12 3 := hE
  show Z layM ad E 3 (zFin layM ad E zvi) 0 [(0, .ref (ad 0)), (1, .int a1), (2, .int a2)] [] (p_X12_fill a1 a2)
  unfold p_X12_fill
  refine z_aload_n (pc := 0) hE 0 0 rfl rfl dX12_fill_0 ?_
  refine z_iconst (pc := 1) hE dX12_fill_1 qM_iconst_0 ?_
  refine z_puti (pc := 2) hE fk_RX12_117 lM_0 rfl dX12_fill_2 ?_
  refine z_aload_n (pc := 5) hE 0 0 rfl rfl dX12_fill_5 ?_
  refine z_callVv (pc := 6) (st := []) [] hE kk_RX12_353 (c_X12_putsBy) lM_0 rfl rfl rfl (Nat.le_of_ble_eq_true rfl) (by decide) dX12_fill_6 (fun x1 => ?_)
  refine z_aload_n (pc := 9) hE 0 0 rfl rfl dX12_fill_9 ?_
  refine z_aload_n (pc := 10) hE 0 0 rfl rfl dX12_fill_10 ?_
  refine z_iload_n (pc := 11) hE 1 1 rfl rfl dX12_fill_11 ?_
  refine z_iload_n (pc := 12) hE 2 2 rfl rfl dX12_fill_12 ?_
  refine z_callVi (pc := 13) (st := [.ref (ad 0)]) [.int a1, .int a2] hE kk_RX12_374 (c_X12_fills a1 a2) lM_0 rfl rfl rfl (Nat.le_of_ble_eq_true rfl) (by decide) dX12_fill_13 (fun x2 => ?_)
  refine z_callVi (pc := 16) (st := []) [.int x2] hE kk_RX12_359 (c_X12_counts x2) lM_0 rfl rfl rfl (Nat.le_of_ble_eq_true rfl) (by decide) dX12_fill_16 (fun x3 => ?_)
  exact z_ireturn (pc := 19) hE hr dX12_fill_19
set_option maxRecDepth 100000 in
set_option maxHeartbeats 4000000 in
theorem c_X12_hours {l : Launch} {ad : Nat → Nat} {ca : FieldType → ClassId} {D : va_G} {sa sv : Nat → Nat} (a1 : Int32) : zC l yX12_hours cX12_hours 3 (some .int) 6 layM ad ca D (xtM ad sa sv) [.ref (ad 0), .int a1] zvi (p_X12_hours a1) := by
  refine z_enter (by decide) (Nat.le_of_ble_eq_true rfl) (fun E hE hl0 hcD hr => ?_)
  have hE : zok layM ad (xtM ad sa sv) E cX12_hours 3 RX12 6 := hE
  show Z layM ad E 3 (zFin layM ad E zvi) 0 [(0, .ref (ad 0)), (1, .int a1)] [] (p_X12_hours a1)
  unfold p_X12_hours
  refine z_aload_n (pc := 0) hE 0 0 rfl rfl dX12_hours_0 ?_
  refine z_iconst (pc := 1) hE dX12_hours_1 qM_iconst_0 ?_
  refine z_puti (pc := 2) hE fk_RX12_117 lM_0 rfl dX12_hours_2 ?_
  refine z_iload_n (pc := 5) hE 1 1 rfl rfl dX12_hours_5 ?_
  refine z_i2l (pc := 6) hE dX12_hours_6 ?_
  refine z_lconst (v := (0 : Int64)) (pc := 7) hE dX12_hours_7 (by decide) ?_
  refine z_ldc2 (pc := 8) hE wM_0 dX12_hours_8 ?_
  refine z_callSi (pc := 11) (st := []) [.long a1.toInt64, .long ((0 : Int64)), .long ((48 : Int64))] hE kk_RX12_131 (c_X12_in a1.toInt64 ((0 : Int64)) ((48 : Int64))) rfl rfl (Nat.le_of_ble_eq_true rfl) (by decide) dX12_hours_11 (fun x1 => ?_)
  refine z_if_ne (pc := 14) hE 19 rfl dX12_hours_14 ?_ ?_
  · refine z_aload_n (pc := 19) hE 0 0 rfl rfl dX12_hours_19 ?_
    refine z_callVv (pc := 20) (st := []) [] hE kk_RX12_353 (c_X12_putsBy) lM_0 rfl rfl rfl (Nat.le_of_ble_eq_true rfl) (by decide) dX12_hours_20 (fun x2 => ?_)
    refine z_aload_n (pc := 23) hE 0 0 rfl rfl dX12_hours_23 ?_
    refine z_callVv (pc := 24) (st := []) [] hE kk_RX12_377 (c_X12_startsCounting) lM_0 rfl rfl rfl (Nat.le_of_ble_eq_true rfl) (by decide) dX12_hours_24 (fun x3 => ?_)
    refine z_iconst (pc := 27) hE dX12_hours_27 qM_iconst_0 ?_
    refine z_istore_n (L' := [(2, .int ((0 : Int32))), (0, .ref (ad 0)), (1, .int a1)]) (pc := 28) hE 2 rfl (by decide) rfl dX12_hours_28 ?_
    refine z_sub (L' := [(0, .ref (ad 0)), (1, .int a1), (2, .int ((0 : Int32)))]) [1, 2, 0] rfl ?_
    refine z_loop (V := Int32) (X := Unit) (hd := 29) (ex := 48) (Lh := fun v4 => [(0, .ref (ad 0)), (1, .int a1), (2, .int v4)]) (Lx := fun e7 => [(0, .ref (ad 0))]) (fun rc6 k5 hrc6 hk5 v4 => ?_) zNF ((0 : Int32)) _ (fun e7 => ?_)
    · unfold p_X12_hours_b29
      refine z_iload_n (pc := 29) hE 2 2 rfl rfl dX12_hours_29 ?_
      refine z_iload_n (pc := 30) hE 1 1 rfl rfl dX12_hours_30 ?_
      refine z_icmp_ge (pc := 31) hE 48 rfl dX12_hours_31 ?_ ?_
      · exact z_sub [0] rfl (hk5 ())
      · refine z_aload_n (pc := 34) hE 0 0 rfl rfl dX12_hours_34 ?_
        refine z_aload_n (pc := 35) hE 0 0 rfl rfl dX12_hours_35 ?_
        refine z_getr (pc := 36) hE fk_RX12_32 lM_0 rfl dX12_hours_36 ?_
        refine z_callVv (pc := 39) (st := []) [.ref (ad 8)] hE kk_RX12_380 (c_X12_hourGoes 8 lM_8) lM_0 rfl rfl rfl (Nat.le_of_ble_eq_true rfl) (by decide) dX12_hours_39 (fun x8 => ?_)
        refine z_iinc (L' := [(2, .int (v4 + (1 : Int32))), (0, .ref (ad 0)), (1, .int a1)]) (pc := 42) hE 2 rfl (zinc qM_iconst_1) (by decide) rfl dX12_hours_42 ?_
        refine z_goto (pc := 45) hE 29 rfl dX12_hours_45 ?_
        exact z_sub [1, 2, 0] rfl (hrc6 (v4 + (1 : Int32)))
    · refine z_aload_n (pc := 48) hE 0 0 rfl rfl dX12_hours_48 ?_
      refine z_iconst (pc := 49) hE dX12_hours_49 qM_iconst_0 ?_
      refine z_puti (pc := 50) hE fk_RX12_125 lM_0 rfl dX12_hours_50 ?_
      refine z_aload_n (pc := 53) hE 0 0 rfl rfl dX12_hours_53 ?_
      refine z_aload_n (pc := 54) hE 0 0 rfl rfl dX12_hours_54 ?_
      refine z_geti (pc := 55) hE fk_RX12_320 lM_0 rfl dX12_hours_55 (fun x9 => ?_)
      refine z_i2l (pc := 58) hE dX12_hours_58 ?_
      refine z_callVv (pc := 59) (st := []) [.long x9.toInt64] hE kk_RX12_384 (c_X12_enters x9.toInt64) lM_0 rfl rfl rfl (Nat.le_of_ble_eq_true rfl) (by decide) dX12_hours_59 (fun x10 => ?_)
      refine z_aload_n (pc := 62) hE 0 0 rfl rfl dX12_hours_62 ?_
      refine z_aload_n (pc := 63) hE 0 0 rfl rfl dX12_hours_63 ?_
      refine z_geti (pc := 64) hE fk_RX12_323 lM_0 rfl dX12_hours_64 (fun x11 => ?_)
      refine z_i2l (pc := 67) hE dX12_hours_67 ?_
      refine z_callVv (pc := 68) (st := []) [.long x11.toInt64] hE kk_RX12_384 (c_X12_enters x11.toInt64) lM_0 rfl rfl rfl (Nat.le_of_ble_eq_true rfl) (by decide) dX12_hours_68 (fun x12 => ?_)
      refine z_aload_n (pc := 71) hE 0 0 rfl rfl dX12_hours_71 ?_
      refine z_aload_n (pc := 72) hE 0 0 rfl rfl dX12_hours_72 ?_
      refine z_getr (pc := 73) hE fk_RX12_32 lM_0 rfl dX12_hours_73 ?_
      refine z_bipush (pc := 76) hE dX12_hours_76 qM_bipush_42 ?_
      refine z_iald (pc := 78) hE lM_8 dX12_hours_78 (fun x13 => ?_)
      refine z_callVi (pc := 79) (st := []) [.int x13] hE kk_RX12_301 (c_X12_adds x13) lM_0 rfl rfl rfl (Nat.le_of_ble_eq_true rfl) (by decide) dX12_hours_79 (fun x14 => ?_)
      exact z_ireturn (pc := 82) hE hr dX12_hours_82
  · refine z_iconst (pc := 17) hE dX12_hours_17 qM_iconst_m1 ?_
    exact z_ireturn (pc := 18) hE hr dX12_hours_18
set_option maxRecDepth 100000 in
set_option maxHeartbeats 4000000 in
theorem c_X12_readsAct {l : Launch} {ad : Nat → Nat} {ca : FieldType → ClassId} {D : va_G} {sa sv : Nat → Nat}  : zC l yX12_readsAct cX12_readsAct 3 (some .boolean) 6 layM ad ca D (xtM ad sa sv) [.ref (ad 0)] zvi (p_X12_readsAct) := by
  refine z_enter (by decide) (Nat.le_of_ble_eq_true rfl) (fun E hE hl0 hcD hr => ?_)
  have hE : zok layM ad (xtM ad sa sv) E cX12_readsAct 3 RX12 6 := hE
  show Z layM ad E 3 (zFin layM ad E zvi) 0 [(0, .ref (ad 0))] [] (p_X12_readsAct)
  unfold p_X12_readsAct
  refine z_aload_n (pc := 0) hE 0 0 rfl rfl dX12_readsAct_0 ?_
  refine z_geti (pc := 1) hE fk_RX12_388 lM_0 rfl dX12_readsAct_1 (fun x1 => ?_)
  refine z_istore_n (L' := [(1, .int x1), (0, .ref (ad 0))]) (pc := 4) hE 1 rfl (by decide) rfl dX12_readsAct_4 ?_
  refine z_aload_n (pc := 5) hE 1 0 rfl rfl dX12_readsAct_5 ?_
  refine z_getr (pc := 6) hE fk_RX12_62 lM_0 rfl dX12_readsAct_6 ?_
  refine z_iload_n (pc := 9) hE 0 1 rfl rfl dX12_readsAct_9 ?_
  refine z_aload_n (pc := 10) hE 1 0 rfl rfl dX12_readsAct_10 ?_
  refine z_ldcsw (pc := 11) hE (sR_391) dX12_readsAct_11 ?_
  refine z_callVi (pc := 14) (st := [.int x1, .ref (ad 18)]) [.ref (sa 7)] hE kk_RX12_191 (c_X12_takesOf 7 (by decide)) lM_0 rfl rfl rfl (Nat.le_of_ble_eq_true rfl) (by decide) dX12_readsAct_14 (fun x2 => ?_)
  refine z_iast (pc := 17) hE lM_18 dX12_readsAct_17 ?_
  refine z_aload_n (pc := 18) hE 1 0 rfl rfl dX12_readsAct_18 ?_
  refine z_dup (pc := 19) hE dX12_readsAct_19 rfl ?_
  refine z_geti (pc := 20) hE fk_RX12_388 lM_0 rfl dX12_readsAct_20 (fun x3 => ?_)
  refine z_iconst (pc := 23) hE dX12_readsAct_23 qM_iconst_1 ?_
  refine z_iadd (pc := 24) hE dX12_readsAct_24 ?_
  refine z_puti (pc := 25) hE fk_RX12_388 lM_0 rfl dX12_readsAct_25 ?_
  refine z_aload_n (pc := 28) hE 1 0 rfl rfl dX12_readsAct_28 ?_
  refine z_getr (pc := 29) hE fk_RX12_62 lM_0 rfl dX12_readsAct_29 ?_
  refine z_iload_n (pc := 32) hE 0 1 rfl rfl dX12_readsAct_32 ?_
  refine z_iald (pc := 33) hE lM_18 dX12_readsAct_33 (fun x4 => ?_)
  refine z_if_ge (pc := 34) hE 39 rfl dX12_readsAct_34 ?_ ?_
  · refine z_aload_n (pc := 39) hE 1 0 rfl rfl dX12_readsAct_39 ?_
    refine z_getr (pc := 40) hE fk_RX12_65 lM_0 rfl dX12_readsAct_40 ?_
    refine z_iload_n (pc := 43) hE 0 1 rfl rfl dX12_readsAct_43 ?_
    refine z_aload_n (pc := 44) hE 1 0 rfl rfl dX12_readsAct_44 ?_
    refine z_aload_n (pc := 45) hE 1 0 rfl rfl dX12_readsAct_45 ?_
    refine z_getr (pc := 46) hE fk_RX12_62 lM_0 rfl dX12_readsAct_46 ?_
    refine z_iload_n (pc := 49) hE 0 1 rfl rfl dX12_readsAct_49 ?_
    refine z_iald (pc := 50) hE lM_18 dX12_readsAct_50 (fun x5 => ?_)
    refine z_iconst (pc := 51) hE dX12_readsAct_51 qM_iconst_4 ?_
    refine z_join (Y := Int32) (pcJ := 60) (Lj := fun y6 => [(0, .ref (ad 0)), (1, .int x1)]) (sj := fun y6 => [.int y6, .ref (ad 0), .int x1, .ref (ad 19)]) (fun y6 => ?_) (fun j7 hj7 => ?_)
    · refine z_callVi (pc := 60) (st := [.int x1, .ref (ad 19)]) [.int y6] hE kk_RX12_185 (c_X12_number y6) lM_0 rfl rfl rfl (Nat.le_of_ble_eq_true rfl) (by decide) dX12_readsAct_60 (fun x8 => ?_)
      refine z_iast (pc := 63) hE lM_19 dX12_readsAct_63 ?_
      refine z_aload_n (pc := 64) hE 0 0 rfl rfl dX12_readsAct_64 ?_
      refine z_getr (pc := 65) hE fk_RX12_65 lM_0 rfl dX12_readsAct_65 ?_
      refine z_iload_n (pc := 68) hE 1 1 rfl rfl dX12_readsAct_68 ?_
      refine z_iald (pc := 69) hE lM_19 dX12_readsAct_69 (fun x9 => ?_)
      refine z_join (Y := Unit) (pcJ := 93) (Lj := fun y10 => [(0, .ref (ad 0)), (1, .int x1)]) (sj := fun y10 => []) (fun y10 => ?_) (fun j11 hj11 => ?_)
      · refine z_aload_n (pc := 93) hE 0 0 rfl rfl dX12_readsAct_93 ?_
        refine z_getr (pc := 94) hE fk_RX12_65 lM_0 rfl dX12_readsAct_94 ?_
        refine z_iload_n (pc := 97) hE 1 1 rfl rfl dX12_readsAct_97 ?_
        refine z_iald (pc := 98) hE lM_19 dX12_readsAct_98 (fun x12 => ?_)
        refine z_if_lt (pc := 99) hE 106 rfl dX12_readsAct_99 ?_ ?_
        · refine z_iconst (pc := 106) hE dX12_readsAct_106 qM_iconst_0 ?_
          exact z_zreturn (pc := 107) hE hr dX12_readsAct_107
        · refine z_iconst (pc := 102) hE dX12_readsAct_102 qM_iconst_1 ?_
          refine z_goto (pc := 103) hE 107 rfl dX12_readsAct_103 ?_
          exact z_zreturn (pc := 107) hE hr dX12_readsAct_107
      refine z_if_lt (pc := 70) hE 93 rfl dX12_readsAct_70 ?_ ?_
      · exact z_sub [0, 1] rfl (hj11 ())
      · refine z_aload_n (pc := 73) hE 0 0 rfl rfl dX12_readsAct_73 ?_
        refine z_getr (pc := 74) hE fk_RX12_62 lM_0 rfl dX12_readsAct_74 ?_
        refine z_iload_n (pc := 77) hE 1 1 rfl rfl dX12_readsAct_77 ?_
        refine z_iald (pc := 78) hE lM_18 dX12_readsAct_78 (fun x13 => ?_)
        refine z_iconst (pc := 79) hE dX12_readsAct_79 qM_iconst_1 ?_
        refine z_join (Y := Unit) (pcJ := 108) (Lj := fun y14 => [(0, .ref (ad 0)), (1, .int x1)]) (sj := fun y14 => []) (fun y14 => ?_) (fun j15 hj15 => ?_)
        · refine z_aload_n (pc := 108) hE 0 0 rfl rfl dX12_readsAct_108 ?_
          refine z_getr (pc := 109) hE fk_RX12_62 lM_0 rfl dX12_readsAct_109 ?_
          refine z_iload_n (pc := 112) hE 1 1 rfl rfl dX12_readsAct_112 ?_
          refine z_iald (pc := 113) hE lM_18 dX12_readsAct_113 (fun x16 => ?_)
          refine z_iconst (pc := 114) hE dX12_readsAct_114 qM_iconst_3 ?_
          refine z_join (Y := Int32) (pcJ := 128) (Lj := fun y17 => [(0, .ref (ad 0)), (1, .int x1)]) (sj := fun y17 => [.int y17]) (fun y17 => ?_) (fun j18 hj18 => ?_)
          · refine z_istore_n (L' := [(2, .int y17), (0, .ref (ad 0)), (1, .int x1)]) (pc := 128) hE 2 rfl (by decide) rfl dX12_readsAct_128 ?_
            refine z_iload_n (pc := 129) hE 0 2 rfl rfl dX12_readsAct_129 ?_
            refine z_if_ge (pc := 130) hE 135 rfl dX12_readsAct_130 ?_ ?_
            · refine z_aload_n (pc := 135) hE 1 0 rfl rfl dX12_readsAct_135 ?_
              refine z_getr (pc := 136) hE fk_RX12_68 lM_0 rfl dX12_readsAct_136 ?_
              refine z_iload_n (pc := 139) hE 2 1 rfl rfl dX12_readsAct_139 ?_
              refine z_aload_n (pc := 140) hE 1 0 rfl rfl dX12_readsAct_140 ?_
              refine z_iconst (pc := 141) hE dX12_readsAct_141 qM_iconst_1 ?_
              refine z_callVi (pc := 142) (st := [.int x1, .ref (ad 20)]) [.int ((1 : Int32))] hE kk_RX12_185 (c_X12_number ((1 : Int32))) lM_0 rfl rfl rfl (Nat.le_of_ble_eq_true rfl) (by decide) dX12_readsAct_142 (fun x19 => ?_)
              refine z_iast (pc := 145) hE lM_20 dX12_readsAct_145 ?_
              refine z_aload_n (pc := 146) hE 1 0 rfl rfl dX12_readsAct_146 ?_
              refine z_getr (pc := 147) hE fk_RX12_68 lM_0 rfl dX12_readsAct_147 ?_
              refine z_iload_n (pc := 150) hE 2 1 rfl rfl dX12_readsAct_150 ?_
              refine z_iald (pc := 151) hE lM_20 dX12_readsAct_151 (fun x20 => ?_)
              refine z_if_ge (pc := 152) hE 157 rfl dX12_readsAct_152 ?_ ?_
              · refine z_aload_n (pc := 157) hE 1 0 rfl rfl dX12_readsAct_157 ?_
                refine z_getr (pc := 158) hE fk_RX12_68 lM_0 rfl dX12_readsAct_158 ?_
                refine z_iload_n (pc := 161) hE 2 1 rfl rfl dX12_readsAct_161 ?_
                refine z_iload_n (pc := 162) hE 0 2 rfl rfl dX12_readsAct_162 ?_
                refine z_iconst (pc := 163) hE dX12_readsAct_163 qM_iconst_1 ?_
                refine z_icmp_ne (pc := 164) hE 177 rfl dX12_readsAct_164 ?_ ?_
                · refine z_aload_n (pc := 177) hE 1 0 rfl rfl dX12_readsAct_177 ?_
                  refine z_getr (pc := 178) hE fk_RX12_68 lM_0 rfl dX12_readsAct_178 ?_
                  refine z_iload_n (pc := 181) hE 2 1 rfl rfl dX12_readsAct_181 ?_
                  refine z_iald (pc := 182) hE lM_20 dX12_readsAct_182 (fun x21 => ?_)
                  refine z_iast (pc := 183) hE lM_20 dX12_readsAct_183 ?_
                  refine z_iconst (pc := 184) hE dX12_readsAct_184 qM_iconst_1 ?_
                  exact z_zreturn (pc := 185) hE hr dX12_readsAct_185
                · refine z_aload_n (pc := 167) hE 1 0 rfl rfl dX12_readsAct_167 ?_
                  refine z_getr (pc := 168) hE fk_RX12_68 lM_0 rfl dX12_readsAct_168 ?_
                  refine z_iload_n (pc := 171) hE 2 1 rfl rfl dX12_readsAct_171 ?_
                  refine z_iald (pc := 172) hE lM_20 dX12_readsAct_172 (fun x22 => ?_)
                  refine z_ineg (pc := 173) hE dX12_readsAct_173 ?_
                  refine z_goto (pc := 174) hE 183 rfl dX12_readsAct_174 ?_
                  refine z_iast (pc := 183) hE lM_20 dX12_readsAct_183 ?_
                  refine z_iconst (pc := 184) hE dX12_readsAct_184 qM_iconst_1 ?_
                  exact z_zreturn (pc := 185) hE hr dX12_readsAct_185
              · refine z_iconst (pc := 155) hE dX12_readsAct_155 qM_iconst_0 ?_
                exact z_zreturn (pc := 156) hE hr dX12_readsAct_156
            · refine z_iconst (pc := 133) hE dX12_readsAct_133 qM_iconst_0 ?_
              exact z_zreturn (pc := 134) hE hr dX12_readsAct_134
          refine z_icmp_ne (pc := 115) hE 127 rfl dX12_readsAct_115 ?_ ?_
          · refine z_iconst (pc := 127) hE dX12_readsAct_127 qM_iconst_0 ?_
            exact z_sub [0, 1] rfl (hj18 ((0 : Int32)))
          · refine z_aload_n (pc := 118) hE 0 0 rfl rfl dX12_readsAct_118 ?_
            refine z_ldcs (pc := 119) hE (sR_244) dX12_readsAct_119 ?_
            refine z_callVi (pc := 121) (st := []) [.ref (sa 1)] hE kk_RX12_191 (c_X12_takesOf 1 (by decide)) lM_0 rfl rfl rfl (Nat.le_of_ble_eq_true rfl) (by decide) dX12_readsAct_121 (fun x23 => ?_)
            refine z_goto (pc := 124) hE 128 rfl dX12_readsAct_124 ?_
            exact z_sub [0, 1] rfl (hj18 x23)
        refine z_icmp_eq (pc := 80) hE 108 rfl dX12_readsAct_80 ?_ ?_
        · exact z_sub [0, 1] rfl (hj15 ())
        · refine z_aload_n (pc := 83) hE 0 0 rfl rfl dX12_readsAct_83 ?_
          refine z_getr (pc := 84) hE fk_RX12_62 lM_0 rfl dX12_readsAct_84 ?_
          refine z_iload_n (pc := 87) hE 1 1 rfl rfl dX12_readsAct_87 ?_
          refine z_iald (pc := 88) hE lM_18 dX12_readsAct_88 (fun x24 => ?_)
          refine z_iconst (pc := 89) hE dX12_readsAct_89 qM_iconst_3 ?_
          refine z_icmp_eq (pc := 90) hE 108 rfl dX12_readsAct_90 ?_ ?_
          · exact z_sub [0, 1] rfl (hj15 ())
          · exact z_sub [0, 1] rfl (hj11 ())
    refine z_icmp_ne (pc := 52) hE 59 rfl dX12_readsAct_52 ?_ ?_
    · refine z_iconst (pc := 59) hE dX12_readsAct_59 qM_iconst_1 ?_
      exact z_sub [1, 0] rfl (hj7 ((1 : Int32)))
    · refine z_iconst (pc := 55) hE dX12_readsAct_55 qM_iconst_2 ?_
      refine z_goto (pc := 56) hE 60 rfl dX12_readsAct_56 ?_
      exact z_sub [1, 0] rfl (hj7 ((2 : Int32)))
  · refine z_iconst (pc := 37) hE dX12_readsAct_37 qM_iconst_0 ?_
    exact z_zreturn (pc := 38) hE hr dX12_readsAct_38
set_option maxRecDepth 100000 in
set_option maxHeartbeats 4000000 in
theorem c_X12_does {l : Launch} {ad : Nat → Nat} {ca : FieldType → ClassId} {D : va_G} {sa sv : Nat → Nat} (a1 : Int32) : zC l yX12_does cX12_does 3 (some .boolean) 7 layM ad ca D (xtM ad sa sv) [.ref (ad 0), .int a1] zvi (p_X12_does a1) := by
  refine z_enter (by decide) (Nat.le_of_ble_eq_true rfl) (fun E hE hl0 hcD hr => ?_)
  have hE : zok layM ad (xtM ad sa sv) E cX12_does 3 RX12 7 := hE
  show Z layM ad E 3 (zFin layM ad E zvi) 0 [(0, .ref (ad 0)), (1, .int a1)] [] (p_X12_does a1)
  unfold p_X12_does
  refine z_aload_n (pc := 0) hE 0 0 rfl rfl dX12_does_0 ?_
  refine z_getr (pc := 1) hE fk_RX12_62 lM_0 rfl dX12_does_1 ?_
  refine z_iload_n (pc := 4) hE 1 1 rfl rfl dX12_does_4 ?_
  refine z_iald (pc := 5) hE lM_18 dX12_does_5 (fun x1 => ?_)
  refine z_case x1 (0 : Int32) (fun hc2 => ?_) (fun hc2 => ?_)
  · refine z_tableIn (pc := 6) hE 30 36 dX12_does_6 (by rw [hc2]; decide) (by rw [hc2]; decide) (by rw [hc2]; rfl) rfl ?_
    refine z_aload_n (pc := 36) hE 0 0 rfl rfl dX12_does_36 ?_
    refine z_aload_n (pc := 37) hE 0 0 rfl rfl dX12_does_37 ?_
    refine z_getr (pc := 38) hE fk_RX12_32 lM_0 rfl dX12_does_38 ?_
    refine z_aload_n (pc := 41) hE 0 0 rfl rfl dX12_does_41 ?_
    refine z_getr (pc := 42) hE fk_RX12_65 lM_0 rfl dX12_does_42 ?_
    refine z_iload_n (pc := 45) hE 1 1 rfl rfl dX12_does_45 ?_
    refine z_iald (pc := 46) hE lM_19 dX12_does_46 (fun x3 => ?_)
    refine z_callVi (pc := 47) (st := []) [.ref (ad 8), .int x3] hE kk_RX12_356 (c_X12_launches 8 lM_8 x3) lM_0 rfl rfl rfl (Nat.le_of_ble_eq_true rfl) (by decide) dX12_does_47 (fun x4 => ?_)
    refine z_if_lt (pc := 50) hE 57 rfl dX12_does_50 ?_ ?_
    · refine z_iconst (pc := 57) hE dX12_does_57 qM_iconst_0 ?_
      exact z_zreturn (pc := 58) hE hr dX12_does_58
    · refine z_iconst (pc := 53) hE dX12_does_53 qM_iconst_1 ?_
      refine z_goto (pc := 54) hE 58 rfl dX12_does_54 ?_
      exact z_zreturn (pc := 58) hE hr dX12_does_58
  refine z_case x1 (1 : Int32) (fun hc5 => ?_) (fun hc5 => ?_)
  · refine z_tableIn (pc := 6) hE 53 59 dX12_does_6 (by rw [hc5]; decide) (by rw [hc5]; decide) (by rw [hc5]; rfl) rfl ?_
    refine z_aload_n (pc := 59) hE 0 0 rfl rfl dX12_does_59 ?_
    refine z_aload_n (pc := 60) hE 0 0 rfl rfl dX12_does_60 ?_
    refine z_getr (pc := 61) hE fk_RX12_65 lM_0 rfl dX12_does_61 ?_
    refine z_iload_n (pc := 64) hE 1 1 rfl rfl dX12_does_64 ?_
    refine z_iald (pc := 65) hE lM_19 dX12_does_65 (fun x6 => ?_)
    refine z_aload_n (pc := 66) hE 0 0 rfl rfl dX12_does_66 ?_
    refine z_getr (pc := 67) hE fk_RX12_68 lM_0 rfl dX12_does_67 ?_
    refine z_iload_n (pc := 70) hE 1 1 rfl rfl dX12_does_70 ?_
    refine z_iald (pc := 71) hE lM_20 dX12_does_71 (fun x7 => ?_)
    refine z_callVi (pc := 72) (st := []) [.int x6, .int x7] hE kk_RX12_362 (c_X12_moors x6 x7) lM_0 rfl rfl rfl (Nat.le_of_ble_eq_true rfl) (by decide) dX12_does_72 (fun x8 => ?_)
    refine z_if_lt (pc := 75) hE 82 rfl dX12_does_75 ?_ ?_
    · refine z_iconst (pc := 82) hE dX12_does_82 qM_iconst_0 ?_
      exact z_zreturn (pc := 83) hE hr dX12_does_83
    · refine z_iconst (pc := 78) hE dX12_does_78 qM_iconst_1 ?_
      refine z_goto (pc := 79) hE 83 rfl dX12_does_79 ?_
      exact z_zreturn (pc := 83) hE hr dX12_does_83
  refine z_case x1 (2 : Int32) (fun hc9 => ?_) (fun hc9 => ?_)
  · refine z_tableIn (pc := 6) hE 78 84 dX12_does_6 (by rw [hc9]; decide) (by rw [hc9]; decide) (by rw [hc9]; rfl) rfl ?_
    refine z_aload_n (pc := 84) hE 0 0 rfl rfl dX12_does_84 ?_
    refine z_aload_n (pc := 85) hE 0 0 rfl rfl dX12_does_85 ?_
    refine z_getr (pc := 86) hE fk_RX12_32 lM_0 rfl dX12_does_86 ?_
    refine z_aload_n (pc := 89) hE 0 0 rfl rfl dX12_does_89 ?_
    refine z_getr (pc := 90) hE fk_RX12_65 lM_0 rfl dX12_does_90 ?_
    refine z_iload_n (pc := 93) hE 1 1 rfl rfl dX12_does_93 ?_
    refine z_iald (pc := 94) hE lM_19 dX12_does_94 (fun x10 => ?_)
    refine z_callVi (pc := 95) (st := []) [.ref (ad 8), .int x10] hE kk_RX12_365 (c_X12_casts 8 lM_8 x10) lM_0 rfl rfl rfl (Nat.le_of_ble_eq_true rfl) (by decide) dX12_does_95 (fun x11 => ?_)
    refine z_if_lt (pc := 98) hE 105 rfl dX12_does_98 ?_ ?_
    · refine z_iconst (pc := 105) hE dX12_does_105 qM_iconst_0 ?_
      exact z_zreturn (pc := 106) hE hr dX12_does_106
    · refine z_iconst (pc := 101) hE dX12_does_101 qM_iconst_1 ?_
      refine z_goto (pc := 102) hE 106 rfl dX12_does_102 ?_
      exact z_zreturn (pc := 106) hE hr dX12_does_106
  refine z_case x1 (3 : Int32) (fun hc12 => ?_) (fun hc12 => ?_)
  · refine z_tableIn (pc := 6) hE 101 107 dX12_does_6 (by rw [hc12]; decide) (by rw [hc12]; decide) (by rw [hc12]; rfl) rfl ?_
    refine z_aload_n (pc := 107) hE 0 0 rfl rfl dX12_does_107 ?_
    refine z_aload_n (pc := 108) hE 0 0 rfl rfl dX12_does_108 ?_
    refine z_getr (pc := 109) hE fk_RX12_65 lM_0 rfl dX12_does_109 ?_
    refine z_iload_n (pc := 112) hE 1 1 rfl rfl dX12_does_112 ?_
    refine z_iald (pc := 113) hE lM_19 dX12_does_113 (fun x13 => ?_)
    refine z_aload_n (pc := 114) hE 0 0 rfl rfl dX12_does_114 ?_
    refine z_getr (pc := 115) hE fk_RX12_68 lM_0 rfl dX12_does_115 ?_
    refine z_iload_n (pc := 118) hE 1 1 rfl rfl dX12_does_118 ?_
    refine z_iald (pc := 119) hE lM_20 dX12_does_119 (fun x14 => ?_)
    refine z_callVi (pc := 120) (st := []) [.int x13, .int x14] hE kk_RX12_368 (c_X12_sacksBy x13 x14) lM_0 rfl rfl rfl (Nat.le_of_ble_eq_true rfl) (by decide) dX12_does_120 (fun x15 => ?_)
    refine z_if_lt (pc := 123) hE 130 rfl dX12_does_123 ?_ ?_
    · refine z_iconst (pc := 130) hE dX12_does_130 qM_iconst_0 ?_
      exact z_zreturn (pc := 131) hE hr dX12_does_131
    · refine z_iconst (pc := 126) hE dX12_does_126 qM_iconst_1 ?_
      refine z_goto (pc := 127) hE 131 rfl dX12_does_127 ?_
      exact z_zreturn (pc := 131) hE hr dX12_does_131
  have ihc2 := zne (0) hc2 (by decide)
  have ihc5 := zne (1) hc5 (by decide)
  have ihc9 := zne (2) hc9 (by decide)
  have ihc12 := zne (3) hc12 (by decide)
  refine z_tableOut (pc := 6) hE 132 dX12_does_6 (by omega) rfl ?_
  refine z_iconst (pc := 132) hE dX12_does_132 qM_iconst_0 ?_
  refine z_istore_n (L' := [(2, .int ((0 : Int32))), (0, .ref (ad 0)), (1, .int a1)]) (pc := 133) hE 2 rfl (by decide) rfl dX12_does_133 ?_
  refine z_sub (L' := [(0, .ref (ad 0)), (1, .int a1), (2, .int ((0 : Int32)))]) [1, 2, 0] rfl ?_
  refine z_loop (V := Int32) (X := Unit) (hd := 134) (ex := 169) (Lh := fun v16 => [(0, .ref (ad 0)), (1, .int a1), (2, .int v16)]) (Lx := fun e19 => [(0, .ref (ad 0)), (1, .int a1)]) (fun rc18 k17 hrc18 hk17 v16 => ?_) zNF ((0 : Int32)) _ (fun e19 => ?_)
  · unfold p_X12_does_b134
    refine z_iload_n (pc := 134) hE 2 2 rfl rfl dX12_does_134 ?_
    refine z_aload_n (pc := 135) hE 0 0 rfl rfl dX12_does_135 ?_
    refine z_getr (pc := 136) hE fk_RX12_65 lM_0 rfl dX12_does_136 ?_
    refine z_iload_n (pc := 139) hE 1 1 rfl rfl dX12_does_139 ?_
    refine z_iald (pc := 140) hE lM_19 dX12_does_140 (fun x20 => ?_)
    refine z_icmp_ge (pc := 141) hE 169 rfl dX12_does_141 ?_ ?_
    · exact z_sub [0, 1] rfl (hk17 ())
    · refine z_aload_n (pc := 144) hE 0 0 rfl rfl dX12_does_144 ?_
      refine z_getr (pc := 145) hE fk_RX12_65 lM_0 rfl dX12_does_145 ?_
      refine z_iload_n (pc := 148) hE 1 1 rfl rfl dX12_does_148 ?_
      refine z_iald (pc := 149) hE lM_19 dX12_does_149 (fun x21 => ?_)
      refine z_bipush (pc := 150) hE dX12_does_150 qM_bipush_48 ?_
      refine z_icmp_gt (pc := 152) hE 169 rfl dX12_does_152 ?_ ?_
      · exact z_sub [0, 1] rfl (hk17 ())
      · refine z_aload_n (pc := 155) hE 0 0 rfl rfl dX12_does_155 ?_
        refine z_aload_n (pc := 156) hE 0 0 rfl rfl dX12_does_156 ?_
        refine z_getr (pc := 157) hE fk_RX12_32 lM_0 rfl dX12_does_157 ?_
        refine z_callVv (pc := 160) (st := []) [.ref (ad 8)] hE kk_RX12_380 (c_X12_hourGoes 8 lM_8) lM_0 rfl rfl rfl (Nat.le_of_ble_eq_true rfl) (by decide) dX12_does_160 (fun x22 => ?_)
        refine z_iinc (L' := [(2, .int (v16 + (1 : Int32))), (0, .ref (ad 0)), (1, .int a1)]) (pc := 163) hE 2 rfl (zinc qM_iconst_1) (by decide) rfl dX12_does_163 ?_
        refine z_goto (pc := 166) hE 134 rfl dX12_does_166 ?_
        exact z_sub [1, 2, 0] rfl (hrc18 (v16 + (1 : Int32)))
  · refine z_aload_n (pc := 169) hE 0 0 rfl rfl dX12_does_169 ?_
    refine z_getr (pc := 170) hE fk_RX12_65 lM_0 rfl dX12_does_170 ?_
    refine z_iload_n (pc := 173) hE 1 1 rfl rfl dX12_does_173 ?_
    refine z_iald (pc := 174) hE lM_19 dX12_does_174 (fun x23 => ?_)
    refine z_bipush (pc := 175) hE dX12_does_175 qM_bipush_48 ?_
    refine z_icmp_gt (pc := 177) hE 184 rfl dX12_does_177 ?_ ?_
    · refine z_iconst (pc := 184) hE dX12_does_184 qM_iconst_0 ?_
      exact z_zreturn (pc := 185) hE hr dX12_does_185
    · refine z_iconst (pc := 180) hE dX12_does_180 qM_iconst_1 ?_
      refine z_goto (pc := 181) hE 185 rfl dX12_does_181 ?_
      exact z_zreturn (pc := 185) hE hr dX12_does_185
set_option maxRecDepth 100000 in
set_option maxHeartbeats 4000000 in
theorem c_X12_day {l : Launch} {ad : Nat → Nat} {ca : FieldType → ClassId} {D : va_G} {sa sv : Nat → Nat}  : zC l yX12_day cX12_day 6 (some .int) 8 layM ad ca D (xtM ad sa sv) [.ref (ad 0)] zvi (p_X12_day) := by
  refine z_enter (by decide) (Nat.le_of_ble_eq_true rfl) (fun E hE hl0 hcD hr => ?_)
  have hE : zok layM ad (xtM ad sa sv) E cX12_day 6 RX12 8 := hE
  show Z layM ad E 6 (zFin layM ad E zvi) 0 [(0, .ref (ad 0))] [] (p_X12_day)
  unfold p_X12_day
  refine z_aload_n (pc := 0) hE 0 0 rfl rfl dX12_day_0 ?_
  refine z_iconst (pc := 1) hE dX12_day_1 qM_iconst_0 ?_
  refine z_puti (pc := 2) hE fk_RX12_117 lM_0 rfl dX12_day_2 ?_
  refine z_aload_n (pc := 5) hE 0 0 rfl rfl dX12_day_5 ?_
  refine z_bipush (pc := 6) hE dX12_day_6 qM_bipush_60 ?_
  refine z_callVi (pc := 8) (st := []) [.int ((60 : Int32))] hE kk_RX12_194 (c_X12_begins ((60 : Int32))) lM_0 rfl rfl rfl (Nat.le_of_ble_eq_true rfl) (by decide) dX12_day_8 (fun x1 => ?_)
  refine z_istore_n (L' := [(1, .int x1), (0, .ref (ad 0))]) (pc := 11) hE 1 rfl (by decide) rfl dX12_day_11 ?_
  refine z_aload_n (pc := 12) hE 1 0 rfl rfl dX12_day_12 ?_
  refine z_iconst (pc := 13) hE dX12_day_13 qM_iconst_0 ?_
  refine z_puti (pc := 14) hE fk_RX12_388 lM_0 rfl dX12_day_14 ?_
  refine z_iconst (pc := 17) hE dX12_day_17 qM_iconst_1 ?_
  refine z_istore_n (L' := [(2, .int ((1 : Int32))), (1, .int x1), (0, .ref (ad 0))]) (pc := 18) hE 2 rfl (by decide) rfl dX12_day_18 ?_
  refine z_iload_n (pc := 19) hE 1 1 rfl rfl dX12_day_19 ?_
  refine z_join (Y := Int32) (pcJ := 28) (Lj := fun y2 => [(0, .ref (ad 0)), (1, .int x1), (2, .int ((1 : Int32)))]) (sj := fun y2 => [.int y2]) (fun y2 => ?_) (fun j3 hj3 => ?_)
  · refine z_istore_n (L' := [(3, .int y2), (0, .ref (ad 0)), (1, .int x1), (2, .int ((1 : Int32)))]) (pc := 28) hE 3 rfl (by decide) rfl dX12_day_28 ?_
    refine z_sub (L' := [(0, .ref (ad 0)), (1, .int x1), (2, .int ((1 : Int32))), (3, .int y2)]) [1, 2, 3, 0] rfl ?_
    refine z_loop (V := (Int32 × Int32)) (X := Int32) (hd := 29) (ex := 60) (Lh := fun v4 => [(0, .ref (ad 0)), (1, .int x1), (2, .int v4.1), (3, .int v4.2)]) (Lx := fun e7 => [(0, .ref (ad 0)), (1, .int x1), (2, .int e7)]) (fun rc6 k5 hrc6 hk5 v4 => ?_) zNF ((1 : Int32), y2) _ (fun e7 => ?_)
    · unfold p_X12_day_b29
      refine z_iload_n (pc := 29) hE 3 3 rfl rfl dX12_day_29 ?_
      refine z_if_eq (pc := 30) hE 60 rfl dX12_day_30 ?_ ?_
      · exact z_sub [0, 1, 2] rfl (hk5 v4.1)
      · refine z_aload_n (pc := 33) hE 0 0 rfl rfl dX12_day_33 ?_
        refine z_callVi (pc := 34) (st := []) [] hE kk_RX12_393 (c_X12_readsAct) lM_0 rfl rfl rfl (Nat.le_of_ble_eq_true rfl) (by decide) dX12_day_34 (fun x8 => ?_)
        refine z_istore_n (L' := [(2, .int x8), (0, .ref (ad 0)), (1, .int x1), (3, .int v4.2)]) (pc := 37) hE 2 rfl (by decide) rfl dX12_day_37 ?_
        refine z_iload_n (pc := 38) hE 0 2 rfl rfl dX12_day_38 ?_
        refine z_join (Y := Int32) (pcJ := 56) (Lj := fun y9 => [(0, .ref (ad 0)), (1, .int x1), (2, .int x8)]) (sj := fun y9 => [.int y9]) (fun y9 => ?_) (fun j10 hj10 => ?_)
        · refine z_istore_n (L' := [(3, .int y9), (0, .ref (ad 0)), (1, .int x1), (2, .int x8)]) (pc := 56) hE 3 rfl (by decide) rfl dX12_day_56 ?_
          refine z_goto (pc := 57) hE 29 rfl dX12_day_57 ?_
          exact z_sub [1, 2, 3, 0] rfl (hrc6 (x8, y9))
        refine z_join (Y := Unit) (pcJ := 55) (Lj := fun y11 => [(0, .ref (ad 0)), (1, .int x1), (2, .int x8)]) (sj := fun y11 => []) (fun y11 => ?_) (fun j12 hj12 => ?_)
        · refine z_iconst (pc := 55) hE dX12_day_55 qM_iconst_0 ?_
          exact z_sub [0, 1, 2] rfl (hj10 ((0 : Int32)))
        refine z_if_eq (pc := 39) hE 55 rfl dX12_day_39 ?_ ?_
        · exact z_sub [1, 2, 0] rfl (hj12 ())
        · refine z_aload_n (pc := 42) hE 1 0 rfl rfl dX12_day_42 ?_
          refine z_bipush (pc := 43) hE dX12_day_43 qM_bipush_59 ?_
          refine z_callVi (pc := 45) (st := []) [.int ((59 : Int32))] hE kk_RX12_200 (c_X12_takes ((59 : Int32))) lM_0 rfl rfl rfl (Nat.le_of_ble_eq_true rfl) (by decide) dX12_day_45 (fun x13 => ?_)
          refine z_if_eq (pc := 48) hE 55 rfl dX12_day_48 ?_ ?_
          · exact z_sub [1, 2, 0] rfl (hj12 ())
          · refine z_iconst (pc := 51) hE dX12_day_51 qM_iconst_1 ?_
            refine z_goto (pc := 52) hE 56 rfl dX12_day_52 ?_
            exact z_sub [1, 2, 0] rfl (hj10 ((1 : Int32)))
    · refine z_aload_n (pc := 60) hE 0 0 rfl rfl dX12_day_60 ?_
      refine z_iload_n (pc := 61) hE 1 1 rfl rfl dX12_day_61 ?_
      refine z_bipush (pc := 62) hE dX12_day_62 qM_bipush_60 ?_
      refine z_iload_n (pc := 64) hE 2 2 rfl rfl dX12_day_64 ?_
      refine z_callVi (pc := 65) (st := []) [.int x1, .int ((60 : Int32)), .int e7] hE kk_RX12_204 (c_X12_faultOf x1 ((60 : Int32)) e7) lM_0 rfl rfl rfl (Nat.le_of_ble_eq_true rfl) (by decide) dX12_day_65 (fun x14 => ?_)
      refine z_istore (L' := [(4, .int x14), (0, .ref (ad 0)), (1, .int x1), (2, .int e7)]) (pc := 68) hE (by decide) rfl dX12_day_68 ?_
      refine z_iload (pc := 70) hE 0 rfl dX12_day_70 ?_
      refine z_if_ge (pc := 72) hE 78 rfl dX12_day_72 ?_ ?_
      · refine z_aload_n (pc := 78) hE 1 0 rfl rfl dX12_day_78 ?_
        refine z_callVv (pc := 79) (st := []) [] hE kk_RX12_353 (c_X12_putsBy) lM_0 rfl rfl rfl (Nat.le_of_ble_eq_true rfl) (by decide) dX12_day_79 (fun x15 => ?_)
        refine z_aload_n (pc := 82) hE 1 0 rfl rfl dX12_day_82 ?_
        refine z_callVv (pc := 83) (st := []) [] hE kk_RX12_377 (c_X12_startsCounting) lM_0 rfl rfl rfl (Nat.le_of_ble_eq_true rfl) (by decide) dX12_day_83 (fun x16 => ?_)
        refine z_iconst (pc := 86) hE dX12_day_86 qM_iconst_0 ?_
        refine z_istore (L' := [(5, .int ((0 : Int32))), (4, .int x14), (0, .ref (ad 0)), (1, .int x1), (2, .int e7)]) (pc := 87) hE (by decide) rfl dX12_day_87 ?_
        refine z_sub (L' := [(0, .ref (ad 0)), (5, .int ((0 : Int32)))]) [2, 0] rfl ?_
        refine z_loop (V := Int32) (X := Int32) (hd := 89) (ex := 113) (Lh := fun v17 => [(0, .ref (ad 0)), (5, .int v17)]) (Lx := fun e20 => [(0, .ref (ad 0)), (5, .int e20)]) (fun rc19 k18 hrc19 hk18 v17 => ?_) zNF ((0 : Int32)) _ (fun e20 => ?_)
        · unfold p_X12_day_b89
          refine z_iload (pc := 89) hE 1 rfl dX12_day_89 ?_
          refine z_aload_n (pc := 91) hE 0 0 rfl rfl dX12_day_91 ?_
          refine z_geti (pc := 92) hE fk_RX12_388 lM_0 rfl dX12_day_92 (fun x21 => ?_)
          refine z_icmp_ge (pc := 95) hE 113 rfl dX12_day_95 ?_ ?_
          · exact z_sub [0, 1] rfl (hk18 v17)
          · refine z_aload_n (pc := 98) hE 0 0 rfl rfl dX12_day_98 ?_
            refine z_iload (pc := 99) hE 1 rfl dX12_day_99 ?_
            refine z_callVi (pc := 101) (st := []) [.int v17] hE kk_RX12_396 (c_X12_does v17) lM_0 rfl rfl rfl (Nat.le_of_ble_eq_true rfl) (by decide) dX12_day_101 (fun x22 => ?_)
            refine z_if_eq (pc := 104) hE 113 rfl dX12_day_104 ?_ ?_
            · exact z_sub [0, 1] rfl (hk18 v17)
            · refine z_iinc (L' := [(5, .int (v17 + (1 : Int32))), (0, .ref (ad 0))]) (pc := 107) hE 1 rfl (zinc qM_iconst_1) (by decide) rfl dX12_day_107 ?_
              refine z_goto (pc := 110) hE 89 rfl dX12_day_110 ?_
              exact z_sub [1, 0] rfl (hrc19 (v17 + (1 : Int32)))
        · refine z_aload_n (pc := 113) hE 0 0 rfl rfl dX12_day_113 ?_
          refine z_iconst (pc := 114) hE dX12_day_114 qM_iconst_0 ?_
          refine z_puti (pc := 115) hE fk_RX12_125 lM_0 rfl dX12_day_115 ?_
          refine z_aload_n (pc := 118) hE 0 0 rfl rfl dX12_day_118 ?_
          refine z_iload (pc := 119) hE 1 rfl dX12_day_119 ?_
          refine z_aload_n (pc := 121) hE 0 0 rfl rfl dX12_day_121 ?_
          refine z_geti (pc := 122) hE fk_RX12_388 lM_0 rfl dX12_day_122 (fun x23 => ?_)
          refine z_join (Y := Int32) (pcJ := 133) (Lj := fun y24 => [(0, .ref (ad 0)), (5, .int e20)]) (sj := fun y24 => [.int y24, .ref (ad 0)]) (fun y24 => ?_) (fun j25 hj25 => ?_)
          · refine z_callSi (pc := 133) (st := [.ref (ad 0)]) [.int y24] hE kk_RX12_156 (c_X12_flag y24) rfl rfl (Nat.le_of_ble_eq_true rfl) (by decide) dX12_day_133 (fun x26 => ?_)
            refine z_i2l (pc := 136) hE dX12_day_136 ?_
            refine z_callVv (pc := 137) (st := []) [.long x26.toInt64] hE kk_RX12_384 (c_X12_enters x26.toInt64) lM_0 rfl rfl rfl (Nat.le_of_ble_eq_true rfl) (by decide) dX12_day_137 (fun x27 => ?_)
            refine z_aload_n (pc := 140) hE 0 0 rfl rfl dX12_day_140 ?_
            refine z_aload_n (pc := 141) hE 0 0 rfl rfl dX12_day_141 ?_
            refine z_geti (pc := 142) hE fk_RX12_329 lM_0 rfl dX12_day_142 (fun x28 => ?_)
            refine z_i2l (pc := 145) hE dX12_day_145 ?_
            refine z_callVv (pc := 146) (st := []) [.long x28.toInt64] hE kk_RX12_384 (c_X12_enters x28.toInt64) lM_0 rfl rfl rfl (Nat.le_of_ble_eq_true rfl) (by decide) dX12_day_146 (fun x29 => ?_)
            refine z_iload (pc := 149) hE 1 rfl dX12_day_149 ?_
            refine z_if_le (pc := 151) hE 163 rfl dX12_day_151 ?_ ?_
            · refine z_iconst (pc := 163) hE dX12_day_163 qM_iconst_0 ?_
              exact z_ireturn (pc := 164) hE hr dX12_day_164
            · refine z_aload_n (pc := 154) hE 0 0 rfl rfl dX12_day_154 ?_
              refine z_iload (pc := 155) hE 1 rfl dX12_day_155 ?_
              refine z_callVi (pc := 157) (st := []) [.int e20] hE kk_RX12_301 (c_X12_adds e20) lM_0 rfl rfl rfl (Nat.le_of_ble_eq_true rfl) (by decide) dX12_day_157 (fun x30 => ?_)
              refine z_goto (pc := 160) hE 164 rfl dX12_day_160 ?_
              exact z_ireturn (pc := 164) hE hr dX12_day_164
          refine z_icmp_ge (pc := 125) hE 132 rfl dX12_day_125 ?_ ?_
          · refine z_iconst (pc := 132) hE dX12_day_132 qM_iconst_0 ?_
            exact z_sub [0, 1] rfl (hj25 ((0 : Int32)))
          · refine z_iconst (pc := 128) hE dX12_day_128 qM_iconst_1 ?_
            refine z_goto (pc := 129) hE 133 rfl dX12_day_129 ?_
            exact z_sub [0, 1] rfl (hj25 ((1 : Int32)))
      · refine z_iload (pc := 75) hE 0 rfl dX12_day_75 ?_
        exact z_ireturn (pc := 77) hE hr dX12_day_77
  refine z_if_le (pc := 20) hE 27 rfl dX12_day_20 ?_ ?_
  · refine z_iconst (pc := 27) hE dX12_day_27 qM_iconst_0 ?_
    exact z_sub [2, 1, 0] rfl (hj3 ((0 : Int32)))
  · refine z_iconst (pc := 23) hE dX12_day_23 qM_iconst_1 ?_
    refine z_goto (pc := 24) hE 28 rfl dX12_day_24 ?_
    exact z_sub [2, 1, 0] rfl (hj3 ((1 : Int32)))
set_option maxRecDepth 100000 in
set_option maxHeartbeats 4000000 in
theorem c_X12_touches {l : Launch} {ad : Nat → Nat} {ca : FieldType → ClassId} {D : va_G} {sa sv : Nat → Nat}  : zC l yX12_touches cX12_touches 4 (some .int) 2 layM ad ca D (xtM ad sa sv) [.ref (ad 0)] zvi (p_X12_touches) := by
  refine z_enter (by decide) (Nat.le_of_ble_eq_true rfl) (fun E hE hl0 hcD hr => ?_)
  have hE : zok layM ad (xtM ad sa sv) E cX12_touches 4 RX12 2 := hE
  show Z layM ad E 4 (zFin layM ad E zvi) 0 [(0, .ref (ad 0))] [] (p_X12_touches)
  unfold p_X12_touches
  refine z_aload_n (pc := 0) hE 0 0 rfl rfl dX12_touches_0 ?_
  refine z_iconst (pc := 1) hE dX12_touches_1 qM_iconst_0 ?_
  refine z_puti (pc := 2) hE fk_RX12_117 lM_0 rfl dX12_touches_2 ?_
  refine z_aload_n (pc := 5) hE 0 0 rfl rfl dX12_touches_5 ?_
  refine z_iconst (pc := 6) hE dX12_touches_6 qM_iconst_0 ?_
  refine z_puti (pc := 7) hE fk_RX12_125 lM_0 rfl dX12_touches_7 ?_
  refine z_iconst (pc := 10) hE dX12_touches_10 qM_iconst_0 ?_
  refine z_istore_n (L' := [(1, .int ((0 : Int32))), (0, .ref (ad 0))]) (pc := 11) hE 1 rfl (by decide) rfl dX12_touches_11 ?_
  refine z_iconst (pc := 12) hE dX12_touches_12 qM_iconst_0 ?_
  refine z_istore_n (L' := [(2, .int ((0 : Int32))), (1, .int ((0 : Int32))), (0, .ref (ad 0))]) (pc := 13) hE 2 rfl (by decide) rfl dX12_touches_13 ?_
  refine z_sub (L' := [(0, .ref (ad 0)), (1, .int ((0 : Int32))), (2, .int ((0 : Int32)))]) [2, 1, 0] rfl ?_
  refine z_loop (V := (Int32 × Int32)) (X := Int32) (hd := 14) (ex := 106) (Lh := fun v1 => [(0, .ref (ad 0)), (1, .int v1.1), (2, .int v1.2)]) (Lx := fun e4 => [(1, .int e4)]) (fun rc3 k2 hrc3 hk2 v1 => ?_) zNF ((0 : Int32), (0 : Int32)) _ (fun e4 => ?_)
  · unfold p_X12_touches_b14
    refine z_iload_n (pc := 14) hE 2 2 rfl rfl dX12_touches_14 ?_
    refine z_aload_n (pc := 15) hE 0 0 rfl rfl dX12_touches_15 ?_
    refine z_geti (pc := 16) hE fk_RX12_135 lM_0 rfl dX12_touches_16 (fun x5 => ?_)
    refine z_icmp_ge (pc := 19) hE 106 rfl dX12_touches_19 ?_ ?_
    · exact z_sub [1] rfl (hk2 v1.1)
    · refine z_iload_n (pc := 22) hE 2 2 rfl rfl dX12_touches_22 ?_
      refine z_iconst (pc := 23) hE dX12_touches_23 qM_iconst_1 ?_
      refine z_iadd (pc := 24) hE dX12_touches_24 ?_
      refine z_istore_n (L' := [(3, .int (v1.2 + ((1 : Int32)))), (0, .ref (ad 0)), (1, .int v1.1), (2, .int v1.2)]) (pc := 25) hE 3 rfl (by decide) rfl dX12_touches_25 ?_
      refine z_sub (L' := [(0, .ref (ad 0)), (1, .int v1.1), (2, .int v1.2), (3, .int (v1.2 + ((1 : Int32))))]) [1, 2, 3, 0] rfl ?_
      refine z_loop (V := (Int32 × Int32)) (X := Int32) (hd := 26) (ex := 100) (Lh := fun v6 => [(0, .ref (ad 0)), (1, .int v6.1), (2, .int v1.2), (3, .int v6.2)]) (Lx := fun e9 => [(0, .ref (ad 0)), (1, .int e9), (2, .int v1.2)]) (fun rc8 k7 hrc8 hk7 v6 => ?_) zNF (v1.1, v1.2 + ((1 : Int32))) _ (fun e9 => ?_)
      · unfold p_X12_touches_b26
        refine z_iload_n (pc := 26) hE 3 3 rfl rfl dX12_touches_26 ?_
        refine z_aload_n (pc := 27) hE 0 0 rfl rfl dX12_touches_27 ?_
        refine z_geti (pc := 28) hE fk_RX12_135 lM_0 rfl dX12_touches_28 (fun x10 => ?_)
        refine z_icmp_ge (pc := 31) hE 100 rfl dX12_touches_31 ?_ ?_
        · exact z_sub [0, 1, 2] rfl (hk7 v6.1)
        · refine z_aload_n (pc := 34) hE 0 0 rfl rfl dX12_touches_34 ?_
          refine z_iload_n (pc := 35) hE 2 2 rfl rfl dX12_touches_35 ?_
          refine z_callVi (pc := 36) (st := []) [.int v1.2] hE kk_RX12_268 (c_X12_how v1.2) lM_0 rfl rfl rfl (Nat.le_of_ble_eq_true rfl) (by decide) dX12_touches_36 (fun x11 => ?_)
          refine z_iconst (pc := 39) hE dX12_touches_39 qM_iconst_2 ?_
          refine z_join (Y := Int32) (pcJ := 94) (Lj := fun y12 => [(0, .ref (ad 0)), (1, .int y12), (2, .int v1.2), (3, .int v6.2)]) (sj := fun y12 => []) (fun y12 => ?_) (fun j13 hj13 => ?_)
          · refine z_iinc (L' := [(3, .int (v6.2 + (1 : Int32))), (0, .ref (ad 0)), (1, .int y12), (2, .int v1.2)]) (pc := 94) hE 3 rfl (zinc qM_iconst_1) (by decide) rfl dX12_touches_94 ?_
            refine z_goto (pc := 97) hE 26 rfl dX12_touches_97 ?_
            exact z_sub [1, 2, 3, 0] rfl (hrc8 (y12, v6.2 + (1 : Int32)))
          refine z_icmp_ne (pc := 40) hE 94 rfl dX12_touches_40 ?_ ?_
          · exact z_sub [0, 1, 2, 3] rfl (hj13 v6.1)
          · refine z_aload_n (pc := 43) hE 0 0 rfl rfl dX12_touches_43 ?_
            refine z_iload_n (pc := 44) hE 3 3 rfl rfl dX12_touches_44 ?_
            refine z_callVi (pc := 45) (st := []) [.int v6.2] hE kk_RX12_268 (c_X12_how v6.2) lM_0 rfl rfl rfl (Nat.le_of_ble_eq_true rfl) (by decide) dX12_touches_45 (fun x14 => ?_)
            refine z_iconst (pc := 48) hE dX12_touches_48 qM_iconst_2 ?_
            refine z_icmp_ne (pc := 49) hE 94 rfl dX12_touches_49 ?_ ?_
            · exact z_sub [0, 1, 2, 3] rfl (hj13 v6.1)
            · refine z_aload_n (pc := 52) hE 0 0 rfl rfl dX12_touches_52 ?_
              refine z_aload_n (pc := 53) hE 0 0 rfl rfl dX12_touches_53 ?_
              refine z_getr (pc := 54) hE fk_RX12_32 lM_0 rfl dX12_touches_54 ?_
              refine z_iload_n (pc := 57) hE 2 2 rfl rfl dX12_touches_57 ?_
              refine z_callSi (pc := 58) (st := [.ref (ad 0)]) [.ref (ad 8), .int v1.2] hE kk_RX12_293 (c_X12_ringOf 8 lM_8 v1.2) rfl rfl (Nat.le_of_ble_eq_true rfl) (by decide) dX12_touches_58 (fun x15 => ?_)
              refine z_aload_n (pc := 61) hE 0 0 rfl rfl dX12_touches_61 ?_
              refine z_getr (pc := 62) hE fk_RX12_32 lM_0 rfl dX12_touches_62 ?_
              refine z_iload_n (pc := 65) hE 3 3 rfl rfl dX12_touches_65 ?_
              refine z_callSi (pc := 66) (st := [.int x15, .ref (ad 0)]) [.ref (ad 8), .int v6.2] hE kk_RX12_293 (c_X12_ringOf 8 lM_8 v6.2) rfl rfl (Nat.le_of_ble_eq_true rfl) (by decide) dX12_touches_66 (fun x16 => ?_)
              refine z_callVi (pc := 69) (st := []) [.int x15, .int x16] hE kk_RX12_346 (c_X12_touch x15 x16) lM_0 rfl rfl rfl (Nat.le_of_ble_eq_true rfl) (by decide) dX12_touches_69 (fun x17 => ?_)
              refine z_if_eq (pc := 72) hE 94 rfl dX12_touches_72 ?_ ?_
              · exact z_sub [0, 1, 2, 3] rfl (hj13 v6.1)
              · refine z_iload_n (pc := 75) hE 1 1 rfl rfl dX12_touches_75 ?_
                refine z_join (Y := Unit) (pcJ := 91) (Lj := fun y18 => [(0, .ref (ad 0)), (1, .int v6.1), (2, .int v1.2), (3, .int v6.2)]) (sj := fun y18 => []) (fun y18 => ?_) (fun j19 hj19 => ?_)
                · refine z_iinc (L' := [(1, .int (v6.1 + (1 : Int32))), (0, .ref (ad 0)), (2, .int v1.2), (3, .int v6.2)]) (pc := 91) hE 1 rfl (zinc qM_iconst_1) (by decide) rfl dX12_touches_91 ?_
                  exact z_sub [1, 0, 2, 3] rfl (hj13 (v6.1 + (1 : Int32)))
                refine z_if_ne (pc := 76) hE 91 rfl dX12_touches_76 ?_ ?_
                · exact z_sub [0, 1, 2, 3] rfl (hj19 ())
                · refine z_aload_n (pc := 79) hE 0 0 rfl rfl dX12_touches_79 ?_
                  refine z_iload_n (pc := 80) hE 2 2 rfl rfl dX12_touches_80 ?_
                  refine z_i2l (pc := 81) hE dX12_touches_81 ?_
                  refine z_callVv (pc := 82) (st := []) [.long v1.2.toInt64] hE kk_RX12_384 (c_X12_enters v1.2.toInt64) lM_0 rfl rfl rfl (Nat.le_of_ble_eq_true rfl) (by decide) dX12_touches_82 (fun x20 => ?_)
                  refine z_aload_n (pc := 85) hE 0 0 rfl rfl dX12_touches_85 ?_
                  refine z_iload_n (pc := 86) hE 3 3 rfl rfl dX12_touches_86 ?_
                  refine z_i2l (pc := 87) hE dX12_touches_87 ?_
                  refine z_callVv (pc := 88) (st := []) [.long v6.2.toInt64] hE kk_RX12_384 (c_X12_enters v6.2.toInt64) lM_0 rfl rfl rfl (Nat.le_of_ble_eq_true rfl) (by decide) dX12_touches_88 (fun x21 => ?_)
                  exact z_sub [0, 1, 2, 3] rfl (hj19 ())
      · refine z_iinc (L' := [(2, .int (v1.2 + (1 : Int32))), (0, .ref (ad 0)), (1, .int e9)]) (pc := 100) hE 2 rfl (zinc qM_iconst_1) (by decide) rfl dX12_touches_100 ?_
        refine z_goto (pc := 103) hE 14 rfl dX12_touches_103 ?_
        exact z_sub [1, 2, 0] rfl (hrc3 (e9, v1.2 + (1 : Int32)))
  · refine z_iload_n (pc := 106) hE 0 1 rfl rfl dX12_touches_106 ?_
    exact z_ireturn (pc := 107) hE hr dX12_touches_107
set_option maxRecDepth 100000 in
set_option maxHeartbeats 4000000 in
theorem c_X12_isBreach {l : Launch} {ad : Nat → Nat} {ca : FieldType → ClassId} {D : va_G} {sa sv : Nat → Nat} (a1 : Int32) (a2 : Int32) (a3 : Int32) (a4 : Int32) : zC l yX12_isBreach cX12_isBreach 5 (some .boolean) 1 layM ad ca D (xtM ad sa sv) [.ref (ad 0), .int a1, .int a2, .int a3, .int a4] zvi (p_X12_isBreach a1 a2 a3 a4) := by
  refine z_enter (by decide) (Nat.le_of_ble_eq_true rfl) (fun E hE hl0 hcD hr => ?_)
  have hE : zok layM ad (xtM ad sa sv) E cX12_isBreach 5 RX12 1 := hE
  show Z layM ad E 5 (zFin layM ad E zvi) 0 [(0, .ref (ad 0)), (1, .int a1), (2, .int a2), (3, .int a3), (4, .int a4)] [] (p_X12_isBreach a1 a2 a3 a4)
  unfold p_X12_isBreach
  refine z_aload_n (pc := 0) hE 0 0 rfl rfl dX12_isBreach_0 ?_
  refine z_getr (pc := 1) hE fk_RX12_17 lM_0 rfl dX12_isBreach_1 ?_
  refine z_iload_n (pc := 4) hE 2 2 rfl rfl dX12_isBreach_4 ?_
  refine z_iald (pc := 5) hE lM_3 dX12_isBreach_5 (fun x1 => ?_)
  refine z_aload_n (pc := 6) hE 0 0 rfl rfl dX12_isBreach_6 ?_
  refine z_getr (pc := 7) hE fk_RX12_17 lM_0 rfl dX12_isBreach_7 ?_
  refine z_iload (pc := 10) hE 4 rfl dX12_isBreach_10 ?_
  refine z_iald (pc := 12) hE lM_3 dX12_isBreach_12 (fun x2 => ?_)
  refine z_icmp_ne (pc := 13) hE 49 rfl dX12_isBreach_13 ?_ ?_
  · refine z_iconst (pc := 49) hE dX12_isBreach_49 qM_iconst_0 ?_
    exact z_zreturn (pc := 50) hE hr dX12_isBreach_50
  · refine z_aload_n (pc := 16) hE 0 0 rfl rfl dX12_isBreach_16 ?_
    refine z_getr (pc := 17) hE fk_RX12_13 lM_0 rfl dX12_isBreach_17 ?_
    refine z_iload_n (pc := 20) hE 2 2 rfl rfl dX12_isBreach_20 ?_
    refine z_iald (pc := 21) hE lM_2 dX12_isBreach_21 (fun x3 => ?_)
    refine z_aload_n (pc := 22) hE 0 0 rfl rfl dX12_isBreach_22 ?_
    refine z_getr (pc := 23) hE fk_RX12_13 lM_0 rfl dX12_isBreach_23 ?_
    refine z_iload (pc := 26) hE 4 rfl dX12_isBreach_26 ?_
    refine z_iald (pc := 28) hE lM_2 dX12_isBreach_28 (fun x4 => ?_)
    refine z_icmp_le (pc := 29) hE 49 rfl dX12_isBreach_29 ?_ ?_
    · refine z_iconst (pc := 49) hE dX12_isBreach_49 qM_iconst_0 ?_
      exact z_zreturn (pc := 50) hE hr dX12_isBreach_50
    · refine z_aload_n (pc := 32) hE 0 0 rfl rfl dX12_isBreach_32 ?_
      refine z_iload_n (pc := 33) hE 1 1 rfl rfl dX12_isBreach_33 ?_
      refine z_callVi (pc := 34) (st := []) [.int a1] hE kk_RX12_287 (c_X12_heavy a1) lM_0 rfl rfl rfl (Nat.le_of_ble_eq_true rfl) (by decide) dX12_isBreach_34 (fun x5 => ?_)
      refine z_aload_n (pc := 37) hE 0 0 rfl rfl dX12_isBreach_37 ?_
      refine z_iload_n (pc := 38) hE 3 3 rfl rfl dX12_isBreach_38 ?_
      refine z_callVi (pc := 39) (st := [.int x5]) [.int a3] hE kk_RX12_287 (c_X12_heavy a3) lM_0 rfl rfl rfl (Nat.le_of_ble_eq_true rfl) (by decide) dX12_isBreach_39 (fun x6 => ?_)
      refine z_icmp_le (pc := 42) hE 49 rfl dX12_isBreach_42 ?_ ?_
      · refine z_iconst (pc := 49) hE dX12_isBreach_49 qM_iconst_0 ?_
        exact z_zreturn (pc := 50) hE hr dX12_isBreach_50
      · refine z_iconst (pc := 45) hE dX12_isBreach_45 qM_iconst_1 ?_
        refine z_goto (pc := 46) hE 50 rfl dX12_isBreach_46 ?_
        exact z_zreturn (pc := 50) hE hr dX12_isBreach_50
set_option maxRecDepth 100000 in
set_option maxHeartbeats 4000000 in
theorem c_X12_breaches {l : Launch} {ad : Nat → Nat} {ca : FieldType → ClassId} {D : va_G} {sa sv : Nat → Nat}  : zC l yX12_breaches cX12_breaches 4 (some .int) 2 layM ad ca D (xtM ad sa sv) [.ref (ad 0)] zvi (p_X12_breaches) := by
  refine z_enter (by decide) (Nat.le_of_ble_eq_true rfl) (fun E hE hl0 hcD hr => ?_)
  have hE : zok layM ad (xtM ad sa sv) E cX12_breaches 4 RX12 2 := hE
  show Z layM ad E 4 (zFin layM ad E zvi) 0 [(0, .ref (ad 0))] [] (p_X12_breaches)
  unfold p_X12_breaches
  refine z_aload_n (pc := 0) hE 0 0 rfl rfl dX12_breaches_0 ?_
  refine z_iconst (pc := 1) hE dX12_breaches_1 qM_iconst_0 ?_
  refine z_puti (pc := 2) hE fk_RX12_117 lM_0 rfl dX12_breaches_2 ?_
  refine z_aload_n (pc := 5) hE 0 0 rfl rfl dX12_breaches_5 ?_
  refine z_iconst (pc := 6) hE dX12_breaches_6 qM_iconst_0 ?_
  refine z_puti (pc := 7) hE fk_RX12_125 lM_0 rfl dX12_breaches_7 ?_
  refine z_iconst (pc := 10) hE dX12_breaches_10 qM_iconst_0 ?_
  refine z_istore_n (L' := [(1, .int ((0 : Int32))), (0, .ref (ad 0))]) (pc := 11) hE 1 rfl (by decide) rfl dX12_breaches_11 ?_
  refine z_iconst (pc := 12) hE dX12_breaches_12 qM_iconst_0 ?_
  refine z_istore_n (L' := [(2, .int ((0 : Int32))), (1, .int ((0 : Int32))), (0, .ref (ad 0))]) (pc := 13) hE 2 rfl (by decide) rfl dX12_breaches_13 ?_
  refine z_sub (L' := [(0, .ref (ad 0)), (1, .int ((0 : Int32))), (2, .int ((0 : Int32)))]) [2, 1, 0] rfl ?_
  refine z_loop (V := (Int32 × Int32)) (X := Int32) (hd := 14) (ex := 106) (Lh := fun v1 => [(0, .ref (ad 0)), (1, .int v1.1), (2, .int v1.2)]) (Lx := fun e4 => [(1, .int e4)]) (fun rc3 k2 hrc3 hk2 v1 => ?_) zNF ((0 : Int32), (0 : Int32)) _ (fun e4 => ?_)
  · unfold p_X12_breaches_b14
    refine z_iload_n (pc := 14) hE 2 2 rfl rfl dX12_breaches_14 ?_
    refine z_aload_n (pc := 15) hE 0 0 rfl rfl dX12_breaches_15 ?_
    refine z_geti (pc := 16) hE fk_RX12_135 lM_0 rfl dX12_breaches_16 (fun x5 => ?_)
    refine z_icmp_ge (pc := 19) hE 106 rfl dX12_breaches_19 ?_ ?_
    · exact z_sub [1] rfl (hk2 v1.1)
    · refine z_iconst (pc := 22) hE dX12_breaches_22 qM_iconst_0 ?_
      refine z_istore_n (L' := [(3, .int ((0 : Int32))), (0, .ref (ad 0)), (1, .int v1.1), (2, .int v1.2)]) (pc := 23) hE 3 rfl (by decide) rfl dX12_breaches_23 ?_
      refine z_sub (L' := [(0, .ref (ad 0)), (1, .int v1.1), (2, .int v1.2), (3, .int ((0 : Int32)))]) [1, 2, 3, 0] rfl ?_
      refine z_loop (V := (Int32 × Int32)) (X := Int32) (hd := 24) (ex := 100) (Lh := fun v6 => [(0, .ref (ad 0)), (1, .int v6.1), (2, .int v1.2), (3, .int v6.2)]) (Lx := fun e9 => [(0, .ref (ad 0)), (1, .int e9), (2, .int v1.2)]) (fun rc8 k7 hrc8 hk7 v6 => ?_) zNF (v1.1, (0 : Int32)) _ (fun e9 => ?_)
      · unfold p_X12_breaches_b24
        refine z_iload_n (pc := 24) hE 3 3 rfl rfl dX12_breaches_24 ?_
        refine z_aload_n (pc := 25) hE 0 0 rfl rfl dX12_breaches_25 ?_
        refine z_geti (pc := 26) hE fk_RX12_135 lM_0 rfl dX12_breaches_26 (fun x10 => ?_)
        refine z_icmp_ge (pc := 29) hE 100 rfl dX12_breaches_29 ?_ ?_
        · exact z_sub [0, 1, 2] rfl (hk7 v6.1)
        · refine z_aload_n (pc := 32) hE 0 0 rfl rfl dX12_breaches_32 ?_
          refine z_iload_n (pc := 33) hE 2 2 rfl rfl dX12_breaches_33 ?_
          refine z_callVi (pc := 34) (st := []) [.int v1.2] hE kk_RX12_268 (c_X12_how v1.2) lM_0 rfl rfl rfl (Nat.le_of_ble_eq_true rfl) (by decide) dX12_breaches_34 (fun x11 => ?_)
          refine z_iconst (pc := 37) hE dX12_breaches_37 qM_iconst_2 ?_
          refine z_join (Y := Int32) (pcJ := 94) (Lj := fun y12 => [(0, .ref (ad 0)), (1, .int y12), (2, .int v1.2), (3, .int v6.2)]) (sj := fun y12 => []) (fun y12 => ?_) (fun j13 hj13 => ?_)
          · refine z_iinc (L' := [(3, .int (v6.2 + (1 : Int32))), (0, .ref (ad 0)), (1, .int y12), (2, .int v1.2)]) (pc := 94) hE 3 rfl (zinc qM_iconst_1) (by decide) rfl dX12_breaches_94 ?_
            refine z_goto (pc := 97) hE 24 rfl dX12_breaches_97 ?_
            exact z_sub [1, 2, 3, 0] rfl (hrc8 (y12, v6.2 + (1 : Int32)))
          refine z_icmp_ne (pc := 38) hE 94 rfl dX12_breaches_38 ?_ ?_
          · exact z_sub [0, 1, 2, 3] rfl (hj13 v6.1)
          · refine z_aload_n (pc := 41) hE 0 0 rfl rfl dX12_breaches_41 ?_
            refine z_iload_n (pc := 42) hE 3 3 rfl rfl dX12_breaches_42 ?_
            refine z_callVi (pc := 43) (st := []) [.int v6.2] hE kk_RX12_268 (c_X12_how v6.2) lM_0 rfl rfl rfl (Nat.le_of_ble_eq_true rfl) (by decide) dX12_breaches_43 (fun x14 => ?_)
            refine z_iconst (pc := 46) hE dX12_breaches_46 qM_iconst_2 ?_
            refine z_icmp_ne (pc := 47) hE 94 rfl dX12_breaches_47 ?_ ?_
            · exact z_sub [0, 1, 2, 3] rfl (hj13 v6.1)
            · refine z_aload_n (pc := 50) hE 0 0 rfl rfl dX12_breaches_50 ?_
              refine z_iload_n (pc := 51) hE 2 2 rfl rfl dX12_breaches_51 ?_
              refine z_aload_n (pc := 52) hE 0 0 rfl rfl dX12_breaches_52 ?_
              refine z_getr (pc := 53) hE fk_RX12_32 lM_0 rfl dX12_breaches_53 ?_
              refine z_iload_n (pc := 56) hE 2 2 rfl rfl dX12_breaches_56 ?_
              refine z_callSi (pc := 57) (st := [.int v1.2, .ref (ad 0)]) [.ref (ad 8), .int v1.2] hE kk_RX12_293 (c_X12_ringOf 8 lM_8 v1.2) rfl rfl (Nat.le_of_ble_eq_true rfl) (by decide) dX12_breaches_57 (fun x15 => ?_)
              refine z_iload_n (pc := 60) hE 3 3 rfl rfl dX12_breaches_60 ?_
              refine z_aload_n (pc := 61) hE 0 0 rfl rfl dX12_breaches_61 ?_
              refine z_getr (pc := 62) hE fk_RX12_32 lM_0 rfl dX12_breaches_62 ?_
              refine z_iload_n (pc := 65) hE 3 3 rfl rfl dX12_breaches_65 ?_
              refine z_callSi (pc := 66) (st := [.int v6.2, .int x15, .int v1.2, .ref (ad 0)]) [.ref (ad 8), .int v6.2] hE kk_RX12_293 (c_X12_ringOf 8 lM_8 v6.2) rfl rfl (Nat.le_of_ble_eq_true rfl) (by decide) dX12_breaches_66 (fun x16 => ?_)
              refine z_callVi (pc := 69) (st := []) [.int v1.2, .int x15, .int v6.2, .int x16] hE kk_RX12_399 (c_X12_isBreach v1.2 x15 v6.2 x16) lM_0 rfl rfl rfl (Nat.le_of_ble_eq_true rfl) (by decide) dX12_breaches_69 (fun x17 => ?_)
              refine z_if_eq (pc := 72) hE 94 rfl dX12_breaches_72 ?_ ?_
              · exact z_sub [0, 1, 2, 3] rfl (hj13 v6.1)
              · refine z_iload_n (pc := 75) hE 1 1 rfl rfl dX12_breaches_75 ?_
                refine z_join (Y := Unit) (pcJ := 91) (Lj := fun y18 => [(0, .ref (ad 0)), (1, .int v6.1), (2, .int v1.2), (3, .int v6.2)]) (sj := fun y18 => []) (fun y18 => ?_) (fun j19 hj19 => ?_)
                · refine z_iinc (L' := [(1, .int (v6.1 + (1 : Int32))), (0, .ref (ad 0)), (2, .int v1.2), (3, .int v6.2)]) (pc := 91) hE 1 rfl (zinc qM_iconst_1) (by decide) rfl dX12_breaches_91 ?_
                  exact z_sub [1, 0, 2, 3] rfl (hj13 (v6.1 + (1 : Int32)))
                refine z_if_ne (pc := 76) hE 91 rfl dX12_breaches_76 ?_ ?_
                · exact z_sub [0, 1, 2, 3] rfl (hj19 ())
                · refine z_aload_n (pc := 79) hE 0 0 rfl rfl dX12_breaches_79 ?_
                  refine z_iload_n (pc := 80) hE 2 2 rfl rfl dX12_breaches_80 ?_
                  refine z_i2l (pc := 81) hE dX12_breaches_81 ?_
                  refine z_callVv (pc := 82) (st := []) [.long v1.2.toInt64] hE kk_RX12_384 (c_X12_enters v1.2.toInt64) lM_0 rfl rfl rfl (Nat.le_of_ble_eq_true rfl) (by decide) dX12_breaches_82 (fun x20 => ?_)
                  refine z_aload_n (pc := 85) hE 0 0 rfl rfl dX12_breaches_85 ?_
                  refine z_iload_n (pc := 86) hE 3 3 rfl rfl dX12_breaches_86 ?_
                  refine z_i2l (pc := 87) hE dX12_breaches_87 ?_
                  refine z_callVv (pc := 88) (st := []) [.long v6.2.toInt64] hE kk_RX12_384 (c_X12_enters v6.2.toInt64) lM_0 rfl rfl rfl (Nat.le_of_ble_eq_true rfl) (by decide) dX12_breaches_88 (fun x21 => ?_)
                  exact z_sub [0, 1, 2, 3] rfl (hj19 ())
      · refine z_iinc (L' := [(2, .int (v1.2 + (1 : Int32))), (0, .ref (ad 0)), (1, .int e9)]) (pc := 100) hE 2 rfl (zinc qM_iconst_1) (by decide) rfl dX12_breaches_100 ?_
        refine z_goto (pc := 103) hE 14 rfl dX12_breaches_103 ?_
        exact z_sub [1, 2, 0] rfl (hrc3 (e9, v1.2 + (1 : Int32)))
  · refine z_iload_n (pc := 106) hE 0 1 rfl rfl dX12_breaches_106 ?_
    exact z_ireturn (pc := 107) hE hr dX12_breaches_107
set_option maxRecDepth 100000 in
set_option maxHeartbeats 4000000 in
theorem c_X12_puts {l : Launch} {ad : Nat → Nat} {ca : FieldType → ClassId} {D : va_G} {sa sv : Nat → Nat}  : zC l yX12_puts cX12_puts 2 none 0 layM ad ca D (xtM ad sa sv) [.ref (ad 0)] zvn (p_X12_puts) := by
  refine z_enter (by decide) (Nat.le_of_ble_eq_true rfl) (fun E hE hl0 hcD hr => ?_)
  have hE : zok layM ad (xtM ad sa sv) E cX12_puts 2 RX12 0 := hE
  show Z layM ad E 2 (zFin layM ad E zvn) 0 [(0, .ref (ad 0))] [] (p_X12_puts)
  unfold p_X12_puts
  refine z_iconst (pc := 0) hE dX12_puts_0 qM_iconst_0 ?_
  refine z_istore_n (L' := [(1, .int ((0 : Int32))), (0, .ref (ad 0))]) (pc := 1) hE 1 rfl (by decide) rfl dX12_puts_1 ?_
  refine z_sub (L' := [(0, .ref (ad 0)), (1, .int ((0 : Int32)))]) [1, 0] rfl ?_
  refine z_loop (V := Int32) (X := Unit) (hd := 2) (ex := 26) (Lh := fun v1 => [(0, .ref (ad 0)), (1, .int v1)]) (Lx := fun e4 => []) (fun rc3 k2 hrc3 hk2 v1 => ?_) zNF ((0 : Int32)) _ (fun e4 => ?_)
  · unfold p_X12_puts_b2
    refine z_iload_n (pc := 2) hE 1 1 rfl rfl dX12_puts_2 ?_
    refine z_bipush (pc := 3) hE dX12_puts_3 qM_bipush_43 ?_
    refine z_icmp_ge (pc := 5) hE 26 rfl dX12_puts_5 ?_ ?_
    · exact z_sub [] rfl (hk2 ())
    · refine z_aload_n (pc := 8) hE 0 0 rfl rfl dX12_puts_8 ?_
      refine z_getr (pc := 9) hE fk_RX12_35 lM_0 rfl dX12_puts_9 ?_
      refine z_iload_n (pc := 12) hE 1 1 rfl rfl dX12_puts_12 ?_
      refine z_aload_n (pc := 13) hE 0 0 rfl rfl dX12_puts_13 ?_
      refine z_getr (pc := 14) hE fk_RX12_32 lM_0 rfl dX12_puts_14 ?_
      refine z_iload_n (pc := 17) hE 1 1 rfl rfl dX12_puts_17 ?_
      refine z_iald (pc := 18) hE lM_8 dX12_puts_18 (fun x5 => ?_)
      refine z_iast (pc := 19) hE lM_9 dX12_puts_19 ?_
      refine z_iinc (L' := [(1, .int (v1 + (1 : Int32))), (0, .ref (ad 0))]) (pc := 20) hE 1 rfl (zinc qM_iconst_1) (by decide) rfl dX12_puts_20 ?_
      refine z_goto (pc := 23) hE 2 rfl dX12_puts_23 ?_
      exact z_sub [1, 0] rfl (hrc3 (v1 + (1 : Int32)))
  · exact z_return (pc := 26) hE hr dX12_puts_26
set_option maxRecDepth 100000 in
set_option maxHeartbeats 4000000 in
theorem c_X12_drifts {l : Launch} {ad : Nat → Nat} {ca : FieldType → ClassId} {D : va_G} {sa sv : Nat → Nat} (a1 : Int32) (a2 : Int32) : zC l yX12_drifts cX12_drifts 4 (some .int) 6 layM ad ca D (xtM ad sa sv) [.ref (ad 0), .int a1, .int a2] zvi (p_X12_drifts a1 a2) := by
  refine z_enter (by decide) (Nat.le_of_ble_eq_true rfl) (fun E hE hl0 hcD hr => ?_)
  have hE : zok layM ad (xtM ad sa sv) E cX12_drifts 4 RX12 6 := hE
  show Z layM ad E 4 (zFin layM ad E zvi) 0 [(0, .ref (ad 0)), (1, .int a1), (2, .int a2)] [] (p_X12_drifts a1 a2)
  unfold p_X12_drifts
  refine z_aload_n (pc := 0) hE 0 0 rfl rfl dX12_drifts_0 ?_
  refine z_iconst (pc := 1) hE dX12_drifts_1 qM_iconst_0 ?_
  refine z_puti (pc := 2) hE fk_RX12_117 lM_0 rfl dX12_drifts_2 ?_
  refine z_aload_n (pc := 5) hE 0 0 rfl rfl dX12_drifts_5 ?_
  refine z_iload_n (pc := 6) hE 1 1 rfl rfl dX12_drifts_6 ?_
  refine z_callVi (pc := 7) (st := []) [.int a1] hE kk_RX12_282 (c_X12_isBalloon a1) lM_0 rfl rfl rfl (Nat.le_of_ble_eq_true rfl) (by decide) dX12_drifts_7 (fun x1 => ?_)
  refine z_if_eq (pc := 10) hE 25 rfl dX12_drifts_10 ?_ ?_
  · refine z_iconst (pc := 25) hE dX12_drifts_25 qM_iconst_m1 ?_
    exact z_ireturn (pc := 26) hE hr dX12_drifts_26
  · refine z_iload_n (pc := 13) hE 2 2 rfl rfl dX12_drifts_13 ?_
    refine z_i2l (pc := 14) hE dX12_drifts_14 ?_
    refine z_lconst (v := (0 : Int64)) (pc := 15) hE dX12_drifts_15 (by decide) ?_
    refine z_ldc2 (pc := 16) hE wM_7 dX12_drifts_16 ?_
    refine z_callSi (pc := 19) (st := []) [.long a2.toInt64, .long ((0 : Int64)), .long ((60 : Int64))] hE kk_RX12_131 (c_X12_in a2.toInt64 ((0 : Int64)) ((60 : Int64))) rfl rfl (Nat.le_of_ble_eq_true rfl) (by decide) dX12_drifts_19 (fun x2 => ?_)
    refine z_if_ne (pc := 22) hE 27 rfl dX12_drifts_22 ?_ ?_
    · refine z_aload_n (pc := 27) hE 0 0 rfl rfl dX12_drifts_27 ?_
      refine z_callVv (pc := 28) (st := []) [] hE kk_RX12_405 (c_X12_puts) lM_0 rfl rfl rfl (Nat.le_of_ble_eq_true rfl) (by decide) dX12_drifts_28 (fun x3 => ?_)
      refine z_iconst (pc := 31) hE dX12_drifts_31 qM_iconst_0 ?_
      refine z_istore_n (L' := [(3, .int ((0 : Int32))), (0, .ref (ad 0)), (1, .int a1), (2, .int a2)]) (pc := 32) hE 3 rfl (by decide) rfl dX12_drifts_32 ?_
      refine z_sub (L' := [(0, .ref (ad 0)), (1, .int a1), (2, .int a2), (3, .int ((0 : Int32)))]) [1, 2, 3, 0] rfl ?_
      refine z_loop (V := Int32) (X := Unit) (hd := 33) (ex := 52) (Lh := fun v4 => [(0, .ref (ad 0)), (1, .int a1), (2, .int a2), (3, .int v4)]) (Lx := fun e7 => [(0, .ref (ad 0)), (1, .int a1)]) (fun rc6 k5 hrc6 hk5 v4 => ?_) zNF ((0 : Int32)) _ (fun e7 => ?_)
      · unfold p_X12_drifts_b33
        refine z_iload_n (pc := 33) hE 3 3 rfl rfl dX12_drifts_33 ?_
        refine z_iload_n (pc := 34) hE 2 2 rfl rfl dX12_drifts_34 ?_
        refine z_icmp_ge (pc := 35) hE 52 rfl dX12_drifts_35 ?_ ?_
        · exact z_sub [0, 1] rfl (hk5 ())
        · refine z_aload_n (pc := 38) hE 0 0 rfl rfl dX12_drifts_38 ?_
          refine z_aload_n (pc := 39) hE 0 0 rfl rfl dX12_drifts_39 ?_
          refine z_getr (pc := 40) hE fk_RX12_35 lM_0 rfl dX12_drifts_40 ?_
          refine z_callVv (pc := 43) (st := []) [.ref (ad 9)] hE kk_RX12_380 (c_X12_hourGoes 9 lM_9) lM_0 rfl rfl rfl (Nat.le_of_ble_eq_true rfl) (by decide) dX12_drifts_43 (fun x8 => ?_)
          refine z_iinc (L' := [(3, .int (v4 + (1 : Int32))), (0, .ref (ad 0)), (1, .int a1), (2, .int a2)]) (pc := 46) hE 3 rfl (zinc qM_iconst_1) (by decide) rfl dX12_drifts_46 ?_
          refine z_goto (pc := 49) hE 33 rfl dX12_drifts_49 ?_
          exact z_sub [1, 2, 3, 0] rfl (hrc6 (v4 + (1 : Int32)))
      · refine z_aload_n (pc := 52) hE 0 0 rfl rfl dX12_drifts_52 ?_
        refine z_iconst (pc := 53) hE dX12_drifts_53 qM_iconst_0 ?_
        refine z_puti (pc := 54) hE fk_RX12_125 lM_0 rfl dX12_drifts_54 ?_
        refine z_aload_n (pc := 57) hE 0 0 rfl rfl dX12_drifts_57 ?_
        refine z_aload_n (pc := 58) hE 0 0 rfl rfl dX12_drifts_58 ?_
        refine z_getr (pc := 59) hE fk_RX12_35 lM_0 rfl dX12_drifts_59 ?_
        refine z_bipush (pc := 62) hE dX12_drifts_62 qM_bipush_7 ?_
        refine z_iload_n (pc := 64) hE 1 1 rfl rfl dX12_drifts_64 ?_
        refine z_imul (pc := 65) hE dX12_drifts_65 ?_
        refine z_iconst (pc := 66) hE dX12_drifts_66 qM_iconst_0 ?_
        refine z_iadd (pc := 67) hE dX12_drifts_67 ?_
        refine z_iald (pc := 68) hE lM_9 dX12_drifts_68 (fun x9 => ?_)
        refine z_i2l (pc := 69) hE dX12_drifts_69 ?_
        refine z_callVv (pc := 70) (st := []) [.long x9.toInt64] hE kk_RX12_384 (c_X12_enters x9.toInt64) lM_0 rfl rfl rfl (Nat.le_of_ble_eq_true rfl) (by decide) dX12_drifts_70 (fun x10 => ?_)
        refine z_aload_n (pc := 73) hE 0 0 rfl rfl dX12_drifts_73 ?_
        refine z_aload_n (pc := 74) hE 0 0 rfl rfl dX12_drifts_74 ?_
        refine z_getr (pc := 75) hE fk_RX12_35 lM_0 rfl dX12_drifts_75 ?_
        refine z_iload_n (pc := 78) hE 1 1 rfl rfl dX12_drifts_78 ?_
        refine z_callSi (pc := 79) (st := [.ref (ad 0)]) [.ref (ad 9), .int a1] hE kk_RX12_296 (c_X12_cellOf 9 lM_9 a1) rfl rfl (Nat.le_of_ble_eq_true rfl) (by decide) dX12_drifts_79 (fun x11 => ?_)
        refine z_aload_n (pc := 82) hE 0 0 rfl rfl dX12_drifts_82 ?_
        refine z_getr (pc := 83) hE fk_RX12_35 lM_0 rfl dX12_drifts_83 ?_
        refine z_iload_n (pc := 86) hE 1 1 rfl rfl dX12_drifts_86 ?_
        refine z_callSi (pc := 87) (st := [.int x11, .ref (ad 0)]) [.ref (ad 9), .int a1] hE kk_RX12_293 (c_X12_ringOf 9 lM_9 a1) rfl rfl (Nat.le_of_ble_eq_true rfl) (by decide) dX12_drifts_87 (fun x12 => ?_)
        refine z_max (pc := 90) hE kk_RX12_265 (Nat.le_of_ble_eq_true rfl) (by decide) dX12_drifts_90 ?_
        refine z_i2l (pc := 93) hE dX12_drifts_93 ?_
        refine z_callVv (pc := 94) (st := []) [.long ((zmx x11 x12).toInt64)] hE kk_RX12_384 (c_X12_enters ((zmx x11 x12).toInt64)) lM_0 rfl rfl rfl (Nat.le_of_ble_eq_true rfl) (by decide) dX12_drifts_94 (fun x13 => ?_)
        refine z_aload_n (pc := 97) hE 0 0 rfl rfl dX12_drifts_97 ?_
        refine z_getr (pc := 98) hE fk_RX12_35 lM_0 rfl dX12_drifts_98 ?_
        refine z_bipush (pc := 101) hE dX12_drifts_101 qM_bipush_7 ?_
        refine z_iload_n (pc := 103) hE 1 1 rfl rfl dX12_drifts_103 ?_
        refine z_imul (pc := 104) hE dX12_drifts_104 ?_
        refine z_iconst (pc := 105) hE dX12_drifts_105 qM_iconst_3 ?_
        refine z_iadd (pc := 106) hE dX12_drifts_106 ?_
        refine z_iald (pc := 107) hE lM_9 dX12_drifts_107 (fun x14 => ?_)
        exact z_ireturn (pc := 108) hE hr dX12_drifts_108
    · refine z_iconst (pc := 25) hE dX12_drifts_25 qM_iconst_m1 ?_
      exact z_ireturn (pc := 26) hE hr dX12_drifts_26
set_option maxRecDepth 100000 in
set_option maxHeartbeats 4000000 in
theorem c_X12_isUp {l : Launch} {ad : Nat → Nat} {ca : FieldType → ClassId} {D : va_G} {sa sv : Nat → Nat} (r : Nat) (hr0 : layM[r]? = some (.inr (.int, 43))) (a2 : Int32) : zC l yX12_isUp cX12_isUp 3 (some .boolean) 0 layM ad ca D (xtM ad sa sv) [.ref (ad 0), .ref (ad r), .int a2] zvi (p_X12_isUp r a2) := by
  refine z_enter (by decide) (Nat.le_of_ble_eq_true rfl) (fun E hE hl0 hcD hr => ?_)
  have hE : zok layM ad (xtM ad sa sv) E cX12_isUp 3 RX12 0 := hE
  show Z layM ad E 3 (zFin layM ad E zvi) 0 [(0, .ref (ad 0)), (1, .ref (ad r)), (2, .int a2)] [] (p_X12_isUp r a2)
  unfold p_X12_isUp
  refine z_aload_n (pc := 0) hE 1 1 rfl rfl dX12_isUp_0 ?_
  refine z_bipush (pc := 1) hE dX12_isUp_1 qM_bipush_7 ?_
  refine z_iload_n (pc := 3) hE 2 2 rfl rfl dX12_isUp_3 ?_
  refine z_imul (pc := 4) hE dX12_isUp_4 ?_
  refine z_iconst (pc := 5) hE dX12_isUp_5 qM_iconst_3 ?_
  refine z_iadd (pc := 6) hE dX12_isUp_6 ?_
  refine z_iald (pc := 7) hE hr0 dX12_isUp_7 (fun x1 => ?_)
  refine z_iconst (pc := 8) hE dX12_isUp_8 qM_iconst_1 ?_
  refine z_join (Y := Unit) (pcJ := 24) (Lj := fun y2 => []) (sj := fun y2 => []) (fun y2 => ?_) (fun j3 hj3 => ?_)
  · refine z_iconst (pc := 24) hE dX12_isUp_24 qM_iconst_1 ?_
    refine z_goto (pc := 25) hE 29 rfl dX12_isUp_25 ?_
    exact z_zreturn (pc := 29) hE hr dX12_isUp_29
  refine z_icmp_eq (pc := 9) hE 24 rfl dX12_isUp_9 ?_ ?_
  · exact z_sub [] rfl (hj3 ())
  · refine z_aload_n (pc := 12) hE 1 1 rfl rfl dX12_isUp_12 ?_
    refine z_bipush (pc := 13) hE dX12_isUp_13 qM_bipush_7 ?_
    refine z_iload_n (pc := 15) hE 2 2 rfl rfl dX12_isUp_15 ?_
    refine z_imul (pc := 16) hE dX12_isUp_16 ?_
    refine z_iconst (pc := 17) hE dX12_isUp_17 qM_iconst_3 ?_
    refine z_iadd (pc := 18) hE dX12_isUp_18 ?_
    refine z_iald (pc := 19) hE hr0 dX12_isUp_19 (fun x4 => ?_)
    refine z_iconst (pc := 20) hE dX12_isUp_20 qM_iconst_2 ?_
    refine z_icmp_ne (pc := 21) hE 28 rfl dX12_isUp_21 ?_ ?_
    · refine z_iconst (pc := 28) hE dX12_isUp_28 qM_iconst_0 ?_
      exact z_zreturn (pc := 29) hE hr dX12_isUp_29
    · exact z_sub [] rfl (hj3 ())
set_option maxRecDepth 100000 in
set_option maxHeartbeats 4000000 in
theorem c_X12_sinks {l : Launch} {ad : Nat → Nat} {ca : FieldType → ClassId} {D : va_G} {sa sv : Nat → Nat} (a1 : Int32) : zC l yX12_sinks cX12_sinks 3 (some .int) 6 layM ad ca D (xtM ad sa sv) [.ref (ad 0), .int a1] zvi (p_X12_sinks a1) := by
  refine z_enter (by decide) (Nat.le_of_ble_eq_true rfl) (fun E hE hl0 hcD hr => ?_)
  have hE : zok layM ad (xtM ad sa sv) E cX12_sinks 3 RX12 6 := hE
  show Z layM ad E 3 (zFin layM ad E zvi) 0 [(0, .ref (ad 0)), (1, .int a1)] [] (p_X12_sinks a1)
  unfold p_X12_sinks
  refine z_aload_n (pc := 0) hE 0 0 rfl rfl dX12_sinks_0 ?_
  refine z_iconst (pc := 1) hE dX12_sinks_1 qM_iconst_0 ?_
  refine z_puti (pc := 2) hE fk_RX12_117 lM_0 rfl dX12_sinks_2 ?_
  refine z_aload_n (pc := 5) hE 0 0 rfl rfl dX12_sinks_5 ?_
  refine z_iload_n (pc := 6) hE 1 1 rfl rfl dX12_sinks_6 ?_
  refine z_callVi (pc := 7) (st := []) [.int a1] hE kk_RX12_282 (c_X12_isBalloon a1) lM_0 rfl rfl rfl (Nat.le_of_ble_eq_true rfl) (by decide) dX12_sinks_7 (fun x1 => ?_)
  refine z_if_ne (pc := 10) hE 15 rfl dX12_sinks_10 ?_ ?_
  · refine z_aload_n (pc := 15) hE 0 0 rfl rfl dX12_sinks_15 ?_
    refine z_aload_n (pc := 16) hE 0 0 rfl rfl dX12_sinks_16 ?_
    refine z_getr (pc := 17) hE fk_RX12_32 lM_0 rfl dX12_sinks_17 ?_
    refine z_iload_n (pc := 20) hE 1 1 rfl rfl dX12_sinks_20 ?_
    refine z_callVi (pc := 21) (st := []) [.ref (ad 8), .int a1] hE kk_RX12_408 (c_X12_isUp 8 lM_8 a1) lM_0 rfl rfl rfl (Nat.le_of_ble_eq_true rfl) (by decide) dX12_sinks_21 (fun x2 => ?_)
    refine z_if_ne (pc := 24) hE 30 rfl dX12_sinks_24 ?_ ?_
    · refine z_aload_n (pc := 30) hE 0 0 rfl rfl dX12_sinks_30 ?_
      refine z_callVv (pc := 31) (st := []) [] hE kk_RX12_405 (c_X12_puts) lM_0 rfl rfl rfl (Nat.le_of_ble_eq_true rfl) (by decide) dX12_sinks_31 (fun x3 => ?_)
      refine z_iconst (pc := 34) hE dX12_sinks_34 qM_iconst_1 ?_
      refine z_istore_n (L' := [(2, .int ((1 : Int32))), (0, .ref (ad 0)), (1, .int a1)]) (pc := 35) hE 2 rfl (by decide) rfl dX12_sinks_35 ?_
      refine z_sub (L' := [(0, .ref (ad 0)), (1, .int a1), (2, .int ((1 : Int32)))]) [1, 2, 0] rfl ?_
      refine z_loop (V := Int32) (X := Int32) (hd := 36) (ex := 62) (Lh := fun v4 => [(0, .ref (ad 0)), (1, .int a1), (2, .int v4)]) (Lx := fun e7 => [(0, .ref (ad 0)), (1, .int a1), (2, .int e7)]) (fun rc6 k5 hrc6 hk5 v4 => ?_) zNF ((1 : Int32)) _ (fun e7 => ?_)
      · unfold p_X12_sinks_b36
        refine z_iload_n (pc := 36) hE 2 2 rfl rfl dX12_sinks_36 ?_
        refine z_bipush (pc := 37) hE dX12_sinks_37 qM_bipush_99 ?_
        refine z_icmp_gt (pc := 39) hE 91 rfl dX12_sinks_39 ?_ ?_
        · refine z_bipush (pc := 91) hE dX12_sinks_91 qM_bipush_m2 ?_
          exact z_ireturn (pc := 93) hE hr dX12_sinks_93
        · refine z_aload_n (pc := 42) hE 0 0 rfl rfl dX12_sinks_42 ?_
          refine z_aload_n (pc := 43) hE 0 0 rfl rfl dX12_sinks_43 ?_
          refine z_getr (pc := 44) hE fk_RX12_35 lM_0 rfl dX12_sinks_44 ?_
          refine z_callVv (pc := 47) (st := []) [.ref (ad 9)] hE kk_RX12_380 (c_X12_hourGoes 9 lM_9) lM_0 rfl rfl rfl (Nat.le_of_ble_eq_true rfl) (by decide) dX12_sinks_47 (fun x8 => ?_)
          refine z_aload_n (pc := 50) hE 0 0 rfl rfl dX12_sinks_50 ?_
          refine z_aload_n (pc := 51) hE 0 0 rfl rfl dX12_sinks_51 ?_
          refine z_getr (pc := 52) hE fk_RX12_35 lM_0 rfl dX12_sinks_52 ?_
          refine z_iload_n (pc := 55) hE 1 1 rfl rfl dX12_sinks_55 ?_
          refine z_callVi (pc := 56) (st := []) [.ref (ad 9), .int a1] hE kk_RX12_408 (c_X12_isUp 9 lM_9 a1) lM_0 rfl rfl rfl (Nat.le_of_ble_eq_true rfl) (by decide) dX12_sinks_56 (fun x9 => ?_)
          refine z_if_ne (pc := 59) hE 85 rfl dX12_sinks_59 ?_ ?_
          · refine z_iinc (L' := [(2, .int (v4 + (1 : Int32))), (0, .ref (ad 0)), (1, .int a1)]) (pc := 85) hE 2 rfl (zinc qM_iconst_1) (by decide) rfl dX12_sinks_85 ?_
            refine z_goto (pc := 88) hE 36 rfl dX12_sinks_88 ?_
            exact z_sub [1, 2, 0] rfl (hrc6 (v4 + (1 : Int32)))
          · exact z_sub [0, 1, 2] rfl (hk5 v4)
      · refine z_aload_n (pc := 62) hE 0 0 rfl rfl dX12_sinks_62 ?_
        refine z_iconst (pc := 63) hE dX12_sinks_63 qM_iconst_0 ?_
        refine z_puti (pc := 64) hE fk_RX12_125 lM_0 rfl dX12_sinks_64 ?_
        refine z_aload_n (pc := 67) hE 0 0 rfl rfl dX12_sinks_67 ?_
        refine z_aload_n (pc := 68) hE 0 0 rfl rfl dX12_sinks_68 ?_
        refine z_getr (pc := 69) hE fk_RX12_35 lM_0 rfl dX12_sinks_69 ?_
        refine z_bipush (pc := 72) hE dX12_sinks_72 qM_bipush_7 ?_
        refine z_iload_n (pc := 74) hE 1 1 rfl rfl dX12_sinks_74 ?_
        refine z_imul (pc := 75) hE dX12_sinks_75 ?_
        refine z_iconst (pc := 76) hE dX12_sinks_76 qM_iconst_3 ?_
        refine z_iadd (pc := 77) hE dX12_sinks_77 ?_
        refine z_iald (pc := 78) hE lM_9 dX12_sinks_78 (fun x10 => ?_)
        refine z_i2l (pc := 79) hE dX12_sinks_79 ?_
        refine z_callVv (pc := 80) (st := []) [.long x10.toInt64] hE kk_RX12_384 (c_X12_enters x10.toInt64) lM_0 rfl rfl rfl (Nat.le_of_ble_eq_true rfl) (by decide) dX12_sinks_80 (fun x11 => ?_)
        refine z_iload_n (pc := 83) hE 2 2 rfl rfl dX12_sinks_83 ?_
        exact z_ireturn (pc := 84) hE hr dX12_sinks_84
    · refine z_bipush (pc := 27) hE dX12_sinks_27 qM_bipush_m3 ?_
      exact z_ireturn (pc := 29) hE hr dX12_sinks_29
  · refine z_iconst (pc := 13) hE dX12_sinks_13 qM_iconst_m1 ?_
    exact z_ireturn (pc := 14) hE hr dX12_sinks_14
set_option maxRecDepth 100000 in
set_option maxHeartbeats 4000000 in
theorem c_X12_rises {l : Launch} {ad : Nat → Nat} {ca : FieldType → ClassId} {D : va_G} {sa sv : Nat → Nat} (a1 : Int32) (a2 : Int32) : zC l yX12_rises cX12_rises 4 (some .int) 5 layM ad ca D (xtM ad sa sv) [.ref (ad 0), .int a1, .int a2] zvi (p_X12_rises a1 a2) := by
  refine z_enter (by decide) (Nat.le_of_ble_eq_true rfl) (fun E hE hl0 hcD hr => ?_)
  have hE : zok layM ad (xtM ad sa sv) E cX12_rises 4 RX12 5 := hE
  show Z layM ad E 4 (zFin layM ad E zvi) 0 [(0, .ref (ad 0)), (1, .int a1), (2, .int a2)] [] (p_X12_rises a1 a2)
  unfold p_X12_rises
  refine z_aload_n (pc := 0) hE 0 0 rfl rfl dX12_rises_0 ?_
  refine z_iconst (pc := 1) hE dX12_rises_1 qM_iconst_0 ?_
  refine z_puti (pc := 2) hE fk_RX12_117 lM_0 rfl dX12_rises_2 ?_
  refine z_aload_n (pc := 5) hE 0 0 rfl rfl dX12_rises_5 ?_
  refine z_iload_n (pc := 6) hE 1 1 rfl rfl dX12_rises_6 ?_
  refine z_callVi (pc := 7) (st := []) [.int a1] hE kk_RX12_282 (c_X12_isBalloon a1) lM_0 rfl rfl rfl (Nat.le_of_ble_eq_true rfl) (by decide) dX12_rises_7 (fun x1 => ?_)
  refine z_if_eq (pc := 10) hE 25 rfl dX12_rises_10 ?_ ?_
  · refine z_iconst (pc := 25) hE dX12_rises_25 qM_iconst_m1 ?_
    exact z_ireturn (pc := 26) hE hr dX12_rises_26
  · refine z_iload_n (pc := 13) hE 2 2 rfl rfl dX12_rises_13 ?_
    refine z_i2l (pc := 14) hE dX12_rises_14 ?_
    refine z_lconst (v := (0 : Int64)) (pc := 15) hE dX12_rises_15 (by decide) ?_
    refine z_ldc2 (pc := 16) hE wM_3 dX12_rises_16 ?_
    refine z_callSi (pc := 19) (st := []) [.long a2.toInt64, .long ((0 : Int64)), .long ((9 : Int64))] hE kk_RX12_131 (c_X12_in a2.toInt64 ((0 : Int64)) ((9 : Int64))) rfl rfl (Nat.le_of_ble_eq_true rfl) (by decide) dX12_rises_19 (fun x2 => ?_)
    refine z_if_ne (pc := 22) hE 27 rfl dX12_rises_22 ?_ ?_
    · refine z_aload_n (pc := 27) hE 0 0 rfl rfl dX12_rises_27 ?_
      refine z_iload_n (pc := 28) hE 1 1 rfl rfl dX12_rises_28 ?_
      refine z_callVi (pc := 29) (st := []) [.int a1] hE kk_RX12_268 (c_X12_how a1) lM_0 rfl rfl rfl (Nat.le_of_ble_eq_true rfl) (by decide) dX12_rises_29 (fun x3 => ?_)
      refine z_iconst (pc := 32) hE dX12_rises_32 qM_iconst_3 ?_
      refine z_icmp_ne (pc := 33) hE 39 rfl dX12_rises_33 ?_ ?_
      · refine z_aload_n (pc := 39) hE 0 0 rfl rfl dX12_rises_39 ?_
        refine z_callVv (pc := 40) (st := []) [] hE kk_RX12_405 (c_X12_puts) lM_0 rfl rfl rfl (Nat.le_of_ble_eq_true rfl) (by decide) dX12_rises_40 (fun x4 => ?_)
        refine z_iconst (pc := 43) hE dX12_rises_43 qM_iconst_0 ?_
        refine z_istore_n (L' := [(3, .int ((0 : Int32))), (0, .ref (ad 0)), (1, .int a1), (2, .int a2)]) (pc := 44) hE 3 rfl (by decide) rfl dX12_rises_44 ?_
        refine z_sub (L' := [(0, .ref (ad 0)), (1, .int a1), (2, .int a2), (3, .int ((0 : Int32)))]) [1, 2, 3, 0] rfl ?_
        refine z_loop (V := Int32) (X := Int32) (hd := 45) (ex := 97) (Lh := fun v5 => [(0, .ref (ad 0)), (1, .int a1), (2, .int a2), (3, .int v5)]) (Lx := fun e8 => [(0, .ref (ad 0)), (1, .int a1), (3, .int e8)]) (fun rc7 k6 hrc7 hk6 v5 => ?_) zNF ((0 : Int32)) _ (fun e8 => ?_)
        · unfold p_X12_rises_b45
          refine z_iload_n (pc := 45) hE 3 3 rfl rfl dX12_rises_45 ?_
          refine z_aload_n (pc := 46) hE 0 0 rfl rfl dX12_rises_46 ?_
          refine z_getr (pc := 47) hE fk_RX12_32 lM_0 rfl dX12_rises_47 ?_
          refine z_bipush (pc := 50) hE dX12_rises_50 qM_bipush_7 ?_
          refine z_iload_n (pc := 52) hE 1 1 rfl rfl dX12_rises_52 ?_
          refine z_imul (pc := 53) hE dX12_rises_53 ?_
          refine z_iconst (pc := 54) hE dX12_rises_54 qM_iconst_1 ?_
          refine z_iadd (pc := 55) hE dX12_rises_55 ?_
          refine z_iald (pc := 56) hE lM_8 dX12_rises_56 (fun x9 => ?_)
          refine z_icmp_gt (pc := 57) hE 124 rfl dX12_rises_57 ?_ ?_
          · refine z_bipush (pc := 124) hE dX12_rises_124 qM_bipush_m2 ?_
            exact z_ireturn (pc := 126) hE hr dX12_rises_126
          · refine z_aload_n (pc := 60) hE 0 0 rfl rfl dX12_rises_60 ?_
            refine z_getr (pc := 61) hE fk_RX12_35 lM_0 rfl dX12_rises_61 ?_
            refine z_bipush (pc := 64) hE dX12_rises_64 qM_bipush_7 ?_
            refine z_iload_n (pc := 66) hE 1 1 rfl rfl dX12_rises_66 ?_
            refine z_imul (pc := 67) hE dX12_rises_67 ?_
            refine z_iconst (pc := 68) hE dX12_rises_68 qM_iconst_1 ?_
            refine z_iadd (pc := 69) hE dX12_rises_69 ?_
            refine z_aload_n (pc := 70) hE 0 0 rfl rfl dX12_rises_70 ?_
            refine z_getr (pc := 71) hE fk_RX12_32 lM_0 rfl dX12_rises_71 ?_
            refine z_bipush (pc := 74) hE dX12_rises_74 qM_bipush_7 ?_
            refine z_iload_n (pc := 76) hE 1 1 rfl rfl dX12_rises_76 ?_
            refine z_imul (pc := 77) hE dX12_rises_77 ?_
            refine z_iconst (pc := 78) hE dX12_rises_78 qM_iconst_1 ?_
            refine z_iadd (pc := 79) hE dX12_rises_79 ?_
            refine z_iald (pc := 80) hE lM_8 dX12_rises_80 (fun x10 => ?_)
            refine z_iload_n (pc := 81) hE 3 3 rfl rfl dX12_rises_81 ?_
            refine z_isub (pc := 82) hE dX12_rises_82 ?_
            refine z_iast (pc := 83) hE lM_9 dX12_rises_83 ?_
            refine z_aload_n (pc := 84) hE 0 0 rfl rfl dX12_rises_84 ?_
            refine z_aload_n (pc := 85) hE 0 0 rfl rfl dX12_rises_85 ?_
            refine z_getr (pc := 86) hE fk_RX12_35 lM_0 rfl dX12_rises_86 ?_
            refine z_iload_n (pc := 89) hE 1 1 rfl rfl dX12_rises_89 ?_
            refine z_callVi (pc := 90) (st := []) [.ref (ad 9), .int a1] hE kk_RX12_290 (c_X12_highOf 9 lM_9 a1) lM_0 rfl rfl rfl (Nat.le_of_ble_eq_true rfl) (by decide) dX12_rises_90 (fun x11 => ?_)
            refine z_iload_n (pc := 93) hE 2 2 rfl rfl dX12_rises_93 ?_
            refine z_icmp_lt (pc := 94) hE 118 rfl dX12_rises_94 ?_ ?_
            · refine z_iinc (L' := [(3, .int (v5 + (1 : Int32))), (0, .ref (ad 0)), (1, .int a1), (2, .int a2)]) (pc := 118) hE 3 rfl (zinc qM_iconst_1) (by decide) rfl dX12_rises_118 ?_
              refine z_goto (pc := 121) hE 45 rfl dX12_rises_121 ?_
              exact z_sub [1, 2, 3, 0] rfl (hrc7 (v5 + (1 : Int32)))
            · exact z_sub [0, 1, 3] rfl (hk6 v5)
        · refine z_aload_n (pc := 97) hE 0 0 rfl rfl dX12_rises_97 ?_
          refine z_iconst (pc := 98) hE dX12_rises_98 qM_iconst_0 ?_
          refine z_puti (pc := 99) hE fk_RX12_125 lM_0 rfl dX12_rises_99 ?_
          refine z_aload_n (pc := 102) hE 0 0 rfl rfl dX12_rises_102 ?_
          refine z_aload_n (pc := 103) hE 0 0 rfl rfl dX12_rises_103 ?_
          refine z_aload_n (pc := 104) hE 0 0 rfl rfl dX12_rises_104 ?_
          refine z_getr (pc := 105) hE fk_RX12_35 lM_0 rfl dX12_rises_105 ?_
          refine z_iload_n (pc := 108) hE 1 1 rfl rfl dX12_rises_108 ?_
          refine z_callVi (pc := 109) (st := [.ref (ad 0)]) [.ref (ad 9), .int a1] hE kk_RX12_290 (c_X12_highOf 9 lM_9 a1) lM_0 rfl rfl rfl (Nat.le_of_ble_eq_true rfl) (by decide) dX12_rises_109 (fun x12 => ?_)
          refine z_i2l (pc := 112) hE dX12_rises_112 ?_
          refine z_callVv (pc := 113) (st := []) [.long x12.toInt64] hE kk_RX12_384 (c_X12_enters x12.toInt64) lM_0 rfl rfl rfl (Nat.le_of_ble_eq_true rfl) (by decide) dX12_rises_113 (fun x13 => ?_)
          refine z_iload_n (pc := 116) hE 2 3 rfl rfl dX12_rises_116 ?_
          exact z_ireturn (pc := 117) hE hr dX12_rises_117
      · refine z_bipush (pc := 36) hE dX12_rises_36 qM_bipush_m3 ?_
        exact z_ireturn (pc := 38) hE hr dX12_rises_38
    · refine z_iconst (pc := 25) hE dX12_rises_25 qM_iconst_m1 ?_
      exact z_ireturn (pc := 26) hE hr dX12_rises_26
set_option maxRecDepth 100000 in
set_option maxHeartbeats 4000000 in
theorem c_X12_canBeside {l : Launch} {ad : Nat → Nat} {ca : FieldType → ClassId} {D : va_G} {sa sv : Nat → Nat} (a1 : Int32) (a2 : Int32) (a3 : Int32) (a4 : Int32) : zC l yX12_canBeside cX12_canBeside 5 (some .boolean) 2 layM ad ca D (xtM ad sa sv) [.ref (ad 0), .int a1, .int a2, .int a3, .int a4] zvi (p_X12_canBeside a1 a2 a3 a4) := by
  refine z_enter (by decide) (Nat.le_of_ble_eq_true rfl) (fun E hE hl0 hcD hr => ?_)
  have hE : zok layM ad (xtM ad sa sv) E cX12_canBeside 5 RX12 2 := hE
  show Z layM ad E 5 (zFin layM ad E zvi) 0 [(0, .ref (ad 0)), (1, .int a1), (2, .int a2), (3, .int a3), (4, .int a4)] [] (p_X12_canBeside a1 a2 a3 a4)
  unfold p_X12_canBeside
  refine z_aload_n (pc := 0) hE 0 0 rfl rfl dX12_canBeside_0 ?_
  refine z_iload_n (pc := 1) hE 2 2 rfl rfl dX12_canBeside_1 ?_
  refine z_iload (pc := 2) hE 4 rfl dX12_canBeside_2 ?_
  refine z_callVi (pc := 4) (st := []) [.int a2, .int a4] hE kk_RX12_346 (c_X12_touch a2 a4) lM_0 rfl rfl rfl (Nat.le_of_ble_eq_true rfl) (by decide) dX12_canBeside_4 (fun x1 => ?_)
  refine z_if_ne (pc := 7) hE 38 rfl dX12_canBeside_7 ?_ ?_
  · refine z_iconst (pc := 38) hE dX12_canBeside_38 qM_iconst_0 ?_
    exact z_zreturn (pc := 39) hE hr dX12_canBeside_39
  · refine z_aload_n (pc := 10) hE 0 0 rfl rfl dX12_canBeside_10 ?_
    refine z_iload_n (pc := 11) hE 1 1 rfl rfl dX12_canBeside_11 ?_
    refine z_iload_n (pc := 12) hE 2 2 rfl rfl dX12_canBeside_12 ?_
    refine z_iload_n (pc := 13) hE 3 3 rfl rfl dX12_canBeside_13 ?_
    refine z_iload (pc := 14) hE 4 rfl dX12_canBeside_14 ?_
    refine z_callVi (pc := 16) (st := []) [.int a1, .int a2, .int a3, .int a4] hE kk_RX12_399 (c_X12_isBreach a1 a2 a3 a4) lM_0 rfl rfl rfl (Nat.le_of_ble_eq_true rfl) (by decide) dX12_canBeside_16 (fun x2 => ?_)
    refine z_if_ne (pc := 19) hE 38 rfl dX12_canBeside_19 ?_ ?_
    · refine z_iconst (pc := 38) hE dX12_canBeside_38 qM_iconst_0 ?_
      exact z_zreturn (pc := 39) hE hr dX12_canBeside_39
    · refine z_aload_n (pc := 22) hE 0 0 rfl rfl dX12_canBeside_22 ?_
      refine z_iload_n (pc := 23) hE 3 3 rfl rfl dX12_canBeside_23 ?_
      refine z_iload (pc := 24) hE 4 rfl dX12_canBeside_24 ?_
      refine z_iload_n (pc := 26) hE 1 1 rfl rfl dX12_canBeside_26 ?_
      refine z_iload_n (pc := 27) hE 2 2 rfl rfl dX12_canBeside_27 ?_
      refine z_callVi (pc := 28) (st := []) [.int a3, .int a4, .int a1, .int a2] hE kk_RX12_399 (c_X12_isBreach a3 a4 a1 a2) lM_0 rfl rfl rfl (Nat.le_of_ble_eq_true rfl) (by decide) dX12_canBeside_28 (fun x3 => ?_)
      refine z_if_ne (pc := 31) hE 38 rfl dX12_canBeside_31 ?_ ?_
      · refine z_iconst (pc := 38) hE dX12_canBeside_38 qM_iconst_0 ?_
        exact z_zreturn (pc := 39) hE hr dX12_canBeside_39
      · refine z_iconst (pc := 34) hE dX12_canBeside_34 qM_iconst_1 ?_
        refine z_goto (pc := 35) hE 39 rfl dX12_canBeside_35 ?_
        exact z_zreturn (pc := 39) hE hr dX12_canBeside_39
set_option maxRecDepth 100000 in
set_option maxHeartbeats 4000000 in
theorem c_X12_berthsFrom_s (G : ((Int32 × Int32 × Int32 × Int32) → zM Unit)) (d : Nat) (hd : 4 ≤ d) (hG : (∀ (l : Launch) (ad : Nat → Nat) (ca : FieldType → ClassId) (D : va_G) (sa sv : Nat → Nat) (a1 : Int32) (a2 : Int32) (a3 : Int32) (a4 : Int32), zC l yX12_berthsFrom cX12_berthsFrom 8 none (d - 1) layM ad ca D (xtM ad sa sv) [.ref (ad 0), .int a1, .int a2, .int a3, .int a4] zvn (G (a1, a2, a3, a4)))) {l : Launch} {ad : Nat → Nat} {ca : FieldType → ClassId} {D : va_G} {sa sv : Nat → Nat} (a1 : Int32) (a2 : Int32) (a3 : Int32) (a4 : Int32) : zC l yX12_berthsFrom cX12_berthsFrom 8 none d layM ad ca D (xtM ad sa sv) [.ref (ad 0), .int a1, .int a2, .int a3, .int a4] zvn (p_X12_berthsFrom_s G a1 a2 a3 a4) := by
  refine z_enter (by decide) (Nat.le_of_ble_eq_true rfl) (fun E hE hl0 hcD hr => ?_)
  have hE : zok layM ad (xtM ad sa sv) E cX12_berthsFrom 8 RX12 d := hE
  show Z layM ad E 8 (zFin layM ad E zvn) 0 [(0, .ref (ad 0)), (1, .int a1), (2, .int a2), (3, .int a3), (4, .int a4)] [] (p_X12_berthsFrom_s G a1 a2 a3 a4)
  unfold p_X12_berthsFrom_s
  refine z_iload_n (pc := 0) hE 2 2 rfl rfl dX12_berthsFrom_0 ?_
  refine z_aload_n (pc := 1) hE 0 0 rfl rfl dX12_berthsFrom_1 ?_
  refine z_geti (pc := 2) hE fk_RX12_135 lM_0 rfl dX12_berthsFrom_2 (fun x1 => ?_)
  refine z_icmp_ne (pc := 5) hE 58 rfl dX12_berthsFrom_5 ?_ ?_
  · refine z_iload_n (pc := 58) hE 1 1 rfl rfl dX12_berthsFrom_58 ?_
    refine z_iload_n (pc := 59) hE 2 2 rfl rfl dX12_berthsFrom_59 ?_
    refine z_callSi (pc := 60) (st := []) [.int a1, .int a2] hE kk_RX12_415 (c_X12_has a1 a2) rfl rfl (Nat.le_of_ble_eq_true rfl) (by omega) dX12_berthsFrom_60 (fun x2 => ?_)
    refine z_if_ne (pc := 63) hE 78 rfl dX12_berthsFrom_63 ?_ ?_
    · refine z_iconst (pc := 78) hE dX12_berthsFrom_78 qM_iconst_0 ?_
      refine z_istore (L' := [(5, .int ((0 : Int32))), (0, .ref (ad 0)), (1, .int a1), (2, .int a2), (3, .int a3), (4, .int a4)]) (pc := 79) hE (by decide) rfl dX12_berthsFrom_79 ?_
      refine z_sub (L' := [(0, .ref (ad 0)), (1, .int a1), (2, .int a2), (3, .int a3), (4, .int a4), (5, .int ((0 : Int32)))]) [1, 2, 3, 4, 5, 0] rfl ?_
      refine z_loop (V := Int32) (X := Unit) (hd := 81) (ex := 208) (Lh := fun v3 => [(0, .ref (ad 0)), (1, .int a1), (2, .int a2), (3, .int a3), (4, .int a4), (5, .int v3)]) (Lx := fun e6 => []) (fun rc5 k4 hrc5 hk4 v3 => ?_) zNF ((0 : Int32)) _ (fun e6 => ?_)
      · unfold p_X12_berthsFrom_b81
        refine z_iload (pc := 81) hE 5 rfl dX12_berthsFrom_81 ?_
        refine z_aload_n (pc := 83) hE 0 0 rfl rfl dX12_berthsFrom_83 ?_
        refine z_geti (pc := 84) hE fk_RX12_128 lM_0 rfl dX12_berthsFrom_84 (fun x7 => ?_)
        refine z_icmp_ge (pc := 87) hE 208 rfl dX12_berthsFrom_87 ?_ ?_
        · exact z_sub [] rfl (hk4 ())
        · refine z_iload_n (pc := 90) hE 3 3 rfl rfl dX12_berthsFrom_90 ?_
          refine z_iload (pc := 91) hE 5 rfl dX12_berthsFrom_91 ?_
          refine z_callSi (pc := 93) (st := []) [.int a3, .int v3] hE kk_RX12_415 (c_X12_has a3 v3) rfl rfl (Nat.le_of_ble_eq_true rfl) (by omega) dX12_berthsFrom_93 (fun x8 => ?_)
          refine z_join (Y := Int32) (pcJ := 116) (Lj := fun y9 => [(0, .ref (ad 0)), (1, .int a1), (2, .int a2), (3, .int a3), (4, .int a4), (5, .int v3)]) (sj := fun y9 => [.int y9]) (fun y9 => ?_) (fun j10 hj10 => ?_)
          · refine z_istore (L' := [(6, .int y9), (0, .ref (ad 0)), (1, .int a1), (2, .int a2), (3, .int a3), (4, .int a4), (5, .int v3)]) (pc := 116) hE (by decide) rfl dX12_berthsFrom_116 ?_
            refine z_iconst (pc := 118) hE dX12_berthsFrom_118 qM_iconst_0 ?_
            refine z_istore (L' := [(7, .int ((0 : Int32))), (6, .int y9), (0, .ref (ad 0)), (1, .int a1), (2, .int a2), (3, .int a3), (4, .int a4), (5, .int v3)]) (pc := 119) hE (by decide) rfl dX12_berthsFrom_119 ?_
            refine z_sub (L' := [(0, .ref (ad 0)), (1, .int a1), (2, .int a2), (3, .int a3), (4, .int a4), (5, .int v3), (6, .int y9), (7, .int ((0 : Int32)))]) [2, 3, 4, 5, 6, 7, 1, 0] rfl ?_
            refine z_loop (V := (Int32 × Int32)) (X := Int32) (hd := 121) (ex := 173) (Lh := fun v11 => [(0, .ref (ad 0)), (1, .int a1), (2, .int a2), (3, .int a3), (4, .int a4), (5, .int v3), (6, .int v11.1), (7, .int v11.2)]) (Lx := fun e14 => [(0, .ref (ad 0)), (1, .int a1), (2, .int a2), (3, .int a3), (4, .int a4), (5, .int v3), (6, .int e14)]) (fun rc13 k12 hrc13 hk12 v11 => ?_) zNF (y9, (0 : Int32)) _ (fun e14 => ?_)
            · unfold p_X12_berthsFrom_b121
              refine z_iload (pc := 121) hE 7 rfl dX12_berthsFrom_121 ?_
              refine z_iload_n (pc := 123) hE 2 2 rfl rfl dX12_berthsFrom_123 ?_
              refine z_icmp_ge (pc := 124) hE 173 rfl dX12_berthsFrom_124 ?_ ?_
              · exact z_sub [0, 1, 2, 3, 4, 5, 6] rfl (hk12 v11.1)
              · refine z_iload (pc := 127) hE 6 rfl dX12_berthsFrom_127 ?_
                refine z_if_eq (pc := 129) hE 173 rfl dX12_berthsFrom_129 ?_ ?_
                · exact z_sub [0, 1, 2, 3, 4, 5, 6] rfl (hk12 v11.1)
                · refine z_iload_n (pc := 132) hE 1 1 rfl rfl dX12_berthsFrom_132 ?_
                  refine z_iload (pc := 133) hE 7 rfl dX12_berthsFrom_133 ?_
                  refine z_callSi (pc := 135) (st := []) [.int a1, .int v11.2] hE kk_RX12_415 (c_X12_has a1 v11.2) rfl rfl (Nat.le_of_ble_eq_true rfl) (by omega) dX12_berthsFrom_135 (fun x15 => ?_)
                  refine z_join (Y := Int32) (pcJ := 165) (Lj := fun y16 => [(0, .ref (ad 0)), (1, .int a1), (2, .int a2), (3, .int a3), (4, .int a4), (5, .int v3), (7, .int v11.2)]) (sj := fun y16 => [.int y16]) (fun y16 => ?_) (fun j17 hj17 => ?_)
                  · refine z_istore (L' := [(6, .int y16), (0, .ref (ad 0)), (1, .int a1), (2, .int a2), (3, .int a3), (4, .int a4), (5, .int v3), (7, .int v11.2)]) (pc := 165) hE (by decide) rfl dX12_berthsFrom_165 ?_
                    refine z_iinc (L' := [(7, .int (v11.2 + (1 : Int32))), (6, .int y16), (0, .ref (ad 0)), (1, .int a1), (2, .int a2), (3, .int a3), (4, .int a4), (5, .int v3)]) (pc := 167) hE 7 rfl (zinc qM_iconst_1) (by decide) rfl dX12_berthsFrom_167 ?_
                    refine z_goto (pc := 170) hE 121 rfl dX12_berthsFrom_170 ?_
                    exact z_sub [2, 3, 4, 5, 6, 7, 1, 0] rfl (hrc13 (y16, v11.2 + (1 : Int32)))
                  refine z_join (Y := Unit) (pcJ := 160) (Lj := fun y18 => [(0, .ref (ad 0)), (1, .int a1), (2, .int a2), (3, .int a3), (4, .int a4), (5, .int v3), (7, .int v11.2)]) (sj := fun y18 => []) (fun y18 => ?_) (fun j19 hj19 => ?_)
                  · refine z_iconst (pc := 160) hE dX12_berthsFrom_160 qM_iconst_1 ?_
                    refine z_goto (pc := 161) hE 165 rfl dX12_berthsFrom_161 ?_
                    exact z_sub [0, 1, 2, 3, 4, 5, 6] rfl (hj17 ((1 : Int32)))
                  refine z_if_eq (pc := 138) hE 160 rfl dX12_berthsFrom_138 ?_ ?_
                  · exact z_sub [0, 1, 2, 3, 4, 5, 7] rfl (hj19 ())
                  · refine z_aload_n (pc := 141) hE 0 0 rfl rfl dX12_berthsFrom_141 ?_
                    refine z_iload_n (pc := 142) hE 2 2 rfl rfl dX12_berthsFrom_142 ?_
                    refine z_iload (pc := 143) hE 5 rfl dX12_berthsFrom_143 ?_
                    refine z_iload (pc := 145) hE 7 rfl dX12_berthsFrom_145 ?_
                    refine z_aload_n (pc := 147) hE 0 0 rfl rfl dX12_berthsFrom_147 ?_
                    refine z_getr (pc := 148) hE fk_RX12_71 lM_0 rfl dX12_berthsFrom_148 ?_
                    refine z_iload (pc := 151) hE 7 rfl dX12_berthsFrom_151 ?_
                    refine z_iald (pc := 153) hE lM_21 dX12_berthsFrom_153 (fun x20 => ?_)
                    refine z_callVi (pc := 154) (st := []) [.int a2, .int v3, .int v11.2, .int x20] hE kk_RX12_422 (c_X12_canBeside a2 v3 v11.2 x20) lM_0 rfl rfl rfl (Nat.le_of_ble_eq_true rfl) (by omega) dX12_berthsFrom_154 (fun x21 => ?_)
                    refine z_if_eq (pc := 157) hE 164 rfl dX12_berthsFrom_157 ?_ ?_
                    · refine z_iconst (pc := 164) hE dX12_berthsFrom_164 qM_iconst_0 ?_
                      exact z_sub [0, 1, 2, 3, 4, 5, 7] rfl (hj17 ((0 : Int32)))
                    · exact z_sub [0, 1, 2, 3, 4, 5, 7] rfl (hj19 ())
            · refine z_iload (pc := 173) hE 6 rfl dX12_berthsFrom_173 ?_
              refine z_join (Y := Unit) (pcJ := 202) (Lj := fun y22 => [(0, .ref (ad 0)), (1, .int a1), (2, .int a2), (3, .int a3), (4, .int a4), (5, .int v3)]) (sj := fun y22 => []) (fun y22 => ?_) (fun j23 hj23 => ?_)
              · refine z_iinc (L' := [(5, .int (v3 + (1 : Int32))), (0, .ref (ad 0)), (1, .int a1), (2, .int a2), (3, .int a3), (4, .int a4)]) (pc := 202) hE 5 rfl (zinc qM_iconst_1) (by decide) rfl dX12_berthsFrom_202 ?_
                refine z_goto (pc := 205) hE 81 rfl dX12_berthsFrom_205 ?_
                exact z_sub [1, 2, 3, 4, 5, 0] rfl (hrc5 (v3 + (1 : Int32)))
              refine z_if_eq (pc := 175) hE 202 rfl dX12_berthsFrom_175 ?_ ?_
              · exact z_sub [0, 1, 2, 3, 4, 5] rfl (hj23 ())
              · refine z_aload_n (pc := 178) hE 0 0 rfl rfl dX12_berthsFrom_178 ?_
                refine z_getr (pc := 179) hE fk_RX12_71 lM_0 rfl dX12_berthsFrom_179 ?_
                refine z_iload_n (pc := 182) hE 2 2 rfl rfl dX12_berthsFrom_182 ?_
                refine z_iload (pc := 183) hE 5 rfl dX12_berthsFrom_183 ?_
                refine z_iast (pc := 185) hE lM_21 dX12_berthsFrom_185 ?_
                refine z_aload_n (pc := 186) hE 0 0 rfl rfl dX12_berthsFrom_186 ?_
                refine z_iload_n (pc := 187) hE 1 1 rfl rfl dX12_berthsFrom_187 ?_
                refine z_iload_n (pc := 188) hE 2 2 rfl rfl dX12_berthsFrom_188 ?_
                refine z_iconst (pc := 189) hE dX12_berthsFrom_189 qM_iconst_1 ?_
                refine z_iadd (pc := 190) hE dX12_berthsFrom_190 ?_
                refine z_iload_n (pc := 191) hE 3 3 rfl rfl dX12_berthsFrom_191 ?_
                refine z_iconst (pc := 192) hE dX12_berthsFrom_192 qM_iconst_1 ?_
                refine z_iload (pc := 193) hE 5 rfl dX12_berthsFrom_193 ?_
                refine z_ishl (pc := 195) hE dX12_berthsFrom_195 ?_
                refine z_ior (pc := 196) hE dX12_berthsFrom_196 ?_
                refine z_iload (pc := 197) hE 4 rfl dX12_berthsFrom_197 ?_
                refine z_callVv (pc := 199) (st := []) [.int a1, .int (a2 + ((1 : Int32))), .int (a3 ||| (((1 : Int32)) <<< (v3 &&& 31))), .int a4] hE kk_RX12_418 (hG _ _ _ _ _ _ a1 (a2 + ((1 : Int32))) (a3 ||| (((1 : Int32)) <<< (v3 &&& 31))) a4) lM_0 rfl rfl rfl (Nat.le_of_ble_eq_true rfl) (by omega) dX12_berthsFrom_199 (fun x24 => ?_)
                exact z_sub [0, 1, 2, 3, 4, 5] rfl (hj23 ())
          refine z_join (Y := Unit) (pcJ := 115) (Lj := fun y25 => [(0, .ref (ad 0)), (1, .int a1), (2, .int a2), (3, .int a3), (4, .int a4), (5, .int v3)]) (sj := fun y25 => []) (fun y25 => ?_) (fun j26 hj26 => ?_)
          · refine z_iconst (pc := 115) hE dX12_berthsFrom_115 qM_iconst_0 ?_
            exact z_sub [0, 1, 2, 3, 4, 5] rfl (hj10 ((0 : Int32)))
          refine z_if_ne (pc := 96) hE 115 rfl dX12_berthsFrom_96 ?_ ?_
          · exact z_sub [0, 1, 2, 3, 4, 5] rfl (hj26 ())
          · refine z_iload (pc := 99) hE 4 rfl dX12_berthsFrom_99 ?_
            refine z_join (Y := Unit) (pcJ := 111) (Lj := fun y27 => [(0, .ref (ad 0)), (1, .int a1), (2, .int a2), (3, .int a3), (4, .int a4), (5, .int v3)]) (sj := fun y27 => []) (fun y27 => ?_) (fun j28 hj28 => ?_)
            · refine z_iconst (pc := 111) hE dX12_berthsFrom_111 qM_iconst_1 ?_
              refine z_goto (pc := 112) hE 116 rfl dX12_berthsFrom_112 ?_
              exact z_sub [0, 1, 2, 3, 4, 5] rfl (hj10 ((1 : Int32)))
            refine z_if_eq (pc := 101) hE 111 rfl dX12_berthsFrom_101 ?_ ?_
            · exact z_sub [0, 1, 2, 3, 4, 5] rfl (hj28 ())
            · refine z_aload_n (pc := 104) hE 0 0 rfl rfl dX12_berthsFrom_104 ?_
              refine z_geti (pc := 105) hE fk_RX12_412 lM_0 rfl dX12_berthsFrom_105 (fun x29 => ?_)
              refine z_if_gt (pc := 108) hE 115 rfl dX12_berthsFrom_108 ?_ ?_
              · exact z_sub [0, 1, 2, 3, 4, 5] rfl (hj26 ())
              · exact z_sub [0, 1, 2, 3, 4, 5] rfl (hj28 ())
      · exact z_return (pc := 208) hE hr dX12_berthsFrom_208
    · refine z_aload_n (pc := 66) hE 0 0 rfl rfl dX12_berthsFrom_66 ?_
      refine z_iload_n (pc := 67) hE 1 1 rfl rfl dX12_berthsFrom_67 ?_
      refine z_iload_n (pc := 68) hE 2 2 rfl rfl dX12_berthsFrom_68 ?_
      refine z_iconst (pc := 69) hE dX12_berthsFrom_69 qM_iconst_1 ?_
      refine z_iadd (pc := 70) hE dX12_berthsFrom_70 ?_
      refine z_iload_n (pc := 71) hE 3 3 rfl rfl dX12_berthsFrom_71 ?_
      refine z_iload (pc := 72) hE 4 rfl dX12_berthsFrom_72 ?_
      refine z_callVv (pc := 74) (st := []) [.int a1, .int (a2 + ((1 : Int32))), .int a3, .int a4] hE kk_RX12_418 (hG _ _ _ _ _ _ a1 (a2 + ((1 : Int32))) a3 a4) lM_0 rfl rfl rfl (Nat.le_of_ble_eq_true rfl) (by omega) dX12_berthsFrom_74 (fun x30 => ?_)
      exact z_return (pc := 77) hE hr dX12_berthsFrom_77
  · refine z_iconst (pc := 8) hE dX12_berthsFrom_8 qM_iconst_0 ?_
    refine z_istore (L' := [(5, .int ((0 : Int32))), (0, .ref (ad 0)), (1, .int a1), (2, .int a2), (3, .int a3), (4, .int a4)]) (pc := 9) hE (by decide) rfl dX12_berthsFrom_9 ?_
    refine z_sub (L' := [(0, .ref (ad 0)), (5, .int ((0 : Int32)))]) [1, 0] rfl ?_
    refine z_loop (V := Int32) (X := Unit) (hd := 11) (ex := 47) (Lh := fun v31 => [(0, .ref (ad 0)), (5, .int v31)]) (Lx := fun e34 => [(0, .ref (ad 0))]) (fun rc33 k32 hrc33 hk32 v31 => ?_) zNF ((0 : Int32)) _ (fun e34 => ?_)
    · unfold p_X12_berthsFrom_b11
      refine z_iload (pc := 11) hE 1 rfl dX12_berthsFrom_11 ?_
      refine z_aload_n (pc := 13) hE 0 0 rfl rfl dX12_berthsFrom_13 ?_
      refine z_geti (pc := 14) hE fk_RX12_135 lM_0 rfl dX12_berthsFrom_14 (fun x35 => ?_)
      refine z_icmp_ge (pc := 17) hE 47 rfl dX12_berthsFrom_17 ?_ ?_
      · exact z_sub [0] rfl (hk32 ())
      · refine z_aload_n (pc := 20) hE 0 0 rfl rfl dX12_berthsFrom_20 ?_
        refine z_geti (pc := 21) hE fk_RX12_412 lM_0 rfl dX12_berthsFrom_21 (fun x36 => ?_)
        refine z_if_ne (pc := 24) hE 47 rfl dX12_berthsFrom_24 ?_ ?_
        · exact z_sub [0] rfl (hk32 ())
        · refine z_aload_n (pc := 27) hE 0 0 rfl rfl dX12_berthsFrom_27 ?_
          refine z_getr (pc := 28) hE fk_RX12_74 lM_0 rfl dX12_berthsFrom_28 ?_
          refine z_iload (pc := 31) hE 1 rfl dX12_berthsFrom_31 ?_
          refine z_aload_n (pc := 33) hE 0 0 rfl rfl dX12_berthsFrom_33 ?_
          refine z_getr (pc := 34) hE fk_RX12_71 lM_0 rfl dX12_berthsFrom_34 ?_
          refine z_iload (pc := 37) hE 1 rfl dX12_berthsFrom_37 ?_
          refine z_iald (pc := 39) hE lM_21 dX12_berthsFrom_39 (fun x37 => ?_)
          refine z_iast (pc := 40) hE lM_22 dX12_berthsFrom_40 ?_
          refine z_iinc (L' := [(5, .int (v31 + (1 : Int32))), (0, .ref (ad 0))]) (pc := 41) hE 1 rfl (zinc qM_iconst_1) (by decide) rfl dX12_berthsFrom_41 ?_
          refine z_goto (pc := 44) hE 11 rfl dX12_berthsFrom_44 ?_
          exact z_sub [1, 0] rfl (hrc33 (v31 + (1 : Int32)))
    · refine z_aload_n (pc := 47) hE 0 0 rfl rfl dX12_berthsFrom_47 ?_
      refine z_dup (pc := 48) hE dX12_berthsFrom_48 rfl ?_
      refine z_geti (pc := 49) hE fk_RX12_412 lM_0 rfl dX12_berthsFrom_49 (fun x38 => ?_)
      refine z_iconst (pc := 52) hE dX12_berthsFrom_52 qM_iconst_1 ?_
      refine z_iadd (pc := 53) hE dX12_berthsFrom_53 ?_
      refine z_puti (pc := 54) hE fk_RX12_412 lM_0 rfl dX12_berthsFrom_54 ?_
      exact z_return (pc := 57) hE hr dX12_berthsFrom_57
theorem c_X12_berthsFrom_g : ∀ (n d : Nat), 3 + n ≤ d → (∀ (l : Launch) (ad : Nat → Nat) (ca : FieldType → ClassId) (D : va_G) (sa sv : Nat → Nat) (a1 : Int32) (a2 : Int32) (a3 : Int32) (a4 : Int32), zC l yX12_berthsFrom cX12_berthsFrom 8 none d layM ad ca D (xtM ad sa sv) [.ref (ad 0), .int a1, .int a2, .int a3, .int a4] zvn ((p_X12_berthsFrom_g n) (a1, a2, a3, a4)))
  | 0, d, h => fun _ _ _ _ _ _ _ _ _ _ S r S2 h => (by cases h)
  | n + 1, d, h => by
    have hG := c_X12_berthsFrom_g n (d - 1) (by omega)
    exact fun l ad ca D sa sv a1 a2 a3 a4 => c_X12_berthsFrom_s _ d (by omega) hG a1 a2 a3 a4
theorem c_X12_berthsFrom {l : Launch} {ad : Nat → Nat} {ca : FieldType → ClassId} {D : va_G} {sa sv : Nat → Nat} (a1 : Int32) (a2 : Int32) (a3 : Int32) (a4 : Int32) : zC l yX12_berthsFrom cX12_berthsFrom 8 none 103 layM ad ca D (xtM ad sa sv) [.ref (ad 0), .int a1, .int a2, .int a3, .int a4] zvn (p_X12_berthsFrom a1 a2 a3 a4) := (c_X12_berthsFrom_g zDP 103 (Nat.le_of_eq (by rw [zDP_eq]))) _ _ _ _ _ _ a1 a2 a3 a4
set_option maxRecDepth 100000 in
set_option maxHeartbeats 4000000 in
theorem c_X12_berths {l : Launch} {ad : Nat → Nat} {ca : FieldType → ClassId} {D : va_G} {sa sv : Nat → Nat} (a1 : Int32) : zC l yX12_berths cX12_berths 3 (some .int) 104 layM ad ca D (xtM ad sa sv) [.ref (ad 0), .int a1] zvi (p_X12_berths a1) := by
  refine z_enter (by decide) (Nat.le_of_ble_eq_true rfl) (fun E hE hl0 hcD hr => ?_)
  have hE : zok layM ad (xtM ad sa sv) E cX12_berths 3 RX12 104 := hE
  show Z layM ad E 3 (zFin layM ad E zvi) 0 [(0, .ref (ad 0)), (1, .int a1)] [] (p_X12_berths a1)
  unfold p_X12_berths
  refine z_aload_n (pc := 0) hE 0 0 rfl rfl dX12_berths_0 ?_
  refine z_iconst (pc := 1) hE dX12_berths_1 qM_iconst_0 ?_
  refine z_puti (pc := 2) hE fk_RX12_117 lM_0 rfl dX12_berths_2 ?_
  refine z_iload_n (pc := 5) hE 1 1 rfl rfl dX12_berths_5 ?_
  refine z_i2l (pc := 6) hE dX12_berths_6 ?_
  refine z_lconst (v := (0 : Int64)) (pc := 7) hE dX12_berths_7 (by decide) ?_
  refine z_iconst (pc := 8) hE dX12_berths_8 qM_iconst_1 ?_
  refine z_aload_n (pc := 9) hE 0 0 rfl rfl dX12_berths_9 ?_
  refine z_geti (pc := 10) hE fk_RX12_135 lM_0 rfl dX12_berths_10 (fun x1 => ?_)
  refine z_ishl (pc := 13) hE dX12_berths_13 ?_
  refine z_iconst (pc := 14) hE dX12_berths_14 qM_iconst_1 ?_
  refine z_isub (pc := 15) hE dX12_berths_15 ?_
  refine z_i2l (pc := 16) hE dX12_berths_16 ?_
  refine z_callSi (pc := 17) (st := []) [.long a1.toInt64, .long ((0 : Int64)), .long (((((1 : Int32)) <<< (x1 &&& 31)) - ((1 : Int32))).toInt64)] hE kk_RX12_131 (c_X12_in a1.toInt64 ((0 : Int64)) (((((1 : Int32)) <<< (x1 &&& 31)) - ((1 : Int32))).toInt64)) rfl rfl (Nat.le_of_ble_eq_true rfl) (by decide) dX12_berths_17 (fun x2 => ?_)
  refine z_if_ne (pc := 20) hE 25 rfl dX12_berths_20 ?_ ?_
  · refine z_aload_n (pc := 25) hE 0 0 rfl rfl dX12_berths_25 ?_
    refine z_iconst (pc := 26) hE dX12_berths_26 qM_iconst_0 ?_
    refine z_puti (pc := 27) hE fk_RX12_412 lM_0 rfl dX12_berths_27 ?_
    refine z_aload_n (pc := 30) hE 0 0 rfl rfl dX12_berths_30 ?_
    refine z_iload_n (pc := 31) hE 1 1 rfl rfl dX12_berths_31 ?_
    refine z_iconst (pc := 32) hE dX12_berths_32 qM_iconst_0 ?_
    refine z_iconst (pc := 33) hE dX12_berths_33 qM_iconst_0 ?_
    refine z_iconst (pc := 34) hE dX12_berths_34 qM_iconst_0 ?_
    refine z_callVv (pc := 35) (st := []) [.int a1, .int ((0 : Int32)), .int ((0 : Int32)), .int ((0 : Int32))] hE kk_RX12_418 (c_X12_berthsFrom a1 ((0 : Int32)) ((0 : Int32)) ((0 : Int32))) lM_0 rfl rfl rfl (Nat.le_of_ble_eq_true rfl) (by decide) dX12_berths_35 (fun x3 => ?_)
    refine z_aload_n (pc := 38) hE 0 0 rfl rfl dX12_berths_38 ?_
    refine z_iconst (pc := 39) hE dX12_berths_39 qM_iconst_0 ?_
    refine z_puti (pc := 40) hE fk_RX12_125 lM_0 rfl dX12_berths_40 ?_
    refine z_iconst (pc := 43) hE dX12_berths_43 qM_iconst_0 ?_
    refine z_istore_n (L' := [(2, .int ((0 : Int32))), (0, .ref (ad 0)), (1, .int a1)]) (pc := 44) hE 2 rfl (by decide) rfl dX12_berths_44 ?_
    refine z_sub (L' := [(0, .ref (ad 0)), (1, .int a1), (2, .int ((0 : Int32)))]) [1, 2, 0] rfl ?_
    refine z_loop (V := Int32) (X := Unit) (hd := 45) (ex := 85) (Lh := fun v4 => [(0, .ref (ad 0)), (1, .int a1), (2, .int v4)]) (Lx := fun e7 => [(0, .ref (ad 0))]) (fun rc6 k5 hrc6 hk5 v4 => ?_) zNF ((0 : Int32)) _ (fun e7 => ?_)
    · unfold p_X12_berths_b45
      refine z_iload_n (pc := 45) hE 2 2 rfl rfl dX12_berths_45 ?_
      refine z_aload_n (pc := 46) hE 0 0 rfl rfl dX12_berths_46 ?_
      refine z_geti (pc := 47) hE fk_RX12_135 lM_0 rfl dX12_berths_47 (fun x8 => ?_)
      refine z_icmp_ge (pc := 50) hE 85 rfl dX12_berths_50 ?_ ?_
      · exact z_sub [0] rfl (hk5 ())
      · refine z_aload_n (pc := 53) hE 0 0 rfl rfl dX12_berths_53 ?_
        refine z_geti (pc := 54) hE fk_RX12_412 lM_0 rfl dX12_berths_54 (fun x9 => ?_)
        refine z_if_le (pc := 57) hE 85 rfl dX12_berths_57 ?_ ?_
        · exact z_sub [0] rfl (hk5 ())
        · refine z_iload_n (pc := 60) hE 1 1 rfl rfl dX12_berths_60 ?_
          refine z_iload_n (pc := 61) hE 2 2 rfl rfl dX12_berths_61 ?_
          refine z_callSi (pc := 62) (st := []) [.int a1, .int v4] hE kk_RX12_415 (c_X12_has a1 v4) rfl rfl (Nat.le_of_ble_eq_true rfl) (by decide) dX12_berths_62 (fun x10 => ?_)
          refine z_join (Y := Unit) (pcJ := 79) (Lj := fun y11 => [(0, .ref (ad 0)), (1, .int a1), (2, .int v4)]) (sj := fun y11 => []) (fun y11 => ?_) (fun j12 hj12 => ?_)
          · refine z_iinc (L' := [(2, .int (v4 + (1 : Int32))), (0, .ref (ad 0)), (1, .int a1)]) (pc := 79) hE 2 rfl (zinc qM_iconst_1) (by decide) rfl dX12_berths_79 ?_
            refine z_goto (pc := 82) hE 45 rfl dX12_berths_82 ?_
            exact z_sub [1, 2, 0] rfl (hrc6 (v4 + (1 : Int32)))
          refine z_if_eq (pc := 65) hE 79 rfl dX12_berths_65 ?_ ?_
          · exact z_sub [0, 1, 2] rfl (hj12 ())
          · refine z_aload_n (pc := 68) hE 0 0 rfl rfl dX12_berths_68 ?_
            refine z_aload_n (pc := 69) hE 0 0 rfl rfl dX12_berths_69 ?_
            refine z_getr (pc := 70) hE fk_RX12_74 lM_0 rfl dX12_berths_70 ?_
            refine z_iload_n (pc := 73) hE 2 2 rfl rfl dX12_berths_73 ?_
            refine z_iald (pc := 74) hE lM_22 dX12_berths_74 (fun x13 => ?_)
            refine z_i2l (pc := 75) hE dX12_berths_75 ?_
            refine z_callVv (pc := 76) (st := []) [.long x13.toInt64] hE kk_RX12_384 (c_X12_enters x13.toInt64) lM_0 rfl rfl rfl (Nat.le_of_ble_eq_true rfl) (by decide) dX12_berths_76 (fun x14 => ?_)
            exact z_sub [0, 1, 2] rfl (hj12 ())
    · refine z_aload_n (pc := 85) hE 0 0 rfl rfl dX12_berths_85 ?_
      refine z_geti (pc := 86) hE fk_RX12_412 lM_0 rfl dX12_berths_86 (fun x15 => ?_)
      exact z_ireturn (pc := 89) hE hr dX12_berths_89
  · refine z_iconst (pc := 23) hE dX12_berths_23 qM_iconst_m1 ?_
    exact z_ireturn (pc := 24) hE hr dX12_berths_24
set_option maxRecDepth 100000 in
set_option maxHeartbeats 4000000 in
theorem c_X12_served {l : Launch} {ad : Nat → Nat} {ca : FieldType → ClassId} {D : va_G} {sa sv : Nat → Nat} (a1 : Int32) : zC l yX12_served cX12_served 4 (some .int) 104 layM ad ca D (xtM ad sa sv) [.ref (ad 0), .int a1] zvi (p_X12_served a1) := by
  refine z_enter (by decide) (Nat.le_of_ble_eq_true rfl) (fun E hE hl0 hcD hr => ?_)
  have hE : zok layM ad (xtM ad sa sv) E cX12_served 4 RX12 104 := hE
  show Z layM ad E 4 (zFin layM ad E zvi) 0 [(0, .ref (ad 0)), (1, .int a1)] [] (p_X12_served a1)
  unfold p_X12_served
  refine z_aload_n (pc := 0) hE 0 0 rfl rfl dX12_served_0 ?_
  refine z_iconst (pc := 1) hE dX12_served_1 qM_iconst_0 ?_
  refine z_puti (pc := 2) hE fk_RX12_117 lM_0 rfl dX12_served_2 ?_
  refine z_iload_n (pc := 5) hE 1 1 rfl rfl dX12_served_5 ?_
  refine z_i2l (pc := 6) hE dX12_served_6 ?_
  refine z_lconst (v := (0 : Int64)) (pc := 7) hE dX12_served_7 (by decide) ?_
  refine z_iconst (pc := 8) hE dX12_served_8 qM_iconst_1 ?_
  refine z_aload_n (pc := 9) hE 0 0 rfl rfl dX12_served_9 ?_
  refine z_geti (pc := 10) hE fk_RX12_135 lM_0 rfl dX12_served_10 (fun x1 => ?_)
  refine z_ishl (pc := 13) hE dX12_served_13 ?_
  refine z_iconst (pc := 14) hE dX12_served_14 qM_iconst_1 ?_
  refine z_isub (pc := 15) hE dX12_served_15 ?_
  refine z_i2l (pc := 16) hE dX12_served_16 ?_
  refine z_callSi (pc := 17) (st := []) [.long a1.toInt64, .long ((0 : Int64)), .long (((((1 : Int32)) <<< (x1 &&& 31)) - ((1 : Int32))).toInt64)] hE kk_RX12_131 (c_X12_in a1.toInt64 ((0 : Int64)) (((((1 : Int32)) <<< (x1 &&& 31)) - ((1 : Int32))).toInt64)) rfl rfl (Nat.le_of_ble_eq_true rfl) (by decide) dX12_served_17 (fun x2 => ?_)
  refine z_if_ne (pc := 20) hE 25 rfl dX12_served_20 ?_ ?_
  · refine z_iconst (pc := 25) hE dX12_served_25 qM_iconst_0 ?_
    refine z_istore_n (L' := [(2, .int ((0 : Int32))), (0, .ref (ad 0)), (1, .int a1)]) (pc := 26) hE 2 rfl (by decide) rfl dX12_served_26 ?_
    refine z_iconst (pc := 27) hE dX12_served_27 qM_iconst_1 ?_
    refine z_istore_n (L' := [(3, .int ((1 : Int32))), (2, .int ((0 : Int32))), (0, .ref (ad 0)), (1, .int a1)]) (pc := 28) hE 3 rfl (by decide) rfl dX12_served_28 ?_
    refine z_sub (L' := [(0, .ref (ad 0)), (1, .int a1), (2, .int ((0 : Int32))), (3, .int ((1 : Int32)))]) [2, 3, 1, 0] rfl ?_
    refine z_loop (V := (Int32 × Int32)) (X := Int32) (hd := 29) (ex := 85) (Lh := fun v3 => [(0, .ref (ad 0)), (1, .int a1), (2, .int v3.1), (3, .int v3.2)]) (Lx := fun e6 => [(0, .ref (ad 0)), (2, .int e6)]) (fun rc5 k4 hrc5 hk4 v3 => ?_) zNF ((0 : Int32), (1 : Int32)) _ (fun e6 => ?_)
    · unfold p_X12_served_b29
      refine z_iload_n (pc := 29) hE 3 3 rfl rfl dX12_served_29 ?_
      refine z_iload_n (pc := 30) hE 1 1 rfl rfl dX12_served_30 ?_
      refine z_icmp_gt (pc := 31) hE 85 rfl dX12_served_31 ?_ ?_
      · exact z_sub [0, 2] rfl (hk4 v3.1)
      · refine z_iload_n (pc := 34) hE 3 3 rfl rfl dX12_served_34 ?_
        refine z_iload_n (pc := 35) hE 1 1 rfl rfl dX12_served_35 ?_
        refine z_iconst (pc := 36) hE dX12_served_36 qM_iconst_m1 ?_
        refine z_ixor (pc := 37) hE dX12_served_37 ?_
        refine z_iand (pc := 38) hE dX12_served_38 ?_
        refine z_join (Y := Int32) (pcJ := 79) (Lj := fun y7 => [(0, .ref (ad 0)), (1, .int a1), (2, .int y7), (3, .int v3.2)]) (sj := fun y7 => []) (fun y7 => ?_) (fun j8 hj8 => ?_)
        · refine z_iinc (L' := [(3, .int (v3.2 + (1 : Int32))), (0, .ref (ad 0)), (1, .int a1), (2, .int y7)]) (pc := 79) hE 3 rfl (zinc qM_iconst_1) (by decide) rfl dX12_served_79 ?_
          refine z_goto (pc := 82) hE 29 rfl dX12_served_82 ?_
          exact z_sub [1, 2, 3, 0] rfl (hrc5 (y7, v3.2 + (1 : Int32)))
        refine z_if_ne (pc := 39) hE 79 rfl dX12_served_39 ?_ ?_
        · exact z_sub [0, 1, 2, 3] rfl (hj8 v3.1)
        · refine z_iload_n (pc := 42) hE 3 3 rfl rfl dX12_served_42 ?_
          refine z_callSi (pc := 43) (st := []) [.int v3.2] hE kk_RX12_425 (c_J6_bitCount_0f7a4 v3.2) rfl rfl (Nat.le_of_ble_eq_true rfl) (by decide) dX12_served_43 (fun x9 => ?_)
          refine z_iload_n (pc := 46) hE 2 2 rfl rfl dX12_served_46 ?_
          refine z_callSi (pc := 47) (st := [.int x9]) [.int v3.1] hE kk_RX12_425 (c_J6_bitCount_0f7a4 v3.1) rfl rfl (Nat.le_of_ble_eq_true rfl) (by decide) dX12_served_47 (fun x10 => ?_)
          refine z_icmp_le (pc := 50) hE 79 rfl dX12_served_50 ?_ ?_
          · exact z_sub [0, 1, 2, 3] rfl (hj8 v3.1)
          · refine z_aload_n (pc := 53) hE 0 0 rfl rfl dX12_served_53 ?_
            refine z_iconst (pc := 54) hE dX12_served_54 qM_iconst_0 ?_
            refine z_puti (pc := 55) hE fk_RX12_412 lM_0 rfl dX12_served_55 ?_
            refine z_aload_n (pc := 58) hE 0 0 rfl rfl dX12_served_58 ?_
            refine z_iload_n (pc := 59) hE 3 3 rfl rfl dX12_served_59 ?_
            refine z_iconst (pc := 60) hE dX12_served_60 qM_iconst_0 ?_
            refine z_iconst (pc := 61) hE dX12_served_61 qM_iconst_0 ?_
            refine z_iconst (pc := 62) hE dX12_served_62 qM_iconst_1 ?_
            refine z_callVv (pc := 63) (st := []) [.int v3.2, .int ((0 : Int32)), .int ((0 : Int32)), .int ((1 : Int32))] hE kk_RX12_418 (c_X12_berthsFrom v3.2 ((0 : Int32)) ((0 : Int32)) ((1 : Int32))) lM_0 rfl rfl rfl (Nat.le_of_ble_eq_true rfl) (by decide) dX12_served_63 (fun x11 => ?_)
            refine z_aload_n (pc := 66) hE 0 0 rfl rfl dX12_served_66 ?_
            refine z_geti (pc := 67) hE fk_RX12_412 lM_0 rfl dX12_served_67 (fun x12 => ?_)
            refine z_join (Y := Int32) (pcJ := 78) (Lj := fun y13 => [(0, .ref (ad 0)), (1, .int a1), (3, .int v3.2)]) (sj := fun y13 => [.int y13]) (fun y13 => ?_) (fun j14 hj14 => ?_)
            · refine z_istore_n (L' := [(2, .int y13), (0, .ref (ad 0)), (1, .int a1), (3, .int v3.2)]) (pc := 78) hE 2 rfl (by decide) rfl dX12_served_78 ?_
              exact z_sub [1, 2, 0, 3] rfl (hj8 y13)
            refine z_if_le (pc := 70) hE 77 rfl dX12_served_70 ?_ ?_
            · refine z_iload_n (pc := 77) hE 2 2 rfl rfl dX12_served_77 ?_
              exact z_sub [0, 1, 3] rfl (hj14 v3.1)
            · refine z_iload_n (pc := 73) hE 3 3 rfl rfl dX12_served_73 ?_
              refine z_goto (pc := 74) hE 78 rfl dX12_served_74 ?_
              exact z_sub [0, 1, 3] rfl (hj14 v3.2)
    · refine z_aload_n (pc := 85) hE 0 0 rfl rfl dX12_served_85 ?_
      refine z_iconst (pc := 86) hE dX12_served_86 qM_iconst_0 ?_
      refine z_puti (pc := 87) hE fk_RX12_125 lM_0 rfl dX12_served_87 ?_
      refine z_aload_n (pc := 90) hE 0 0 rfl rfl dX12_served_90 ?_
      refine z_iload_n (pc := 91) hE 1 2 rfl rfl dX12_served_91 ?_
      refine z_i2l (pc := 92) hE dX12_served_92 ?_
      refine z_callVv (pc := 93) (st := []) [.long e6.toInt64] hE kk_RX12_384 (c_X12_enters e6.toInt64) lM_0 rfl rfl rfl (Nat.le_of_ble_eq_true rfl) (by decide) dX12_served_93 (fun x15 => ?_)
      refine z_iload_n (pc := 96) hE 1 2 rfl rfl dX12_served_96 ?_
      refine z_callSi (pc := 97) (st := []) [.int e6] hE kk_RX12_425 (c_J6_bitCount_0f7a4 e6) rfl rfl (Nat.le_of_ble_eq_true rfl) (by decide) dX12_served_97 (fun x16 => ?_)
      exact z_ireturn (pc := 100) hE hr dX12_served_100
  · refine z_iconst (pc := 23) hE dX12_served_23 qM_iconst_m1 ?_
    exact z_ireturn (pc := 24) hE hr dX12_served_24
set_option maxRecDepth 100000 in
set_option maxHeartbeats 4000000 in
theorem c_X12_yields {l : Launch} {ad : Nat → Nat} {ca : FieldType → ClassId} {D : va_G} {sa sv : Nat → Nat} (a1 : Int32) : zC l yX12_yields cX12_yields 6 (some .int) 3 layM ad ca D (xtM ad sa sv) [.ref (ad 0), .int a1] zvi (p_X12_yields a1) := by
  refine z_enter (by decide) (Nat.le_of_ble_eq_true rfl) (fun E hE hl0 hcD hr => ?_)
  have hE : zok layM ad (xtM ad sa sv) E cX12_yields 6 RX12 3 := hE
  show Z layM ad E 6 (zFin layM ad E zvi) 0 [(0, .ref (ad 0)), (1, .int a1)] [] (p_X12_yields a1)
  unfold p_X12_yields
  refine z_aload_n (pc := 0) hE 0 0 rfl rfl dX12_yields_0 ?_
  refine z_iconst (pc := 1) hE dX12_yields_1 qM_iconst_0 ?_
  refine z_puti (pc := 2) hE fk_RX12_117 lM_0 rfl dX12_yields_2 ?_
  refine z_aload_n (pc := 5) hE 0 0 rfl rfl dX12_yields_5 ?_
  refine z_iload_n (pc := 6) hE 1 1 rfl rfl dX12_yields_6 ?_
  refine z_callVi (pc := 7) (st := []) [.int a1] hE kk_RX12_282 (c_X12_isBalloon a1) lM_0 rfl rfl rfl (Nat.le_of_ble_eq_true rfl) (by decide) dX12_yields_7 (fun x1 => ?_)
  refine z_if_ne (pc := 10) hE 15 rfl dX12_yields_10 ?_ ?_
  · refine z_iconst (pc := 15) hE dX12_yields_15 qM_iconst_0 ?_
    refine z_istore_n (L' := [(2, .int ((0 : Int32))), (0, .ref (ad 0)), (1, .int a1)]) (pc := 16) hE 2 rfl (by decide) rfl dX12_yields_16 ?_
    refine z_iconst (pc := 17) hE dX12_yields_17 qM_iconst_0 ?_
    refine z_istore_n (L' := [(3, .int ((0 : Int32))), (2, .int ((0 : Int32))), (0, .ref (ad 0)), (1, .int a1)]) (pc := 18) hE 3 rfl (by decide) rfl dX12_yields_18 ?_
    refine z_sub (L' := [(0, .ref (ad 0)), (1, .int a1), (2, .int ((0 : Int32))), (3, .int ((0 : Int32)))]) [2, 3, 1, 0] rfl ?_
    refine z_loop (V := (Int32 × Int32)) (X := Int32) (hd := 19) (ex := 129) (Lh := fun v2 => [(0, .ref (ad 0)), (1, .int a1), (2, .int v2.1), (3, .int v2.2)]) (Lx := fun e5 => [(0, .ref (ad 0)), (2, .int e5)]) (fun rc4 k3 hrc4 hk3 v2 => ?_) zNF ((0 : Int32), (0 : Int32)) _ (fun e5 => ?_)
    · unfold p_X12_yields_b19
      refine z_iload_n (pc := 19) hE 3 3 rfl rfl dX12_yields_19 ?_
      refine z_aload_n (pc := 20) hE 0 0 rfl rfl dX12_yields_20 ?_
      refine z_geti (pc := 21) hE fk_RX12_128 lM_0 rfl dX12_yields_21 (fun x6 => ?_)
      refine z_icmp_ge (pc := 24) hE 129 rfl dX12_yields_24 ?_ ?_
      · exact z_sub [0, 2] rfl (hk3 v2.1)
      · refine z_aload_n (pc := 27) hE 0 0 rfl rfl dX12_yields_27 ?_
        refine z_iload_n (pc := 28) hE 3 3 rfl rfl dX12_yields_28 ?_
        refine z_callVi (pc := 29) (st := []) [.int v2.2] hE kk_RX12_279 (c_X12_mooredAt v2.2) lM_0 rfl rfl rfl (Nat.le_of_ble_eq_true rfl) (by decide) dX12_yields_29 (fun x7 => ?_)
        refine z_join (Y := Int32) (pcJ := 40) (Lj := fun y8 => [(0, .ref (ad 0)), (1, .int a1), (2, .int v2.1), (3, .int v2.2)]) (sj := fun y8 => [.int y8]) (fun y8 => ?_) (fun j9 hj9 => ?_)
        · refine z_istore (L' := [(4, .int y8), (0, .ref (ad 0)), (1, .int a1), (2, .int v2.1), (3, .int v2.2)]) (pc := 40) hE (by decide) rfl dX12_yields_40 ?_
          refine z_iconst (pc := 42) hE dX12_yields_42 qM_iconst_0 ?_
          refine z_istore (L' := [(5, .int ((0 : Int32))), (4, .int y8), (0, .ref (ad 0)), (1, .int a1), (2, .int v2.1), (3, .int v2.2)]) (pc := 43) hE (by decide) rfl dX12_yields_43 ?_
          refine z_sub (L' := [(0, .ref (ad 0)), (1, .int a1), (2, .int v2.1), (3, .int v2.2), (4, .int y8), (5, .int ((0 : Int32)))]) [2, 3, 4, 5, 1, 0] rfl ?_
          refine z_loop (V := (Int32 × Int32)) (X := Int32) (hd := 45) (ex := 108) (Lh := fun v10 => [(0, .ref (ad 0)), (1, .int a1), (2, .int v2.1), (3, .int v2.2), (4, .int v10.1), (5, .int v10.2)]) (Lx := fun e13 => [(0, .ref (ad 0)), (1, .int a1), (2, .int v2.1), (3, .int v2.2), (4, .int e13)]) (fun rc12 k11 hrc12 hk11 v10 => ?_) zNF (y8, (0 : Int32)) _ (fun e13 => ?_)
          · unfold p_X12_yields_b45
            refine z_iload (pc := 45) hE 5 rfl dX12_yields_45 ?_
            refine z_aload_n (pc := 47) hE 0 0 rfl rfl dX12_yields_47 ?_
            refine z_geti (pc := 48) hE fk_RX12_135 lM_0 rfl dX12_yields_48 (fun x14 => ?_)
            refine z_icmp_ge (pc := 51) hE 108 rfl dX12_yields_51 ?_ ?_
            · exact z_sub [0, 1, 2, 3, 4] rfl (hk11 v10.1)
            · refine z_iload (pc := 54) hE 4 rfl dX12_yields_54 ?_
              refine z_if_eq (pc := 56) hE 108 rfl dX12_yields_56 ?_ ?_
              · exact z_sub [0, 1, 2, 3, 4] rfl (hk11 v10.1)
              · refine z_iload (pc := 59) hE 5 rfl dX12_yields_59 ?_
                refine z_iload_n (pc := 61) hE 1 1 rfl rfl dX12_yields_61 ?_
                refine z_join (Y := Int32) (pcJ := 100) (Lj := fun y15 => [(0, .ref (ad 0)), (1, .int a1), (2, .int v2.1), (3, .int v2.2), (5, .int v10.2)]) (sj := fun y15 => [.int y15]) (fun y15 => ?_) (fun j16 hj16 => ?_)
                · refine z_istore (L' := [(4, .int y15), (0, .ref (ad 0)), (1, .int a1), (2, .int v2.1), (3, .int v2.2), (5, .int v10.2)]) (pc := 100) hE (by decide) rfl dX12_yields_100 ?_
                  refine z_iinc (L' := [(5, .int (v10.2 + (1 : Int32))), (4, .int y15), (0, .ref (ad 0)), (1, .int a1), (2, .int v2.1), (3, .int v2.2)]) (pc := 102) hE 5 rfl (zinc qM_iconst_1) (by decide) rfl dX12_yields_102 ?_
                  refine z_goto (pc := 105) hE 45 rfl dX12_yields_105 ?_
                  exact z_sub [2, 3, 4, 5, 1, 0] rfl (hrc12 (y15, v10.2 + (1 : Int32)))
                refine z_join (Y := Unit) (pcJ := 95) (Lj := fun y17 => [(0, .ref (ad 0)), (1, .int a1), (2, .int v2.1), (3, .int v2.2), (5, .int v10.2)]) (sj := fun y17 => []) (fun y17 => ?_) (fun j18 hj18 => ?_)
                · refine z_iconst (pc := 95) hE dX12_yields_95 qM_iconst_1 ?_
                  refine z_goto (pc := 96) hE 100 rfl dX12_yields_96 ?_
                  exact z_sub [0, 1, 2, 3, 4] rfl (hj16 ((1 : Int32)))
                refine z_icmp_eq (pc := 62) hE 95 rfl dX12_yields_62 ?_ ?_
                · exact z_sub [0, 1, 2, 3, 5] rfl (hj18 ())
                · refine z_aload_n (pc := 65) hE 0 0 rfl rfl dX12_yields_65 ?_
                  refine z_iload (pc := 66) hE 5 rfl dX12_yields_66 ?_
                  refine z_callVi (pc := 68) (st := []) [.int v10.2] hE kk_RX12_268 (c_X12_how v10.2) lM_0 rfl rfl rfl (Nat.le_of_ble_eq_true rfl) (by decide) dX12_yields_68 (fun x19 => ?_)
                  refine z_iconst (pc := 71) hE dX12_yields_71 qM_iconst_2 ?_
                  refine z_icmp_ne (pc := 72) hE 95 rfl dX12_yields_72 ?_ ?_
                  · exact z_sub [0, 1, 2, 3, 5] rfl (hj18 ())
                  · refine z_aload_n (pc := 75) hE 0 0 rfl rfl dX12_yields_75 ?_
                    refine z_iload_n (pc := 76) hE 1 1 rfl rfl dX12_yields_76 ?_
                    refine z_iload_n (pc := 77) hE 3 3 rfl rfl dX12_yields_77 ?_
                    refine z_iload (pc := 78) hE 5 rfl dX12_yields_78 ?_
                    refine z_aload_n (pc := 80) hE 0 0 rfl rfl dX12_yields_80 ?_
                    refine z_getr (pc := 81) hE fk_RX12_32 lM_0 rfl dX12_yields_81 ?_
                    refine z_iload (pc := 84) hE 5 rfl dX12_yields_84 ?_
                    refine z_callSi (pc := 86) (st := [.int v10.2, .int v2.2, .int a1, .ref (ad 0)]) [.ref (ad 8), .int v10.2] hE kk_RX12_293 (c_X12_ringOf 8 lM_8 v10.2) rfl rfl (Nat.le_of_ble_eq_true rfl) (by decide) dX12_yields_86 (fun x20 => ?_)
                    refine z_callVi (pc := 89) (st := []) [.int a1, .int v2.2, .int v10.2, .int x20] hE kk_RX12_422 (c_X12_canBeside a1 v2.2 v10.2 x20) lM_0 rfl rfl rfl (Nat.le_of_ble_eq_true rfl) (by decide) dX12_yields_89 (fun x21 => ?_)
                    refine z_if_eq (pc := 92) hE 99 rfl dX12_yields_92 ?_ ?_
                    · refine z_iconst (pc := 99) hE dX12_yields_99 qM_iconst_0 ?_
                      exact z_sub [0, 1, 2, 3, 5] rfl (hj16 ((0 : Int32)))
                    · exact z_sub [0, 1, 2, 3, 5] rfl (hj18 ())
          · refine z_iload_n (pc := 108) hE 2 2 rfl rfl dX12_yields_108 ?_
            refine z_iload (pc := 109) hE 4 rfl dX12_yields_109 ?_
            refine z_join (Y := Int32) (pcJ := 121) (Lj := fun y22 => [(0, .ref (ad 0)), (1, .int a1), (3, .int v2.2)]) (sj := fun y22 => [.int y22, .int v2.1]) (fun y22 => ?_) (fun j23 hj23 => ?_)
            · refine z_ior (pc := 121) hE dX12_yields_121 ?_
              refine z_istore_n (L' := [(2, .int (v2.1 ||| y22)), (0, .ref (ad 0)), (1, .int a1), (3, .int v2.2)]) (pc := 122) hE 2 rfl (by decide) rfl dX12_yields_122 ?_
              refine z_iinc (L' := [(3, .int (v2.2 + (1 : Int32))), (2, .int (v2.1 ||| y22)), (0, .ref (ad 0)), (1, .int a1)]) (pc := 123) hE 3 rfl (zinc qM_iconst_1) (by decide) rfl dX12_yields_123 ?_
              refine z_goto (pc := 126) hE 19 rfl dX12_yields_126 ?_
              exact z_sub [2, 3, 1, 0] rfl (hrc4 (v2.1 ||| y22, v2.2 + (1 : Int32)))
            refine z_if_eq (pc := 111) hE 120 rfl dX12_yields_111 ?_ ?_
            · refine z_iconst (pc := 120) hE dX12_yields_120 qM_iconst_0 ?_
              exact z_sub [0, 1, 3] rfl (hj23 ((0 : Int32)))
            · refine z_iconst (pc := 114) hE dX12_yields_114 qM_iconst_1 ?_
              refine z_iload_n (pc := 115) hE 3 3 rfl rfl dX12_yields_115 ?_
              refine z_ishl (pc := 116) hE dX12_yields_116 ?_
              refine z_goto (pc := 117) hE 121 rfl dX12_yields_117 ?_
              exact z_sub [0, 1, 3] rfl (hj23 (((1 : Int32)) <<< (v2.2 &&& 31)))
        refine z_if_ge (pc := 32) hE 39 rfl dX12_yields_32 ?_ ?_
        · refine z_iconst (pc := 39) hE dX12_yields_39 qM_iconst_0 ?_
          exact z_sub [0, 1, 2, 3] rfl (hj9 ((0 : Int32)))
        · refine z_iconst (pc := 35) hE dX12_yields_35 qM_iconst_1 ?_
          refine z_goto (pc := 36) hE 40 rfl dX12_yields_36 ?_
          exact z_sub [0, 1, 2, 3] rfl (hj9 ((1 : Int32)))
    · refine z_aload_n (pc := 129) hE 0 0 rfl rfl dX12_yields_129 ?_
      refine z_iconst (pc := 130) hE dX12_yields_130 qM_iconst_0 ?_
      refine z_puti (pc := 131) hE fk_RX12_125 lM_0 rfl dX12_yields_131 ?_
      refine z_aload_n (pc := 134) hE 0 0 rfl rfl dX12_yields_134 ?_
      refine z_iload_n (pc := 135) hE 1 2 rfl rfl dX12_yields_135 ?_
      refine z_callSi (pc := 136) (st := [.ref (ad 0)]) [.int e5] hE kk_RX12_425 (c_J6_bitCount_0f7a4 e5) rfl rfl (Nat.le_of_ble_eq_true rfl) (by decide) dX12_yields_136 (fun x24 => ?_)
      refine z_i2l (pc := 139) hE dX12_yields_139 ?_
      refine z_callVv (pc := 140) (st := []) [.long x24.toInt64] hE kk_RX12_384 (c_X12_enters x24.toInt64) lM_0 rfl rfl rfl (Nat.le_of_ble_eq_true rfl) (by decide) dX12_yields_140 (fun x25 => ?_)
      refine z_iload_n (pc := 143) hE 1 2 rfl rfl dX12_yields_143 ?_
      exact z_ireturn (pc := 144) hE hr dX12_yields_144
  · refine z_iconst (pc := 13) hE dX12_yields_13 qM_iconst_m1 ?_
    exact z_ireturn (pc := 14) hE hr dX12_yields_14
