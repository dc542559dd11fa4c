set_option maxRecDepth 100000 in
set_option maxHeartbeats 4000000 in
theorem c_X12_setsStage {l : Launch} {ad : Nat → Nat} {ca : FieldType → ClassId} {D : va_G} {sa sv : Nat → Nat} (a1 : Int32) (a2 : Int32) : zC l yX12_setsStage cX12_setsStage 4 none 0 layM ad ca D (xtM ad sa sv) [.ref (ad 0), .int a1, .int a2] zvn (p_X12_setsStage a1 a2) := by
  refine z_enter (by decide) (Nat.le_of_ble_eq_true rfl) (fun E hE hl0 hcD hr => ?_)
  have hE : zok layM ad (xtM ad sa sv) E cX12_setsStage 4 RX12 0 := hE
  show Z layM ad E 4 (zFin layM ad E zvn) 0 [(0, .ref (ad 0)), (1, .int a1), (2, .int a2)] [] (p_X12_setsStage a1 a2)
  unfold p_X12_setsStage
  refine z_iconst (pc := 0) hE dX12_setsStage_0 qM_iconst_0 ?_
  refine z_istore_n (L' := [(3, .int ((0 : Int32))), (0, .ref (ad 0)), (1, .int a1), (2, .int a2)]) (pc := 1) hE 3 rfl (by decide) rfl dX12_setsStage_1 ?_
  refine z_sub (L' := [(0, .ref (ad 0)), (1, .int a1), (2, .int a2), (3, .int ((0 : Int32)))]) [1, 2, 3, 0] rfl ?_
  refine z_loop (V := Int32) (X := Unit) (hd := 2) (ex := 36) (Lh := fun v1 => [(0, .ref (ad 0)), (1, .int a1), (2, .int a2), (3, .int v1)]) (Lx := fun e4 => []) (fun rc3 k2 hrc3 hk2 v1 => ?_) zNF ((0 : Int32)) _ (fun e4 => ?_)
  · unfold p_X12_setsStage_b2
    refine z_iload_n (pc := 2) hE 3 3 rfl rfl dX12_setsStage_2 ?_
    refine z_bipush (pc := 3) hE dX12_setsStage_3 qM_bipush_7 ?_
    refine z_icmp_ge (pc := 5) hE 36 rfl dX12_setsStage_5 ?_ ?_
    · exact z_sub [] rfl (hk2 ())
    · refine z_aload_n (pc := 8) hE 0 0 rfl rfl dX12_setsStage_8 ?_
      refine z_getr (pc := 9) hE fk_RX12_77 lM_0 rfl dX12_setsStage_9 ?_
      refine z_bipush (pc := 12) hE dX12_setsStage_12 qM_bipush_7 ?_
      refine z_iload_n (pc := 14) hE 1 1 rfl rfl dX12_setsStage_14 ?_
      refine z_imul (pc := 15) hE dX12_setsStage_15 ?_
      refine z_iload_n (pc := 16) hE 3 3 rfl rfl dX12_setsStage_16 ?_
      refine z_iadd (pc := 17) hE dX12_setsStage_17 ?_
      refine z_aload_n (pc := 18) hE 0 0 rfl rfl dX12_setsStage_18 ?_
      refine z_getr (pc := 19) hE fk_RX12_80 lM_0 rfl dX12_setsStage_19 ?_
      refine z_bipush (pc := 22) hE dX12_setsStage_22 qM_bipush_7 ?_
      refine z_iload_n (pc := 24) hE 2 2 rfl rfl dX12_setsStage_24 ?_
      refine z_imul (pc := 25) hE dX12_setsStage_25 ?_
      refine z_iload_n (pc := 26) hE 3 3 rfl rfl dX12_setsStage_26 ?_
      refine z_iadd (pc := 27) hE dX12_setsStage_27 ?_
      refine z_iald (pc := 28) hE lM_24 dX12_setsStage_28 (fun x5 => ?_)
      refine z_iast (pc := 29) hE lM_23 dX12_setsStage_29 ?_
      refine z_iinc (L' := [(3, .int (v1 + (1 : Int32))), (0, .ref (ad 0)), (1, .int a1), (2, .int a2)]) (pc := 30) hE 3 rfl (zinc qM_iconst_1) (by decide) rfl dX12_setsStage_30 ?_
      refine z_goto (pc := 33) hE 2 rfl dX12_setsStage_33 ?_
      exact z_sub [1, 2, 3, 0] rfl (hrc3 (v1 + (1 : Int32)))
  · exact z_return (pc := 36) hE hr dX12_setsStage_36
set_option maxRecDepth 100000 in
set_option maxHeartbeats 4000000 in
theorem c_X12_takesStage {l : Launch} {ad : Nat → Nat} {ca : FieldType → ClassId} {D : va_G} {sa sv : Nat → Nat} (a1 : Int32) (a2 : Int32) : zC l yX12_takesStage cX12_takesStage 4 none 0 layM ad ca D (xtM ad sa sv) [.ref (ad 0), .int a1, .int a2] zvn (p_X12_takesStage a1 a2) := by
  refine z_enter (by decide) (Nat.le_of_ble_eq_true rfl) (fun E hE hl0 hcD hr => ?_)
  have hE : zok layM ad (xtM ad sa sv) E cX12_takesStage 4 RX12 0 := hE
  show Z layM ad E 4 (zFin layM ad E zvn) 0 [(0, .ref (ad 0)), (1, .int a1), (2, .int a2)] [] (p_X12_takesStage a1 a2)
  unfold p_X12_takesStage
  refine z_iconst (pc := 0) hE dX12_takesStage_0 qM_iconst_0 ?_
  refine z_istore_n (L' := [(3, .int ((0 : Int32))), (0, .ref (ad 0)), (1, .int a1), (2, .int a2)]) (pc := 1) hE 3 rfl (by decide) rfl dX12_takesStage_1 ?_
  refine z_sub (L' := [(0, .ref (ad 0)), (1, .int a1), (2, .int a2), (3, .int ((0 : Int32)))]) [1, 2, 3, 0] rfl ?_
  refine z_loop (V := Int32) (X := Unit) (hd := 2) (ex := 36) (Lh := fun v1 => [(0, .ref (ad 0)), (1, .int a1), (2, .int a2), (3, .int v1)]) (Lx := fun e4 => [(0, .ref (ad 0)), (1, .int a1)]) (fun rc3 k2 hrc3 hk2 v1 => ?_) zNF ((0 : Int32)) _ (fun e4 => ?_)
  · unfold p_X12_takesStage_b2
    refine z_iload_n (pc := 2) hE 3 3 rfl rfl dX12_takesStage_2 ?_
    refine z_bipush (pc := 3) hE dX12_takesStage_3 qM_bipush_7 ?_
    refine z_icmp_ge (pc := 5) hE 36 rfl dX12_takesStage_5 ?_ ?_
    · exact z_sub [0, 1] rfl (hk2 ())
    · refine z_aload_n (pc := 8) hE 0 0 rfl rfl dX12_takesStage_8 ?_
      refine z_getr (pc := 9) hE fk_RX12_80 lM_0 rfl dX12_takesStage_9 ?_
      refine z_bipush (pc := 12) hE dX12_takesStage_12 qM_bipush_7 ?_
      refine z_iload_n (pc := 14) hE 2 2 rfl rfl dX12_takesStage_14 ?_
      refine z_imul (pc := 15) hE dX12_takesStage_15 ?_
      refine z_iload_n (pc := 16) hE 3 3 rfl rfl dX12_takesStage_16 ?_
      refine z_iadd (pc := 17) hE dX12_takesStage_17 ?_
      refine z_aload_n (pc := 18) hE 0 0 rfl rfl dX12_takesStage_18 ?_
      refine z_getr (pc := 19) hE fk_RX12_77 lM_0 rfl dX12_takesStage_19 ?_
      refine z_bipush (pc := 22) hE dX12_takesStage_22 qM_bipush_7 ?_
      refine z_iload_n (pc := 24) hE 1 1 rfl rfl dX12_takesStage_24 ?_
      refine z_imul (pc := 25) hE dX12_takesStage_25 ?_
      refine z_iload_n (pc := 26) hE 3 3 rfl rfl dX12_takesStage_26 ?_
      refine z_iadd (pc := 27) hE dX12_takesStage_27 ?_
      refine z_iald (pc := 28) hE lM_23 dX12_takesStage_28 (fun x5 => ?_)
      refine z_iast (pc := 29) hE lM_24 dX12_takesStage_29 ?_
      refine z_iinc (L' := [(3, .int (v1 + (1 : Int32))), (0, .ref (ad 0)), (1, .int a1), (2, .int a2)]) (pc := 30) hE 3 rfl (zinc qM_iconst_1) (by decide) rfl dX12_takesStage_30 ?_
      refine z_goto (pc := 33) hE 2 rfl dX12_takesStage_33 ?_
      exact z_sub [1, 2, 3, 0] rfl (hrc3 (v1 + (1 : Int32)))
  · refine z_aload_n (pc := 36) hE 0 0 rfl rfl dX12_takesStage_36 ?_
    refine z_getr (pc := 37) hE fk_RX12_80 lM_0 rfl dX12_takesStage_37 ?_
    refine z_bipush (pc := 40) hE dX12_takesStage_40 qM_bipush_42 ?_
    refine z_aload_n (pc := 42) hE 0 0 rfl rfl dX12_takesStage_42 ?_
    refine z_getr (pc := 43) hE fk_RX12_32 lM_0 rfl dX12_takesStage_43 ?_
    refine z_bipush (pc := 46) hE dX12_takesStage_46 qM_bipush_42 ?_
    refine z_iald (pc := 48) hE lM_8 dX12_takesStage_48 (fun x6 => ?_)
    refine z_iload_n (pc := 49) hE 1 1 rfl rfl dX12_takesStage_49 ?_
    refine z_iadd (pc := 50) hE dX12_takesStage_50 ?_
    refine z_iast (pc := 51) hE lM_24 dX12_takesStage_51 ?_
    exact z_return (pc := 52) hE hr dX12_takesStage_52
set_option maxRecDepth 100000 in
set_option maxHeartbeats 4000000 in
theorem c_X12_goesAlone {l : Launch} {ad : Nat → Nat} {ca : FieldType → ClassId} {D : va_G} {sa sv : Nat → Nat} (a1 : Int32) : zC l yX12_goesAlone cX12_goesAlone 3 (some .boolean) 5 layM ad ca D (xtM ad sa sv) [.ref (ad 0), .int a1] zvi (p_X12_goesAlone a1) := by
  refine z_enter (by decide) (Nat.le_of_ble_eq_true rfl) (fun E hE hl0 hcD hr => ?_)
  have hE : zok layM ad (xtM ad sa sv) E cX12_goesAlone 3 RX12 5 := hE
  show Z layM ad E 3 (zFin layM ad E zvi) 0 [(0, .ref (ad 0)), (1, .int a1)] [] (p_X12_goesAlone a1)
  unfold p_X12_goesAlone
  refine z_bipush (pc := 0) hE dX12_goesAlone_0 qM_bipush_7 ?_
  refine z_iload_n (pc := 2) hE 1 1 rfl rfl dX12_goesAlone_2 ?_
  refine z_imul (pc := 3) hE dX12_goesAlone_3 ?_
  refine z_istore_n (L' := [(2, .int (((7 : Int32)) * a1)), (0, .ref (ad 0)), (1, .int a1)]) (pc := 4) hE 2 rfl (by decide) rfl dX12_goesAlone_4 ?_
  refine z_aload_n (pc := 5) hE 1 0 rfl rfl dX12_goesAlone_5 ?_
  refine z_aload_n (pc := 6) hE 1 0 rfl rfl dX12_goesAlone_6 ?_
  refine z_getr (pc := 7) hE fk_RX12_80 lM_0 rfl dX12_goesAlone_7 ?_
  refine z_iload_n (pc := 10) hE 2 1 rfl rfl dX12_goesAlone_10 ?_
  refine z_aload_n (pc := 11) hE 1 0 rfl rfl dX12_goesAlone_11 ?_
  refine z_aload_n (pc := 12) hE 1 0 rfl rfl dX12_goesAlone_12 ?_
  refine z_getr (pc := 13) hE fk_RX12_80 lM_0 rfl dX12_goesAlone_13 ?_
  refine z_iload_n (pc := 16) hE 2 1 rfl rfl dX12_goesAlone_16 ?_
  refine z_callVi (pc := 17) (st := [.int a1, .ref (ad 24), .ref (ad 0)]) [.ref (ad 24), .int a1] hE kk_RX12_290 (c_X12_highOf 24 lM_24 a1) lM_0 rfl rfl rfl (Nat.le_of_ble_eq_true rfl) (by decide) dX12_goesAlone_17 (fun x1 => ?_)
  refine z_callVi (pc := 20) (st := []) [.ref (ad 24), .int a1, .int x1] hE kk_RX12_343 (c_X12_blows 24 lM_24 a1 x1) lM_0 rfl rfl rfl (Nat.le_of_ble_eq_true rfl) (by decide) dX12_goesAlone_20 (fun x2 => ?_)
  refine z_if_ne (pc := 23) hE 28 rfl dX12_goesAlone_23 ?_ ?_
  · refine z_aload_n (pc := 28) hE 1 0 rfl rfl dX12_goesAlone_28 ?_
    refine z_getr (pc := 29) hE fk_RX12_80 lM_0 rfl dX12_goesAlone_29 ?_
    refine z_iload_n (pc := 32) hE 0 2 rfl rfl dX12_goesAlone_32 ?_
    refine z_iconst (pc := 33) hE dX12_goesAlone_33 qM_iconst_0 ?_
    refine z_iadd (pc := 34) hE dX12_goesAlone_34 ?_
    refine z_iconst (pc := 35) hE dX12_goesAlone_35 qM_iconst_0 ?_
    refine z_aload_n (pc := 36) hE 1 0 rfl rfl dX12_goesAlone_36 ?_
    refine z_getr (pc := 37) hE fk_RX12_80 lM_0 rfl dX12_goesAlone_37 ?_
    refine z_iload_n (pc := 40) hE 0 2 rfl rfl dX12_goesAlone_40 ?_
    refine z_iconst (pc := 41) hE dX12_goesAlone_41 qM_iconst_0 ?_
    refine z_iadd (pc := 42) hE dX12_goesAlone_42 ?_
    refine z_iald (pc := 43) hE lM_24 dX12_goesAlone_43 (fun x3 => ?_)
    refine z_aload_n (pc := 44) hE 1 0 rfl rfl dX12_goesAlone_44 ?_
    refine z_getr (pc := 45) hE fk_RX12_23 lM_0 rfl dX12_goesAlone_45 ?_
    refine z_iload_n (pc := 48) hE 2 1 rfl rfl dX12_goesAlone_48 ?_
    refine z_iald (pc := 49) hE lM_5 dX12_goesAlone_49 (fun x4 => ?_)
    refine z_isub (pc := 50) hE dX12_goesAlone_50 ?_
    refine z_max (pc := 51) hE kk_RX12_265 (Nat.le_of_ble_eq_true rfl) (by decide) dX12_goesAlone_51 ?_
    refine z_iast (pc := 54) hE lM_24 dX12_goesAlone_54 ?_
    refine z_aload_n (pc := 55) hE 1 0 rfl rfl dX12_goesAlone_55 ?_
    refine z_getr (pc := 56) hE fk_RX12_80 lM_0 rfl dX12_goesAlone_56 ?_
    refine z_bipush (pc := 59) hE dX12_goesAlone_59 qM_bipush_42 ?_
    refine z_dup2 (pc := 61) hE dX12_goesAlone_61 rfl rfl ?_
    refine z_iald (pc := 62) hE lM_24 dX12_goesAlone_62 (fun x5 => ?_)
    refine z_iconst (pc := 63) hE dX12_goesAlone_63 qM_iconst_1 ?_
    refine z_iadd (pc := 64) hE dX12_goesAlone_64 ?_
    refine z_iast (pc := 65) hE lM_24 dX12_goesAlone_65 ?_
    refine z_aload_n (pc := 66) hE 1 0 rfl rfl dX12_goesAlone_66 ?_
    refine z_aload_n (pc := 67) hE 1 0 rfl rfl dX12_goesAlone_67 ?_
    refine z_getr (pc := 68) hE fk_RX12_80 lM_0 rfl dX12_goesAlone_68 ?_
    refine z_iload_n (pc := 71) hE 2 1 rfl rfl dX12_goesAlone_71 ?_
    refine z_callVi (pc := 72) (st := []) [.ref (ad 24), .int a1] hE kk_RX12_261 (c_X12_liftOf 24 lM_24 a1) lM_0 rfl rfl rfl (Nat.le_of_ble_eq_true rfl) (by decide) dX12_goesAlone_72 (fun x6 => ?_)
    refine z_if_lt (pc := 75) hE 82 rfl dX12_goesAlone_75 ?_ ?_
    · refine z_iconst (pc := 82) hE dX12_goesAlone_82 qM_iconst_0 ?_
      exact z_zreturn (pc := 83) hE hr dX12_goesAlone_83
    · refine z_iconst (pc := 78) hE dX12_goesAlone_78 qM_iconst_1 ?_
      refine z_goto (pc := 79) hE 83 rfl dX12_goesAlone_79 ?_
      exact z_zreturn (pc := 83) hE hr dX12_goesAlone_83
  · refine z_iconst (pc := 26) hE dX12_goesAlone_26 qM_iconst_0 ?_
    exact z_zreturn (pc := 27) hE hr dX12_goesAlone_27
set_option maxRecDepth 100000 in
set_option maxHeartbeats 4000000 in
theorem c_X12_landsBy_s (G : ((Int32 × Int32 × Int32 × Int32 × Int32) → zM Int32)) (d : Nat) (hd : 7 ≤ d) (hG : (∀ (l : Launch) (ad : Nat → Nat) (ca : FieldType → ClassId) (D : va_G) (sa sv : Nat → Nat) (a1 : Int32) (a2 : Int32) (a3 : Int32) (a4 : Int32) (a5 : Int32), zC l yX12_landsBy cX12_landsBy 7 (some .boolean) (d - 1) layM ad ca D (xtM ad sa sv) [.ref (ad 0), .int a1, .int a2, .int a3, .int a4, .int a5] zvi (G (a1, a2, a3, a4, a5)))) {l : Launch} {ad : Nat → Nat} {ca : FieldType → ClassId} {D : va_G} {sa sv : Nat → Nat} (a1 : Int32) (a2 : Int32) (a3 : Int32) (a4 : Int32) (a5 : Int32) : zC l yX12_landsBy cX12_landsBy 7 (some .boolean) d layM ad ca D (xtM ad sa sv) [.ref (ad 0), .int a1, .int a2, .int a3, .int a4, .int a5] zvi (p_X12_landsBy_s G a1 a2 a3 a4 a5) := by
  refine z_enter (by decide) (Nat.le_of_ble_eq_true rfl) (fun E hE hl0 hcD hr => ?_)
  have hE : zok layM ad (xtM ad sa sv) E cX12_landsBy 7 RX12 d := hE
  show Z layM ad E 7 (zFin layM ad E zvi) 0 [(0, .ref (ad 0)), (1, .int a1), (2, .int a2), (3, .int a3), (4, .int a4), (5, .int a5)] [] (p_X12_landsBy_s G a1 a2 a3 a4 a5)
  unfold p_X12_landsBy_s
  refine z_iload_n (pc := 0) hE 3 3 rfl rfl dX12_landsBy_0 ?_
  refine z_iload (pc := 1) hE 4 rfl dX12_landsBy_1 ?_
  refine z_icmp_ne (pc := 3) hE 47 rfl dX12_landsBy_3 ?_ ?_
  · refine z_iconst (pc := 47) hE dX12_landsBy_47 qM_iconst_0 ?_
    refine z_istore (L' := [(6, .int ((0 : Int32))), (0, .ref (ad 0)), (1, .int a1), (2, .int a2), (3, .int a3), (4, .int a4), (5, .int a5)]) (pc := 48) hE (by decide) rfl dX12_landsBy_48 ?_
    refine z_sub (L' := [(0, .ref (ad 0)), (1, .int a1), (2, .int a2), (3, .int a3), (4, .int a4), (5, .int a5), (6, .int ((0 : Int32)))]) [1, 2, 3, 4, 5, 6, 0] rfl ?_
    refine z_loop (V := Int32) (X := Unit) (hd := 50) (ex := 130) (Lh := fun v1 => [(0, .ref (ad 0)), (1, .int a1), (2, .int a2), (3, .int a3), (4, .int a4), (5, .int a5), (6, .int v1)]) (Lx := fun e4 => []) (fun rc3 k2 hrc3 hk2 v1 => ?_) zNF ((0 : Int32)) _ (fun e4 => ?_)
    · unfold p_X12_landsBy_b50
      refine z_iload (pc := 50) hE 6 rfl dX12_landsBy_50 ?_
      refine z_iload (pc := 52) hE 5 rfl dX12_landsBy_52 ?_
      refine z_icmp_gt (pc := 54) hE 130 rfl dX12_landsBy_54 ?_ ?_
      · exact z_sub [] rfl (hk2 ())
      · refine z_aload_n (pc := 57) hE 0 0 rfl rfl dX12_landsBy_57 ?_
        refine z_iload_n (pc := 58) hE 3 3 rfl rfl dX12_landsBy_58 ?_
        refine z_iload_n (pc := 59) hE 1 1 rfl rfl dX12_landsBy_59 ?_
        refine z_callVv (pc := 60) (st := []) [.int a3, .int a1] hE kk_RX12_430 (c_X12_takesStage a3 a1) lM_0 rfl rfl rfl (Nat.le_of_ble_eq_true rfl) (by omega) dX12_landsBy_60 (fun x5 => ?_)
        refine z_aload_n (pc := 63) hE 0 0 rfl rfl dX12_landsBy_63 ?_
        refine z_getr (pc := 64) hE fk_RX12_80 lM_0 rfl dX12_landsBy_64 ?_
        refine z_bipush (pc := 67) hE dX12_landsBy_67 qM_bipush_7 ?_
        refine z_iload_n (pc := 69) hE 1 1 rfl rfl dX12_landsBy_69 ?_
        refine z_imul (pc := 70) hE dX12_landsBy_70 ?_
        refine z_iconst (pc := 71) hE dX12_landsBy_71 qM_iconst_1 ?_
        refine z_iadd (pc := 72) hE dX12_landsBy_72 ?_
        refine z_dup2 (pc := 73) hE dX12_landsBy_73 rfl rfl ?_
        refine z_iald (pc := 74) hE lM_24 dX12_landsBy_74 (fun x6 => ?_)
        refine z_iload (pc := 75) hE 6 rfl dX12_landsBy_75 ?_
        refine z_isub (pc := 77) hE dX12_landsBy_77 ?_
        refine z_iast (pc := 78) hE lM_24 dX12_landsBy_78 ?_
        refine z_aload_n (pc := 79) hE 0 0 rfl rfl dX12_landsBy_79 ?_
        refine z_iload_n (pc := 80) hE 1 1 rfl rfl dX12_landsBy_80 ?_
        refine z_callVi (pc := 81) (st := []) [.int a1] hE kk_RX12_434 (c_X12_goesAlone a1) lM_0 rfl rfl rfl (Nat.le_of_ble_eq_true rfl) (by omega) dX12_landsBy_81 (fun x7 => ?_)
        refine z_join (Y := Unit) (pcJ := 124) (Lj := fun y8 => [(0, .ref (ad 0)), (1, .int a1), (2, .int a2), (3, .int a3), (4, .int a4), (5, .int a5), (6, .int v1)]) (sj := fun y8 => []) (fun y8 => ?_) (fun j9 hj9 => ?_)
        · refine z_iinc (L' := [(6, .int (v1 + (1 : Int32))), (0, .ref (ad 0)), (1, .int a1), (2, .int a2), (3, .int a3), (4, .int a4), (5, .int a5)]) (pc := 124) hE 6 rfl (zinc qM_iconst_1) (by decide) rfl dX12_landsBy_124 ?_
          refine z_goto (pc := 127) hE 50 rfl dX12_landsBy_127 ?_
          exact z_sub [1, 2, 3, 4, 5, 6, 0] rfl (hrc3 (v1 + (1 : Int32)))
        refine z_if_eq (pc := 84) hE 124 rfl dX12_landsBy_84 ?_ ?_
        · exact z_sub [0, 1, 2, 3, 4, 5, 6] rfl (hj9 ())
        · refine z_aload_n (pc := 87) hE 0 0 rfl rfl dX12_landsBy_87 ?_
          refine z_iload_n (pc := 88) hE 3 3 rfl rfl dX12_landsBy_88 ?_
          refine z_iconst (pc := 89) hE dX12_landsBy_89 qM_iconst_1 ?_
          refine z_iadd (pc := 90) hE dX12_landsBy_90 ?_
          refine z_iload_n (pc := 91) hE 1 1 rfl rfl dX12_landsBy_91 ?_
          refine z_callVv (pc := 92) (st := []) [.int (a3 + ((1 : Int32))), .int a1] hE kk_RX12_437 (c_X12_setsStage (a3 + ((1 : Int32))) a1) lM_0 rfl rfl rfl (Nat.le_of_ble_eq_true rfl) (by omega) dX12_landsBy_92 (fun x10 => ?_)
          refine z_aload_n (pc := 95) hE 0 0 rfl rfl dX12_landsBy_95 ?_
          refine z_getr (pc := 96) hE fk_RX12_83 lM_0 rfl dX12_landsBy_96 ?_
          refine z_iload_n (pc := 99) hE 3 3 rfl rfl dX12_landsBy_99 ?_
          refine z_iload (pc := 100) hE 6 rfl dX12_landsBy_100 ?_
          refine z_iast (pc := 102) hE lM_25 dX12_landsBy_102 ?_
          refine z_aload_n (pc := 103) hE 0 0 rfl rfl dX12_landsBy_103 ?_
          refine z_iload_n (pc := 104) hE 1 1 rfl rfl dX12_landsBy_104 ?_
          refine z_iload_n (pc := 105) hE 2 2 rfl rfl dX12_landsBy_105 ?_
          refine z_iload_n (pc := 106) hE 3 3 rfl rfl dX12_landsBy_106 ?_
          refine z_iconst (pc := 107) hE dX12_landsBy_107 qM_iconst_1 ?_
          refine z_iadd (pc := 108) hE dX12_landsBy_108 ?_
          refine z_iload (pc := 109) hE 4 rfl dX12_landsBy_109 ?_
          refine z_iload (pc := 111) hE 5 rfl dX12_landsBy_111 ?_
          refine z_iload (pc := 113) hE 6 rfl dX12_landsBy_113 ?_
          refine z_isub (pc := 115) hE dX12_landsBy_115 ?_
          refine z_callVi (pc := 116) (st := []) [.int a1, .int a2, .int (a3 + ((1 : Int32))), .int a4, .int (a5 - v1)] hE kk_RX12_440 (hG _ _ _ _ _ _ a1 a2 (a3 + ((1 : Int32))) a4 (a5 - v1)) lM_0 rfl rfl rfl (Nat.le_of_ble_eq_true rfl) (by omega) dX12_landsBy_116 (fun x11 => ?_)
          refine z_if_eq (pc := 119) hE 124 rfl dX12_landsBy_119 ?_ ?_
          · exact z_sub [0, 1, 2, 3, 4, 5, 6] rfl (hj9 ())
          · refine z_iconst (pc := 122) hE dX12_landsBy_122 qM_iconst_1 ?_
            exact z_zreturn (pc := 123) hE hr dX12_landsBy_123
    · refine z_iconst (pc := 130) hE dX12_landsBy_130 qM_iconst_0 ?_
      exact z_zreturn (pc := 131) hE hr dX12_landsBy_131
  · refine z_aload_n (pc := 6) hE 0 0 rfl rfl dX12_landsBy_6 ?_
    refine z_iload_n (pc := 7) hE 3 3 rfl rfl dX12_landsBy_7 ?_
    refine z_iload_n (pc := 8) hE 1 1 rfl rfl dX12_landsBy_8 ?_
    refine z_callVv (pc := 9) (st := []) [.int a3, .int a1] hE kk_RX12_430 (c_X12_takesStage a3 a1) lM_0 rfl rfl rfl (Nat.le_of_ble_eq_true rfl) (by omega) dX12_landsBy_9 (fun x12 => ?_)
    refine z_aload_n (pc := 12) hE 0 0 rfl rfl dX12_landsBy_12 ?_
    refine z_getr (pc := 13) hE fk_RX12_80 lM_0 rfl dX12_landsBy_13 ?_
    refine z_bipush (pc := 16) hE dX12_landsBy_16 qM_bipush_7 ?_
    refine z_iload_n (pc := 18) hE 1 1 rfl rfl dX12_landsBy_18 ?_
    refine z_imul (pc := 19) hE dX12_landsBy_19 ?_
    refine z_iconst (pc := 20) hE dX12_landsBy_20 qM_iconst_1 ?_
    refine z_iadd (pc := 21) hE dX12_landsBy_21 ?_
    refine z_dup2 (pc := 22) hE dX12_landsBy_22 rfl rfl ?_
    refine z_iald (pc := 23) hE lM_24 dX12_landsBy_23 (fun x13 => ?_)
    refine z_iload (pc := 24) hE 5 rfl dX12_landsBy_24 ?_
    refine z_isub (pc := 26) hE dX12_landsBy_26 ?_
    refine z_iast (pc := 27) hE lM_24 dX12_landsBy_27 ?_
    refine z_aload_n (pc := 28) hE 0 0 rfl rfl dX12_landsBy_28 ?_
    refine z_getr (pc := 29) hE fk_RX12_83 lM_0 rfl dX12_landsBy_29 ?_
    refine z_iload_n (pc := 32) hE 3 3 rfl rfl dX12_landsBy_32 ?_
    refine z_iload (pc := 33) hE 5 rfl dX12_landsBy_33 ?_
    refine z_iast (pc := 35) hE lM_25 dX12_landsBy_35 ?_
    refine z_aload_n (pc := 36) hE 0 0 rfl rfl dX12_landsBy_36 ?_
    refine z_aload_n (pc := 37) hE 0 0 rfl rfl dX12_landsBy_37 ?_
    refine z_getr (pc := 38) hE fk_RX12_80 lM_0 rfl dX12_landsBy_38 ?_
    refine z_iload_n (pc := 41) hE 1 1 rfl rfl dX12_landsBy_41 ?_
    refine z_iload_n (pc := 42) hE 2 2 rfl rfl dX12_landsBy_42 ?_
    refine z_callVi (pc := 43) (st := []) [.ref (ad 24), .int a1, .int a2] hE kk_RX12_314 (c_X12_canTie 24 lM_24 a1 a2) lM_0 rfl rfl rfl (Nat.le_of_ble_eq_true rfl) (by omega) dX12_landsBy_43 (fun x14 => ?_)
    exact z_zreturn (pc := 46) hE hr dX12_landsBy_46
theorem c_X12_landsBy_g : ∀ (n d : Nat), 6 + n ≤ d → (∀ (l : Launch) (ad : Nat → Nat) (ca : FieldType → ClassId) (D : va_G) (sa sv : Nat → Nat) (a1 : Int32) (a2 : Int32) (a3 : Int32) (a4 : Int32) (a5 : Int32), zC l yX12_landsBy cX12_landsBy 7 (some .boolean) d layM ad ca D (xtM ad sa sv) [.ref (ad 0), .int a1, .int a2, .int a3, .int a4, .int a5] zvi ((p_X12_landsBy_g n) (a1, a2, a3, a4, a5)))
  | 0, d, h => fun _ _ _ _ _ _ _ _ _ _ _ S r S2 h => (by cases h)
  | n + 1, d, h => by
    have hG := c_X12_landsBy_g n (d - 1) (by omega)
    exact fun l ad ca D sa sv a1 a2 a3 a4 a5 => c_X12_landsBy_s _ d (by omega) hG a1 a2 a3 a4 a5
theorem c_X12_landsBy {l : Launch} {ad : Nat → Nat} {ca : FieldType → ClassId} {D : va_G} {sa sv : Nat → Nat} (a1 : Int32) (a2 : Int32) (a3 : Int32) (a4 : Int32) (a5 : Int32) : zC l yX12_landsBy cX12_landsBy 7 (some .boolean) 106 layM ad ca D (xtM ad sa sv) [.ref (ad 0), .int a1, .int a2, .int a3, .int a4, .int a5] zvi (p_X12_landsBy a1 a2 a3 a4 a5) := (c_X12_landsBy_g zDP 106 (Nat.le_of_eq (by rw [zDP_eq]))) _ _ _ _ _ _ a1 a2 a3 a4 a5
set_option maxRecDepth 100000 in
set_option maxHeartbeats 4000000 in
theorem c_X12_takesNow {l : Launch} {ad : Nat → Nat} {ca : FieldType → ClassId} {D : va_G} {sa sv : Nat → Nat} (a1 : Int32) : zC l yX12_takesNow cX12_takesNow 3 none 1 layM ad ca D (xtM ad sa sv) [.ref (ad 0), .int a1] zvn (p_X12_takesNow a1) := by
  refine z_enter (by decide) (Nat.le_of_ble_eq_true rfl) (fun E hE hl0 hcD hr => ?_)
  have hE : zok layM ad (xtM ad sa sv) E cX12_takesNow 3 RX12 1 := hE
  show Z layM ad E 3 (zFin layM ad E zvn) 0 [(0, .ref (ad 0)), (1, .int a1)] [] (p_X12_takesNow a1)
  unfold p_X12_takesNow
  refine z_iconst (pc := 0) hE dX12_takesNow_0 qM_iconst_0 ?_
  refine z_istore_n (L' := [(2, .int ((0 : Int32))), (0, .ref (ad 0)), (1, .int a1)]) (pc := 1) hE 2 rfl (by decide) rfl dX12_takesNow_1 ?_
  refine z_sub (L' := [(0, .ref (ad 0)), (1, .int a1), (2, .int ((0 : Int32)))]) [1, 2, 0] rfl ?_
  refine z_loop (V := Int32) (X := Unit) (hd := 2) (ex := 36) (Lh := fun v1 => [(0, .ref (ad 0)), (1, .int a1), (2, .int v1)]) (Lx := fun e4 => [(0, .ref (ad 0)), (1, .int a1)]) (fun rc3 k2 hrc3 hk2 v1 => ?_) zNF ((0 : Int32)) _ (fun e4 => ?_)
  · unfold p_X12_takesNow_b2
    refine z_iload_n (pc := 2) hE 2 2 rfl rfl dX12_takesNow_2 ?_
    refine z_bipush (pc := 3) hE dX12_takesNow_3 qM_bipush_7 ?_
    refine z_icmp_ge (pc := 5) hE 36 rfl dX12_takesNow_5 ?_ ?_
    · exact z_sub [0, 1] rfl (hk2 ())
    · refine z_aload_n (pc := 8) hE 0 0 rfl rfl dX12_takesNow_8 ?_
      refine z_getr (pc := 9) hE fk_RX12_80 lM_0 rfl dX12_takesNow_9 ?_
      refine z_bipush (pc := 12) hE dX12_takesNow_12 qM_bipush_7 ?_
      refine z_iload_n (pc := 14) hE 1 1 rfl rfl dX12_takesNow_14 ?_
      refine z_imul (pc := 15) hE dX12_takesNow_15 ?_
      refine z_iload_n (pc := 16) hE 2 2 rfl rfl dX12_takesNow_16 ?_
      refine z_iadd (pc := 17) hE dX12_takesNow_17 ?_
      refine z_aload_n (pc := 18) hE 0 0 rfl rfl dX12_takesNow_18 ?_
      refine z_getr (pc := 19) hE fk_RX12_32 lM_0 rfl dX12_takesNow_19 ?_
      refine z_bipush (pc := 22) hE dX12_takesNow_22 qM_bipush_7 ?_
      refine z_iload_n (pc := 24) hE 1 1 rfl rfl dX12_takesNow_24 ?_
      refine z_imul (pc := 25) hE dX12_takesNow_25 ?_
      refine z_iload_n (pc := 26) hE 2 2 rfl rfl dX12_takesNow_26 ?_
      refine z_iadd (pc := 27) hE dX12_takesNow_27 ?_
      refine z_iald (pc := 28) hE lM_8 dX12_takesNow_28 (fun x5 => ?_)
      refine z_iast (pc := 29) hE lM_24 dX12_takesNow_29 ?_
      refine z_iinc (L' := [(2, .int (v1 + (1 : Int32))), (0, .ref (ad 0)), (1, .int a1)]) (pc := 30) hE 2 rfl (zinc qM_iconst_1) (by decide) rfl dX12_takesNow_30 ?_
      refine z_goto (pc := 33) hE 2 rfl dX12_takesNow_33 ?_
      exact z_sub [1, 2, 0] rfl (hrc3 (v1 + (1 : Int32)))
  · refine z_aload_n (pc := 36) hE 0 0 rfl rfl dX12_takesNow_36 ?_
    refine z_iconst (pc := 37) hE dX12_takesNow_37 qM_iconst_0 ?_
    refine z_iload_n (pc := 38) hE 1 1 rfl rfl dX12_takesNow_38 ?_
    refine z_callVv (pc := 39) (st := []) [.int ((0 : Int32)), .int a1] hE kk_RX12_437 (c_X12_setsStage ((0 : Int32)) a1) lM_0 rfl rfl rfl (Nat.le_of_ble_eq_true rfl) (by decide) dX12_takesNow_39 (fun x6 => ?_)
    exact z_return (pc := 42) hE hr dX12_takesNow_42
set_option maxRecDepth 100000 in
set_option maxHeartbeats 4000000 in
theorem c_X12_canLand {l : Launch} {ad : Nat → Nat} {ca : FieldType → ClassId} {D : va_G} {sa sv : Nat → Nat} (a1 : Int32) (a2 : Int32) (a3 : Int32) : zC l yX12_canLand cX12_canLand 5 (some .boolean) 107 layM ad ca D (xtM ad sa sv) [.ref (ad 0), .int a1, .int a2, .int a3] zvi (p_X12_canLand a1 a2 a3) := by
  refine z_enter (by decide) (Nat.le_of_ble_eq_true rfl) (fun E hE hl0 hcD hr => ?_)
  have hE : zok layM ad (xtM ad sa sv) E cX12_canLand 5 RX12 107 := hE
  show Z layM ad E 5 (zFin layM ad E zvi) 0 [(0, .ref (ad 0)), (1, .int a1), (2, .int a2), (3, .int a3)] [] (p_X12_canLand a1 a2 a3)
  unfold p_X12_canLand
  refine z_iconst (pc := 0) hE dX12_canLand_0 qM_iconst_0 ?_
  refine z_istore (L' := [(4, .int ((0 : Int32))), (0, .ref (ad 0)), (1, .int a1), (2, .int a2), (3, .int a3)]) (pc := 1) hE (by decide) rfl dX12_canLand_1 ?_
  refine z_sub (L' := [(0, .ref (ad 0)), (1, .int a1), (2, .int a2), (3, .int a3), (4, .int ((0 : Int32)))]) [1, 2, 3, 4, 0] rfl ?_
  refine z_loop (V := Int32) (X := Unit) (hd := 3) (ex := 30) (Lh := fun v1 => [(0, .ref (ad 0)), (1, .int a1), (2, .int a2), (3, .int a3), (4, .int v1)]) (Lx := fun e4 => [(0, .ref (ad 0)), (1, .int a1), (2, .int a2), (3, .int a3)]) (fun rc3 k2 hrc3 hk2 v1 => ?_) zNF ((0 : Int32)) _ (fun e4 => ?_)
  · unfold p_X12_canLand_b3
    refine z_iload (pc := 3) hE 4 rfl dX12_canLand_3 ?_
    refine z_bipush (pc := 5) hE dX12_canLand_5 qM_bipush_43 ?_
    refine z_icmp_ge (pc := 7) hE 30 rfl dX12_canLand_7 ?_ ?_
    · exact z_sub [0, 1, 2, 3] rfl (hk2 ())
    · refine z_aload_n (pc := 10) hE 0 0 rfl rfl dX12_canLand_10 ?_
      refine z_getr (pc := 11) hE fk_RX12_80 lM_0 rfl dX12_canLand_11 ?_
      refine z_iload (pc := 14) hE 4 rfl dX12_canLand_14 ?_
      refine z_aload_n (pc := 16) hE 0 0 rfl rfl dX12_canLand_16 ?_
      refine z_getr (pc := 17) hE fk_RX12_32 lM_0 rfl dX12_canLand_17 ?_
      refine z_iload (pc := 20) hE 4 rfl dX12_canLand_20 ?_
      refine z_iald (pc := 22) hE lM_8 dX12_canLand_22 (fun x5 => ?_)
      refine z_iast (pc := 23) hE lM_24 dX12_canLand_23 ?_
      refine z_iinc (L' := [(4, .int (v1 + (1 : Int32))), (0, .ref (ad 0)), (1, .int a1), (2, .int a2), (3, .int a3)]) (pc := 24) hE 4 rfl (zinc qM_iconst_1) (by decide) rfl dX12_canLand_24 ?_
      refine z_goto (pc := 27) hE 3 rfl dX12_canLand_27 ?_
      exact z_sub [1, 2, 3, 4, 0] rfl (hrc3 (v1 + (1 : Int32)))
  · refine z_aload_n (pc := 30) hE 0 0 rfl rfl dX12_canLand_30 ?_
    refine z_iconst (pc := 31) hE dX12_canLand_31 qM_iconst_0 ?_
    refine z_puti (pc := 32) hE fk_RX12_444 lM_0 rfl dX12_canLand_32 ?_
    refine z_sub (L' := [(0, .ref (ad 0)), (1, .int a1), (2, .int a2), (3, .int a3)]) [0, 1, 2, 3] rfl ?_
    refine z_loop (V := Unit) (X := Unit) (hd := 35) (ex := 117) (Lh := fun v6 => [(0, .ref (ad 0)), (1, .int a1), (2, .int a2), (3, .int a3)]) (Lx := fun e9 => []) (fun rc8 k7 hrc8 hk7 v6 => ?_) zNF () _ (fun e9 => ?_)
    · unfold p_X12_canLand_b35
      refine z_aload_n (pc := 35) hE 0 0 rfl rfl dX12_canLand_35 ?_
      refine z_geti (pc := 36) hE fk_RX12_444 lM_0 rfl dX12_canLand_36 (fun x10 => ?_)
      refine z_aload_n (pc := 39) hE 0 0 rfl rfl dX12_canLand_39 ?_
      refine z_getr (pc := 40) hE fk_RX12_32 lM_0 rfl dX12_canLand_40 ?_
      refine z_bipush (pc := 43) hE dX12_canLand_43 qM_bipush_7 ?_
      refine z_iload_n (pc := 45) hE 1 1 rfl rfl dX12_canLand_45 ?_
      refine z_imul (pc := 46) hE dX12_canLand_46 ?_
      refine z_iconst (pc := 47) hE dX12_canLand_47 qM_iconst_1 ?_
      refine z_iadd (pc := 48) hE dX12_canLand_48 ?_
      refine z_iald (pc := 49) hE lM_8 dX12_canLand_49 (fun x11 => ?_)
      refine z_icmp_gt (pc := 50) hE 117 rfl dX12_canLand_50 ?_ ?_
      · exact z_sub [] rfl (hk7 ())
      · refine z_aload_n (pc := 53) hE 0 0 rfl rfl dX12_canLand_53 ?_
        refine z_iconst (pc := 54) hE dX12_canLand_54 qM_iconst_0 ?_
        refine z_puti (pc := 55) hE fk_RX12_447 lM_0 rfl dX12_canLand_55 ?_
        refine z_sub (L' := [(0, .ref (ad 0)), (1, .int a1), (2, .int a2), (3, .int a3)]) [0, 1, 2, 3] rfl ?_
        refine z_loop (V := Unit) (X := Unit) (hd := 58) (ex := 104) (Lh := fun v12 => [(0, .ref (ad 0)), (1, .int a1), (2, .int a2), (3, .int a3)]) (Lx := fun e15 => [(0, .ref (ad 0)), (1, .int a1), (2, .int a2), (3, .int a3)]) (fun rc14 k13 hrc14 hk13 v12 => ?_) zNF () _ (fun e15 => ?_)
        · unfold p_X12_canLand_b58
          refine z_aload_n (pc := 58) hE 0 0 rfl rfl dX12_canLand_58 ?_
          refine z_geti (pc := 59) hE fk_RX12_447 lM_0 rfl dX12_canLand_59 (fun x16 => ?_)
          refine z_iload_n (pc := 62) hE 3 3 rfl rfl dX12_canLand_62 ?_
          refine z_icmp_gt (pc := 63) hE 104 rfl dX12_canLand_63 ?_ ?_
          · exact z_sub [0, 1, 2, 3] rfl (hk13 ())
          · refine z_aload_n (pc := 66) hE 0 0 rfl rfl dX12_canLand_66 ?_
            refine z_iload_n (pc := 67) hE 1 1 rfl rfl dX12_canLand_67 ?_
            refine z_callVv (pc := 68) (st := []) [.int a1] hE kk_RX12_450 (c_X12_takesNow a1) lM_0 rfl rfl rfl (Nat.le_of_ble_eq_true rfl) (by decide) dX12_canLand_68 (fun x17 => ?_)
            refine z_aload_n (pc := 71) hE 0 0 rfl rfl dX12_canLand_71 ?_
            refine z_iload_n (pc := 72) hE 1 1 rfl rfl dX12_canLand_72 ?_
            refine z_iload_n (pc := 73) hE 2 2 rfl rfl dX12_canLand_73 ?_
            refine z_iconst (pc := 74) hE dX12_canLand_74 qM_iconst_0 ?_
            refine z_aload_n (pc := 75) hE 0 0 rfl rfl dX12_canLand_75 ?_
            refine z_geti (pc := 76) hE fk_RX12_447 lM_0 rfl dX12_canLand_76 (fun x18 => ?_)
            refine z_aload_n (pc := 79) hE 0 0 rfl rfl dX12_canLand_79 ?_
            refine z_geti (pc := 80) hE fk_RX12_444 lM_0 rfl dX12_canLand_80 (fun x19 => ?_)
            refine z_callVi (pc := 83) (st := []) [.int a1, .int a2, .int ((0 : Int32)), .int x18, .int x19] hE kk_RX12_440 (c_X12_landsBy a1 a2 ((0 : Int32)) x18 x19) lM_0 rfl rfl rfl (Nat.le_of_ble_eq_true rfl) (by decide) dX12_canLand_83 (fun x20 => ?_)
            refine z_if_eq (pc := 86) hE 91 rfl dX12_canLand_86 ?_ ?_
            · refine z_aload_n (pc := 91) hE 0 0 rfl rfl dX12_canLand_91 ?_
              refine z_dup (pc := 92) hE dX12_canLand_92 rfl ?_
              refine z_geti (pc := 93) hE fk_RX12_447 lM_0 rfl dX12_canLand_93 (fun x21 => ?_)
              refine z_iconst (pc := 96) hE dX12_canLand_96 qM_iconst_1 ?_
              refine z_iadd (pc := 97) hE dX12_canLand_97 ?_
              refine z_puti (pc := 98) hE fk_RX12_447 lM_0 rfl dX12_canLand_98 ?_
              refine z_goto (pc := 101) hE 58 rfl dX12_canLand_101 ?_
              exact z_sub [0, 1, 2, 3] rfl (hrc14 ())
            · refine z_iconst (pc := 89) hE dX12_canLand_89 qM_iconst_1 ?_
              exact z_zreturn (pc := 90) hE hr dX12_canLand_90
        · refine z_aload_n (pc := 104) hE 0 0 rfl rfl dX12_canLand_104 ?_
          refine z_dup (pc := 105) hE dX12_canLand_105 rfl ?_
          refine z_geti (pc := 106) hE fk_RX12_444 lM_0 rfl dX12_canLand_106 (fun x22 => ?_)
          refine z_iconst (pc := 109) hE dX12_canLand_109 qM_iconst_1 ?_
          refine z_iadd (pc := 110) hE dX12_canLand_110 ?_
          refine z_puti (pc := 111) hE fk_RX12_444 lM_0 rfl dX12_canLand_111 ?_
          refine z_goto (pc := 114) hE 35 rfl dX12_canLand_114 ?_
          exact z_sub [0, 1, 2, 3] rfl (hrc8 ())
    · refine z_iconst (pc := 117) hE dX12_canLand_117 qM_iconst_0 ?_
      exact z_zreturn (pc := 118) hE hr dX12_canLand_118
set_option maxRecDepth 100000 in
set_option maxHeartbeats 4000000 in
theorem c_X12_lands {l : Launch} {ad : Nat → Nat} {ca : FieldType → ClassId} {D : va_G} {sa sv : Nat → Nat} (a1 : Int32) (a2 : Int32) (a3 : Int32) : zC l yX12_lands cX12_lands 5 (some .int) 108 layM ad ca D (xtM ad sa sv) [.ref (ad 0), .int a1, .int a2, .int a3] zvi (p_X12_lands a1 a2 a3) := by
  refine z_enter (by decide) (Nat.le_of_ble_eq_true rfl) (fun E hE hl0 hcD hr => ?_)
  have hE : zok layM ad (xtM ad sa sv) E cX12_lands 5 RX12 108 := hE
  show Z layM ad E 5 (zFin layM ad E zvi) 0 [(0, .ref (ad 0)), (1, .int a1), (2, .int a2), (3, .int a3)] [] (p_X12_lands a1 a2 a3)
  unfold p_X12_lands
  refine z_aload_n (pc := 0) hE 0 0 rfl rfl dX12_lands_0 ?_
  refine z_iconst (pc := 1) hE dX12_lands_1 qM_iconst_0 ?_
  refine z_puti (pc := 2) hE fk_RX12_117 lM_0 rfl dX12_lands_2 ?_
  refine z_aload_n (pc := 5) hE 0 0 rfl rfl dX12_lands_5 ?_
  refine z_iload_n (pc := 6) hE 1 1 rfl rfl dX12_lands_6 ?_
  refine z_callVi (pc := 7) (st := []) [.int a1] hE kk_RX12_282 (c_X12_isBalloon a1) lM_0 rfl rfl rfl (Nat.le_of_ble_eq_true rfl) (by decide) dX12_lands_7 (fun x1 => ?_)
  refine z_if_eq (pc := 10) hE 33 rfl dX12_lands_10 ?_ ?_
  · refine z_iconst (pc := 33) hE dX12_lands_33 qM_iconst_m1 ?_
    exact z_ireturn (pc := 34) hE hr dX12_lands_34
  · refine z_aload_n (pc := 13) hE 0 0 rfl rfl dX12_lands_13 ?_
    refine z_iload_n (pc := 14) hE 2 2 rfl rfl dX12_lands_14 ?_
    refine z_callVi (pc := 15) (st := []) [.int a2] hE kk_RX12_271 (c_X12_isRing a2) lM_0 rfl rfl rfl (Nat.le_of_ble_eq_true rfl) (by decide) dX12_lands_15 (fun x2 => ?_)
    refine z_if_eq (pc := 18) hE 33 rfl dX12_lands_18 ?_ ?_
    · refine z_iconst (pc := 33) hE dX12_lands_33 qM_iconst_m1 ?_
      exact z_ireturn (pc := 34) hE hr dX12_lands_34
    · refine z_iload_n (pc := 21) hE 3 3 rfl rfl dX12_lands_21 ?_
      refine z_i2l (pc := 22) hE dX12_lands_22 ?_
      refine z_lconst (v := (0 : Int64)) (pc := 23) hE dX12_lands_23 (by decide) ?_
      refine z_ldc2 (pc := 24) hE wM_8 dX12_lands_24 ?_
      refine z_callSi (pc := 27) (st := []) [.long a3.toInt64, .long ((0 : Int64)), .long ((6 : Int64))] hE kk_RX12_131 (c_X12_in a3.toInt64 ((0 : Int64)) ((6 : Int64))) rfl rfl (Nat.le_of_ble_eq_true rfl) (by decide) dX12_lands_27 (fun x3 => ?_)
      refine z_if_ne (pc := 30) hE 35 rfl dX12_lands_30 ?_ ?_
      · refine z_aload_n (pc := 35) hE 0 0 rfl rfl dX12_lands_35 ?_
        refine z_iload_n (pc := 36) hE 1 1 rfl rfl dX12_lands_36 ?_
        refine z_callVi (pc := 37) (st := []) [.int a1] hE kk_RX12_268 (c_X12_how a1) lM_0 rfl rfl rfl (Nat.le_of_ble_eq_true rfl) (by decide) dX12_lands_37 (fun x4 => ?_)
        refine z_iconst (pc := 40) hE dX12_lands_40 qM_iconst_1 ?_
        refine z_icmp_eq (pc := 41) hE 47 rfl dX12_lands_41 ?_ ?_
        · refine z_aload_n (pc := 47) hE 0 0 rfl rfl dX12_lands_47 ?_
          refine z_iload_n (pc := 48) hE 2 2 rfl rfl dX12_lands_48 ?_
          refine z_callVi (pc := 49) (st := []) [.int a2] hE kk_RX12_279 (c_X12_mooredAt a2) lM_0 rfl rfl rfl (Nat.le_of_ble_eq_true rfl) (by decide) dX12_lands_49 (fun x5 => ?_)
          refine z_if_lt (pc := 52) hE 58 rfl dX12_lands_52 ?_ ?_
          · refine z_aload_n (pc := 58) hE 0 0 rfl rfl dX12_lands_58 ?_
            refine z_iload_n (pc := 59) hE 1 1 rfl rfl dX12_lands_59 ?_
            refine z_iload_n (pc := 60) hE 2 2 rfl rfl dX12_lands_60 ?_
            refine z_iload_n (pc := 61) hE 3 3 rfl rfl dX12_lands_61 ?_
            refine z_callVi (pc := 62) (st := []) [.int a1, .int a2, .int a3] hE kk_RX12_455 (c_X12_canLand a1 a2 a3) lM_0 rfl rfl rfl (Nat.le_of_ble_eq_true rfl) (by decide) dX12_lands_62 (fun x6 => ?_)
            refine z_if_ne (pc := 65) hE 71 rfl dX12_lands_65 ?_ ?_
            · refine z_aload_n (pc := 71) hE 0 0 rfl rfl dX12_lands_71 ?_
              refine z_iconst (pc := 72) hE dX12_lands_72 qM_iconst_0 ?_
              refine z_puti (pc := 73) hE fk_RX12_125 lM_0 rfl dX12_lands_73 ?_
              refine z_aload_n (pc := 76) hE 0 0 rfl rfl dX12_lands_76 ?_
              refine z_aload_n (pc := 77) hE 0 0 rfl rfl dX12_lands_77 ?_
              refine z_geti (pc := 78) hE fk_RX12_447 lM_0 rfl dX12_lands_78 (fun x7 => ?_)
              refine z_i2l (pc := 81) hE dX12_lands_81 ?_
              refine z_callVv (pc := 82) (st := []) [.long x7.toInt64] hE kk_RX12_384 (c_X12_enters x7.toInt64) lM_0 rfl rfl rfl (Nat.le_of_ble_eq_true rfl) (by decide) dX12_lands_82 (fun x8 => ?_)
              refine z_iconst (pc := 85) hE dX12_lands_85 qM_iconst_0 ?_
              refine z_istore (L' := [(4, .int ((0 : Int32))), (0, .ref (ad 0)), (1, .int a1), (2, .int a2), (3, .int a3)]) (pc := 86) hE (by decide) rfl dX12_lands_86 ?_
              refine z_sub (L' := [(0, .ref (ad 0)), (4, .int ((0 : Int32)))]) [1, 0] rfl ?_
              refine z_loop (V := Int32) (X := Unit) (hd := 88) (ex := 115) (Lh := fun v9 => [(0, .ref (ad 0)), (4, .int v9)]) (Lx := fun e12 => [(0, .ref (ad 0))]) (fun rc11 k10 hrc11 hk10 v9 => ?_) zNF ((0 : Int32)) _ (fun e12 => ?_)
              · unfold p_X12_lands_b88
                refine z_iload (pc := 88) hE 1 rfl dX12_lands_88 ?_
                refine z_aload_n (pc := 90) hE 0 0 rfl rfl dX12_lands_90 ?_
                refine z_geti (pc := 91) hE fk_RX12_447 lM_0 rfl dX12_lands_91 (fun x13 => ?_)
                refine z_icmp_gt (pc := 94) hE 115 rfl dX12_lands_94 ?_ ?_
                · exact z_sub [0] rfl (hk10 ())
                · refine z_aload_n (pc := 97) hE 0 0 rfl rfl dX12_lands_97 ?_
                  refine z_aload_n (pc := 98) hE 0 0 rfl rfl dX12_lands_98 ?_
                  refine z_getr (pc := 99) hE fk_RX12_83 lM_0 rfl dX12_lands_99 ?_
                  refine z_iload (pc := 102) hE 1 rfl dX12_lands_102 ?_
                  refine z_iald (pc := 104) hE lM_25 dX12_lands_104 (fun x14 => ?_)
                  refine z_i2l (pc := 105) hE dX12_lands_105 ?_
                  refine z_callVv (pc := 106) (st := []) [.long x14.toInt64] hE kk_RX12_384 (c_X12_enters x14.toInt64) lM_0 rfl rfl rfl (Nat.le_of_ble_eq_true rfl) (by decide) dX12_lands_106 (fun x15 => ?_)
                  refine z_iinc (L' := [(4, .int (v9 + (1 : Int32))), (0, .ref (ad 0))]) (pc := 109) hE 1 rfl (zinc qM_iconst_1) (by decide) rfl dX12_lands_109 ?_
                  refine z_goto (pc := 112) hE 88 rfl dX12_lands_112 ?_
                  exact z_sub [1, 0] rfl (hrc11 (v9 + (1 : Int32)))
              · refine z_aload_n (pc := 115) hE 0 0 rfl rfl dX12_lands_115 ?_
                refine z_geti (pc := 116) hE fk_RX12_444 lM_0 rfl dX12_lands_116 (fun x16 => ?_)
                exact z_ireturn (pc := 119) hE hr dX12_lands_119
            · refine z_bipush (pc := 68) hE dX12_lands_68 qM_bipush_m2 ?_
              exact z_ireturn (pc := 70) hE hr dX12_lands_70
          · refine z_bipush (pc := 55) hE dX12_lands_55 qM_bipush_m4 ?_
            exact z_ireturn (pc := 57) hE hr dX12_lands_57
        · refine z_bipush (pc := 44) hE dX12_lands_44 qM_bipush_m3 ?_
          exact z_ireturn (pc := 46) hE hr dX12_lands_46
      · refine z_iconst (pc := 33) hE dX12_lands_33 qM_iconst_m1 ?_
        exact z_ireturn (pc := 34) hE hr dX12_lands_34
set_option maxRecDepth 100000 in
set_option maxHeartbeats 4000000 in
theorem c_X12_nearest {l : Launch} {ad : Nat → Nat} {ca : FieldType → ClassId} {D : va_G} {sa sv : Nat → Nat} (a1 : Int32) (a2 : Int32) : zC l yX12_nearest cX12_nearest 7 (some .int) 108 layM ad ca D (xtM ad sa sv) [.ref (ad 0), .int a1, .int a2] zvi (p_X12_nearest a1 a2) := by
  refine z_enter (by decide) (Nat.le_of_ble_eq_true rfl) (fun E hE hl0 hcD hr => ?_)
  have hE : zok layM ad (xtM ad sa sv) E cX12_nearest 7 RX12 108 := hE
  show Z layM ad E 7 (zFin layM ad E zvi) 0 [(0, .ref (ad 0)), (1, .int a1), (2, .int a2)] [] (p_X12_nearest a1 a2)
  unfold p_X12_nearest
  refine z_aload_n (pc := 0) hE 0 0 rfl rfl dX12_nearest_0 ?_
  refine z_iconst (pc := 1) hE dX12_nearest_1 qM_iconst_0 ?_
  refine z_puti (pc := 2) hE fk_RX12_117 lM_0 rfl dX12_nearest_2 ?_
  refine z_aload_n (pc := 5) hE 0 0 rfl rfl dX12_nearest_5 ?_
  refine z_iload_n (pc := 6) hE 1 1 rfl rfl dX12_nearest_6 ?_
  refine z_callVi (pc := 7) (st := []) [.int a1] hE kk_RX12_282 (c_X12_isBalloon a1) lM_0 rfl rfl rfl (Nat.le_of_ble_eq_true rfl) (by decide) dX12_nearest_7 (fun x1 => ?_)
  refine z_if_eq (pc := 10) hE 25 rfl dX12_nearest_10 ?_ ?_
  · refine z_iconst (pc := 25) hE dX12_nearest_25 qM_iconst_m1 ?_
    exact z_ireturn (pc := 26) hE hr dX12_nearest_26
  · refine z_iload_n (pc := 13) hE 2 2 rfl rfl dX12_nearest_13 ?_
    refine z_i2l (pc := 14) hE dX12_nearest_14 ?_
    refine z_lconst (v := (0 : Int64)) (pc := 15) hE dX12_nearest_15 (by decide) ?_
    refine z_ldc2 (pc := 16) hE wM_8 dX12_nearest_16 ?_
    refine z_callSi (pc := 19) (st := []) [.long a2.toInt64, .long ((0 : Int64)), .long ((6 : Int64))] hE kk_RX12_131 (c_X12_in a2.toInt64 ((0 : Int64)) ((6 : Int64))) rfl rfl (Nat.le_of_ble_eq_true rfl) (by decide) dX12_nearest_19 (fun x2 => ?_)
    refine z_if_ne (pc := 22) hE 27 rfl dX12_nearest_22 ?_ ?_
    · refine z_aload_n (pc := 27) hE 0 0 rfl rfl dX12_nearest_27 ?_
      refine z_iload_n (pc := 28) hE 1 1 rfl rfl dX12_nearest_28 ?_
      refine z_callVi (pc := 29) (st := []) [.int a1] hE kk_RX12_268 (c_X12_how a1) lM_0 rfl rfl rfl (Nat.le_of_ble_eq_true rfl) (by decide) dX12_nearest_29 (fun x3 => ?_)
      refine z_iconst (pc := 32) hE dX12_nearest_32 qM_iconst_1 ?_
      refine z_icmp_eq (pc := 33) hE 39 rfl dX12_nearest_33 ?_ ?_
      · refine z_bipush (pc := 39) hE dX12_nearest_39 qM_bipush_m2 ?_
        refine z_istore_n (L' := [(3, .int ((-2 : Int32))), (0, .ref (ad 0)), (1, .int a1), (2, .int a2)]) (pc := 41) hE 3 rfl (by decide) rfl dX12_nearest_41 ?_
        refine z_iconst (pc := 42) hE dX12_nearest_42 qM_iconst_0 ?_
        refine z_istore (L' := [(4, .int ((0 : Int32))), (3, .int ((-2 : Int32))), (0, .ref (ad 0)), (1, .int a1), (2, .int a2)]) (pc := 43) hE (by decide) rfl dX12_nearest_43 ?_
        refine z_iconst (pc := 45) hE dX12_nearest_45 qM_iconst_0 ?_
        refine z_istore (L' := [(5, .int ((0 : Int32))), (4, .int ((0 : Int32))), (3, .int ((-2 : Int32))), (0, .ref (ad 0)), (1, .int a1), (2, .int a2)]) (pc := 46) hE (by decide) rfl dX12_nearest_46 ?_
        refine z_iconst (pc := 48) hE dX12_nearest_48 qM_iconst_0 ?_
        refine z_istore (L' := [(6, .int ((0 : Int32))), (5, .int ((0 : Int32))), (4, .int ((0 : Int32))), (3, .int ((-2 : Int32))), (0, .ref (ad 0)), (1, .int a1), (2, .int a2)]) (pc := 49) hE (by decide) rfl dX12_nearest_49 ?_
        refine z_sub (L' := [(0, .ref (ad 0)), (1, .int a1), (2, .int a2), (3, .int ((-2 : Int32))), (4, .int ((0 : Int32))), (5, .int ((0 : Int32))), (6, .int ((0 : Int32)))]) [4, 5, 6, 3, 2, 1, 0] rfl ?_
        refine z_loop (V := (Int32 × Int32 × Int32 × Int32)) (X := (Int32 × Int32 × Int32)) (hd := 51) (ex := 132) (Lh := fun v4 => [(0, .ref (ad 0)), (1, .int a1), (2, .int a2), (3, .int v4.1), (4, .int v4.2.1), (5, .int v4.2.2.1), (6, .int v4.2.2.2)]) (Lx := fun e7 => [(0, .ref (ad 0)), (3, .int e7.1), (4, .int e7.2.1), (5, .int e7.2.2)]) (fun rc6 k5 hrc6 hk5 v4 => ?_) zNF ((-2 : Int32), (0 : Int32), (0 : Int32), (0 : Int32)) _ (fun e7 => ?_)
        · unfold p_X12_nearest_b51
          refine z_iload (pc := 51) hE 6 rfl dX12_nearest_51 ?_
          refine z_aload_n (pc := 53) hE 0 0 rfl rfl dX12_nearest_53 ?_
          refine z_geti (pc := 54) hE fk_RX12_128 lM_0 rfl dX12_nearest_54 (fun x8 => ?_)
          refine z_icmp_ge (pc := 57) hE 132 rfl dX12_nearest_57 ?_ ?_
          · exact z_sub [0, 3, 4, 5] rfl (hk5 (v4.1, v4.2.1, v4.2.2.1))
          · refine z_aload_n (pc := 60) hE 0 0 rfl rfl dX12_nearest_60 ?_
            refine z_iload (pc := 61) hE 6 rfl dX12_nearest_61 ?_
            refine z_callVi (pc := 63) (st := []) [.int v4.2.2.2] hE kk_RX12_279 (c_X12_mooredAt v4.2.2.2) lM_0 rfl rfl rfl (Nat.le_of_ble_eq_true rfl) (by decide) dX12_nearest_63 (fun x9 => ?_)
            refine z_join (Y := (Int32 × Int32 × Int32)) (pcJ := 126) (Lj := fun y10 => [(0, .ref (ad 0)), (1, .int a1), (2, .int a2), (3, .int y10.1), (4, .int y10.2.1), (5, .int y10.2.2), (6, .int v4.2.2.2)]) (sj := fun y10 => []) (fun y10 => ?_) (fun j11 hj11 => ?_)
            · refine z_iinc (L' := [(6, .int (v4.2.2.2 + (1 : Int32))), (0, .ref (ad 0)), (1, .int a1), (2, .int a2), (3, .int y10.1), (4, .int y10.2.1), (5, .int y10.2.2)]) (pc := 126) hE 6 rfl (zinc qM_iconst_1) (by decide) rfl dX12_nearest_126 ?_
              refine z_goto (pc := 129) hE 51 rfl dX12_nearest_129 ?_
              exact z_sub [1, 2, 3, 4, 5, 6, 0] rfl (hrc6 (y10.1, y10.2.1, y10.2.2, v4.2.2.2 + (1 : Int32)))
            refine z_if_ge (pc := 66) hE 126 rfl dX12_nearest_66 ?_ ?_
            · exact z_sub [0, 1, 2, 3, 4, 5, 6] rfl (hj11 (v4.1, v4.2.1, v4.2.2.1))
            · refine z_aload_n (pc := 69) hE 0 0 rfl rfl dX12_nearest_69 ?_
              refine z_iload_n (pc := 70) hE 1 1 rfl rfl dX12_nearest_70 ?_
              refine z_iload (pc := 71) hE 6 rfl dX12_nearest_71 ?_
              refine z_iload_n (pc := 73) hE 2 2 rfl rfl dX12_nearest_73 ?_
              refine z_callVi (pc := 74) (st := []) [.int a1, .int v4.2.2.2, .int a2] hE kk_RX12_455 (c_X12_canLand a1 v4.2.2.2 a2) lM_0 rfl rfl rfl (Nat.le_of_ble_eq_true rfl) (by decide) dX12_nearest_74 (fun x12 => ?_)
              refine z_if_eq (pc := 77) hE 126 rfl dX12_nearest_77 ?_ ?_
              · exact z_sub [0, 1, 2, 3, 4, 5, 6] rfl (hj11 (v4.1, v4.2.1, v4.2.2.1))
              · refine z_iload_n (pc := 80) hE 3 3 rfl rfl dX12_nearest_80 ?_
                refine z_join (Y := Unit) (pcJ := 111) (Lj := fun y13 => [(0, .ref (ad 0)), (1, .int a1), (2, .int a2), (6, .int v4.2.2.2)]) (sj := fun y13 => []) (fun y13 => ?_) (fun j14 hj14 => ?_)
                · refine z_iload (pc := 111) hE 3 rfl dX12_nearest_111 ?_
                  refine z_istore_n (L' := [(3, .int v4.2.2.2), (0, .ref (ad 0)), (1, .int a1), (2, .int a2), (6, .int v4.2.2.2)]) (pc := 113) hE 3 rfl (by decide) rfl dX12_nearest_113 ?_
                  refine z_aload_n (pc := 114) hE 1 0 rfl rfl dX12_nearest_114 ?_
                  refine z_geti (pc := 115) hE fk_RX12_444 lM_0 rfl dX12_nearest_115 (fun x15 => ?_)
                  refine z_istore (L' := [(4, .int x15), (3, .int v4.2.2.2), (0, .ref (ad 0)), (1, .int a1), (2, .int a2), (6, .int v4.2.2.2)]) (pc := 118) hE (by decide) rfl dX12_nearest_118 ?_
                  refine z_aload_n (pc := 120) hE 2 0 rfl rfl dX12_nearest_120 ?_
                  refine z_geti (pc := 121) hE fk_RX12_447 lM_0 rfl dX12_nearest_121 (fun x16 => ?_)
                  refine z_istore (L' := [(5, .int x16), (4, .int x15), (3, .int v4.2.2.2), (0, .ref (ad 0)), (1, .int a1), (2, .int a2), (6, .int v4.2.2.2)]) (pc := 124) hE (by decide) rfl dX12_nearest_124 ?_
                  exact z_sub [3, 4, 5, 2, 1, 0, 6] rfl (hj11 (v4.2.2.2, x15, x16))
                refine z_if_lt (pc := 81) hE 111 rfl dX12_nearest_81 ?_ ?_
                · exact z_sub [0, 1, 2, 6] rfl (hj14 ())
                · refine z_aload_n (pc := 84) hE 0 0 rfl rfl dX12_nearest_84 ?_
                  refine z_geti (pc := 85) hE fk_RX12_444 lM_0 rfl dX12_nearest_85 (fun x17 => ?_)
                  refine z_iload (pc := 88) hE 4 rfl dX12_nearest_88 ?_
                  refine z_icmp_lt (pc := 90) hE 111 rfl dX12_nearest_90 ?_ ?_
                  · exact z_sub [0, 1, 2, 6] rfl (hj14 ())
                  · refine z_aload_n (pc := 93) hE 0 0 rfl rfl dX12_nearest_93 ?_
                    refine z_geti (pc := 94) hE fk_RX12_444 lM_0 rfl dX12_nearest_94 (fun x18 => ?_)
                    refine z_iload (pc := 97) hE 4 rfl dX12_nearest_97 ?_
                    refine z_icmp_ne (pc := 99) hE 126 rfl dX12_nearest_99 ?_ ?_
                    · exact z_sub [0, 1, 2, 3, 4, 5, 6] rfl (hj11 (v4.1, v4.2.1, v4.2.2.1))
                    · refine z_aload_n (pc := 102) hE 0 0 rfl rfl dX12_nearest_102 ?_
                      refine z_geti (pc := 103) hE fk_RX12_447 lM_0 rfl dX12_nearest_103 (fun x19 => ?_)
                      refine z_iload (pc := 106) hE 5 rfl dX12_nearest_106 ?_
                      refine z_icmp_ge (pc := 108) hE 126 rfl dX12_nearest_108 ?_ ?_
                      · exact z_sub [0, 1, 2, 3, 4, 5, 6] rfl (hj11 (v4.1, v4.2.1, v4.2.2.1))
                      · exact z_sub [0, 1, 2, 6] rfl (hj14 ())
        · refine z_iload_n (pc := 132) hE 1 3 rfl rfl dX12_nearest_132 ?_
          refine z_if_ge (pc := 133) hE 139 rfl dX12_nearest_133 ?_ ?_
          · refine z_aload_n (pc := 139) hE 0 0 rfl rfl dX12_nearest_139 ?_
            refine z_iconst (pc := 140) hE dX12_nearest_140 qM_iconst_0 ?_
            refine z_puti (pc := 141) hE fk_RX12_125 lM_0 rfl dX12_nearest_141 ?_
            refine z_aload_n (pc := 144) hE 0 0 rfl rfl dX12_nearest_144 ?_
            refine z_iload (pc := 145) hE 2 rfl dX12_nearest_145 ?_
            refine z_i2l (pc := 147) hE dX12_nearest_147 ?_
            refine z_callVv (pc := 148) (st := []) [.long e7.2.1.toInt64] hE kk_RX12_384 (c_X12_enters e7.2.1.toInt64) lM_0 rfl rfl rfl (Nat.le_of_ble_eq_true rfl) (by decide) dX12_nearest_148 (fun x20 => ?_)
            refine z_aload_n (pc := 151) hE 0 0 rfl rfl dX12_nearest_151 ?_
            refine z_iload (pc := 152) hE 3 rfl dX12_nearest_152 ?_
            refine z_i2l (pc := 154) hE dX12_nearest_154 ?_
            refine z_callVv (pc := 155) (st := []) [.long e7.2.2.toInt64] hE kk_RX12_384 (c_X12_enters e7.2.2.toInt64) lM_0 rfl rfl rfl (Nat.le_of_ble_eq_true rfl) (by decide) dX12_nearest_155 (fun x21 => ?_)
            refine z_iload_n (pc := 158) hE 1 3 rfl rfl dX12_nearest_158 ?_
            exact z_ireturn (pc := 159) hE hr dX12_nearest_159
          · refine z_bipush (pc := 136) hE dX12_nearest_136 qM_bipush_m2 ?_
            exact z_ireturn (pc := 138) hE hr dX12_nearest_138
      · refine z_bipush (pc := 36) hE dX12_nearest_36 qM_bipush_m3 ?_
        exact z_ireturn (pc := 38) hE hr dX12_nearest_38
    · refine z_iconst (pc := 25) hE dX12_nearest_25 qM_iconst_m1 ?_
      exact z_ireturn (pc := 26) hE hr dX12_nearest_26
set_option maxRecDepth 100000 in
set_option maxHeartbeats 4000000 in
theorem c_X12_letsDown_s (G : ((Int32 × Int32) → zM Unit)) (d : Nat) (hd : 2 ≤ d) (hG : (∀ (l : Launch) (ad : Nat → Nat) (ca : FieldType → ClassId) (D : va_G) (sa sv : Nat → Nat) (a1 : Int32) (a2 : Int32), zC l yX12_letsDown cX12_letsDown 4 none (d - 1) layM ad ca D (xtM ad sa sv) [.ref (ad 0), .int a1, .int a2] zvn (G (a1, a2)))) {l : Launch} {ad : Nat → Nat} {ca : FieldType → ClassId} {D : va_G} {sa sv : Nat → Nat} (a1 : Int32) (a2 : Int32) : zC l yX12_letsDown cX12_letsDown 4 none d layM ad ca D (xtM ad sa sv) [.ref (ad 0), .int a1, .int a2] zvn (p_X12_letsDown_s G a1 a2) := by
  refine z_enter (by decide) (Nat.le_of_ble_eq_true rfl) (fun E hE hl0 hcD hr => ?_)
  have hE : zok layM ad (xtM ad sa sv) E cX12_letsDown 4 RX12 d := hE
  show Z layM ad E 4 (zFin layM ad E zvn) 0 [(0, .ref (ad 0)), (1, .int a1), (2, .int a2)] [] (p_X12_letsDown_s G a1 a2)
  unfold p_X12_letsDown_s
  refine z_iload_n (pc := 0) hE 2 2 rfl rfl dX12_letsDown_0 ?_
  refine z_aload_n (pc := 1) hE 0 0 rfl rfl dX12_letsDown_1 ?_
  refine z_geti (pc := 2) hE fk_RX12_459 lM_0 rfl dX12_letsDown_2 (fun x1 => ?_)
  refine z_join (Y := Unit) (pcJ := 38) (Lj := fun y2 => [(0, .ref (ad 0)), (1, .int a1), (2, .int a2)]) (sj := fun y2 => []) (fun y2 => ?_) (fun j3 hj3 => ?_)
  · refine z_iconst (pc := 38) hE dX12_letsDown_38 qM_iconst_0 ?_
    refine z_istore_n (L' := [(3, .int ((0 : Int32))), (0, .ref (ad 0)), (1, .int a1), (2, .int a2)]) (pc := 39) hE 3 rfl (by decide) rfl dX12_letsDown_39 ?_
    refine z_sub (L' := [(0, .ref (ad 0)), (1, .int a1), (2, .int a2), (3, .int ((0 : Int32)))]) [1, 2, 3, 0] rfl ?_
    refine z_loop (V := Int32) (X := Unit) (hd := 40) (ex := 100) (Lh := fun v4 => [(0, .ref (ad 0)), (1, .int a1), (2, .int a2), (3, .int v4)]) (Lx := fun e7 => []) (fun rc6 k5 hrc6 hk5 v4 => ?_) zNF ((0 : Int32)) _ (fun e7 => ?_)
    · unfold p_X12_letsDown_b40
      refine z_iload_n (pc := 40) hE 3 3 rfl rfl dX12_letsDown_40 ?_
      refine z_aload_n (pc := 41) hE 0 0 rfl rfl dX12_letsDown_41 ?_
      refine z_geti (pc := 42) hE fk_RX12_135 lM_0 rfl dX12_letsDown_42 (fun x8 => ?_)
      refine z_icmp_ge (pc := 45) hE 100 rfl dX12_letsDown_45 ?_ ?_
      · exact z_sub [] rfl (hk5 ())
      · refine z_aload_n (pc := 48) hE 0 0 rfl rfl dX12_letsDown_48 ?_
        refine z_iload_n (pc := 49) hE 3 3 rfl rfl dX12_letsDown_49 ?_
        refine z_callVi (pc := 50) (st := []) [.int v4] hE kk_RX12_268 (c_X12_how v4) lM_0 rfl rfl rfl (Nat.le_of_ble_eq_true rfl) (by omega) dX12_letsDown_50 (fun x9 => ?_)
        refine z_iconst (pc := 53) hE dX12_letsDown_53 qM_iconst_2 ?_
        refine z_join (Y := Unit) (pcJ := 94) (Lj := fun y10 => [(0, .ref (ad 0)), (1, .int a1), (2, .int a2), (3, .int v4)]) (sj := fun y10 => []) (fun y10 => ?_) (fun j11 hj11 => ?_)
        · refine z_iinc (L' := [(3, .int (v4 + (1 : Int32))), (0, .ref (ad 0)), (1, .int a1), (2, .int a2)]) (pc := 94) hE 3 rfl (zinc qM_iconst_1) (by decide) rfl dX12_letsDown_94 ?_
          refine z_goto (pc := 97) hE 40 rfl dX12_letsDown_97 ?_
          exact z_sub [1, 2, 3, 0] rfl (hrc6 (v4 + (1 : Int32)))
        refine z_icmp_ne (pc := 54) hE 94 rfl dX12_letsDown_54 ?_ ?_
        · exact z_sub [0, 1, 2, 3] rfl (hj11 ())
        · refine z_iload_n (pc := 57) hE 1 1 rfl rfl dX12_letsDown_57 ?_
          refine z_iload_n (pc := 58) hE 3 3 rfl rfl dX12_letsDown_58 ?_
          refine z_callSi (pc := 59) (st := []) [.int a1, .int v4] hE kk_RX12_415 (c_X12_has a1 v4) rfl rfl (Nat.le_of_ble_eq_true rfl) (by omega) dX12_letsDown_59 (fun x12 => ?_)
          refine z_if_ne (pc := 62) hE 94 rfl dX12_letsDown_62 ?_ ?_
          · exact z_sub [0, 1, 2, 3] rfl (hj11 ())
          · refine z_aload_n (pc := 65) hE 0 0 rfl rfl dX12_letsDown_65 ?_
            refine z_getr (pc := 66) hE fk_RX12_20 lM_0 rfl dX12_letsDown_66 ?_
            refine z_iload_n (pc := 69) hE 3 3 rfl rfl dX12_letsDown_69 ?_
            refine z_iald (pc := 70) hE lM_4 dX12_letsDown_70 (fun x13 => ?_)
            refine z_iload_n (pc := 71) hE 2 2 rfl rfl dX12_letsDown_71 ?_
            refine z_icmp_le (pc := 72) hE 94 rfl dX12_letsDown_72 ?_ ?_
            · exact z_sub [0, 1, 2, 3] rfl (hj11 ())
            · refine z_aload_n (pc := 75) hE 0 0 rfl rfl dX12_letsDown_75 ?_
              refine z_getr (pc := 76) hE fk_RX12_86 lM_0 rfl dX12_letsDown_76 ?_
              refine z_iload_n (pc := 79) hE 2 2 rfl rfl dX12_letsDown_79 ?_
              refine z_iload_n (pc := 80) hE 3 3 rfl rfl dX12_letsDown_80 ?_
              refine z_iast (pc := 81) hE lM_26 dX12_letsDown_81 ?_
              refine z_aload_n (pc := 82) hE 0 0 rfl rfl dX12_letsDown_82 ?_
              refine z_iload_n (pc := 83) hE 1 1 rfl rfl dX12_letsDown_83 ?_
              refine z_iconst (pc := 84) hE dX12_letsDown_84 qM_iconst_1 ?_
              refine z_iload_n (pc := 85) hE 3 3 rfl rfl dX12_letsDown_85 ?_
              refine z_ishl (pc := 86) hE dX12_letsDown_86 ?_
              refine z_ior (pc := 87) hE dX12_letsDown_87 ?_
              refine z_iload_n (pc := 88) hE 2 2 rfl rfl dX12_letsDown_88 ?_
              refine z_iconst (pc := 89) hE dX12_letsDown_89 qM_iconst_1 ?_
              refine z_iadd (pc := 90) hE dX12_letsDown_90 ?_
              refine z_callVv (pc := 91) (st := []) [.int (a1 ||| (((1 : Int32)) <<< (v4 &&& 31))), .int (a2 + ((1 : Int32)))] hE kk_RX12_462 (hG _ _ _ _ _ _ (a1 ||| (((1 : Int32)) <<< (v4 &&& 31))) (a2 + ((1 : Int32)))) lM_0 rfl rfl rfl (Nat.le_of_ble_eq_true rfl) (by omega) dX12_letsDown_91 (fun x14 => ?_)
              exact z_sub [0, 1, 2, 3] rfl (hj11 ())
    · exact z_return (pc := 100) hE hr dX12_letsDown_100
  refine z_icmp_le (pc := 5) hE 38 rfl dX12_letsDown_5 ?_ ?_
  · exact z_sub [0, 1, 2] rfl (hj3 ())
  · refine z_aload_n (pc := 8) hE 0 0 rfl rfl dX12_letsDown_8 ?_
    refine z_iload_n (pc := 9) hE 2 2 rfl rfl dX12_letsDown_9 ?_
    refine z_puti (pc := 10) hE fk_RX12_459 lM_0 rfl dX12_letsDown_10 ?_
    refine z_iconst (pc := 13) hE dX12_letsDown_13 qM_iconst_0 ?_
    refine z_istore_n (L' := [(3, .int ((0 : Int32))), (0, .ref (ad 0)), (1, .int a1), (2, .int a2)]) (pc := 14) hE 3 rfl (by decide) rfl dX12_letsDown_14 ?_
    refine z_sub (L' := [(0, .ref (ad 0)), (1, .int a1), (2, .int a2), (3, .int ((0 : Int32)))]) [1, 2, 3, 0] rfl ?_
    refine z_loop (V := Int32) (X := Unit) (hd := 15) (ex := 38) (Lh := fun v15 => [(0, .ref (ad 0)), (1, .int a1), (2, .int a2), (3, .int v15)]) (Lx := fun e18 => [(0, .ref (ad 0)), (1, .int a1), (2, .int a2)]) (fun rc17 k16 hrc17 hk16 v15 => ?_) zNF ((0 : Int32)) _ (fun e18 => ?_)
    · unfold p_X12_letsDown_b15
      refine z_iload_n (pc := 15) hE 3 3 rfl rfl dX12_letsDown_15 ?_
      refine z_iload_n (pc := 16) hE 2 2 rfl rfl dX12_letsDown_16 ?_
      refine z_icmp_ge (pc := 17) hE 38 rfl dX12_letsDown_17 ?_ ?_
      · exact z_sub [0, 1, 2] rfl (hk16 ())
      · refine z_aload_n (pc := 20) hE 0 0 rfl rfl dX12_letsDown_20 ?_
        refine z_getr (pc := 21) hE fk_RX12_89 lM_0 rfl dX12_letsDown_21 ?_
        refine z_iload_n (pc := 24) hE 3 3 rfl rfl dX12_letsDown_24 ?_
        refine z_aload_n (pc := 25) hE 0 0 rfl rfl dX12_letsDown_25 ?_
        refine z_getr (pc := 26) hE fk_RX12_86 lM_0 rfl dX12_letsDown_26 ?_
        refine z_iload_n (pc := 29) hE 3 3 rfl rfl dX12_letsDown_29 ?_
        refine z_iald (pc := 30) hE lM_26 dX12_letsDown_30 (fun x19 => ?_)
        refine z_iast (pc := 31) hE lM_27 dX12_letsDown_31 ?_
        refine z_iinc (L' := [(3, .int (v15 + (1 : Int32))), (0, .ref (ad 0)), (1, .int a1), (2, .int a2)]) (pc := 32) hE 3 rfl (zinc qM_iconst_1) (by decide) rfl dX12_letsDown_32 ?_
        refine z_goto (pc := 35) hE 15 rfl dX12_letsDown_35 ?_
        exact z_sub [1, 2, 3, 0] rfl (hrc17 (v15 + (1 : Int32)))
    · exact z_sub [0, 1, 2] rfl (hj3 ())
theorem c_X12_letsDown_g : ∀ (n d : Nat), 1 + n ≤ d → (∀ (l : Launch) (ad : Nat → Nat) (ca : FieldType → ClassId) (D : va_G) (sa sv : Nat → Nat) (a1 : Int32) (a2 : Int32), zC l yX12_letsDown cX12_letsDown 4 none d layM ad ca D (xtM ad sa sv) [.ref (ad 0), .int a1, .int a2] zvn ((p_X12_letsDown_g n) (a1, a2)))
  | 0, d, h => fun _ _ _ _ _ _ _ _ S r S2 h => (by cases h)
  | n + 1, d, h => by
    have hG := c_X12_letsDown_g n (d - 1) (by omega)
    exact fun l ad ca D sa sv a1 a2 => c_X12_letsDown_s _ d (by omega) hG a1 a2
theorem c_X12_letsDown {l : Launch} {ad : Nat → Nat} {ca : FieldType → ClassId} {D : va_G} {sa sv : Nat → Nat} (a1 : Int32) (a2 : Int32) : zC l yX12_letsDown cX12_letsDown 4 none 101 layM ad ca D (xtM ad sa sv) [.ref (ad 0), .int a1, .int a2] zvn (p_X12_letsDown a1 a2) := (c_X12_letsDown_g zDP 101 (Nat.le_of_eq (by rw [zDP_eq]))) _ _ _ _ _ _ a1 a2
set_option maxRecDepth 100000 in
set_option maxHeartbeats 4000000 in
theorem c_X12_storm {l : Launch} {ad : Nat → Nat} {ca : FieldType → ClassId} {D : va_G} {sa sv : Nat → Nat}  : zC l yX12_storm cX12_storm 2 (some .int) 102 layM ad ca D (xtM ad sa sv) [.ref (ad 0)] zvi (p_X12_storm) := by
  refine z_enter (by decide) (Nat.le_of_ble_eq_true rfl) (fun E hE hl0 hcD hr => ?_)
  have hE : zok layM ad (xtM ad sa sv) E cX12_storm 2 RX12 102 := hE
  show Z layM ad E 2 (zFin layM ad E zvi) 0 [(0, .ref (ad 0))] [] (p_X12_storm)
  unfold p_X12_storm
  refine z_aload_n (pc := 0) hE 0 0 rfl rfl dX12_storm_0 ?_
  refine z_iconst (pc := 1) hE dX12_storm_1 qM_iconst_0 ?_
  refine z_puti (pc := 2) hE fk_RX12_117 lM_0 rfl dX12_storm_2 ?_
  refine z_aload_n (pc := 5) hE 0 0 rfl rfl dX12_storm_5 ?_
  refine z_iconst (pc := 6) hE dX12_storm_6 qM_iconst_0 ?_
  refine z_puti (pc := 7) hE fk_RX12_459 lM_0 rfl dX12_storm_7 ?_
  refine z_aload_n (pc := 10) hE 0 0 rfl rfl dX12_storm_10 ?_
  refine z_iconst (pc := 11) hE dX12_storm_11 qM_iconst_0 ?_
  refine z_iconst (pc := 12) hE dX12_storm_12 qM_iconst_0 ?_
  refine z_callVv (pc := 13) (st := []) [.int ((0 : Int32)), .int ((0 : Int32))] hE kk_RX12_462 (c_X12_letsDown ((0 : Int32)) ((0 : Int32))) lM_0 rfl rfl rfl (Nat.le_of_ble_eq_true rfl) (by decide) dX12_storm_13 (fun x1 => ?_)
  refine z_aload_n (pc := 16) hE 0 0 rfl rfl dX12_storm_16 ?_
  refine z_iconst (pc := 17) hE dX12_storm_17 qM_iconst_0 ?_
  refine z_puti (pc := 18) hE fk_RX12_125 lM_0 rfl dX12_storm_18 ?_
  refine z_iconst (pc := 21) hE dX12_storm_21 qM_iconst_0 ?_
  refine z_istore_n (L' := [(1, .int ((0 : Int32))), (0, .ref (ad 0))]) (pc := 22) hE 1 rfl (by decide) rfl dX12_storm_22 ?_
  refine z_sub (L' := [(0, .ref (ad 0)), (1, .int ((0 : Int32)))]) [1, 0] rfl ?_
  refine z_loop (V := Int32) (X := Unit) (hd := 23) (ex := 48) (Lh := fun v2 => [(0, .ref (ad 0)), (1, .int v2)]) (Lx := fun e5 => [(0, .ref (ad 0))]) (fun rc4 k3 hrc4 hk3 v2 => ?_) zNF ((0 : Int32)) _ (fun e5 => ?_)
  · unfold p_X12_storm_b23
    refine z_iload_n (pc := 23) hE 1 1 rfl rfl dX12_storm_23 ?_
    refine z_aload_n (pc := 24) hE 0 0 rfl rfl dX12_storm_24 ?_
    refine z_geti (pc := 25) hE fk_RX12_459 lM_0 rfl dX12_storm_25 (fun x6 => ?_)
    refine z_icmp_ge (pc := 28) hE 48 rfl dX12_storm_28 ?_ ?_
    · exact z_sub [0] rfl (hk3 ())
    · refine z_aload_n (pc := 31) hE 0 0 rfl rfl dX12_storm_31 ?_
      refine z_aload_n (pc := 32) hE 0 0 rfl rfl dX12_storm_32 ?_
      refine z_getr (pc := 33) hE fk_RX12_89 lM_0 rfl dX12_storm_33 ?_
      refine z_iload_n (pc := 36) hE 1 1 rfl rfl dX12_storm_36 ?_
      refine z_iald (pc := 37) hE lM_27 dX12_storm_37 (fun x7 => ?_)
      refine z_i2l (pc := 38) hE dX12_storm_38 ?_
      refine z_callVv (pc := 39) (st := []) [.long x7.toInt64] hE kk_RX12_384 (c_X12_enters x7.toInt64) lM_0 rfl rfl rfl (Nat.le_of_ble_eq_true rfl) (by decide) dX12_storm_39 (fun x8 => ?_)
      refine z_iinc (L' := [(1, .int (v2 + (1 : Int32))), (0, .ref (ad 0))]) (pc := 42) hE 1 rfl (zinc qM_iconst_1) (by decide) rfl dX12_storm_42 ?_
      refine z_goto (pc := 45) hE 23 rfl dX12_storm_45 ?_
      exact z_sub [1, 0] rfl (hrc4 (v2 + (1 : Int32)))
  · refine z_aload_n (pc := 48) hE 0 0 rfl rfl dX12_storm_48 ?_
    refine z_geti (pc := 49) hE fk_RX12_459 lM_0 rfl dX12_storm_49 (fun x9 => ?_)
    exact z_ireturn (pc := 52) hE hr dX12_storm_52
set_option maxRecDepth 100000 in
set_option maxHeartbeats 4000000 in
theorem c_X12_earns {l : Launch} {ad : Nat → Nat} {ca : FieldType → ClassId} {D : va_G} {sa sv : Nat → Nat} (a1 : Int32) (a2 : Int32) (a3 : Int32) : zC l yX12_earns cX12_earns 3 (some .int) 0 layM ad ca D (xtM ad sa sv) [.int a1, .int a2, .int a3] zvi (p_X12_earns a1 a2 a3) := by
  refine z_enter (by decide) (Nat.le_of_ble_eq_true rfl) (fun E hE hl0 hcD hr => ?_)
  have hE : zok layM ad (xtM ad sa sv) E cX12_earns 3 RX12 0 := hE
  show Z layM ad E 3 (zFin layM ad E zvi) 0 [(0, .int a1), (1, .int a2), (2, .int a3)] [] (p_X12_earns a1 a2 a3)
  unfold p_X12_earns
  refine z_iload_n (pc := 0) hE 0 0 rfl rfl dX12_earns_0 ?_
  refine z_iload_n (pc := 1) hE 2 2 rfl rfl dX12_earns_1 ?_
  refine z_isub (pc := 2) hE dX12_earns_2 ?_
  refine z_iload_n (pc := 3) hE 0 0 rfl rfl dX12_earns_3 ?_
  refine z_iload_n (pc := 4) hE 1 1 rfl rfl dX12_earns_4 ?_
  refine z_icmp_ge (pc := 5) hE 13 rfl dX12_earns_5 ?_ ?_
  · refine z_iload_n (pc := 13) hE 0 0 rfl rfl dX12_earns_13 ?_
    refine z_iload_n (pc := 14) hE 1 1 rfl rfl dX12_earns_14 ?_
    refine z_icmp_ne (pc := 15) hE 22 rfl dX12_earns_15 ?_ ?_
    · refine z_iconst (pc := 22) hE dX12_earns_22 qM_iconst_0 ?_
      refine z_imul (pc := 23) hE dX12_earns_23 ?_
      exact z_ireturn (pc := 24) hE hr dX12_earns_24
    · refine z_iconst (pc := 18) hE dX12_earns_18 qM_iconst_3 ?_
      refine z_goto (pc := 19) hE 23 rfl dX12_earns_19 ?_
      refine z_imul (pc := 23) hE dX12_earns_23 ?_
      exact z_ireturn (pc := 24) hE hr dX12_earns_24
  · refine z_bipush (pc := 8) hE dX12_earns_8 qM_bipush_6 ?_
    refine z_goto (pc := 10) hE 23 rfl dX12_earns_10 ?_
    refine z_imul (pc := 23) hE dX12_earns_23 ?_
    exact z_ireturn (pc := 24) hE hr dX12_earns_24
set_option maxRecDepth 100000 in
set_option maxHeartbeats 4000000 in
theorem c_X12_isRest {l : Launch} {ad : Nat → Nat} {ca : FieldType → ClassId} {D : va_G} {sa sv : Nat → Nat} (a1 : Int32) (a2 : Int32) (a3 : Int32) : zC l yX12_isRest cX12_isRest 5 (some .boolean) 1 layM ad ca D (xtM ad sa sv) [.int a1, .int a2, .int a3] zvi (p_X12_isRest a1 a2 a3) := by
  refine z_enter (by decide) (Nat.le_of_ble_eq_true rfl) (fun E hE hl0 hcD hr => ?_)
  have hE : zok layM ad (xtM ad sa sv) E cX12_isRest 5 RX12 1 := hE
  show Z layM ad E 5 (zFin layM ad E zvi) 0 [(0, .int a1), (1, .int a2), (2, .int a3)] [] (p_X12_isRest a1 a2 a3)
  unfold p_X12_isRest
  refine z_iconst (pc := 0) hE dX12_isRest_0 qM_iconst_1 ?_
  refine z_istore_n (L' := [(3, .int ((1 : Int32))), (0, .int a1), (1, .int a2), (2, .int a3)]) (pc := 1) hE 3 rfl (by decide) rfl dX12_isRest_1 ?_
  refine z_iconst (pc := 2) hE dX12_isRest_2 qM_iconst_1 ?_
  refine z_istore (L' := [(4, .int ((1 : Int32))), (3, .int ((1 : Int32))), (0, .int a1), (1, .int a2), (2, .int a3)]) (pc := 3) hE (by decide) rfl dX12_isRest_3 ?_
  refine z_sub (L' := [(0, .int a1), (1, .int a2), (2, .int a3), (3, .int ((1 : Int32))), (4, .int ((1 : Int32)))]) [2, 3, 4, 1, 0] rfl ?_
  refine z_loop (V := (Int32 × Int32)) (X := Int32) (hd := 5) (ex := 44) (Lh := fun v1 => [(0, .int a1), (1, .int a2), (2, .int a3), (3, .int v1.1), (4, .int v1.2)]) (Lx := fun e4 => [(3, .int e4)]) (fun rc3 k2 hrc3 hk2 v1 => ?_) zNF ((1 : Int32), (1 : Int32)) _ (fun e4 => ?_)
  · unfold p_X12_isRest_b5
    refine z_iload (pc := 5) hE 4 rfl dX12_isRest_5 ?_
    refine z_bipush (pc := 7) hE dX12_isRest_7 qM_bipush_9 ?_
    refine z_icmp_gt (pc := 9) hE 44 rfl dX12_isRest_9 ?_ ?_
    · exact z_sub [3] rfl (hk2 v1.1)
    · refine z_iload_n (pc := 12) hE 3 3 rfl rfl dX12_isRest_12 ?_
      refine z_join (Y := Int32) (pcJ := 37) (Lj := fun y5 => [(0, .int a1), (1, .int a2), (2, .int a3), (4, .int v1.2)]) (sj := fun y5 => [.int y5]) (fun y5 => ?_) (fun j6 hj6 => ?_)
      · refine z_istore_n (L' := [(3, .int y5), (0, .int a1), (1, .int a2), (2, .int a3), (4, .int v1.2)]) (pc := 37) hE 3 rfl (by decide) rfl dX12_isRest_37 ?_
        refine z_iinc (L' := [(4, .int (v1.2 + (1 : Int32))), (3, .int y5), (0, .int a1), (1, .int a2), (2, .int a3)]) (pc := 38) hE 4 rfl (zinc qM_iconst_1) (by decide) rfl dX12_isRest_38 ?_
        refine z_goto (pc := 41) hE 5 rfl dX12_isRest_41 ?_
        exact z_sub [2, 3, 4, 1, 0] rfl (hrc3 (y5, v1.2 + (1 : Int32)))
      refine z_join (Y := Unit) (pcJ := 36) (Lj := fun y7 => [(0, .int a1), (1, .int a2), (2, .int a3), (4, .int v1.2)]) (sj := fun y7 => []) (fun y7 => ?_) (fun j8 hj8 => ?_)
      · refine z_iconst (pc := 36) hE dX12_isRest_36 qM_iconst_0 ?_
        exact z_sub [0, 1, 2, 3] rfl (hj6 ((0 : Int32)))
      refine z_if_eq (pc := 13) hE 36 rfl dX12_isRest_13 ?_ ?_
      · exact z_sub [0, 1, 2, 4] rfl (hj8 ())
      · refine z_iload (pc := 16) hE 4 rfl dX12_isRest_16 ?_
        refine z_iload_n (pc := 18) hE 1 1 rfl rfl dX12_isRest_18 ?_
        refine z_iload_n (pc := 19) hE 2 2 rfl rfl dX12_isRest_19 ?_
        refine z_callSi (pc := 20) (st := []) [.int v1.2, .int a2, .int a3] hE kk_RX12_465 (c_X12_earns v1.2 a2 a3) rfl rfl (Nat.le_of_ble_eq_true rfl) (by decide) dX12_isRest_20 (fun x9 => ?_)
        refine z_iload_n (pc := 23) hE 0 0 rfl rfl dX12_isRest_23 ?_
        refine z_iload_n (pc := 24) hE 1 1 rfl rfl dX12_isRest_24 ?_
        refine z_iload_n (pc := 25) hE 2 2 rfl rfl dX12_isRest_25 ?_
        refine z_callSi (pc := 26) (st := [.int x9]) [.int a1, .int a2, .int a3] hE kk_RX12_465 (c_X12_earns a1 a2 a3) rfl rfl (Nat.le_of_ble_eq_true rfl) (by decide) dX12_isRest_26 (fun x10 => ?_)
        refine z_icmp_gt (pc := 29) hE 36 rfl dX12_isRest_29 ?_ ?_
        · exact z_sub [0, 1, 2, 4] rfl (hj8 ())
        · refine z_iconst (pc := 32) hE dX12_isRest_32 qM_iconst_1 ?_
          refine z_goto (pc := 33) hE 37 rfl dX12_isRest_33 ?_
          exact z_sub [0, 1, 2, 4] rfl (hj6 ((1 : Int32)))
  · refine z_iload_n (pc := 44) hE 0 3 rfl rfl dX12_isRest_44 ?_
    exact z_zreturn (pc := 45) hE hr dX12_isRest_45
set_option maxRecDepth 100000 in
set_option maxHeartbeats 4000000 in
theorem c_X12_rests {l : Launch} {ad : Nat → Nat} {ca : FieldType → ClassId} {D : va_G} {sa sv : Nat → Nat} (a1 : Int32) : zC l yX12_rests cX12_rests 5 (some .int) 2 layM ad ca D (xtM ad sa sv) [.ref (ad 0), .int a1] zvi (p_X12_rests a1) := by
  refine z_enter (by decide) (Nat.le_of_ble_eq_true rfl) (fun E hE hl0 hcD hr => ?_)
  have hE : zok layM ad (xtM ad sa sv) E cX12_rests 5 RX12 2 := hE
  show Z layM ad E 5 (zFin layM ad E zvi) 0 [(0, .ref (ad 0)), (1, .int a1)] [] (p_X12_rests a1)
  unfold p_X12_rests
  refine z_aload_n (pc := 0) hE 0 0 rfl rfl dX12_rests_0 ?_
  refine z_iconst (pc := 1) hE dX12_rests_1 qM_iconst_0 ?_
  refine z_puti (pc := 2) hE fk_RX12_117 lM_0 rfl dX12_rests_2 ?_
  refine z_iload_n (pc := 5) hE 1 1 rfl rfl dX12_rests_5 ?_
  refine z_i2l (pc := 6) hE dX12_rests_6 ?_
  refine z_lconst (v := (0 : Int64)) (pc := 7) hE dX12_rests_7 (by decide) ?_
  refine z_ldc2 (pc := 8) hE wM_3 dX12_rests_8 ?_
  refine z_callSi (pc := 11) (st := []) [.long a1.toInt64, .long ((0 : Int64)), .long ((9 : Int64))] hE kk_RX12_131 (c_X12_in a1.toInt64 ((0 : Int64)) ((9 : Int64))) rfl rfl (Nat.le_of_ble_eq_true rfl) (by decide) dX12_rests_11 (fun x1 => ?_)
  refine z_if_ne (pc := 14) hE 19 rfl dX12_rests_14 ?_ ?_
  · refine z_iconst (pc := 19) hE dX12_rests_19 qM_iconst_0 ?_
    refine z_istore_n (L' := [(2, .int ((0 : Int32))), (0, .ref (ad 0)), (1, .int a1)]) (pc := 20) hE 2 rfl (by decide) rfl dX12_rests_20 ?_
    refine z_aload_n (pc := 21) hE 1 0 rfl rfl dX12_rests_21 ?_
    refine z_iconst (pc := 22) hE dX12_rests_22 qM_iconst_0 ?_
    refine z_puti (pc := 23) hE fk_RX12_125 lM_0 rfl dX12_rests_23 ?_
    refine z_iconst (pc := 26) hE dX12_rests_26 qM_iconst_1 ?_
    refine z_istore_n (L' := [(3, .int ((1 : Int32))), (2, .int ((0 : Int32))), (0, .ref (ad 0)), (1, .int a1)]) (pc := 27) hE 3 rfl (by decide) rfl dX12_rests_27 ?_
    refine z_sub (L' := [(0, .ref (ad 0)), (1, .int a1), (2, .int ((0 : Int32))), (3, .int ((1 : Int32)))]) [2, 3, 1, 0] rfl ?_
    refine z_loop (V := (Int32 × Int32)) (X := Int32) (hd := 28) (ex := 96) (Lh := fun v2 => [(0, .ref (ad 0)), (1, .int a1), (2, .int v2.1), (3, .int v2.2)]) (Lx := fun e5 => [(2, .int e5)]) (fun rc4 k3 hrc4 hk3 v2 => ?_) zNF ((0 : Int32), (1 : Int32)) _ (fun e5 => ?_)
    · unfold p_X12_rests_b28
      refine z_iload_n (pc := 28) hE 3 3 rfl rfl dX12_rests_28 ?_
      refine z_bipush (pc := 29) hE dX12_rests_29 qM_bipush_9 ?_
      refine z_icmp_gt (pc := 31) hE 96 rfl dX12_rests_31 ?_ ?_
      · exact z_sub [2] rfl (hk3 v2.1)
      · refine z_iconst (pc := 34) hE dX12_rests_34 qM_iconst_1 ?_
        refine z_istore (L' := [(4, .int ((1 : Int32))), (0, .ref (ad 0)), (1, .int a1), (2, .int v2.1), (3, .int v2.2)]) (pc := 35) hE (by decide) rfl dX12_rests_35 ?_
        refine z_sub (L' := [(0, .ref (ad 0)), (1, .int a1), (2, .int v2.1), (3, .int v2.2), (4, .int ((1 : Int32)))]) [1, 2, 3, 4, 0] rfl ?_
        refine z_loop (V := (Int32 × Int32)) (X := Int32) (hd := 37) (ex := 90) (Lh := fun v6 => [(0, .ref (ad 0)), (1, .int a1), (2, .int v6.1), (3, .int v2.2), (4, .int v6.2)]) (Lx := fun e9 => [(0, .ref (ad 0)), (1, .int a1), (2, .int e9), (3, .int v2.2)]) (fun rc8 k7 hrc8 hk7 v6 => ?_) zNF (v2.1, (1 : Int32)) _ (fun e9 => ?_)
        · unfold p_X12_rests_b37
          refine z_iload (pc := 37) hE 4 rfl dX12_rests_37 ?_
          refine z_bipush (pc := 39) hE dX12_rests_39 qM_bipush_9 ?_
          refine z_icmp_gt (pc := 41) hE 90 rfl dX12_rests_41 ?_ ?_
          · exact z_sub [0, 1, 2, 3] rfl (hk7 v6.1)
          · refine z_iload_n (pc := 44) hE 3 3 rfl rfl dX12_rests_44 ?_
            refine z_iload (pc := 45) hE 4 rfl dX12_rests_45 ?_
            refine z_iload_n (pc := 47) hE 1 1 rfl rfl dX12_rests_47 ?_
            refine z_callSi (pc := 48) (st := []) [.int v2.2, .int v6.2, .int a1] hE kk_RX12_468 (c_X12_isRest v2.2 v6.2 a1) rfl rfl (Nat.le_of_ble_eq_true rfl) (by decide) dX12_rests_48 (fun x10 => ?_)
            refine z_join (Y := Int32) (pcJ := 84) (Lj := fun y11 => [(0, .ref (ad 0)), (1, .int a1), (2, .int y11), (3, .int v2.2), (4, .int v6.2)]) (sj := fun y11 => []) (fun y11 => ?_) (fun j12 hj12 => ?_)
            · refine z_iinc (L' := [(4, .int (v6.2 + (1 : Int32))), (0, .ref (ad 0)), (1, .int a1), (2, .int y11), (3, .int v2.2)]) (pc := 84) hE 4 rfl (zinc qM_iconst_1) (by decide) rfl dX12_rests_84 ?_
              refine z_goto (pc := 87) hE 37 rfl dX12_rests_87 ?_
              exact z_sub [1, 2, 3, 4, 0] rfl (hrc8 (y11, v6.2 + (1 : Int32)))
            refine z_if_eq (pc := 51) hE 84 rfl dX12_rests_51 ?_ ?_
            · exact z_sub [0, 1, 2, 3, 4] rfl (hj12 v6.1)
            · refine z_iload (pc := 54) hE 4 rfl dX12_rests_54 ?_
              refine z_iload_n (pc := 56) hE 3 3 rfl rfl dX12_rests_56 ?_
              refine z_iload_n (pc := 57) hE 1 1 rfl rfl dX12_rests_57 ?_
              refine z_callSi (pc := 58) (st := []) [.int v6.2, .int v2.2, .int a1] hE kk_RX12_468 (c_X12_isRest v6.2 v2.2 a1) rfl rfl (Nat.le_of_ble_eq_true rfl) (by decide) dX12_rests_58 (fun x13 => ?_)
              refine z_if_eq (pc := 61) hE 84 rfl dX12_rests_61 ?_ ?_
              · exact z_sub [0, 1, 2, 3, 4] rfl (hj12 v6.1)
              · refine z_iload_n (pc := 64) hE 2 2 rfl rfl dX12_rests_64 ?_
                refine z_join (Y := Unit) (pcJ := 81) (Lj := fun y14 => [(0, .ref (ad 0)), (1, .int a1), (2, .int v6.1), (3, .int v2.2), (4, .int v6.2)]) (sj := fun y14 => []) (fun y14 => ?_) (fun j15 hj15 => ?_)
                · refine z_iinc (L' := [(2, .int (v6.1 + (1 : Int32))), (0, .ref (ad 0)), (1, .int a1), (3, .int v2.2), (4, .int v6.2)]) (pc := 81) hE 2 rfl (zinc qM_iconst_1) (by decide) rfl dX12_rests_81 ?_
                  exact z_sub [1, 2, 0, 3, 4] rfl (hj12 (v6.1 + (1 : Int32)))
                refine z_if_ne (pc := 65) hE 81 rfl dX12_rests_65 ?_ ?_
                · exact z_sub [0, 1, 2, 3, 4] rfl (hj15 ())
                · refine z_aload_n (pc := 68) hE 0 0 rfl rfl dX12_rests_68 ?_
                  refine z_iload_n (pc := 69) hE 3 3 rfl rfl dX12_rests_69 ?_
                  refine z_i2l (pc := 70) hE dX12_rests_70 ?_
                  refine z_callVv (pc := 71) (st := []) [.long v2.2.toInt64] hE kk_RX12_384 (c_X12_enters v2.2.toInt64) lM_0 rfl rfl rfl (Nat.le_of_ble_eq_true rfl) (by decide) dX12_rests_71 (fun x16 => ?_)
                  refine z_aload_n (pc := 74) hE 0 0 rfl rfl dX12_rests_74 ?_
                  refine z_iload (pc := 75) hE 4 rfl dX12_rests_75 ?_
                  refine z_i2l (pc := 77) hE dX12_rests_77 ?_
                  refine z_callVv (pc := 78) (st := []) [.long v6.2.toInt64] hE kk_RX12_384 (c_X12_enters v6.2.toInt64) lM_0 rfl rfl rfl (Nat.le_of_ble_eq_true rfl) (by decide) dX12_rests_78 (fun x17 => ?_)
                  exact z_sub [0, 1, 2, 3, 4] rfl (hj15 ())
        · refine z_iinc (L' := [(3, .int (v2.2 + (1 : Int32))), (0, .ref (ad 0)), (1, .int a1), (2, .int e9)]) (pc := 90) hE 3 rfl (zinc qM_iconst_1) (by decide) rfl dX12_rests_90 ?_
          refine z_goto (pc := 93) hE 28 rfl dX12_rests_93 ?_
          exact z_sub [1, 2, 3, 0] rfl (hrc4 (e9, v2.2 + (1 : Int32)))
    · refine z_iload_n (pc := 96) hE 0 2 rfl rfl dX12_rests_96 ?_
      exact z_ireturn (pc := 97) hE hr dX12_rests_97
  · refine z_iconst (pc := 17) hE dX12_rests_17 qM_iconst_m1 ?_
    exact z_ireturn (pc := 18) hE hr dX12_rests_18
set_option maxRecDepth 100000 in
set_option maxHeartbeats 4000000 in
theorem c_X12_mark {l : Launch} {ad : Nat → Nat} {ca : FieldType → ClassId} {D : va_G} {sa sv : Nat → Nat} (a1 : Int32) (a2 : Int32) (a3 : Int32) : zC l yX12_mark cX12_mark 4 (some .int) 2 layM ad ca D (xtM ad sa sv) [.ref (ad 0), .int a1, .int a2, .int a3] zvi (p_X12_mark a1 a2 a3) := by
  refine z_enter (by decide) (Nat.le_of_ble_eq_true rfl) (fun E hE hl0 hcD hr => ?_)
  have hE : zok layM ad (xtM ad sa sv) E cX12_mark 4 RX12 2 := hE
  show Z layM ad E 4 (zFin layM ad E zvi) 0 [(0, .ref (ad 0)), (1, .int a1), (2, .int a2), (3, .int a3)] [] (p_X12_mark a1 a2 a3)
  unfold p_X12_mark
  refine z_aload_n (pc := 0) hE 0 0 rfl rfl dX12_mark_0 ?_
  refine z_iconst (pc := 1) hE dX12_mark_1 qM_iconst_0 ?_
  refine z_puti (pc := 2) hE fk_RX12_117 lM_0 rfl dX12_mark_2 ?_
  refine z_aload_n (pc := 5) hE 0 0 rfl rfl dX12_mark_5 ?_
  refine z_iload_n (pc := 6) hE 1 1 rfl rfl dX12_mark_6 ?_
  refine z_callVi (pc := 7) (st := []) [.int a1] hE kk_RX12_271 (c_X12_isRing a1) lM_0 rfl rfl rfl (Nat.le_of_ble_eq_true rfl) (by decide) dX12_mark_7 (fun x1 => ?_)
  refine z_if_eq (pc := 10) hE 46 rfl dX12_mark_10 ?_ ?_
  · refine z_iconst (pc := 46) hE dX12_mark_46 qM_iconst_m1 ?_
    exact z_ireturn (pc := 47) hE hr dX12_mark_47
  · refine z_iload_n (pc := 13) hE 2 2 rfl rfl dX12_mark_13 ?_
    refine z_i2l (pc := 14) hE dX12_mark_14 ?_
    refine z_lconst (v := (0 : Int64)) (pc := 15) hE dX12_mark_15 (by decide) ?_
    refine z_ldc2 (pc := 16) hE wM_9 dX12_mark_16 ?_
    refine z_callSi (pc := 19) (st := []) [.long a2.toInt64, .long ((0 : Int64)), .long ((2 : Int64))] hE kk_RX12_131 (c_X12_in a2.toInt64 ((0 : Int64)) ((2 : Int64))) rfl rfl (Nat.le_of_ble_eq_true rfl) (by decide) dX12_mark_19 (fun x2 => ?_)
    refine z_if_eq (pc := 22) hE 46 rfl dX12_mark_22 ?_ ?_
    · refine z_iconst (pc := 46) hE dX12_mark_46 qM_iconst_m1 ?_
      exact z_ireturn (pc := 47) hE hr dX12_mark_47
    · refine z_iload_n (pc := 25) hE 3 3 rfl rfl dX12_mark_25 ?_
      refine z_i2l (pc := 26) hE dX12_mark_26 ?_
      refine z_lconst (v := (0 : Int64)) (pc := 27) hE dX12_mark_27 (by decide) ?_
      refine z_ldc2 (pc := 28) hE wM_5 dX12_mark_28 ?_
      refine z_callSi (pc := 31) (st := []) [.long a3.toInt64, .long ((0 : Int64)), .long ((99 : Int64))] hE kk_RX12_131 (c_X12_in a3.toInt64 ((0 : Int64)) ((99 : Int64))) rfl rfl (Nat.le_of_ble_eq_true rfl) (by decide) dX12_mark_31 (fun x3 => ?_)
      refine z_if_eq (pc := 34) hE 46 rfl dX12_mark_34 ?_ ?_
      · refine z_iconst (pc := 46) hE dX12_mark_46 qM_iconst_m1 ?_
        exact z_ireturn (pc := 47) hE hr dX12_mark_47
      · refine z_aload_n (pc := 37) hE 0 0 rfl rfl dX12_mark_37 ?_
        refine z_geti (pc := 38) hE fk_RX12_208 lM_0 rfl dX12_mark_38 (fun x4 => ?_)
        refine z_bipush (pc := 41) hE dX12_mark_41 qM_bipush_12 ?_
        refine z_icmp_ne (pc := 43) hE 48 rfl dX12_mark_43 ?_ ?_
        · refine z_aload_n (pc := 48) hE 0 0 rfl rfl dX12_mark_48 ?_
          refine z_getr (pc := 49) hE fk_RX12_92 lM_0 rfl dX12_mark_49 ?_
          refine z_aload_n (pc := 52) hE 0 0 rfl rfl dX12_mark_52 ?_
          refine z_geti (pc := 53) hE fk_RX12_208 lM_0 rfl dX12_mark_53 (fun x5 => ?_)
          refine z_iload_n (pc := 56) hE 1 1 rfl rfl dX12_mark_56 ?_
          refine z_iast (pc := 57) hE lM_28 dX12_mark_57 ?_
          refine z_aload_n (pc := 58) hE 0 0 rfl rfl dX12_mark_58 ?_
          refine z_getr (pc := 59) hE fk_RX12_95 lM_0 rfl dX12_mark_59 ?_
          refine z_aload_n (pc := 62) hE 0 0 rfl rfl dX12_mark_62 ?_
          refine z_geti (pc := 63) hE fk_RX12_208 lM_0 rfl dX12_mark_63 (fun x6 => ?_)
          refine z_iload_n (pc := 66) hE 2 2 rfl rfl dX12_mark_66 ?_
          refine z_iast (pc := 67) hE lM_29 dX12_mark_67 ?_
          refine z_aload_n (pc := 68) hE 0 0 rfl rfl dX12_mark_68 ?_
          refine z_getr (pc := 69) hE fk_RX12_98 lM_0 rfl dX12_mark_69 ?_
          refine z_aload_n (pc := 72) hE 0 0 rfl rfl dX12_mark_72 ?_
          refine z_geti (pc := 73) hE fk_RX12_208 lM_0 rfl dX12_mark_73 (fun x7 => ?_)
          refine z_iload_n (pc := 76) hE 3 3 rfl rfl dX12_mark_76 ?_
          refine z_iast (pc := 77) hE lM_30 dX12_mark_77 ?_
          refine z_aload_n (pc := 78) hE 0 0 rfl rfl dX12_mark_78 ?_
          refine z_dup (pc := 79) hE dX12_mark_79 rfl ?_
          refine z_geti (pc := 80) hE fk_RX12_208 lM_0 rfl dX12_mark_80 (fun x8 => ?_)
          refine z_iconst (pc := 83) hE dX12_mark_83 qM_iconst_1 ?_
          refine z_iadd (pc := 84) hE dX12_mark_84 ?_
          refine z_puti (pc := 85) hE fk_RX12_208 lM_0 rfl dX12_mark_85 ?_
          refine z_aload_n (pc := 88) hE 0 0 rfl rfl dX12_mark_88 ?_
          refine z_geti (pc := 89) hE fk_RX12_208 lM_0 rfl dX12_mark_89 (fun x9 => ?_)
          exact z_ireturn (pc := 92) hE hr dX12_mark_92
        · refine z_iconst (pc := 46) hE dX12_mark_46 qM_iconst_m1 ?_
          exact z_ireturn (pc := 47) hE hr dX12_mark_47
set_option maxRecDepth 100000 in
set_option maxHeartbeats 4000000 in
theorem c_X12_wipe {l : Launch} {ad : Nat → Nat} {ca : FieldType → ClassId} {D : va_G} {sa sv : Nat → Nat}  : zC l yX12_wipe cX12_wipe 2 (some .int) 0 layM ad ca D (xtM ad sa sv) [.ref (ad 0)] zvi (p_X12_wipe) := by
  refine z_enter (by decide) (Nat.le_of_ble_eq_true rfl) (fun E hE hl0 hcD hr => ?_)
  have hE : zok layM ad (xtM ad sa sv) E cX12_wipe 2 RX12 0 := hE
  show Z layM ad E 2 (zFin layM ad E zvi) 0 [(0, .ref (ad 0))] [] (p_X12_wipe)
  unfold p_X12_wipe
  refine z_aload_n (pc := 0) hE 0 0 rfl rfl dX12_wipe_0 ?_
  refine z_iconst (pc := 1) hE dX12_wipe_1 qM_iconst_0 ?_
  refine z_puti (pc := 2) hE fk_RX12_117 lM_0 rfl dX12_wipe_2 ?_
  refine z_aload_n (pc := 5) hE 0 0 rfl rfl dX12_wipe_5 ?_
  refine z_geti (pc := 6) hE fk_RX12_208 lM_0 rfl dX12_wipe_6 (fun x1 => ?_)
  refine z_istore_n (L' := [(1, .int x1), (0, .ref (ad 0))]) (pc := 9) hE 1 rfl (by decide) rfl dX12_wipe_9 ?_
  refine z_aload_n (pc := 10) hE 1 0 rfl rfl dX12_wipe_10 ?_
  refine z_iconst (pc := 11) hE dX12_wipe_11 qM_iconst_0 ?_
  refine z_puti (pc := 12) hE fk_RX12_208 lM_0 rfl dX12_wipe_12 ?_
  refine z_iload_n (pc := 15) hE 0 1 rfl rfl dX12_wipe_15 ?_
  exact z_ireturn (pc := 16) hE hr dX12_wipe_16
set_option maxRecDepth 100000 in
set_option maxHeartbeats 4000000 in
theorem c_X12_fits {l : Launch} {ad : Nat → Nat} {ca : FieldType → ClassId} {D : va_G} {sa sv : Nat → Nat} (a1 : Int32) (a2 : Int32) : zC l yX12_fits cX12_fits 6 (some .boolean) 1 layM ad ca D (xtM ad sa sv) [.ref (ad 0), .int a1, .int a2] zvi (p_X12_fits a1 a2) := by
  refine z_enter (by decide) (Nat.le_of_ble_eq_true rfl) (fun E hE hl0 hcD hr => ?_)
  have hE : zok layM ad (xtM ad sa sv) E cX12_fits 6 RX12 1 := hE
  show Z layM ad E 6 (zFin layM ad E zvi) 0 [(0, .ref (ad 0)), (1, .int a1), (2, .int a2)] [] (p_X12_fits a1 a2)
  unfold p_X12_fits
  refine z_iconst (pc := 0) hE dX12_fits_0 qM_iconst_1 ?_
  refine z_istore_n (L' := [(3, .int ((1 : Int32))), (0, .ref (ad 0)), (1, .int a1), (2, .int a2)]) (pc := 1) hE 3 rfl (by decide) rfl dX12_fits_1 ?_
  refine z_iconst (pc := 2) hE dX12_fits_2 qM_iconst_0 ?_
  refine z_istore (L' := [(4, .int ((0 : Int32))), (3, .int ((1 : Int32))), (0, .ref (ad 0)), (1, .int a1), (2, .int a2)]) (pc := 3) hE (by decide) rfl dX12_fits_3 ?_
  refine z_sub (L' := [(0, .ref (ad 0)), (1, .int a1), (2, .int a2), (3, .int ((1 : Int32))), (4, .int ((0 : Int32)))]) [2, 3, 4, 1, 0] rfl ?_
  refine z_loop (V := (Int32 × Int32)) (X := Int32) (hd := 5) (ex := 104) (Lh := fun v1 => [(0, .ref (ad 0)), (1, .int a1), (2, .int a2), (3, .int v1.1), (4, .int v1.2)]) (Lx := fun e4 => [(3, .int e4)]) (fun rc3 k2 hrc3 hk2 v1 => ?_) zNF ((1 : Int32), (0 : Int32)) _ (fun e4 => ?_)
  · unfold p_X12_fits_b5
    refine z_iload (pc := 5) hE 4 rfl dX12_fits_5 ?_
    refine z_aload_n (pc := 7) hE 0 0 rfl rfl dX12_fits_7 ?_
    refine z_geti (pc := 8) hE fk_RX12_208 lM_0 rfl dX12_fits_8 (fun x5 => ?_)
    refine z_icmp_ge (pc := 11) hE 104 rfl dX12_fits_11 ?_ ?_
    · exact z_sub [3] rfl (hk2 v1.1)
    · refine z_aload_n (pc := 14) hE 0 0 rfl rfl dX12_fits_14 ?_
      refine z_getr (pc := 15) hE fk_RX12_92 lM_0 rfl dX12_fits_15 ?_
      refine z_iload (pc := 18) hE 4 rfl dX12_fits_18 ?_
      refine z_iald (pc := 20) hE lM_28 dX12_fits_20 (fun x6 => ?_)
      refine z_iload_n (pc := 21) hE 1 1 rfl rfl dX12_fits_21 ?_
      refine z_join (Y := Int32) (pcJ := 98) (Lj := fun y7 => [(0, .ref (ad 0)), (1, .int a1), (2, .int a2), (3, .int y7), (4, .int v1.2)]) (sj := fun y7 => []) (fun y7 => ?_) (fun j8 hj8 => ?_)
      · refine z_iinc (L' := [(4, .int (v1.2 + (1 : Int32))), (0, .ref (ad 0)), (1, .int a1), (2, .int a2), (3, .int y7)]) (pc := 98) hE 4 rfl (zinc qM_iconst_1) (by decide) rfl dX12_fits_98 ?_
        refine z_goto (pc := 101) hE 5 rfl dX12_fits_101 ?_
        exact z_sub [1, 2, 3, 4, 0] rfl (hrc3 (y7, v1.2 + (1 : Int32)))
      refine z_icmp_ne (pc := 22) hE 98 rfl dX12_fits_22 ?_ ?_
      · exact z_sub [0, 1, 2, 3, 4] rfl (hj8 v1.1)
      · refine z_aload_n (pc := 25) hE 0 0 rfl rfl dX12_fits_25 ?_
        refine z_getr (pc := 26) hE fk_RX12_98 lM_0 rfl dX12_fits_26 ?_
        refine z_iload (pc := 29) hE 4 rfl dX12_fits_29 ?_
        refine z_iald (pc := 31) hE lM_30 dX12_fits_31 (fun x9 => ?_)
        refine z_istore (L' := [(5, .int x9), (0, .ref (ad 0)), (1, .int a1), (2, .int a2), (3, .int v1.1), (4, .int v1.2)]) (pc := 32) hE (by decide) rfl dX12_fits_32 ?_
        refine z_iload_n (pc := 34) hE 4 3 rfl rfl dX12_fits_34 ?_
        refine z_join (Y := Int32) (pcJ := 97) (Lj := fun y10 => [(0, .ref (ad 0)), (1, .int a1), (2, .int a2), (4, .int v1.2)]) (sj := fun y10 => [.int y10]) (fun y10 => ?_) (fun j11 hj11 => ?_)
        · refine z_istore_n (L' := [(3, .int y10), (0, .ref (ad 0)), (1, .int a1), (2, .int a2), (4, .int v1.2)]) (pc := 97) hE 3 rfl (by decide) rfl dX12_fits_97 ?_
          exact z_sub [1, 2, 3, 0, 4] rfl (hj8 y10)
        refine z_join (Y := Unit) (pcJ := 96) (Lj := fun y12 => [(0, .ref (ad 0)), (1, .int a1), (2, .int a2), (4, .int v1.2)]) (sj := fun y12 => []) (fun y12 => ?_) (fun j13 hj13 => ?_)
        · refine z_iconst (pc := 96) hE dX12_fits_96 qM_iconst_0 ?_
          exact z_sub [0, 1, 2, 3] rfl (hj11 ((0 : Int32)))
        refine z_if_eq (pc := 35) hE 96 rfl dX12_fits_35 ?_ ?_
        · exact z_sub [1, 2, 3, 5] rfl (hj13 ())
        · refine z_aload_n (pc := 38) hE 1 0 rfl rfl dX12_fits_38 ?_
          refine z_getr (pc := 39) hE fk_RX12_95 lM_0 rfl dX12_fits_39 ?_
          refine z_iload (pc := 42) hE 5 rfl dX12_fits_42 ?_
          refine z_iald (pc := 44) hE lM_29 dX12_fits_44 (fun x14 => ?_)
          refine z_join (Y := Unit) (pcJ := 92) (Lj := fun y15 => [(0, .ref (ad 0)), (1, .int a1), (2, .int a2), (4, .int v1.2)]) (sj := fun y15 => []) (fun y15 => ?_) (fun j16 hj16 => ?_)
          · refine z_iconst (pc := 92) hE dX12_fits_92 qM_iconst_1 ?_
            refine z_goto (pc := 93) hE 97 rfl dX12_fits_93 ?_
            exact z_sub [0, 1, 2, 3] rfl (hj11 ((1 : Int32)))
          refine z_if_ne (pc := 45) hE 62 rfl dX12_fits_45 ?_ ?_
          · refine z_aload_n (pc := 62) hE 1 0 rfl rfl dX12_fits_62 ?_
            refine z_getr (pc := 63) hE fk_RX12_95 lM_0 rfl dX12_fits_63 ?_
            refine z_iload (pc := 66) hE 5 rfl dX12_fits_66 ?_
            refine z_iald (pc := 68) hE lM_29 dX12_fits_68 (fun x17 => ?_)
            refine z_iconst (pc := 69) hE dX12_fits_69 qM_iconst_1 ?_
            refine z_icmp_ne (pc := 70) hE 86 rfl dX12_fits_70 ?_ ?_
            · refine z_iload_n (pc := 86) hE 3 2 rfl rfl dX12_fits_86 ?_
              refine z_iload (pc := 87) hE 0 rfl dX12_fits_87 ?_
              refine z_icmp_eq (pc := 89) hE 96 rfl dX12_fits_89 ?_ ?_
              · exact z_sub [1, 2, 3, 5] rfl (hj13 ())
              · exact z_sub [1, 2, 3, 5] rfl (hj16 ())
            · refine z_aload_n (pc := 73) hE 1 0 rfl rfl dX12_fits_73 ?_
              refine z_iload_n (pc := 74) hE 3 2 rfl rfl dX12_fits_74 ?_
              refine z_callVi (pc := 75) (st := []) [.int a2] hE kk_RX12_287 (c_X12_heavy a2) lM_0 rfl rfl rfl (Nat.le_of_ble_eq_true rfl) (by decide) dX12_fits_75 (fun x18 => ?_)
              refine z_iload (pc := 78) hE 0 rfl dX12_fits_78 ?_
              refine z_icmp_gt (pc := 80) hE 96 rfl dX12_fits_80 ?_ ?_
              · exact z_sub [1, 2, 3, 5] rfl (hj13 ())
              · refine z_goto (pc := 83) hE 92 rfl dX12_fits_83 ?_
                exact z_sub [1, 2, 3, 5] rfl (hj16 ())
          · refine z_aload_n (pc := 48) hE 1 0 rfl rfl dX12_fits_48 ?_
            refine z_getr (pc := 49) hE fk_RX12_20 lM_0 rfl dX12_fits_49 ?_
            refine z_iload_n (pc := 52) hE 3 2 rfl rfl dX12_fits_52 ?_
            refine z_iald (pc := 53) hE lM_4 dX12_fits_53 (fun x19 => ?_)
            refine z_iload (pc := 54) hE 0 rfl dX12_fits_54 ?_
            refine z_icmp_lt (pc := 56) hE 96 rfl dX12_fits_56 ?_ ?_
            · exact z_sub [1, 2, 3, 5] rfl (hj13 ())
            · refine z_goto (pc := 59) hE 92 rfl dX12_fits_59 ?_
              exact z_sub [1, 2, 3, 5] rfl (hj16 ())
  · refine z_iload_n (pc := 104) hE 0 3 rfl rfl dX12_fits_104 ?_
    exact z_zreturn (pc := 105) hE hr dX12_fits_105
set_option maxRecDepth 100000 in
set_option maxHeartbeats 4000000 in
theorem c_X12_lay {l : Launch} {ad : Nat → Nat} {ca : FieldType → ClassId} {D : va_G} {sa sv : Nat → Nat} (a1 : Int32) : zC l yX12_lay cX12_lay 4 (some .int) 2 layM ad ca D (xtM ad sa sv) [.ref (ad 0), .int a1] zvi (p_X12_lay a1) := by
  refine z_enter (by decide) (Nat.le_of_ble_eq_true rfl) (fun E hE hl0 hcD hr => ?_)
  have hE : zok layM ad (xtM ad sa sv) E cX12_lay 4 RX12 2 := hE
  show Z layM ad E 4 (zFin layM ad E zvi) 0 [(0, .ref (ad 0)), (1, .int a1)] [] (p_X12_lay a1)
  unfold p_X12_lay
  refine z_aload_n (pc := 0) hE 0 0 rfl rfl dX12_lay_0 ?_
  refine z_iconst (pc := 1) hE dX12_lay_1 qM_iconst_0 ?_
  refine z_puti (pc := 2) hE fk_RX12_117 lM_0 rfl dX12_lay_2 ?_
  refine z_aload_n (pc := 5) hE 0 0 rfl rfl dX12_lay_5 ?_
  refine z_iload_n (pc := 6) hE 1 1 rfl rfl dX12_lay_6 ?_
  refine z_callVi (pc := 7) (st := []) [.int a1] hE kk_RX12_271 (c_X12_isRing a1) lM_0 rfl rfl rfl (Nat.le_of_ble_eq_true rfl) (by decide) dX12_lay_7 (fun x1 => ?_)
  refine z_if_ne (pc := 10) hE 15 rfl dX12_lay_10 ?_ ?_
  · refine z_iconst (pc := 15) hE dX12_lay_15 qM_iconst_0 ?_
    refine z_istore_n (L' := [(2, .int ((0 : Int32))), (0, .ref (ad 0)), (1, .int a1)]) (pc := 16) hE 2 rfl (by decide) rfl dX12_lay_16 ?_
    refine z_iconst (pc := 17) hE dX12_lay_17 qM_iconst_0 ?_
    refine z_istore_n (L' := [(3, .int ((0 : Int32))), (2, .int ((0 : Int32))), (0, .ref (ad 0)), (1, .int a1)]) (pc := 18) hE 3 rfl (by decide) rfl dX12_lay_18 ?_
    refine z_sub (L' := [(0, .ref (ad 0)), (1, .int a1), (2, .int ((0 : Int32))), (3, .int ((0 : Int32)))]) [2, 3, 1, 0] rfl ?_
    refine z_loop (V := (Int32 × Int32)) (X := Int32) (hd := 19) (ex := 52) (Lh := fun v2 => [(0, .ref (ad 0)), (1, .int a1), (2, .int v2.1), (3, .int v2.2)]) (Lx := fun e5 => [(0, .ref (ad 0)), (2, .int e5)]) (fun rc4 k3 hrc4 hk3 v2 => ?_) zNF ((0 : Int32), (0 : Int32)) _ (fun e5 => ?_)
    · unfold p_X12_lay_b19
      refine z_iload_n (pc := 19) hE 3 3 rfl rfl dX12_lay_19 ?_
      refine z_aload_n (pc := 20) hE 0 0 rfl rfl dX12_lay_20 ?_
      refine z_geti (pc := 21) hE fk_RX12_135 lM_0 rfl dX12_lay_21 (fun x6 => ?_)
      refine z_icmp_ge (pc := 24) hE 52 rfl dX12_lay_24 ?_ ?_
      · exact z_sub [0, 2] rfl (hk3 v2.1)
      · refine z_iload_n (pc := 27) hE 2 2 rfl rfl dX12_lay_27 ?_
        refine z_aload_n (pc := 28) hE 0 0 rfl rfl dX12_lay_28 ?_
        refine z_iload_n (pc := 29) hE 1 1 rfl rfl dX12_lay_29 ?_
        refine z_iload_n (pc := 30) hE 3 3 rfl rfl dX12_lay_30 ?_
        refine z_callVi (pc := 31) (st := [.int v2.1]) [.int a1, .int v2.2] hE kk_RX12_473 (c_X12_fits a1 v2.2) lM_0 rfl rfl rfl (Nat.le_of_ble_eq_true rfl) (by decide) dX12_lay_31 (fun x7 => ?_)
        refine z_join (Y := Int32) (pcJ := 44) (Lj := fun y8 => [(0, .ref (ad 0)), (1, .int a1), (3, .int v2.2)]) (sj := fun y8 => [.int y8, .int v2.1]) (fun y8 => ?_) (fun j9 hj9 => ?_)
        · refine z_ior (pc := 44) hE dX12_lay_44 ?_
          refine z_istore_n (L' := [(2, .int (v2.1 ||| y8)), (0, .ref (ad 0)), (1, .int a1), (3, .int v2.2)]) (pc := 45) hE 2 rfl (by decide) rfl dX12_lay_45 ?_
          refine z_iinc (L' := [(3, .int (v2.2 + (1 : Int32))), (2, .int (v2.1 ||| y8)), (0, .ref (ad 0)), (1, .int a1)]) (pc := 46) hE 3 rfl (zinc qM_iconst_1) (by decide) rfl dX12_lay_46 ?_
          refine z_goto (pc := 49) hE 19 rfl dX12_lay_49 ?_
          exact z_sub [2, 3, 1, 0] rfl (hrc4 (v2.1 ||| y8, v2.2 + (1 : Int32)))
        refine z_if_eq (pc := 34) hE 43 rfl dX12_lay_34 ?_ ?_
        · refine z_iconst (pc := 43) hE dX12_lay_43 qM_iconst_0 ?_
          exact z_sub [0, 1, 3] rfl (hj9 ((0 : Int32)))
        · refine z_iconst (pc := 37) hE dX12_lay_37 qM_iconst_1 ?_
          refine z_iload_n (pc := 38) hE 3 3 rfl rfl dX12_lay_38 ?_
          refine z_ishl (pc := 39) hE dX12_lay_39 ?_
          refine z_goto (pc := 40) hE 44 rfl dX12_lay_40 ?_
          exact z_sub [0, 1, 3] rfl (hj9 (((1 : Int32)) <<< (v2.2 &&& 31)))
    · refine z_aload_n (pc := 52) hE 0 0 rfl rfl dX12_lay_52 ?_
      refine z_iconst (pc := 53) hE dX12_lay_53 qM_iconst_0 ?_
      refine z_puti (pc := 54) hE fk_RX12_125 lM_0 rfl dX12_lay_54 ?_
      refine z_aload_n (pc := 57) hE 0 0 rfl rfl dX12_lay_57 ?_
      refine z_iload_n (pc := 58) hE 1 2 rfl rfl dX12_lay_58 ?_
      refine z_callSi (pc := 59) (st := [.ref (ad 0)]) [.int e5] hE kk_RX12_425 (c_J6_bitCount_0f7a4 e5) rfl rfl (Nat.le_of_ble_eq_true rfl) (by decide) dX12_lay_59 (fun x10 => ?_)
      refine z_i2l (pc := 62) hE dX12_lay_62 ?_
      refine z_callVv (pc := 63) (st := []) [.long x10.toInt64] hE kk_RX12_384 (c_X12_enters x10.toInt64) lM_0 rfl rfl rfl (Nat.le_of_ble_eq_true rfl) (by decide) dX12_lay_63 (fun x11 => ?_)
      refine z_iload_n (pc := 66) hE 1 2 rfl rfl dX12_lay_66 ?_
      exact z_ireturn (pc := 67) hE hr dX12_lay_67
  · refine z_iconst (pc := 13) hE dX12_lay_13 qM_iconst_m1 ?_
    exact z_ireturn (pc := 14) hE hr dX12_lay_14
set_option maxRecDepth 100000 in
set_option maxHeartbeats 4000000 in
theorem c_X12_markedRings {l : Launch} {ad : Nat → Nat} {ca : FieldType → ClassId} {D : va_G} {sa sv : Nat → Nat}  : zC l yX12_markedRings cX12_markedRings 3 (some .int) 0 layM ad ca D (xtM ad sa sv) [.ref (ad 0)] zvi (p_X12_markedRings) := by
  refine z_enter (by decide) (Nat.le_of_ble_eq_true rfl) (fun E hE hl0 hcD hr => ?_)
  have hE : zok layM ad (xtM ad sa sv) E cX12_markedRings 3 RX12 0 := hE
  show Z layM ad E 3 (zFin layM ad E zvi) 0 [(0, .ref (ad 0))] [] (p_X12_markedRings)
  unfold p_X12_markedRings
  refine z_iconst (pc := 0) hE dX12_markedRings_0 qM_iconst_0 ?_
  refine z_istore_n (L' := [(1, .int ((0 : Int32))), (0, .ref (ad 0))]) (pc := 1) hE 1 rfl (by decide) rfl dX12_markedRings_1 ?_
  refine z_iconst (pc := 2) hE dX12_markedRings_2 qM_iconst_0 ?_
  refine z_istore_n (L' := [(2, .int ((0 : Int32))), (1, .int ((0 : Int32))), (0, .ref (ad 0))]) (pc := 3) hE 2 rfl (by decide) rfl dX12_markedRings_3 ?_
  refine z_sub (L' := [(0, .ref (ad 0)), (1, .int ((0 : Int32))), (2, .int ((0 : Int32)))]) [2, 1, 0] rfl ?_
  refine z_loop (V := (Int32 × Int32)) (X := Int32) (hd := 4) (ex := 29) (Lh := fun v1 => [(0, .ref (ad 0)), (1, .int v1.1), (2, .int v1.2)]) (Lx := fun e4 => [(1, .int e4)]) (fun rc3 k2 hrc3 hk2 v1 => ?_) zNF ((0 : Int32), (0 : Int32)) _ (fun e4 => ?_)
  · unfold p_X12_markedRings_b4
    refine z_iload_n (pc := 4) hE 2 2 rfl rfl dX12_markedRings_4 ?_
    refine z_aload_n (pc := 5) hE 0 0 rfl rfl dX12_markedRings_5 ?_
    refine z_geti (pc := 6) hE fk_RX12_208 lM_0 rfl dX12_markedRings_6 (fun x5 => ?_)
    refine z_icmp_ge (pc := 9) hE 29 rfl dX12_markedRings_9 ?_ ?_
    · exact z_sub [1] rfl (hk2 v1.1)
    · refine z_iload_n (pc := 12) hE 1 1 rfl rfl dX12_markedRings_12 ?_
      refine z_iconst (pc := 13) hE dX12_markedRings_13 qM_iconst_1 ?_
      refine z_aload_n (pc := 14) hE 0 0 rfl rfl dX12_markedRings_14 ?_
      refine z_getr (pc := 15) hE fk_RX12_92 lM_0 rfl dX12_markedRings_15 ?_
      refine z_iload_n (pc := 18) hE 2 2 rfl rfl dX12_markedRings_18 ?_
      refine z_iald (pc := 19) hE lM_28 dX12_markedRings_19 (fun x6 => ?_)
      refine z_ishl (pc := 20) hE dX12_markedRings_20 ?_
      refine z_ior (pc := 21) hE dX12_markedRings_21 ?_
      refine z_istore_n (L' := [(1, .int (v1.1 ||| (((1 : Int32)) <<< (x6 &&& 31)))), (0, .ref (ad 0)), (2, .int v1.2)]) (pc := 22) hE 1 rfl (by decide) rfl dX12_markedRings_22 ?_
      refine z_iinc (L' := [(2, .int (v1.2 + (1 : Int32))), (1, .int (v1.1 ||| (((1 : Int32)) <<< (x6 &&& 31)))), (0, .ref (ad 0))]) (pc := 23) hE 2 rfl (zinc qM_iconst_1) (by decide) rfl dX12_markedRings_23 ?_
      refine z_goto (pc := 26) hE 4 rfl dX12_markedRings_26 ?_
      exact z_sub [2, 1, 0] rfl (hrc3 (v1.1 ||| (((1 : Int32)) <<< (x6 &&& 31)), v1.2 + (1 : Int32)))
  · refine z_iload_n (pc := 29) hE 0 1 rfl rfl dX12_markedRings_29 ?_
    exact z_ireturn (pc := 30) hE hr dX12_markedRings_30
set_option maxRecDepth 100000 in
set_option maxHeartbeats 4000000 in
theorem c_X12_laysFrom_s (G : ((Int32 × Int32 × Int32) → zM Unit)) (d : Nat) (hd : 3 ≤ d) (hG : (∀ (l : Launch) (ad : Nat → Nat) (ca : FieldType → ClassId) (D : va_G) (sa sv : Nat → Nat) (a1 : Int32) (a2 : Int32) (a3 : Int32), zC l yX12_laysFrom cX12_laysFrom 5 none (d - 1) layM ad ca D (xtM ad sa sv) [.ref (ad 0), .int a1, .int a2, .int a3] zvn (G (a1, a2, a3)))) {l : Launch} {ad : Nat → Nat} {ca : FieldType → ClassId} {D : va_G} {sa sv : Nat → Nat} (a1 : Int32) (a2 : Int32) (a3 : Int32) : zC l yX12_laysFrom cX12_laysFrom 5 none d layM ad ca D (xtM ad sa sv) [.ref (ad 0), .int a1, .int a2, .int a3] zvn (p_X12_laysFrom_s G a1 a2 a3) := by
  refine z_enter (by decide) (Nat.le_of_ble_eq_true rfl) (fun E hE hl0 hcD hr => ?_)
  have hE : zok layM ad (xtM ad sa sv) E cX12_laysFrom 5 RX12 d := hE
  show Z layM ad E 5 (zFin layM ad E zvn) 0 [(0, .ref (ad 0)), (1, .int a1), (2, .int a2), (3, .int a3)] [] (p_X12_laysFrom_s G a1 a2 a3)
  unfold p_X12_laysFrom_s
  refine z_iload_n (pc := 0) hE 2 2 rfl rfl dX12_laysFrom_0 ?_
  refine z_aload_n (pc := 1) hE 0 0 rfl rfl dX12_laysFrom_1 ?_
  refine z_geti (pc := 2) hE fk_RX12_128 lM_0 rfl dX12_laysFrom_2 (fun x1 => ?_)
  refine z_icmp_ne (pc := 5) hE 104 rfl dX12_laysFrom_5 ?_ ?_
  · refine z_iload_n (pc := 104) hE 1 1 rfl rfl dX12_laysFrom_104 ?_
    refine z_iload_n (pc := 105) hE 2 2 rfl rfl dX12_laysFrom_105 ?_
    refine z_callSi (pc := 106) (st := []) [.int a1, .int a2] hE kk_RX12_415 (c_X12_has a1 a2) rfl rfl (Nat.le_of_ble_eq_true rfl) (by omega) dX12_laysFrom_106 (fun x2 => ?_)
    refine z_if_ne (pc := 109) hE 122 rfl dX12_laysFrom_109 ?_ ?_
    · refine z_iconst (pc := 122) hE dX12_laysFrom_122 qM_iconst_0 ?_
      refine z_istore (L' := [(4, .int ((0 : Int32))), (0, .ref (ad 0)), (1, .int a1), (2, .int a2), (3, .int a3)]) (pc := 123) hE (by decide) rfl dX12_laysFrom_123 ?_
      refine z_sub (L' := [(0, .ref (ad 0)), (1, .int a1), (2, .int a2), (3, .int a3), (4, .int ((0 : Int32)))]) [1, 2, 3, 4, 0] rfl ?_
      refine z_loop (V := Int32) (X := Unit) (hd := 125) (ex := 181) (Lh := fun v3 => [(0, .ref (ad 0)), (1, .int a1), (2, .int a2), (3, .int a3), (4, .int v3)]) (Lx := fun e6 => []) (fun rc5 k4 hrc5 hk4 v3 => ?_) zNF ((0 : Int32)) _ (fun e6 => ?_)
      · unfold p_X12_laysFrom_b125
        refine z_iload (pc := 125) hE 4 rfl dX12_laysFrom_125 ?_
        refine z_aload_n (pc := 127) hE 0 0 rfl rfl dX12_laysFrom_127 ?_
        refine z_geti (pc := 128) hE fk_RX12_135 lM_0 rfl dX12_laysFrom_128 (fun x7 => ?_)
        refine z_icmp_ge (pc := 131) hE 181 rfl dX12_laysFrom_131 ?_ ?_
        · exact z_sub [] rfl (hk4 ())
        · refine z_iload_n (pc := 134) hE 3 3 rfl rfl dX12_laysFrom_134 ?_
          refine z_iload (pc := 135) hE 4 rfl dX12_laysFrom_135 ?_
          refine z_callSi (pc := 137) (st := []) [.int a3, .int v3] hE kk_RX12_415 (c_X12_has a3 v3) rfl rfl (Nat.le_of_ble_eq_true rfl) (by omega) dX12_laysFrom_137 (fun x8 => ?_)
          refine z_join (Y := Unit) (pcJ := 175) (Lj := fun y9 => [(0, .ref (ad 0)), (1, .int a1), (2, .int a2), (3, .int a3), (4, .int v3)]) (sj := fun y9 => []) (fun y9 => ?_) (fun j10 hj10 => ?_)
          · refine z_iinc (L' := [(4, .int (v3 + (1 : Int32))), (0, .ref (ad 0)), (1, .int a1), (2, .int a2), (3, .int a3)]) (pc := 175) hE 4 rfl (zinc qM_iconst_1) (by decide) rfl dX12_laysFrom_175 ?_
            refine z_goto (pc := 178) hE 125 rfl dX12_laysFrom_178 ?_
            exact z_sub [1, 2, 3, 4, 0] rfl (hrc5 (v3 + (1 : Int32)))
          refine z_if_ne (pc := 140) hE 175 rfl dX12_laysFrom_140 ?_ ?_
          · exact z_sub [0, 1, 2, 3, 4] rfl (hj10 ())
          · refine z_aload_n (pc := 143) hE 0 0 rfl rfl dX12_laysFrom_143 ?_
            refine z_iload_n (pc := 144) hE 2 2 rfl rfl dX12_laysFrom_144 ?_
            refine z_iload (pc := 145) hE 4 rfl dX12_laysFrom_145 ?_
            refine z_callVi (pc := 147) (st := []) [.int a2, .int v3] hE kk_RX12_473 (c_X12_fits a2 v3) lM_0 rfl rfl rfl (Nat.le_of_ble_eq_true rfl) (by omega) dX12_laysFrom_147 (fun x11 => ?_)
            refine z_if_eq (pc := 150) hE 175 rfl dX12_laysFrom_150 ?_ ?_
            · exact z_sub [0, 1, 2, 3, 4] rfl (hj10 ())
            · refine z_aload_n (pc := 153) hE 0 0 rfl rfl dX12_laysFrom_153 ?_
              refine z_getr (pc := 154) hE fk_RX12_101 lM_0 rfl dX12_laysFrom_154 ?_
              refine z_iload_n (pc := 157) hE 2 2 rfl rfl dX12_laysFrom_157 ?_
              refine z_iload (pc := 158) hE 4 rfl dX12_laysFrom_158 ?_
              refine z_iast (pc := 160) hE lM_31 dX12_laysFrom_160 ?_
              refine z_aload_n (pc := 161) hE 0 0 rfl rfl dX12_laysFrom_161 ?_
              refine z_iload_n (pc := 162) hE 1 1 rfl rfl dX12_laysFrom_162 ?_
              refine z_iload_n (pc := 163) hE 2 2 rfl rfl dX12_laysFrom_163 ?_
              refine z_iconst (pc := 164) hE dX12_laysFrom_164 qM_iconst_1 ?_
              refine z_iadd (pc := 165) hE dX12_laysFrom_165 ?_
              refine z_iload_n (pc := 166) hE 3 3 rfl rfl dX12_laysFrom_166 ?_
              refine z_iconst (pc := 167) hE dX12_laysFrom_167 qM_iconst_1 ?_
              refine z_iload (pc := 168) hE 4 rfl dX12_laysFrom_168 ?_
              refine z_ishl (pc := 170) hE dX12_laysFrom_170 ?_
              refine z_ior (pc := 171) hE dX12_laysFrom_171 ?_
              refine z_callVv (pc := 172) (st := []) [.int a1, .int (a2 + ((1 : Int32))), .int (a3 ||| (((1 : Int32)) <<< (v3 &&& 31)))] hE kk_RX12_482 (hG _ _ _ _ _ _ a1 (a2 + ((1 : Int32))) (a3 ||| (((1 : Int32)) <<< (v3 &&& 31)))) lM_0 rfl rfl rfl (Nat.le_of_ble_eq_true rfl) (by omega) dX12_laysFrom_172 (fun x12 => ?_)
              exact z_sub [0, 1, 2, 3, 4] rfl (hj10 ())
      · exact z_return (pc := 181) hE hr dX12_laysFrom_181
    · refine z_aload_n (pc := 112) hE 0 0 rfl rfl dX12_laysFrom_112 ?_
      refine z_iload_n (pc := 113) hE 1 1 rfl rfl dX12_laysFrom_113 ?_
      refine z_iload_n (pc := 114) hE 2 2 rfl rfl dX12_laysFrom_114 ?_
      refine z_iconst (pc := 115) hE dX12_laysFrom_115 qM_iconst_1 ?_
      refine z_iadd (pc := 116) hE dX12_laysFrom_116 ?_
      refine z_iload_n (pc := 117) hE 3 3 rfl rfl dX12_laysFrom_117 ?_
      refine z_callVv (pc := 118) (st := []) [.int a1, .int (a2 + ((1 : Int32))), .int a3] hE kk_RX12_482 (hG _ _ _ _ _ _ a1 (a2 + ((1 : Int32))) a3) lM_0 rfl rfl rfl (Nat.le_of_ble_eq_true rfl) (by omega) dX12_laysFrom_118 (fun x13 => ?_)
      exact z_return (pc := 121) hE hr dX12_laysFrom_121
  · refine z_iconst (pc := 8) hE dX12_laysFrom_8 qM_iconst_0 ?_
    refine z_istore (L' := [(4, .int ((0 : Int32))), (0, .ref (ad 0)), (1, .int a1), (2, .int a2), (3, .int a3)]) (pc := 9) hE (by decide) rfl dX12_laysFrom_9 ?_
    refine z_sub (L' := [(0, .ref (ad 0)), (4, .int ((0 : Int32)))]) [1, 0] rfl ?_
    refine z_loop (V := Int32) (X := Unit) (hd := 11) (ex := 93) (Lh := fun v14 => [(0, .ref (ad 0)), (4, .int v14)]) (Lx := fun e17 => [(0, .ref (ad 0))]) (fun rc16 k15 hrc16 hk15 v14 => ?_) zNF ((0 : Int32)) _ (fun e17 => ?_)
    · unfold p_X12_laysFrom_b11
      refine z_iload (pc := 11) hE 1 rfl dX12_laysFrom_11 ?_
      refine z_aload_n (pc := 13) hE 0 0 rfl rfl dX12_laysFrom_13 ?_
      refine z_geti (pc := 14) hE fk_RX12_128 lM_0 rfl dX12_laysFrom_14 (fun x18 => ?_)
      refine z_icmp_ge (pc := 17) hE 93 rfl dX12_laysFrom_17 ?_ ?_
      · exact z_sub [0] rfl (hk15 ())
      · refine z_aload_n (pc := 20) hE 0 0 rfl rfl dX12_laysFrom_20 ?_
        refine z_getr (pc := 21) hE fk_RX12_104 lM_0 rfl dX12_laysFrom_21 ?_
        refine z_iload (pc := 24) hE 1 rfl dX12_laysFrom_24 ?_
        refine z_aload_n (pc := 26) hE 0 0 rfl rfl dX12_laysFrom_26 ?_
        refine z_geti (pc := 27) hE fk_RX12_476 lM_0 rfl dX12_laysFrom_27 (fun x19 => ?_)
        refine z_join (Y := Int32) (pcJ := 50) (Lj := fun y20 => [(0, .ref (ad 0)), (4, .int v14)]) (sj := fun y20 => [.int y20, .int v14, .ref (ad 32)]) (fun y20 => ?_) (fun j21 hj21 => ?_)
        · refine z_iast (pc := 50) hE lM_32 dX12_laysFrom_50 ?_
          refine z_aload_n (pc := 51) hE 0 0 rfl rfl dX12_laysFrom_51 ?_
          refine z_dup (pc := 52) hE dX12_laysFrom_52 rfl ?_
          refine z_geti (pc := 53) hE fk_RX12_479 lM_0 rfl dX12_laysFrom_53 (fun x22 => ?_)
          refine z_aload_n (pc := 56) hE 0 0 rfl rfl dX12_laysFrom_56 ?_
          refine z_getr (pc := 57) hE fk_RX12_104 lM_0 rfl dX12_laysFrom_57 ?_
          refine z_iload (pc := 60) hE 1 rfl dX12_laysFrom_60 ?_
          refine z_iald (pc := 62) hE lM_32 dX12_laysFrom_62 (fun x23 => ?_)
          refine z_aload_n (pc := 63) hE 0 0 rfl rfl dX12_laysFrom_63 ?_
          refine z_getr (pc := 64) hE fk_RX12_101 lM_0 rfl dX12_laysFrom_64 ?_
          refine z_iload (pc := 67) hE 1 rfl dX12_laysFrom_67 ?_
          refine z_iald (pc := 69) hE lM_31 dX12_laysFrom_69 (fun x24 => ?_)
          refine z_join (Y := Int32) (pcJ := 83) (Lj := fun y25 => [(0, .ref (ad 0)), (4, .int v14)]) (sj := fun y25 => [.int y25, .int x22, .ref (ad 0)]) (fun y25 => ?_) (fun j26 hj26 => ?_)
          · refine z_iand (pc := 83) hE dX12_laysFrom_83 ?_
            refine z_puti (pc := 84) hE fk_RX12_479 lM_0 rfl dX12_laysFrom_84 ?_
            refine z_iinc (L' := [(4, .int (v14 + (1 : Int32))), (0, .ref (ad 0))]) (pc := 87) hE 1 rfl (zinc qM_iconst_1) (by decide) rfl dX12_laysFrom_87 ?_
            refine z_goto (pc := 90) hE 11 rfl dX12_laysFrom_90 ?_
            exact z_sub [1, 0] rfl (hrc16 (v14 + (1 : Int32)))
          refine z_icmp_ne (pc := 70) hE 77 rfl dX12_laysFrom_70 ?_ ?_
          · refine z_iconst (pc := 77) hE dX12_laysFrom_77 qM_iconst_1 ?_
            refine z_iload (pc := 78) hE 1 rfl dX12_laysFrom_78 ?_
            refine z_ishl (pc := 80) hE dX12_laysFrom_80 ?_
            refine z_iconst (pc := 81) hE dX12_laysFrom_81 qM_iconst_m1 ?_
            refine z_ixor (pc := 82) hE dX12_laysFrom_82 ?_
            exact z_sub [0, 1] rfl (hj26 ((((1 : Int32)) <<< (v14 &&& 31)) ^^^ ((-1 : Int32))))
          · refine z_iconst (pc := 73) hE dX12_laysFrom_73 qM_iconst_m1 ?_
            refine z_goto (pc := 74) hE 83 rfl dX12_laysFrom_74 ?_
            exact z_sub [0, 1] rfl (hj26 ((-1 : Int32)))
        refine z_if_ne (pc := 30) hE 43 rfl dX12_laysFrom_30 ?_ ?_
        · refine z_aload_n (pc := 43) hE 0 0 rfl rfl dX12_laysFrom_43 ?_
          refine z_getr (pc := 44) hE fk_RX12_104 lM_0 rfl dX12_laysFrom_44 ?_
          refine z_iload (pc := 47) hE 1 rfl dX12_laysFrom_47 ?_
          refine z_iald (pc := 49) hE lM_32 dX12_laysFrom_49 (fun x27 => ?_)
          exact z_sub [0, 1] rfl (hj21 x27)
        · refine z_aload_n (pc := 33) hE 0 0 rfl rfl dX12_laysFrom_33 ?_
          refine z_getr (pc := 34) hE fk_RX12_101 lM_0 rfl dX12_laysFrom_34 ?_
          refine z_iload (pc := 37) hE 1 rfl dX12_laysFrom_37 ?_
          refine z_iald (pc := 39) hE lM_31 dX12_laysFrom_39 (fun x28 => ?_)
          refine z_goto (pc := 40) hE 50 rfl dX12_laysFrom_40 ?_
          exact z_sub [0, 1] rfl (hj21 x28)
    · refine z_aload_n (pc := 93) hE 0 0 rfl rfl dX12_laysFrom_93 ?_
      refine z_dup (pc := 94) hE dX12_laysFrom_94 rfl ?_
      refine z_geti (pc := 95) hE fk_RX12_476 lM_0 rfl dX12_laysFrom_95 (fun x29 => ?_)
      refine z_iconst (pc := 98) hE dX12_laysFrom_98 qM_iconst_1 ?_
      refine z_iadd (pc := 99) hE dX12_laysFrom_99 ?_
      refine z_puti (pc := 100) hE fk_RX12_476 lM_0 rfl dX12_laysFrom_100 ?_
      exact z_return (pc := 103) hE hr dX12_laysFrom_103
theorem c_X12_laysFrom_g : ∀ (n d : Nat), 2 + n ≤ d → (∀ (l : Launch) (ad : Nat → Nat) (ca : FieldType → ClassId) (D : va_G) (sa sv : Nat → Nat) (a1 : Int32) (a2 : Int32) (a3 : Int32), zC l yX12_laysFrom cX12_laysFrom 5 none d layM ad ca D (xtM ad sa sv) [.ref (ad 0), .int a1, .int a2, .int a3] zvn ((p_X12_laysFrom_g n) (a1, a2, a3)))
  | 0, d, h => fun _ _ _ _ _ _ _ _ _ S r S2 h => (by cases h)
  | n + 1, d, h => by
    have hG := c_X12_laysFrom_g n (d - 1) (by omega)
    exact fun l ad ca D sa sv a1 a2 a3 => c_X12_laysFrom_s _ d (by omega) hG a1 a2 a3
theorem c_X12_laysFrom {l : Launch} {ad : Nat → Nat} {ca : FieldType → ClassId} {D : va_G} {sa sv : Nat → Nat} (a1 : Int32) (a2 : Int32) (a3 : Int32) : zC l yX12_laysFrom cX12_laysFrom 5 none 102 layM ad ca D (xtM ad sa sv) [.ref (ad 0), .int a1, .int a2, .int a3] zvn (p_X12_laysFrom a1 a2 a3) := (c_X12_laysFrom_g zDP 102 (Nat.le_of_eq (by rw [zDP_eq]))) _ _ _ _ _ _ a1 a2 a3
set_option maxRecDepth 100000 in
set_option maxHeartbeats 4000000 in
theorem c_X12_laysWays {l : Launch} {ad : Nat → Nat} {ca : FieldType → ClassId} {D : va_G} {sa sv : Nat → Nat}  : zC l yX12_laysWays cX12_laysWays 1 none 103 layM ad ca D (xtM ad sa sv) [.ref (ad 0)] zvn (p_X12_laysWays) := by
  refine z_enter (by decide) (Nat.le_of_ble_eq_true rfl) (fun E hE hl0 hcD hr => ?_)
  have hE : zok layM ad (xtM ad sa sv) E cX12_laysWays 1 RX12 103 := hE
  show Z layM ad E 1 (zFin layM ad E zvn) 0 [(0, .ref (ad 0))] [] (p_X12_laysWays)
  unfold p_X12_laysWays
  refine z_aload_n (pc := 0) hE 0 0 rfl rfl dX12_laysWays_0 ?_
  refine z_iconst (pc := 1) hE dX12_laysWays_1 qM_iconst_0 ?_
  refine z_puti (pc := 2) hE fk_RX12_476 lM_0 rfl dX12_laysWays_2 ?_
  refine z_aload_n (pc := 5) hE 0 0 rfl rfl dX12_laysWays_5 ?_
  refine z_aload_n (pc := 6) hE 0 0 rfl rfl dX12_laysWays_6 ?_
  refine z_callVi (pc := 7) (st := [.ref (ad 0)]) [] hE kk_RX12_486 (c_X12_markedRings) lM_0 rfl rfl rfl (Nat.le_of_ble_eq_true rfl) (by decide) dX12_laysWays_7 (fun x1 => ?_)
  refine z_puti (pc := 10) hE fk_RX12_479 lM_0 rfl dX12_laysWays_10 ?_
  refine z_aload_n (pc := 13) hE 0 0 rfl rfl dX12_laysWays_13 ?_
  refine z_aload_n (pc := 14) hE 0 0 rfl rfl dX12_laysWays_14 ?_
  refine z_geti (pc := 15) hE fk_RX12_479 lM_0 rfl dX12_laysWays_15 (fun x2 => ?_)
  refine z_iconst (pc := 18) hE dX12_laysWays_18 qM_iconst_0 ?_
  refine z_iconst (pc := 19) hE dX12_laysWays_19 qM_iconst_0 ?_
  refine z_callVv (pc := 20) (st := []) [.int x2, .int ((0 : Int32)), .int ((0 : Int32))] hE kk_RX12_482 (c_X12_laysFrom x2 ((0 : Int32)) ((0 : Int32))) lM_0 rfl rfl rfl (Nat.le_of_ble_eq_true rfl) (by decide) dX12_laysWays_20 (fun x3 => ?_)
  exact z_return (pc := 23) hE hr dX12_laysWays_23
set_option maxRecDepth 100000 in
set_option maxHeartbeats 4000000 in
theorem c_X12_tellsLain {l : Launch} {ad : Nat → Nat} {ca : FieldType → ClassId} {D : va_G} {sa sv : Nat → Nat} (a1 : Int32) : zC l yX12_tellsLain cX12_tellsLain 3 none 1 layM ad ca D (xtM ad sa sv) [.ref (ad 0), .int a1] zvn (p_X12_tellsLain a1) := by
  refine z_enter (by decide) (Nat.le_of_ble_eq_true rfl) (fun E hE hl0 hcD hr => ?_)
  have hE : zok layM ad (xtM ad sa sv) E cX12_tellsLain 3 RX12 1 := hE
  show Z layM ad E 3 (zFin layM ad E zvn) 0 [(0, .ref (ad 0)), (1, .int a1)] [] (p_X12_tellsLain a1)
  unfold p_X12_tellsLain
  refine z_aload_n (pc := 0) hE 0 0 rfl rfl dX12_tellsLain_0 ?_
  refine z_iconst (pc := 1) hE dX12_tellsLain_1 qM_iconst_0 ?_
  refine z_puti (pc := 2) hE fk_RX12_125 lM_0 rfl dX12_tellsLain_2 ?_
  refine z_iconst (pc := 5) hE dX12_tellsLain_5 qM_iconst_0 ?_
  refine z_istore_n (L' := [(2, .int ((0 : Int32))), (0, .ref (ad 0)), (1, .int a1)]) (pc := 6) hE 2 rfl (by decide) rfl dX12_tellsLain_6 ?_
  refine z_sub (L' := [(0, .ref (ad 0)), (1, .int a1), (2, .int ((0 : Int32)))]) [1, 2, 0] rfl ?_
  refine z_loop (V := Int32) (X := Unit) (hd := 7) (ex := 47) (Lh := fun v1 => [(0, .ref (ad 0)), (1, .int a1), (2, .int v1)]) (Lx := fun e4 => []) (fun rc3 k2 hrc3 hk2 v1 => ?_) zNF ((0 : Int32)) _ (fun e4 => ?_)
  · unfold p_X12_tellsLain_b7
    refine z_iload_n (pc := 7) hE 2 2 rfl rfl dX12_tellsLain_7 ?_
    refine z_aload_n (pc := 8) hE 0 0 rfl rfl dX12_tellsLain_8 ?_
    refine z_geti (pc := 9) hE fk_RX12_128 lM_0 rfl dX12_tellsLain_9 (fun x5 => ?_)
    refine z_icmp_ge (pc := 12) hE 47 rfl dX12_tellsLain_12 ?_ ?_
    · exact z_sub [] rfl (hk2 ())
    · refine z_iload_n (pc := 15) hE 1 1 rfl rfl dX12_tellsLain_15 ?_
      refine z_iload_n (pc := 16) hE 2 2 rfl rfl dX12_tellsLain_16 ?_
      refine z_callSi (pc := 17) (st := []) [.int a1, .int v1] hE kk_RX12_415 (c_X12_has a1 v1) rfl rfl (Nat.le_of_ble_eq_true rfl) (by decide) dX12_tellsLain_17 (fun x6 => ?_)
      refine z_join (Y := Unit) (pcJ := 41) (Lj := fun y7 => [(0, .ref (ad 0)), (1, .int a1), (2, .int v1)]) (sj := fun y7 => []) (fun y7 => ?_) (fun j8 hj8 => ?_)
      · refine z_iinc (L' := [(2, .int (v1 + (1 : Int32))), (0, .ref (ad 0)), (1, .int a1)]) (pc := 41) hE 2 rfl (zinc qM_iconst_1) (by decide) rfl dX12_tellsLain_41 ?_
        refine z_goto (pc := 44) hE 7 rfl dX12_tellsLain_44 ?_
        exact z_sub [1, 2, 0] rfl (hrc3 (v1 + (1 : Int32)))
      refine z_if_eq (pc := 20) hE 41 rfl dX12_tellsLain_20 ?_ ?_
      · exact z_sub [0, 1, 2] rfl (hj8 ())
      · refine z_aload_n (pc := 23) hE 0 0 rfl rfl dX12_tellsLain_23 ?_
        refine z_geti (pc := 24) hE fk_RX12_476 lM_0 rfl dX12_tellsLain_24 (fun x9 => ?_)
        refine z_if_le (pc := 27) hE 41 rfl dX12_tellsLain_27 ?_ ?_
        · exact z_sub [0, 1, 2] rfl (hj8 ())
        · refine z_aload_n (pc := 30) hE 0 0 rfl rfl dX12_tellsLain_30 ?_
          refine z_aload_n (pc := 31) hE 0 0 rfl rfl dX12_tellsLain_31 ?_
          refine z_getr (pc := 32) hE fk_RX12_104 lM_0 rfl dX12_tellsLain_32 ?_
          refine z_iload_n (pc := 35) hE 2 2 rfl rfl dX12_tellsLain_35 ?_
          refine z_iald (pc := 36) hE lM_32 dX12_tellsLain_36 (fun x10 => ?_)
          refine z_i2l (pc := 37) hE dX12_tellsLain_37 ?_
          refine z_callVv (pc := 38) (st := []) [.long x10.toInt64] hE kk_RX12_384 (c_X12_enters x10.toInt64) lM_0 rfl rfl rfl (Nat.le_of_ble_eq_true rfl) (by decide) dX12_tellsLain_38 (fun x11 => ?_)
          exact z_sub [0, 1, 2] rfl (hj8 ())
  · exact z_return (pc := 47) hE hr dX12_tellsLain_47
set_option maxRecDepth 100000 in
set_option maxHeartbeats 4000000 in
theorem c_X12_ways {l : Launch} {ad : Nat → Nat} {ca : FieldType → ClassId} {D : va_G} {sa sv : Nat → Nat}  : zC l yX12_ways cX12_ways 1 (some .int) 104 layM ad ca D (xtM ad sa sv) [.ref (ad 0)] zvi (p_X12_ways) := by
  refine z_enter (by decide) (Nat.le_of_ble_eq_true rfl) (fun E hE hl0 hcD hr => ?_)
  have hE : zok layM ad (xtM ad sa sv) E cX12_ways 1 RX12 104 := hE
  show Z layM ad E 1 (zFin layM ad E zvi) 0 [(0, .ref (ad 0))] [] (p_X12_ways)
  unfold p_X12_ways
  refine z_aload_n (pc := 0) hE 0 0 rfl rfl dX12_ways_0 ?_
  refine z_iconst (pc := 1) hE dX12_ways_1 qM_iconst_0 ?_
  refine z_puti (pc := 2) hE fk_RX12_117 lM_0 rfl dX12_ways_2 ?_
  refine z_aload_n (pc := 5) hE 0 0 rfl rfl dX12_ways_5 ?_
  refine z_callVv (pc := 6) (st := []) [] hE kk_RX12_489 (c_X12_laysWays) lM_0 rfl rfl rfl (Nat.le_of_ble_eq_true rfl) (by decide) dX12_ways_6 (fun x1 => ?_)
  refine z_aload_n (pc := 9) hE 0 0 rfl rfl dX12_ways_9 ?_
  refine z_aload_n (pc := 10) hE 0 0 rfl rfl dX12_ways_10 ?_
  refine z_callVi (pc := 11) (st := [.ref (ad 0)]) [] hE kk_RX12_486 (c_X12_markedRings) lM_0 rfl rfl rfl (Nat.le_of_ble_eq_true rfl) (by decide) dX12_ways_11 (fun x2 => ?_)
  refine z_callVv (pc := 14) (st := []) [.int x2] hE kk_RX12_492 (c_X12_tellsLain x2) lM_0 rfl rfl rfl (Nat.le_of_ble_eq_true rfl) (by decide) dX12_ways_14 (fun x3 => ?_)
  refine z_aload_n (pc := 17) hE 0 0 rfl rfl dX12_ways_17 ?_
  refine z_geti (pc := 18) hE fk_RX12_476 lM_0 rfl dX12_ways_18 (fun x4 => ?_)
  exact z_ireturn (pc := 21) hE hr dX12_ways_21
set_option maxRecDepth 100000 in
set_option maxHeartbeats 4000000 in
theorem c_X12_sure {l : Launch} {ad : Nat → Nat} {ca : FieldType → ClassId} {D : va_G} {sa sv : Nat → Nat}  : zC l yX12_sure cX12_sure 1 (some .int) 104 layM ad ca D (xtM ad sa sv) [.ref (ad 0)] zvi (p_X12_sure) := by
  refine z_enter (by decide) (Nat.le_of_ble_eq_true rfl) (fun E hE hl0 hcD hr => ?_)
  have hE : zok layM ad (xtM ad sa sv) E cX12_sure 1 RX12 104 := hE
  show Z layM ad E 1 (zFin layM ad E zvi) 0 [(0, .ref (ad 0))] [] (p_X12_sure)
  unfold p_X12_sure
  refine z_aload_n (pc := 0) hE 0 0 rfl rfl dX12_sure_0 ?_
  refine z_iconst (pc := 1) hE dX12_sure_1 qM_iconst_0 ?_
  refine z_puti (pc := 2) hE fk_RX12_117 lM_0 rfl dX12_sure_2 ?_
  refine z_aload_n (pc := 5) hE 0 0 rfl rfl dX12_sure_5 ?_
  refine z_callVv (pc := 6) (st := []) [] hE kk_RX12_489 (c_X12_laysWays) lM_0 rfl rfl rfl (Nat.le_of_ble_eq_true rfl) (by decide) dX12_sure_6 (fun x1 => ?_)
  refine z_aload_n (pc := 9) hE 0 0 rfl rfl dX12_sure_9 ?_
  refine z_aload_n (pc := 10) hE 0 0 rfl rfl dX12_sure_10 ?_
  refine z_geti (pc := 11) hE fk_RX12_479 lM_0 rfl dX12_sure_11 (fun x2 => ?_)
  refine z_callVv (pc := 14) (st := []) [.int x2] hE kk_RX12_492 (c_X12_tellsLain x2) lM_0 rfl rfl rfl (Nat.le_of_ble_eq_true rfl) (by decide) dX12_sure_14 (fun x3 => ?_)
  refine z_aload_n (pc := 17) hE 0 0 rfl rfl dX12_sure_17 ?_
  refine z_geti (pc := 18) hE fk_RX12_476 lM_0 rfl dX12_sure_18 (fun x4 => ?_)
  refine z_if_le (pc := 21) hE 31 rfl dX12_sure_21 ?_ ?_
  · refine z_iconst (pc := 31) hE dX12_sure_31 qM_iconst_0 ?_
    exact z_ireturn (pc := 32) hE hr dX12_sure_32
  · refine z_aload_n (pc := 24) hE 0 0 rfl rfl dX12_sure_24 ?_
    refine z_geti (pc := 25) hE fk_RX12_479 lM_0 rfl dX12_sure_25 (fun x5 => ?_)
    refine z_goto (pc := 28) hE 32 rfl dX12_sure_28 ?_
    exact z_ireturn (pc := 32) hE hr dX12_sure_32
set_option maxRecDepth 100000 in
set_option maxHeartbeats 4000000 in
theorem c_X12_bets {l : Launch} {ad : Nat → Nat} {ca : FieldType → ClassId} {D : va_G} {sa sv : Nat → Nat} (a1 : Int32) (a2 : Int32) (a3 : Int32) (a4 : Int32) : zC l yX12_bets cX12_bets 11 none 5 layM ad ca D (xtM ad sa sv) [.ref (ad 0), .int a1, .int a2, .int a3, .int a4] zvn (p_X12_bets a1 a2 a3 a4) := by
  refine z_enter (by decide) (Nat.le_of_ble_eq_true rfl) (fun E hE hl0 hcD hr => ?_)
  have hE : zok layM ad (xtM ad sa sv) E cX12_bets 11 RX12 5 := hE
  show Z layM ad E 11 (zFin layM ad E zvn) 0 [(0, .ref (ad 0)), (1, .int a1), (2, .int a2), (3, .int a3), (4, .int a4)] [] (p_X12_bets a1 a2 a3 a4)
  unfold p_X12_bets
  refine z_aload_n (pc := 0) hE 0 0 rfl rfl dX12_bets_0 ?_
  refine z_lconst (v := (0 : Int64)) (pc := 1) hE dX12_bets_1 (by decide) ?_
  refine z_putl (pc := 2) hE fk_RX12_495 lM_0 rfl dX12_bets_2 ?_
  refine z_aload_n (pc := 5) hE 0 0 rfl rfl dX12_bets_5 ?_
  refine z_lconst (v := (1 : Int64)) (pc := 6) hE dX12_bets_6 (by decide) ?_
  refine z_putl (pc := 7) hE fk_RX12_499 lM_0 rfl dX12_bets_7 ?_
  refine z_iconst (pc := 10) hE dX12_bets_10 qM_iconst_0 ?_
  refine z_istore (L' := [(5, .int ((0 : Int32))), (0, .ref (ad 0)), (1, .int a1), (2, .int a2), (3, .int a3), (4, .int a4)]) (pc := 11) hE (by decide) rfl dX12_bets_11 ?_
  refine z_sub (L' := [(0, .ref (ad 0)), (1, .int a1), (2, .int a2), (3, .int a3), (4, .int a4), (5, .int ((0 : Int32)))]) [1, 2, 3, 4, 5, 0] rfl ?_
  refine z_loop (V := Int32) (X := Unit) (hd := 13) (ex := 37) (Lh := fun v1 => [(0, .ref (ad 0)), (1, .int a1), (2, .int a2), (3, .int a3), (4, .int a4), (5, .int v1)]) (Lx := fun e4 => [(0, .ref (ad 0)), (1, .int a1), (2, .int a2), (3, .int a3), (4, .int a4)]) (fun rc3 k2 hrc3 hk2 v1 => ?_) zNF ((0 : Int32)) _ (fun e4 => ?_)
  · unfold p_X12_bets_b13
    refine z_iload (pc := 13) hE 5 rfl dX12_bets_13 ?_
    refine z_iload_n (pc := 15) hE 2 2 rfl rfl dX12_bets_15 ?_
    refine z_icmp_ge (pc := 16) hE 37 rfl dX12_bets_16 ?_ ?_
    · exact z_sub [0, 1, 2, 3, 4] rfl (hk2 ())
    · refine z_aload_n (pc := 19) hE 0 0 rfl rfl dX12_bets_19 ?_
      refine z_dup (pc := 20) hE dX12_bets_20 rfl ?_
      refine z_getl (pc := 21) hE fk_RX12_499 lM_0 rfl dX12_bets_21 (fun x5 => ?_)
      refine z_ldc2 (pc := 24) hE wM_10 dX12_bets_24 ?_
      refine z_lmul (pc := 27) hE dX12_bets_27 ?_
      refine z_putl (pc := 28) hE fk_RX12_499 lM_0 rfl dX12_bets_28 ?_
      refine z_iinc (L' := [(5, .int (v1 + (1 : Int32))), (0, .ref (ad 0)), (1, .int a1), (2, .int a2), (3, .int a3), (4, .int a4)]) (pc := 31) hE 5 rfl (zinc qM_iconst_1) (by decide) rfl dX12_bets_31 ?_
      refine z_goto (pc := 34) hE 13 rfl dX12_bets_34 ?_
      exact z_sub [1, 2, 3, 4, 5, 0] rfl (hrc3 (v1 + (1 : Int32)))
  · refine z_iconst (pc := 37) hE dX12_bets_37 qM_iconst_0 ?_
    refine z_istore (L' := [(5, .int ((0 : Int32))), (0, .ref (ad 0)), (1, .int a1), (2, .int a2), (3, .int a3), (4, .int a4)]) (pc := 38) hE (by decide) rfl dX12_bets_38 ?_
    refine z_sub (L' := [(0, .ref (ad 0)), (1, .int a1), (2, .int a2), (3, .int a3), (4, .int a4), (5, .int ((0 : Int32)))]) [1, 2, 3, 4, 5, 0] rfl ?_
    refine z_loop (V := Int32) (X := Unit) (hd := 40) (ex := 216) (Lh := fun v6 => [(0, .ref (ad 0)), (1, .int a1), (2, .int a2), (3, .int a3), (4, .int a4), (5, .int v6)]) (Lx := fun e9 => []) (fun rc8 k7 hrc8 hk7 v6 => ?_) zNF ((0 : Int32)) _ (fun e9 => ?_)
    · unfold p_X12_bets_b40
      refine z_iload (pc := 40) hE 5 rfl dX12_bets_40 ?_
      refine z_iconst (pc := 42) hE dX12_bets_42 qM_iconst_1 ?_
      refine z_iload_n (pc := 43) hE 2 2 rfl rfl dX12_bets_43 ?_
      refine z_ishl (pc := 44) hE dX12_bets_44 ?_
      refine z_icmp_ge (pc := 45) hE 216 rfl dX12_bets_45 ?_ ?_
      · exact z_sub [] rfl (hk7 ())
      · refine z_iconst (pc := 48) hE dX12_bets_48 qM_iconst_0 ?_
        refine z_istore (L' := [(6, .int ((0 : Int32))), (0, .ref (ad 0)), (1, .int a1), (2, .int a2), (3, .int a3), (4, .int a4), (5, .int v6)]) (pc := 49) hE (by decide) rfl dX12_bets_49 ?_
        refine z_sub (L' := [(0, .ref (ad 0)), (1, .int a1), (2, .int a2), (3, .int a3), (4, .int a4), (5, .int v6), (6, .int ((0 : Int32)))]) [1, 2, 3, 4, 5, 6, 0] rfl ?_
        refine z_loop (V := Int32) (X := Unit) (hd := 51) (ex := 78) (Lh := fun v10 => [(0, .ref (ad 0)), (1, .int a1), (2, .int a2), (3, .int a3), (4, .int a4), (5, .int v6), (6, .int v10)]) (Lx := fun e13 => [(0, .ref (ad 0)), (1, .int a1), (2, .int a2), (3, .int a3), (4, .int a4), (5, .int v6)]) (fun rc12 k11 hrc12 hk11 v10 => ?_) zNF ((0 : Int32)) _ (fun e13 => ?_)
        · unfold p_X12_bets_b51
          refine z_iload (pc := 51) hE 6 rfl dX12_bets_51 ?_
          refine z_bipush (pc := 53) hE dX12_bets_53 qM_bipush_43 ?_
          refine z_icmp_ge (pc := 55) hE 78 rfl dX12_bets_55 ?_ ?_
          · exact z_sub [0, 1, 2, 3, 4, 5] rfl (hk11 ())
          · refine z_aload_n (pc := 58) hE 0 0 rfl rfl dX12_bets_58 ?_
            refine z_getr (pc := 59) hE fk_RX12_80 lM_0 rfl dX12_bets_59 ?_
            refine z_iload (pc := 62) hE 6 rfl dX12_bets_62 ?_
            refine z_aload_n (pc := 64) hE 0 0 rfl rfl dX12_bets_64 ?_
            refine z_getr (pc := 65) hE fk_RX12_32 lM_0 rfl dX12_bets_65 ?_
            refine z_iload (pc := 68) hE 6 rfl dX12_bets_68 ?_
            refine z_iald (pc := 70) hE lM_8 dX12_bets_70 (fun x14 => ?_)
            refine z_iast (pc := 71) hE lM_24 dX12_bets_71 ?_
            refine z_iinc (L' := [(6, .int (v10 + (1 : Int32))), (0, .ref (ad 0)), (1, .int a1), (2, .int a2), (3, .int a3), (4, .int a4), (5, .int v6)]) (pc := 72) hE 6 rfl (zinc qM_iconst_1) (by decide) rfl dX12_bets_72 ?_
            refine z_goto (pc := 75) hE 51 rfl dX12_bets_75 ?_
            exact z_sub [1, 2, 3, 4, 5, 6, 0] rfl (hrc12 (v10 + (1 : Int32)))
        · refine z_lconst (v := (1 : Int64)) (pc := 78) hE dX12_bets_78 (by decide) ?_
          refine z_lstore (L' := [(6, .long ((1 : Int64))), (0, .ref (ad 0)), (1, .int a1), (2, .int a2), (3, .int a3), (4, .int a4), (5, .int v6)]) (pc := 79) hE (by decide) rfl dX12_bets_79 ?_
          refine z_iconst (pc := 81) hE dX12_bets_81 qM_iconst_0 ?_
          refine z_istore (L' := [(8, .int ((0 : Int32))), (6, .long ((1 : Int64))), (0, .ref (ad 0)), (1, .int a1), (2, .int a2), (3, .int a3), (4, .int a4), (5, .int v6)]) (pc := 82) hE (by decide) rfl dX12_bets_82 ?_
          refine z_sub (L' := [(0, .ref (ad 0)), (1, .int a1), (2, .int a2), (3, .int a3), (4, .int a4), (5, .int v6), (6, .long ((1 : Int64))), (8, .int ((0 : Int32)))]) [2, 3, 4, 5, 6, 7, 1, 0] rfl ?_
          refine z_loop (V := (Int64 × Int32)) (X := Int64) (hd := 84) (ex := 182) (Lh := fun v15 => [(0, .ref (ad 0)), (1, .int a1), (2, .int a2), (3, .int a3), (4, .int a4), (5, .int v6), (6, .long v15.1), (8, .int v15.2)]) (Lx := fun e18 => [(0, .ref (ad 0)), (1, .int a1), (2, .int a2), (3, .int a3), (4, .int a4), (5, .int v6), (6, .long e18)]) (fun rc17 k16 hrc17 hk16 v15 => ?_) zNF ((1 : Int64), (0 : Int32)) _ (fun e18 => ?_)
          · unfold p_X12_bets_b84
            refine z_iload (pc := 84) hE 7 rfl dX12_bets_84 ?_
            refine z_iload_n (pc := 86) hE 2 2 rfl rfl dX12_bets_86 ?_
            refine z_icmp_ge (pc := 87) hE 182 rfl dX12_bets_87 ?_ ?_
            · exact z_sub [0, 1, 2, 3, 4, 5, 6] rfl (hk16 v15.1)
            · refine z_iload (pc := 90) hE 5 rfl dX12_bets_90 ?_
              refine z_iload (pc := 92) hE 7 rfl dX12_bets_92 ?_
              refine z_callSi (pc := 94) (st := []) [.int v6, .int v15.2] hE kk_RX12_415 (c_X12_has v6 v15.2) rfl rfl (Nat.le_of_ble_eq_true rfl) (by decide) dX12_bets_94 (fun x19 => ?_)
              refine z_istore (L' := [(9, .int x19), (0, .ref (ad 0)), (1, .int a1), (2, .int a2), (3, .int a3), (4, .int a4), (5, .int v6), (6, .long v15.1), (8, .int v15.2)]) (pc := 97) hE (by decide) rfl dX12_bets_97 ?_
              refine z_lload (pc := 99) hE 7 rfl dX12_bets_99 ?_
              refine z_iload (pc := 101) hE 0 rfl dX12_bets_101 ?_
              refine z_join (Y := Int64) (pcJ := 116) (Lj := fun y20 => [(0, .ref (ad 0)), (1, .int a1), (2, .int a2), (3, .int a3), (4, .int a4), (5, .int v6), (8, .int v15.2), (9, .int x19)]) (sj := fun y20 => [.long y20, .long v15.1]) (fun y20 => ?_) (fun j21 hj21 => ?_)
              · refine z_lmul (pc := 116) hE dX12_bets_116 ?_
                refine z_lstore (L' := [(6, .long (v15.1 * y20)), (0, .ref (ad 0)), (1, .int a1), (2, .int a2), (3, .int a3), (4, .int a4), (5, .int v6), (8, .int v15.2), (9, .int x19)]) (pc := 117) hE (by decide) rfl dX12_bets_117 ?_
                refine z_iload (pc := 119) hE 8 rfl dX12_bets_119 ?_
                refine z_join (Y := Int32) (pcJ := 150) (Lj := fun y22 => [(0, .ref (ad 0)), (1, .int a1), (2, .int a2), (3, .int a3), (4, .int a4), (5, .int v6), (6, .long (v15.1 * y20)), (8, .int v15.2)]) (sj := fun y22 => [.int y22]) (fun y22 => ?_) (fun j23 hj23 => ?_)
                · refine z_istore (L' := [(10, .int y22), (0, .ref (ad 0)), (1, .int a1), (2, .int a2), (3, .int a3), (4, .int a4), (5, .int v6), (6, .long (v15.1 * y20)), (8, .int v15.2)]) (pc := 150) hE (by decide) rfl dX12_bets_150 ?_
                  refine z_iload (pc := 152) hE 0 rfl dX12_bets_152 ?_
                  refine z_join (Y := Int64) (pcJ := 163) (Lj := fun y24 => [(0, .ref (ad 0)), (1, .int a1), (2, .int a2), (3, .int a3), (4, .int a4), (5, .int v6), (8, .int v15.2)]) (sj := fun y24 => [.long y24]) (fun y24 => ?_) (fun j25 hj25 => ?_)
                  · refine z_lstore (L' := [(6, .long y24), (0, .ref (ad 0)), (1, .int a1), (2, .int a2), (3, .int a3), (4, .int a4), (5, .int v6), (8, .int v15.2)]) (pc := 163) hE (by decide) rfl dX12_bets_163 ?_
                    refine z_aload_n (pc := 165) hE 1 0 rfl rfl dX12_bets_165 ?_
                    refine z_getr (pc := 166) hE fk_RX12_80 lM_0 rfl dX12_bets_166 ?_
                    refine z_bipush (pc := 169) hE dX12_bets_169 qM_bipush_42 ?_
                    refine z_dup2 (pc := 171) hE dX12_bets_171 rfl rfl ?_
                    refine z_iald (pc := 172) hE lM_24 dX12_bets_172 (fun x26 => ?_)
                    refine z_iconst (pc := 173) hE dX12_bets_173 qM_iconst_1 ?_
                    refine z_iadd (pc := 174) hE dX12_bets_174 ?_
                    refine z_iast (pc := 175) hE lM_24 dX12_bets_175 ?_
                    refine z_iinc (L' := [(8, .int (v15.2 + (1 : Int32))), (6, .long y24), (0, .ref (ad 0)), (1, .int a1), (2, .int a2), (3, .int a3), (4, .int a4), (5, .int v6)]) (pc := 176) hE 7 rfl (zinc qM_iconst_1) (by decide) rfl dX12_bets_176 ?_
                    refine z_goto (pc := 179) hE 84 rfl dX12_bets_179 ?_
                    exact z_sub [2, 3, 4, 5, 6, 7, 1, 0] rfl (hrc17 (y24, v15.2 + (1 : Int32)))
                  refine z_if_eq (pc := 154) hE 162 rfl dX12_bets_154 ?_ ?_
                  · refine z_lconst (v := (0 : Int64)) (pc := 162) hE dX12_bets_162 (by decide) ?_
                    exact z_sub [1, 2, 3, 4, 5, 6, 8] rfl (hj25 ((0 : Int64)))
                  · refine z_lload (pc := 157) hE 7 rfl dX12_bets_157 ?_
                    refine z_goto (pc := 159) hE 163 rfl dX12_bets_159 ?_
                    exact z_sub [1, 2, 3, 4, 5, 6, 8] rfl (hj25 (v15.1 * y20))
                refine z_join (Y := Unit) (pcJ := 145) (Lj := fun y27 => [(0, .ref (ad 0)), (1, .int a1), (2, .int a2), (3, .int a3), (4, .int a4), (5, .int v6), (6, .long (v15.1 * y20)), (8, .int v15.2)]) (sj := fun y27 => []) (fun y27 => ?_) (fun j28 hj28 => ?_)
                · refine z_iconst (pc := 145) hE dX12_bets_145 qM_iconst_1 ?_
                  refine z_goto (pc := 146) hE 150 rfl dX12_bets_146 ?_
                  exact z_sub [0, 1, 2, 3, 4, 5, 6, 7] rfl (hj23 ((1 : Int32)))
                refine z_if_eq (pc := 121) hE 145 rfl dX12_bets_121 ?_ ?_
                · exact z_sub [1, 2, 3, 4, 5, 6, 0, 7] rfl (hj28 ())
                · refine z_aload_n (pc := 124) hE 1 0 rfl rfl dX12_bets_124 ?_
                  refine z_aload_n (pc := 125) hE 1 0 rfl rfl dX12_bets_125 ?_
                  refine z_getr (pc := 126) hE fk_RX12_80 lM_0 rfl dX12_bets_126 ?_
                  refine z_iload_n (pc := 129) hE 2 1 rfl rfl dX12_bets_129 ?_
                  refine z_aload_n (pc := 130) hE 1 0 rfl rfl dX12_bets_130 ?_
                  refine z_aload_n (pc := 131) hE 1 0 rfl rfl dX12_bets_131 ?_
                  refine z_getr (pc := 132) hE fk_RX12_80 lM_0 rfl dX12_bets_132 ?_
                  refine z_iload_n (pc := 135) hE 2 1 rfl rfl dX12_bets_135 ?_
                  refine z_callVi (pc := 136) (st := [.int a1, .ref (ad 24), .ref (ad 0)]) [.ref (ad 24), .int a1] hE kk_RX12_290 (c_X12_highOf 24 lM_24 a1) lM_0 rfl rfl rfl (Nat.le_of_ble_eq_true rfl) (by decide) dX12_bets_136 (fun x29 => ?_)
                  refine z_callVi (pc := 139) (st := []) [.ref (ad 24), .int a1, .int x29] hE kk_RX12_343 (c_X12_blows 24 lM_24 a1 x29) lM_0 rfl rfl rfl (Nat.le_of_ble_eq_true rfl) (by decide) dX12_bets_139 (fun x30 => ?_)
                  refine z_if_eq (pc := 142) hE 149 rfl dX12_bets_142 ?_ ?_
                  · refine z_iconst (pc := 149) hE dX12_bets_149 qM_iconst_0 ?_
                    exact z_sub [1, 2, 3, 4, 5, 6, 0, 7] rfl (hj23 ((0 : Int32)))
                  · exact z_sub [1, 2, 3, 4, 5, 6, 0, 7] rfl (hj28 ())
              refine z_if_eq (pc := 103) hE 111 rfl dX12_bets_103 ?_ ?_
              · refine z_bipush (pc := 111) hE dX12_bets_111 qM_bipush_10 ?_
                refine z_iload_n (pc := 113) hE 4 3 rfl rfl dX12_bets_113 ?_
                refine z_isub (pc := 114) hE dX12_bets_114 ?_
                refine z_i2l (pc := 115) hE dX12_bets_115 ?_
                exact z_sub [1, 2, 3, 4, 5, 6, 8, 0] rfl (hj21 ((((10 : Int32)) - a3).toInt64))
              · refine z_iload_n (pc := 106) hE 4 3 rfl rfl dX12_bets_106 ?_
                refine z_i2l (pc := 107) hE dX12_bets_107 ?_
                refine z_goto (pc := 108) hE 116 rfl dX12_bets_108 ?_
                exact z_sub [1, 2, 3, 4, 5, 6, 8, 0] rfl (hj21 a3.toInt64)
          · refine z_aload_n (pc := 182) hE 0 0 rfl rfl dX12_bets_182 ?_
            refine z_dup (pc := 183) hE dX12_bets_183 rfl ?_
            refine z_getl (pc := 184) hE fk_RX12_495 lM_0 rfl dX12_bets_184 (fun x31 => ?_)
            refine z_aload_n (pc := 187) hE 0 0 rfl rfl dX12_bets_187 ?_
            refine z_getr (pc := 188) hE fk_RX12_80 lM_0 rfl dX12_bets_188 ?_
            refine z_iload_n (pc := 191) hE 1 1 rfl rfl dX12_bets_191 ?_
            refine z_callSi (pc := 192) (st := [.long x31, .ref (ad 0)]) [.ref (ad 24), .int a1] hE kk_RX12_311 (c_X12_apart 24 lM_24 a1) rfl rfl (Nat.le_of_ble_eq_true rfl) (by decide) dX12_bets_192 (fun x32 => ?_)
            refine z_iload (pc := 195) hE 4 rfl dX12_bets_195 ?_
            refine z_join (Y := Int64) (pcJ := 206) (Lj := fun y33 => [(0, .ref (ad 0)), (1, .int a1), (2, .int a2), (3, .int a3), (4, .int a4), (5, .int v6)]) (sj := fun y33 => [.long y33, .long x31, .ref (ad 0)]) (fun y33 => ?_) (fun j34 hj34 => ?_)
            · refine z_ladd (pc := 206) hE dX12_bets_206 ?_
              refine z_putl (pc := 207) hE fk_RX12_495 lM_0 rfl dX12_bets_207 ?_
              refine z_iinc (L' := [(5, .int (v6 + (1 : Int32))), (0, .ref (ad 0)), (1, .int a1), (2, .int a2), (3, .int a3), (4, .int a4)]) (pc := 210) hE 5 rfl (zinc qM_iconst_1) (by decide) rfl dX12_bets_210 ?_
              refine z_goto (pc := 213) hE 40 rfl dX12_bets_213 ?_
              exact z_sub [1, 2, 3, 4, 5, 0] rfl (hrc8 (v6 + (1 : Int32)))
            refine z_icmp_gt (pc := 197) hE 205 rfl dX12_bets_197 ?_ ?_
            · refine z_lconst (v := (0 : Int64)) (pc := 205) hE dX12_bets_205 (by decide) ?_
              exact z_sub [0, 1, 2, 3, 4, 5] rfl (hj34 ((0 : Int64)))
            · refine z_lload (pc := 200) hE 6 rfl dX12_bets_200 ?_
              refine z_goto (pc := 202) hE 206 rfl dX12_bets_202 ?_
              exact z_sub [0, 1, 2, 3, 4, 5] rfl (hj34 e18)
    · exact z_return (pc := 216) hE hr dX12_bets_216
set_option maxRecDepth 100000 in
set_option maxHeartbeats 4000000 in
theorem c_X12_tellsChance {l : Launch} {ad : Nat → Nat} {ca : FieldType → ClassId} {D : va_G} {sa sv : Nat → Nat}  : zC l yX12_tellsChance cX12_tellsChance 3 none 101 layM ad ca D (xtM ad sa sv) [.ref (ad 0)] zvn (p_X12_tellsChance) := by
  refine z_enter (by decide) (Nat.le_of_ble_eq_true rfl) (fun E hE hl0 hcD hr => ?_)
  have hE : zok layM ad (xtM ad sa sv) E cX12_tellsChance 3 RX12 101 := hE
  show Z layM ad E 3 (zFin layM ad E zvn) 0 [(0, .ref (ad 0))] [] (p_X12_tellsChance)
  unfold p_X12_tellsChance
  refine z_aload_n (pc := 0) hE 0 0 rfl rfl dX12_tellsChance_0 ?_
  refine z_getl (pc := 1) hE fk_RX12_495 lM_0 rfl dX12_tellsChance_1 (fun x1 => ?_)
  refine z_aload_n (pc := 4) hE 0 0 rfl rfl dX12_tellsChance_4 ?_
  refine z_getl (pc := 5) hE fk_RX12_499 lM_0 rfl dX12_tellsChance_5 (fun x2 => ?_)
  refine z_callSl (pc := 8) (st := []) [.long x1, .long x2] hE kk_RX12_121 (c_X12_common x1 x2) rfl rfl (Nat.le_of_ble_eq_true rfl) (by decide) dX12_tellsChance_8 (fun x3 => ?_)
  refine z_lstore_n (L' := [(1, .long x3), (0, .ref (ad 0))]) (pc := 11) hE 1 rfl (by decide) rfl dX12_tellsChance_11 ?_
  refine z_aload_n (pc := 12) hE 1 0 rfl rfl dX12_tellsChance_12 ?_
  refine z_iconst (pc := 13) hE dX12_tellsChance_13 qM_iconst_0 ?_
  refine z_puti (pc := 14) hE fk_RX12_125 lM_0 rfl dX12_tellsChance_14 ?_
  refine z_aload_n (pc := 17) hE 1 0 rfl rfl dX12_tellsChance_17 ?_
  refine z_aload_n (pc := 18) hE 1 0 rfl rfl dX12_tellsChance_18 ?_
  refine z_getl (pc := 19) hE fk_RX12_495 lM_0 rfl dX12_tellsChance_19 (fun x4 => ?_)
  refine z_lload_n (pc := 22) hE 0 1 rfl rfl dX12_tellsChance_22 ?_
  refine z_ldiv (pc := 23) hE dX12_tellsChance_23 ?_
  refine z_callVv (pc := 24) (st := []) [.long (x4 / x3)] hE kk_RX12_384 (c_X12_enters (x4 / x3)) lM_0 rfl rfl rfl (Nat.le_of_ble_eq_true rfl) (by decide) dX12_tellsChance_24 (fun x5 => ?_)
  refine z_aload_n (pc := 27) hE 1 0 rfl rfl dX12_tellsChance_27 ?_
  refine z_aload_n (pc := 28) hE 1 0 rfl rfl dX12_tellsChance_28 ?_
  refine z_getl (pc := 29) hE fk_RX12_499 lM_0 rfl dX12_tellsChance_29 (fun x6 => ?_)
  refine z_lload_n (pc := 32) hE 0 1 rfl rfl dX12_tellsChance_32 ?_
  refine z_ldiv (pc := 33) hE dX12_tellsChance_33 ?_
  refine z_callVv (pc := 34) (st := []) [.long (x6 / x3)] hE kk_RX12_384 (c_X12_enters (x6 / x3)) lM_0 rfl rfl rfl (Nat.le_of_ble_eq_true rfl) (by decide) dX12_tellsChance_34 (fun x7 => ?_)
  exact z_return (pc := 37) hE hr dX12_tellsChance_37
set_option maxRecDepth 100000 in
set_option maxHeartbeats 4000000 in
theorem c_X12_chance {l : Launch} {ad : Nat → Nat} {ca : FieldType → ClassId} {D : va_G} {sa sv : Nat → Nat} (a1 : Int32) (a2 : Int32) (a3 : Int32) (a4 : Int32) : zC l yX12_chance cX12_chance 5 (some .int) 102 layM ad ca D (xtM ad sa sv) [.ref (ad 0), .int a1, .int a2, .int a3, .int a4] zvi (p_X12_chance a1 a2 a3 a4) := by
  refine z_enter (by decide) (Nat.le_of_ble_eq_true rfl) (fun E hE hl0 hcD hr => ?_)
  have hE : zok layM ad (xtM ad sa sv) E cX12_chance 5 RX12 102 := hE
  show Z layM ad E 5 (zFin layM ad E zvi) 0 [(0, .ref (ad 0)), (1, .int a1), (2, .int a2), (3, .int a3), (4, .int a4)] [] (p_X12_chance a1 a2 a3 a4)
  unfold p_X12_chance
  refine z_aload_n (pc := 0) hE 0 0 rfl rfl dX12_chance_0 ?_
  refine z_iconst (pc := 1) hE dX12_chance_1 qM_iconst_0 ?_
  refine z_puti (pc := 2) hE fk_RX12_117 lM_0 rfl dX12_chance_2 ?_
  refine z_aload_n (pc := 5) hE 0 0 rfl rfl dX12_chance_5 ?_
  refine z_iload_n (pc := 6) hE 1 1 rfl rfl dX12_chance_6 ?_
  refine z_callVi (pc := 7) (st := []) [.int a1] hE kk_RX12_282 (c_X12_isBalloon a1) lM_0 rfl rfl rfl (Nat.le_of_ble_eq_true rfl) (by decide) dX12_chance_7 (fun x1 => ?_)
  refine z_if_eq (pc := 10) hE 50 rfl dX12_chance_10 ?_ ?_
  · refine z_iconst (pc := 50) hE dX12_chance_50 qM_iconst_m1 ?_
    exact z_ireturn (pc := 51) hE hr dX12_chance_51
  · refine z_iload_n (pc := 13) hE 2 2 rfl rfl dX12_chance_13 ?_
    refine z_i2l (pc := 14) hE dX12_chance_14 ?_
    refine z_lconst (v := (1 : Int64)) (pc := 15) hE dX12_chance_15 (by decide) ?_
    refine z_ldc2 (pc := 16) hE wM_11 dX12_chance_16 ?_
    refine z_callSi (pc := 19) (st := []) [.long a2.toInt64, .long ((1 : Int64)), .long ((8 : Int64))] hE kk_RX12_131 (c_X12_in a2.toInt64 ((1 : Int64)) ((8 : Int64))) rfl rfl (Nat.le_of_ble_eq_true rfl) (by decide) dX12_chance_19 (fun x2 => ?_)
    refine z_if_eq (pc := 22) hE 50 rfl dX12_chance_22 ?_ ?_
    · refine z_iconst (pc := 50) hE dX12_chance_50 qM_iconst_m1 ?_
      exact z_ireturn (pc := 51) hE hr dX12_chance_51
    · refine z_iload_n (pc := 25) hE 3 3 rfl rfl dX12_chance_25 ?_
      refine z_i2l (pc := 26) hE dX12_chance_26 ?_
      refine z_lconst (v := (0 : Int64)) (pc := 27) hE dX12_chance_27 (by decide) ?_
      refine z_ldc2 (pc := 28) hE wM_10 dX12_chance_28 ?_
      refine z_callSi (pc := 31) (st := []) [.long a3.toInt64, .long ((0 : Int64)), .long ((10 : Int64))] hE kk_RX12_131 (c_X12_in a3.toInt64 ((0 : Int64)) ((10 : Int64))) rfl rfl (Nat.le_of_ble_eq_true rfl) (by decide) dX12_chance_31 (fun x3 => ?_)
      refine z_if_eq (pc := 34) hE 50 rfl dX12_chance_34 ?_ ?_
      · refine z_iconst (pc := 50) hE dX12_chance_50 qM_iconst_m1 ?_
        exact z_ireturn (pc := 51) hE hr dX12_chance_51
      · refine z_iload (pc := 37) hE 4 rfl dX12_chance_37 ?_
        refine z_i2l (pc := 39) hE dX12_chance_39 ?_
        refine z_lconst (v := (0 : Int64)) (pc := 40) hE dX12_chance_40 (by decide) ?_
        refine z_ldc2 (pc := 41) hE wM_12 dX12_chance_41 ?_
        refine z_callSi (pc := 44) (st := []) [.long a4.toInt64, .long ((0 : Int64)), .long ((18 : Int64))] hE kk_RX12_131 (c_X12_in a4.toInt64 ((0 : Int64)) ((18 : Int64))) rfl rfl (Nat.le_of_ble_eq_true rfl) (by decide) dX12_chance_44 (fun x4 => ?_)
        refine z_if_ne (pc := 47) hE 52 rfl dX12_chance_47 ?_ ?_
        · refine z_aload_n (pc := 52) hE 0 0 rfl rfl dX12_chance_52 ?_
          refine z_iload_n (pc := 53) hE 1 1 rfl rfl dX12_chance_53 ?_
          refine z_callVi (pc := 54) (st := []) [.int a1] hE kk_RX12_268 (c_X12_how a1) lM_0 rfl rfl rfl (Nat.le_of_ble_eq_true rfl) (by decide) dX12_chance_54 (fun x5 => ?_)
          refine z_iconst (pc := 57) hE dX12_chance_57 qM_iconst_1 ?_
          refine z_icmp_eq (pc := 58) hE 64 rfl dX12_chance_58 ?_ ?_
          · refine z_aload_n (pc := 64) hE 0 0 rfl rfl dX12_chance_64 ?_
            refine z_iload_n (pc := 65) hE 1 1 rfl rfl dX12_chance_65 ?_
            refine z_iload_n (pc := 66) hE 2 2 rfl rfl dX12_chance_66 ?_
            refine z_iload_n (pc := 67) hE 3 3 rfl rfl dX12_chance_67 ?_
            refine z_iload (pc := 68) hE 4 rfl dX12_chance_68 ?_
            refine z_callVv (pc := 70) (st := []) [.int a1, .int a2, .int a3, .int a4] hE kk_RX12_508 (c_X12_bets a1 a2 a3 a4) lM_0 rfl rfl rfl (Nat.le_of_ble_eq_true rfl) (by decide) dX12_chance_70 (fun x6 => ?_)
            refine z_aload_n (pc := 73) hE 0 0 rfl rfl dX12_chance_73 ?_
            refine z_callVv (pc := 74) (st := []) [] hE kk_RX12_512 (c_X12_tellsChance) lM_0 rfl rfl rfl (Nat.le_of_ble_eq_true rfl) (by decide) dX12_chance_74 (fun x7 => ?_)
            refine z_iconst (pc := 77) hE dX12_chance_77 qM_iconst_0 ?_
            exact z_ireturn (pc := 78) hE hr dX12_chance_78
          · refine z_bipush (pc := 61) hE dX12_chance_61 qM_bipush_m2 ?_
            exact z_ireturn (pc := 63) hE hr dX12_chance_63
        · refine z_iconst (pc := 50) hE dX12_chance_50 qM_iconst_m1 ?_
          exact z_ireturn (pc := 51) hE hr dX12_chance_51
set_option maxRecDepth 100000 in
set_option maxHeartbeats 4000000 in
theorem c_X12_when {l : Launch} {ad : Nat → Nat} {ca : FieldType → ClassId} {D : va_G} {sa sv : Nat → Nat} (a1 : Int32) (a2 : Int32) : zC l yX12_when cX12_when 9 (some .int) 102 layM ad ca D (xtM ad sa sv) [.ref (ad 0), .int a1, .int a2] zvi (p_X12_when a1 a2) := by
  refine z_enter (by decide) (Nat.le_of_ble_eq_true rfl) (fun E hE hl0 hcD hr => ?_)
  have hE : zok layM ad (xtM ad sa sv) E cX12_when 9 RX12 102 := hE
  show Z layM ad E 9 (zFin layM ad E zvi) 0 [(0, .ref (ad 0)), (1, .int a1), (2, .int a2)] [] (p_X12_when a1 a2)
  unfold p_X12_when
  refine z_aload_n (pc := 0) hE 0 0 rfl rfl dX12_when_0 ?_
  refine z_iconst (pc := 1) hE dX12_when_1 qM_iconst_0 ?_
  refine z_puti (pc := 2) hE fk_RX12_117 lM_0 rfl dX12_when_2 ?_
  refine z_aload_n (pc := 5) hE 0 0 rfl rfl dX12_when_5 ?_
  refine z_iload_n (pc := 6) hE 1 1 rfl rfl dX12_when_6 ?_
  refine z_callVi (pc := 7) (st := []) [.int a1] hE kk_RX12_282 (c_X12_isBalloon a1) lM_0 rfl rfl rfl (Nat.le_of_ble_eq_true rfl) (by decide) dX12_when_7 (fun x1 => ?_)
  refine z_if_eq (pc := 10) hE 25 rfl dX12_when_10 ?_ ?_
  · refine z_iconst (pc := 25) hE dX12_when_25 qM_iconst_m1 ?_
    exact z_ireturn (pc := 26) hE hr dX12_when_26
  · refine z_iload_n (pc := 13) hE 2 2 rfl rfl dX12_when_13 ?_
    refine z_i2l (pc := 14) hE dX12_when_14 ?_
    refine z_lconst (v := (0 : Int64)) (pc := 15) hE dX12_when_15 (by decide) ?_
    refine z_ldc2 (pc := 16) hE wM_10 dX12_when_16 ?_
    refine z_callSi (pc := 19) (st := []) [.long a2.toInt64, .long ((0 : Int64)), .long ((10 : Int64))] hE kk_RX12_131 (c_X12_in a2.toInt64 ((0 : Int64)) ((10 : Int64))) rfl rfl (Nat.le_of_ble_eq_true rfl) (by decide) dX12_when_19 (fun x2 => ?_)
    refine z_if_ne (pc := 22) hE 27 rfl dX12_when_22 ?_ ?_
    · refine z_aload_n (pc := 27) hE 0 0 rfl rfl dX12_when_27 ?_
      refine z_iload_n (pc := 28) hE 1 1 rfl rfl dX12_when_28 ?_
      refine z_callVi (pc := 29) (st := []) [.int a1] hE kk_RX12_268 (c_X12_how a1) lM_0 rfl rfl rfl (Nat.le_of_ble_eq_true rfl) (by decide) dX12_when_29 (fun x3 => ?_)
      refine z_iconst (pc := 32) hE dX12_when_32 qM_iconst_1 ?_
      refine z_icmp_eq (pc := 33) hE 39 rfl dX12_when_33 ?_ ?_
      · refine z_iconst (pc := 39) hE dX12_when_39 qM_iconst_m1 ?_
        refine z_istore_n (L' := [(3, .int ((-1 : Int32))), (0, .ref (ad 0)), (1, .int a1), (2, .int a2)]) (pc := 40) hE 3 rfl (by decide) rfl dX12_when_40 ?_
        refine z_lconst (v := (0 : Int64)) (pc := 41) hE dX12_when_41 (by decide) ?_
        refine z_lstore (L' := [(4, .long ((0 : Int64))), (3, .int ((-1 : Int32))), (0, .ref (ad 0)), (1, .int a1), (2, .int a2)]) (pc := 42) hE (by decide) rfl dX12_when_42 ?_
        refine z_lconst (v := (1 : Int64)) (pc := 44) hE dX12_when_44 (by decide) ?_
        refine z_lstore (L' := [(6, .long ((1 : Int64))), (4, .long ((0 : Int64))), (3, .int ((-1 : Int32))), (0, .ref (ad 0)), (1, .int a1), (2, .int a2)]) (pc := 45) hE (by decide) rfl dX12_when_45 ?_
        refine z_iconst (pc := 47) hE dX12_when_47 qM_iconst_1 ?_
        refine z_istore (L' := [(8, .int ((1 : Int32))), (6, .long ((1 : Int64))), (4, .long ((0 : Int64))), (3, .int ((-1 : Int32))), (0, .ref (ad 0)), (1, .int a1), (2, .int a2)]) (pc := 48) hE (by decide) rfl dX12_when_48 ?_
        refine z_sub (L' := [(0, .ref (ad 0)), (1, .int a1), (2, .int a2), (3, .int ((-1 : Int32))), (4, .long ((0 : Int64))), (6, .long ((1 : Int64))), (8, .int ((1 : Int32)))]) [4, 5, 6, 3, 2, 1, 0] rfl ?_
        refine z_loop (V := (Int32 × Int64 × Int64 × Int32)) (X := (Int32 × Int64 × Int64)) (hd := 50) (ex := 114) (Lh := fun v4 => [(0, .ref (ad 0)), (1, .int a1), (2, .int a2), (3, .int v4.1), (4, .long v4.2.1), (6, .long v4.2.2.1), (8, .int v4.2.2.2)]) (Lx := fun e7 => [(0, .ref (ad 0)), (3, .int e7.1), (4, .long e7.2.1), (6, .long e7.2.2)]) (fun rc6 k5 hrc6 hk5 v4 => ?_) zNF ((-1 : Int32), (0 : Int64), (1 : Int64), (1 : Int32)) _ (fun e7 => ?_)
        · unfold p_X12_when_b50
          refine z_iload (pc := 50) hE 6 rfl dX12_when_50 ?_
          refine z_bipush (pc := 52) hE dX12_when_52 qM_bipush_8 ?_
          refine z_icmp_gt (pc := 54) hE 114 rfl dX12_when_54 ?_ ?_
          · exact z_sub [0, 3, 4, 5] rfl (hk5 (v4.1, v4.2.1, v4.2.2.1))
          · refine z_aload_n (pc := 57) hE 0 0 rfl rfl dX12_when_57 ?_
            refine z_iload_n (pc := 58) hE 1 1 rfl rfl dX12_when_58 ?_
            refine z_iload (pc := 59) hE 6 rfl dX12_when_59 ?_
            refine z_iload_n (pc := 61) hE 2 2 rfl rfl dX12_when_61 ?_
            refine z_aload_n (pc := 62) hE 0 0 rfl rfl dX12_when_62 ?_
            refine z_getr (pc := 63) hE fk_RX12_20 lM_0 rfl dX12_when_63 ?_
            refine z_iload_n (pc := 66) hE 1 1 rfl rfl dX12_when_66 ?_
            refine z_iald (pc := 67) hE lM_4 dX12_when_67 (fun x8 => ?_)
            refine z_callVv (pc := 68) (st := []) [.int a1, .int v4.2.2.2, .int a2, .int x8] hE kk_RX12_508 (c_X12_bets a1 v4.2.2.2 a2 x8) lM_0 rfl rfl rfl (Nat.le_of_ble_eq_true rfl) (by decide) dX12_when_68 (fun x9 => ?_)
            refine z_iload_n (pc := 71) hE 3 3 rfl rfl dX12_when_71 ?_
            refine z_join (Y := (Int32 × Int64 × Int64)) (pcJ := 108) (Lj := fun y10 => [(0, .ref (ad 0)), (1, .int a1), (2, .int a2), (3, .int y10.1), (4, .long y10.2.1), (6, .long y10.2.2), (8, .int v4.2.2.2)]) (sj := fun y10 => []) (fun y10 => ?_) (fun j11 hj11 => ?_)
            · refine z_iinc (L' := [(8, .int (v4.2.2.2 + (1 : Int32))), (0, .ref (ad 0)), (1, .int a1), (2, .int a2), (3, .int y10.1), (4, .long y10.2.1), (6, .long y10.2.2)]) (pc := 108) hE 6 rfl (zinc qM_iconst_1) (by decide) rfl dX12_when_108 ?_
              refine z_goto (pc := 111) hE 50 rfl dX12_when_111 ?_
              exact z_sub [1, 2, 3, 4, 5, 6, 0] rfl (hrc6 (y10.1, y10.2.1, y10.2.2, v4.2.2.2 + (1 : Int32)))
            refine z_join (Y := Unit) (pcJ := 93) (Lj := fun y12 => [(0, .ref (ad 0)), (1, .int a1), (2, .int a2), (8, .int v4.2.2.2)]) (sj := fun y12 => []) (fun y12 => ?_) (fun j13 hj13 => ?_)
            · refine z_iload (pc := 93) hE 3 rfl dX12_when_93 ?_
              refine z_istore_n (L' := [(3, .int v4.2.2.2), (0, .ref (ad 0)), (1, .int a1), (2, .int a2), (8, .int v4.2.2.2)]) (pc := 95) hE 3 rfl (by decide) rfl dX12_when_95 ?_
              refine z_aload_n (pc := 96) hE 1 0 rfl rfl dX12_when_96 ?_
              refine z_getl (pc := 97) hE fk_RX12_495 lM_0 rfl dX12_when_97 (fun x14 => ?_)
              refine z_lstore (L' := [(4, .long x14), (3, .int v4.2.2.2), (0, .ref (ad 0)), (1, .int a1), (2, .int a2), (8, .int v4.2.2.2)]) (pc := 100) hE (by decide) rfl dX12_when_100 ?_
              refine z_aload_n (pc := 102) hE 2 0 rfl rfl dX12_when_102 ?_
              refine z_getl (pc := 103) hE fk_RX12_499 lM_0 rfl dX12_when_103 (fun x15 => ?_)
              refine z_lstore (L' := [(6, .long x15), (4, .long x14), (3, .int v4.2.2.2), (0, .ref (ad 0)), (1, .int a1), (2, .int a2), (8, .int v4.2.2.2)]) (pc := 106) hE (by decide) rfl dX12_when_106 ?_
              exact z_sub [3, 4, 5, 2, 1, 0, 6] rfl (hj11 (v4.2.2.2, x14, x15))
            refine z_if_lt (pc := 72) hE 93 rfl dX12_when_72 ?_ ?_
            · exact z_sub [0, 1, 2, 6] rfl (hj13 ())
            · refine z_aload_n (pc := 75) hE 0 0 rfl rfl dX12_when_75 ?_
              refine z_getl (pc := 76) hE fk_RX12_495 lM_0 rfl dX12_when_76 (fun x16 => ?_)
              refine z_lload (pc := 79) hE 5 rfl dX12_when_79 ?_
              refine z_lmul (pc := 81) hE dX12_when_81 ?_
              refine z_lload (pc := 82) hE 4 rfl dX12_when_82 ?_
              refine z_aload_n (pc := 84) hE 0 0 rfl rfl dX12_when_84 ?_
              refine z_getl (pc := 85) hE fk_RX12_499 lM_0 rfl dX12_when_85 (fun x17 => ?_)
              refine z_lmul (pc := 88) hE dX12_when_88 ?_
              refine z_lcmp (pc := 89) hE dX12_when_89 ?_
              refine z_if_le (pc := 90) hE 108 rfl dX12_when_90 ?_ ?_
              · exact z_sub [0, 1, 2, 3, 4, 5, 6] rfl (hj11 (v4.1, v4.2.1, v4.2.2.1))
              · exact z_sub [0, 1, 2, 6] rfl (hj13 ())
        · refine z_aload_n (pc := 114) hE 0 0 rfl rfl dX12_when_114 ?_
          refine z_lload (pc := 115) hE 2 rfl dX12_when_115 ?_
          refine z_putl (pc := 117) hE fk_RX12_495 lM_0 rfl dX12_when_117 ?_
          refine z_aload_n (pc := 120) hE 0 0 rfl rfl dX12_when_120 ?_
          refine z_lload (pc := 121) hE 3 rfl dX12_when_121 ?_
          refine z_putl (pc := 123) hE fk_RX12_499 lM_0 rfl dX12_when_123 ?_
          refine z_aload_n (pc := 126) hE 0 0 rfl rfl dX12_when_126 ?_
          refine z_callVv (pc := 127) (st := []) [] hE kk_RX12_512 (c_X12_tellsChance) lM_0 rfl rfl rfl (Nat.le_of_ble_eq_true rfl) (by decide) dX12_when_127 (fun x18 => ?_)
          refine z_iload_n (pc := 130) hE 1 3 rfl rfl dX12_when_130 ?_
          exact z_ireturn (pc := 131) hE hr dX12_when_131
      · refine z_bipush (pc := 36) hE dX12_when_36 qM_bipush_m2 ?_
        exact z_ireturn (pc := 38) hE hr dX12_when_38
    · refine z_iconst (pc := 25) hE dX12_when_25 qM_iconst_m1 ?_
      exact z_ireturn (pc := 26) hE hr dX12_when_26
set_option maxRecDepth 100000 in
set_option maxHeartbeats 4000000 in
theorem c_X12_season {l : Launch} {ad : Nat → Nat} {ca : FieldType → ClassId} {D : va_G} {sa sv : Nat → Nat} (a1 : Int32) (a2 : Int32) : zC l yX12_season cX12_season 7 (some .int) 6 layM ad ca D (xtM ad sa sv) [.ref (ad 0), .int a1, .int a2] zvi (p_X12_season a1 a2) := by
  refine z_enter (by decide) (Nat.le_of_ble_eq_true rfl) (fun E hE hl0 hcD hr => ?_)
  have hE : zok layM ad (xtM ad sa sv) E cX12_season 7 RX12 6 := hE
  show Z layM ad E 7 (zFin layM ad E zvi) 0 [(0, .ref (ad 0)), (1, .int a1), (2, .int a2)] [] (p_X12_season a1 a2)
  unfold p_X12_season
  refine z_aload_n (pc := 0) hE 0 0 rfl rfl dX12_season_0 ?_
  refine z_iconst (pc := 1) hE dX12_season_1 qM_iconst_0 ?_
  refine z_puti (pc := 2) hE fk_RX12_117 lM_0 rfl dX12_season_2 ?_
  refine z_iload_n (pc := 5) hE 2 2 rfl rfl dX12_season_5 ?_
  refine z_i2l (pc := 6) hE dX12_season_6 ?_
  refine z_lconst (v := (1 : Int64)) (pc := 7) hE dX12_season_7 (by decide) ?_
  refine z_ldc2 (pc := 8) hE wM_7 dX12_season_8 ?_
  refine z_callSi (pc := 11) (st := []) [.long a2.toInt64, .long ((1 : Int64)), .long ((60 : Int64))] hE kk_RX12_131 (c_X12_in a2.toInt64 ((1 : Int64)) ((60 : Int64))) rfl rfl (Nat.le_of_ble_eq_true rfl) (by decide) dX12_season_11 (fun x1 => ?_)
  refine z_if_eq (pc := 14) hE 24 rfl dX12_season_14 ?_ ?_
  · refine z_iconst (pc := 24) hE dX12_season_24 qM_iconst_m1 ?_
    exact z_ireturn (pc := 25) hE hr dX12_season_25
  · refine z_aload_n (pc := 17) hE 0 0 rfl rfl dX12_season_17 ?_
    refine z_geti (pc := 18) hE fk_RX12_135 lM_0 rfl dX12_season_18 (fun x2 => ?_)
    refine z_if_ne (pc := 21) hE 26 rfl dX12_season_21 ?_ ?_
    · refine z_aload_n (pc := 26) hE 0 0 rfl rfl dX12_season_26 ?_
      refine z_geti (pc := 27) hE fk_RX12_255 lM_0 rfl dX12_season_27 (fun x3 => ?_)
      refine z_istore_n (L' := [(3, .int x3), (0, .ref (ad 0)), (1, .int a1), (2, .int a2)]) (pc := 30) hE 3 rfl (by decide) rfl dX12_season_30 ?_
      refine z_iload_n (pc := 31) hE 2 1 rfl rfl dX12_season_31 ?_
      refine z_istore (L' := [(4, .int a1), (3, .int x3), (0, .ref (ad 0)), (1, .int a1), (2, .int a2)]) (pc := 32) hE (by decide) rfl dX12_season_32 ?_
      refine z_aload_n (pc := 34) hE 2 0 rfl rfl dX12_season_34 ?_
      refine z_callVv (pc := 35) (st := []) [] hE kk_RX12_405 (c_X12_puts) lM_0 rfl rfl rfl (Nat.le_of_ble_eq_true rfl) (by decide) dX12_season_35 (fun x4 => ?_)
      refine z_aload_n (pc := 38) hE 2 0 rfl rfl dX12_season_38 ?_
      refine z_callVv (pc := 39) (st := []) [] hE kk_RX12_377 (c_X12_startsCounting) lM_0 rfl rfl rfl (Nat.le_of_ble_eq_true rfl) (by decide) dX12_season_39 (fun x5 => ?_)
      refine z_iconst (pc := 42) hE dX12_season_42 qM_iconst_0 ?_
      refine z_istore (L' := [(5, .int ((0 : Int32))), (4, .int a1), (3, .int x3), (0, .ref (ad 0)), (1, .int a1), (2, .int a2)]) (pc := 43) hE (by decide) rfl dX12_season_43 ?_
      refine z_sub (L' := [(0, .ref (ad 0)), (2, .int a2), (3, .int x3), (4, .int a1), (5, .int ((0 : Int32)))]) [3, 5, 2, 1, 0] rfl ?_
      refine z_loop (V := (Int32 × Int32)) (X := Unit) (hd := 45) (ex := 137) (Lh := fun v6 => [(0, .ref (ad 0)), (2, .int a2), (3, .int x3), (4, .int v6.1), (5, .int v6.2)]) (Lx := fun e9 => [(0, .ref (ad 0)), (3, .int x3)]) (fun rc8 k7 hrc8 hk7 v6 => ?_) zNF (a1, (0 : Int32)) _ (fun e9 => ?_)
      · unfold p_X12_season_b45
        refine z_iload (pc := 45) hE 4 rfl dX12_season_45 ?_
        refine z_iload_n (pc := 47) hE 1 2 rfl rfl dX12_season_47 ?_
        refine z_icmp_ge (pc := 48) hE 137 rfl dX12_season_48 ?_ ?_
        · exact z_sub [0, 2] rfl (hk7 ())
        · refine z_iload (pc := 51) hE 3 rfl dX12_season_51 ?_
          refine z_ldcw (pc := 53) hE wM_13 dX12_season_53 ?_
          refine z_imul (pc := 56) hE dX12_season_56 ?_
          refine z_sipush (pc := 57) hE dX12_season_57 qM_sipush_12345 ?_
          refine z_iadd (pc := 60) hE dX12_season_60 ?_
          refine z_istore (L' := [(4, .int ((v6.1 * ((1103515245 : Int32))) + ((12345 : Int32)))), (0, .ref (ad 0)), (2, .int a2), (3, .int x3), (5, .int v6.2)]) (pc := 61) hE (by decide) rfl dX12_season_61 ?_
          refine z_aload_n (pc := 63) hE 1 0 rfl rfl dX12_season_63 ?_
          refine z_iload (pc := 64) hE 0 rfl dX12_season_64 ?_
          refine z_bipush (pc := 66) hE dX12_season_66 qM_bipush_16 ?_
          refine z_iushr (pc := 68) hE dX12_season_68 ?_
          refine z_bipush (pc := 69) hE dX12_season_69 qM_bipush_10 ?_
          refine z_irem (pc := 71) hE dX12_season_71 ?_
          refine z_puti (pc := 72) hE fk_RX12_255 lM_0 rfl dX12_season_72 ?_
          refine z_iload (pc := 75) hE 0 rfl dX12_season_75 ?_
          refine z_ldcw (pc := 77) hE wM_13 dX12_season_77 ?_
          refine z_imul (pc := 80) hE dX12_season_80 ?_
          refine z_sipush (pc := 81) hE dX12_season_81 qM_sipush_12345 ?_
          refine z_iadd (pc := 84) hE dX12_season_84 ?_
          refine z_istore (L' := [(4, .int ((((v6.1 * ((1103515245 : Int32))) + ((12345 : Int32))) * ((1103515245 : Int32))) + ((12345 : Int32)))), (0, .ref (ad 0)), (2, .int a2), (3, .int x3), (5, .int v6.2)]) (pc := 85) hE (by decide) rfl dX12_season_85 ?_
          refine z_iload (pc := 87) hE 0 rfl dX12_season_87 ?_
          refine z_bipush (pc := 89) hE dX12_season_89 qM_bipush_16 ?_
          refine z_iushr (pc := 91) hE dX12_season_91 ?_
          refine z_aload_n (pc := 92) hE 1 0 rfl rfl dX12_season_92 ?_
          refine z_geti (pc := 93) hE fk_RX12_135 lM_0 rfl dX12_season_93 (fun x10 => ?_)
          refine z_irem (pc := 96) hE dX12_season_96 ?_
          refine z_istore (L' := [(6, .int (((((((v6.1 * ((1103515245 : Int32))) + ((12345 : Int32))) * ((1103515245 : Int32))) + ((12345 : Int32))).toUInt32 >>> (((16 : Int32)).toUInt32 &&& Int32.toUInt32 31)).toInt32) - ((((((v6.1 * ((1103515245 : Int32))) + ((12345 : Int32))) * ((1103515245 : Int32))) + ((12345 : Int32))).toUInt32 >>> (((16 : Int32)).toUInt32 &&& Int32.toUInt32 31)).toInt32) / x10 * x10)), (4, .int ((((v6.1 * ((1103515245 : Int32))) + ((12345 : Int32))) * ((1103515245 : Int32))) + ((12345 : Int32)))), (0, .ref (ad 0)), (2, .int a2), (3, .int x3), (5, .int v6.2)]) (pc := 97) hE (by decide) rfl dX12_season_97 ?_
          refine z_aload_n (pc := 99) hE 2 0 rfl rfl dX12_season_99 ?_
          refine z_aload_n (pc := 100) hE 2 0 rfl rfl dX12_season_100 ?_
          refine z_getr (pc := 101) hE fk_RX12_35 lM_0 rfl dX12_season_101 ?_
          refine z_iload (pc := 104) hE 0 rfl dX12_season_104 ?_
          refine z_callVi (pc := 106) (st := []) [.ref (ad 9), .int (((((((v6.1 * ((1103515245 : Int32))) + ((12345 : Int32))) * ((1103515245 : Int32))) + ((12345 : Int32))).toUInt32 >>> (((16 : Int32)).toUInt32 &&& Int32.toUInt32 31)).toInt32) - ((((((v6.1 * ((1103515245 : Int32))) + ((12345 : Int32))) * ((1103515245 : Int32))) + ((12345 : Int32))).toUInt32 >>> (((16 : Int32)).toUInt32 &&& Int32.toUInt32 31)).toInt32) / x10 * x10)] hE kk_RX12_356 (c_X12_launches 9 lM_9 (((((((v6.1 * ((1103515245 : Int32))) + ((12345 : Int32))) * ((1103515245 : Int32))) + ((12345 : Int32))).toUInt32 >>> (((16 : Int32)).toUInt32 &&& Int32.toUInt32 31)).toInt32) - ((((((v6.1 * ((1103515245 : Int32))) + ((12345 : Int32))) * ((1103515245 : Int32))) + ((12345 : Int32))).toUInt32 >>> (((16 : Int32)).toUInt32 &&& Int32.toUInt32 31)).toInt32) / x10 * x10)) lM_0 rfl rfl rfl (Nat.le_of_ble_eq_true rfl) (by decide) dX12_season_106 (fun x11 => ?_)
          refine z_join (Y := Unit) (pcJ := 123) (Lj := fun y12 => [(0, .ref (ad 0)), (2, .int a2), (3, .int x3), (4, .int ((((v6.1 * ((1103515245 : Int32))) + ((12345 : Int32))) * ((1103515245 : Int32))) + ((12345 : Int32)))), (5, .int v6.2)]) (sj := fun y12 => []) (fun y12 => ?_) (fun j13 hj13 => ?_)
          · refine z_aload_n (pc := 123) hE 0 0 rfl rfl dX12_season_123 ?_
            refine z_aload_n (pc := 124) hE 0 0 rfl rfl dX12_season_124 ?_
            refine z_getr (pc := 125) hE fk_RX12_35 lM_0 rfl dX12_season_125 ?_
            refine z_callVv (pc := 128) (st := []) [.ref (ad 9)] hE kk_RX12_380 (c_X12_hourGoes 9 lM_9) lM_0 rfl rfl rfl (Nat.le_of_ble_eq_true rfl) (by decide) dX12_season_128 (fun x14 => ?_)
            refine z_iinc (L' := [(5, .int (v6.2 + (1 : Int32))), (0, .ref (ad 0)), (2, .int a2), (3, .int x3), (4, .int ((((v6.1 * ((1103515245 : Int32))) + ((12345 : Int32))) * ((1103515245 : Int32))) + ((12345 : Int32))))]) (pc := 131) hE 4 rfl (zinc qM_iconst_1) (by decide) rfl dX12_season_131 ?_
            refine z_goto (pc := 134) hE 45 rfl dX12_season_134 ?_
            exact z_sub [1, 2, 3, 4, 0] rfl (hrc8 ((((v6.1 * ((1103515245 : Int32))) + ((12345 : Int32))) * ((1103515245 : Int32))) + ((12345 : Int32)), v6.2 + (1 : Int32)))
          refine z_if_ge (pc := 109) hE 123 rfl dX12_season_109 ?_ ?_
          · exact z_sub [2, 3, 4, 1, 5] rfl (hj13 ())
          · refine z_aload_n (pc := 112) hE 2 0 rfl rfl dX12_season_112 ?_
            refine z_aload_n (pc := 113) hE 2 0 rfl rfl dX12_season_113 ?_
            refine z_getr (pc := 114) hE fk_RX12_35 lM_0 rfl dX12_season_114 ?_
            refine z_iload (pc := 117) hE 0 rfl dX12_season_117 ?_
            refine z_callVi (pc := 119) (st := []) [.ref (ad 9), .int (((((((v6.1 * ((1103515245 : Int32))) + ((12345 : Int32))) * ((1103515245 : Int32))) + ((12345 : Int32))).toUInt32 >>> (((16 : Int32)).toUInt32 &&& Int32.toUInt32 31)).toInt32) - ((((((v6.1 * ((1103515245 : Int32))) + ((12345 : Int32))) * ((1103515245 : Int32))) + ((12345 : Int32))).toUInt32 >>> (((16 : Int32)).toUInt32 &&& Int32.toUInt32 31)).toInt32) / x10 * x10)] hE kk_RX12_365 (c_X12_casts 9 lM_9 (((((((v6.1 * ((1103515245 : Int32))) + ((12345 : Int32))) * ((1103515245 : Int32))) + ((12345 : Int32))).toUInt32 >>> (((16 : Int32)).toUInt32 &&& Int32.toUInt32 31)).toInt32) - ((((((v6.1 * ((1103515245 : Int32))) + ((12345 : Int32))) * ((1103515245 : Int32))) + ((12345 : Int32))).toUInt32 >>> (((16 : Int32)).toUInt32 &&& Int32.toUInt32 31)).toInt32) / x10 * x10)) lM_0 rfl rfl rfl (Nat.le_of_ble_eq_true rfl) (by decide) dX12_season_119 (fun x15 => ?_)
            refine z_pop (pc := 122) hE dX12_season_122 rfl ?_
            exact z_sub [2, 3, 4, 1, 5] rfl (hj13 ())
      · refine z_aload_n (pc := 137) hE 0 0 rfl rfl dX12_season_137 ?_
        refine z_iload_n (pc := 138) hE 1 3 rfl rfl dX12_season_138 ?_
        refine z_puti (pc := 139) hE fk_RX12_255 lM_0 rfl dX12_season_139 ?_
        refine z_iconst (pc := 142) hE dX12_season_142 qM_iconst_0 ?_
        refine z_istore (L' := [(5, .int ((0 : Int32))), (0, .ref (ad 0)), (3, .int x3)]) (pc := 143) hE (by decide) rfl dX12_season_143 ?_
        refine z_iconst (pc := 145) hE dX12_season_145 qM_iconst_0 ?_
        refine z_istore (L' := [(6, .int ((0 : Int32))), (5, .int ((0 : Int32))), (0, .ref (ad 0)), (3, .int x3)]) (pc := 146) hE (by decide) rfl dX12_season_146 ?_
        refine z_sub (L' := [(0, .ref (ad 0)), (5, .int ((0 : Int32))), (6, .int ((0 : Int32)))]) [2, 1, 0] rfl ?_
        refine z_loop (V := (Int32 × Int32)) (X := Int32) (hd := 148) (ex := 192) (Lh := fun v16 => [(0, .ref (ad 0)), (5, .int v16.1), (6, .int v16.2)]) (Lx := fun e19 => [(0, .ref (ad 0)), (5, .int e19)]) (fun rc18 k17 hrc18 hk17 v16 => ?_) zNF ((0 : Int32), (0 : Int32)) _ (fun e19 => ?_)
        · unfold p_X12_season_b148
          refine z_iload (pc := 148) hE 2 rfl dX12_season_148 ?_
          refine z_aload_n (pc := 150) hE 0 0 rfl rfl dX12_season_150 ?_
          refine z_geti (pc := 151) hE fk_RX12_135 lM_0 rfl dX12_season_151 (fun x20 => ?_)
          refine z_icmp_ge (pc := 154) hE 192 rfl dX12_season_154 ?_ ?_
          · exact z_sub [0, 1] rfl (hk17 v16.1)
          · refine z_iload (pc := 157) hE 1 rfl dX12_season_157 ?_
            refine z_aload_n (pc := 159) hE 0 0 rfl rfl dX12_season_159 ?_
            refine z_getr (pc := 160) hE fk_RX12_35 lM_0 rfl dX12_season_160 ?_
            refine z_bipush (pc := 163) hE dX12_season_163 qM_bipush_7 ?_
            refine z_iload (pc := 165) hE 2 rfl dX12_season_165 ?_
            refine z_imul (pc := 167) hE dX12_season_167 ?_
            refine z_iconst (pc := 168) hE dX12_season_168 qM_iconst_3 ?_
            refine z_iadd (pc := 169) hE dX12_season_169 ?_
            refine z_iald (pc := 170) hE lM_9 dX12_season_170 (fun x21 => ?_)
            refine z_iconst (pc := 171) hE dX12_season_171 qM_iconst_1 ?_
            refine z_join (Y := Int32) (pcJ := 180) (Lj := fun y22 => [(0, .ref (ad 0)), (6, .int v16.2)]) (sj := fun y22 => [.int y22, .int v16.1]) (fun y22 => ?_) (fun j23 hj23 => ?_)
            · refine z_callSi (pc := 180) (st := [.int v16.1]) [.int y22] hE kk_RX12_156 (c_X12_flag y22) rfl rfl (Nat.le_of_ble_eq_true rfl) (by decide) dX12_season_180 (fun x24 => ?_)
              refine z_iadd (pc := 183) hE dX12_season_183 ?_
              refine z_istore (L' := [(5, .int (v16.1 + x24)), (0, .ref (ad 0)), (6, .int v16.2)]) (pc := 184) hE (by decide) rfl dX12_season_184 ?_
              refine z_iinc (L' := [(6, .int (v16.2 + (1 : Int32))), (5, .int (v16.1 + x24)), (0, .ref (ad 0))]) (pc := 186) hE 2 rfl (zinc qM_iconst_1) (by decide) rfl dX12_season_186 ?_
              refine z_goto (pc := 189) hE 148 rfl dX12_season_189 ?_
              exact z_sub [2, 1, 0] rfl (hrc18 (v16.1 + x24, v16.2 + (1 : Int32)))
            refine z_icmp_ne (pc := 172) hE 179 rfl dX12_season_172 ?_ ?_
            · refine z_iconst (pc := 179) hE dX12_season_179 qM_iconst_0 ?_
              exact z_sub [0, 2] rfl (hj23 ((0 : Int32)))
            · refine z_iconst (pc := 175) hE dX12_season_175 qM_iconst_1 ?_
              refine z_goto (pc := 176) hE 180 rfl dX12_season_176 ?_
              exact z_sub [0, 2] rfl (hj23 ((1 : Int32)))
        · refine z_aload_n (pc := 192) hE 0 0 rfl rfl dX12_season_192 ?_
          refine z_iconst (pc := 193) hE dX12_season_193 qM_iconst_0 ?_
          refine z_puti (pc := 194) hE fk_RX12_125 lM_0 rfl dX12_season_194 ?_
          refine z_aload_n (pc := 197) hE 0 0 rfl rfl dX12_season_197 ?_
          refine z_aload_n (pc := 198) hE 0 0 rfl rfl dX12_season_198 ?_
          refine z_geti (pc := 199) hE fk_RX12_326 lM_0 rfl dX12_season_199 (fun x25 => ?_)
          refine z_i2l (pc := 202) hE dX12_season_202 ?_
          refine z_callVv (pc := 203) (st := []) [.long x25.toInt64] hE kk_RX12_384 (c_X12_enters x25.toInt64) lM_0 rfl rfl rfl (Nat.le_of_ble_eq_true rfl) (by decide) dX12_season_203 (fun x26 => ?_)
          refine z_aload_n (pc := 206) hE 0 0 rfl rfl dX12_season_206 ?_
          refine z_iload (pc := 207) hE 1 rfl dX12_season_207 ?_
          refine z_i2l (pc := 209) hE dX12_season_209 ?_
          refine z_callVv (pc := 210) (st := []) [.long e19.toInt64] hE kk_RX12_384 (c_X12_enters e19.toInt64) lM_0 rfl rfl rfl (Nat.le_of_ble_eq_true rfl) (by decide) dX12_season_210 (fun x27 => ?_)
          refine z_aload_n (pc := 213) hE 0 0 rfl rfl dX12_season_213 ?_
          refine z_geti (pc := 214) hE fk_RX12_329 lM_0 rfl dX12_season_214 (fun x28 => ?_)
          exact z_ireturn (pc := 217) hE hr dX12_season_217
    · refine z_iconst (pc := 24) hE dX12_season_24 qM_iconst_m1 ?_
      exact z_ireturn (pc := 25) hE hr dX12_season_25
set_option maxRecDepth 100000 in
set_option maxHeartbeats 4000000 in
theorem c_X12_keep {l : Launch} {ad : Nat → Nat} {ca : FieldType → ClassId} {D : va_G} {sa sv : Nat → Nat} (a1 : Int32) : zC l yX12_keep cX12_keep 3 (some .boolean) 1 layM ad ca D (xtM ad sa sv) [.ref (ad 0), .int a1] zvi (p_X12_keep a1) := by
  refine z_enter (by decide) (Nat.le_of_ble_eq_true rfl) (fun E hE hl0 hcD hr => ?_)
  have hE : zok layM ad (xtM ad sa sv) E cX12_keep 3 RX12 1 := hE
  show Z layM ad E 3 (zFin layM ad E zvi) 0 [(0, .ref (ad 0)), (1, .int a1)] [] (p_X12_keep a1)
  unfold p_X12_keep
  refine z_aload_n (pc := 0) hE 0 0 rfl rfl dX12_keep_0 ?_
  refine z_iconst (pc := 1) hE dX12_keep_1 qM_iconst_0 ?_
  refine z_puti (pc := 2) hE fk_RX12_117 lM_0 rfl dX12_keep_2 ?_
  refine z_iload_n (pc := 5) hE 1 1 rfl rfl dX12_keep_5 ?_
  refine z_i2l (pc := 6) hE dX12_keep_6 ?_
  refine z_lconst (v := (0 : Int64)) (pc := 7) hE dX12_keep_7 (by decide) ?_
  refine z_ldc2 (pc := 8) hE wM_9 dX12_keep_8 ?_
  refine z_callSi (pc := 11) (st := []) [.long a1.toInt64, .long ((0 : Int64)), .long ((2 : Int64))] hE kk_RX12_131 (c_X12_in a1.toInt64 ((0 : Int64)) ((2 : Int64))) rfl rfl (Nat.le_of_ble_eq_true rfl) (by decide) dX12_keep_11 (fun x1 => ?_)
  refine z_if_ne (pc := 14) hE 19 rfl dX12_keep_14 ?_ ?_
  · refine z_aload_n (pc := 19) hE 0 0 rfl rfl dX12_keep_19 ?_
    refine z_getr (pc := 20) hE fk_RX12_107 lM_0 rfl dX12_keep_20 ?_
    refine z_iload_n (pc := 23) hE 1 1 rfl rfl dX12_keep_23 ?_
    refine z_iconst (pc := 24) hE dX12_keep_24 qM_iconst_1 ?_
    refine z_zast (pc := 25) hE lM_33 dX12_keep_25 ?_
    refine z_aload_n (pc := 26) hE 0 0 rfl rfl dX12_keep_26 ?_
    refine z_getr (pc := 27) hE fk_RX12_111 lM_0 rfl dX12_keep_27 ?_
    refine z_iload_n (pc := 30) hE 1 1 rfl rfl dX12_keep_30 ?_
    refine z_aload_n (pc := 31) hE 0 0 rfl rfl dX12_keep_31 ?_
    refine z_geti (pc := 32) hE fk_RX12_214 lM_0 rfl dX12_keep_32 (fun x2 => ?_)
    refine z_iast (pc := 35) hE lM_34 dX12_keep_35 ?_
    refine z_iconst (pc := 36) hE dX12_keep_36 qM_iconst_0 ?_
    refine z_istore_n (L' := [(2, .int ((0 : Int32))), (0, .ref (ad 0)), (1, .int a1)]) (pc := 37) hE 2 rfl (by decide) rfl dX12_keep_37 ?_
    refine z_sub (L' := [(0, .ref (ad 0)), (1, .int a1), (2, .int ((0 : Int32)))]) [1, 2, 0] rfl ?_
    refine z_loop (V := Int32) (X := Unit) (hd := 38) (ex := 67) (Lh := fun v3 => [(0, .ref (ad 0)), (1, .int a1), (2, .int v3)]) (Lx := fun e6 => []) (fun rc5 k4 hrc5 hk4 v3 => ?_) zNF ((0 : Int32)) _ (fun e6 => ?_)
    · unfold p_X12_keep_b38
      refine z_iload_n (pc := 38) hE 2 2 rfl rfl dX12_keep_38 ?_
      refine z_bipush (pc := 39) hE dX12_keep_39 qM_bipush_43 ?_
      refine z_icmp_ge (pc := 41) hE 67 rfl dX12_keep_41 ?_ ?_
      · exact z_sub [] rfl (hk4 ())
      · refine z_aload_n (pc := 44) hE 0 0 rfl rfl dX12_keep_44 ?_
        refine z_getr (pc := 45) hE fk_RX12_114 lM_0 rfl dX12_keep_45 ?_
        refine z_bipush (pc := 48) hE dX12_keep_48 qM_bipush_43 ?_
        refine z_iload_n (pc := 50) hE 1 1 rfl rfl dX12_keep_50 ?_
        refine z_imul (pc := 51) hE dX12_keep_51 ?_
        refine z_iload_n (pc := 52) hE 2 2 rfl rfl dX12_keep_52 ?_
        refine z_iadd (pc := 53) hE dX12_keep_53 ?_
        refine z_aload_n (pc := 54) hE 0 0 rfl rfl dX12_keep_54 ?_
        refine z_getr (pc := 55) hE fk_RX12_32 lM_0 rfl dX12_keep_55 ?_
        refine z_iload_n (pc := 58) hE 2 2 rfl rfl dX12_keep_58 ?_
        refine z_iald (pc := 59) hE lM_8 dX12_keep_59 (fun x7 => ?_)
        refine z_iast (pc := 60) hE lM_35 dX12_keep_60 ?_
        refine z_iinc (L' := [(2, .int (v3 + (1 : Int32))), (0, .ref (ad 0)), (1, .int a1)]) (pc := 61) hE 2 rfl (zinc qM_iconst_1) (by decide) rfl dX12_keep_61 ?_
        refine z_goto (pc := 64) hE 38 rfl dX12_keep_64 ?_
        exact z_sub [1, 2, 0] rfl (hrc5 (v3 + (1 : Int32)))
    · refine z_iconst (pc := 67) hE dX12_keep_67 qM_iconst_1 ?_
      exact z_zreturn (pc := 68) hE hr dX12_keep_68
  · refine z_iconst (pc := 17) hE dX12_keep_17 qM_iconst_0 ?_
    exact z_zreturn (pc := 18) hE hr dX12_keep_18
set_option maxRecDepth 100000 in
set_option maxHeartbeats 4000000 in
theorem c_X12_again {l : Launch} {ad : Nat → Nat} {ca : FieldType → ClassId} {D : va_G} {sa sv : Nat → Nat} (a1 : Int32) : zC l yX12_again cX12_again 3 (some .boolean) 1 layM ad ca D (xtM ad sa sv) [.ref (ad 0), .int a1] zvi (p_X12_again a1) := by
  refine z_enter (by decide) (Nat.le_of_ble_eq_true rfl) (fun E hE hl0 hcD hr => ?_)
  have hE : zok layM ad (xtM ad sa sv) E cX12_again 3 RX12 1 := hE
  show Z layM ad E 3 (zFin layM ad E zvi) 0 [(0, .ref (ad 0)), (1, .int a1)] [] (p_X12_again a1)
  unfold p_X12_again
  refine z_aload_n (pc := 0) hE 0 0 rfl rfl dX12_again_0 ?_
  refine z_iconst (pc := 1) hE dX12_again_1 qM_iconst_0 ?_
  refine z_puti (pc := 2) hE fk_RX12_117 lM_0 rfl dX12_again_2 ?_
  refine z_iload_n (pc := 5) hE 1 1 rfl rfl dX12_again_5 ?_
  refine z_i2l (pc := 6) hE dX12_again_6 ?_
  refine z_lconst (v := (0 : Int64)) (pc := 7) hE dX12_again_7 (by decide) ?_
  refine z_ldc2 (pc := 8) hE wM_9 dX12_again_8 ?_
  refine z_callSi (pc := 11) (st := []) [.long a1.toInt64, .long ((0 : Int64)), .long ((2 : Int64))] hE kk_RX12_131 (c_X12_in a1.toInt64 ((0 : Int64)) ((2 : Int64))) rfl rfl (Nat.le_of_ble_eq_true rfl) (by decide) dX12_again_11 (fun x1 => ?_)
  refine z_if_eq (pc := 14) hE 39 rfl dX12_again_14 ?_ ?_
  · refine z_iconst (pc := 39) hE dX12_again_39 qM_iconst_0 ?_
    exact z_zreturn (pc := 40) hE hr dX12_again_40
  · refine z_aload_n (pc := 17) hE 0 0 rfl rfl dX12_again_17 ?_
    refine z_getr (pc := 18) hE fk_RX12_107 lM_0 rfl dX12_again_18 ?_
    refine z_iload_n (pc := 21) hE 1 1 rfl rfl dX12_again_21 ?_
    refine z_zald (pc := 22) hE lM_33 dX12_again_22 (fun x2 => ?_)
    refine z_if_eq (pc := 23) hE 39 rfl dX12_again_23 ?_ ?_
    · refine z_iconst (pc := 39) hE dX12_again_39 qM_iconst_0 ?_
      exact z_zreturn (pc := 40) hE hr dX12_again_40
    · refine z_aload_n (pc := 26) hE 0 0 rfl rfl dX12_again_26 ?_
      refine z_getr (pc := 27) hE fk_RX12_111 lM_0 rfl dX12_again_27 ?_
      refine z_iload_n (pc := 30) hE 1 1 rfl rfl dX12_again_30 ?_
      refine z_iald (pc := 31) hE lM_34 dX12_again_31 (fun x3 => ?_)
      refine z_aload_n (pc := 32) hE 0 0 rfl rfl dX12_again_32 ?_
      refine z_geti (pc := 33) hE fk_RX12_214 lM_0 rfl dX12_again_33 (fun x4 => ?_)
      refine z_icmp_eq (pc := 36) hE 41 rfl dX12_again_36 ?_ ?_
      · refine z_iconst (pc := 41) hE dX12_again_41 qM_iconst_0 ?_
        refine z_istore_n (L' := [(2, .int ((0 : Int32))), (0, .ref (ad 0)), (1, .int a1)]) (pc := 42) hE 2 rfl (by decide) rfl dX12_again_42 ?_
        refine z_sub (L' := [(0, .ref (ad 0)), (1, .int a1), (2, .int ((0 : Int32)))]) [1, 2, 0] rfl ?_
        refine z_loop (V := Int32) (X := Unit) (hd := 43) (ex := 72) (Lh := fun v5 => [(0, .ref (ad 0)), (1, .int a1), (2, .int v5)]) (Lx := fun e8 => [(0, .ref (ad 0))]) (fun rc7 k6 hrc7 hk6 v5 => ?_) zNF ((0 : Int32)) _ (fun e8 => ?_)
        · unfold p_X12_again_b43
          refine z_iload_n (pc := 43) hE 2 2 rfl rfl dX12_again_43 ?_
          refine z_bipush (pc := 44) hE dX12_again_44 qM_bipush_43 ?_
          refine z_icmp_ge (pc := 46) hE 72 rfl dX12_again_46 ?_ ?_
          · exact z_sub [0] rfl (hk6 ())
          · refine z_aload_n (pc := 49) hE 0 0 rfl rfl dX12_again_49 ?_
            refine z_getr (pc := 50) hE fk_RX12_32 lM_0 rfl dX12_again_50 ?_
            refine z_iload_n (pc := 53) hE 2 2 rfl rfl dX12_again_53 ?_
            refine z_aload_n (pc := 54) hE 0 0 rfl rfl dX12_again_54 ?_
            refine z_getr (pc := 55) hE fk_RX12_114 lM_0 rfl dX12_again_55 ?_
            refine z_bipush (pc := 58) hE dX12_again_58 qM_bipush_43 ?_
            refine z_iload_n (pc := 60) hE 1 1 rfl rfl dX12_again_60 ?_
            refine z_imul (pc := 61) hE dX12_again_61 ?_
            refine z_iload_n (pc := 62) hE 2 2 rfl rfl dX12_again_62 ?_
            refine z_iadd (pc := 63) hE dX12_again_63 ?_
            refine z_iald (pc := 64) hE lM_35 dX12_again_64 (fun x9 => ?_)
            refine z_iast (pc := 65) hE lM_8 dX12_again_65 ?_
            refine z_iinc (L' := [(2, .int (v5 + (1 : Int32))), (0, .ref (ad 0)), (1, .int a1)]) (pc := 66) hE 2 rfl (zinc qM_iconst_1) (by decide) rfl dX12_again_66 ?_
            refine z_goto (pc := 69) hE 43 rfl dX12_again_69 ?_
            exact z_sub [1, 2, 0] rfl (hrc7 (v5 + (1 : Int32)))
        · refine z_aload_n (pc := 72) hE 0 0 rfl rfl dX12_again_72 ?_
          refine z_iconst (pc := 73) hE dX12_again_73 qM_iconst_0 ?_
          refine z_puti (pc := 74) hE fk_RX12_211 lM_0 rfl dX12_again_74 ?_
          refine z_iconst (pc := 77) hE dX12_again_77 qM_iconst_1 ?_
          exact z_zreturn (pc := 78) hE hr dX12_again_78
      · refine z_iconst (pc := 39) hE dX12_again_39 qM_iconst_0 ?_
        exact z_zreturn (pc := 40) hE hr dX12_again_40
set_option maxRecDepth 100000 in
set_option maxHeartbeats 4000000 in
theorem c_X12_allBy {l : Launch} {ad : Nat → Nat} {ca : FieldType → ClassId} {D : va_G} {sa sv : Nat → Nat} (a1 : Int32) : zC l yX12_allBy cX12_allBy 4 (some .int) 1 layM ad ca D (xtM ad sa sv) [.ref (ad 0), .int a1] zvi (p_X12_allBy a1) := by
  refine z_enter (by decide) (Nat.le_of_ble_eq_true rfl) (fun E hE hl0 hcD hr => ?_)
  have hE : zok layM ad (xtM ad sa sv) E cX12_allBy 4 RX12 1 := hE
  show Z layM ad E 4 (zFin layM ad E zvi) 0 [(0, .ref (ad 0)), (1, .int a1)] [] (p_X12_allBy a1)
  unfold p_X12_allBy
  refine z_iconst (pc := 0) hE dX12_allBy_0 qM_iconst_0 ?_
  refine z_istore_n (L' := [(2, .int ((0 : Int32))), (0, .ref (ad 0)), (1, .int a1)]) (pc := 1) hE 2 rfl (by decide) rfl dX12_allBy_1 ?_
  refine z_iconst (pc := 2) hE dX12_allBy_2 qM_iconst_0 ?_
  refine z_istore_n (L' := [(3, .int ((0 : Int32))), (2, .int ((0 : Int32))), (0, .ref (ad 0)), (1, .int a1)]) (pc := 3) hE 3 rfl (by decide) rfl dX12_allBy_3 ?_
  refine z_sub (L' := [(0, .ref (ad 0)), (1, .int a1), (2, .int ((0 : Int32))), (3, .int ((0 : Int32)))]) [2, 3, 1, 0] rfl ?_
  refine z_loop (V := (Int32 × Int32)) (X := Int32) (hd := 4) (ex := 37) (Lh := fun v1 => [(0, .ref (ad 0)), (1, .int a1), (2, .int v1.1), (3, .int v1.2)]) (Lx := fun e4 => [(2, .int e4)]) (fun rc3 k2 hrc3 hk2 v1 => ?_) zNF ((0 : Int32), (0 : Int32)) _ (fun e4 => ?_)
  · unfold p_X12_allBy_b4
    refine z_iload_n (pc := 4) hE 3 3 rfl rfl dX12_allBy_4 ?_
    refine z_aload_n (pc := 5) hE 0 0 rfl rfl dX12_allBy_5 ?_
    refine z_geti (pc := 6) hE fk_RX12_135 lM_0 rfl dX12_allBy_6 (fun x5 => ?_)
    refine z_icmp_ge (pc := 9) hE 37 rfl dX12_allBy_9 ?_ ?_
    · exact z_sub [2] rfl (hk2 v1.1)
    · refine z_iload_n (pc := 12) hE 2 2 rfl rfl dX12_allBy_12 ?_
      refine z_aload_n (pc := 13) hE 0 0 rfl rfl dX12_allBy_13 ?_
      refine z_iload_n (pc := 14) hE 3 3 rfl rfl dX12_allBy_14 ?_
      refine z_callVi (pc := 15) (st := [.int v1.1]) [.int v1.2] hE kk_RX12_268 (c_X12_how v1.2) lM_0 rfl rfl rfl (Nat.le_of_ble_eq_true rfl) (by decide) dX12_allBy_15 (fun x6 => ?_)
      refine z_iload_n (pc := 18) hE 1 1 rfl rfl dX12_allBy_18 ?_
      refine z_join (Y := Int32) (pcJ := 29) (Lj := fun y7 => [(0, .ref (ad 0)), (1, .int a1), (3, .int v1.2)]) (sj := fun y7 => [.int y7, .int v1.1]) (fun y7 => ?_) (fun j8 hj8 => ?_)
      · refine z_ior (pc := 29) hE dX12_allBy_29 ?_
        refine z_istore_n (L' := [(2, .int (v1.1 ||| y7)), (0, .ref (ad 0)), (1, .int a1), (3, .int v1.2)]) (pc := 30) hE 2 rfl (by decide) rfl dX12_allBy_30 ?_
        refine z_iinc (L' := [(3, .int (v1.2 + (1 : Int32))), (2, .int (v1.1 ||| y7)), (0, .ref (ad 0)), (1, .int a1)]) (pc := 31) hE 3 rfl (zinc qM_iconst_1) (by decide) rfl dX12_allBy_31 ?_
        refine z_goto (pc := 34) hE 4 rfl dX12_allBy_34 ?_
        exact z_sub [2, 3, 1, 0] rfl (hrc3 (v1.1 ||| y7, v1.2 + (1 : Int32)))
      refine z_icmp_ne (pc := 19) hE 28 rfl dX12_allBy_19 ?_ ?_
      · refine z_iconst (pc := 28) hE dX12_allBy_28 qM_iconst_0 ?_
        exact z_sub [0, 1, 3] rfl (hj8 ((0 : Int32)))
      · refine z_iconst (pc := 22) hE dX12_allBy_22 qM_iconst_1 ?_
        refine z_iload_n (pc := 23) hE 3 3 rfl rfl dX12_allBy_23 ?_
        refine z_ishl (pc := 24) hE dX12_allBy_24 ?_
        refine z_goto (pc := 25) hE 29 rfl dX12_allBy_25 ?_
        exact z_sub [0, 1, 3] rfl (hj8 (((1 : Int32)) <<< (v1.2 &&& 31)))
  · refine z_iload_n (pc := 37) hE 0 2 rfl rfl dX12_allBy_37 ?_
    exact z_ireturn (pc := 38) hE hr dX12_allBy_38
set_option maxRecDepth 100000 in
set_option maxHeartbeats 4000000 in
theorem c_X12_count {l : Launch} {ad : Nat → Nat} {ca : FieldType → ClassId} {D : va_G} {sa sv : Nat → Nat} (a1 : Int32) : zC l yX12_count cX12_count 2 (some .int) 2 layM ad ca D (xtM ad sa sv) [.ref (ad 0), .int a1] zvi (p_X12_count a1) := by
  refine z_enter (by decide) (Nat.le_of_ble_eq_true rfl) (fun E hE hl0 hcD hr => ?_)
  have hE : zok layM ad (xtM ad sa sv) E cX12_count 2 RX12 2 := hE
  show Z layM ad E 2 (zFin layM ad E zvi) 0 [(0, .ref (ad 0)), (1, .int a1)] [] (p_X12_count a1)
  unfold p_X12_count
  refine z_aload_n (pc := 0) hE 0 0 rfl rfl dX12_count_0 ?_
  refine z_iconst (pc := 1) hE dX12_count_1 qM_iconst_0 ?_
  refine z_puti (pc := 2) hE fk_RX12_117 lM_0 rfl dX12_count_2 ?_
  refine z_iload_n (pc := 5) hE 1 1 rfl rfl dX12_count_5 ?_
  refine z_case a1 (0 : Int32) (fun hc1 => ?_) (fun hc1 => ?_)
  · refine z_tableIn (pc := 6) hE 62 68 dX12_count_6 (by rw [hc1]; decide) (by rw [hc1]; decide) (by rw [hc1]; rfl) rfl ?_
    refine z_aload_n (pc := 68) hE 0 0 rfl rfl dX12_count_68 ?_
    refine z_geti (pc := 69) hE fk_RX12_128 lM_0 rfl dX12_count_69 (fun x2 => ?_)
    exact z_ireturn (pc := 72) hE hr dX12_count_72
  refine z_case a1 (1 : Int32) (fun hc3 => ?_) (fun hc3 => ?_)
  · refine z_tableIn (pc := 6) hE 67 73 dX12_count_6 (by rw [hc3]; decide) (by rw [hc3]; decide) (by rw [hc3]; rfl) rfl ?_
    refine z_aload_n (pc := 73) hE 0 0 rfl rfl dX12_count_73 ?_
    refine z_geti (pc := 74) hE fk_RX12_135 lM_0 rfl dX12_count_74 (fun x4 => ?_)
    exact z_ireturn (pc := 77) hE hr dX12_count_77
  refine z_case a1 (2 : Int32) (fun hc5 => ?_) (fun hc5 => ?_)
  · refine z_tableIn (pc := 6) hE 72 78 dX12_count_6 (by rw [hc5]; decide) (by rw [hc5]; decide) (by rw [hc5]; rfl) rfl ?_
    refine z_aload_n (pc := 78) hE 0 0 rfl rfl dX12_count_78 ?_
    refine z_getr (pc := 79) hE fk_RX12_32 lM_0 rfl dX12_count_79 ?_
    refine z_bipush (pc := 82) hE dX12_count_82 qM_bipush_42 ?_
    refine z_iald (pc := 84) hE lM_8 dX12_count_84 (fun x6 => ?_)
    exact z_ireturn (pc := 85) hE hr dX12_count_85
  refine z_case a1 (3 : Int32) (fun hc7 => ?_) (fun hc7 => ?_)
  · refine z_tableIn (pc := 6) hE 80 86 dX12_count_6 (by rw [hc7]; decide) (by rw [hc7]; decide) (by rw [hc7]; rfl) rfl ?_
    refine z_aload_n (pc := 86) hE 0 0 rfl rfl dX12_count_86 ?_
    refine z_iload_n (pc := 87) hE 1 1 rfl rfl dX12_count_87 ?_
    refine z_iconst (pc := 88) hE dX12_count_88 qM_iconst_3 ?_
    refine z_isub (pc := 89) hE dX12_count_89 ?_
    refine z_callVi (pc := 90) (st := []) [.int (a1 - ((3 : Int32)))] hE kk_RX12_516 (c_X12_allBy (a1 - ((3 : Int32)))) lM_0 rfl rfl rfl (Nat.le_of_ble_eq_true rfl) (by decide) dX12_count_90 (fun x8 => ?_)
    exact z_ireturn (pc := 93) hE hr dX12_count_93
  refine z_case a1 (4 : Int32) (fun hc9 => ?_) (fun hc9 => ?_)
  · refine z_tableIn (pc := 6) hE 80 86 dX12_count_6 (by rw [hc9]; decide) (by rw [hc9]; decide) (by rw [hc9]; rfl) rfl ?_
    refine z_aload_n (pc := 86) hE 0 0 rfl rfl dX12_count_86 ?_
    refine z_iload_n (pc := 87) hE 1 1 rfl rfl dX12_count_87 ?_
    refine z_iconst (pc := 88) hE dX12_count_88 qM_iconst_3 ?_
    refine z_isub (pc := 89) hE dX12_count_89 ?_
    refine z_callVi (pc := 90) (st := []) [.int (a1 - ((3 : Int32)))] hE kk_RX12_516 (c_X12_allBy (a1 - ((3 : Int32)))) lM_0 rfl rfl rfl (Nat.le_of_ble_eq_true rfl) (by decide) dX12_count_90 (fun x10 => ?_)
    exact z_ireturn (pc := 93) hE hr dX12_count_93
  refine z_case a1 (5 : Int32) (fun hc11 => ?_) (fun hc11 => ?_)
  · refine z_tableIn (pc := 6) hE 80 86 dX12_count_6 (by rw [hc11]; decide) (by rw [hc11]; decide) (by rw [hc11]; rfl) rfl ?_
    refine z_aload_n (pc := 86) hE 0 0 rfl rfl dX12_count_86 ?_
    refine z_iload_n (pc := 87) hE 1 1 rfl rfl dX12_count_87 ?_
    refine z_iconst (pc := 88) hE dX12_count_88 qM_iconst_3 ?_
    refine z_isub (pc := 89) hE dX12_count_89 ?_
    refine z_callVi (pc := 90) (st := []) [.int (a1 - ((3 : Int32)))] hE kk_RX12_516 (c_X12_allBy (a1 - ((3 : Int32)))) lM_0 rfl rfl rfl (Nat.le_of_ble_eq_true rfl) (by decide) dX12_count_90 (fun x12 => ?_)
    exact z_ireturn (pc := 93) hE hr dX12_count_93
  refine z_case a1 (6 : Int32) (fun hc13 => ?_) (fun hc13 => ?_)
  · refine z_tableIn (pc := 6) hE 80 86 dX12_count_6 (by rw [hc13]; decide) (by rw [hc13]; decide) (by rw [hc13]; rfl) rfl ?_
    refine z_aload_n (pc := 86) hE 0 0 rfl rfl dX12_count_86 ?_
    refine z_iload_n (pc := 87) hE 1 1 rfl rfl dX12_count_87 ?_
    refine z_iconst (pc := 88) hE dX12_count_88 qM_iconst_3 ?_
    refine z_isub (pc := 89) hE dX12_count_89 ?_
    refine z_callVi (pc := 90) (st := []) [.int (a1 - ((3 : Int32)))] hE kk_RX12_516 (c_X12_allBy (a1 - ((3 : Int32)))) lM_0 rfl rfl rfl (Nat.le_of_ble_eq_true rfl) (by decide) dX12_count_90 (fun x14 => ?_)
    exact z_ireturn (pc := 93) hE hr dX12_count_93
  refine z_case a1 (7 : Int32) (fun hc15 => ?_) (fun hc15 => ?_)
  · refine z_tableIn (pc := 6) hE 88 94 dX12_count_6 (by rw [hc15]; decide) (by rw [hc15]; decide) (by rw [hc15]; rfl) rfl ?_
    refine z_aload_n (pc := 94) hE 0 0 rfl rfl dX12_count_94 ?_
    refine z_geti (pc := 95) hE fk_RX12_255 lM_0 rfl dX12_count_95 (fun x16 => ?_)
    exact z_ireturn (pc := 98) hE hr dX12_count_98
  refine z_case a1 (8 : Int32) (fun hc17 => ?_) (fun hc17 => ?_)
  · refine z_tableIn (pc := 6) hE 93 99 dX12_count_6 (by rw [hc17]; decide) (by rw [hc17]; decide) (by rw [hc17]; rfl) rfl ?_
    refine z_aload_n (pc := 99) hE 0 0 rfl rfl dX12_count_99 ?_
    refine z_geti (pc := 100) hE fk_RX12_208 lM_0 rfl dX12_count_100 (fun x18 => ?_)
    exact z_ireturn (pc := 103) hE hr dX12_count_103
  refine z_case a1 (9 : Int32) (fun hc19 => ?_) (fun hc19 => ?_)
  · refine z_tableIn (pc := 6) hE 98 104 dX12_count_6 (by rw [hc19]; decide) (by rw [hc19]; decide) (by rw [hc19]; rfl) rfl ?_
    refine z_aload_n (pc := 104) hE 0 0 rfl rfl dX12_count_104 ?_
    refine z_geti (pc := 105) hE fk_RX12_211 lM_0 rfl dX12_count_105 (fun x20 => ?_)
    exact z_ireturn (pc := 108) hE hr dX12_count_108
  refine z_case a1 (10 : Int32) (fun hc21 => ?_) (fun hc21 => ?_)
  · refine z_tableIn (pc := 6) hE 103 109 dX12_count_6 (by rw [hc21]; decide) (by rw [hc21]; decide) (by rw [hc21]; rfl) rfl ?_
    refine z_aload_n (pc := 109) hE 0 0 rfl rfl dX12_count_109 ?_
    refine z_geti (pc := 110) hE fk_RX12_125 lM_0 rfl dX12_count_110 (fun x22 => ?_)
    exact z_ireturn (pc := 113) hE hr dX12_count_113
  refine z_case a1 (11 : Int32) (fun hc23 => ?_) (fun hc23 => ?_)
  · refine z_tableIn (pc := 6) hE 108 114 dX12_count_6 (by rw [hc23]; decide) (by rw [hc23]; decide) (by rw [hc23]; rfl) rfl ?_
    refine z_aload_n (pc := 114) hE 0 0 rfl rfl dX12_count_114 ?_
    refine z_geti (pc := 115) hE fk_RX12_138 lM_0 rfl dX12_count_115 (fun x24 => ?_)
    exact z_ireturn (pc := 118) hE hr dX12_count_118
  have ihc1 := zne (0) hc1 (by decide)
  have ihc3 := zne (1) hc3 (by decide)
  have ihc5 := zne (2) hc5 (by decide)
  have ihc7 := zne (3) hc7 (by decide)
  have ihc9 := zne (4) hc9 (by decide)
  have ihc11 := zne (5) hc11 (by decide)
  have ihc13 := zne (6) hc13 (by decide)
  have ihc15 := zne (7) hc15 (by decide)
  have ihc17 := zne (8) hc17 (by decide)
  have ihc19 := zne (9) hc19 (by decide)
  have ihc21 := zne (10) hc21 (by decide)
  have ihc23 := zne (11) hc23 (by decide)
  refine z_tableOut (pc := 6) hE 119 dX12_count_6 (by omega) rfl ?_
  refine z_bipush (pc := 119) hE dX12_count_119 qM_bipush_m100 ?_
  exact z_ireturn (pc := 121) hE hr dX12_count_121
set_option maxRecDepth 100000 in
set_option maxHeartbeats 4000000 in
theorem c_X12_row {l : Launch} {ad : Nat → Nat} {ca : FieldType → ClassId} {D : va_G} {sa sv : Nat → Nat} (a1 : Int32) : zC l yX12_row cX12_row 2 (some .long) 1 layM ad ca D (xtM ad sa sv) [.ref (ad 0), .int a1] zvl (p_X12_row a1) := by
  refine z_enter (by decide) (Nat.le_of_ble_eq_true rfl) (fun E hE hl0 hcD hr => ?_)
  have hE : zok layM ad (xtM ad sa sv) E cX12_row 2 RX12 1 := hE
  show Z layM ad E 2 (zFin layM ad E zvl) 0 [(0, .ref (ad 0)), (1, .int a1)] [] (p_X12_row a1)
  unfold p_X12_row
  refine z_aload_n (pc := 0) hE 0 0 rfl rfl dX12_row_0 ?_
  refine z_iconst (pc := 1) hE dX12_row_1 qM_iconst_0 ?_
  refine z_puti (pc := 2) hE fk_RX12_117 lM_0 rfl dX12_row_2 ?_
  refine z_iload_n (pc := 5) hE 1 1 rfl rfl dX12_row_5 ?_
  refine z_i2l (pc := 6) hE dX12_row_6 ?_
  refine z_lconst (v := (0 : Int64)) (pc := 7) hE dX12_row_7 (by decide) ?_
  refine z_aload_n (pc := 8) hE 0 0 rfl rfl dX12_row_8 ?_
  refine z_geti (pc := 9) hE fk_RX12_125 lM_0 rfl dX12_row_9 (fun x1 => ?_)
  refine z_iconst (pc := 12) hE dX12_row_12 qM_iconst_1 ?_
  refine z_isub (pc := 13) hE dX12_row_13 ?_
  refine z_i2l (pc := 14) hE dX12_row_14 ?_
  refine z_callSi (pc := 15) (st := []) [.long a1.toInt64, .long ((0 : Int64)), .long ((x1 - ((1 : Int32))).toInt64)] hE kk_RX12_131 (c_X12_in a1.toInt64 ((0 : Int64)) ((x1 - ((1 : Int32))).toInt64)) rfl rfl (Nat.le_of_ble_eq_true rfl) (by decide) dX12_row_15 (fun x2 => ?_)
  refine z_if_ne (pc := 18) hE 28 rfl dX12_row_18 ?_ ?_
  · refine z_aload_n (pc := 28) hE 0 0 rfl rfl dX12_row_28 ?_
    refine z_getr (pc := 29) hE fk_RX12_9 lM_0 rfl dX12_row_29 ?_
    refine z_iload_n (pc := 32) hE 1 1 rfl rfl dX12_row_32 ?_
    refine z_lald (pc := 33) hE lM_1 dX12_row_33 (fun x3 => ?_)
    exact z_lreturn (pc := 34) hE hr dX12_row_34
  · refine z_aload_n (pc := 21) hE 0 0 rfl rfl dX12_row_21 ?_
    refine z_iconst (pc := 22) hE dX12_row_22 qM_iconst_1 ?_
    refine z_puti (pc := 23) hE fk_RX12_117 lM_0 rfl dX12_row_23 ?_
    refine z_lconst (v := (0 : Int64)) (pc := 26) hE dX12_row_26 (by decide) ?_
    exact z_lreturn (pc := 27) hE hr dX12_row_27
