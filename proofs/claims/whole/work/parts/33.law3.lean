theorem lcmpI {r : Option Int32} {v : Int32} {f : Nat → Int64} (hv : ∀ z, r = some z → z = v) (h0 : hr01 r = 0) : lg_cmp (hupI f r (0 : Int32).toNatClampNeg) v.toInt64 = 0 := by
  cases r with
  | none => exact absurd h0 (by decide)
  | some z =>
    rw [hv z rfl]
    have : hupI f (some v) (0 : Int32).toNatClampNeg = v.toInt64 := rfl
    rw [this]
    simp [lg_cmp]
theorem lcmpL {r : Option Int64} {v : Int64} {f : Nat → Int64} (hv : ∀ z, r = some z → z = v) (h0 : hr01 r = 0) : lg_cmp (hupL f r (0 : Int32).toNatClampNeg) v = 0 := by
  cases r with
  | none => exact absurd h0 (by decide)
  | some z =>
    rw [hv z rfl]
    have : hupL f (some v) (0 : Int32).toNatClampNeg = v := rfl
    rw [this]
    simp [lg_cmp]
theorem lk_30_1 : Cond.methodLink RL 30 yX11_sign ∈ zTB := zch_2 _ (List.mem_of_getElem? (i := 208) (by decide +kernel)) rfl
theorem lw_i_X11_sign : Cond.instanceMethod yX11_sign ∈ zTB := zch_2 _ (List.mem_of_getElem? (i := 209) (by decide +kernel)) rfl
theorem lw_s_X11_sign : Cond.selects RX11 yX11_sign yX11_sign ∈ zTB := zch_2 _ (List.mem_of_getElem? (i := 210) (by decide +kernel)) rfl
theorem lw_n_RX11 : Cond.initialized RX11 ∈ zTB := zch_1 _ (List.mem_of_getElem? (i := 1) (by decide +kernel)) rfl
theorem lw_c_X11_sign : Cond.code yX11_sign cX11_sign 3 (some .int) ∈ zTB := zch_2 _ (List.mem_of_getElem? (i := 211) (by decide +kernel)) rfl
theorem lk_30 : zKV RL 30 RX11 yX11_sign cX11_sign 3 (some .int) 1 := ⟨lk_30_1, lw_i_X11_sign, lw_s_X11_sign, lw_n_RX11, lw_c_X11_sign, by decide +kernel, by decide⟩
theorem lk_33_1 : Cond.methodLink RL 33 yX12_sign ∈ zTB := zch_6 _ (List.mem_of_getElem? (i := 238) (by decide +kernel)) rfl
theorem lw_i_X12_sign : Cond.instanceMethod yX12_sign ∈ zTB := zch_6 _ (List.mem_of_getElem? (i := 239) (by decide +kernel)) rfl
theorem lw_s_X12_sign : Cond.selects RX12 yX12_sign yX12_sign ∈ zTB := zch_7 _ (List.mem_of_getElem? (i := 0) (by decide +kernel)) rfl
theorem lw_n_RX12 : Cond.initialized RX12 ∈ zTB := zch_1 _ (List.mem_of_getElem? (i := 14) (by decide +kernel)) rfl
theorem lw_c_X12_sign : Cond.code yX12_sign cX12_sign 3 (some .int) ∈ zTB := zch_7 _ (List.mem_of_getElem? (i := 1) (by decide +kernel)) rfl
theorem lk_33 : zKV RL 33 RX12 yX12_sign cX12_sign 3 (some .int) 1 := ⟨lk_33_1, lw_i_X12_sign, lw_s_X12_sign, lw_n_RX12, lw_c_X12_sign, by decide +kernel, by decide⟩
theorem lk_34_1 : Cond.methodLink RL 34 yX11_end ∈ zTB := zch_2 _ (List.mem_of_getElem? (i := 216) (by decide +kernel)) rfl
theorem lw_i_X11_end : Cond.instanceMethod yX11_end ∈ zTB := zch_2 _ (List.mem_of_getElem? (i := 217) (by decide +kernel)) rfl
theorem lw_s_X11_end : Cond.selects RX11 yX11_end yX11_end ∈ zTB := zch_2 _ (List.mem_of_getElem? (i := 218) (by decide +kernel)) rfl
theorem lw_c_X11_end : Cond.code yX11_end cX11_end 2 (some .boolean) ∈ zTB := zch_2 _ (List.mem_of_getElem? (i := 219) (by decide +kernel)) rfl
theorem lk_34 : zKV RL 34 RX11 yX11_end cX11_end 2 (some .boolean) 1 := ⟨lk_34_1, lw_i_X11_end, lw_s_X11_end, lw_n_RX11, lw_c_X11_end, by decide +kernel, by decide⟩
theorem lk_38_1 : Cond.methodLink RL 38 yX12_end ∈ zTB := zch_7 _ (List.mem_of_getElem? (i := 2) (by decide +kernel)) rfl
theorem lw_i_X12_end : Cond.instanceMethod yX12_end ∈ zTB := zch_7 _ (List.mem_of_getElem? (i := 3) (by decide +kernel)) rfl
theorem lw_s_X12_end : Cond.selects RX12 yX12_end yX12_end ∈ zTB := zch_7 _ (List.mem_of_getElem? (i := 4) (by decide +kernel)) rfl
theorem lw_c_X12_end : Cond.code yX12_end cX12_end 2 (some .boolean) ∈ zTB := zch_7 _ (List.mem_of_getElem? (i := 5) (by decide +kernel)) rfl
theorem lk_38 : zKV RL 38 RX12 yX12_end cX12_end 2 (some .boolean) 1 := ⟨lk_38_1, lw_i_X12_end, lw_s_X12_end, lw_n_RX12, lw_c_X12_end, by decide +kernel, by decide⟩
theorem lk_39_1 : Cond.methodLink RL 39 yX11_tower ∈ zTB := zch_2 _ (List.mem_of_getElem? (i := 220) (by decide +kernel)) rfl
theorem lw_i_X11_tower : Cond.instanceMethod yX11_tower ∈ zTB := zch_2 _ (List.mem_of_getElem? (i := 221) (by decide +kernel)) rfl
theorem lw_s_X11_tower : Cond.selects RX11 yX11_tower yX11_tower ∈ zTB := zch_2 _ (List.mem_of_getElem? (i := 222) (by decide +kernel)) rfl
theorem lw_c_X11_tower : Cond.code yX11_tower cX11_tower 2 (some .int) ∈ zTB := zch_2 _ (List.mem_of_getElem? (i := 223) (by decide +kernel)) rfl
theorem lk_39 : zKV RL 39 RX11 yX11_tower cX11_tower 2 (some .int) 0 := ⟨lk_39_1, lw_i_X11_tower, lw_s_X11_tower, lw_n_RX11, lw_c_X11_tower, by decide +kernel, by decide⟩
theorem lk_43_1 : Cond.methodLink RL 43 yX12_tower ∈ zTB := zch_7 _ (List.mem_of_getElem? (i := 9) (by decide +kernel)) rfl
theorem lw_i_X12_tower : Cond.instanceMethod yX12_tower ∈ zTB := zch_7 _ (List.mem_of_getElem? (i := 10) (by decide +kernel)) rfl
theorem lw_s_X12_tower : Cond.selects RX12 yX12_tower yX12_tower ∈ zTB := zch_7 _ (List.mem_of_getElem? (i := 11) (by decide +kernel)) rfl
theorem lw_c_X12_tower : Cond.code yX12_tower cX12_tower 6 (some .int) ∈ zTB := zch_7 _ (List.mem_of_getElem? (i := 12) (by decide +kernel)) rfl
theorem lk_43 : zKV RL 43 RX12 yX12_tower cX12_tower 6 (some .int) 0 := ⟨lk_43_1, lw_i_X12_tower, lw_s_X12_tower, lw_n_RX12, lw_c_X12_tower, by decide +kernel, by decide⟩
theorem lk_44_1 : Cond.methodLink RL 44 yX11_balloons ∈ zTB := zch_3 _ (List.mem_of_getElem? (i := 35) (by decide +kernel)) rfl
theorem lw_i_X11_balloons : Cond.instanceMethod yX11_balloons ∈ zTB := zch_3 _ (List.mem_of_getElem? (i := 36) (by decide +kernel)) rfl
theorem lw_s_X11_balloons : Cond.selects RX11 yX11_balloons yX11_balloons ∈ zTB := zch_3 _ (List.mem_of_getElem? (i := 37) (by decide +kernel)) rfl
theorem lw_c_X11_balloons : Cond.code yX11_balloons cX11_balloons 2 (some .int) ∈ zTB := zch_3 _ (List.mem_of_getElem? (i := 38) (by decide +kernel)) rfl
theorem lk_44 : zKV RL 44 RX11 yX11_balloons cX11_balloons 2 (some .int) 0 := ⟨lk_44_1, lw_i_X11_balloons, lw_s_X11_balloons, lw_n_RX11, lw_c_X11_balloons, by decide +kernel, by decide⟩
theorem lk_47_1 : Cond.methodLink RL 47 yX12_balloons ∈ zTB := zch_7 _ (List.mem_of_getElem? (i := 101) (by decide +kernel)) rfl
theorem lw_i_X12_balloons : Cond.instanceMethod yX12_balloons ∈ zTB := zch_7 _ (List.mem_of_getElem? (i := 102) (by decide +kernel)) rfl
theorem lw_s_X12_balloons : Cond.selects RX12 yX12_balloons yX12_balloons ∈ zTB := zch_7 _ (List.mem_of_getElem? (i := 103) (by decide +kernel)) rfl
theorem lw_c_X12_balloons : Cond.code yX12_balloons cX12_balloons 7 (some .int) ∈ zTB := zch_7 _ (List.mem_of_getElem? (i := 104) (by decide +kernel)) rfl
theorem lk_47 : zKV RL 47 RX12 yX12_balloons cX12_balloons 7 (some .int) 0 := ⟨lk_47_1, lw_i_X12_balloons, lw_s_X12_balloons, lw_n_RX12, lw_c_X12_balloons, by decide +kernel, by decide⟩
theorem lk_48_1 : Cond.methodLink RL 48 yX11_winds ∈ zTB := zch_3 _ (List.mem_of_getElem? (i := 63) (by decide +kernel)) rfl
theorem lw_i_X11_winds : Cond.instanceMethod yX11_winds ∈ zTB := zch_3 _ (List.mem_of_getElem? (i := 64) (by decide +kernel)) rfl
theorem lw_s_X11_winds : Cond.selects RX11 yX11_winds yX11_winds ∈ zTB := zch_3 _ (List.mem_of_getElem? (i := 65) (by decide +kernel)) rfl
theorem lw_c_X11_winds : Cond.code yX11_winds cX11_winds 2 (some .int) ∈ zTB := zch_3 _ (List.mem_of_getElem? (i := 66) (by decide +kernel)) rfl
theorem lk_48 : zKV RL 48 RX11 yX11_winds cX11_winds 2 (some .int) 0 := ⟨lk_48_1, lw_i_X11_winds, lw_s_X11_winds, lw_n_RX11, lw_c_X11_winds, by decide +kernel, by decide⟩
theorem lk_51_1 : Cond.methodLink RL 51 yX12_winds ∈ zTB := zch_7 _ (List.mem_of_getElem? (i := 110) (by decide +kernel)) rfl
theorem lw_i_X12_winds : Cond.instanceMethod yX12_winds ∈ zTB := zch_7 _ (List.mem_of_getElem? (i := 111) (by decide +kernel)) rfl
theorem lw_s_X12_winds : Cond.selects RX12 yX12_winds yX12_winds ∈ zTB := zch_7 _ (List.mem_of_getElem? (i := 112) (by decide +kernel)) rfl
theorem lw_c_X12_winds : Cond.code yX12_winds cX12_winds 6 (some .int) ∈ zTB := zch_7 _ (List.mem_of_getElem? (i := 113) (by decide +kernel)) rfl
theorem lk_51 : zKV RL 51 RX12 yX12_winds cX12_winds 6 (some .int) 0 := ⟨lk_51_1, lw_i_X12_winds, lw_s_X12_winds, lw_n_RX12, lw_c_X12_winds, by decide +kernel, by decide⟩
theorem lk_52_1 : Cond.methodLink RL 52 yX11_rule ∈ zTB := zch_3 _ (List.mem_of_getElem? (i := 90) (by decide +kernel)) rfl
theorem lw_i_X11_rule : Cond.instanceMethod yX11_rule ∈ zTB := zch_3 _ (List.mem_of_getElem? (i := 91) (by decide +kernel)) rfl
theorem lw_s_X11_rule : Cond.selects RX11 yX11_rule yX11_rule ∈ zTB := zch_3 _ (List.mem_of_getElem? (i := 92) (by decide +kernel)) rfl
theorem lw_c_X11_rule : Cond.code yX11_rule cX11_rule 2 (some .int) ∈ zTB := zch_3 _ (List.mem_of_getElem? (i := 93) (by decide +kernel)) rfl
theorem lk_52 : zKV RL 52 RX11 yX11_rule cX11_rule 2 (some .int) 0 := ⟨lk_52_1, lw_i_X11_rule, lw_s_X11_rule, lw_n_RX11, lw_c_X11_rule, by decide +kernel, by decide⟩
theorem lk_55_1 : Cond.methodLink RL 55 yX12_rule ∈ zTB := zch_7 _ (List.mem_of_getElem? (i := 119) (by decide +kernel)) rfl
theorem lw_i_X12_rule : Cond.instanceMethod yX12_rule ∈ zTB := zch_7 _ (List.mem_of_getElem? (i := 120) (by decide +kernel)) rfl
theorem lw_s_X12_rule : Cond.selects RX12 yX12_rule yX12_rule ∈ zTB := zch_7 _ (List.mem_of_getElem? (i := 121) (by decide +kernel)) rfl
theorem lw_c_X12_rule : Cond.code yX12_rule cX12_rule 5 (some .int) ∈ zTB := zch_7 _ (List.mem_of_getElem? (i := 122) (by decide +kernel)) rfl
theorem lk_55 : zKV RL 55 RX12 yX12_rule cX12_rule 5 (some .int) 0 := ⟨lk_55_1, lw_i_X12_rule, lw_s_X12_rule, lw_n_RX12, lw_c_X12_rule, by decide +kernel, by decide⟩
theorem lh_56_1 : Cond.methodLink RL 56 yL_ring ∈ zTB := zch_5 _ (List.mem_of_getElem? (i := 188) (by decide +kernel)) rfl
theorem lh_56_2 : Cond.static yL_ring ∈ zTB := zch_5 _ (List.mem_of_getElem? (i := 189) (by decide +kernel)) rfl
theorem lh_56_3 : Cond.initialized yL_ring.cls ∈ zTB := zch_1 _ (List.mem_of_getElem? (i := 0) (by decide +kernel)) rfl
theorem lh_56 : lKH 56 yL_ring cL_ring 5 [(0, 10, 13, 13)] 4 := ⟨lh_56_1, lh_56_2, lh_56_3, wh_c_ring, by decide +kernel, by decide⟩
theorem lk_61_1 : Cond.methodLink RL 61 yX12_ring ∈ zTB := zch_7 _ (List.mem_of_getElem? (i := 139) (by decide +kernel)) rfl
theorem lw_i_X12_ring : Cond.instanceMethod yX12_ring ∈ zTB := zch_7 _ (List.mem_of_getElem? (i := 140) (by decide +kernel)) rfl
theorem lw_s_X12_ring : Cond.selects RX12 yX12_ring yX12_ring ∈ zTB := zch_7 _ (List.mem_of_getElem? (i := 141) (by decide +kernel)) rfl
theorem lw_c_X12_ring : Cond.code yX12_ring cX12_ring 3 (some .int) ∈ zTB := zch_7 _ (List.mem_of_getElem? (i := 142) (by decide +kernel)) rfl
theorem lk_61 : zKV RL 61 RX12 yX12_ring cX12_ring 3 (some .int) 2 := ⟨lk_61_1, lw_i_X12_ring, lw_s_X12_ring, lw_n_RX12, lw_c_X12_ring, by decide +kernel, by decide⟩
theorem lk_62_1 : Cond.methodLink RL 62 yX12_thrown ∈ zTB := zch_6 _ (List.mem_of_getElem? (i := 234) (by decide +kernel)) rfl
theorem lw_i_X12_thrown : Cond.instanceMethod yX12_thrown ∈ zTB := zch_6 _ (List.mem_of_getElem? (i := 235) (by decide +kernel)) rfl
theorem lw_s_X12_thrown : Cond.selects RX12 yX12_thrown yX12_thrown ∈ zTB := zch_6 _ (List.mem_of_getElem? (i := 236) (by decide +kernel)) rfl
theorem lw_c_X12_thrown : Cond.code yX12_thrown cX12_thrown 1 (some .int) ∈ zTB := zch_6 _ (List.mem_of_getElem? (i := 237) (by decide +kernel)) rfl
theorem lk_62 : zKV RL 62 RX12 yX12_thrown cX12_thrown 1 (some .int) 0 := ⟨lk_62_1, lw_i_X12_thrown, lw_s_X12_thrown, lw_n_RX12, lw_c_X12_thrown, by decide +kernel, by decide⟩
theorem lh_65_1 : Cond.methodLink RL 65 yL_balloon ∈ zTB := zch_6 _ (List.mem_of_getElem? (i := 17) (by decide +kernel)) rfl
theorem lh_65_2 : Cond.static yL_balloon ∈ zTB := zch_6 _ (List.mem_of_getElem? (i := 18) (by decide +kernel)) rfl
theorem lh_65_3 : Cond.initialized yL_balloon.cls ∈ zTB := zch_1 _ (List.mem_of_getElem? (i := 0) (by decide +kernel)) rfl
theorem lh_65 : lKH 65 yL_balloon cL_balloon 5 [(0, 10, 13, 13)] 4 := ⟨lh_65_1, lh_65_2, lh_65_3, wh_c_balloon, by decide +kernel, by decide⟩
theorem lk_67_1 : Cond.methodLink RL 67 yX12_balloon ∈ zTB := zch_7 _ (List.mem_of_getElem? (i := 160) (by decide +kernel)) rfl
theorem lw_i_X12_balloon : Cond.instanceMethod yX12_balloon ∈ zTB := zch_7 _ (List.mem_of_getElem? (i := 161) (by decide +kernel)) rfl
theorem lw_s_X12_balloon : Cond.selects RX12 yX12_balloon yX12_balloon ∈ zTB := zch_7 _ (List.mem_of_getElem? (i := 162) (by decide +kernel)) rfl
theorem lw_c_X12_balloon : Cond.code yX12_balloon cX12_balloon 3 (some .int) ∈ zTB := zch_7 _ (List.mem_of_getElem? (i := 163) (by decide +kernel)) rfl
theorem lk_67 : zKV RL 67 RX12 yX12_balloon cX12_balloon 3 (some .int) 2 := ⟨lk_67_1, lw_i_X12_balloon, lw_s_X12_balloon, lw_n_RX12, lw_c_X12_balloon, by decide +kernel, by decide⟩
theorem lh_68_1 : Cond.methodLink RL 68 yL_lift ∈ zTB := zch_6 _ (List.mem_of_getElem? (i := 24) (by decide +kernel)) rfl
theorem lh_68_2 : Cond.static yL_lift ∈ zTB := zch_6 _ (List.mem_of_getElem? (i := 25) (by decide +kernel)) rfl
theorem lh_68_3 : Cond.initialized yL_lift.cls ∈ zTB := zch_1 _ (List.mem_of_getElem? (i := 0) (by decide +kernel)) rfl
theorem lh_68 : lKH 68 yL_lift cL_lift 4 [(0, 9, 12, 13)] 3 := ⟨lh_68_1, lh_68_2, lh_68_3, wh_c_lift, by decide +kernel, by decide⟩
theorem lk_71_1 : Cond.methodLink RL 71 yX12_lift ∈ zTB := zch_7 _ (List.mem_of_getElem? (i := 195) (by decide +kernel)) rfl
theorem lw_i_X12_lift : Cond.instanceMethod yX12_lift ∈ zTB := zch_7 _ (List.mem_of_getElem? (i := 196) (by decide +kernel)) rfl
theorem lw_s_X12_lift : Cond.selects RX12 yX12_lift yX12_lift ∈ zTB := zch_7 _ (List.mem_of_getElem? (i := 197) (by decide +kernel)) rfl
theorem lw_c_X12_lift : Cond.code yX12_lift cX12_lift 2 (some .int) ∈ zTB := zch_7 _ (List.mem_of_getElem? (i := 198) (by decide +kernel)) rfl
theorem lk_71 : zKV RL 71 RX12 yX12_lift cX12_lift 2 (some .int) 1 := ⟨lk_71_1, lw_i_X12_lift, lw_s_X12_lift, lw_n_RX12, lw_c_X12_lift, by decide +kernel, by decide⟩
theorem lk_72_1 : Cond.methodLink RL 72 yX11_rain ∈ zTB := zch_3 _ (List.mem_of_getElem? (i := 139) (by decide +kernel)) rfl
theorem lw_i_X11_rain : Cond.instanceMethod yX11_rain ∈ zTB := zch_3 _ (List.mem_of_getElem? (i := 140) (by decide +kernel)) rfl
theorem lw_s_X11_rain : Cond.selects RX11 yX11_rain yX11_rain ∈ zTB := zch_3 _ (List.mem_of_getElem? (i := 141) (by decide +kernel)) rfl
theorem lw_c_X11_rain : Cond.code yX11_rain cX11_rain 3 (some .int) ∈ zTB := zch_3 _ (List.mem_of_getElem? (i := 142) (by decide +kernel)) rfl
theorem lk_72 : zKV RL 72 RX11 yX11_rain cX11_rain 3 (some .int) 1 := ⟨lk_72_1, lw_i_X11_rain, lw_s_X11_rain, lw_n_RX11, lw_c_X11_rain, by decide +kernel, by decide⟩
theorem lk_75_1 : Cond.methodLink RL 75 yX12_rain ∈ zTB := zch_7 _ (List.mem_of_getElem? (i := 199) (by decide +kernel)) rfl
theorem lw_i_X12_rain : Cond.instanceMethod yX12_rain ∈ zTB := zch_7 _ (List.mem_of_getElem? (i := 200) (by decide +kernel)) rfl
theorem lw_s_X12_rain : Cond.selects RX12 yX12_rain yX12_rain ∈ zTB := zch_7 _ (List.mem_of_getElem? (i := 201) (by decide +kernel)) rfl
theorem lw_c_X12_rain : Cond.code yX12_rain cX12_rain 3 (some .int) ∈ zTB := zch_7 _ (List.mem_of_getElem? (i := 202) (by decide +kernel)) rfl
theorem lk_75 : zKV RL 75 RX12 yX12_rain cX12_rain 3 (some .int) 1 := ⟨lk_75_1, lw_i_X12_rain, lw_s_X12_rain, lw_n_RX12, lw_c_X12_rain, by decide +kernel, by decide⟩
theorem lk_76_1 : Cond.methodLink RL 76 yX11_sheet ∈ zTB := zch_3 _ (List.mem_of_getElem? (i := 143) (by decide +kernel)) rfl
theorem lw_i_X11_sheet : Cond.instanceMethod yX11_sheet ∈ zTB := zch_3 _ (List.mem_of_getElem? (i := 144) (by decide +kernel)) rfl
theorem lw_s_X11_sheet : Cond.selects RX11 yX11_sheet yX11_sheet ∈ zTB := zch_3 _ (List.mem_of_getElem? (i := 145) (by decide +kernel)) rfl
theorem lw_c_X11_sheet : Cond.code yX11_sheet cX11_sheet 10 (some .int) ∈ zTB := zch_3 _ (List.mem_of_getElem? (i := 146) (by decide +kernel)) rfl
theorem lk_76 : zKV RL 76 RX11 yX11_sheet cX11_sheet 10 (some .int) 4 := ⟨lk_76_1, lw_i_X11_sheet, lw_s_X11_sheet, lw_n_RX11, lw_c_X11_sheet, by decide +kernel, by decide⟩
theorem lk_80_1 : Cond.methodLink RL 80 yX12_sheet ∈ zTB := zch_7 _ (List.mem_of_getElem? (i := 203) (by decide +kernel)) rfl
theorem lw_i_X12_sheet : Cond.instanceMethod yX12_sheet ∈ zTB := zch_7 _ (List.mem_of_getElem? (i := 204) (by decide +kernel)) rfl
theorem lw_s_X12_sheet : Cond.selects RX12 yX12_sheet yX12_sheet ∈ zTB := zch_7 _ (List.mem_of_getElem? (i := 205) (by decide +kernel)) rfl
theorem lw_c_X12_sheet : Cond.code yX12_sheet cX12_sheet 9 (some .int) ∈ zTB := zch_7 _ (List.mem_of_getElem? (i := 206) (by decide +kernel)) rfl
theorem lk_80 : zKV RL 80 RX12 yX12_sheet cX12_sheet 9 (some .int) 4 := ⟨lk_80_1, lw_i_X12_sheet, lw_s_X12_sheet, lw_n_RX12, lw_c_X12_sheet, by decide +kernel, by decide⟩
theorem lk_81_1 : Cond.methodLink RL 81 yX11_launch ∈ zTB := zch_3 _ (List.mem_of_getElem? (i := 154) (by decide +kernel)) rfl
theorem lw_i_X11_launch : Cond.instanceMethod yX11_launch ∈ zTB := zch_3 _ (List.mem_of_getElem? (i := 155) (by decide +kernel)) rfl
theorem lw_s_X11_launch : Cond.selects RX11 yX11_launch yX11_launch ∈ zTB := zch_3 _ (List.mem_of_getElem? (i := 156) (by decide +kernel)) rfl
theorem lw_c_X11_launch : Cond.code yX11_launch cX11_launch 2 (some .int) ∈ zTB := zch_3 _ (List.mem_of_getElem? (i := 157) (by decide +kernel)) rfl
theorem lk_81 : zKV RL 81 RX11 yX11_launch cX11_launch 2 (some .int) 1 := ⟨lk_81_1, lw_i_X11_launch, lw_s_X11_launch, lw_n_RX11, lw_c_X11_launch, by decide +kernel, by decide⟩
theorem lk_84_1 : Cond.methodLink RL 84 yX12_launch ∈ zTB := zch_7 _ (List.mem_of_getElem? (i := 212) (by decide +kernel)) rfl
theorem lw_i_X12_launch : Cond.instanceMethod yX12_launch ∈ zTB := zch_7 _ (List.mem_of_getElem? (i := 213) (by decide +kernel)) rfl
theorem lw_s_X12_launch : Cond.selects RX12 yX12_launch yX12_launch ∈ zTB := zch_7 _ (List.mem_of_getElem? (i := 214) (by decide +kernel)) rfl
theorem lw_c_X12_launch : Cond.code yX12_launch cX12_launch 2 (some .int) ∈ zTB := zch_7 _ (List.mem_of_getElem? (i := 215) (by decide +kernel)) rfl
theorem lk_84 : zKV RL 84 RX12 yX12_launch cX12_launch 2 (some .int) 1 := ⟨lk_84_1, lw_i_X12_launch, lw_s_X12_launch, lw_n_RX12, lw_c_X12_launch, by decide +kernel, by decide⟩
theorem lk_85_1 : Cond.methodLink RL 85 yX11_moor ∈ zTB := zch_3 _ (List.mem_of_getElem? (i := 205) (by decide +kernel)) rfl
theorem lw_i_X11_moor : Cond.instanceMethod yX11_moor ∈ zTB := zch_3 _ (List.mem_of_getElem? (i := 206) (by decide +kernel)) rfl
theorem lw_s_X11_moor : Cond.selects RX11 yX11_moor yX11_moor ∈ zTB := zch_3 _ (List.mem_of_getElem? (i := 207) (by decide +kernel)) rfl
theorem lw_c_X11_moor : Cond.code yX11_moor cX11_moor 3 (some .int) ∈ zTB := zch_3 _ (List.mem_of_getElem? (i := 208) (by decide +kernel)) rfl
theorem lk_85 : zKV RL 85 RX11 yX11_moor cX11_moor 3 (some .int) 2 := ⟨lk_85_1, lw_i_X11_moor, lw_s_X11_moor, lw_n_RX11, lw_c_X11_moor, by decide +kernel, by decide⟩
theorem lk_88_1 : Cond.methodLink RL 88 yX12_moor ∈ zTB := zch_7 _ (List.mem_of_getElem? (i := 235) (by decide +kernel)) rfl
theorem lw_i_X12_moor : Cond.instanceMethod yX12_moor ∈ zTB := zch_7 _ (List.mem_of_getElem? (i := 236) (by decide +kernel)) rfl
theorem lw_s_X12_moor : Cond.selects RX12 yX12_moor yX12_moor ∈ zTB := zch_7 _ (List.mem_of_getElem? (i := 237) (by decide +kernel)) rfl
theorem lw_c_X12_moor : Cond.code yX12_moor cX12_moor 3 (some .int) ∈ zTB := zch_7 _ (List.mem_of_getElem? (i := 238) (by decide +kernel)) rfl
theorem lk_88 : zKV RL 88 RX12 yX12_moor cX12_moor 3 (some .int) 2 := ⟨lk_88_1, lw_i_X12_moor, lw_s_X12_moor, lw_n_RX12, lw_c_X12_moor, by decide +kernel, by decide⟩
theorem lk_89_1 : Cond.methodLink RL 89 yX11_cast ∈ zTB := zch_3 _ (List.mem_of_getElem? (i := 229) (by decide +kernel)) rfl
theorem lw_i_X11_cast : Cond.instanceMethod yX11_cast ∈ zTB := zch_3 _ (List.mem_of_getElem? (i := 230) (by decide +kernel)) rfl
theorem lw_s_X11_cast : Cond.selects RX11 yX11_cast yX11_cast ∈ zTB := zch_3 _ (List.mem_of_getElem? (i := 231) (by decide +kernel)) rfl
theorem lw_c_X11_cast : Cond.code yX11_cast cX11_cast 2 (some .int) ∈ zTB := zch_3 _ (List.mem_of_getElem? (i := 232) (by decide +kernel)) rfl
theorem lk_89 : zKV RL 89 RX11 yX11_cast cX11_cast 2 (some .int) 1 := ⟨lk_89_1, lw_i_X11_cast, lw_s_X11_cast, lw_n_RX11, lw_c_X11_cast, by decide +kernel, by decide⟩
theorem lk_92_1 : Cond.methodLink RL 92 yX12_cast ∈ zTB := zch_8 _ (List.mem_of_getElem? (i := 11) (by decide +kernel)) rfl
theorem lw_i_X12_cast : Cond.instanceMethod yX12_cast ∈ zTB := zch_8 _ (List.mem_of_getElem? (i := 12) (by decide +kernel)) rfl
theorem lw_s_X12_cast : Cond.selects RX12 yX12_cast yX12_cast ∈ zTB := zch_8 _ (List.mem_of_getElem? (i := 13) (by decide +kernel)) rfl
theorem lw_c_X12_cast : Cond.code yX12_cast cX12_cast 2 (some .int) ∈ zTB := zch_8 _ (List.mem_of_getElem? (i := 14) (by decide +kernel)) rfl
theorem lk_92 : zKV RL 92 RX12 yX12_cast cX12_cast 2 (some .int) 1 := ⟨lk_92_1, lw_i_X12_cast, lw_s_X12_cast, lw_n_RX12, lw_c_X12_cast, by decide +kernel, by decide⟩
theorem lk_93_1 : Cond.methodLink RL 93 yX11_sacks ∈ zTB := zch_3 _ (List.mem_of_getElem? (i := 236) (by decide +kernel)) rfl
theorem lw_i_X11_sacks : Cond.instanceMethod yX11_sacks ∈ zTB := zch_3 _ (List.mem_of_getElem? (i := 237) (by decide +kernel)) rfl
theorem lw_s_X11_sacks : Cond.selects RX11 yX11_sacks yX11_sacks ∈ zTB := zch_3 _ (List.mem_of_getElem? (i := 238) (by decide +kernel)) rfl
theorem lw_c_X11_sacks : Cond.code yX11_sacks cX11_sacks 3 (some .int) ∈ zTB := zch_3 _ (List.mem_of_getElem? (i := 239) (by decide +kernel)) rfl
theorem lk_93 : zKV RL 93 RX11 yX11_sacks cX11_sacks 3 (some .int) 2 := ⟨lk_93_1, lw_i_X11_sacks, lw_s_X11_sacks, lw_n_RX11, lw_c_X11_sacks, by decide +kernel, by decide⟩
theorem lk_96_1 : Cond.methodLink RL 96 yX12_sacks ∈ zTB := zch_8 _ (List.mem_of_getElem? (i := 19) (by decide +kernel)) rfl
theorem lw_i_X12_sacks : Cond.instanceMethod yX12_sacks ∈ zTB := zch_8 _ (List.mem_of_getElem? (i := 20) (by decide +kernel)) rfl
theorem lw_s_X12_sacks : Cond.selects RX12 yX12_sacks yX12_sacks ∈ zTB := zch_8 _ (List.mem_of_getElem? (i := 21) (by decide +kernel)) rfl
theorem lw_c_X12_sacks : Cond.code yX12_sacks cX12_sacks 3 (some .int) ∈ zTB := zch_8 _ (List.mem_of_getElem? (i := 22) (by decide +kernel)) rfl
theorem lk_96 : zKV RL 96 RX12 yX12_sacks cX12_sacks 3 (some .int) 2 := ⟨lk_96_1, lw_i_X12_sacks, lw_s_X12_sacks, lw_n_RX12, lw_c_X12_sacks, by decide +kernel, by decide⟩
theorem lk_97_1 : Cond.methodLink RL 97 yX11_cargo ∈ zTB := zch_4 _ (List.mem_of_getElem? (i := 8) (by decide +kernel)) rfl
theorem lw_i_X11_cargo : Cond.instanceMethod yX11_cargo ∈ zTB := zch_4 _ (List.mem_of_getElem? (i := 9) (by decide +kernel)) rfl
theorem lw_s_X11_cargo : Cond.selects RX11 yX11_cargo yX11_cargo ∈ zTB := zch_4 _ (List.mem_of_getElem? (i := 10) (by decide +kernel)) rfl
theorem lw_c_X11_cargo : Cond.code yX11_cargo cX11_cargo 4 (some .int) ∈ zTB := zch_4 _ (List.mem_of_getElem? (i := 11) (by decide +kernel)) rfl
theorem lk_97 : zKV RL 97 RX11 yX11_cargo cX11_cargo 4 (some .int) 2 := ⟨lk_97_1, lw_i_X11_cargo, lw_s_X11_cargo, lw_n_RX11, lw_c_X11_cargo, by decide +kernel, by decide⟩
theorem lk_100_1 : Cond.methodLink RL 100 yX12_cargo ∈ zTB := zch_8 _ (List.mem_of_getElem? (i := 27) (by decide +kernel)) rfl
theorem lw_i_X12_cargo : Cond.instanceMethod yX12_cargo ∈ zTB := zch_8 _ (List.mem_of_getElem? (i := 28) (by decide +kernel)) rfl
theorem lw_s_X12_cargo : Cond.selects RX12 yX12_cargo yX12_cargo ∈ zTB := zch_8 _ (List.mem_of_getElem? (i := 29) (by decide +kernel)) rfl
theorem lw_c_X12_cargo : Cond.code yX12_cargo cX12_cargo 3 (some .int) ∈ zTB := zch_8 _ (List.mem_of_getElem? (i := 30) (by decide +kernel)) rfl
theorem lk_100 : zKV RL 100 RX12 yX12_cargo cX12_cargo 3 (some .int) 2 := ⟨lk_100_1, lw_i_X12_cargo, lw_s_X12_cargo, lw_n_RX12, lw_c_X12_cargo, by decide +kernel, by decide⟩
theorem lk_101_1 : Cond.methodLink RL 101 yX11_fill ∈ zTB := zch_4 _ (List.mem_of_getElem? (i := 12) (by decide +kernel)) rfl
theorem lw_i_X11_fill : Cond.instanceMethod yX11_fill ∈ zTB := zch_4 _ (List.mem_of_getElem? (i := 13) (by decide +kernel)) rfl
theorem lw_s_X11_fill : Cond.selects RX11 yX11_fill yX11_fill ∈ zTB := zch_4 _ (List.mem_of_getElem? (i := 14) (by decide +kernel)) rfl
theorem lw_c_X11_fill : Cond.code yX11_fill cX11_fill 4 (some .int) ∈ zTB := zch_4 _ (List.mem_of_getElem? (i := 15) (by decide +kernel)) rfl
theorem lk_101 : zKV RL 101 RX11 yX11_fill cX11_fill 4 (some .int) 2 := ⟨lk_101_1, lw_i_X11_fill, lw_s_X11_fill, lw_n_RX11, lw_c_X11_fill, by decide +kernel, by decide⟩
theorem lk_104_1 : Cond.methodLink RL 104 yX12_fill ∈ zTB := zch_8 _ (List.mem_of_getElem? (i := 35) (by decide +kernel)) rfl
theorem lw_i_X12_fill : Cond.instanceMethod yX12_fill ∈ zTB := zch_8 _ (List.mem_of_getElem? (i := 36) (by decide +kernel)) rfl
theorem lw_s_X12_fill : Cond.selects RX12 yX12_fill yX12_fill ∈ zTB := zch_8 _ (List.mem_of_getElem? (i := 37) (by decide +kernel)) rfl
theorem lw_c_X12_fill : Cond.code yX12_fill cX12_fill 3 (some .int) ∈ zTB := zch_8 _ (List.mem_of_getElem? (i := 38) (by decide +kernel)) rfl
theorem lk_104 : zKV RL 104 RX12 yX12_fill cX12_fill 3 (some .int) 2 := ⟨lk_104_1, lw_i_X12_fill, lw_s_X12_fill, lw_n_RX12, lw_c_X12_fill, by decide +kernel, by decide⟩
theorem lk_105_1 : Cond.methodLink RL 105 yX11_hours ∈ zTB := zch_4 _ (List.mem_of_getElem? (i := 16) (by decide +kernel)) rfl
theorem lw_i_X11_hours : Cond.instanceMethod yX11_hours ∈ zTB := zch_4 _ (List.mem_of_getElem? (i := 17) (by decide +kernel)) rfl
theorem lw_s_X11_hours : Cond.selects RX11 yX11_hours yX11_hours ∈ zTB := zch_4 _ (List.mem_of_getElem? (i := 18) (by decide +kernel)) rfl
theorem lw_c_X11_hours : Cond.code yX11_hours cX11_hours 3 (some .int) ∈ zTB := zch_4 _ (List.mem_of_getElem? (i := 19) (by decide +kernel)) rfl
theorem lk_105 : zKV RL 105 RX11 yX11_hours cX11_hours 3 (some .int) 1 := ⟨lk_105_1, lw_i_X11_hours, lw_s_X11_hours, lw_n_RX11, lw_c_X11_hours, by decide +kernel, by decide⟩
theorem lk_108_1 : Cond.methodLink RL 108 yX12_hours ∈ zTB := zch_8 _ (List.mem_of_getElem? (i := 44) (by decide +kernel)) rfl
theorem lw_i_X12_hours : Cond.instanceMethod yX12_hours ∈ zTB := zch_8 _ (List.mem_of_getElem? (i := 45) (by decide +kernel)) rfl
theorem lw_s_X12_hours : Cond.selects RX12 yX12_hours yX12_hours ∈ zTB := zch_8 _ (List.mem_of_getElem? (i := 46) (by decide +kernel)) rfl
theorem lw_c_X12_hours : Cond.code yX12_hours cX12_hours 3 (some .int) ∈ zTB := zch_8 _ (List.mem_of_getElem? (i := 47) (by decide +kernel)) rfl
theorem lk_108 : zKV RL 108 RX12 yX12_hours cX12_hours 3 (some .int) 1 := ⟨lk_108_1, lw_i_X12_hours, lw_s_X12_hours, lw_n_RX12, lw_c_X12_hours, by decide +kernel, by decide⟩
theorem lk_109_1 : Cond.methodLink RL 109 yX11_day ∈ zTB := zch_4 _ (List.mem_of_getElem? (i := 76) (by decide +kernel)) rfl
theorem lw_i_X11_day : Cond.instanceMethod yX11_day ∈ zTB := zch_4 _ (List.mem_of_getElem? (i := 77) (by decide +kernel)) rfl
theorem lw_s_X11_day : Cond.selects RX11 yX11_day yX11_day ∈ zTB := zch_4 _ (List.mem_of_getElem? (i := 78) (by decide +kernel)) rfl
theorem lw_c_X11_day : Cond.code yX11_day cX11_day 4 (some .int) ∈ zTB := zch_4 _ (List.mem_of_getElem? (i := 79) (by decide +kernel)) rfl
theorem lk_109 : zKV RL 109 RX11 yX11_day cX11_day 4 (some .int) 0 := ⟨lk_109_1, lw_i_X11_day, lw_s_X11_day, lw_n_RX11, lw_c_X11_day, by decide +kernel, by decide⟩
theorem lk_112_1 : Cond.methodLink RL 112 yX12_day ∈ zTB := zch_8 _ (List.mem_of_getElem? (i := 83) (by decide +kernel)) rfl
theorem lw_i_X12_day : Cond.instanceMethod yX12_day ∈ zTB := zch_8 _ (List.mem_of_getElem? (i := 84) (by decide +kernel)) rfl
theorem lw_s_X12_day : Cond.selects RX12 yX12_day yX12_day ∈ zTB := zch_8 _ (List.mem_of_getElem? (i := 85) (by decide +kernel)) rfl
theorem lw_c_X12_day : Cond.code yX12_day cX12_day 6 (some .int) ∈ zTB := zch_8 _ (List.mem_of_getElem? (i := 86) (by decide +kernel)) rfl
theorem lk_112 : zKV RL 112 RX12 yX12_day cX12_day 6 (some .int) 0 := ⟨lk_112_1, lw_i_X12_day, lw_s_X12_day, lw_n_RX12, lw_c_X12_day, by decide +kernel, by decide⟩
theorem lk_113_1 : Cond.methodLink RL 113 yX11_undo ∈ zTB := zch_4 _ (List.mem_of_getElem? (i := 120) (by decide +kernel)) rfl
theorem lw_i_X11_undo : Cond.instanceMethod yX11_undo ∈ zTB := zch_4 _ (List.mem_of_getElem? (i := 121) (by decide +kernel)) rfl
theorem lw_s_X11_undo : Cond.selects RX11 yX11_undo yX11_undo ∈ zTB := zch_4 _ (List.mem_of_getElem? (i := 122) (by decide +kernel)) rfl
theorem lw_c_X11_undo : Cond.code yX11_undo cX11_undo 1 (some .int) ∈ zTB := zch_4 _ (List.mem_of_getElem? (i := 123) (by decide +kernel)) rfl
theorem lk_113 : zKV RL 113 RX11 yX11_undo cX11_undo 1 (some .int) 0 := ⟨lk_113_1, lw_i_X11_undo, lw_s_X11_undo, lw_n_RX11, lw_c_X11_undo, by decide +kernel, by decide⟩
theorem lk_116_1 : Cond.methodLink RL 116 yX12_undo ∈ zTB := zch_7 _ (List.mem_of_getElem? (i := 208) (by decide +kernel)) rfl
theorem lw_i_X12_undo : Cond.instanceMethod yX12_undo ∈ zTB := zch_7 _ (List.mem_of_getElem? (i := 209) (by decide +kernel)) rfl
theorem lw_s_X12_undo : Cond.selects RX12 yX12_undo yX12_undo ∈ zTB := zch_7 _ (List.mem_of_getElem? (i := 210) (by decide +kernel)) rfl
theorem lw_c_X12_undo : Cond.code yX12_undo cX12_undo 2 (some .int) ∈ zTB := zch_7 _ (List.mem_of_getElem? (i := 211) (by decide +kernel)) rfl
theorem lk_116 : zKV RL 116 RX12 yX12_undo cX12_undo 2 (some .int) 0 := ⟨lk_116_1, lw_i_X12_undo, lw_s_X12_undo, lw_n_RX12, lw_c_X12_undo, by decide +kernel, by decide⟩
theorem lk_117_1 : Cond.methodLink RL 117 yX11_touches ∈ zTB := zch_4 _ (List.mem_of_getElem? (i := 132) (by decide +kernel)) rfl
theorem lw_i_X11_touches : Cond.instanceMethod yX11_touches ∈ zTB := zch_4 _ (List.mem_of_getElem? (i := 133) (by decide +kernel)) rfl
theorem lw_s_X11_touches : Cond.selects RX11 yX11_touches yX11_touches ∈ zTB := zch_4 _ (List.mem_of_getElem? (i := 134) (by decide +kernel)) rfl
theorem lw_c_X11_touches : Cond.code yX11_touches cX11_touches 4 (some .int) ∈ zTB := zch_4 _ (List.mem_of_getElem? (i := 135) (by decide +kernel)) rfl
theorem lk_117 : zKV RL 117 RX11 yX11_touches cX11_touches 4 (some .int) 0 := ⟨lk_117_1, lw_i_X11_touches, lw_s_X11_touches, lw_n_RX11, lw_c_X11_touches, by decide +kernel, by decide⟩
theorem lk_120_1 : Cond.methodLink RL 120 yX12_touches ∈ zTB := zch_8 _ (List.mem_of_getElem? (i := 96) (by decide +kernel)) rfl
theorem lw_i_X12_touches : Cond.instanceMethod yX12_touches ∈ zTB := zch_8 _ (List.mem_of_getElem? (i := 97) (by decide +kernel)) rfl
theorem lw_s_X12_touches : Cond.selects RX12 yX12_touches yX12_touches ∈ zTB := zch_8 _ (List.mem_of_getElem? (i := 98) (by decide +kernel)) rfl
theorem lw_c_X12_touches : Cond.code yX12_touches cX12_touches 4 (some .int) ∈ zTB := zch_8 _ (List.mem_of_getElem? (i := 99) (by decide +kernel)) rfl
theorem lk_120 : zKV RL 120 RX12 yX12_touches cX12_touches 4 (some .int) 0 := ⟨lk_120_1, lw_i_X12_touches, lw_s_X12_touches, lw_n_RX12, lw_c_X12_touches, by decide +kernel, by decide⟩
theorem lk_121_1 : Cond.methodLink RL 121 yX11_breaches ∈ zTB := zch_4 _ (List.mem_of_getElem? (i := 141) (by decide +kernel)) rfl
theorem lw_i_X11_breaches : Cond.instanceMethod yX11_breaches ∈ zTB := zch_4 _ (List.mem_of_getElem? (i := 142) (by decide +kernel)) rfl
theorem lw_s_X11_breaches : Cond.selects RX11 yX11_breaches yX11_breaches ∈ zTB := zch_4 _ (List.mem_of_getElem? (i := 143) (by decide +kernel)) rfl
theorem lw_c_X11_breaches : Cond.code yX11_breaches cX11_breaches 4 (some .int) ∈ zTB := zch_4 _ (List.mem_of_getElem? (i := 144) (by decide +kernel)) rfl
theorem lk_121 : zKV RL 121 RX11 yX11_breaches cX11_breaches 4 (some .int) 0 := ⟨lk_121_1, lw_i_X11_breaches, lw_s_X11_breaches, lw_n_RX11, lw_c_X11_breaches, by decide +kernel, by decide⟩
theorem lk_124_1 : Cond.methodLink RL 124 yX12_breaches ∈ zTB := zch_8 _ (List.mem_of_getElem? (i := 100) (by decide +kernel)) rfl
theorem lw_i_X12_breaches : Cond.instanceMethod yX12_breaches ∈ zTB := zch_8 _ (List.mem_of_getElem? (i := 101) (by decide +kernel)) rfl
theorem lw_s_X12_breaches : Cond.selects RX12 yX12_breaches yX12_breaches ∈ zTB := zch_8 _ (List.mem_of_getElem? (i := 102) (by decide +kernel)) rfl
theorem lw_c_X12_breaches : Cond.code yX12_breaches cX12_breaches 4 (some .int) ∈ zTB := zch_8 _ (List.mem_of_getElem? (i := 103) (by decide +kernel)) rfl
theorem lk_124 : zKV RL 124 RX12 yX12_breaches cX12_breaches 4 (some .int) 0 := ⟨lk_124_1, lw_i_X12_breaches, lw_s_X12_breaches, lw_n_RX12, lw_c_X12_breaches, by decide +kernel, by decide⟩
theorem lk_125_1 : Cond.methodLink RL 125 yX11_drifts ∈ zTB := zch_4 _ (List.mem_of_getElem? (i := 157) (by decide +kernel)) rfl
theorem lw_i_X11_drifts : Cond.instanceMethod yX11_drifts ∈ zTB := zch_4 _ (List.mem_of_getElem? (i := 158) (by decide +kernel)) rfl
theorem lw_s_X11_drifts : Cond.selects RX11 yX11_drifts yX11_drifts ∈ zTB := zch_4 _ (List.mem_of_getElem? (i := 159) (by decide +kernel)) rfl
theorem lw_c_X11_drifts : Cond.code yX11_drifts cX11_drifts 4 (some .int) ∈ zTB := zch_4 _ (List.mem_of_getElem? (i := 160) (by decide +kernel)) rfl
theorem lk_125 : zKV RL 125 RX11 yX11_drifts cX11_drifts 4 (some .int) 2 := ⟨lk_125_1, lw_i_X11_drifts, lw_s_X11_drifts, lw_n_RX11, lw_c_X11_drifts, by decide +kernel, by decide⟩
theorem lk_128_1 : Cond.methodLink RL 128 yX12_drifts ∈ zTB := zch_8 _ (List.mem_of_getElem? (i := 108) (by decide +kernel)) rfl
theorem lw_i_X12_drifts : Cond.instanceMethod yX12_drifts ∈ zTB := zch_8 _ (List.mem_of_getElem? (i := 109) (by decide +kernel)) rfl
theorem lw_s_X12_drifts : Cond.selects RX12 yX12_drifts yX12_drifts ∈ zTB := zch_8 _ (List.mem_of_getElem? (i := 110) (by decide +kernel)) rfl
theorem lw_c_X12_drifts : Cond.code yX12_drifts cX12_drifts 4 (some .int) ∈ zTB := zch_8 _ (List.mem_of_getElem? (i := 111) (by decide +kernel)) rfl
theorem lk_128 : zKV RL 128 RX12 yX12_drifts cX12_drifts 4 (some .int) 2 := ⟨lk_128_1, lw_i_X12_drifts, lw_s_X12_drifts, lw_n_RX12, lw_c_X12_drifts, by decide +kernel, by decide⟩
theorem lk_129_1 : Cond.methodLink RL 129 yX11_sinks ∈ zTB := zch_4 _ (List.mem_of_getElem? (i := 173) (by decide +kernel)) rfl
theorem lw_i_X11_sinks : Cond.instanceMethod yX11_sinks ∈ zTB := zch_4 _ (List.mem_of_getElem? (i := 174) (by decide +kernel)) rfl
theorem lw_s_X11_sinks : Cond.selects RX11 yX11_sinks yX11_sinks ∈ zTB := zch_4 _ (List.mem_of_getElem? (i := 175) (by decide +kernel)) rfl
theorem lw_c_X11_sinks : Cond.code yX11_sinks cX11_sinks 3 (some .int) ∈ zTB := zch_4 _ (List.mem_of_getElem? (i := 176) (by decide +kernel)) rfl
theorem lk_129 : zKV RL 129 RX11 yX11_sinks cX11_sinks 3 (some .int) 1 := ⟨lk_129_1, lw_i_X11_sinks, lw_s_X11_sinks, lw_n_RX11, lw_c_X11_sinks, by decide +kernel, by decide⟩
theorem lk_132_1 : Cond.methodLink RL 132 yX12_sinks ∈ zTB := zch_8 _ (List.mem_of_getElem? (i := 117) (by decide +kernel)) rfl
theorem lw_i_X12_sinks : Cond.instanceMethod yX12_sinks ∈ zTB := zch_8 _ (List.mem_of_getElem? (i := 118) (by decide +kernel)) rfl
theorem lw_s_X12_sinks : Cond.selects RX12 yX12_sinks yX12_sinks ∈ zTB := zch_8 _ (List.mem_of_getElem? (i := 119) (by decide +kernel)) rfl
theorem lw_c_X12_sinks : Cond.code yX12_sinks cX12_sinks 3 (some .int) ∈ zTB := zch_8 _ (List.mem_of_getElem? (i := 120) (by decide +kernel)) rfl
theorem lk_132 : zKV RL 132 RX12 yX12_sinks cX12_sinks 3 (some .int) 1 := ⟨lk_132_1, lw_i_X12_sinks, lw_s_X12_sinks, lw_n_RX12, lw_c_X12_sinks, by decide +kernel, by decide⟩
theorem lk_133_1 : Cond.methodLink RL 133 yX11_rises ∈ zTB := zch_4 _ (List.mem_of_getElem? (i := 178) (by decide +kernel)) rfl
theorem lw_i_X11_rises : Cond.instanceMethod yX11_rises ∈ zTB := zch_4 _ (List.mem_of_getElem? (i := 179) (by decide +kernel)) rfl
theorem lw_s_X11_rises : Cond.selects RX11 yX11_rises yX11_rises ∈ zTB := zch_4 _ (List.mem_of_getElem? (i := 180) (by decide +kernel)) rfl
theorem lw_c_X11_rises : Cond.code yX11_rises cX11_rises 6 (some .int) ∈ zTB := zch_4 _ (List.mem_of_getElem? (i := 181) (by decide +kernel)) rfl
theorem lk_133 : zKV RL 133 RX11 yX11_rises cX11_rises 6 (some .int) 2 := ⟨lk_133_1, lw_i_X11_rises, lw_s_X11_rises, lw_n_RX11, lw_c_X11_rises, by decide +kernel, by decide⟩
theorem lk_136_1 : Cond.methodLink RL 136 yX12_rises ∈ zTB := zch_8 _ (List.mem_of_getElem? (i := 125) (by decide +kernel)) rfl
theorem lw_i_X12_rises : Cond.instanceMethod yX12_rises ∈ zTB := zch_8 _ (List.mem_of_getElem? (i := 126) (by decide +kernel)) rfl
theorem lw_s_X12_rises : Cond.selects RX12 yX12_rises yX12_rises ∈ zTB := zch_8 _ (List.mem_of_getElem? (i := 127) (by decide +kernel)) rfl
theorem lw_c_X12_rises : Cond.code yX12_rises cX12_rises 4 (some .int) ∈ zTB := zch_8 _ (List.mem_of_getElem? (i := 128) (by decide +kernel)) rfl
theorem lk_136 : zKV RL 136 RX12 yX12_rises cX12_rises 4 (some .int) 2 := ⟨lk_136_1, lw_i_X12_rises, lw_s_X12_rises, lw_n_RX12, lw_c_X12_rises, by decide +kernel, by decide⟩
theorem lk_137_1 : Cond.methodLink RL 137 yX11_berths ∈ zTB := zch_4 _ (List.mem_of_getElem? (i := 183) (by decide +kernel)) rfl
theorem lw_i_X11_berths : Cond.instanceMethod yX11_berths ∈ zTB := zch_4 _ (List.mem_of_getElem? (i := 184) (by decide +kernel)) rfl
theorem lw_s_X11_berths : Cond.selects RX11 yX11_berths yX11_berths ∈ zTB := zch_4 _ (List.mem_of_getElem? (i := 185) (by decide +kernel)) rfl
theorem lw_c_X11_berths : Cond.code yX11_berths cX11_berths 4 (some .int) ∈ zTB := zch_4 _ (List.mem_of_getElem? (i := 186) (by decide +kernel)) rfl
theorem lk_137 : zKV RL 137 RX11 yX11_berths cX11_berths 4 (some .int) 1 := ⟨lk_137_1, lw_i_X11_berths, lw_s_X11_berths, lw_n_RX11, lw_c_X11_berths, by decide +kernel, by decide⟩
theorem lk_140_1 : Cond.methodLink RL 140 yX12_berths ∈ zTB := zch_8 _ (List.mem_of_getElem? (i := 129) (by decide +kernel)) rfl
theorem lw_i_X12_berths : Cond.instanceMethod yX12_berths ∈ zTB := zch_8 _ (List.mem_of_getElem? (i := 130) (by decide +kernel)) rfl
theorem lw_s_X12_berths : Cond.selects RX12 yX12_berths yX12_berths ∈ zTB := zch_8 _ (List.mem_of_getElem? (i := 131) (by decide +kernel)) rfl
theorem lw_c_X12_berths : Cond.code yX12_berths cX12_berths 3 (some .int) ∈ zTB := zch_8 _ (List.mem_of_getElem? (i := 132) (by decide +kernel)) rfl
theorem lk_140 : zKV RL 140 RX12 yX12_berths cX12_berths 3 (some .int) 1 := ⟨lk_140_1, lw_i_X12_berths, lw_s_X12_berths, lw_n_RX12, lw_c_X12_berths, by decide +kernel, by decide⟩
theorem lk_141_1 : Cond.methodLink RL 141 yX11_served ∈ zTB := zch_4 _ (List.mem_of_getElem? (i := 218) (by decide +kernel)) rfl
theorem lw_i_X11_served : Cond.instanceMethod yX11_served ∈ zTB := zch_4 _ (List.mem_of_getElem? (i := 219) (by decide +kernel)) rfl
theorem lw_s_X11_served : Cond.selects RX11 yX11_served yX11_served ∈ zTB := zch_4 _ (List.mem_of_getElem? (i := 220) (by decide +kernel)) rfl
theorem lw_c_X11_served : Cond.code yX11_served cX11_served 5 (some .int) ∈ zTB := zch_4 _ (List.mem_of_getElem? (i := 221) (by decide +kernel)) rfl
theorem lk_141 : zKV RL 141 RX11 yX11_served cX11_served 5 (some .int) 1 := ⟨lk_141_1, lw_i_X11_served, lw_s_X11_served, lw_n_RX11, lw_c_X11_served, by decide +kernel, by decide⟩
theorem lk_144_1 : Cond.methodLink RL 144 yX12_served ∈ zTB := zch_8 _ (List.mem_of_getElem? (i := 144) (by decide +kernel)) rfl
theorem lw_i_X12_served : Cond.instanceMethod yX12_served ∈ zTB := zch_8 _ (List.mem_of_getElem? (i := 145) (by decide +kernel)) rfl
theorem lw_s_X12_served : Cond.selects RX12 yX12_served yX12_served ∈ zTB := zch_8 _ (List.mem_of_getElem? (i := 146) (by decide +kernel)) rfl
theorem lw_c_X12_served : Cond.code yX12_served cX12_served 4 (some .int) ∈ zTB := zch_8 _ (List.mem_of_getElem? (i := 147) (by decide +kernel)) rfl
theorem lk_144 : zKV RL 144 RX12 yX12_served cX12_served 4 (some .int) 1 := ⟨lk_144_1, lw_i_X12_served, lw_s_X12_served, lw_n_RX12, lw_c_X12_served, by decide +kernel, by decide⟩
theorem lk_145_1 : Cond.methodLink RL 145 yX11_yields ∈ zTB := zch_4 _ (List.mem_of_getElem? (i := 226) (by decide +kernel)) rfl
theorem lw_i_X11_yields : Cond.instanceMethod yX11_yields ∈ zTB := zch_4 _ (List.mem_of_getElem? (i := 227) (by decide +kernel)) rfl
theorem lw_s_X11_yields : Cond.selects RX11 yX11_yields yX11_yields ∈ zTB := zch_4 _ (List.mem_of_getElem? (i := 228) (by decide +kernel)) rfl
theorem lw_c_X11_yields : Cond.code yX11_yields cX11_yields 5 (some .int) ∈ zTB := zch_4 _ (List.mem_of_getElem? (i := 229) (by decide +kernel)) rfl
theorem lk_145 : zKV RL 145 RX11 yX11_yields cX11_yields 5 (some .int) 1 := ⟨lk_145_1, lw_i_X11_yields, lw_s_X11_yields, lw_n_RX11, lw_c_X11_yields, by decide +kernel, by decide⟩
theorem lk_148_1 : Cond.methodLink RL 148 yX12_yields ∈ zTB := zch_8 _ (List.mem_of_getElem? (i := 149) (by decide +kernel)) rfl
theorem lw_i_X12_yields : Cond.instanceMethod yX12_yields ∈ zTB := zch_8 _ (List.mem_of_getElem? (i := 150) (by decide +kernel)) rfl
theorem lw_s_X12_yields : Cond.selects RX12 yX12_yields yX12_yields ∈ zTB := zch_8 _ (List.mem_of_getElem? (i := 151) (by decide +kernel)) rfl
theorem lw_c_X12_yields : Cond.code yX12_yields cX12_yields 6 (some .int) ∈ zTB := zch_8 _ (List.mem_of_getElem? (i := 152) (by decide +kernel)) rfl
theorem lk_148 : zKV RL 148 RX12 yX12_yields cX12_yields 6 (some .int) 1 := ⟨lk_148_1, lw_i_X12_yields, lw_s_X12_yields, lw_n_RX12, lw_c_X12_yields, by decide +kernel, by decide⟩
theorem lk_149_1 : Cond.methodLink RL 149 yX11_lands ∈ zTB := zch_4 _ (List.mem_of_getElem? (i := 232) (by decide +kernel)) rfl
theorem lw_i_X11_lands : Cond.instanceMethod yX11_lands ∈ zTB := zch_4 _ (List.mem_of_getElem? (i := 233) (by decide +kernel)) rfl
theorem lw_s_X11_lands : Cond.selects RX11 yX11_lands yX11_lands ∈ zTB := zch_4 _ (List.mem_of_getElem? (i := 234) (by decide +kernel)) rfl
theorem lw_c_X11_lands : Cond.code yX11_lands cX11_lands 5 (some .int) ∈ zTB := zch_4 _ (List.mem_of_getElem? (i := 235) (by decide +kernel)) rfl
theorem lk_149 : zKV RL 149 RX11 yX11_lands cX11_lands 5 (some .int) 3 := ⟨lk_149_1, lw_i_X11_lands, lw_s_X11_lands, lw_n_RX11, lw_c_X11_lands, by decide +kernel, by decide⟩
theorem lk_153_1 : Cond.methodLink RL 153 yX12_lands ∈ zTB := zch_8 _ (List.mem_of_getElem? (i := 153) (by decide +kernel)) rfl
theorem lw_i_X12_lands : Cond.instanceMethod yX12_lands ∈ zTB := zch_8 _ (List.mem_of_getElem? (i := 154) (by decide +kernel)) rfl
theorem lw_s_X12_lands : Cond.selects RX12 yX12_lands yX12_lands ∈ zTB := zch_8 _ (List.mem_of_getElem? (i := 155) (by decide +kernel)) rfl
theorem lw_c_X12_lands : Cond.code yX12_lands cX12_lands 5 (some .int) ∈ zTB := zch_8 _ (List.mem_of_getElem? (i := 156) (by decide +kernel)) rfl
theorem lk_153 : zKV RL 153 RX12 yX12_lands cX12_lands 5 (some .int) 3 := ⟨lk_153_1, lw_i_X12_lands, lw_s_X12_lands, lw_n_RX12, lw_c_X12_lands, by decide +kernel, by decide⟩
theorem lk_154_1 : Cond.methodLink RL 154 yX11_nearest ∈ zTB := zch_5 _ (List.mem_of_getElem? (i := 41) (by decide +kernel)) rfl
theorem lw_i_X11_nearest : Cond.instanceMethod yX11_nearest ∈ zTB := zch_5 _ (List.mem_of_getElem? (i := 42) (by decide +kernel)) rfl
theorem lw_s_X11_nearest : Cond.selects RX11 yX11_nearest yX11_nearest ∈ zTB := zch_5 _ (List.mem_of_getElem? (i := 43) (by decide +kernel)) rfl
theorem lw_c_X11_nearest : Cond.code yX11_nearest cX11_nearest 7 (some .int) ∈ zTB := zch_5 _ (List.mem_of_getElem? (i := 44) (by decide +kernel)) rfl
theorem lk_154 : zKV RL 154 RX11 yX11_nearest cX11_nearest 7 (some .int) 2 := ⟨lk_154_1, lw_i_X11_nearest, lw_s_X11_nearest, lw_n_RX11, lw_c_X11_nearest, by decide +kernel, by decide⟩
theorem lk_157_1 : Cond.methodLink RL 157 yX12_nearest ∈ zTB := zch_8 _ (List.mem_of_getElem? (i := 182) (by decide +kernel)) rfl
theorem lw_i_X12_nearest : Cond.instanceMethod yX12_nearest ∈ zTB := zch_8 _ (List.mem_of_getElem? (i := 183) (by decide +kernel)) rfl
theorem lw_s_X12_nearest : Cond.selects RX12 yX12_nearest yX12_nearest ∈ zTB := zch_8 _ (List.mem_of_getElem? (i := 184) (by decide +kernel)) rfl
theorem lw_c_X12_nearest : Cond.code yX12_nearest cX12_nearest 7 (some .int) ∈ zTB := zch_8 _ (List.mem_of_getElem? (i := 185) (by decide +kernel)) rfl
theorem lk_157 : zKV RL 157 RX12 yX12_nearest cX12_nearest 7 (some .int) 2 := ⟨lk_157_1, lw_i_X12_nearest, lw_s_X12_nearest, lw_n_RX12, lw_c_X12_nearest, by decide +kernel, by decide⟩
theorem lk_158_1 : Cond.methodLink RL 158 yX11_storm ∈ zTB := zch_5 _ (List.mem_of_getElem? (i := 49) (by decide +kernel)) rfl
theorem lw_i_X11_storm : Cond.instanceMethod yX11_storm ∈ zTB := zch_5 _ (List.mem_of_getElem? (i := 50) (by decide +kernel)) rfl
theorem lw_s_X11_storm : Cond.selects RX11 yX11_storm yX11_storm ∈ zTB := zch_5 _ (List.mem_of_getElem? (i := 51) (by decide +kernel)) rfl
theorem lw_c_X11_storm : Cond.code yX11_storm cX11_storm 5 (some .int) ∈ zTB := zch_5 _ (List.mem_of_getElem? (i := 52) (by decide +kernel)) rfl
theorem lk_158 : zKV RL 158 RX11 yX11_storm cX11_storm 5 (some .int) 0 := ⟨lk_158_1, lw_i_X11_storm, lw_s_X11_storm, lw_n_RX11, lw_c_X11_storm, by decide +kernel, by decide⟩
theorem lk_161_1 : Cond.methodLink RL 161 yX12_storm ∈ zTB := zch_8 _ (List.mem_of_getElem? (i := 186) (by decide +kernel)) rfl
theorem lw_i_X12_storm : Cond.instanceMethod yX12_storm ∈ zTB := zch_8 _ (List.mem_of_getElem? (i := 187) (by decide +kernel)) rfl
theorem lw_s_X12_storm : Cond.selects RX12 yX12_storm yX12_storm ∈ zTB := zch_8 _ (List.mem_of_getElem? (i := 188) (by decide +kernel)) rfl
theorem lw_c_X12_storm : Cond.code yX12_storm cX12_storm 2 (some .int) ∈ zTB := zch_8 _ (List.mem_of_getElem? (i := 189) (by decide +kernel)) rfl
theorem lk_161 : zKV RL 161 RX12 yX12_storm cX12_storm 2 (some .int) 0 := ⟨lk_161_1, lw_i_X12_storm, lw_s_X12_storm, lw_n_RX12, lw_c_X12_storm, by decide +kernel, by decide⟩
theorem lk_162_1 : Cond.methodLink RL 162 yX11_rests ∈ zTB := zch_5 _ (List.mem_of_getElem? (i := 65) (by decide +kernel)) rfl
theorem lw_i_X11_rests : Cond.instanceMethod yX11_rests ∈ zTB := zch_5 _ (List.mem_of_getElem? (i := 66) (by decide +kernel)) rfl
theorem lw_s_X11_rests : Cond.selects RX11 yX11_rests yX11_rests ∈ zTB := zch_5 _ (List.mem_of_getElem? (i := 67) (by decide +kernel)) rfl
theorem lw_c_X11_rests : Cond.code yX11_rests cX11_rests 5 (some .int) ∈ zTB := zch_5 _ (List.mem_of_getElem? (i := 68) (by decide +kernel)) rfl
theorem lk_162 : zKV RL 162 RX11 yX11_rests cX11_rests 5 (some .int) 1 := ⟨lk_162_1, lw_i_X11_rests, lw_s_X11_rests, lw_n_RX11, lw_c_X11_rests, by decide +kernel, by decide⟩
theorem lk_165_1 : Cond.methodLink RL 165 yX12_rests ∈ zTB := zch_8 _ (List.mem_of_getElem? (i := 194) (by decide +kernel)) rfl
theorem lw_i_X12_rests : Cond.instanceMethod yX12_rests ∈ zTB := zch_8 _ (List.mem_of_getElem? (i := 195) (by decide +kernel)) rfl
theorem lw_s_X12_rests : Cond.selects RX12 yX12_rests yX12_rests ∈ zTB := zch_8 _ (List.mem_of_getElem? (i := 196) (by decide +kernel)) rfl
theorem lw_c_X12_rests : Cond.code yX12_rests cX12_rests 5 (some .int) ∈ zTB := zch_8 _ (List.mem_of_getElem? (i := 197) (by decide +kernel)) rfl
theorem lk_165 : zKV RL 165 RX12 yX12_rests cX12_rests 5 (some .int) 1 := ⟨lk_165_1, lw_i_X12_rests, lw_s_X12_rests, lw_n_RX12, lw_c_X12_rests, by decide +kernel, by decide⟩
theorem lk_166_1 : Cond.methodLink RL 166 yX11_mark ∈ zTB := zch_5 _ (List.mem_of_getElem? (i := 75) (by decide +kernel)) rfl
theorem lw_i_X11_mark : Cond.instanceMethod yX11_mark ∈ zTB := zch_5 _ (List.mem_of_getElem? (i := 76) (by decide +kernel)) rfl
theorem lw_s_X11_mark : Cond.selects RX11 yX11_mark yX11_mark ∈ zTB := zch_5 _ (List.mem_of_getElem? (i := 77) (by decide +kernel)) rfl
theorem lw_c_X11_mark : Cond.code yX11_mark cX11_mark 4 (some .int) ∈ zTB := zch_5 _ (List.mem_of_getElem? (i := 78) (by decide +kernel)) rfl
theorem lk_166 : zKV RL 166 RX11 yX11_mark cX11_mark 4 (some .int) 3 := ⟨lk_166_1, lw_i_X11_mark, lw_s_X11_mark, lw_n_RX11, lw_c_X11_mark, by decide +kernel, by decide⟩
theorem lk_169_1 : Cond.methodLink RL 169 yX12_mark ∈ zTB := zch_8 _ (List.mem_of_getElem? (i := 204) (by decide +kernel)) rfl
theorem lw_i_X12_mark : Cond.instanceMethod yX12_mark ∈ zTB := zch_8 _ (List.mem_of_getElem? (i := 205) (by decide +kernel)) rfl
theorem lw_s_X12_mark : Cond.selects RX12 yX12_mark yX12_mark ∈ zTB := zch_8 _ (List.mem_of_getElem? (i := 206) (by decide +kernel)) rfl
theorem lw_c_X12_mark : Cond.code yX12_mark cX12_mark 4 (some .int) ∈ zTB := zch_8 _ (List.mem_of_getElem? (i := 207) (by decide +kernel)) rfl
theorem lk_169 : zKV RL 169 RX12 yX12_mark cX12_mark 4 (some .int) 3 := ⟨lk_169_1, lw_i_X12_mark, lw_s_X12_mark, lw_n_RX12, lw_c_X12_mark, by decide +kernel, by decide⟩
theorem lk_170_1 : Cond.methodLink RL 170 yX11_wipe ∈ zTB := zch_5 _ (List.mem_of_getElem? (i := 83) (by decide +kernel)) rfl
theorem lw_i_X11_wipe : Cond.instanceMethod yX11_wipe ∈ zTB := zch_5 _ (List.mem_of_getElem? (i := 84) (by decide +kernel)) rfl
theorem lw_s_X11_wipe : Cond.selects RX11 yX11_wipe yX11_wipe ∈ zTB := zch_5 _ (List.mem_of_getElem? (i := 85) (by decide +kernel)) rfl
theorem lw_c_X11_wipe : Cond.code yX11_wipe cX11_wipe 2 (some .int) ∈ zTB := zch_5 _ (List.mem_of_getElem? (i := 86) (by decide +kernel)) rfl
theorem lk_170 : zKV RL 170 RX11 yX11_wipe cX11_wipe 2 (some .int) 0 := ⟨lk_170_1, lw_i_X11_wipe, lw_s_X11_wipe, lw_n_RX11, lw_c_X11_wipe, by decide +kernel, by decide⟩
theorem lk_173_1 : Cond.methodLink RL 173 yX12_wipe ∈ zTB := zch_8 _ (List.mem_of_getElem? (i := 209) (by decide +kernel)) rfl
theorem lw_i_X12_wipe : Cond.instanceMethod yX12_wipe ∈ zTB := zch_8 _ (List.mem_of_getElem? (i := 210) (by decide +kernel)) rfl
theorem lw_s_X12_wipe : Cond.selects RX12 yX12_wipe yX12_wipe ∈ zTB := zch_8 _ (List.mem_of_getElem? (i := 211) (by decide +kernel)) rfl
theorem lw_c_X12_wipe : Cond.code yX12_wipe cX12_wipe 2 (some .int) ∈ zTB := zch_8 _ (List.mem_of_getElem? (i := 212) (by decide +kernel)) rfl
theorem lk_173 : zKV RL 173 RX12 yX12_wipe cX12_wipe 2 (some .int) 0 := ⟨lk_173_1, lw_i_X12_wipe, lw_s_X12_wipe, lw_n_RX12, lw_c_X12_wipe, by decide +kernel, by decide⟩
theorem lk_174_1 : Cond.methodLink RL 174 yX11_lay ∈ zTB := zch_5 _ (List.mem_of_getElem? (i := 87) (by decide +kernel)) rfl
theorem lw_i_X11_lay : Cond.instanceMethod yX11_lay ∈ zTB := zch_5 _ (List.mem_of_getElem? (i := 88) (by decide +kernel)) rfl
theorem lw_s_X11_lay : Cond.selects RX11 yX11_lay yX11_lay ∈ zTB := zch_5 _ (List.mem_of_getElem? (i := 89) (by decide +kernel)) rfl
theorem lw_c_X11_lay : Cond.code yX11_lay cX11_lay 3 (some .int) ∈ zTB := zch_5 _ (List.mem_of_getElem? (i := 90) (by decide +kernel)) rfl
theorem lk_174 : zKV RL 174 RX11 yX11_lay cX11_lay 3 (some .int) 1 := ⟨lk_174_1, lw_i_X11_lay, lw_s_X11_lay, lw_n_RX11, lw_c_X11_lay, by decide +kernel, by decide⟩
theorem lk_177_1 : Cond.methodLink RL 177 yX12_lay ∈ zTB := zch_8 _ (List.mem_of_getElem? (i := 213) (by decide +kernel)) rfl
theorem lw_i_X12_lay : Cond.instanceMethod yX12_lay ∈ zTB := zch_8 _ (List.mem_of_getElem? (i := 214) (by decide +kernel)) rfl
theorem lw_s_X12_lay : Cond.selects RX12 yX12_lay yX12_lay ∈ zTB := zch_8 _ (List.mem_of_getElem? (i := 215) (by decide +kernel)) rfl
theorem lw_c_X12_lay : Cond.code yX12_lay cX12_lay 4 (some .int) ∈ zTB := zch_8 _ (List.mem_of_getElem? (i := 216) (by decide +kernel)) rfl
theorem lk_177 : zKV RL 177 RX12 yX12_lay cX12_lay 4 (some .int) 1 := ⟨lk_177_1, lw_i_X12_lay, lw_s_X12_lay, lw_n_RX12, lw_c_X12_lay, by decide +kernel, by decide⟩
theorem lk_178_1 : Cond.methodLink RL 178 yX11_ways ∈ zTB := zch_5 _ (List.mem_of_getElem? (i := 100) (by decide +kernel)) rfl
theorem lw_i_X11_ways : Cond.instanceMethod yX11_ways ∈ zTB := zch_5 _ (List.mem_of_getElem? (i := 101) (by decide +kernel)) rfl
theorem lw_s_X11_ways : Cond.selects RX11 yX11_ways yX11_ways ∈ zTB := zch_5 _ (List.mem_of_getElem? (i := 102) (by decide +kernel)) rfl
theorem lw_c_X11_ways : Cond.code yX11_ways cX11_ways 3 (some .int) ∈ zTB := zch_5 _ (List.mem_of_getElem? (i := 103) (by decide +kernel)) rfl
theorem lk_178 : zKV RL 178 RX11 yX11_ways cX11_ways 3 (some .int) 0 := ⟨lk_178_1, lw_i_X11_ways, lw_s_X11_ways, lw_n_RX11, lw_c_X11_ways, by decide +kernel, by decide⟩
theorem lk_181_1 : Cond.methodLink RL 181 yX12_ways ∈ zTB := zch_8 _ (List.mem_of_getElem? (i := 221) (by decide +kernel)) rfl
theorem lw_i_X12_ways : Cond.instanceMethod yX12_ways ∈ zTB := zch_8 _ (List.mem_of_getElem? (i := 222) (by decide +kernel)) rfl
theorem lw_s_X12_ways : Cond.selects RX12 yX12_ways yX12_ways ∈ zTB := zch_8 _ (List.mem_of_getElem? (i := 223) (by decide +kernel)) rfl
theorem lw_c_X12_ways : Cond.code yX12_ways cX12_ways 1 (some .int) ∈ zTB := zch_8 _ (List.mem_of_getElem? (i := 224) (by decide +kernel)) rfl
theorem lk_181 : zKV RL 181 RX12 yX12_ways cX12_ways 1 (some .int) 0 := ⟨lk_181_1, lw_i_X12_ways, lw_s_X12_ways, lw_n_RX12, lw_c_X12_ways, by decide +kernel, by decide⟩
theorem lk_182_1 : Cond.methodLink RL 182 yX11_sure ∈ zTB := zch_5 _ (List.mem_of_getElem? (i := 125) (by decide +kernel)) rfl
theorem lw_i_X11_sure : Cond.instanceMethod yX11_sure ∈ zTB := zch_5 _ (List.mem_of_getElem? (i := 126) (by decide +kernel)) rfl
theorem lw_s_X11_sure : Cond.selects RX11 yX11_sure yX11_sure ∈ zTB := zch_5 _ (List.mem_of_getElem? (i := 127) (by decide +kernel)) rfl
theorem lw_c_X11_sure : Cond.code yX11_sure cX11_sure 4 (some .int) ∈ zTB := zch_5 _ (List.mem_of_getElem? (i := 128) (by decide +kernel)) rfl
theorem lk_182 : zKV RL 182 RX11 yX11_sure cX11_sure 4 (some .int) 0 := ⟨lk_182_1, lw_i_X11_sure, lw_s_X11_sure, lw_n_RX11, lw_c_X11_sure, by decide +kernel, by decide⟩
theorem lk_185_1 : Cond.methodLink RL 185 yX12_sure ∈ zTB := zch_9 _ (List.mem_of_getElem? (i := 1) (by decide +kernel)) rfl
theorem lw_i_X12_sure : Cond.instanceMethod yX12_sure ∈ zTB := zch_9 _ (List.mem_of_getElem? (i := 2) (by decide +kernel)) rfl
theorem lw_s_X12_sure : Cond.selects RX12 yX12_sure yX12_sure ∈ zTB := zch_9 _ (List.mem_of_getElem? (i := 3) (by decide +kernel)) rfl
theorem lw_c_X12_sure : Cond.code yX12_sure cX12_sure 1 (some .int) ∈ zTB := zch_9 _ (List.mem_of_getElem? (i := 4) (by decide +kernel)) rfl
theorem lk_185 : zKV RL 185 RX12 yX12_sure cX12_sure 1 (some .int) 0 := ⟨lk_185_1, lw_i_X12_sure, lw_s_X12_sure, lw_n_RX12, lw_c_X12_sure, by decide +kernel, by decide⟩
theorem lk_186_1 : Cond.methodLink RL 186 yX11_chance ∈ zTB := zch_5 _ (List.mem_of_getElem? (i := 129) (by decide +kernel)) rfl
theorem lw_i_X11_chance : Cond.instanceMethod yX11_chance ∈ zTB := zch_5 _ (List.mem_of_getElem? (i := 130) (by decide +kernel)) rfl
theorem lw_s_X11_chance : Cond.selects RX11 yX11_chance yX11_chance ∈ zTB := zch_5 _ (List.mem_of_getElem? (i := 131) (by decide +kernel)) rfl
theorem lw_c_X11_chance : Cond.code yX11_chance cX11_chance 5 (some .int) ∈ zTB := zch_5 _ (List.mem_of_getElem? (i := 132) (by decide +kernel)) rfl
theorem lk_186 : zKV RL 186 RX11 yX11_chance cX11_chance 5 (some .int) 4 := ⟨lk_186_1, lw_i_X11_chance, lw_s_X11_chance, lw_n_RX11, lw_c_X11_chance, by decide +kernel, by decide⟩
theorem lk_189_1 : Cond.methodLink RL 189 yX12_chance ∈ zTB := zch_9 _ (List.mem_of_getElem? (i := 5) (by decide +kernel)) rfl
theorem lw_i_X12_chance : Cond.instanceMethod yX12_chance ∈ zTB := zch_9 _ (List.mem_of_getElem? (i := 6) (by decide +kernel)) rfl
theorem lw_s_X12_chance : Cond.selects RX12 yX12_chance yX12_chance ∈ zTB := zch_9 _ (List.mem_of_getElem? (i := 7) (by decide +kernel)) rfl
theorem lw_c_X12_chance : Cond.code yX12_chance cX12_chance 5 (some .int) ∈ zTB := zch_9 _ (List.mem_of_getElem? (i := 8) (by decide +kernel)) rfl
theorem lk_189 : zKV RL 189 RX12 yX12_chance cX12_chance 5 (some .int) 4 := ⟨lk_189_1, lw_i_X12_chance, lw_s_X12_chance, lw_n_RX12, lw_c_X12_chance, by decide +kernel, by decide⟩
theorem lk_190_1 : Cond.methodLink RL 190 yX11_when ∈ zTB := zch_5 _ (List.mem_of_getElem? (i := 152) (by decide +kernel)) rfl
theorem lw_i_X11_when : Cond.instanceMethod yX11_when ∈ zTB := zch_5 _ (List.mem_of_getElem? (i := 153) (by decide +kernel)) rfl
theorem lw_s_X11_when : Cond.selects RX11 yX11_when yX11_when ∈ zTB := zch_5 _ (List.mem_of_getElem? (i := 154) (by decide +kernel)) rfl
theorem lw_c_X11_when : Cond.code yX11_when cX11_when 9 (some .int) ∈ zTB := zch_5 _ (List.mem_of_getElem? (i := 155) (by decide +kernel)) rfl
theorem lk_190 : zKV RL 190 RX11 yX11_when cX11_when 9 (some .int) 2 := ⟨lk_190_1, lw_i_X11_when, lw_s_X11_when, lw_n_RX11, lw_c_X11_when, by decide +kernel, by decide⟩
theorem lk_193_1 : Cond.methodLink RL 193 yX12_when ∈ zTB := zch_9 _ (List.mem_of_getElem? (i := 23) (by decide +kernel)) rfl
theorem lw_i_X12_when : Cond.instanceMethod yX12_when ∈ zTB := zch_9 _ (List.mem_of_getElem? (i := 24) (by decide +kernel)) rfl
theorem lw_s_X12_when : Cond.selects RX12 yX12_when yX12_when ∈ zTB := zch_9 _ (List.mem_of_getElem? (i := 25) (by decide +kernel)) rfl
theorem lw_c_X12_when : Cond.code yX12_when cX12_when 9 (some .int) ∈ zTB := zch_9 _ (List.mem_of_getElem? (i := 26) (by decide +kernel)) rfl
theorem lk_193 : zKV RL 193 RX12 yX12_when cX12_when 9 (some .int) 2 := ⟨lk_193_1, lw_i_X12_when, lw_s_X12_when, lw_n_RX12, lw_c_X12_when, by decide +kernel, by decide⟩
theorem lk_194_1 : Cond.methodLink RL 194 yX11_season ∈ zTB := zch_5 _ (List.mem_of_getElem? (i := 157) (by decide +kernel)) rfl
theorem lw_i_X11_season : Cond.instanceMethod yX11_season ∈ zTB := zch_5 _ (List.mem_of_getElem? (i := 158) (by decide +kernel)) rfl
theorem lw_s_X11_season : Cond.selects RX11 yX11_season yX11_season ∈ zTB := zch_5 _ (List.mem_of_getElem? (i := 159) (by decide +kernel)) rfl
theorem lw_c_X11_season : Cond.code yX11_season cX11_season 8 (some .int) ∈ zTB := zch_5 _ (List.mem_of_getElem? (i := 160) (by decide +kernel)) rfl
theorem lk_194 : zKV RL 194 RX11 yX11_season cX11_season 8 (some .int) 2 := ⟨lk_194_1, lw_i_X11_season, lw_s_X11_season, lw_n_RX11, lw_c_X11_season, by decide +kernel, by decide⟩
theorem lk_197_1 : Cond.methodLink RL 197 yX12_season ∈ zTB := zch_9 _ (List.mem_of_getElem? (i := 27) (by decide +kernel)) rfl
theorem lw_i_X12_season : Cond.instanceMethod yX12_season ∈ zTB := zch_9 _ (List.mem_of_getElem? (i := 28) (by decide +kernel)) rfl
theorem lw_s_X12_season : Cond.selects RX12 yX12_season yX12_season ∈ zTB := zch_9 _ (List.mem_of_getElem? (i := 29) (by decide +kernel)) rfl
theorem lw_c_X12_season : Cond.code yX12_season cX12_season 7 (some .int) ∈ zTB := zch_9 _ (List.mem_of_getElem? (i := 30) (by decide +kernel)) rfl
theorem lk_197 : zKV RL 197 RX12 yX12_season cX12_season 7 (some .int) 2 := ⟨lk_197_1, lw_i_X12_season, lw_s_X12_season, lw_n_RX12, lw_c_X12_season, by decide +kernel, by decide⟩
theorem lk_198_1 : Cond.methodLink RL 198 yX11_keep ∈ zTB := zch_5 _ (List.mem_of_getElem? (i := 168) (by decide +kernel)) rfl
theorem lw_i_X11_keep : Cond.instanceMethod yX11_keep ∈ zTB := zch_5 _ (List.mem_of_getElem? (i := 169) (by decide +kernel)) rfl
theorem lw_s_X11_keep : Cond.selects RX11 yX11_keep yX11_keep ∈ zTB := zch_5 _ (List.mem_of_getElem? (i := 170) (by decide +kernel)) rfl
theorem lw_c_X11_keep : Cond.code yX11_keep cX11_keep 2 (some .boolean) ∈ zTB := zch_5 _ (List.mem_of_getElem? (i := 171) (by decide +kernel)) rfl
theorem lk_198 : zKV RL 198 RX11 yX11_keep cX11_keep 2 (some .boolean) 1 := ⟨lk_198_1, lw_i_X11_keep, lw_s_X11_keep, lw_n_RX11, lw_c_X11_keep, by decide +kernel, by decide⟩
theorem lk_201_1 : Cond.methodLink RL 201 yX12_keep ∈ zTB := zch_9 _ (List.mem_of_getElem? (i := 32) (by decide +kernel)) rfl
theorem lw_i_X12_keep : Cond.instanceMethod yX12_keep ∈ zTB := zch_9 _ (List.mem_of_getElem? (i := 33) (by decide +kernel)) rfl
theorem lw_s_X12_keep : Cond.selects RX12 yX12_keep yX12_keep ∈ zTB := zch_9 _ (List.mem_of_getElem? (i := 34) (by decide +kernel)) rfl
theorem lw_c_X12_keep : Cond.code yX12_keep cX12_keep 3 (some .boolean) ∈ zTB := zch_9 _ (List.mem_of_getElem? (i := 35) (by decide +kernel)) rfl
theorem lk_201 : zKV RL 201 RX12 yX12_keep cX12_keep 3 (some .boolean) 1 := ⟨lk_201_1, lw_i_X12_keep, lw_s_X12_keep, lw_n_RX12, lw_c_X12_keep, by decide +kernel, by decide⟩
theorem lk_202_1 : Cond.methodLink RL 202 yX11_again ∈ zTB := zch_5 _ (List.mem_of_getElem? (i := 176) (by decide +kernel)) rfl
theorem lw_i_X11_again : Cond.instanceMethod yX11_again ∈ zTB := zch_5 _ (List.mem_of_getElem? (i := 177) (by decide +kernel)) rfl
theorem lw_s_X11_again : Cond.selects RX11 yX11_again yX11_again ∈ zTB := zch_5 _ (List.mem_of_getElem? (i := 178) (by decide +kernel)) rfl
theorem lw_c_X11_again : Cond.code yX11_again cX11_again 2 (some .boolean) ∈ zTB := zch_5 _ (List.mem_of_getElem? (i := 179) (by decide +kernel)) rfl
theorem lk_202 : zKV RL 202 RX11 yX11_again cX11_again 2 (some .boolean) 1 := ⟨lk_202_1, lw_i_X11_again, lw_s_X11_again, lw_n_RX11, lw_c_X11_again, by decide +kernel, by decide⟩
theorem lk_205_1 : Cond.methodLink RL 205 yX12_again ∈ zTB := zch_9 _ (List.mem_of_getElem? (i := 36) (by decide +kernel)) rfl
theorem lw_i_X12_again : Cond.instanceMethod yX12_again ∈ zTB := zch_9 _ (List.mem_of_getElem? (i := 37) (by decide +kernel)) rfl
theorem lw_s_X12_again : Cond.selects RX12 yX12_again yX12_again ∈ zTB := zch_9 _ (List.mem_of_getElem? (i := 38) (by decide +kernel)) rfl
theorem lw_c_X12_again : Cond.code yX12_again cX12_again 3 (some .boolean) ∈ zTB := zch_9 _ (List.mem_of_getElem? (i := 39) (by decide +kernel)) rfl
theorem lk_205 : zKV RL 205 RX12 yX12_again cX12_again 3 (some .boolean) 1 := ⟨lk_205_1, lw_i_X12_again, lw_s_X12_again, lw_n_RX12, lw_c_X12_again, by decide +kernel, by decide⟩
theorem lk_206_1 : Cond.methodLink RL 206 yX11_count ∈ zTB := zch_5 _ (List.mem_of_getElem? (i := 184) (by decide +kernel)) rfl
theorem lw_i_X11_count : Cond.instanceMethod yX11_count ∈ zTB := zch_5 _ (List.mem_of_getElem? (i := 185) (by decide +kernel)) rfl
theorem lw_s_X11_count : Cond.selects RX11 yX11_count yX11_count ∈ zTB := zch_5 _ (List.mem_of_getElem? (i := 186) (by decide +kernel)) rfl
theorem lw_c_X11_count : Cond.code yX11_count cX11_count 2 (some .int) ∈ zTB := zch_5 _ (List.mem_of_getElem? (i := 187) (by decide +kernel)) rfl
theorem lk_206 : zKV RL 206 RX11 yX11_count cX11_count 2 (some .int) 1 := ⟨lk_206_1, lw_i_X11_count, lw_s_X11_count, lw_n_RX11, lw_c_X11_count, by decide +kernel, by decide⟩
theorem lk_209_1 : Cond.methodLink RL 209 yX12_count ∈ zTB := zch_9 _ (List.mem_of_getElem? (i := 40) (by decide +kernel)) rfl
theorem lw_i_X12_count : Cond.instanceMethod yX12_count ∈ zTB := zch_9 _ (List.mem_of_getElem? (i := 41) (by decide +kernel)) rfl
theorem lw_s_X12_count : Cond.selects RX12 yX12_count yX12_count ∈ zTB := zch_9 _ (List.mem_of_getElem? (i := 42) (by decide +kernel)) rfl
theorem lw_c_X12_count : Cond.code yX12_count cX12_count 2 (some .int) ∈ zTB := zch_9 _ (List.mem_of_getElem? (i := 43) (by decide +kernel)) rfl
theorem lk_209 : zKV RL 209 RX12 yX12_count cX12_count 2 (some .int) 1 := ⟨lk_209_1, lw_i_X12_count, lw_s_X12_count, lw_n_RX12, lw_c_X12_count, by decide +kernel, by decide⟩
theorem lh_210_1 : Cond.methodLink RL 210 yL_row ∈ zTB := zch_6 _ (List.mem_of_getElem? (i := 31) (by decide +kernel)) rfl
theorem lh_210_2 : Cond.static yL_row ∈ zTB := zch_6 _ (List.mem_of_getElem? (i := 32) (by decide +kernel)) rfl
theorem lh_210_3 : Cond.initialized yL_row.cls ∈ zTB := zch_1 _ (List.mem_of_getElem? (i := 0) (by decide +kernel)) rfl
theorem lh_210 : lKH 210 yL_row cL_row 4 [(0, 8, 11, 13)] 3 := ⟨lh_210_1, lh_210_2, lh_210_3, wh_c_row, by decide +kernel, by decide⟩
theorem lk_212_1 : Cond.methodLink RL 212 yX12_row ∈ zTB := zch_9 _ (List.mem_of_getElem? (i := 48) (by decide +kernel)) rfl
theorem lw_i_X12_row : Cond.instanceMethod yX12_row ∈ zTB := zch_9 _ (List.mem_of_getElem? (i := 49) (by decide +kernel)) rfl
theorem lw_s_X12_row : Cond.selects RX12 yX12_row yX12_row ∈ zTB := zch_9 _ (List.mem_of_getElem? (i := 50) (by decide +kernel)) rfl
theorem lw_c_X12_row : Cond.code yX12_row cX12_row 2 (some .long) ∈ zTB := zch_9 _ (List.mem_of_getElem? (i := 51) (by decide +kernel)) rfl
theorem lk_212 : zKV RL 212 RX12 yX12_row cX12_row 2 (some .long) 1 := ⟨lk_212_1, lw_i_X12_row, lw_s_X12_row, lw_n_RX12, lw_c_X12_row, by decide +kernel, by decide⟩
set_option maxRecDepth 100000 in
set_option maxHeartbeats 4000000 in
theorem law_c0 {p : Program} {l : Launch} {e : Env} {s : State} {m : MethodId} {below : List Frame} {meth : Method} {c : Code} {D : va_G} {ca : FieldType → ClassId} {aX aM tt sa sv : Nat → Nat} {ob b L : Nat} {xs : Nat → Int32} {SX SM SX2 SM2 : zS} {f : Nat → Int64} {n : Nat} (hO : lOK p l s m meth c D ca aX aM tt sa sv ob b L xs) (hn : n + 1 ≤ 512) {x4 : Int32} {i : Nat} (hx4 : x4 = nI i) (hi : i + 5 ≤ L) {r : Int32} (hX : p_X11_sign (xs (x4 + 1).toNatClampNeg) SX = some (r, SX2)) (hM : p_X12_sign (xs (x4 + 1).toNatClampNeg) SM = some (r, SM2)) (next : ∀ (H : Heap) (locs : List Loc) (ls : Array Slot), lv_has ls 8 (lLo b aX aM ob x4) → lWo D ca aX aM ob SX2 SM2 f s H locs → lWr p l e s m below meth c b H locs (n + 1) (F0 m 1559 ls [])) : ∀ (H : Heap) (locs : List Loc) (ls : Array Slot), lv_has ls 8 (lLo b aX aM ob x4) → lWo D ca aX aM ob SX SM f s H locs → lWr p l e s m below meth c b H locs n (F0 m 228 ls []) := by
  intro H locs ls hl hw
  have hx := hO.1.1
  have hb := hO.1.2.1
  have hXs := hO.1.2.2.2.2.2.2.1
  have hbl := hO.1.2.2.2.2.2.2.2.1
  have hbA : ¬ lA s b := Nat.not_le.mpr hbl
  have hL := hO.2.2.2.1
  refine lv_aload_n hx hb dL_law_228 rfl (lv_at hl 1 rfl) ?_
  refine lv_aload_n hx hb dL_law_229 rfl (lv_at hl 0 rfl) ?_
  refine lv_iload hx hb dL_law_230 (lv_at hl 4 rfl) ?_
  refine lv_iconst (v := 1) hx hb dL_law_232 (by decide) ?_
  refine lv_iadd hx hb dL_law_233 ?_
  refine va_sld hx hb hXs hbl hbA hw.2.2.2 (lin hx4 hi hL (show (1 : Int32) = nI 1 by decide) (by decide)) dL_law_234 ?_
  refine lx_call (st := []) [.int (xs (x4 + 1).toNatClampNeg)] hO (by omega) lk_30 (c_X11_sign (xs (x4 + 1).toNatClampNeg)) hX rfl rfl (Nat.le_of_ble_eq_true rfl) (by decide) dL_law_235 hl.1 hw (fun H locs hw => ?_)
  refine W.eq (g2 := F0 m 238 ls [.int (r)]) rfl ?_
  refine lv_aload_n hx hb dL_law_238 rfl (lv_at hl 2 rfl) ?_
  refine lv_aload_n hx hb dL_law_239 rfl (lv_at hl 0 rfl) ?_
  refine lv_iload hx hb dL_law_240 (lv_at hl 4 rfl) ?_
  refine lv_iconst (v := 1) hx hb dL_law_242 (by decide) ?_
  refine lv_iadd hx hb dL_law_243 ?_
  refine va_sld hx hb hXs hbl hbA hw.2.2.2 (lin hx4 hi hL (show (1 : Int32) = nI 1 by decide) (by decide)) dL_law_244 ?_
  refine lm_call (st := [.int (r)]) [.int (xs (x4 + 1).toNatClampNeg)] hO (by omega) lk_33 (c_X12_sign (xs (x4 + 1).toNatClampNeg)) hM rfl rfl (Nat.le_of_ble_eq_true rfl) (by decide) dL_law_245 hl.1 hw (fun H locs hw => ?_)
  refine W.eq (g2 := F0 m 248 ls [.int (r), .int (r)]) rfl ?_
  refine lv_icmp_eq (tgt := 1559) hx hb dL_law_248 (by decide) (fun _ => ?_) (fun h => absurd rfl h)
  exact W.widen (k := 108 + (n + 1)) (n := lKS + 6 * (n + 1)) (by omega) (by omega) (next H locs ls hl hw)
set_option maxRecDepth 100000 in
set_option maxHeartbeats 4000000 in
theorem law_c1 {p : Program} {l : Launch} {e : Env} {s : State} {m : MethodId} {below : List Frame} {meth : Method} {c : Code} {D : va_G} {ca : FieldType → ClassId} {aX aM tt sa sv : Nat → Nat} {ob b L : Nat} {xs : Nat → Int32} {SX SM SX2 SM2 : zS} {f : Nat → Int64} {n : Nat} (hO : lOK p l s m meth c D ca aX aM tt sa sv ob b L xs) (hn : n + 1 ≤ 512) {x4 : Int32} {i : Nat} (hx4 : x4 = nI i) (hi : i + 5 ≤ L) {r : Int32} (hX : p_X11_end (xs (x4 + 1).toNatClampNeg) SX = some (r, SX2)) (hM : p_X12_end (xs (x4 + 1).toNatClampNeg) SM = some (r, SM2)) (next : ∀ (H : Heap) (locs : List Loc) (ls : Array Slot), lv_has ls 8 (lLo b aX aM ob x4) → lWo D ca aX aM ob SX2 SM2 f s H locs → lWr p l e s m below meth c b H locs (n + 1) (F0 m 1559 ls [])) : ∀ (H : Heap) (locs : List Loc) (ls : Array Slot), lv_has ls 8 (lLo b aX aM ob x4) → lWo D ca aX aM ob SX SM f s H locs → lWr p l e s m below meth c b H locs n (F0 m 253 ls []) := by
  intro H locs ls hl hw
  have hx := hO.1.1
  have hb := hO.1.2.1
  have hXs := hO.1.2.2.2.2.2.2.1
  have hbl := hO.1.2.2.2.2.2.2.2.1
  have hbA : ¬ lA s b := Nat.not_le.mpr hbl
  have hL := hO.2.2.2.1
  refine lv_aload_n hx hb dL_law_253 rfl (lv_at hl 1 rfl) ?_
  refine lv_aload_n hx hb dL_law_254 rfl (lv_at hl 0 rfl) ?_
  refine lv_iload hx hb dL_law_255 (lv_at hl 4 rfl) ?_
  refine lv_iconst (v := 1) hx hb dL_law_257 (by decide) ?_
  refine lv_iadd hx hb dL_law_258 ?_
  refine va_sld hx hb hXs hbl hbA hw.2.2.2 (lin hx4 hi hL (show (1 : Int32) = nI 1 by decide) (by decide)) dL_law_259 ?_
  refine lx_call (st := []) [.int (xs (x4 + 1).toNatClampNeg)] hO (by omega) lk_34 (c_X11_end (xs (x4 + 1).toNatClampNeg)) hX rfl rfl (Nat.le_of_ble_eq_true rfl) (by decide) dL_law_260 hl.1 hw (fun H locs hw => ?_)
  refine W.eq (g2 := F0 m 263 ls [.int (r)]) rfl ?_
  refine lv_aload_n hx hb dL_law_263 rfl (lv_at hl 2 rfl) ?_
  refine lv_aload_n hx hb dL_law_264 rfl (lv_at hl 0 rfl) ?_
  refine lv_iload hx hb dL_law_265 (lv_at hl 4 rfl) ?_
  refine lv_iconst (v := 1) hx hb dL_law_267 (by decide) ?_
  refine lv_iadd hx hb dL_law_268 ?_
  refine va_sld hx hb hXs hbl hbA hw.2.2.2 (lin hx4 hi hL (show (1 : Int32) = nI 1 by decide) (by decide)) dL_law_269 ?_
  refine lm_call (st := [.int (r)]) [.int (xs (x4 + 1).toNatClampNeg)] hO (by omega) lk_38 (c_X12_end (xs (x4 + 1).toNatClampNeg)) hM rfl rfl (Nat.le_of_ble_eq_true rfl) (by decide) dL_law_270 hl.1 hw (fun H locs hw => ?_)
  refine W.eq (g2 := F0 m 273 ls [.int (r), .int (r)]) rfl ?_
  refine lv_icmp_eq (tgt := 1559) hx hb dL_law_273 (by decide) (fun _ => ?_) (fun h => absurd rfl h)
  exact W.widen (k := 108 + (n + 1)) (n := lKS + 6 * (n + 1)) (by omega) (by omega) (next H locs ls hl hw)
set_option maxRecDepth 100000 in
set_option maxHeartbeats 4000000 in
theorem law_c2 {p : Program} {l : Launch} {e : Env} {s : State} {m : MethodId} {below : List Frame} {meth : Method} {c : Code} {D : va_G} {ca : FieldType → ClassId} {aX aM tt sa sv : Nat → Nat} {ob b L : Nat} {xs : Nat → Int32} {SX SM SX2 SM2 : zS} {f : Nat → Int64} {n : Nat} (hO : lOK p l s m meth c D ca aX aM tt sa sv ob b L xs) (hn : n + 1 ≤ 512) {x4 : Int32} {i : Nat} (hx4 : x4 = nI i) (hi : i + 5 ≤ L) {r : Int32} (hX : p_X11_tower SX = some (r, SX2)) (hM : p_X12_tower SM = some (r, SM2)) (next : ∀ (H : Heap) (locs : List Loc) (ls : Array Slot), lv_has ls 8 (lLo b aX aM ob x4) → lWo D ca aX aM ob SX2 SM2 f s H locs → lWr p l e s m below meth c b H locs (n + 1) (F0 m 1559 ls [])) : ∀ (H : Heap) (locs : List Loc) (ls : Array Slot), lv_has ls 8 (lLo b aX aM ob x4) → lWo D ca aX aM ob SX SM f s H locs → lWr p l e s m below meth c b H locs n (F0 m 278 ls []) := by
  intro H locs ls hl hw
  have hx := hO.1.1
  have hb := hO.1.2.1
  have hXs := hO.1.2.2.2.2.2.2.1
  have hbl := hO.1.2.2.2.2.2.2.2.1
  have hbA : ¬ lA s b := Nat.not_le.mpr hbl
  have hL := hO.2.2.2.1
  refine lv_aload_n hx hb dL_law_278 rfl (lv_at hl 1 rfl) ?_
  refine lx_call (st := []) [] hO (by omega) lk_39 (c_X11_tower) hX rfl rfl (Nat.le_of_ble_eq_true rfl) (by decide) dL_law_279 hl.1 hw (fun H locs hw => ?_)
  refine W.eq (g2 := F0 m 282 ls [.int (r)]) rfl ?_
  refine lv_aload_n hx hb dL_law_282 rfl (lv_at hl 2 rfl) ?_
  refine lm_call (st := [.int (r)]) [] hO (by omega) lk_43 (c_X12_tower) hM rfl rfl (Nat.le_of_ble_eq_true rfl) (by decide) dL_law_283 hl.1 hw (fun H locs hw => ?_)
  refine W.eq (g2 := F0 m 286 ls [.int (r), .int (r)]) rfl ?_
  refine lv_icmp_eq (tgt := 1559) hx hb dL_law_286 (by decide) (fun _ => ?_) (fun h => absurd rfl h)
  exact W.widen (k := 108 + (n + 1)) (n := lKS + 6 * (n + 1)) (by omega) (by omega) (next H locs ls hl hw)
set_option maxRecDepth 100000 in
set_option maxHeartbeats 4000000 in
theorem law_c3 {p : Program} {l : Launch} {e : Env} {s : State} {m : MethodId} {below : List Frame} {meth : Method} {c : Code} {D : va_G} {ca : FieldType → ClassId} {aX aM tt sa sv : Nat → Nat} {ob b L : Nat} {xs : Nat → Int32} {SX SM SX2 SM2 : zS} {f : Nat → Int64} {n : Nat} (hO : lOK p l s m meth c D ca aX aM tt sa sv ob b L xs) (hn : n + 1 ≤ 512) {x4 : Int32} {i : Nat} (hx4 : x4 = nI i) (hi : i + 5 ≤ L) {r : Int32} (hX : p_X11_balloons SX = some (r, SX2)) (hM : p_X12_balloons SM = some (r, SM2)) (next : ∀ (H : Heap) (locs : List Loc) (ls : Array Slot), lv_has ls 8 (lLo b aX aM ob x4) → lWo D ca aX aM ob SX2 SM2 f s H locs → lWr p l e s m below meth c b H locs (n + 1) (F0 m 1559 ls [])) : ∀ (H : Heap) (locs : List Loc) (ls : Array Slot), lv_has ls 8 (lLo b aX aM ob x4) → lWo D ca aX aM ob SX SM f s H locs → lWr p l e s m below meth c b H locs n (F0 m 291 ls []) := by
  intro H locs ls hl hw
  have hx := hO.1.1
  have hb := hO.1.2.1
  have hXs := hO.1.2.2.2.2.2.2.1
  have hbl := hO.1.2.2.2.2.2.2.2.1
  have hbA : ¬ lA s b := Nat.not_le.mpr hbl
  have hL := hO.2.2.2.1
  refine lv_aload_n hx hb dL_law_291 rfl (lv_at hl 1 rfl) ?_
  refine lx_call (st := []) [] hO (by omega) lk_44 (c_X11_balloons) hX rfl rfl (Nat.le_of_ble_eq_true rfl) (by decide) dL_law_292 hl.1 hw (fun H locs hw => ?_)
  refine W.eq (g2 := F0 m 295 ls [.int (r)]) rfl ?_
  refine lv_aload_n hx hb dL_law_295 rfl (lv_at hl 2 rfl) ?_
  refine lm_call (st := [.int (r)]) [] hO (by omega) lk_47 (c_X12_balloons) hM rfl rfl (Nat.le_of_ble_eq_true rfl) (by decide) dL_law_296 hl.1 hw (fun H locs hw => ?_)
  refine W.eq (g2 := F0 m 299 ls [.int (r), .int (r)]) rfl ?_
  refine lv_icmp_eq (tgt := 1559) hx hb dL_law_299 (by decide) (fun _ => ?_) (fun h => absurd rfl h)
  exact W.widen (k := 108 + (n + 1)) (n := lKS + 6 * (n + 1)) (by omega) (by omega) (next H locs ls hl hw)
set_option maxRecDepth 100000 in
set_option maxHeartbeats 4000000 in
theorem law_c4 {p : Program} {l : Launch} {e : Env} {s : State} {m : MethodId} {below : List Frame} {meth : Method} {c : Code} {D : va_G} {ca : FieldType → ClassId} {aX aM tt sa sv : Nat → Nat} {ob b L : Nat} {xs : Nat → Int32} {SX SM SX2 SM2 : zS} {f : Nat → Int64} {n : Nat} (hO : lOK p l s m meth c D ca aX aM tt sa sv ob b L xs) (hn : n + 1 ≤ 512) {x4 : Int32} {i : Nat} (hx4 : x4 = nI i) (hi : i + 5 ≤ L) {r : Int32} (hX : p_X11_winds SX = some (r, SX2)) (hM : p_X12_winds SM = some (r, SM2)) (next : ∀ (H : Heap) (locs : List Loc) (ls : Array Slot), lv_has ls 8 (lLo b aX aM ob x4) → lWo D ca aX aM ob SX2 SM2 f s H locs → lWr p l e s m below meth c b H locs (n + 1) (F0 m 1559 ls [])) : ∀ (H : Heap) (locs : List Loc) (ls : Array Slot), lv_has ls 8 (lLo b aX aM ob x4) → lWo D ca aX aM ob SX SM f s H locs → lWr p l e s m below meth c b H locs n (F0 m 304 ls []) := by
  intro H locs ls hl hw
  have hx := hO.1.1
  have hb := hO.1.2.1
  have hXs := hO.1.2.2.2.2.2.2.1
  have hbl := hO.1.2.2.2.2.2.2.2.1
  have hbA : ¬ lA s b := Nat.not_le.mpr hbl
  have hL := hO.2.2.2.1
  refine lv_aload_n hx hb dL_law_304 rfl (lv_at hl 1 rfl) ?_
  refine lx_call (st := []) [] hO (by omega) lk_48 (c_X11_winds) hX rfl rfl (Nat.le_of_ble_eq_true rfl) (by decide) dL_law_305 hl.1 hw (fun H locs hw => ?_)
  refine W.eq (g2 := F0 m 308 ls [.int (r)]) rfl ?_
  refine lv_aload_n hx hb dL_law_308 rfl (lv_at hl 2 rfl) ?_
  refine lm_call (st := [.int (r)]) [] hO (by omega) lk_51 (c_X12_winds) hM rfl rfl (Nat.le_of_ble_eq_true rfl) (by decide) dL_law_309 hl.1 hw (fun H locs hw => ?_)
  refine W.eq (g2 := F0 m 312 ls [.int (r), .int (r)]) rfl ?_
  refine lv_icmp_eq (tgt := 1559) hx hb dL_law_312 (by decide) (fun _ => ?_) (fun h => absurd rfl h)
  exact W.widen (k := 108 + (n + 1)) (n := lKS + 6 * (n + 1)) (by omega) (by omega) (next H locs ls hl hw)
set_option maxRecDepth 100000 in
set_option maxHeartbeats 4000000 in
theorem law_c5 {p : Program} {l : Launch} {e : Env} {s : State} {m : MethodId} {below : List Frame} {meth : Method} {c : Code} {D : va_G} {ca : FieldType → ClassId} {aX aM tt sa sv : Nat → Nat} {ob b L : Nat} {xs : Nat → Int32} {SX SM SX2 SM2 : zS} {f : Nat → Int64} {n : Nat} (hO : lOK p l s m meth c D ca aX aM tt sa sv ob b L xs) (hn : n + 1 ≤ 512) {x4 : Int32} {i : Nat} (hx4 : x4 = nI i) (hi : i + 5 ≤ L) {r : Int32} (hX : p_X11_rule SX = some (r, SX2)) (hM : p_X12_rule SM = some (r, SM2)) (next : ∀ (H : Heap) (locs : List Loc) (ls : Array Slot), lv_has ls 8 (lLo b aX aM ob x4) → lWo D ca aX aM ob SX2 SM2 f s H locs → lWr p l e s m below meth c b H locs (n + 1) (F0 m 1559 ls [])) : ∀ (H : Heap) (locs : List Loc) (ls : Array Slot), lv_has ls 8 (lLo b aX aM ob x4) → lWo D ca aX aM ob SX SM f s H locs → lWr p l e s m below meth c b H locs n (F0 m 317 ls []) := by
  intro H locs ls hl hw
  have hx := hO.1.1
  have hb := hO.1.2.1
  have hXs := hO.1.2.2.2.2.2.2.1
  have hbl := hO.1.2.2.2.2.2.2.2.1
  have hbA : ¬ lA s b := Nat.not_le.mpr hbl
  have hL := hO.2.2.2.1
  refine lv_aload_n hx hb dL_law_317 rfl (lv_at hl 1 rfl) ?_
  refine lx_call (st := []) [] hO (by omega) lk_52 (c_X11_rule) hX rfl rfl (Nat.le_of_ble_eq_true rfl) (by decide) dL_law_318 hl.1 hw (fun H locs hw => ?_)
  refine W.eq (g2 := F0 m 321 ls [.int (r)]) rfl ?_
  refine lv_aload_n hx hb dL_law_321 rfl (lv_at hl 2 rfl) ?_
  refine lm_call (st := [.int (r)]) [] hO (by omega) lk_55 (c_X12_rule) hM rfl rfl (Nat.le_of_ble_eq_true rfl) (by decide) dL_law_322 hl.1 hw (fun H locs hw => ?_)
  refine W.eq (g2 := F0 m 325 ls [.int (r), .int (r)]) rfl ?_
  refine lv_icmp_eq (tgt := 1559) hx hb dL_law_325 (by decide) (fun _ => ?_) (fun h => absurd rfl h)
  exact W.widen (k := 108 + (n + 1)) (n := lKS + 6 * (n + 1)) (by omega) (by omega) (next H locs ls hl hw)
set_option maxRecDepth 100000 in
set_option maxHeartbeats 4000000 in
theorem law_c6 {p : Program} {l : Launch} {e : Env} {s : State} {m : MethodId} {below : List Frame} {meth : Method} {c : Code} {D : va_G} {ca : FieldType → ClassId} {aX aM tt sa sv : Nat → Nat} {ob b L : Nat} {xs : Nat → Int32} {SX SM SX2 SM2 : zS} {f : Nat → Int64} {n : Nat} (hO : lOK p l s m meth c D ca aX aM tt sa sv ob b L xs) (hn : n + 1 ≤ 512) {x4 : Int32} {i : Nat} (hx4 : x4 = nI i) (hi : i + 5 ≤ L) {SM1 : zS} {r : Option Int32} {v : Int32} (hX : p_X11_ring (xs (x4 + 1).toNatClampNeg) (xs (x4 + 2).toNatClampNeg) SX = some (r, SX2)) (hM : p_X12_ring (xs (x4 + 1).toNatClampNeg) (xs (x4 + 2).toNatClampNeg) SM = some (v, SM1)) (hT : p_X12_thrown SM1 = some (hr01 r, SM2)) (hv : ∀ z, r = some z → z = v) (next : ∀ (H : Heap) (locs : List Loc) (ls : Array Slot), lv_has ls 8 (lLo b aX aM ob x4) → lWo D ca aX aM ob SX2 SM2 (hupI f r) s H locs → lWr p l e s m below meth c b H locs (n + 1) (F0 m 1559 ls [])) : ∀ (H : Heap) (locs : List Loc) (ls : Array Slot), lv_has ls 8 (lLo b aX aM ob x4) → lWo D ca aX aM ob SX SM f s H locs → lWr p l e s m below meth c b H locs n (F0 m 330 ls []) := by
  intro H locs ls hl hw
  have hx := hO.1.1
  have hb := hO.1.2.1
  have hXs := hO.1.2.2.2.2.2.2.1
  have hbl := hO.1.2.2.2.2.2.2.2.1
  have hbA : ¬ lA s b := Nat.not_le.mpr hbl
  have hL := hO.2.2.2.1
  refine lv_aload_n hx hb dL_law_330 rfl (lv_at hl 1 rfl) ?_
  refine lv_aload_n hx hb dL_law_331 rfl (lv_at hl 0 rfl) ?_
  refine lv_iload hx hb dL_law_332 (lv_at hl 4 rfl) ?_
  refine lv_iconst (v := 1) hx hb dL_law_334 (by decide) ?_
  refine lv_iadd hx hb dL_law_335 ?_
  refine va_sld hx hb hXs hbl hbA hw.2.2.2 (lin hx4 hi hL (show (1 : Int32) = nI 1 by decide) (by decide)) dL_law_336 ?_
  refine lv_aload_n hx hb dL_law_337 rfl (lv_at hl 0 rfl) ?_
  refine lv_iload hx hb dL_law_338 (lv_at hl 4 rfl) ?_
  refine lv_iconst (v := 2) hx hb dL_law_340 (by decide) ?_
  refine lv_iadd hx hb dL_law_341 ?_
  refine va_sld hx hb hXs hbl hbA hw.2.2.2 (lin hx4 hi hL (show (2 : Int32) = nI 2 by decide) (by decide)) dL_law_342 ?_
  refine lv_aload_n hx hb dL_law_343 rfl (lv_at hl 3 rfl) ?_
  refine lh_call (st := []) [.ref (aX 0), .int (xs (x4 + 1).toNatClampNeg), .int (xs (x4 + 2).toNatClampNeg), .ref ob] hO hn lh_56 (h_ring (tt := tt) hO.2.2.1 ob f (xs (x4 + 1).toNatClampNeg) (xs (x4 + 2).toNatClampNeg) SX SX2 r hX) rfl rfl (Nat.le_of_ble_eq_true rfl) (by decide) dL_law_344 hl.1 hw (fun H locs hw => ?_)
  refine lv_istore (lv' := [(5, .int (hr01 r))] ++ lLo b aX aM ob x4) hx hb dL_law_347 hl (by decide) rfl (fun ls hl => ?_)
  refine lv_aload_n hx hb dL_law_349 rfl (lv_at hl 3 rfl) ?_
  refine lv_aload_n hx hb dL_law_350 rfl (lv_at hl 1 rfl) ?_
  refine lv_iload hx hb dL_law_351 (lv_at hl 5 rfl) ?_
  refine lv_iconst (v := 1) hx hb dL_law_353 (by decide) ?_
  refine lv_iadd hx hb dL_law_354 ?_
  refine va_sld hx hb hXs hbl hbA hw.2.2.2 (lin hx4 hi hL (show (1 : Int32) = nI 1 by decide) (by decide)) dL_law_355 ?_
  refine lv_aload_n hx hb dL_law_356 rfl (lv_at hl 1 rfl) ?_
  refine lv_iload hx hb dL_law_357 (lv_at hl 5 rfl) ?_
  refine lv_iconst (v := 2) hx hb dL_law_359 (by decide) ?_
  refine lv_iadd hx hb dL_law_360 ?_
  refine va_sld hx hb hXs hbl hbA hw.2.2.2 (lin hx4 hi hL (show (2 : Int32) = nI 2 by decide) (by decide)) dL_law_361 ?_
  refine lm_call (st := []) [.int (xs (x4 + 1).toNatClampNeg), .int (xs (x4 + 2).toNatClampNeg)] hO (by omega) lk_61 (c_X12_ring (xs (x4 + 1).toNatClampNeg) (xs (x4 + 2).toNatClampNeg)) hM rfl rfl (Nat.le_of_ble_eq_true rfl) (by decide) dL_law_362 hl.1 hw (fun H locs hw => ?_)
  refine W.eq (g2 := F0 m 365 ls [.int (v)]) rfl ?_
  refine lv_istore (lv' := [(6, .int (v)), (5, .int (hr01 r))] ++ lLo b aX aM ob x4) hx hb dL_law_365 hl (by decide) rfl (fun ls hl => ?_)
  refine lv_aload_n hx hb dL_law_367 rfl (lv_at hl 4 rfl) ?_
  refine lm_call (st := []) [] hO (by omega) lk_62 (c_X12_thrown) hT rfl rfl (Nat.le_of_ble_eq_true rfl) (by decide) dL_law_368 hl.1 hw (fun H locs hw => ?_)
  refine W.eq (g2 := F0 m 371 ls [.int (hr01 r)]) rfl ?_
  refine lv_iload hx hb dL_law_371 (lv_at hl 1 rfl) ?_
  refine lv_icmp_eq (tgt := 378) hx hb dL_law_373 (by decide) (fun _ => ?_) (fun h => absurd rfl h)
  refine lv_iload hx hb dL_law_378 (lv_at hl 1 rfl) ?_
  refine lv_if_ne (tgt := 395) hx hb dL_law_380 (by decide) (fun _ => ?_) (fun h0 => ?_)
  · refine lv_goto (tgt := 1559) hx hb dL_law_395 (by decide) ?_
    exact next H locs ls (lv_sub hl [2, 3, 4, 5, 6] rfl) hw
  · refine lv_aload_n hx hb dL_law_383 rfl (lv_at hl 5 rfl) ?_
    refine lv_iconst (v := 0) hx hb dL_law_384 (by decide) ?_
    refine va_lald (f := hupI f r) hx hb hO.2.1 hw.2.2.1 0 3 rfl rfl (by unfold vp_in; decide) dL_law_385 ?_
    refine lv_iload hx hb dL_law_386 (lv_at hl 0 rfl) ?_
    refine lv_i2l hx hb dL_law_388 rfl ?_
    refine W.lcmp hx hb dL_law_389 ?_
    refine lv_if_eq (tgt := 395) hx hb dL_law_390 (by decide) (fun _ => ?_) (fun h => absurd (lcmpI hv h0) h)
    refine lv_goto (tgt := 1559) hx hb dL_law_395 (by decide) ?_
    exact next H locs ls (lv_sub hl [2, 3, 4, 5, 6] rfl) hw
set_option maxRecDepth 100000 in
set_option maxHeartbeats 4000000 in
theorem law_c7 {p : Program} {l : Launch} {e : Env} {s : State} {m : MethodId} {below : List Frame} {meth : Method} {c : Code} {D : va_G} {ca : FieldType → ClassId} {aX aM tt sa sv : Nat → Nat} {ob b L : Nat} {xs : Nat → Int32} {SX SM SX2 SM2 : zS} {f : Nat → Int64} {n : Nat} (hO : lOK p l s m meth c D ca aX aM tt sa sv ob b L xs) (hn : n + 1 ≤ 512) {x4 : Int32} {i : Nat} (hx4 : x4 = nI i) (hi : i + 5 ≤ L) {SM1 : zS} {r : Option Int32} {v : Int32} (hX : p_X11_balloon (xs (x4 + 1).toNatClampNeg) (xs (x4 + 2).toNatClampNeg) SX = some (r, SX2)) (hM : p_X12_balloon (xs (x4 + 1).toNatClampNeg) (xs (x4 + 2).toNatClampNeg) SM = some (v, SM1)) (hT : p_X12_thrown SM1 = some (hr01 r, SM2)) (hv : ∀ z, r = some z → z = v) (next : ∀ (H : Heap) (locs : List Loc) (ls : Array Slot), lv_has ls 8 (lLo b aX aM ob x4) → lWo D ca aX aM ob SX2 SM2 (hupI f r) s H locs → lWr p l e s m below meth c b H locs (n + 1) (F0 m 1559 ls [])) : ∀ (H : Heap) (locs : List Loc) (ls : Array Slot), lv_has ls 8 (lLo b aX aM ob x4) → lWo D ca aX aM ob SX SM f s H locs → lWr p l e s m below meth c b H locs n (F0 m 398 ls []) := by
  intro H locs ls hl hw
  have hx := hO.1.1
  have hb := hO.1.2.1
  have hXs := hO.1.2.2.2.2.2.2.1
  have hbl := hO.1.2.2.2.2.2.2.2.1
  have hbA : ¬ lA s b := Nat.not_le.mpr hbl
  have hL := hO.2.2.2.1
  refine lv_aload_n hx hb dL_law_398 rfl (lv_at hl 1 rfl) ?_
  refine lv_aload_n hx hb dL_law_399 rfl (lv_at hl 0 rfl) ?_
  refine lv_iload hx hb dL_law_400 (lv_at hl 4 rfl) ?_
  refine lv_iconst (v := 1) hx hb dL_law_402 (by decide) ?_
  refine lv_iadd hx hb dL_law_403 ?_
  refine va_sld hx hb hXs hbl hbA hw.2.2.2 (lin hx4 hi hL (show (1 : Int32) = nI 1 by decide) (by decide)) dL_law_404 ?_
  refine lv_aload_n hx hb dL_law_405 rfl (lv_at hl 0 rfl) ?_
  refine lv_iload hx hb dL_law_406 (lv_at hl 4 rfl) ?_
  refine lv_iconst (v := 2) hx hb dL_law_408 (by decide) ?_
  refine lv_iadd hx hb dL_law_409 ?_
  refine va_sld hx hb hXs hbl hbA hw.2.2.2 (lin hx4 hi hL (show (2 : Int32) = nI 2 by decide) (by decide)) dL_law_410 ?_
  refine lv_aload_n hx hb dL_law_411 rfl (lv_at hl 3 rfl) ?_
  refine lh_call (st := []) [.ref (aX 0), .int (xs (x4 + 1).toNatClampNeg), .int (xs (x4 + 2).toNatClampNeg), .ref ob] hO hn lh_65 (h_balloon (tt := tt) hO.2.2.1 ob f (xs (x4 + 1).toNatClampNeg) (xs (x4 + 2).toNatClampNeg) SX SX2 r hX) rfl rfl (Nat.le_of_ble_eq_true rfl) (by decide) dL_law_412 hl.1 hw (fun H locs hw => ?_)
  refine lv_istore (lv' := [(5, .int (hr01 r))] ++ lLo b aX aM ob x4) hx hb dL_law_415 hl (by decide) rfl (fun ls hl => ?_)
  refine lv_aload_n hx hb dL_law_417 rfl (lv_at hl 3 rfl) ?_
  refine lv_aload_n hx hb dL_law_418 rfl (lv_at hl 1 rfl) ?_
  refine lv_iload hx hb dL_law_419 (lv_at hl 5 rfl) ?_
  refine lv_iconst (v := 1) hx hb dL_law_421 (by decide) ?_
  refine lv_iadd hx hb dL_law_422 ?_
  refine va_sld hx hb hXs hbl hbA hw.2.2.2 (lin hx4 hi hL (show (1 : Int32) = nI 1 by decide) (by decide)) dL_law_423 ?_
  refine lv_aload_n hx hb dL_law_424 rfl (lv_at hl 1 rfl) ?_
  refine lv_iload hx hb dL_law_425 (lv_at hl 5 rfl) ?_
  refine lv_iconst (v := 2) hx hb dL_law_427 (by decide) ?_
  refine lv_iadd hx hb dL_law_428 ?_
  refine va_sld hx hb hXs hbl hbA hw.2.2.2 (lin hx4 hi hL (show (2 : Int32) = nI 2 by decide) (by decide)) dL_law_429 ?_
  refine lm_call (st := []) [.int (xs (x4 + 1).toNatClampNeg), .int (xs (x4 + 2).toNatClampNeg)] hO (by omega) lk_67 (c_X12_balloon (xs (x4 + 1).toNatClampNeg) (xs (x4 + 2).toNatClampNeg)) hM rfl rfl (Nat.le_of_ble_eq_true rfl) (by decide) dL_law_430 hl.1 hw (fun H locs hw => ?_)
  refine W.eq (g2 := F0 m 433 ls [.int (v)]) rfl ?_
  refine lv_istore (lv' := [(6, .int (v)), (5, .int (hr01 r))] ++ lLo b aX aM ob x4) hx hb dL_law_433 hl (by decide) rfl (fun ls hl => ?_)
  refine lv_aload_n hx hb dL_law_435 rfl (lv_at hl 4 rfl) ?_
  refine lm_call (st := []) [] hO (by omega) lk_62 (c_X12_thrown) hT rfl rfl (Nat.le_of_ble_eq_true rfl) (by decide) dL_law_436 hl.1 hw (fun H locs hw => ?_)
  refine W.eq (g2 := F0 m 439 ls [.int (hr01 r)]) rfl ?_
  refine lv_iload hx hb dL_law_439 (lv_at hl 1 rfl) ?_
  refine lv_icmp_eq (tgt := 446) hx hb dL_law_441 (by decide) (fun _ => ?_) (fun h => absurd rfl h)
  refine lv_iload hx hb dL_law_446 (lv_at hl 1 rfl) ?_
  refine lv_if_ne (tgt := 463) hx hb dL_law_448 (by decide) (fun _ => ?_) (fun h0 => ?_)
  · refine lv_goto (tgt := 1559) hx hb dL_law_463 (by decide) ?_
    exact next H locs ls (lv_sub hl [2, 3, 4, 5, 6] rfl) hw
  · refine lv_aload_n hx hb dL_law_451 rfl (lv_at hl 5 rfl) ?_
    refine lv_iconst (v := 0) hx hb dL_law_452 (by decide) ?_
    refine va_lald (f := hupI f r) hx hb hO.2.1 hw.2.2.1 0 3 rfl rfl (by unfold vp_in; decide) dL_law_453 ?_
    refine lv_iload hx hb dL_law_454 (lv_at hl 0 rfl) ?_
    refine lv_i2l hx hb dL_law_456 rfl ?_
    refine W.lcmp hx hb dL_law_457 ?_
    refine lv_if_eq (tgt := 463) hx hb dL_law_458 (by decide) (fun _ => ?_) (fun h => absurd (lcmpI hv h0) h)
    refine lv_goto (tgt := 1559) hx hb dL_law_463 (by decide) ?_
    exact next H locs ls (lv_sub hl [2, 3, 4, 5, 6] rfl) hw
set_option maxRecDepth 100000 in
set_option maxHeartbeats 4000000 in
theorem law_c8 {p : Program} {l : Launch} {e : Env} {s : State} {m : MethodId} {below : List Frame} {meth : Method} {c : Code} {D : va_G} {ca : FieldType → ClassId} {aX aM tt sa sv : Nat → Nat} {ob b L : Nat} {xs : Nat → Int32} {SX SM SX2 SM2 : zS} {f : Nat → Int64} {n : Nat} (hO : lOK p l s m meth c D ca aX aM tt sa sv ob b L xs) (hn : n + 1 ≤ 512) {x4 : Int32} {i : Nat} (hx4 : x4 = nI i) (hi : i + 5 ≤ L) {SM1 : zS} {r : Option Int32} {v : Int32} (hX : p_X11_lift (xs (x4 + 1).toNatClampNeg) SX = some (r, SX2)) (hM : p_X12_lift (xs (x4 + 1).toNatClampNeg) SM = some (v, SM1)) (hT : p_X12_thrown SM1 = some (hr01 r, SM2)) (hv : ∀ z, r = some z → z = v) (next : ∀ (H : Heap) (locs : List Loc) (ls : Array Slot), lv_has ls 8 (lLo b aX aM ob x4) → lWo D ca aX aM ob SX2 SM2 (hupI f r) s H locs → lWr p l e s m below meth c b H locs (n + 1) (F0 m 1559 ls [])) : ∀ (H : Heap) (locs : List Loc) (ls : Array Slot), lv_has ls 8 (lLo b aX aM ob x4) → lWo D ca aX aM ob SX SM f s H locs → lWr p l e s m below meth c b H locs n (F0 m 466 ls []) := by
  intro H locs ls hl hw
  have hx := hO.1.1
  have hb := hO.1.2.1
  have hXs := hO.1.2.2.2.2.2.2.1
  have hbl := hO.1.2.2.2.2.2.2.2.1
  have hbA : ¬ lA s b := Nat.not_le.mpr hbl
  have hL := hO.2.2.2.1
  refine lv_aload_n hx hb dL_law_466 rfl (lv_at hl 1 rfl) ?_
  refine lv_aload_n hx hb dL_law_467 rfl (lv_at hl 0 rfl) ?_
  refine lv_iload hx hb dL_law_468 (lv_at hl 4 rfl) ?_
  refine lv_iconst (v := 1) hx hb dL_law_470 (by decide) ?_
  refine lv_iadd hx hb dL_law_471 ?_
  refine va_sld hx hb hXs hbl hbA hw.2.2.2 (lin hx4 hi hL (show (1 : Int32) = nI 1 by decide) (by decide)) dL_law_472 ?_
  refine lv_aload_n hx hb dL_law_473 rfl (lv_at hl 3 rfl) ?_
  refine lh_call (st := []) [.ref (aX 0), .int (xs (x4 + 1).toNatClampNeg), .ref ob] hO hn lh_68 (h_lift (tt := tt) hO.2.2.1 ob f (xs (x4 + 1).toNatClampNeg) SX SX2 r hX) rfl rfl (Nat.le_of_ble_eq_true rfl) (by decide) dL_law_474 hl.1 hw (fun H locs hw => ?_)
  refine lv_istore (lv' := [(5, .int (hr01 r))] ++ lLo b aX aM ob x4) hx hb dL_law_477 hl (by decide) rfl (fun ls hl => ?_)
  refine lv_aload_n hx hb dL_law_479 rfl (lv_at hl 3 rfl) ?_
  refine lv_aload_n hx hb dL_law_480 rfl (lv_at hl 1 rfl) ?_
  refine lv_iload hx hb dL_law_481 (lv_at hl 5 rfl) ?_
  refine lv_iconst (v := 1) hx hb dL_law_483 (by decide) ?_
  refine lv_iadd hx hb dL_law_484 ?_
  refine va_sld hx hb hXs hbl hbA hw.2.2.2 (lin hx4 hi hL (show (1 : Int32) = nI 1 by decide) (by decide)) dL_law_485 ?_
  refine lm_call (st := []) [.int (xs (x4 + 1).toNatClampNeg)] hO (by omega) lk_71 (c_X12_lift (xs (x4 + 1).toNatClampNeg)) hM rfl rfl (Nat.le_of_ble_eq_true rfl) (by decide) dL_law_486 hl.1 hw (fun H locs hw => ?_)
  refine W.eq (g2 := F0 m 489 ls [.int (v)]) rfl ?_
  refine lv_istore (lv' := [(6, .int (v)), (5, .int (hr01 r))] ++ lLo b aX aM ob x4) hx hb dL_law_489 hl (by decide) rfl (fun ls hl => ?_)
  refine lv_aload_n hx hb dL_law_491 rfl (lv_at hl 4 rfl) ?_
  refine lm_call (st := []) [] hO (by omega) lk_62 (c_X12_thrown) hT rfl rfl (Nat.le_of_ble_eq_true rfl) (by decide) dL_law_492 hl.1 hw (fun H locs hw => ?_)
  refine W.eq (g2 := F0 m 495 ls [.int (hr01 r)]) rfl ?_
  refine lv_iload hx hb dL_law_495 (lv_at hl 1 rfl) ?_
  refine lv_icmp_eq (tgt := 502) hx hb dL_law_497 (by decide) (fun _ => ?_) (fun h => absurd rfl h)
  refine lv_iload hx hb dL_law_502 (lv_at hl 1 rfl) ?_
  refine lv_if_ne (tgt := 519) hx hb dL_law_504 (by decide) (fun _ => ?_) (fun h0 => ?_)
  · refine lv_goto (tgt := 1559) hx hb dL_law_519 (by decide) ?_
    exact next H locs ls (lv_sub hl [2, 3, 4, 5, 6] rfl) hw
  · refine lv_aload_n hx hb dL_law_507 rfl (lv_at hl 5 rfl) ?_
    refine lv_iconst (v := 0) hx hb dL_law_508 (by decide) ?_
    refine va_lald (f := hupI f r) hx hb hO.2.1 hw.2.2.1 0 3 rfl rfl (by unfold vp_in; decide) dL_law_509 ?_
    refine lv_iload hx hb dL_law_510 (lv_at hl 0 rfl) ?_
    refine lv_i2l hx hb dL_law_512 rfl ?_
    refine W.lcmp hx hb dL_law_513 ?_
    refine lv_if_eq (tgt := 519) hx hb dL_law_514 (by decide) (fun _ => ?_) (fun h => absurd (lcmpI hv h0) h)
    refine lv_goto (tgt := 1559) hx hb dL_law_519 (by decide) ?_
    exact next H locs ls (lv_sub hl [2, 3, 4, 5, 6] rfl) hw
set_option maxRecDepth 100000 in
set_option maxHeartbeats 4000000 in
theorem law_c9 {p : Program} {l : Launch} {e : Env} {s : State} {m : MethodId} {below : List Frame} {meth : Method} {c : Code} {D : va_G} {ca : FieldType → ClassId} {aX aM tt sa sv : Nat → Nat} {ob b L : Nat} {xs : Nat → Int32} {SX SM SX2 SM2 : zS} {f : Nat → Int64} {n : Nat} (hO : lOK p l s m meth c D ca aX aM tt sa sv ob b L xs) (hn : n + 1 ≤ 512) {x4 : Int32} {i : Nat} (hx4 : x4 = nI i) (hi : i + 5 ≤ L) {r : Int32} (hX : p_X11_rain (xs (x4 + 1).toNatClampNeg) SX = some (r, SX2)) (hM : p_X12_rain (xs (x4 + 1).toNatClampNeg) SM = some (r, SM2)) (next : ∀ (H : Heap) (locs : List Loc) (ls : Array Slot), lv_has ls 8 (lLo b aX aM ob x4) → lWo D ca aX aM ob SX2 SM2 f s H locs → lWr p l e s m below meth c b H locs (n + 1) (F0 m 1559 ls [])) : ∀ (H : Heap) (locs : List Loc) (ls : Array Slot), lv_has ls 8 (lLo b aX aM ob x4) → lWo D ca aX aM ob SX SM f s H locs → lWr p l e s m below meth c b H locs n (F0 m 522 ls []) := by
  intro H locs ls hl hw
  have hx := hO.1.1
  have hb := hO.1.2.1
  have hXs := hO.1.2.2.2.2.2.2.1
  have hbl := hO.1.2.2.2.2.2.2.2.1
  have hbA : ¬ lA s b := Nat.not_le.mpr hbl
  have hL := hO.2.2.2.1
  refine lv_aload_n hx hb dL_law_522 rfl (lv_at hl 1 rfl) ?_
  refine lv_aload_n hx hb dL_law_523 rfl (lv_at hl 0 rfl) ?_
  refine lv_iload hx hb dL_law_524 (lv_at hl 4 rfl) ?_
  refine lv_iconst (v := 1) hx hb dL_law_526 (by decide) ?_
  refine lv_iadd hx hb dL_law_527 ?_
  refine va_sld hx hb hXs hbl hbA hw.2.2.2 (lin hx4 hi hL (show (1 : Int32) = nI 1 by decide) (by decide)) dL_law_528 ?_
  refine lx_call (st := []) [.int (xs (x4 + 1).toNatClampNeg)] hO (by omega) lk_72 (c_X11_rain (xs (x4 + 1).toNatClampNeg)) hX rfl rfl (Nat.le_of_ble_eq_true rfl) (by decide) dL_law_529 hl.1 hw (fun H locs hw => ?_)
  refine W.eq (g2 := F0 m 532 ls [.int (r)]) rfl ?_
  refine lv_aload_n hx hb dL_law_532 rfl (lv_at hl 2 rfl) ?_
  refine lv_aload_n hx hb dL_law_533 rfl (lv_at hl 0 rfl) ?_
  refine lv_iload hx hb dL_law_534 (lv_at hl 4 rfl) ?_
  refine lv_iconst (v := 1) hx hb dL_law_536 (by decide) ?_
  refine lv_iadd hx hb dL_law_537 ?_
  refine va_sld hx hb hXs hbl hbA hw.2.2.2 (lin hx4 hi hL (show (1 : Int32) = nI 1 by decide) (by decide)) dL_law_538 ?_
  refine lm_call (st := [.int (r)]) [.int (xs (x4 + 1).toNatClampNeg)] hO (by omega) lk_75 (c_X12_rain (xs (x4 + 1).toNatClampNeg)) hM rfl rfl (Nat.le_of_ble_eq_true rfl) (by decide) dL_law_539 hl.1 hw (fun H locs hw => ?_)
  refine W.eq (g2 := F0 m 542 ls [.int (r), .int (r)]) rfl ?_
  refine lv_icmp_eq (tgt := 1559) hx hb dL_law_542 (by decide) (fun _ => ?_) (fun h => absurd rfl h)
  exact W.widen (k := 108 + (n + 1)) (n := lKS + 6 * (n + 1)) (by omega) (by omega) (next H locs ls hl hw)
set_option maxRecDepth 100000 in
set_option maxHeartbeats 4000000 in
theorem law_c10 {p : Program} {l : Launch} {e : Env} {s : State} {m : MethodId} {below : List Frame} {meth : Method} {c : Code} {D : va_G} {ca : FieldType → ClassId} {aX aM tt sa sv : Nat → Nat} {ob b L : Nat} {xs : Nat → Int32} {SX SM SX2 SM2 : zS} {f : Nat → Int64} {n : Nat} (hO : lOK p l s m meth c D ca aX aM tt sa sv ob b L xs) (hn : n + 1 ≤ 512) {x4 : Int32} {i : Nat} (hx4 : x4 = nI i) (hi : i + 5 ≤ L) {r : Int32} (hX : p_X11_sheet (xs (x4 + 1).toNatClampNeg) (xs (x4 + 2).toNatClampNeg) (xs (x4 + 3).toNatClampNeg) (xs (x4 + 4).toNatClampNeg) SX = some (r, SX2)) (hM : p_X12_sheet (xs (x4 + 1).toNatClampNeg) (xs (x4 + 2).toNatClampNeg) (xs (x4 + 3).toNatClampNeg) (xs (x4 + 4).toNatClampNeg) SM = some (r, SM2)) (next : ∀ (H : Heap) (locs : List Loc) (ls : Array Slot), lv_has ls 8 (lLo b aX aM ob x4) → lWo D ca aX aM ob SX2 SM2 f s H locs → lWr p l e s m below meth c b H locs (n + 1) (F0 m 1559 ls [])) : ∀ (H : Heap) (locs : List Loc) (ls : Array Slot), lv_has ls 8 (lLo b aX aM ob x4) → lWo D ca aX aM ob SX SM f s H locs → lWr p l e s m below meth c b H locs n (F0 m 547 ls []) := by
  intro H locs ls hl hw
  have hx := hO.1.1
  have hb := hO.1.2.1
  have hXs := hO.1.2.2.2.2.2.2.1
  have hbl := hO.1.2.2.2.2.2.2.2.1
  have hbA : ¬ lA s b := Nat.not_le.mpr hbl
  have hL := hO.2.2.2.1
  refine lv_aload_n hx hb dL_law_547 rfl (lv_at hl 1 rfl) ?_
  refine lv_aload_n hx hb dL_law_548 rfl (lv_at hl 0 rfl) ?_
  refine lv_iload hx hb dL_law_549 (lv_at hl 4 rfl) ?_
  refine lv_iconst (v := 1) hx hb dL_law_551 (by decide) ?_
  refine lv_iadd hx hb dL_law_552 ?_
  refine va_sld hx hb hXs hbl hbA hw.2.2.2 (lin hx4 hi hL (show (1 : Int32) = nI 1 by decide) (by decide)) dL_law_553 ?_
  refine lv_aload_n hx hb dL_law_554 rfl (lv_at hl 0 rfl) ?_
  refine lv_iload hx hb dL_law_555 (lv_at hl 4 rfl) ?_
  refine lv_iconst (v := 2) hx hb dL_law_557 (by decide) ?_
  refine lv_iadd hx hb dL_law_558 ?_
  refine va_sld hx hb hXs hbl hbA hw.2.2.2 (lin hx4 hi hL (show (2 : Int32) = nI 2 by decide) (by decide)) dL_law_559 ?_
  refine lv_aload_n hx hb dL_law_560 rfl (lv_at hl 0 rfl) ?_
  refine lv_iload hx hb dL_law_561 (lv_at hl 4 rfl) ?_
  refine lv_iconst (v := 3) hx hb dL_law_563 (by decide) ?_
  refine lv_iadd hx hb dL_law_564 ?_
  refine va_sld hx hb hXs hbl hbA hw.2.2.2 (lin hx4 hi hL (show (3 : Int32) = nI 3 by decide) (by decide)) dL_law_565 ?_
  refine lv_aload_n hx hb dL_law_566 rfl (lv_at hl 0 rfl) ?_
  refine lv_iload hx hb dL_law_567 (lv_at hl 4 rfl) ?_
  refine lv_iconst (v := 4) hx hb dL_law_569 (by decide) ?_
  refine lv_iadd hx hb dL_law_570 ?_
  refine va_sld hx hb hXs hbl hbA hw.2.2.2 (lin hx4 hi hL (show (4 : Int32) = nI 4 by decide) (by decide)) dL_law_571 ?_
  refine lx_call (st := []) [.int (xs (x4 + 1).toNatClampNeg), .int (xs (x4 + 2).toNatClampNeg), .int (xs (x4 + 3).toNatClampNeg), .int (xs (x4 + 4).toNatClampNeg)] hO (by omega) lk_76 (c_X11_sheet (xs (x4 + 1).toNatClampNeg) (xs (x4 + 2).toNatClampNeg) (xs (x4 + 3).toNatClampNeg) (xs (x4 + 4).toNatClampNeg)) hX rfl rfl (Nat.le_of_ble_eq_true rfl) (by decide) dL_law_572 hl.1 hw (fun H locs hw => ?_)
  refine W.eq (g2 := F0 m 575 ls [.int (r)]) rfl ?_
  refine lv_aload_n hx hb dL_law_575 rfl (lv_at hl 2 rfl) ?_
  refine lv_aload_n hx hb dL_law_576 rfl (lv_at hl 0 rfl) ?_
  refine lv_iload hx hb dL_law_577 (lv_at hl 4 rfl) ?_
  refine lv_iconst (v := 1) hx hb dL_law_579 (by decide) ?_
  refine lv_iadd hx hb dL_law_580 ?_
  refine va_sld hx hb hXs hbl hbA hw.2.2.2 (lin hx4 hi hL (show (1 : Int32) = nI 1 by decide) (by decide)) dL_law_581 ?_
  refine lv_aload_n hx hb dL_law_582 rfl (lv_at hl 0 rfl) ?_
  refine lv_iload hx hb dL_law_583 (lv_at hl 4 rfl) ?_
  refine lv_iconst (v := 2) hx hb dL_law_585 (by decide) ?_
  refine lv_iadd hx hb dL_law_586 ?_
  refine va_sld hx hb hXs hbl hbA hw.2.2.2 (lin hx4 hi hL (show (2 : Int32) = nI 2 by decide) (by decide)) dL_law_587 ?_
  refine lv_aload_n hx hb dL_law_588 rfl (lv_at hl 0 rfl) ?_
  refine lv_iload hx hb dL_law_589 (lv_at hl 4 rfl) ?_
  refine lv_iconst (v := 3) hx hb dL_law_591 (by decide) ?_
  refine lv_iadd hx hb dL_law_592 ?_
  refine va_sld hx hb hXs hbl hbA hw.2.2.2 (lin hx4 hi hL (show (3 : Int32) = nI 3 by decide) (by decide)) dL_law_593 ?_
  refine lv_aload_n hx hb dL_law_594 rfl (lv_at hl 0 rfl) ?_
  refine lv_iload hx hb dL_law_595 (lv_at hl 4 rfl) ?_
  refine lv_iconst (v := 4) hx hb dL_law_597 (by decide) ?_
  refine lv_iadd hx hb dL_law_598 ?_
  refine va_sld hx hb hXs hbl hbA hw.2.2.2 (lin hx4 hi hL (show (4 : Int32) = nI 4 by decide) (by decide)) dL_law_599 ?_
  refine lm_call (st := [.int (r)]) [.int (xs (x4 + 1).toNatClampNeg), .int (xs (x4 + 2).toNatClampNeg), .int (xs (x4 + 3).toNatClampNeg), .int (xs (x4 + 4).toNatClampNeg)] hO (by omega) lk_80 (c_X12_sheet (xs (x4 + 1).toNatClampNeg) (xs (x4 + 2).toNatClampNeg) (xs (x4 + 3).toNatClampNeg) (xs (x4 + 4).toNatClampNeg)) hM rfl rfl (Nat.le_of_ble_eq_true rfl) (by decide) dL_law_600 hl.1 hw (fun H locs hw => ?_)
  refine W.eq (g2 := F0 m 603 ls [.int (r), .int (r)]) rfl ?_
  refine lv_icmp_eq (tgt := 1559) hx hb dL_law_603 (by decide) (fun _ => ?_) (fun h => absurd rfl h)
  exact W.widen (k := 108 + (n + 1)) (n := lKS + 6 * (n + 1)) (by omega) (by omega) (next H locs ls hl hw)
set_option maxRecDepth 100000 in
set_option maxHeartbeats 4000000 in
theorem law_c11 {p : Program} {l : Launch} {e : Env} {s : State} {m : MethodId} {below : List Frame} {meth : Method} {c : Code} {D : va_G} {ca : FieldType → ClassId} {aX aM tt sa sv : Nat → Nat} {ob b L : Nat} {xs : Nat → Int32} {SX SM SX2 SM2 : zS} {f : Nat → Int64} {n : Nat} (hO : lOK p l s m meth c D ca aX aM tt sa sv ob b L xs) (hn : n + 1 ≤ 512) {x4 : Int32} {i : Nat} (hx4 : x4 = nI i) (hi : i + 5 ≤ L) {r : Int32} (hX : p_X11_launch (xs (x4 + 1).toNatClampNeg) SX = some (r, SX2)) (hM : p_X12_launch (xs (x4 + 1).toNatClampNeg) SM = some (r, SM2)) (next : ∀ (H : Heap) (locs : List Loc) (ls : Array Slot), lv_has ls 8 (lLo b aX aM ob x4) → lWo D ca aX aM ob SX2 SM2 f s H locs → lWr p l e s m below meth c b H locs (n + 1) (F0 m 1559 ls [])) : ∀ (H : Heap) (locs : List Loc) (ls : Array Slot), lv_has ls 8 (lLo b aX aM ob x4) → lWo D ca aX aM ob SX SM f s H locs → lWr p l e s m below meth c b H locs n (F0 m 608 ls []) := by
  intro H locs ls hl hw
  have hx := hO.1.1
  have hb := hO.1.2.1
  have hXs := hO.1.2.2.2.2.2.2.1
  have hbl := hO.1.2.2.2.2.2.2.2.1
  have hbA : ¬ lA s b := Nat.not_le.mpr hbl
  have hL := hO.2.2.2.1
  refine lv_aload_n hx hb dL_law_608 rfl (lv_at hl 1 rfl) ?_
  refine lv_aload_n hx hb dL_law_609 rfl (lv_at hl 0 rfl) ?_
  refine lv_iload hx hb dL_law_610 (lv_at hl 4 rfl) ?_
  refine lv_iconst (v := 1) hx hb dL_law_612 (by decide) ?_
  refine lv_iadd hx hb dL_law_613 ?_
  refine va_sld hx hb hXs hbl hbA hw.2.2.2 (lin hx4 hi hL (show (1 : Int32) = nI 1 by decide) (by decide)) dL_law_614 ?_
  refine lx_call (st := []) [.int (xs (x4 + 1).toNatClampNeg)] hO (by omega) lk_81 (c_X11_launch (xs (x4 + 1).toNatClampNeg)) hX rfl rfl (Nat.le_of_ble_eq_true rfl) (by decide) dL_law_615 hl.1 hw (fun H locs hw => ?_)
  refine W.eq (g2 := F0 m 618 ls [.int (r)]) rfl ?_
  refine lv_aload_n hx hb dL_law_618 rfl (lv_at hl 2 rfl) ?_
  refine lv_aload_n hx hb dL_law_619 rfl (lv_at hl 0 rfl) ?_
  refine lv_iload hx hb dL_law_620 (lv_at hl 4 rfl) ?_
  refine lv_iconst (v := 1) hx hb dL_law_622 (by decide) ?_
  refine lv_iadd hx hb dL_law_623 ?_
  refine va_sld hx hb hXs hbl hbA hw.2.2.2 (lin hx4 hi hL (show (1 : Int32) = nI 1 by decide) (by decide)) dL_law_624 ?_
  refine lm_call (st := [.int (r)]) [.int (xs (x4 + 1).toNatClampNeg)] hO (by omega) lk_84 (c_X12_launch (xs (x4 + 1).toNatClampNeg)) hM rfl rfl (Nat.le_of_ble_eq_true rfl) (by decide) dL_law_625 hl.1 hw (fun H locs hw => ?_)
  refine W.eq (g2 := F0 m 628 ls [.int (r), .int (r)]) rfl ?_
  refine lv_icmp_eq (tgt := 1559) hx hb dL_law_628 (by decide) (fun _ => ?_) (fun h => absurd rfl h)
  exact W.widen (k := 108 + (n + 1)) (n := lKS + 6 * (n + 1)) (by omega) (by omega) (next H locs ls hl hw)
set_option maxRecDepth 100000 in
set_option maxHeartbeats 4000000 in
theorem law_c12 {p : Program} {l : Launch} {e : Env} {s : State} {m : MethodId} {below : List Frame} {meth : Method} {c : Code} {D : va_G} {ca : FieldType → ClassId} {aX aM tt sa sv : Nat → Nat} {ob b L : Nat} {xs : Nat → Int32} {SX SM SX2 SM2 : zS} {f : Nat → Int64} {n : Nat} (hO : lOK p l s m meth c D ca aX aM tt sa sv ob b L xs) (hn : n + 1 ≤ 512) {x4 : Int32} {i : Nat} (hx4 : x4 = nI i) (hi : i + 5 ≤ L) {r : Int32} (hX : p_X11_moor (xs (x4 + 1).toNatClampNeg) (xs (x4 + 2).toNatClampNeg) SX = some (r, SX2)) (hM : p_X12_moor (xs (x4 + 1).toNatClampNeg) (xs (x4 + 2).toNatClampNeg) SM = some (r, SM2)) (next : ∀ (H : Heap) (locs : List Loc) (ls : Array Slot), lv_has ls 8 (lLo b aX aM ob x4) → lWo D ca aX aM ob SX2 SM2 f s H locs → lWr p l e s m below meth c b H locs (n + 1) (F0 m 1559 ls [])) : ∀ (H : Heap) (locs : List Loc) (ls : Array Slot), lv_has ls 8 (lLo b aX aM ob x4) → lWo D ca aX aM ob SX SM f s H locs → lWr p l e s m below meth c b H locs n (F0 m 633 ls []) := by
  intro H locs ls hl hw
  have hx := hO.1.1
  have hb := hO.1.2.1
  have hXs := hO.1.2.2.2.2.2.2.1
  have hbl := hO.1.2.2.2.2.2.2.2.1
  have hbA : ¬ lA s b := Nat.not_le.mpr hbl
  have hL := hO.2.2.2.1
  refine lv_aload_n hx hb dL_law_633 rfl (lv_at hl 1 rfl) ?_
  refine lv_aload_n hx hb dL_law_634 rfl (lv_at hl 0 rfl) ?_
  refine lv_iload hx hb dL_law_635 (lv_at hl 4 rfl) ?_
  refine lv_iconst (v := 1) hx hb dL_law_637 (by decide) ?_
  refine lv_iadd hx hb dL_law_638 ?_
  refine va_sld hx hb hXs hbl hbA hw.2.2.2 (lin hx4 hi hL (show (1 : Int32) = nI 1 by decide) (by decide)) dL_law_639 ?_
  refine lv_aload_n hx hb dL_law_640 rfl (lv_at hl 0 rfl) ?_
  refine lv_iload hx hb dL_law_641 (lv_at hl 4 rfl) ?_
  refine lv_iconst (v := 2) hx hb dL_law_643 (by decide) ?_
  refine lv_iadd hx hb dL_law_644 ?_
  refine va_sld hx hb hXs hbl hbA hw.2.2.2 (lin hx4 hi hL (show (2 : Int32) = nI 2 by decide) (by decide)) dL_law_645 ?_
  refine lx_call (st := []) [.int (xs (x4 + 1).toNatClampNeg), .int (xs (x4 + 2).toNatClampNeg)] hO (by omega) lk_85 (c_X11_moor (xs (x4 + 1).toNatClampNeg) (xs (x4 + 2).toNatClampNeg)) hX rfl rfl (Nat.le_of_ble_eq_true rfl) (by decide) dL_law_646 hl.1 hw (fun H locs hw => ?_)
  refine W.eq (g2 := F0 m 649 ls [.int (r)]) rfl ?_
  refine lv_aload_n hx hb dL_law_649 rfl (lv_at hl 2 rfl) ?_
  refine lv_aload_n hx hb dL_law_650 rfl (lv_at hl 0 rfl) ?_
  refine lv_iload hx hb dL_law_651 (lv_at hl 4 rfl) ?_
  refine lv_iconst (v := 1) hx hb dL_law_653 (by decide) ?_
  refine lv_iadd hx hb dL_law_654 ?_
  refine va_sld hx hb hXs hbl hbA hw.2.2.2 (lin hx4 hi hL (show (1 : Int32) = nI 1 by decide) (by decide)) dL_law_655 ?_
  refine lv_aload_n hx hb dL_law_656 rfl (lv_at hl 0 rfl) ?_
  refine lv_iload hx hb dL_law_657 (lv_at hl 4 rfl) ?_
  refine lv_iconst (v := 2) hx hb dL_law_659 (by decide) ?_
  refine lv_iadd hx hb dL_law_660 ?_
  refine va_sld hx hb hXs hbl hbA hw.2.2.2 (lin hx4 hi hL (show (2 : Int32) = nI 2 by decide) (by decide)) dL_law_661 ?_
  refine lm_call (st := [.int (r)]) [.int (xs (x4 + 1).toNatClampNeg), .int (xs (x4 + 2).toNatClampNeg)] hO (by omega) lk_88 (c_X12_moor (xs (x4 + 1).toNatClampNeg) (xs (x4 + 2).toNatClampNeg)) hM rfl rfl (Nat.le_of_ble_eq_true rfl) (by decide) dL_law_662 hl.1 hw (fun H locs hw => ?_)
  refine W.eq (g2 := F0 m 665 ls [.int (r), .int (r)]) rfl ?_
  refine lv_icmp_eq (tgt := 1559) hx hb dL_law_665 (by decide) (fun _ => ?_) (fun h => absurd rfl h)
  exact W.widen (k := 108 + (n + 1)) (n := lKS + 6 * (n + 1)) (by omega) (by omega) (next H locs ls hl hw)
set_option maxRecDepth 100000 in
set_option maxHeartbeats 4000000 in
theorem law_c13 {p : Program} {l : Launch} {e : Env} {s : State} {m : MethodId} {below : List Frame} {meth : Method} {c : Code} {D : va_G} {ca : FieldType → ClassId} {aX aM tt sa sv : Nat → Nat} {ob b L : Nat} {xs : Nat → Int32} {SX SM SX2 SM2 : zS} {f : Nat → Int64} {n : Nat} (hO : lOK p l s m meth c D ca aX aM tt sa sv ob b L xs) (hn : n + 1 ≤ 512) {x4 : Int32} {i : Nat} (hx4 : x4 = nI i) (hi : i + 5 ≤ L) {r : Int32} (hX : p_X11_cast (xs (x4 + 1).toNatClampNeg) SX = some (r, SX2)) (hM : p_X12_cast (xs (x4 + 1).toNatClampNeg) SM = some (r, SM2)) (next : ∀ (H : Heap) (locs : List Loc) (ls : Array Slot), lv_has ls 8 (lLo b aX aM ob x4) → lWo D ca aX aM ob SX2 SM2 f s H locs → lWr p l e s m below meth c b H locs (n + 1) (F0 m 1559 ls [])) : ∀ (H : Heap) (locs : List Loc) (ls : Array Slot), lv_has ls 8 (lLo b aX aM ob x4) → lWo D ca aX aM ob SX SM f s H locs → lWr p l e s m below meth c b H locs n (F0 m 670 ls []) := by
  intro H locs ls hl hw
  have hx := hO.1.1
  have hb := hO.1.2.1
  have hXs := hO.1.2.2.2.2.2.2.1
  have hbl := hO.1.2.2.2.2.2.2.2.1
  have hbA : ¬ lA s b := Nat.not_le.mpr hbl
  have hL := hO.2.2.2.1
  refine lv_aload_n hx hb dL_law_670 rfl (lv_at hl 1 rfl) ?_
  refine lv_aload_n hx hb dL_law_671 rfl (lv_at hl 0 rfl) ?_
  refine lv_iload hx hb dL_law_672 (lv_at hl 4 rfl) ?_
  refine lv_iconst (v := 1) hx hb dL_law_674 (by decide) ?_
  refine lv_iadd hx hb dL_law_675 ?_
  refine va_sld hx hb hXs hbl hbA hw.2.2.2 (lin hx4 hi hL (show (1 : Int32) = nI 1 by decide) (by decide)) dL_law_676 ?_
  refine lx_call (st := []) [.int (xs (x4 + 1).toNatClampNeg)] hO (by omega) lk_89 (c_X11_cast (xs (x4 + 1).toNatClampNeg)) hX rfl rfl (Nat.le_of_ble_eq_true rfl) (by decide) dL_law_677 hl.1 hw (fun H locs hw => ?_)
  refine W.eq (g2 := F0 m 680 ls [.int (r)]) rfl ?_
  refine lv_aload_n hx hb dL_law_680 rfl (lv_at hl 2 rfl) ?_
  refine lv_aload_n hx hb dL_law_681 rfl (lv_at hl 0 rfl) ?_
  refine lv_iload hx hb dL_law_682 (lv_at hl 4 rfl) ?_
  refine lv_iconst (v := 1) hx hb dL_law_684 (by decide) ?_
  refine lv_iadd hx hb dL_law_685 ?_
  refine va_sld hx hb hXs hbl hbA hw.2.2.2 (lin hx4 hi hL (show (1 : Int32) = nI 1 by decide) (by decide)) dL_law_686 ?_
  refine lm_call (st := [.int (r)]) [.int (xs (x4 + 1).toNatClampNeg)] hO (by omega) lk_92 (c_X12_cast (xs (x4 + 1).toNatClampNeg)) hM rfl rfl (Nat.le_of_ble_eq_true rfl) (by decide) dL_law_687 hl.1 hw (fun H locs hw => ?_)
  refine W.eq (g2 := F0 m 690 ls [.int (r), .int (r)]) rfl ?_
  refine lv_icmp_eq (tgt := 1559) hx hb dL_law_690 (by decide) (fun _ => ?_) (fun h => absurd rfl h)
  exact W.widen (k := 108 + (n + 1)) (n := lKS + 6 * (n + 1)) (by omega) (by omega) (next H locs ls hl hw)
set_option maxRecDepth 100000 in
set_option maxHeartbeats 4000000 in
theorem law_c14 {p : Program} {l : Launch} {e : Env} {s : State} {m : MethodId} {below : List Frame} {meth : Method} {c : Code} {D : va_G} {ca : FieldType → ClassId} {aX aM tt sa sv : Nat → Nat} {ob b L : Nat} {xs : Nat → Int32} {SX SM SX2 SM2 : zS} {f : Nat → Int64} {n : Nat} (hO : lOK p l s m meth c D ca aX aM tt sa sv ob b L xs) (hn : n + 1 ≤ 512) {x4 : Int32} {i : Nat} (hx4 : x4 = nI i) (hi : i + 5 ≤ L) {r : Int32} (hX : p_X11_sacks (xs (x4 + 1).toNatClampNeg) (xs (x4 + 2).toNatClampNeg) SX = some (r, SX2)) (hM : p_X12_sacks (xs (x4 + 1).toNatClampNeg) (xs (x4 + 2).toNatClampNeg) SM = some (r, SM2)) (next : ∀ (H : Heap) (locs : List Loc) (ls : Array Slot), lv_has ls 8 (lLo b aX aM ob x4) → lWo D ca aX aM ob SX2 SM2 f s H locs → lWr p l e s m below meth c b H locs (n + 1) (F0 m 1559 ls [])) : ∀ (H : Heap) (locs : List Loc) (ls : Array Slot), lv_has ls 8 (lLo b aX aM ob x4) → lWo D ca aX aM ob SX SM f s H locs → lWr p l e s m below meth c b H locs n (F0 m 695 ls []) := by
  intro H locs ls hl hw
  have hx := hO.1.1
  have hb := hO.1.2.1
  have hXs := hO.1.2.2.2.2.2.2.1
  have hbl := hO.1.2.2.2.2.2.2.2.1
  have hbA : ¬ lA s b := Nat.not_le.mpr hbl
  have hL := hO.2.2.2.1
  refine lv_aload_n hx hb dL_law_695 rfl (lv_at hl 1 rfl) ?_
  refine lv_aload_n hx hb dL_law_696 rfl (lv_at hl 0 rfl) ?_
  refine lv_iload hx hb dL_law_697 (lv_at hl 4 rfl) ?_
  refine lv_iconst (v := 1) hx hb dL_law_699 (by decide) ?_
  refine lv_iadd hx hb dL_law_700 ?_
  refine va_sld hx hb hXs hbl hbA hw.2.2.2 (lin hx4 hi hL (show (1 : Int32) = nI 1 by decide) (by decide)) dL_law_701 ?_
  refine lv_aload_n hx hb dL_law_702 rfl (lv_at hl 0 rfl) ?_
  refine lv_iload hx hb dL_law_703 (lv_at hl 4 rfl) ?_
  refine lv_iconst (v := 2) hx hb dL_law_705 (by decide) ?_
  refine lv_iadd hx hb dL_law_706 ?_
  refine va_sld hx hb hXs hbl hbA hw.2.2.2 (lin hx4 hi hL (show (2 : Int32) = nI 2 by decide) (by decide)) dL_law_707 ?_
  refine lx_call (st := []) [.int (xs (x4 + 1).toNatClampNeg), .int (xs (x4 + 2).toNatClampNeg)] hO (by omega) lk_93 (c_X11_sacks (xs (x4 + 1).toNatClampNeg) (xs (x4 + 2).toNatClampNeg)) hX rfl rfl (Nat.le_of_ble_eq_true rfl) (by decide) dL_law_708 hl.1 hw (fun H locs hw => ?_)
  refine W.eq (g2 := F0 m 711 ls [.int (r)]) rfl ?_
  refine lv_aload_n hx hb dL_law_711 rfl (lv_at hl 2 rfl) ?_
  refine lv_aload_n hx hb dL_law_712 rfl (lv_at hl 0 rfl) ?_
  refine lv_iload hx hb dL_law_713 (lv_at hl 4 rfl) ?_
  refine lv_iconst (v := 1) hx hb dL_law_715 (by decide) ?_
  refine lv_iadd hx hb dL_law_716 ?_
  refine va_sld hx hb hXs hbl hbA hw.2.2.2 (lin hx4 hi hL (show (1 : Int32) = nI 1 by decide) (by decide)) dL_law_717 ?_
  refine lv_aload_n hx hb dL_law_718 rfl (lv_at hl 0 rfl) ?_
  refine lv_iload hx hb dL_law_719 (lv_at hl 4 rfl) ?_
  refine lv_iconst (v := 2) hx hb dL_law_721 (by decide) ?_
  refine lv_iadd hx hb dL_law_722 ?_
  refine va_sld hx hb hXs hbl hbA hw.2.2.2 (lin hx4 hi hL (show (2 : Int32) = nI 2 by decide) (by decide)) dL_law_723 ?_
  refine lm_call (st := [.int (r)]) [.int (xs (x4 + 1).toNatClampNeg), .int (xs (x4 + 2).toNatClampNeg)] hO (by omega) lk_96 (c_X12_sacks (xs (x4 + 1).toNatClampNeg) (xs (x4 + 2).toNatClampNeg)) hM rfl rfl (Nat.le_of_ble_eq_true rfl) (by decide) dL_law_724 hl.1 hw (fun H locs hw => ?_)
  refine W.eq (g2 := F0 m 727 ls [.int (r), .int (r)]) rfl ?_
  refine lv_icmp_eq (tgt := 1559) hx hb dL_law_727 (by decide) (fun _ => ?_) (fun h => absurd rfl h)
  exact W.widen (k := 108 + (n + 1)) (n := lKS + 6 * (n + 1)) (by omega) (by omega) (next H locs ls hl hw)
set_option maxRecDepth 100000 in
set_option maxHeartbeats 4000000 in
theorem law_c15 {p : Program} {l : Launch} {e : Env} {s : State} {m : MethodId} {below : List Frame} {meth : Method} {c : Code} {D : va_G} {ca : FieldType → ClassId} {aX aM tt sa sv : Nat → Nat} {ob b L : Nat} {xs : Nat → Int32} {SX SM SX2 SM2 : zS} {f : Nat → Int64} {n : Nat} (hO : lOK p l s m meth c D ca aX aM tt sa sv ob b L xs) (hn : n + 1 ≤ 512) {x4 : Int32} {i : Nat} (hx4 : x4 = nI i) (hi : i + 5 ≤ L) {r : Int32} (hX : p_X11_cargo (xs (x4 + 1).toNatClampNeg) (xs (x4 + 2).toNatClampNeg) SX = some (r, SX2)) (hM : p_X12_cargo (xs (x4 + 1).toNatClampNeg) (xs (x4 + 2).toNatClampNeg) SM = some (r, SM2)) (next : ∀ (H : Heap) (locs : List Loc) (ls : Array Slot), lv_has ls 8 (lLo b aX aM ob x4) → lWo D ca aX aM ob SX2 SM2 f s H locs → lWr p l e s m below meth c b H locs (n + 1) (F0 m 1559 ls [])) : ∀ (H : Heap) (locs : List Loc) (ls : Array Slot), lv_has ls 8 (lLo b aX aM ob x4) → lWo D ca aX aM ob SX SM f s H locs → lWr p l e s m below meth c b H locs n (F0 m 732 ls []) := by
  intro H locs ls hl hw
  have hx := hO.1.1
  have hb := hO.1.2.1
  have hXs := hO.1.2.2.2.2.2.2.1
  have hbl := hO.1.2.2.2.2.2.2.2.1
  have hbA : ¬ lA s b := Nat.not_le.mpr hbl
  have hL := hO.2.2.2.1
  refine lv_aload_n hx hb dL_law_732 rfl (lv_at hl 1 rfl) ?_
  refine lv_aload_n hx hb dL_law_733 rfl (lv_at hl 0 rfl) ?_
  refine lv_iload hx hb dL_law_734 (lv_at hl 4 rfl) ?_
  refine lv_iconst (v := 1) hx hb dL_law_736 (by decide) ?_
  refine lv_iadd hx hb dL_law_737 ?_
  refine va_sld hx hb hXs hbl hbA hw.2.2.2 (lin hx4 hi hL (show (1 : Int32) = nI 1 by decide) (by decide)) dL_law_738 ?_
  refine lv_aload_n hx hb dL_law_739 rfl (lv_at hl 0 rfl) ?_
  refine lv_iload hx hb dL_law_740 (lv_at hl 4 rfl) ?_
  refine lv_iconst (v := 2) hx hb dL_law_742 (by decide) ?_
  refine lv_iadd hx hb dL_law_743 ?_
  refine va_sld hx hb hXs hbl hbA hw.2.2.2 (lin hx4 hi hL (show (2 : Int32) = nI 2 by decide) (by decide)) dL_law_744 ?_
  refine lx_call (st := []) [.int (xs (x4 + 1).toNatClampNeg), .int (xs (x4 + 2).toNatClampNeg)] hO (by omega) lk_97 (c_X11_cargo (xs (x4 + 1).toNatClampNeg) (xs (x4 + 2).toNatClampNeg)) hX rfl rfl (Nat.le_of_ble_eq_true rfl) (by decide) dL_law_745 hl.1 hw (fun H locs hw => ?_)
  refine W.eq (g2 := F0 m 748 ls [.int (r)]) rfl ?_
  refine lv_aload_n hx hb dL_law_748 rfl (lv_at hl 2 rfl) ?_
  refine lv_aload_n hx hb dL_law_749 rfl (lv_at hl 0 rfl) ?_
  refine lv_iload hx hb dL_law_750 (lv_at hl 4 rfl) ?_
  refine lv_iconst (v := 1) hx hb dL_law_752 (by decide) ?_
  refine lv_iadd hx hb dL_law_753 ?_
  refine va_sld hx hb hXs hbl hbA hw.2.2.2 (lin hx4 hi hL (show (1 : Int32) = nI 1 by decide) (by decide)) dL_law_754 ?_
  refine lv_aload_n hx hb dL_law_755 rfl (lv_at hl 0 rfl) ?_
  refine lv_iload hx hb dL_law_756 (lv_at hl 4 rfl) ?_
  refine lv_iconst (v := 2) hx hb dL_law_758 (by decide) ?_
  refine lv_iadd hx hb dL_law_759 ?_
  refine va_sld hx hb hXs hbl hbA hw.2.2.2 (lin hx4 hi hL (show (2 : Int32) = nI 2 by decide) (by decide)) dL_law_760 ?_
  refine lm_call (st := [.int (r)]) [.int (xs (x4 + 1).toNatClampNeg), .int (xs (x4 + 2).toNatClampNeg)] hO (by omega) lk_100 (c_X12_cargo (xs (x4 + 1).toNatClampNeg) (xs (x4 + 2).toNatClampNeg)) hM rfl rfl (Nat.le_of_ble_eq_true rfl) (by decide) dL_law_761 hl.1 hw (fun H locs hw => ?_)
  refine W.eq (g2 := F0 m 764 ls [.int (r), .int (r)]) rfl ?_
  refine lv_icmp_eq (tgt := 1559) hx hb dL_law_764 (by decide) (fun _ => ?_) (fun h => absurd rfl h)
  exact W.widen (k := 108 + (n + 1)) (n := lKS + 6 * (n + 1)) (by omega) (by omega) (next H locs ls hl hw)
set_option maxRecDepth 100000 in
set_option maxHeartbeats 4000000 in
theorem law_c16 {p : Program} {l : Launch} {e : Env} {s : State} {m : MethodId} {below : List Frame} {meth : Method} {c : Code} {D : va_G} {ca : FieldType → ClassId} {aX aM tt sa sv : Nat → Nat} {ob b L : Nat} {xs : Nat → Int32} {SX SM SX2 SM2 : zS} {f : Nat → Int64} {n : Nat} (hO : lOK p l s m meth c D ca aX aM tt sa sv ob b L xs) (hn : n + 1 ≤ 512) {x4 : Int32} {i : Nat} (hx4 : x4 = nI i) (hi : i + 5 ≤ L) {r : Int32} (hX : p_X11_fill (xs (x4 + 1).toNatClampNeg) (xs (x4 + 2).toNatClampNeg) SX = some (r, SX2)) (hM : p_X12_fill (xs (x4 + 1).toNatClampNeg) (xs (x4 + 2).toNatClampNeg) SM = some (r, SM2)) (next : ∀ (H : Heap) (locs : List Loc) (ls : Array Slot), lv_has ls 8 (lLo b aX aM ob x4) → lWo D ca aX aM ob SX2 SM2 f s H locs → lWr p l e s m below meth c b H locs (n + 1) (F0 m 1559 ls [])) : ∀ (H : Heap) (locs : List Loc) (ls : Array Slot), lv_has ls 8 (lLo b aX aM ob x4) → lWo D ca aX aM ob SX SM f s H locs → lWr p l e s m below meth c b H locs n (F0 m 769 ls []) := by
  intro H locs ls hl hw
  have hx := hO.1.1
  have hb := hO.1.2.1
  have hXs := hO.1.2.2.2.2.2.2.1
  have hbl := hO.1.2.2.2.2.2.2.2.1
  have hbA : ¬ lA s b := Nat.not_le.mpr hbl
  have hL := hO.2.2.2.1
  refine lv_aload_n hx hb dL_law_769 rfl (lv_at hl 1 rfl) ?_
  refine lv_aload_n hx hb dL_law_770 rfl (lv_at hl 0 rfl) ?_
  refine lv_iload hx hb dL_law_771 (lv_at hl 4 rfl) ?_
  refine lv_iconst (v := 1) hx hb dL_law_773 (by decide) ?_
  refine lv_iadd hx hb dL_law_774 ?_
  refine va_sld hx hb hXs hbl hbA hw.2.2.2 (lin hx4 hi hL (show (1 : Int32) = nI 1 by decide) (by decide)) dL_law_775 ?_
  refine lv_aload_n hx hb dL_law_776 rfl (lv_at hl 0 rfl) ?_
  refine lv_iload hx hb dL_law_777 (lv_at hl 4 rfl) ?_
  refine lv_iconst (v := 2) hx hb dL_law_779 (by decide) ?_
  refine lv_iadd hx hb dL_law_780 ?_
  refine va_sld hx hb hXs hbl hbA hw.2.2.2 (lin hx4 hi hL (show (2 : Int32) = nI 2 by decide) (by decide)) dL_law_781 ?_
  refine lx_call (st := []) [.int (xs (x4 + 1).toNatClampNeg), .int (xs (x4 + 2).toNatClampNeg)] hO (by omega) lk_101 (c_X11_fill (xs (x4 + 1).toNatClampNeg) (xs (x4 + 2).toNatClampNeg)) hX rfl rfl (Nat.le_of_ble_eq_true rfl) (by decide) dL_law_782 hl.1 hw (fun H locs hw => ?_)
  refine W.eq (g2 := F0 m 785 ls [.int (r)]) rfl ?_
  refine lv_aload_n hx hb dL_law_785 rfl (lv_at hl 2 rfl) ?_
  refine lv_aload_n hx hb dL_law_786 rfl (lv_at hl 0 rfl) ?_
  refine lv_iload hx hb dL_law_787 (lv_at hl 4 rfl) ?_
  refine lv_iconst (v := 1) hx hb dL_law_789 (by decide) ?_
  refine lv_iadd hx hb dL_law_790 ?_
  refine va_sld hx hb hXs hbl hbA hw.2.2.2 (lin hx4 hi hL (show (1 : Int32) = nI 1 by decide) (by decide)) dL_law_791 ?_
  refine lv_aload_n hx hb dL_law_792 rfl (lv_at hl 0 rfl) ?_
  refine lv_iload hx hb dL_law_793 (lv_at hl 4 rfl) ?_
  refine lv_iconst (v := 2) hx hb dL_law_795 (by decide) ?_
  refine lv_iadd hx hb dL_law_796 ?_
  refine va_sld hx hb hXs hbl hbA hw.2.2.2 (lin hx4 hi hL (show (2 : Int32) = nI 2 by decide) (by decide)) dL_law_797 ?_
  refine lm_call (st := [.int (r)]) [.int (xs (x4 + 1).toNatClampNeg), .int (xs (x4 + 2).toNatClampNeg)] hO (by omega) lk_104 (c_X12_fill (xs (x4 + 1).toNatClampNeg) (xs (x4 + 2).toNatClampNeg)) hM rfl rfl (Nat.le_of_ble_eq_true rfl) (by decide) dL_law_798 hl.1 hw (fun H locs hw => ?_)
  refine W.eq (g2 := F0 m 801 ls [.int (r), .int (r)]) rfl ?_
  refine lv_icmp_eq (tgt := 1559) hx hb dL_law_801 (by decide) (fun _ => ?_) (fun h => absurd rfl h)
  exact W.widen (k := 108 + (n + 1)) (n := lKS + 6 * (n + 1)) (by omega) (by omega) (next H locs ls hl hw)
set_option maxRecDepth 100000 in
set_option maxHeartbeats 4000000 in
theorem law_c17 {p : Program} {l : Launch} {e : Env} {s : State} {m : MethodId} {below : List Frame} {meth : Method} {c : Code} {D : va_G} {ca : FieldType → ClassId} {aX aM tt sa sv : Nat → Nat} {ob b L : Nat} {xs : Nat → Int32} {SX SM SX2 SM2 : zS} {f : Nat → Int64} {n : Nat} (hO : lOK p l s m meth c D ca aX aM tt sa sv ob b L xs) (hn : n + 1 ≤ 512) {x4 : Int32} {i : Nat} (hx4 : x4 = nI i) (hi : i + 5 ≤ L) {r : Int32} (hX : p_X11_hours (xs (x4 + 1).toNatClampNeg) SX = some (r, SX2)) (hM : p_X12_hours (xs (x4 + 1).toNatClampNeg) SM = some (r, SM2)) (next : ∀ (H : Heap) (locs : List Loc) (ls : Array Slot), lv_has ls 8 (lLo b aX aM ob x4) → lWo D ca aX aM ob SX2 SM2 f s H locs → lWr p l e s m below meth c b H locs (n + 1) (F0 m 1559 ls [])) : ∀ (H : Heap) (locs : List Loc) (ls : Array Slot), lv_has ls 8 (lLo b aX aM ob x4) → lWo D ca aX aM ob SX SM f s H locs → lWr p l e s m below meth c b H locs n (F0 m 806 ls []) := by
  intro H locs ls hl hw
  have hx := hO.1.1
  have hb := hO.1.2.1
  have hXs := hO.1.2.2.2.2.2.2.1
  have hbl := hO.1.2.2.2.2.2.2.2.1
  have hbA : ¬ lA s b := Nat.not_le.mpr hbl
  have hL := hO.2.2.2.1
  refine lv_aload_n hx hb dL_law_806 rfl (lv_at hl 1 rfl) ?_
  refine lv_aload_n hx hb dL_law_807 rfl (lv_at hl 0 rfl) ?_
  refine lv_iload hx hb dL_law_808 (lv_at hl 4 rfl) ?_
  refine lv_iconst (v := 1) hx hb dL_law_810 (by decide) ?_
  refine lv_iadd hx hb dL_law_811 ?_
  refine va_sld hx hb hXs hbl hbA hw.2.2.2 (lin hx4 hi hL (show (1 : Int32) = nI 1 by decide) (by decide)) dL_law_812 ?_
  refine lx_call (st := []) [.int (xs (x4 + 1).toNatClampNeg)] hO (by omega) lk_105 (c_X11_hours (xs (x4 + 1).toNatClampNeg)) hX rfl rfl (Nat.le_of_ble_eq_true rfl) (by decide) dL_law_813 hl.1 hw (fun H locs hw => ?_)
  refine W.eq (g2 := F0 m 816 ls [.int (r)]) rfl ?_
  refine lv_aload_n hx hb dL_law_816 rfl (lv_at hl 2 rfl) ?_
  refine lv_aload_n hx hb dL_law_817 rfl (lv_at hl 0 rfl) ?_
  refine lv_iload hx hb dL_law_818 (lv_at hl 4 rfl) ?_
  refine lv_iconst (v := 1) hx hb dL_law_820 (by decide) ?_
  refine lv_iadd hx hb dL_law_821 ?_
  refine va_sld hx hb hXs hbl hbA hw.2.2.2 (lin hx4 hi hL (show (1 : Int32) = nI 1 by decide) (by decide)) dL_law_822 ?_
  refine lm_call (st := [.int (r)]) [.int (xs (x4 + 1).toNatClampNeg)] hO (by omega) lk_108 (c_X12_hours (xs (x4 + 1).toNatClampNeg)) hM rfl rfl (Nat.le_of_ble_eq_true rfl) (by decide) dL_law_823 hl.1 hw (fun H locs hw => ?_)
  refine W.eq (g2 := F0 m 826 ls [.int (r), .int (r)]) rfl ?_
  refine lv_icmp_eq (tgt := 1559) hx hb dL_law_826 (by decide) (fun _ => ?_) (fun h => absurd rfl h)
  exact W.widen (k := 108 + (n + 1)) (n := lKS + 6 * (n + 1)) (by omega) (by omega) (next H locs ls hl hw)
set_option maxRecDepth 100000 in
set_option maxHeartbeats 4000000 in
theorem law_c18 {p : Program} {l : Launch} {e : Env} {s : State} {m : MethodId} {below : List Frame} {meth : Method} {c : Code} {D : va_G} {ca : FieldType → ClassId} {aX aM tt sa sv : Nat → Nat} {ob b L : Nat} {xs : Nat → Int32} {SX SM SX2 SM2 : zS} {f : Nat → Int64} {n : Nat} (hO : lOK p l s m meth c D ca aX aM tt sa sv ob b L xs) (hn : n + 1 ≤ 512) {x4 : Int32} {i : Nat} (hx4 : x4 = nI i) (hi : i + 5 ≤ L) {r : Int32} (hX : p_X11_day SX = some (r, SX2)) (hM : p_X12_day SM = some (r, SM2)) (next : ∀ (H : Heap) (locs : List Loc) (ls : Array Slot), lv_has ls 8 (lLo b aX aM ob x4) → lWo D ca aX aM ob SX2 SM2 f s H locs → lWr p l e s m below meth c b H locs (n + 1) (F0 m 1559 ls [])) : ∀ (H : Heap) (locs : List Loc) (ls : Array Slot), lv_has ls 8 (lLo b aX aM ob x4) → lWo D ca aX aM ob SX SM f s H locs → lWr p l e s m below meth c b H locs n (F0 m 831 ls []) := by
  intro H locs ls hl hw
  have hx := hO.1.1
  have hb := hO.1.2.1
  have hXs := hO.1.2.2.2.2.2.2.1
  have hbl := hO.1.2.2.2.2.2.2.2.1
  have hbA : ¬ lA s b := Nat.not_le.mpr hbl
  have hL := hO.2.2.2.1
  refine lv_aload_n hx hb dL_law_831 rfl (lv_at hl 1 rfl) ?_
  refine lx_call (st := []) [] hO (by omega) lk_109 (c_X11_day) hX rfl rfl (Nat.le_of_ble_eq_true rfl) (by decide) dL_law_832 hl.1 hw (fun H locs hw => ?_)
  refine W.eq (g2 := F0 m 835 ls [.int (r)]) rfl ?_
  refine lv_aload_n hx hb dL_law_835 rfl (lv_at hl 2 rfl) ?_
  refine lm_call (st := [.int (r)]) [] hO (by omega) lk_112 (c_X12_day) hM rfl rfl (Nat.le_of_ble_eq_true rfl) (by decide) dL_law_836 hl.1 hw (fun H locs hw => ?_)
  refine W.eq (g2 := F0 m 839 ls [.int (r), .int (r)]) rfl ?_
  refine lv_icmp_eq (tgt := 1559) hx hb dL_law_839 (by decide) (fun _ => ?_) (fun h => absurd rfl h)
  exact W.widen (k := 108 + (n + 1)) (n := lKS + 6 * (n + 1)) (by omega) (by omega) (next H locs ls hl hw)
set_option maxRecDepth 100000 in
set_option maxHeartbeats 4000000 in
theorem law_c19 {p : Program} {l : Launch} {e : Env} {s : State} {m : MethodId} {below : List Frame} {meth : Method} {c : Code} {D : va_G} {ca : FieldType → ClassId} {aX aM tt sa sv : Nat → Nat} {ob b L : Nat} {xs : Nat → Int32} {SX SM SX2 SM2 : zS} {f : Nat → Int64} {n : Nat} (hO : lOK p l s m meth c D ca aX aM tt sa sv ob b L xs) (hn : n + 1 ≤ 512) {x4 : Int32} {i : Nat} (hx4 : x4 = nI i) (hi : i + 5 ≤ L) {r : Int32} (hX : p_X11_undo SX = some (r, SX2)) (hM : p_X12_undo SM = some (r, SM2)) (next : ∀ (H : Heap) (locs : List Loc) (ls : Array Slot), lv_has ls 8 (lLo b aX aM ob x4) → lWo D ca aX aM ob SX2 SM2 f s H locs → lWr p l e s m below meth c b H locs (n + 1) (F0 m 1559 ls [])) : ∀ (H : Heap) (locs : List Loc) (ls : Array Slot), lv_has ls 8 (lLo b aX aM ob x4) → lWo D ca aX aM ob SX SM f s H locs → lWr p l e s m below meth c b H locs n (F0 m 844 ls []) := by
  intro H locs ls hl hw
  have hx := hO.1.1
  have hb := hO.1.2.1
  have hXs := hO.1.2.2.2.2.2.2.1
  have hbl := hO.1.2.2.2.2.2.2.2.1
  have hbA : ¬ lA s b := Nat.not_le.mpr hbl
  have hL := hO.2.2.2.1
  refine lv_aload_n hx hb dL_law_844 rfl (lv_at hl 1 rfl) ?_
  refine lx_call (st := []) [] hO (by omega) lk_113 (c_X11_undo) hX rfl rfl (Nat.le_of_ble_eq_true rfl) (by decide) dL_law_845 hl.1 hw (fun H locs hw => ?_)
  refine W.eq (g2 := F0 m 848 ls [.int (r)]) rfl ?_
  refine lv_aload_n hx hb dL_law_848 rfl (lv_at hl 2 rfl) ?_
  refine lm_call (st := [.int (r)]) [] hO (by omega) lk_116 (c_X12_undo) hM rfl rfl (Nat.le_of_ble_eq_true rfl) (by decide) dL_law_849 hl.1 hw (fun H locs hw => ?_)
  refine W.eq (g2 := F0 m 852 ls [.int (r), .int (r)]) rfl ?_
  refine lv_icmp_eq (tgt := 1559) hx hb dL_law_852 (by decide) (fun _ => ?_) (fun h => absurd rfl h)
  exact W.widen (k := 108 + (n + 1)) (n := lKS + 6 * (n + 1)) (by omega) (by omega) (next H locs ls hl hw)
set_option maxRecDepth 100000 in
set_option maxHeartbeats 4000000 in
theorem law_c20 {p : Program} {l : Launch} {e : Env} {s : State} {m : MethodId} {below : List Frame} {meth : Method} {c : Code} {D : va_G} {ca : FieldType → ClassId} {aX aM tt sa sv : Nat → Nat} {ob b L : Nat} {xs : Nat → Int32} {SX SM SX2 SM2 : zS} {f : Nat → Int64} {n : Nat} (hO : lOK p l s m meth c D ca aX aM tt sa sv ob b L xs) (hn : n + 1 ≤ 512) {x4 : Int32} {i : Nat} (hx4 : x4 = nI i) (hi : i + 5 ≤ L) {r : Int32} (hX : p_X11_touches SX = some (r, SX2)) (hM : p_X12_touches SM = some (r, SM2)) (next : ∀ (H : Heap) (locs : List Loc) (ls : Array Slot), lv_has ls 8 (lLo b aX aM ob x4) → lWo D ca aX aM ob SX2 SM2 f s H locs → lWr p l e s m below meth c b H locs (n + 1) (F0 m 1559 ls [])) : ∀ (H : Heap) (locs : List Loc) (ls : Array Slot), lv_has ls 8 (lLo b aX aM ob x4) → lWo D ca aX aM ob SX SM f s H locs → lWr p l e s m below meth c b H locs n (F0 m 857 ls []) := by
  intro H locs ls hl hw
  have hx := hO.1.1
  have hb := hO.1.2.1
  have hXs := hO.1.2.2.2.2.2.2.1
  have hbl := hO.1.2.2.2.2.2.2.2.1
  have hbA : ¬ lA s b := Nat.not_le.mpr hbl
  have hL := hO.2.2.2.1
  refine lv_aload_n hx hb dL_law_857 rfl (lv_at hl 1 rfl) ?_
  refine lx_call (st := []) [] hO (by omega) lk_117 (c_X11_touches) hX rfl rfl (Nat.le_of_ble_eq_true rfl) (by decide) dL_law_858 hl.1 hw (fun H locs hw => ?_)
  refine W.eq (g2 := F0 m 861 ls [.int (r)]) rfl ?_
  refine lv_aload_n hx hb dL_law_861 rfl (lv_at hl 2 rfl) ?_
  refine lm_call (st := [.int (r)]) [] hO (by omega) lk_120 (c_X12_touches) hM rfl rfl (Nat.le_of_ble_eq_true rfl) (by decide) dL_law_862 hl.1 hw (fun H locs hw => ?_)
  refine W.eq (g2 := F0 m 865 ls [.int (r), .int (r)]) rfl ?_
  refine lv_icmp_eq (tgt := 1559) hx hb dL_law_865 (by decide) (fun _ => ?_) (fun h => absurd rfl h)
  exact W.widen (k := 108 + (n + 1)) (n := lKS + 6 * (n + 1)) (by omega) (by omega) (next H locs ls hl hw)
set_option maxRecDepth 100000 in
set_option maxHeartbeats 4000000 in
theorem law_c21 {p : Program} {l : Launch} {e : Env} {s : State} {m : MethodId} {below : List Frame} {meth : Method} {c : Code} {D : va_G} {ca : FieldType → ClassId} {aX aM tt sa sv : Nat → Nat} {ob b L : Nat} {xs : Nat → Int32} {SX SM SX2 SM2 : zS} {f : Nat → Int64} {n : Nat} (hO : lOK p l s m meth c D ca aX aM tt sa sv ob b L xs) (hn : n + 1 ≤ 512) {x4 : Int32} {i : Nat} (hx4 : x4 = nI i) (hi : i + 5 ≤ L) {r : Int32} (hX : p_X11_breaches SX = some (r, SX2)) (hM : p_X12_breaches SM = some (r, SM2)) (next : ∀ (H : Heap) (locs : List Loc) (ls : Array Slot), lv_has ls 8 (lLo b aX aM ob x4) → lWo D ca aX aM ob SX2 SM2 f s H locs → lWr p l e s m below meth c b H locs (n + 1) (F0 m 1559 ls [])) : ∀ (H : Heap) (locs : List Loc) (ls : Array Slot), lv_has ls 8 (lLo b aX aM ob x4) → lWo D ca aX aM ob SX SM f s H locs → lWr p l e s m below meth c b H locs n (F0 m 870 ls []) := by
  intro H locs ls hl hw
  have hx := hO.1.1
  have hb := hO.1.2.1
  have hXs := hO.1.2.2.2.2.2.2.1
  have hbl := hO.1.2.2.2.2.2.2.2.1
  have hbA : ¬ lA s b := Nat.not_le.mpr hbl
  have hL := hO.2.2.2.1
  refine lv_aload_n hx hb dL_law_870 rfl (lv_at hl 1 rfl) ?_
  refine lx_call (st := []) [] hO (by omega) lk_121 (c_X11_breaches) hX rfl rfl (Nat.le_of_ble_eq_true rfl) (by decide) dL_law_871 hl.1 hw (fun H locs hw => ?_)
  refine W.eq (g2 := F0 m 874 ls [.int (r)]) rfl ?_
  refine lv_aload_n hx hb dL_law_874 rfl (lv_at hl 2 rfl) ?_
  refine lm_call (st := [.int (r)]) [] hO (by omega) lk_124 (c_X12_breaches) hM rfl rfl (Nat.le_of_ble_eq_true rfl) (by decide) dL_law_875 hl.1 hw (fun H locs hw => ?_)
  refine W.eq (g2 := F0 m 878 ls [.int (r), .int (r)]) rfl ?_
  refine lv_icmp_eq (tgt := 1559) hx hb dL_law_878 (by decide) (fun _ => ?_) (fun h => absurd rfl h)
  exact W.widen (k := 108 + (n + 1)) (n := lKS + 6 * (n + 1)) (by omega) (by omega) (next H locs ls hl hw)
set_option maxRecDepth 100000 in
set_option maxHeartbeats 4000000 in
theorem law_c22 {p : Program} {l : Launch} {e : Env} {s : State} {m : MethodId} {below : List Frame} {meth : Method} {c : Code} {D : va_G} {ca : FieldType → ClassId} {aX aM tt sa sv : Nat → Nat} {ob b L : Nat} {xs : Nat → Int32} {SX SM SX2 SM2 : zS} {f : Nat → Int64} {n : Nat} (hO : lOK p l s m meth c D ca aX aM tt sa sv ob b L xs) (hn : n + 1 ≤ 512) {x4 : Int32} {i : Nat} (hx4 : x4 = nI i) (hi : i + 5 ≤ L) {r : Int32} (hX : p_X11_drifts (xs (x4 + 1).toNatClampNeg) (xs (x4 + 2).toNatClampNeg) SX = some (r, SX2)) (hM : p_X12_drifts (xs (x4 + 1).toNatClampNeg) (xs (x4 + 2).toNatClampNeg) SM = some (r, SM2)) (next : ∀ (H : Heap) (locs : List Loc) (ls : Array Slot), lv_has ls 8 (lLo b aX aM ob x4) → lWo D ca aX aM ob SX2 SM2 f s H locs → lWr p l e s m below meth c b H locs (n + 1) (F0 m 1559 ls [])) : ∀ (H : Heap) (locs : List Loc) (ls : Array Slot), lv_has ls 8 (lLo b aX aM ob x4) → lWo D ca aX aM ob SX SM f s H locs → lWr p l e s m below meth c b H locs n (F0 m 883 ls []) := by
  intro H locs ls hl hw
  have hx := hO.1.1
  have hb := hO.1.2.1
  have hXs := hO.1.2.2.2.2.2.2.1
  have hbl := hO.1.2.2.2.2.2.2.2.1
  have hbA : ¬ lA s b := Nat.not_le.mpr hbl
  have hL := hO.2.2.2.1
  refine lv_aload_n hx hb dL_law_883 rfl (lv_at hl 1 rfl) ?_
  refine lv_aload_n hx hb dL_law_884 rfl (lv_at hl 0 rfl) ?_
  refine lv_iload hx hb dL_law_885 (lv_at hl 4 rfl) ?_
  refine lv_iconst (v := 1) hx hb dL_law_887 (by decide) ?_
  refine lv_iadd hx hb dL_law_888 ?_
  refine va_sld hx hb hXs hbl hbA hw.2.2.2 (lin hx4 hi hL (show (1 : Int32) = nI 1 by decide) (by decide)) dL_law_889 ?_
  refine lv_aload_n hx hb dL_law_890 rfl (lv_at hl 0 rfl) ?_
  refine lv_iload hx hb dL_law_891 (lv_at hl 4 rfl) ?_
  refine lv_iconst (v := 2) hx hb dL_law_893 (by decide) ?_
  refine lv_iadd hx hb dL_law_894 ?_
  refine va_sld hx hb hXs hbl hbA hw.2.2.2 (lin hx4 hi hL (show (2 : Int32) = nI 2 by decide) (by decide)) dL_law_895 ?_
  refine lx_call (st := []) [.int (xs (x4 + 1).toNatClampNeg), .int (xs (x4 + 2).toNatClampNeg)] hO (by omega) lk_125 (c_X11_drifts (xs (x4 + 1).toNatClampNeg) (xs (x4 + 2).toNatClampNeg)) hX rfl rfl (Nat.le_of_ble_eq_true rfl) (by decide) dL_law_896 hl.1 hw (fun H locs hw => ?_)
  refine W.eq (g2 := F0 m 899 ls [.int (r)]) rfl ?_
  refine lv_aload_n hx hb dL_law_899 rfl (lv_at hl 2 rfl) ?_
  refine lv_aload_n hx hb dL_law_900 rfl (lv_at hl 0 rfl) ?_
  refine lv_iload hx hb dL_law_901 (lv_at hl 4 rfl) ?_
  refine lv_iconst (v := 1) hx hb dL_law_903 (by decide) ?_
  refine lv_iadd hx hb dL_law_904 ?_
  refine va_sld hx hb hXs hbl hbA hw.2.2.2 (lin hx4 hi hL (show (1 : Int32) = nI 1 by decide) (by decide)) dL_law_905 ?_
  refine lv_aload_n hx hb dL_law_906 rfl (lv_at hl 0 rfl) ?_
  refine lv_iload hx hb dL_law_907 (lv_at hl 4 rfl) ?_
  refine lv_iconst (v := 2) hx hb dL_law_909 (by decide) ?_
  refine lv_iadd hx hb dL_law_910 ?_
  refine va_sld hx hb hXs hbl hbA hw.2.2.2 (lin hx4 hi hL (show (2 : Int32) = nI 2 by decide) (by decide)) dL_law_911 ?_
  refine lm_call (st := [.int (r)]) [.int (xs (x4 + 1).toNatClampNeg), .int (xs (x4 + 2).toNatClampNeg)] hO (by omega) lk_128 (c_X12_drifts (xs (x4 + 1).toNatClampNeg) (xs (x4 + 2).toNatClampNeg)) hM rfl rfl (Nat.le_of_ble_eq_true rfl) (by decide) dL_law_912 hl.1 hw (fun H locs hw => ?_)
  refine W.eq (g2 := F0 m 915 ls [.int (r), .int (r)]) rfl ?_
  refine lv_icmp_eq (tgt := 1559) hx hb dL_law_915 (by decide) (fun _ => ?_) (fun h => absurd rfl h)
  exact W.widen (k := 108 + (n + 1)) (n := lKS + 6 * (n + 1)) (by omega) (by omega) (next H locs ls hl hw)
set_option maxRecDepth 100000 in
set_option maxHeartbeats 4000000 in
theorem law_c23 {p : Program} {l : Launch} {e : Env} {s : State} {m : MethodId} {below : List Frame} {meth : Method} {c : Code} {D : va_G} {ca : FieldType → ClassId} {aX aM tt sa sv : Nat → Nat} {ob b L : Nat} {xs : Nat → Int32} {SX SM SX2 SM2 : zS} {f : Nat → Int64} {n : Nat} (hO : lOK p l s m meth c D ca aX aM tt sa sv ob b L xs) (hn : n + 1 ≤ 512) {x4 : Int32} {i : Nat} (hx4 : x4 = nI i) (hi : i + 5 ≤ L) {r : Int32} (hX : p_X11_sinks (xs (x4 + 1).toNatClampNeg) SX = some (r, SX2)) (hM : p_X12_sinks (xs (x4 + 1).toNatClampNeg) SM = some (r, SM2)) (next : ∀ (H : Heap) (locs : List Loc) (ls : Array Slot), lv_has ls 8 (lLo b aX aM ob x4) → lWo D ca aX aM ob SX2 SM2 f s H locs → lWr p l e s m below meth c b H locs (n + 1) (F0 m 1559 ls [])) : ∀ (H : Heap) (locs : List Loc) (ls : Array Slot), lv_has ls 8 (lLo b aX aM ob x4) → lWo D ca aX aM ob SX SM f s H locs → lWr p l e s m below meth c b H locs n (F0 m 920 ls []) := by
  intro H locs ls hl hw
  have hx := hO.1.1
  have hb := hO.1.2.1
  have hXs := hO.1.2.2.2.2.2.2.1
  have hbl := hO.1.2.2.2.2.2.2.2.1
  have hbA : ¬ lA s b := Nat.not_le.mpr hbl
  have hL := hO.2.2.2.1
  refine lv_aload_n hx hb dL_law_920 rfl (lv_at hl 1 rfl) ?_
  refine lv_aload_n hx hb dL_law_921 rfl (lv_at hl 0 rfl) ?_
  refine lv_iload hx hb dL_law_922 (lv_at hl 4 rfl) ?_
  refine lv_iconst (v := 1) hx hb dL_law_924 (by decide) ?_
  refine lv_iadd hx hb dL_law_925 ?_
  refine va_sld hx hb hXs hbl hbA hw.2.2.2 (lin hx4 hi hL (show (1 : Int32) = nI 1 by decide) (by decide)) dL_law_926 ?_
  refine lx_call (st := []) [.int (xs (x4 + 1).toNatClampNeg)] hO (by omega) lk_129 (c_X11_sinks (xs (x4 + 1).toNatClampNeg)) hX rfl rfl (Nat.le_of_ble_eq_true rfl) (by decide) dL_law_927 hl.1 hw (fun H locs hw => ?_)
  refine W.eq (g2 := F0 m 930 ls [.int (r)]) rfl ?_
  refine lv_aload_n hx hb dL_law_930 rfl (lv_at hl 2 rfl) ?_
  refine lv_aload_n hx hb dL_law_931 rfl (lv_at hl 0 rfl) ?_
  refine lv_iload hx hb dL_law_932 (lv_at hl 4 rfl) ?_
  refine lv_iconst (v := 1) hx hb dL_law_934 (by decide) ?_
  refine lv_iadd hx hb dL_law_935 ?_
  refine va_sld hx hb hXs hbl hbA hw.2.2.2 (lin hx4 hi hL (show (1 : Int32) = nI 1 by decide) (by decide)) dL_law_936 ?_
  refine lm_call (st := [.int (r)]) [.int (xs (x4 + 1).toNatClampNeg)] hO (by omega) lk_132 (c_X12_sinks (xs (x4 + 1).toNatClampNeg)) hM rfl rfl (Nat.le_of_ble_eq_true rfl) (by decide) dL_law_937 hl.1 hw (fun H locs hw => ?_)
  refine W.eq (g2 := F0 m 940 ls [.int (r), .int (r)]) rfl ?_
  refine lv_icmp_eq (tgt := 1559) hx hb dL_law_940 (by decide) (fun _ => ?_) (fun h => absurd rfl h)
  exact W.widen (k := 108 + (n + 1)) (n := lKS + 6 * (n + 1)) (by omega) (by omega) (next H locs ls hl hw)
set_option maxRecDepth 100000 in
set_option maxHeartbeats 4000000 in
theorem law_c24 {p : Program} {l : Launch} {e : Env} {s : State} {m : MethodId} {below : List Frame} {meth : Method} {c : Code} {D : va_G} {ca : FieldType → ClassId} {aX aM tt sa sv : Nat → Nat} {ob b L : Nat} {xs : Nat → Int32} {SX SM SX2 SM2 : zS} {f : Nat → Int64} {n : Nat} (hO : lOK p l s m meth c D ca aX aM tt sa sv ob b L xs) (hn : n + 1 ≤ 512) {x4 : Int32} {i : Nat} (hx4 : x4 = nI i) (hi : i + 5 ≤ L) {r : Int32} (hX : p_X11_rises (xs (x4 + 1).toNatClampNeg) (xs (x4 + 2).toNatClampNeg) SX = some (r, SX2)) (hM : p_X12_rises (xs (x4 + 1).toNatClampNeg) (xs (x4 + 2).toNatClampNeg) SM = some (r, SM2)) (next : ∀ (H : Heap) (locs : List Loc) (ls : Array Slot), lv_has ls 8 (lLo b aX aM ob x4) → lWo D ca aX aM ob SX2 SM2 f s H locs → lWr p l e s m below meth c b H locs (n + 1) (F0 m 1559 ls [])) : ∀ (H : Heap) (locs : List Loc) (ls : Array Slot), lv_has ls 8 (lLo b aX aM ob x4) → lWo D ca aX aM ob SX SM f s H locs → lWr p l e s m below meth c b H locs n (F0 m 945 ls []) := by
  intro H locs ls hl hw
  have hx := hO.1.1
  have hb := hO.1.2.1
  have hXs := hO.1.2.2.2.2.2.2.1
  have hbl := hO.1.2.2.2.2.2.2.2.1
  have hbA : ¬ lA s b := Nat.not_le.mpr hbl
  have hL := hO.2.2.2.1
  refine lv_aload_n hx hb dL_law_945 rfl (lv_at hl 1 rfl) ?_
  refine lv_aload_n hx hb dL_law_946 rfl (lv_at hl 0 rfl) ?_
  refine lv_iload hx hb dL_law_947 (lv_at hl 4 rfl) ?_
  refine lv_iconst (v := 1) hx hb dL_law_949 (by decide) ?_
  refine lv_iadd hx hb dL_law_950 ?_
  refine va_sld hx hb hXs hbl hbA hw.2.2.2 (lin hx4 hi hL (show (1 : Int32) = nI 1 by decide) (by decide)) dL_law_951 ?_
  refine lv_aload_n hx hb dL_law_952 rfl (lv_at hl 0 rfl) ?_
  refine lv_iload hx hb dL_law_953 (lv_at hl 4 rfl) ?_
  refine lv_iconst (v := 2) hx hb dL_law_955 (by decide) ?_
  refine lv_iadd hx hb dL_law_956 ?_
  refine va_sld hx hb hXs hbl hbA hw.2.2.2 (lin hx4 hi hL (show (2 : Int32) = nI 2 by decide) (by decide)) dL_law_957 ?_
  refine lx_call (st := []) [.int (xs (x4 + 1).toNatClampNeg), .int (xs (x4 + 2).toNatClampNeg)] hO (by omega) lk_133 (c_X11_rises (xs (x4 + 1).toNatClampNeg) (xs (x4 + 2).toNatClampNeg)) hX rfl rfl (Nat.le_of_ble_eq_true rfl) (by decide) dL_law_958 hl.1 hw (fun H locs hw => ?_)
  refine W.eq (g2 := F0 m 961 ls [.int (r)]) rfl ?_
  refine lv_aload_n hx hb dL_law_961 rfl (lv_at hl 2 rfl) ?_
  refine lv_aload_n hx hb dL_law_962 rfl (lv_at hl 0 rfl) ?_
  refine lv_iload hx hb dL_law_963 (lv_at hl 4 rfl) ?_
  refine lv_iconst (v := 1) hx hb dL_law_965 (by decide) ?_
  refine lv_iadd hx hb dL_law_966 ?_
  refine va_sld hx hb hXs hbl hbA hw.2.2.2 (lin hx4 hi hL (show (1 : Int32) = nI 1 by decide) (by decide)) dL_law_967 ?_
  refine lv_aload_n hx hb dL_law_968 rfl (lv_at hl 0 rfl) ?_
  refine lv_iload hx hb dL_law_969 (lv_at hl 4 rfl) ?_
  refine lv_iconst (v := 2) hx hb dL_law_971 (by decide) ?_
  refine lv_iadd hx hb dL_law_972 ?_
  refine va_sld hx hb hXs hbl hbA hw.2.2.2 (lin hx4 hi hL (show (2 : Int32) = nI 2 by decide) (by decide)) dL_law_973 ?_
  refine lm_call (st := [.int (r)]) [.int (xs (x4 + 1).toNatClampNeg), .int (xs (x4 + 2).toNatClampNeg)] hO (by omega) lk_136 (c_X12_rises (xs (x4 + 1).toNatClampNeg) (xs (x4 + 2).toNatClampNeg)) hM rfl rfl (Nat.le_of_ble_eq_true rfl) (by decide) dL_law_974 hl.1 hw (fun H locs hw => ?_)
  refine W.eq (g2 := F0 m 977 ls [.int (r), .int (r)]) rfl ?_
  refine lv_icmp_eq (tgt := 1559) hx hb dL_law_977 (by decide) (fun _ => ?_) (fun h => absurd rfl h)
  exact W.widen (k := 108 + (n + 1)) (n := lKS + 6 * (n + 1)) (by omega) (by omega) (next H locs ls hl hw)
set_option maxRecDepth 100000 in
set_option maxHeartbeats 4000000 in
theorem law_c25 {p : Program} {l : Launch} {e : Env} {s : State} {m : MethodId} {below : List Frame} {meth : Method} {c : Code} {D : va_G} {ca : FieldType → ClassId} {aX aM tt sa sv : Nat → Nat} {ob b L : Nat} {xs : Nat → Int32} {SX SM SX2 SM2 : zS} {f : Nat → Int64} {n : Nat} (hO : lOK p l s m meth c D ca aX aM tt sa sv ob b L xs) (hn : n + 1 ≤ 512) {x4 : Int32} {i : Nat} (hx4 : x4 = nI i) (hi : i + 5 ≤ L) {r : Int32} (hX : p_X11_berths (xs (x4 + 1).toNatClampNeg) SX = some (r, SX2)) (hM : p_X12_berths (xs (x4 + 1).toNatClampNeg) SM = some (r, SM2)) (next : ∀ (H : Heap) (locs : List Loc) (ls : Array Slot), lv_has ls 8 (lLo b aX aM ob x4) → lWo D ca aX aM ob SX2 SM2 f s H locs → lWr p l e s m below meth c b H locs (n + 1) (F0 m 1559 ls [])) : ∀ (H : Heap) (locs : List Loc) (ls : Array Slot), lv_has ls 8 (lLo b aX aM ob x4) → lWo D ca aX aM ob SX SM f s H locs → lWr p l e s m below meth c b H locs n (F0 m 982 ls []) := by
  intro H locs ls hl hw
  have hx := hO.1.1
  have hb := hO.1.2.1
  have hXs := hO.1.2.2.2.2.2.2.1
  have hbl := hO.1.2.2.2.2.2.2.2.1
  have hbA : ¬ lA s b := Nat.not_le.mpr hbl
  have hL := hO.2.2.2.1
  refine lv_aload_n hx hb dL_law_982 rfl (lv_at hl 1 rfl) ?_
  refine lv_aload_n hx hb dL_law_983 rfl (lv_at hl 0 rfl) ?_
  refine lv_iload hx hb dL_law_984 (lv_at hl 4 rfl) ?_
  refine lv_iconst (v := 1) hx hb dL_law_986 (by decide) ?_
  refine lv_iadd hx hb dL_law_987 ?_
  refine va_sld hx hb hXs hbl hbA hw.2.2.2 (lin hx4 hi hL (show (1 : Int32) = nI 1 by decide) (by decide)) dL_law_988 ?_
  refine lx_call (st := []) [.int (xs (x4 + 1).toNatClampNeg)] hO (by omega) lk_137 (c_X11_berths (xs (x4 + 1).toNatClampNeg)) hX rfl rfl (Nat.le_of_ble_eq_true rfl) (by decide) dL_law_989 hl.1 hw (fun H locs hw => ?_)
  refine W.eq (g2 := F0 m 992 ls [.int (r)]) rfl ?_
  refine lv_aload_n hx hb dL_law_992 rfl (lv_at hl 2 rfl) ?_
  refine lv_aload_n hx hb dL_law_993 rfl (lv_at hl 0 rfl) ?_
  refine lv_iload hx hb dL_law_994 (lv_at hl 4 rfl) ?_
  refine lv_iconst (v := 1) hx hb dL_law_996 (by decide) ?_
  refine lv_iadd hx hb dL_law_997 ?_
  refine va_sld hx hb hXs hbl hbA hw.2.2.2 (lin hx4 hi hL (show (1 : Int32) = nI 1 by decide) (by decide)) dL_law_998 ?_
  refine lm_call (st := [.int (r)]) [.int (xs (x4 + 1).toNatClampNeg)] hO (by omega) lk_140 (c_X12_berths (xs (x4 + 1).toNatClampNeg)) hM rfl rfl (Nat.le_of_ble_eq_true rfl) (by decide) dL_law_999 hl.1 hw (fun H locs hw => ?_)
  refine W.eq (g2 := F0 m 1002 ls [.int (r), .int (r)]) rfl ?_
  refine lv_icmp_eq (tgt := 1559) hx hb dL_law_1002 (by decide) (fun _ => ?_) (fun h => absurd rfl h)
  exact W.widen (k := 108 + (n + 1)) (n := lKS + 6 * (n + 1)) (by omega) (by omega) (next H locs ls hl hw)
set_option maxRecDepth 100000 in
set_option maxHeartbeats 4000000 in
theorem law_c26 {p : Program} {l : Launch} {e : Env} {s : State} {m : MethodId} {below : List Frame} {meth : Method} {c : Code} {D : va_G} {ca : FieldType → ClassId} {aX aM tt sa sv : Nat → Nat} {ob b L : Nat} {xs : Nat → Int32} {SX SM SX2 SM2 : zS} {f : Nat → Int64} {n : Nat} (hO : lOK p l s m meth c D ca aX aM tt sa sv ob b L xs) (hn : n + 1 ≤ 512) {x4 : Int32} {i : Nat} (hx4 : x4 = nI i) (hi : i + 5 ≤ L) {r : Int32} (hX : p_X11_served (xs (x4 + 1).toNatClampNeg) SX = some (r, SX2)) (hM : p_X12_served (xs (x4 + 1).toNatClampNeg) SM = some (r, SM2)) (next : ∀ (H : Heap) (locs : List Loc) (ls : Array Slot), lv_has ls 8 (lLo b aX aM ob x4) → lWo D ca aX aM ob SX2 SM2 f s H locs → lWr p l e s m below meth c b H locs (n + 1) (F0 m 1559 ls [])) : ∀ (H : Heap) (locs : List Loc) (ls : Array Slot), lv_has ls 8 (lLo b aX aM ob x4) → lWo D ca aX aM ob SX SM f s H locs → lWr p l e s m below meth c b H locs n (F0 m 1007 ls []) := by
  intro H locs ls hl hw
  have hx := hO.1.1
  have hb := hO.1.2.1
  have hXs := hO.1.2.2.2.2.2.2.1
  have hbl := hO.1.2.2.2.2.2.2.2.1
  have hbA : ¬ lA s b := Nat.not_le.mpr hbl
  have hL := hO.2.2.2.1
  refine lv_aload_n hx hb dL_law_1007 rfl (lv_at hl 1 rfl) ?_
  refine lv_aload_n hx hb dL_law_1008 rfl (lv_at hl 0 rfl) ?_
  refine lv_iload hx hb dL_law_1009 (lv_at hl 4 rfl) ?_
  refine lv_iconst (v := 1) hx hb dL_law_1011 (by decide) ?_
  refine lv_iadd hx hb dL_law_1012 ?_
  refine va_sld hx hb hXs hbl hbA hw.2.2.2 (lin hx4 hi hL (show (1 : Int32) = nI 1 by decide) (by decide)) dL_law_1013 ?_
  refine lx_call (st := []) [.int (xs (x4 + 1).toNatClampNeg)] hO (by omega) lk_141 (c_X11_served (xs (x4 + 1).toNatClampNeg)) hX rfl rfl (Nat.le_of_ble_eq_true rfl) (by decide) dL_law_1014 hl.1 hw (fun H locs hw => ?_)
  refine W.eq (g2 := F0 m 1017 ls [.int (r)]) rfl ?_
  refine lv_aload_n hx hb dL_law_1017 rfl (lv_at hl 2 rfl) ?_
  refine lv_aload_n hx hb dL_law_1018 rfl (lv_at hl 0 rfl) ?_
  refine lv_iload hx hb dL_law_1019 (lv_at hl 4 rfl) ?_
  refine lv_iconst (v := 1) hx hb dL_law_1021 (by decide) ?_
  refine lv_iadd hx hb dL_law_1022 ?_
  refine va_sld hx hb hXs hbl hbA hw.2.2.2 (lin hx4 hi hL (show (1 : Int32) = nI 1 by decide) (by decide)) dL_law_1023 ?_
  refine lm_call (st := [.int (r)]) [.int (xs (x4 + 1).toNatClampNeg)] hO (by omega) lk_144 (c_X12_served (xs (x4 + 1).toNatClampNeg)) hM rfl rfl (Nat.le_of_ble_eq_true rfl) (by decide) dL_law_1024 hl.1 hw (fun H locs hw => ?_)
  refine W.eq (g2 := F0 m 1027 ls [.int (r), .int (r)]) rfl ?_
  refine lv_icmp_eq (tgt := 1559) hx hb dL_law_1027 (by decide) (fun _ => ?_) (fun h => absurd rfl h)
  exact W.widen (k := 108 + (n + 1)) (n := lKS + 6 * (n + 1)) (by omega) (by omega) (next H locs ls hl hw)
set_option maxRecDepth 100000 in
set_option maxHeartbeats 4000000 in
theorem law_c27 {p : Program} {l : Launch} {e : Env} {s : State} {m : MethodId} {below : List Frame} {meth : Method} {c : Code} {D : va_G} {ca : FieldType → ClassId} {aX aM tt sa sv : Nat → Nat} {ob b L : Nat} {xs : Nat → Int32} {SX SM SX2 SM2 : zS} {f : Nat → Int64} {n : Nat} (hO : lOK p l s m meth c D ca aX aM tt sa sv ob b L xs) (hn : n + 1 ≤ 512) {x4 : Int32} {i : Nat} (hx4 : x4 = nI i) (hi : i + 5 ≤ L) {r : Int32} (hX : p_X11_yields (xs (x4 + 1).toNatClampNeg) SX = some (r, SX2)) (hM : p_X12_yields (xs (x4 + 1).toNatClampNeg) SM = some (r, SM2)) (next : ∀ (H : Heap) (locs : List Loc) (ls : Array Slot), lv_has ls 8 (lLo b aX aM ob x4) → lWo D ca aX aM ob SX2 SM2 f s H locs → lWr p l e s m below meth c b H locs (n + 1) (F0 m 1559 ls [])) : ∀ (H : Heap) (locs : List Loc) (ls : Array Slot), lv_has ls 8 (lLo b aX aM ob x4) → lWo D ca aX aM ob SX SM f s H locs → lWr p l e s m below meth c b H locs n (F0 m 1032 ls []) := by
  intro H locs ls hl hw
  have hx := hO.1.1
  have hb := hO.1.2.1
  have hXs := hO.1.2.2.2.2.2.2.1
  have hbl := hO.1.2.2.2.2.2.2.2.1
  have hbA : ¬ lA s b := Nat.not_le.mpr hbl
  have hL := hO.2.2.2.1
  refine lv_aload_n hx hb dL_law_1032 rfl (lv_at hl 1 rfl) ?_
  refine lv_aload_n hx hb dL_law_1033 rfl (lv_at hl 0 rfl) ?_
  refine lv_iload hx hb dL_law_1034 (lv_at hl 4 rfl) ?_
  refine lv_iconst (v := 1) hx hb dL_law_1036 (by decide) ?_
  refine lv_iadd hx hb dL_law_1037 ?_
  refine va_sld hx hb hXs hbl hbA hw.2.2.2 (lin hx4 hi hL (show (1 : Int32) = nI 1 by decide) (by decide)) dL_law_1038 ?_
  refine lx_call (st := []) [.int (xs (x4 + 1).toNatClampNeg)] hO (by omega) lk_145 (c_X11_yields (xs (x4 + 1).toNatClampNeg)) hX rfl rfl (Nat.le_of_ble_eq_true rfl) (by decide) dL_law_1039 hl.1 hw (fun H locs hw => ?_)
  refine W.eq (g2 := F0 m 1042 ls [.int (r)]) rfl ?_
  refine lv_aload_n hx hb dL_law_1042 rfl (lv_at hl 2 rfl) ?_
  refine lv_aload_n hx hb dL_law_1043 rfl (lv_at hl 0 rfl) ?_
  refine lv_iload hx hb dL_law_1044 (lv_at hl 4 rfl) ?_
  refine lv_iconst (v := 1) hx hb dL_law_1046 (by decide) ?_
  refine lv_iadd hx hb dL_law_1047 ?_
  refine va_sld hx hb hXs hbl hbA hw.2.2.2 (lin hx4 hi hL (show (1 : Int32) = nI 1 by decide) (by decide)) dL_law_1048 ?_
  refine lm_call (st := [.int (r)]) [.int (xs (x4 + 1).toNatClampNeg)] hO (by omega) lk_148 (c_X12_yields (xs (x4 + 1).toNatClampNeg)) hM rfl rfl (Nat.le_of_ble_eq_true rfl) (by decide) dL_law_1049 hl.1 hw (fun H locs hw => ?_)
  refine W.eq (g2 := F0 m 1052 ls [.int (r), .int (r)]) rfl ?_
  refine lv_icmp_eq (tgt := 1559) hx hb dL_law_1052 (by decide) (fun _ => ?_) (fun h => absurd rfl h)
  exact W.widen (k := 108 + (n + 1)) (n := lKS + 6 * (n + 1)) (by omega) (by omega) (next H locs ls hl hw)
set_option maxRecDepth 100000 in
set_option maxHeartbeats 4000000 in
theorem law_c28 {p : Program} {l : Launch} {e : Env} {s : State} {m : MethodId} {below : List Frame} {meth : Method} {c : Code} {D : va_G} {ca : FieldType → ClassId} {aX aM tt sa sv : Nat → Nat} {ob b L : Nat} {xs : Nat → Int32} {SX SM SX2 SM2 : zS} {f : Nat → Int64} {n : Nat} (hO : lOK p l s m meth c D ca aX aM tt sa sv ob b L xs) (hn : n + 1 ≤ 512) {x4 : Int32} {i : Nat} (hx4 : x4 = nI i) (hi : i + 5 ≤ L) {r : Int32} (hX : p_X11_lands (xs (x4 + 1).toNatClampNeg) (xs (x4 + 2).toNatClampNeg) (xs (x4 + 3).toNatClampNeg) SX = some (r, SX2)) (hM : p_X12_lands (xs (x4 + 1).toNatClampNeg) (xs (x4 + 2).toNatClampNeg) (xs (x4 + 3).toNatClampNeg) SM = some (r, SM2)) (next : ∀ (H : Heap) (locs : List Loc) (ls : Array Slot), lv_has ls 8 (lLo b aX aM ob x4) → lWo D ca aX aM ob SX2 SM2 f s H locs → lWr p l e s m below meth c b H locs (n + 1) (F0 m 1559 ls [])) : ∀ (H : Heap) (locs : List Loc) (ls : Array Slot), lv_has ls 8 (lLo b aX aM ob x4) → lWo D ca aX aM ob SX SM f s H locs → lWr p l e s m below meth c b H locs n (F0 m 1057 ls []) := by
  intro H locs ls hl hw
  have hx := hO.1.1
  have hb := hO.1.2.1
  have hXs := hO.1.2.2.2.2.2.2.1
  have hbl := hO.1.2.2.2.2.2.2.2.1
  have hbA : ¬ lA s b := Nat.not_le.mpr hbl
  have hL := hO.2.2.2.1
  refine lv_aload_n hx hb dL_law_1057 rfl (lv_at hl 1 rfl) ?_
  refine lv_aload_n hx hb dL_law_1058 rfl (lv_at hl 0 rfl) ?_
  refine lv_iload hx hb dL_law_1059 (lv_at hl 4 rfl) ?_
  refine lv_iconst (v := 1) hx hb dL_law_1061 (by decide) ?_
  refine lv_iadd hx hb dL_law_1062 ?_
  refine va_sld hx hb hXs hbl hbA hw.2.2.2 (lin hx4 hi hL (show (1 : Int32) = nI 1 by decide) (by decide)) dL_law_1063 ?_
  refine lv_aload_n hx hb dL_law_1064 rfl (lv_at hl 0 rfl) ?_
  refine lv_iload hx hb dL_law_1065 (lv_at hl 4 rfl) ?_
  refine lv_iconst (v := 2) hx hb dL_law_1067 (by decide) ?_
  refine lv_iadd hx hb dL_law_1068 ?_
  refine va_sld hx hb hXs hbl hbA hw.2.2.2 (lin hx4 hi hL (show (2 : Int32) = nI 2 by decide) (by decide)) dL_law_1069 ?_
  refine lv_aload_n hx hb dL_law_1070 rfl (lv_at hl 0 rfl) ?_
  refine lv_iload hx hb dL_law_1071 (lv_at hl 4 rfl) ?_
  refine lv_iconst (v := 3) hx hb dL_law_1073 (by decide) ?_
  refine lv_iadd hx hb dL_law_1074 ?_
  refine va_sld hx hb hXs hbl hbA hw.2.2.2 (lin hx4 hi hL (show (3 : Int32) = nI 3 by decide) (by decide)) dL_law_1075 ?_
  refine lx_call (st := []) [.int (xs (x4 + 1).toNatClampNeg), .int (xs (x4 + 2).toNatClampNeg), .int (xs (x4 + 3).toNatClampNeg)] hO (by omega) lk_149 (c_X11_lands (xs (x4 + 1).toNatClampNeg) (xs (x4 + 2).toNatClampNeg) (xs (x4 + 3).toNatClampNeg)) hX rfl rfl (Nat.le_of_ble_eq_true rfl) (by decide) dL_law_1076 hl.1 hw (fun H locs hw => ?_)
  refine W.eq (g2 := F0 m 1079 ls [.int (r)]) rfl ?_
  refine lv_aload_n hx hb dL_law_1079 rfl (lv_at hl 2 rfl) ?_
  refine lv_aload_n hx hb dL_law_1080 rfl (lv_at hl 0 rfl) ?_
  refine lv_iload hx hb dL_law_1081 (lv_at hl 4 rfl) ?_
  refine lv_iconst (v := 1) hx hb dL_law_1083 (by decide) ?_
  refine lv_iadd hx hb dL_law_1084 ?_
  refine va_sld hx hb hXs hbl hbA hw.2.2.2 (lin hx4 hi hL (show (1 : Int32) = nI 1 by decide) (by decide)) dL_law_1085 ?_
  refine lv_aload_n hx hb dL_law_1086 rfl (lv_at hl 0 rfl) ?_
  refine lv_iload hx hb dL_law_1087 (lv_at hl 4 rfl) ?_
  refine lv_iconst (v := 2) hx hb dL_law_1089 (by decide) ?_
  refine lv_iadd hx hb dL_law_1090 ?_
  refine va_sld hx hb hXs hbl hbA hw.2.2.2 (lin hx4 hi hL (show (2 : Int32) = nI 2 by decide) (by decide)) dL_law_1091 ?_
  refine lv_aload_n hx hb dL_law_1092 rfl (lv_at hl 0 rfl) ?_
  refine lv_iload hx hb dL_law_1093 (lv_at hl 4 rfl) ?_
  refine lv_iconst (v := 3) hx hb dL_law_1095 (by decide) ?_
  refine lv_iadd hx hb dL_law_1096 ?_
  refine va_sld hx hb hXs hbl hbA hw.2.2.2 (lin hx4 hi hL (show (3 : Int32) = nI 3 by decide) (by decide)) dL_law_1097 ?_
  refine lm_call (st := [.int (r)]) [.int (xs (x4 + 1).toNatClampNeg), .int (xs (x4 + 2).toNatClampNeg), .int (xs (x4 + 3).toNatClampNeg)] hO (by omega) lk_153 (c_X12_lands (xs (x4 + 1).toNatClampNeg) (xs (x4 + 2).toNatClampNeg) (xs (x4 + 3).toNatClampNeg)) hM rfl rfl (Nat.le_of_ble_eq_true rfl) (by decide) dL_law_1098 hl.1 hw (fun H locs hw => ?_)
  refine W.eq (g2 := F0 m 1101 ls [.int (r), .int (r)]) rfl ?_
  refine lv_icmp_eq (tgt := 1559) hx hb dL_law_1101 (by decide) (fun _ => ?_) (fun h => absurd rfl h)
  exact W.widen (k := 108 + (n + 1)) (n := lKS + 6 * (n + 1)) (by omega) (by omega) (next H locs ls hl hw)
set_option maxRecDepth 100000 in
set_option maxHeartbeats 4000000 in
theorem law_c29 {p : Program} {l : Launch} {e : Env} {s : State} {m : MethodId} {below : List Frame} {meth : Method} {c : Code} {D : va_G} {ca : FieldType → ClassId} {aX aM tt sa sv : Nat → Nat} {ob b L : Nat} {xs : Nat → Int32} {SX SM SX2 SM2 : zS} {f : Nat → Int64} {n : Nat} (hO : lOK p l s m meth c D ca aX aM tt sa sv ob b L xs) (hn : n + 1 ≤ 512) {x4 : Int32} {i : Nat} (hx4 : x4 = nI i) (hi : i + 5 ≤ L) {r : Int32} (hX : p_X11_nearest (xs (x4 + 1).toNatClampNeg) (xs (x4 + 2).toNatClampNeg) SX = some (r, SX2)) (hM : p_X12_nearest (xs (x4 + 1).toNatClampNeg) (xs (x4 + 2).toNatClampNeg) SM = some (r, SM2)) (next : ∀ (H : Heap) (locs : List Loc) (ls : Array Slot), lv_has ls 8 (lLo b aX aM ob x4) → lWo D ca aX aM ob SX2 SM2 f s H locs → lWr p l e s m below meth c b H locs (n + 1) (F0 m 1559 ls [])) : ∀ (H : Heap) (locs : List Loc) (ls : Array Slot), lv_has ls 8 (lLo b aX aM ob x4) → lWo D ca aX aM ob SX SM f s H locs → lWr p l e s m below meth c b H locs n (F0 m 1106 ls []) := by
  intro H locs ls hl hw
  have hx := hO.1.1
  have hb := hO.1.2.1
  have hXs := hO.1.2.2.2.2.2.2.1
  have hbl := hO.1.2.2.2.2.2.2.2.1
  have hbA : ¬ lA s b := Nat.not_le.mpr hbl
  have hL := hO.2.2.2.1
  refine lv_aload_n hx hb dL_law_1106 rfl (lv_at hl 1 rfl) ?_
  refine lv_aload_n hx hb dL_law_1107 rfl (lv_at hl 0 rfl) ?_
  refine lv_iload hx hb dL_law_1108 (lv_at hl 4 rfl) ?_
  refine lv_iconst (v := 1) hx hb dL_law_1110 (by decide) ?_
  refine lv_iadd hx hb dL_law_1111 ?_
  refine va_sld hx hb hXs hbl hbA hw.2.2.2 (lin hx4 hi hL (show (1 : Int32) = nI 1 by decide) (by decide)) dL_law_1112 ?_
  refine lv_aload_n hx hb dL_law_1113 rfl (lv_at hl 0 rfl) ?_
  refine lv_iload hx hb dL_law_1114 (lv_at hl 4 rfl) ?_
  refine lv_iconst (v := 2) hx hb dL_law_1116 (by decide) ?_
  refine lv_iadd hx hb dL_law_1117 ?_
  refine va_sld hx hb hXs hbl hbA hw.2.2.2 (lin hx4 hi hL (show (2 : Int32) = nI 2 by decide) (by decide)) dL_law_1118 ?_
  refine lx_call (st := []) [.int (xs (x4 + 1).toNatClampNeg), .int (xs (x4 + 2).toNatClampNeg)] hO (by omega) lk_154 (c_X11_nearest (xs (x4 + 1).toNatClampNeg) (xs (x4 + 2).toNatClampNeg)) hX rfl rfl (Nat.le_of_ble_eq_true rfl) (by decide) dL_law_1119 hl.1 hw (fun H locs hw => ?_)
  refine W.eq (g2 := F0 m 1122 ls [.int (r)]) rfl ?_
  refine lv_aload_n hx hb dL_law_1122 rfl (lv_at hl 2 rfl) ?_
  refine lv_aload_n hx hb dL_law_1123 rfl (lv_at hl 0 rfl) ?_
  refine lv_iload hx hb dL_law_1124 (lv_at hl 4 rfl) ?_
  refine lv_iconst (v := 1) hx hb dL_law_1126 (by decide) ?_
  refine lv_iadd hx hb dL_law_1127 ?_
  refine va_sld hx hb hXs hbl hbA hw.2.2.2 (lin hx4 hi hL (show (1 : Int32) = nI 1 by decide) (by decide)) dL_law_1128 ?_
  refine lv_aload_n hx hb dL_law_1129 rfl (lv_at hl 0 rfl) ?_
  refine lv_iload hx hb dL_law_1130 (lv_at hl 4 rfl) ?_
  refine lv_iconst (v := 2) hx hb dL_law_1132 (by decide) ?_
  refine lv_iadd hx hb dL_law_1133 ?_
  refine va_sld hx hb hXs hbl hbA hw.2.2.2 (lin hx4 hi hL (show (2 : Int32) = nI 2 by decide) (by decide)) dL_law_1134 ?_
  refine lm_call (st := [.int (r)]) [.int (xs (x4 + 1).toNatClampNeg), .int (xs (x4 + 2).toNatClampNeg)] hO (by omega) lk_157 (c_X12_nearest (xs (x4 + 1).toNatClampNeg) (xs (x4 + 2).toNatClampNeg)) hM rfl rfl (Nat.le_of_ble_eq_true rfl) (by decide) dL_law_1135 hl.1 hw (fun H locs hw => ?_)
  refine W.eq (g2 := F0 m 1138 ls [.int (r), .int (r)]) rfl ?_
  refine lv_icmp_eq (tgt := 1559) hx hb dL_law_1138 (by decide) (fun _ => ?_) (fun h => absurd rfl h)
  exact W.widen (k := 108 + (n + 1)) (n := lKS + 6 * (n + 1)) (by omega) (by omega) (next H locs ls hl hw)
set_option maxRecDepth 100000 in
set_option maxHeartbeats 4000000 in
theorem law_c30 {p : Program} {l : Launch} {e : Env} {s : State} {m : MethodId} {below : List Frame} {meth : Method} {c : Code} {D : va_G} {ca : FieldType → ClassId} {aX aM tt sa sv : Nat → Nat} {ob b L : Nat} {xs : Nat → Int32} {SX SM SX2 SM2 : zS} {f : Nat → Int64} {n : Nat} (hO : lOK p l s m meth c D ca aX aM tt sa sv ob b L xs) (hn : n + 1 ≤ 512) {x4 : Int32} {i : Nat} (hx4 : x4 = nI i) (hi : i + 5 ≤ L) {r : Int32} (hX : p_X11_storm SX = some (r, SX2)) (hM : p_X12_storm SM = some (r, SM2)) (next : ∀ (H : Heap) (locs : List Loc) (ls : Array Slot), lv_has ls 8 (lLo b aX aM ob x4) → lWo D ca aX aM ob SX2 SM2 f s H locs → lWr p l e s m below meth c b H locs (n + 1) (F0 m 1559 ls [])) : ∀ (H : Heap) (locs : List Loc) (ls : Array Slot), lv_has ls 8 (lLo b aX aM ob x4) → lWo D ca aX aM ob SX SM f s H locs → lWr p l e s m below meth c b H locs n (F0 m 1143 ls []) := by
  intro H locs ls hl hw
  have hx := hO.1.1
  have hb := hO.1.2.1
  have hXs := hO.1.2.2.2.2.2.2.1
  have hbl := hO.1.2.2.2.2.2.2.2.1
  have hbA : ¬ lA s b := Nat.not_le.mpr hbl
  have hL := hO.2.2.2.1
  refine lv_aload_n hx hb dL_law_1143 rfl (lv_at hl 1 rfl) ?_
  refine lx_call (st := []) [] hO (by omega) lk_158 (c_X11_storm) hX rfl rfl (Nat.le_of_ble_eq_true rfl) (by decide) dL_law_1144 hl.1 hw (fun H locs hw => ?_)
  refine W.eq (g2 := F0 m 1147 ls [.int (r)]) rfl ?_
  refine lv_aload_n hx hb dL_law_1147 rfl (lv_at hl 2 rfl) ?_
  refine lm_call (st := [.int (r)]) [] hO (by omega) lk_161 (c_X12_storm) hM rfl rfl (Nat.le_of_ble_eq_true rfl) (by decide) dL_law_1148 hl.1 hw (fun H locs hw => ?_)
  refine W.eq (g2 := F0 m 1151 ls [.int (r), .int (r)]) rfl ?_
  refine lv_icmp_eq (tgt := 1559) hx hb dL_law_1151 (by decide) (fun _ => ?_) (fun h => absurd rfl h)
  exact W.widen (k := 108 + (n + 1)) (n := lKS + 6 * (n + 1)) (by omega) (by omega) (next H locs ls hl hw)
set_option maxRecDepth 100000 in
set_option maxHeartbeats 4000000 in
theorem law_c31 {p : Program} {l : Launch} {e : Env} {s : State} {m : MethodId} {below : List Frame} {meth : Method} {c : Code} {D : va_G} {ca : FieldType → ClassId} {aX aM tt sa sv : Nat → Nat} {ob b L : Nat} {xs : Nat → Int32} {SX SM SX2 SM2 : zS} {f : Nat → Int64} {n : Nat} (hO : lOK p l s m meth c D ca aX aM tt sa sv ob b L xs) (hn : n + 1 ≤ 512) {x4 : Int32} {i : Nat} (hx4 : x4 = nI i) (hi : i + 5 ≤ L) {r : Int32} (hX : p_X11_rests (xs (x4 + 1).toNatClampNeg) SX = some (r, SX2)) (hM : p_X12_rests (xs (x4 + 1).toNatClampNeg) SM = some (r, SM2)) (next : ∀ (H : Heap) (locs : List Loc) (ls : Array Slot), lv_has ls 8 (lLo b aX aM ob x4) → lWo D ca aX aM ob SX2 SM2 f s H locs → lWr p l e s m below meth c b H locs (n + 1) (F0 m 1559 ls [])) : ∀ (H : Heap) (locs : List Loc) (ls : Array Slot), lv_has ls 8 (lLo b aX aM ob x4) → lWo D ca aX aM ob SX SM f s H locs → lWr p l e s m below meth c b H locs n (F0 m 1156 ls []) := by
  intro H locs ls hl hw
  have hx := hO.1.1
  have hb := hO.1.2.1
  have hXs := hO.1.2.2.2.2.2.2.1
  have hbl := hO.1.2.2.2.2.2.2.2.1
  have hbA : ¬ lA s b := Nat.not_le.mpr hbl
  have hL := hO.2.2.2.1
  refine lv_aload_n hx hb dL_law_1156 rfl (lv_at hl 1 rfl) ?_
  refine lv_aload_n hx hb dL_law_1157 rfl (lv_at hl 0 rfl) ?_
  refine lv_iload hx hb dL_law_1158 (lv_at hl 4 rfl) ?_
  refine lv_iconst (v := 1) hx hb dL_law_1160 (by decide) ?_
  refine lv_iadd hx hb dL_law_1161 ?_
  refine va_sld hx hb hXs hbl hbA hw.2.2.2 (lin hx4 hi hL (show (1 : Int32) = nI 1 by decide) (by decide)) dL_law_1162 ?_
  refine lx_call (st := []) [.int (xs (x4 + 1).toNatClampNeg)] hO (by omega) lk_162 (c_X11_rests (xs (x4 + 1).toNatClampNeg)) hX rfl rfl (Nat.le_of_ble_eq_true rfl) (by decide) dL_law_1163 hl.1 hw (fun H locs hw => ?_)
  refine W.eq (g2 := F0 m 1166 ls [.int (r)]) rfl ?_
  refine lv_aload_n hx hb dL_law_1166 rfl (lv_at hl 2 rfl) ?_
  refine lv_aload_n hx hb dL_law_1167 rfl (lv_at hl 0 rfl) ?_
  refine lv_iload hx hb dL_law_1168 (lv_at hl 4 rfl) ?_
  refine lv_iconst (v := 1) hx hb dL_law_1170 (by decide) ?_
  refine lv_iadd hx hb dL_law_1171 ?_
  refine va_sld hx hb hXs hbl hbA hw.2.2.2 (lin hx4 hi hL (show (1 : Int32) = nI 1 by decide) (by decide)) dL_law_1172 ?_
  refine lm_call (st := [.int (r)]) [.int (xs (x4 + 1).toNatClampNeg)] hO (by omega) lk_165 (c_X12_rests (xs (x4 + 1).toNatClampNeg)) hM rfl rfl (Nat.le_of_ble_eq_true rfl) (by decide) dL_law_1173 hl.1 hw (fun H locs hw => ?_)
  refine W.eq (g2 := F0 m 1176 ls [.int (r), .int (r)]) rfl ?_
  refine lv_icmp_eq (tgt := 1559) hx hb dL_law_1176 (by decide) (fun _ => ?_) (fun h => absurd rfl h)
  exact W.widen (k := 108 + (n + 1)) (n := lKS + 6 * (n + 1)) (by omega) (by omega) (next H locs ls hl hw)
set_option maxRecDepth 100000 in
set_option maxHeartbeats 4000000 in
theorem law_c32 {p : Program} {l : Launch} {e : Env} {s : State} {m : MethodId} {below : List Frame} {meth : Method} {c : Code} {D : va_G} {ca : FieldType → ClassId} {aX aM tt sa sv : Nat → Nat} {ob b L : Nat} {xs : Nat → Int32} {SX SM SX2 SM2 : zS} {f : Nat → Int64} {n : Nat} (hO : lOK p l s m meth c D ca aX aM tt sa sv ob b L xs) (hn : n + 1 ≤ 512) {x4 : Int32} {i : Nat} (hx4 : x4 = nI i) (hi : i + 5 ≤ L) {r : Int32} (hX : p_X11_mark (xs (x4 + 1).toNatClampNeg) (xs (x4 + 2).toNatClampNeg) (xs (x4 + 3).toNatClampNeg) SX = some (r, SX2)) (hM : p_X12_mark (xs (x4 + 1).toNatClampNeg) (xs (x4 + 2).toNatClampNeg) (xs (x4 + 3).toNatClampNeg) SM = some (r, SM2)) (next : ∀ (H : Heap) (locs : List Loc) (ls : Array Slot), lv_has ls 8 (lLo b aX aM ob x4) → lWo D ca aX aM ob SX2 SM2 f s H locs → lWr p l e s m below meth c b H locs (n + 1) (F0 m 1559 ls [])) : ∀ (H : Heap) (locs : List Loc) (ls : Array Slot), lv_has ls 8 (lLo b aX aM ob x4) → lWo D ca aX aM ob SX SM f s H locs → lWr p l e s m below meth c b H locs n (F0 m 1181 ls []) := by
  intro H locs ls hl hw
  have hx := hO.1.1
  have hb := hO.1.2.1
  have hXs := hO.1.2.2.2.2.2.2.1
  have hbl := hO.1.2.2.2.2.2.2.2.1
  have hbA : ¬ lA s b := Nat.not_le.mpr hbl
  have hL := hO.2.2.2.1
  refine lv_aload_n hx hb dL_law_1181 rfl (lv_at hl 1 rfl) ?_
  refine lv_aload_n hx hb dL_law_1182 rfl (lv_at hl 0 rfl) ?_
  refine lv_iload hx hb dL_law_1183 (lv_at hl 4 rfl) ?_
  refine lv_iconst (v := 1) hx hb dL_law_1185 (by decide) ?_
  refine lv_iadd hx hb dL_law_1186 ?_
  refine va_sld hx hb hXs hbl hbA hw.2.2.2 (lin hx4 hi hL (show (1 : Int32) = nI 1 by decide) (by decide)) dL_law_1187 ?_
  refine lv_aload_n hx hb dL_law_1188 rfl (lv_at hl 0 rfl) ?_
  refine lv_iload hx hb dL_law_1189 (lv_at hl 4 rfl) ?_
  refine lv_iconst (v := 2) hx hb dL_law_1191 (by decide) ?_
  refine lv_iadd hx hb dL_law_1192 ?_
  refine va_sld hx hb hXs hbl hbA hw.2.2.2 (lin hx4 hi hL (show (2 : Int32) = nI 2 by decide) (by decide)) dL_law_1193 ?_
  refine lv_aload_n hx hb dL_law_1194 rfl (lv_at hl 0 rfl) ?_
  refine lv_iload hx hb dL_law_1195 (lv_at hl 4 rfl) ?_
  refine lv_iconst (v := 3) hx hb dL_law_1197 (by decide) ?_
  refine lv_iadd hx hb dL_law_1198 ?_
  refine va_sld hx hb hXs hbl hbA hw.2.2.2 (lin hx4 hi hL (show (3 : Int32) = nI 3 by decide) (by decide)) dL_law_1199 ?_
  refine lx_call (st := []) [.int (xs (x4 + 1).toNatClampNeg), .int (xs (x4 + 2).toNatClampNeg), .int (xs (x4 + 3).toNatClampNeg)] hO (by omega) lk_166 (c_X11_mark (xs (x4 + 1).toNatClampNeg) (xs (x4 + 2).toNatClampNeg) (xs (x4 + 3).toNatClampNeg)) hX rfl rfl (Nat.le_of_ble_eq_true rfl) (by decide) dL_law_1200 hl.1 hw (fun H locs hw => ?_)
  refine W.eq (g2 := F0 m 1203 ls [.int (r)]) rfl ?_
  refine lv_aload_n hx hb dL_law_1203 rfl (lv_at hl 2 rfl) ?_
  refine lv_aload_n hx hb dL_law_1204 rfl (lv_at hl 0 rfl) ?_
  refine lv_iload hx hb dL_law_1205 (lv_at hl 4 rfl) ?_
  refine lv_iconst (v := 1) hx hb dL_law_1207 (by decide) ?_
  refine lv_iadd hx hb dL_law_1208 ?_
  refine va_sld hx hb hXs hbl hbA hw.2.2.2 (lin hx4 hi hL (show (1 : Int32) = nI 1 by decide) (by decide)) dL_law_1209 ?_
  refine lv_aload_n hx hb dL_law_1210 rfl (lv_at hl 0 rfl) ?_
  refine lv_iload hx hb dL_law_1211 (lv_at hl 4 rfl) ?_
  refine lv_iconst (v := 2) hx hb dL_law_1213 (by decide) ?_
  refine lv_iadd hx hb dL_law_1214 ?_
  refine va_sld hx hb hXs hbl hbA hw.2.2.2 (lin hx4 hi hL (show (2 : Int32) = nI 2 by decide) (by decide)) dL_law_1215 ?_
  refine lv_aload_n hx hb dL_law_1216 rfl (lv_at hl 0 rfl) ?_
  refine lv_iload hx hb dL_law_1217 (lv_at hl 4 rfl) ?_
  refine lv_iconst (v := 3) hx hb dL_law_1219 (by decide) ?_
  refine lv_iadd hx hb dL_law_1220 ?_
  refine va_sld hx hb hXs hbl hbA hw.2.2.2 (lin hx4 hi hL (show (3 : Int32) = nI 3 by decide) (by decide)) dL_law_1221 ?_
  refine lm_call (st := [.int (r)]) [.int (xs (x4 + 1).toNatClampNeg), .int (xs (x4 + 2).toNatClampNeg), .int (xs (x4 + 3).toNatClampNeg)] hO (by omega) lk_169 (c_X12_mark (xs (x4 + 1).toNatClampNeg) (xs (x4 + 2).toNatClampNeg) (xs (x4 + 3).toNatClampNeg)) hM rfl rfl (Nat.le_of_ble_eq_true rfl) (by decide) dL_law_1222 hl.1 hw (fun H locs hw => ?_)
  refine W.eq (g2 := F0 m 1225 ls [.int (r), .int (r)]) rfl ?_
  refine lv_icmp_eq (tgt := 1559) hx hb dL_law_1225 (by decide) (fun _ => ?_) (fun h => absurd rfl h)
  exact W.widen (k := 108 + (n + 1)) (n := lKS + 6 * (n + 1)) (by omega) (by omega) (next H locs ls hl hw)
set_option maxRecDepth 100000 in
set_option maxHeartbeats 4000000 in
theorem law_c33 {p : Program} {l : Launch} {e : Env} {s : State} {m : MethodId} {below : List Frame} {meth : Method} {c : Code} {D : va_G} {ca : FieldType → ClassId} {aX aM tt sa sv : Nat → Nat} {ob b L : Nat} {xs : Nat → Int32} {SX SM SX2 SM2 : zS} {f : Nat → Int64} {n : Nat} (hO : lOK p l s m meth c D ca aX aM tt sa sv ob b L xs) (hn : n + 1 ≤ 512) {x4 : Int32} {i : Nat} (hx4 : x4 = nI i) (hi : i + 5 ≤ L) {r : Int32} (hX : p_X11_wipe SX = some (r, SX2)) (hM : p_X12_wipe SM = some (r, SM2)) (next : ∀ (H : Heap) (locs : List Loc) (ls : Array Slot), lv_has ls 8 (lLo b aX aM ob x4) → lWo D ca aX aM ob SX2 SM2 f s H locs → lWr p l e s m below meth c b H locs (n + 1) (F0 m 1559 ls [])) : ∀ (H : Heap) (locs : List Loc) (ls : Array Slot), lv_has ls 8 (lLo b aX aM ob x4) → lWo D ca aX aM ob SX SM f s H locs → lWr p l e s m below meth c b H locs n (F0 m 1230 ls []) := by
  intro H locs ls hl hw
  have hx := hO.1.1
  have hb := hO.1.2.1
  have hXs := hO.1.2.2.2.2.2.2.1
  have hbl := hO.1.2.2.2.2.2.2.2.1
  have hbA : ¬ lA s b := Nat.not_le.mpr hbl
  have hL := hO.2.2.2.1
  refine lv_aload_n hx hb dL_law_1230 rfl (lv_at hl 1 rfl) ?_
  refine lx_call (st := []) [] hO (by omega) lk_170 (c_X11_wipe) hX rfl rfl (Nat.le_of_ble_eq_true rfl) (by decide) dL_law_1231 hl.1 hw (fun H locs hw => ?_)
  refine W.eq (g2 := F0 m 1234 ls [.int (r)]) rfl ?_
  refine lv_aload_n hx hb dL_law_1234 rfl (lv_at hl 2 rfl) ?_
  refine lm_call (st := [.int (r)]) [] hO (by omega) lk_173 (c_X12_wipe) hM rfl rfl (Nat.le_of_ble_eq_true rfl) (by decide) dL_law_1235 hl.1 hw (fun H locs hw => ?_)
  refine W.eq (g2 := F0 m 1238 ls [.int (r), .int (r)]) rfl ?_
  refine lv_icmp_eq (tgt := 1559) hx hb dL_law_1238 (by decide) (fun _ => ?_) (fun h => absurd rfl h)
  exact W.widen (k := 108 + (n + 1)) (n := lKS + 6 * (n + 1)) (by omega) (by omega) (next H locs ls hl hw)
set_option maxRecDepth 100000 in
set_option maxHeartbeats 4000000 in
theorem law_c34 {p : Program} {l : Launch} {e : Env} {s : State} {m : MethodId} {below : List Frame} {meth : Method} {c : Code} {D : va_G} {ca : FieldType → ClassId} {aX aM tt sa sv : Nat → Nat} {ob b L : Nat} {xs : Nat → Int32} {SX SM SX2 SM2 : zS} {f : Nat → Int64} {n : Nat} (hO : lOK p l s m meth c D ca aX aM tt sa sv ob b L xs) (hn : n + 1 ≤ 512) {x4 : Int32} {i : Nat} (hx4 : x4 = nI i) (hi : i + 5 ≤ L) {r : Int32} (hX : p_X11_lay (xs (x4 + 1).toNatClampNeg) SX = some (r, SX2)) (hM : p_X12_lay (xs (x4 + 1).toNatClampNeg) SM = some (r, SM2)) (next : ∀ (H : Heap) (locs : List Loc) (ls : Array Slot), lv_has ls 8 (lLo b aX aM ob x4) → lWo D ca aX aM ob SX2 SM2 f s H locs → lWr p l e s m below meth c b H locs (n + 1) (F0 m 1559 ls [])) : ∀ (H : Heap) (locs : List Loc) (ls : Array Slot), lv_has ls 8 (lLo b aX aM ob x4) → lWo D ca aX aM ob SX SM f s H locs → lWr p l e s m below meth c b H locs n (F0 m 1243 ls []) := by
  intro H locs ls hl hw
  have hx := hO.1.1
  have hb := hO.1.2.1
  have hXs := hO.1.2.2.2.2.2.2.1
  have hbl := hO.1.2.2.2.2.2.2.2.1
  have hbA : ¬ lA s b := Nat.not_le.mpr hbl
  have hL := hO.2.2.2.1
  refine lv_aload_n hx hb dL_law_1243 rfl (lv_at hl 1 rfl) ?_
  refine lv_aload_n hx hb dL_law_1244 rfl (lv_at hl 0 rfl) ?_
  refine lv_iload hx hb dL_law_1245 (lv_at hl 4 rfl) ?_
  refine lv_iconst (v := 1) hx hb dL_law_1247 (by decide) ?_
  refine lv_iadd hx hb dL_law_1248 ?_
  refine va_sld hx hb hXs hbl hbA hw.2.2.2 (lin hx4 hi hL (show (1 : Int32) = nI 1 by decide) (by decide)) dL_law_1249 ?_
  refine lx_call (st := []) [.int (xs (x4 + 1).toNatClampNeg)] hO (by omega) lk_174 (c_X11_lay (xs (x4 + 1).toNatClampNeg)) hX rfl rfl (Nat.le_of_ble_eq_true rfl) (by decide) dL_law_1250 hl.1 hw (fun H locs hw => ?_)
  refine W.eq (g2 := F0 m 1253 ls [.int (r)]) rfl ?_
  refine lv_aload_n hx hb dL_law_1253 rfl (lv_at hl 2 rfl) ?_
  refine lv_aload_n hx hb dL_law_1254 rfl (lv_at hl 0 rfl) ?_
  refine lv_iload hx hb dL_law_1255 (lv_at hl 4 rfl) ?_
  refine lv_iconst (v := 1) hx hb dL_law_1257 (by decide) ?_
  refine lv_iadd hx hb dL_law_1258 ?_
  refine va_sld hx hb hXs hbl hbA hw.2.2.2 (lin hx4 hi hL (show (1 : Int32) = nI 1 by decide) (by decide)) dL_law_1259 ?_
  refine lm_call (st := [.int (r)]) [.int (xs (x4 + 1).toNatClampNeg)] hO (by omega) lk_177 (c_X12_lay (xs (x4 + 1).toNatClampNeg)) hM rfl rfl (Nat.le_of_ble_eq_true rfl) (by decide) dL_law_1260 hl.1 hw (fun H locs hw => ?_)
  refine W.eq (g2 := F0 m 1263 ls [.int (r), .int (r)]) rfl ?_
  refine lv_icmp_eq (tgt := 1559) hx hb dL_law_1263 (by decide) (fun _ => ?_) (fun h => absurd rfl h)
  exact W.widen (k := 108 + (n + 1)) (n := lKS + 6 * (n + 1)) (by omega) (by omega) (next H locs ls hl hw)
set_option maxRecDepth 100000 in
set_option maxHeartbeats 4000000 in
theorem law_c35 {p : Program} {l : Launch} {e : Env} {s : State} {m : MethodId} {below : List Frame} {meth : Method} {c : Code} {D : va_G} {ca : FieldType → ClassId} {aX aM tt sa sv : Nat → Nat} {ob b L : Nat} {xs : Nat → Int32} {SX SM SX2 SM2 : zS} {f : Nat → Int64} {n : Nat} (hO : lOK p l s m meth c D ca aX aM tt sa sv ob b L xs) (hn : n + 1 ≤ 512) {x4 : Int32} {i : Nat} (hx4 : x4 = nI i) (hi : i + 5 ≤ L) {r : Int32} (hX : p_X11_ways SX = some (r, SX2)) (hM : p_X12_ways SM = some (r, SM2)) (next : ∀ (H : Heap) (locs : List Loc) (ls : Array Slot), lv_has ls 8 (lLo b aX aM ob x4) → lWo D ca aX aM ob SX2 SM2 f s H locs → lWr p l e s m below meth c b H locs (n + 1) (F0 m 1559 ls [])) : ∀ (H : Heap) (locs : List Loc) (ls : Array Slot), lv_has ls 8 (lLo b aX aM ob x4) → lWo D ca aX aM ob SX SM f s H locs → lWr p l e s m below meth c b H locs n (F0 m 1268 ls []) := by
  intro H locs ls hl hw
  have hx := hO.1.1
  have hb := hO.1.2.1
  have hXs := hO.1.2.2.2.2.2.2.1
  have hbl := hO.1.2.2.2.2.2.2.2.1
  have hbA : ¬ lA s b := Nat.not_le.mpr hbl
  have hL := hO.2.2.2.1
  refine lv_aload_n hx hb dL_law_1268 rfl (lv_at hl 1 rfl) ?_
  refine lx_call (st := []) [] hO (by omega) lk_178 (c_X11_ways) hX rfl rfl (Nat.le_of_ble_eq_true rfl) (by decide) dL_law_1269 hl.1 hw (fun H locs hw => ?_)
  refine W.eq (g2 := F0 m 1272 ls [.int (r)]) rfl ?_
  refine lv_aload_n hx hb dL_law_1272 rfl (lv_at hl 2 rfl) ?_
  refine lm_call (st := [.int (r)]) [] hO (by omega) lk_181 (c_X12_ways) hM rfl rfl (Nat.le_of_ble_eq_true rfl) (by decide) dL_law_1273 hl.1 hw (fun H locs hw => ?_)
  refine W.eq (g2 := F0 m 1276 ls [.int (r), .int (r)]) rfl ?_
  refine lv_icmp_eq (tgt := 1559) hx hb dL_law_1276 (by decide) (fun _ => ?_) (fun h => absurd rfl h)
  exact W.widen (k := 108 + (n + 1)) (n := lKS + 6 * (n + 1)) (by omega) (by omega) (next H locs ls hl hw)
set_option maxRecDepth 100000 in
set_option maxHeartbeats 4000000 in
theorem law_c36 {p : Program} {l : Launch} {e : Env} {s : State} {m : MethodId} {below : List Frame} {meth : Method} {c : Code} {D : va_G} {ca : FieldType → ClassId} {aX aM tt sa sv : Nat → Nat} {ob b L : Nat} {xs : Nat → Int32} {SX SM SX2 SM2 : zS} {f : Nat → Int64} {n : Nat} (hO : lOK p l s m meth c D ca aX aM tt sa sv ob b L xs) (hn : n + 1 ≤ 512) {x4 : Int32} {i : Nat} (hx4 : x4 = nI i) (hi : i + 5 ≤ L) {r : Int32} (hX : p_X11_sure SX = some (r, SX2)) (hM : p_X12_sure SM = some (r, SM2)) (next : ∀ (H : Heap) (locs : List Loc) (ls : Array Slot), lv_has ls 8 (lLo b aX aM ob x4) → lWo D ca aX aM ob SX2 SM2 f s H locs → lWr p l e s m below meth c b H locs (n + 1) (F0 m 1559 ls [])) : ∀ (H : Heap) (locs : List Loc) (ls : Array Slot), lv_has ls 8 (lLo b aX aM ob x4) → lWo D ca aX aM ob SX SM f s H locs → lWr p l e s m below meth c b H locs n (F0 m 1281 ls []) := by
  intro H locs ls hl hw
  have hx := hO.1.1
  have hb := hO.1.2.1
  have hXs := hO.1.2.2.2.2.2.2.1
  have hbl := hO.1.2.2.2.2.2.2.2.1
  have hbA : ¬ lA s b := Nat.not_le.mpr hbl
  have hL := hO.2.2.2.1
  refine lv_aload_n hx hb dL_law_1281 rfl (lv_at hl 1 rfl) ?_
  refine lx_call (st := []) [] hO (by omega) lk_182 (c_X11_sure) hX rfl rfl (Nat.le_of_ble_eq_true rfl) (by decide) dL_law_1282 hl.1 hw (fun H locs hw => ?_)
  refine W.eq (g2 := F0 m 1285 ls [.int (r)]) rfl ?_
  refine lv_aload_n hx hb dL_law_1285 rfl (lv_at hl 2 rfl) ?_
  refine lm_call (st := [.int (r)]) [] hO (by omega) lk_185 (c_X12_sure) hM rfl rfl (Nat.le_of_ble_eq_true rfl) (by decide) dL_law_1286 hl.1 hw (fun H locs hw => ?_)
  refine W.eq (g2 := F0 m 1289 ls [.int (r), .int (r)]) rfl ?_
  refine lv_icmp_eq (tgt := 1559) hx hb dL_law_1289 (by decide) (fun _ => ?_) (fun h => absurd rfl h)
  exact W.widen (k := 108 + (n + 1)) (n := lKS + 6 * (n + 1)) (by omega) (by omega) (next H locs ls hl hw)
set_option maxRecDepth 100000 in
set_option maxHeartbeats 4000000 in
theorem law_c37 {p : Program} {l : Launch} {e : Env} {s : State} {m : MethodId} {below : List Frame} {meth : Method} {c : Code} {D : va_G} {ca : FieldType → ClassId} {aX aM tt sa sv : Nat → Nat} {ob b L : Nat} {xs : Nat → Int32} {SX SM SX2 SM2 : zS} {f : Nat → Int64} {n : Nat} (hO : lOK p l s m meth c D ca aX aM tt sa sv ob b L xs) (hn : n + 1 ≤ 512) {x4 : Int32} {i : Nat} (hx4 : x4 = nI i) (hi : i + 5 ≤ L) {r : Int32} (hX : p_X11_chance (xs (x4 + 1).toNatClampNeg) (xs (x4 + 2).toNatClampNeg) (xs (x4 + 3).toNatClampNeg) (xs (x4 + 4).toNatClampNeg) SX = some (r, SX2)) (hM : p_X12_chance (xs (x4 + 1).toNatClampNeg) (xs (x4 + 2).toNatClampNeg) (xs (x4 + 3).toNatClampNeg) (xs (x4 + 4).toNatClampNeg) SM = some (r, SM2)) (next : ∀ (H : Heap) (locs : List Loc) (ls : Array Slot), lv_has ls 8 (lLo b aX aM ob x4) → lWo D ca aX aM ob SX2 SM2 f s H locs → lWr p l e s m below meth c b H locs (n + 1) (F0 m 1559 ls [])) : ∀ (H : Heap) (locs : List Loc) (ls : Array Slot), lv_has ls 8 (lLo b aX aM ob x4) → lWo D ca aX aM ob SX SM f s H locs → lWr p l e s m below meth c b H locs n (F0 m 1294 ls []) := by
  intro H locs ls hl hw
  have hx := hO.1.1
  have hb := hO.1.2.1
  have hXs := hO.1.2.2.2.2.2.2.1
  have hbl := hO.1.2.2.2.2.2.2.2.1
  have hbA : ¬ lA s b := Nat.not_le.mpr hbl
  have hL := hO.2.2.2.1
  refine lv_aload_n hx hb dL_law_1294 rfl (lv_at hl 1 rfl) ?_
  refine lv_aload_n hx hb dL_law_1295 rfl (lv_at hl 0 rfl) ?_
  refine lv_iload hx hb dL_law_1296 (lv_at hl 4 rfl) ?_
  refine lv_iconst (v := 1) hx hb dL_law_1298 (by decide) ?_
  refine lv_iadd hx hb dL_law_1299 ?_
  refine va_sld hx hb hXs hbl hbA hw.2.2.2 (lin hx4 hi hL (show (1 : Int32) = nI 1 by decide) (by decide)) dL_law_1300 ?_
  refine lv_aload_n hx hb dL_law_1301 rfl (lv_at hl 0 rfl) ?_
  refine lv_iload hx hb dL_law_1302 (lv_at hl 4 rfl) ?_
  refine lv_iconst (v := 2) hx hb dL_law_1304 (by decide) ?_
  refine lv_iadd hx hb dL_law_1305 ?_
  refine va_sld hx hb hXs hbl hbA hw.2.2.2 (lin hx4 hi hL (show (2 : Int32) = nI 2 by decide) (by decide)) dL_law_1306 ?_
  refine lv_aload_n hx hb dL_law_1307 rfl (lv_at hl 0 rfl) ?_
  refine lv_iload hx hb dL_law_1308 (lv_at hl 4 rfl) ?_
  refine lv_iconst (v := 3) hx hb dL_law_1310 (by decide) ?_
  refine lv_iadd hx hb dL_law_1311 ?_
  refine va_sld hx hb hXs hbl hbA hw.2.2.2 (lin hx4 hi hL (show (3 : Int32) = nI 3 by decide) (by decide)) dL_law_1312 ?_
  refine lv_aload_n hx hb dL_law_1313 rfl (lv_at hl 0 rfl) ?_
  refine lv_iload hx hb dL_law_1314 (lv_at hl 4 rfl) ?_
  refine lv_iconst (v := 4) hx hb dL_law_1316 (by decide) ?_
  refine lv_iadd hx hb dL_law_1317 ?_
  refine va_sld hx hb hXs hbl hbA hw.2.2.2 (lin hx4 hi hL (show (4 : Int32) = nI 4 by decide) (by decide)) dL_law_1318 ?_
  refine lx_call (st := []) [.int (xs (x4 + 1).toNatClampNeg), .int (xs (x4 + 2).toNatClampNeg), .int (xs (x4 + 3).toNatClampNeg), .int (xs (x4 + 4).toNatClampNeg)] hO (by omega) lk_186 (c_X11_chance (xs (x4 + 1).toNatClampNeg) (xs (x4 + 2).toNatClampNeg) (xs (x4 + 3).toNatClampNeg) (xs (x4 + 4).toNatClampNeg)) hX rfl rfl (Nat.le_of_ble_eq_true rfl) (by decide) dL_law_1319 hl.1 hw (fun H locs hw => ?_)
  refine W.eq (g2 := F0 m 1322 ls [.int (r)]) rfl ?_
  refine lv_aload_n hx hb dL_law_1322 rfl (lv_at hl 2 rfl) ?_
  refine lv_aload_n hx hb dL_law_1323 rfl (lv_at hl 0 rfl) ?_
  refine lv_iload hx hb dL_law_1324 (lv_at hl 4 rfl) ?_
  refine lv_iconst (v := 1) hx hb dL_law_1326 (by decide) ?_
  refine lv_iadd hx hb dL_law_1327 ?_
  refine va_sld hx hb hXs hbl hbA hw.2.2.2 (lin hx4 hi hL (show (1 : Int32) = nI 1 by decide) (by decide)) dL_law_1328 ?_
  refine lv_aload_n hx hb dL_law_1329 rfl (lv_at hl 0 rfl) ?_
  refine lv_iload hx hb dL_law_1330 (lv_at hl 4 rfl) ?_
  refine lv_iconst (v := 2) hx hb dL_law_1332 (by decide) ?_
  refine lv_iadd hx hb dL_law_1333 ?_
  refine va_sld hx hb hXs hbl hbA hw.2.2.2 (lin hx4 hi hL (show (2 : Int32) = nI 2 by decide) (by decide)) dL_law_1334 ?_
  refine lv_aload_n hx hb dL_law_1335 rfl (lv_at hl 0 rfl) ?_
  refine lv_iload hx hb dL_law_1336 (lv_at hl 4 rfl) ?_
  refine lv_iconst (v := 3) hx hb dL_law_1338 (by decide) ?_
  refine lv_iadd hx hb dL_law_1339 ?_
  refine va_sld hx hb hXs hbl hbA hw.2.2.2 (lin hx4 hi hL (show (3 : Int32) = nI 3 by decide) (by decide)) dL_law_1340 ?_
  refine lv_aload_n hx hb dL_law_1341 rfl (lv_at hl 0 rfl) ?_
  refine lv_iload hx hb dL_law_1342 (lv_at hl 4 rfl) ?_
  refine lv_iconst (v := 4) hx hb dL_law_1344 (by decide) ?_
  refine lv_iadd hx hb dL_law_1345 ?_
  refine va_sld hx hb hXs hbl hbA hw.2.2.2 (lin hx4 hi hL (show (4 : Int32) = nI 4 by decide) (by decide)) dL_law_1346 ?_
  refine lm_call (st := [.int (r)]) [.int (xs (x4 + 1).toNatClampNeg), .int (xs (x4 + 2).toNatClampNeg), .int (xs (x4 + 3).toNatClampNeg), .int (xs (x4 + 4).toNatClampNeg)] hO (by omega) lk_189 (c_X12_chance (xs (x4 + 1).toNatClampNeg) (xs (x4 + 2).toNatClampNeg) (xs (x4 + 3).toNatClampNeg) (xs (x4 + 4).toNatClampNeg)) hM rfl rfl (Nat.le_of_ble_eq_true rfl) (by decide) dL_law_1347 hl.1 hw (fun H locs hw => ?_)
  refine W.eq (g2 := F0 m 1350 ls [.int (r), .int (r)]) rfl ?_
  refine lv_icmp_eq (tgt := 1559) hx hb dL_law_1350 (by decide) (fun _ => ?_) (fun h => absurd rfl h)
  exact W.widen (k := 108 + (n + 1)) (n := lKS + 6 * (n + 1)) (by omega) (by omega) (next H locs ls hl hw)
set_option maxRecDepth 100000 in
set_option maxHeartbeats 4000000 in
theorem law_c38 {p : Program} {l : Launch} {e : Env} {s : State} {m : MethodId} {below : List Frame} {meth : Method} {c : Code} {D : va_G} {ca : FieldType → ClassId} {aX aM tt sa sv : Nat → Nat} {ob b L : Nat} {xs : Nat → Int32} {SX SM SX2 SM2 : zS} {f : Nat → Int64} {n : Nat} (hO : lOK p l s m meth c D ca aX aM tt sa sv ob b L xs) (hn : n + 1 ≤ 512) {x4 : Int32} {i : Nat} (hx4 : x4 = nI i) (hi : i + 5 ≤ L) {r : Int32} (hX : p_X11_when (xs (x4 + 1).toNatClampNeg) (xs (x4 + 2).toNatClampNeg) SX = some (r, SX2)) (hM : p_X12_when (xs (x4 + 1).toNatClampNeg) (xs (x4 + 2).toNatClampNeg) SM = some (r, SM2)) (next : ∀ (H : Heap) (locs : List Loc) (ls : Array Slot), lv_has ls 8 (lLo b aX aM ob x4) → lWo D ca aX aM ob SX2 SM2 f s H locs → lWr p l e s m below meth c b H locs (n + 1) (F0 m 1559 ls [])) : ∀ (H : Heap) (locs : List Loc) (ls : Array Slot), lv_has ls 8 (lLo b aX aM ob x4) → lWo D ca aX aM ob SX SM f s H locs → lWr p l e s m below meth c b H locs n (F0 m 1355 ls []) := by
  intro H locs ls hl hw
  have hx := hO.1.1
  have hb := hO.1.2.1
  have hXs := hO.1.2.2.2.2.2.2.1
  have hbl := hO.1.2.2.2.2.2.2.2.1
  have hbA : ¬ lA s b := Nat.not_le.mpr hbl
  have hL := hO.2.2.2.1
  refine lv_aload_n hx hb dL_law_1355 rfl (lv_at hl 1 rfl) ?_
  refine lv_aload_n hx hb dL_law_1356 rfl (lv_at hl 0 rfl) ?_
  refine lv_iload hx hb dL_law_1357 (lv_at hl 4 rfl) ?_
  refine lv_iconst (v := 1) hx hb dL_law_1359 (by decide) ?_
  refine lv_iadd hx hb dL_law_1360 ?_
  refine va_sld hx hb hXs hbl hbA hw.2.2.2 (lin hx4 hi hL (show (1 : Int32) = nI 1 by decide) (by decide)) dL_law_1361 ?_
  refine lv_aload_n hx hb dL_law_1362 rfl (lv_at hl 0 rfl) ?_
  refine lv_iload hx hb dL_law_1363 (lv_at hl 4 rfl) ?_
  refine lv_iconst (v := 2) hx hb dL_law_1365 (by decide) ?_
  refine lv_iadd hx hb dL_law_1366 ?_
  refine va_sld hx hb hXs hbl hbA hw.2.2.2 (lin hx4 hi hL (show (2 : Int32) = nI 2 by decide) (by decide)) dL_law_1367 ?_
  refine lx_call (st := []) [.int (xs (x4 + 1).toNatClampNeg), .int (xs (x4 + 2).toNatClampNeg)] hO (by omega) lk_190 (c_X11_when (xs (x4 + 1).toNatClampNeg) (xs (x4 + 2).toNatClampNeg)) hX rfl rfl (Nat.le_of_ble_eq_true rfl) (by decide) dL_law_1368 hl.1 hw (fun H locs hw => ?_)
  refine W.eq (g2 := F0 m 1371 ls [.int (r)]) rfl ?_
  refine lv_aload_n hx hb dL_law_1371 rfl (lv_at hl 2 rfl) ?_
  refine lv_aload_n hx hb dL_law_1372 rfl (lv_at hl 0 rfl) ?_
  refine lv_iload hx hb dL_law_1373 (lv_at hl 4 rfl) ?_
  refine lv_iconst (v := 1) hx hb dL_law_1375 (by decide) ?_
  refine lv_iadd hx hb dL_law_1376 ?_
  refine va_sld hx hb hXs hbl hbA hw.2.2.2 (lin hx4 hi hL (show (1 : Int32) = nI 1 by decide) (by decide)) dL_law_1377 ?_
  refine lv_aload_n hx hb dL_law_1378 rfl (lv_at hl 0 rfl) ?_
  refine lv_iload hx hb dL_law_1379 (lv_at hl 4 rfl) ?_
  refine lv_iconst (v := 2) hx hb dL_law_1381 (by decide) ?_
  refine lv_iadd hx hb dL_law_1382 ?_
  refine va_sld hx hb hXs hbl hbA hw.2.2.2 (lin hx4 hi hL (show (2 : Int32) = nI 2 by decide) (by decide)) dL_law_1383 ?_
  refine lm_call (st := [.int (r)]) [.int (xs (x4 + 1).toNatClampNeg), .int (xs (x4 + 2).toNatClampNeg)] hO (by omega) lk_193 (c_X12_when (xs (x4 + 1).toNatClampNeg) (xs (x4 + 2).toNatClampNeg)) hM rfl rfl (Nat.le_of_ble_eq_true rfl) (by decide) dL_law_1384 hl.1 hw (fun H locs hw => ?_)
  refine W.eq (g2 := F0 m 1387 ls [.int (r), .int (r)]) rfl ?_
  refine lv_icmp_eq (tgt := 1559) hx hb dL_law_1387 (by decide) (fun _ => ?_) (fun h => absurd rfl h)
  exact W.widen (k := 108 + (n + 1)) (n := lKS + 6 * (n + 1)) (by omega) (by omega) (next H locs ls hl hw)
set_option maxRecDepth 100000 in
set_option maxHeartbeats 4000000 in
theorem law_c39 {p : Program} {l : Launch} {e : Env} {s : State} {m : MethodId} {below : List Frame} {meth : Method} {c : Code} {D : va_G} {ca : FieldType → ClassId} {aX aM tt sa sv : Nat → Nat} {ob b L : Nat} {xs : Nat → Int32} {SX SM SX2 SM2 : zS} {f : Nat → Int64} {n : Nat} (hO : lOK p l s m meth c D ca aX aM tt sa sv ob b L xs) (hn : n + 1 ≤ 512) {x4 : Int32} {i : Nat} (hx4 : x4 = nI i) (hi : i + 5 ≤ L) {r : Int32} (hX : p_X11_season (xs (x4 + 1).toNatClampNeg) (xs (x4 + 2).toNatClampNeg) SX = some (r, SX2)) (hM : p_X12_season (xs (x4 + 1).toNatClampNeg) (xs (x4 + 2).toNatClampNeg) SM = some (r, SM2)) (next : ∀ (H : Heap) (locs : List Loc) (ls : Array Slot), lv_has ls 8 (lLo b aX aM ob x4) → lWo D ca aX aM ob SX2 SM2 f s H locs → lWr p l e s m below meth c b H locs (n + 1) (F0 m 1559 ls [])) : ∀ (H : Heap) (locs : List Loc) (ls : Array Slot), lv_has ls 8 (lLo b aX aM ob x4) → lWo D ca aX aM ob SX SM f s H locs → lWr p l e s m below meth c b H locs n (F0 m 1392 ls []) := by
  intro H locs ls hl hw
  have hx := hO.1.1
  have hb := hO.1.2.1
  have hXs := hO.1.2.2.2.2.2.2.1
  have hbl := hO.1.2.2.2.2.2.2.2.1
  have hbA : ¬ lA s b := Nat.not_le.mpr hbl
  have hL := hO.2.2.2.1
  refine lv_aload_n hx hb dL_law_1392 rfl (lv_at hl 1 rfl) ?_
  refine lv_aload_n hx hb dL_law_1393 rfl (lv_at hl 0 rfl) ?_
  refine lv_iload hx hb dL_law_1394 (lv_at hl 4 rfl) ?_
  refine lv_iconst (v := 1) hx hb dL_law_1396 (by decide) ?_
  refine lv_iadd hx hb dL_law_1397 ?_
  refine va_sld hx hb hXs hbl hbA hw.2.2.2 (lin hx4 hi hL (show (1 : Int32) = nI 1 by decide) (by decide)) dL_law_1398 ?_
  refine lv_aload_n hx hb dL_law_1399 rfl (lv_at hl 0 rfl) ?_
  refine lv_iload hx hb dL_law_1400 (lv_at hl 4 rfl) ?_
  refine lv_iconst (v := 2) hx hb dL_law_1402 (by decide) ?_
  refine lv_iadd hx hb dL_law_1403 ?_
  refine va_sld hx hb hXs hbl hbA hw.2.2.2 (lin hx4 hi hL (show (2 : Int32) = nI 2 by decide) (by decide)) dL_law_1404 ?_
  refine lx_call (st := []) [.int (xs (x4 + 1).toNatClampNeg), .int (xs (x4 + 2).toNatClampNeg)] hO (by omega) lk_194 (c_X11_season (xs (x4 + 1).toNatClampNeg) (xs (x4 + 2).toNatClampNeg)) hX rfl rfl (Nat.le_of_ble_eq_true rfl) (by decide) dL_law_1405 hl.1 hw (fun H locs hw => ?_)
  refine W.eq (g2 := F0 m 1408 ls [.int (r)]) rfl ?_
  refine lv_aload_n hx hb dL_law_1408 rfl (lv_at hl 2 rfl) ?_
  refine lv_aload_n hx hb dL_law_1409 rfl (lv_at hl 0 rfl) ?_
  refine lv_iload hx hb dL_law_1410 (lv_at hl 4 rfl) ?_
  refine lv_iconst (v := 1) hx hb dL_law_1412 (by decide) ?_
  refine lv_iadd hx hb dL_law_1413 ?_
  refine va_sld hx hb hXs hbl hbA hw.2.2.2 (lin hx4 hi hL (show (1 : Int32) = nI 1 by decide) (by decide)) dL_law_1414 ?_
  refine lv_aload_n hx hb dL_law_1415 rfl (lv_at hl 0 rfl) ?_
  refine lv_iload hx hb dL_law_1416 (lv_at hl 4 rfl) ?_
  refine lv_iconst (v := 2) hx hb dL_law_1418 (by decide) ?_
  refine lv_iadd hx hb dL_law_1419 ?_
  refine va_sld hx hb hXs hbl hbA hw.2.2.2 (lin hx4 hi hL (show (2 : Int32) = nI 2 by decide) (by decide)) dL_law_1420 ?_
  refine lm_call (st := [.int (r)]) [.int (xs (x4 + 1).toNatClampNeg), .int (xs (x4 + 2).toNatClampNeg)] hO (by omega) lk_197 (c_X12_season (xs (x4 + 1).toNatClampNeg) (xs (x4 + 2).toNatClampNeg)) hM rfl rfl (Nat.le_of_ble_eq_true rfl) (by decide) dL_law_1421 hl.1 hw (fun H locs hw => ?_)
  refine W.eq (g2 := F0 m 1424 ls [.int (r), .int (r)]) rfl ?_
  refine lv_icmp_eq (tgt := 1559) hx hb dL_law_1424 (by decide) (fun _ => ?_) (fun h => absurd rfl h)
  exact W.widen (k := 108 + (n + 1)) (n := lKS + 6 * (n + 1)) (by omega) (by omega) (next H locs ls hl hw)
set_option maxRecDepth 100000 in
set_option maxHeartbeats 4000000 in
theorem law_c40 {p : Program} {l : Launch} {e : Env} {s : State} {m : MethodId} {below : List Frame} {meth : Method} {c : Code} {D : va_G} {ca : FieldType → ClassId} {aX aM tt sa sv : Nat → Nat} {ob b L : Nat} {xs : Nat → Int32} {SX SM SX2 SM2 : zS} {f : Nat → Int64} {n : Nat} (hO : lOK p l s m meth c D ca aX aM tt sa sv ob b L xs) (hn : n + 1 ≤ 512) {x4 : Int32} {i : Nat} (hx4 : x4 = nI i) (hi : i + 5 ≤ L) {r : Int32} (hX : p_X11_keep (xs (x4 + 1).toNatClampNeg) SX = some (r, SX2)) (hM : p_X12_keep (xs (x4 + 1).toNatClampNeg) SM = some (r, SM2)) (next : ∀ (H : Heap) (locs : List Loc) (ls : Array Slot), lv_has ls 8 (lLo b aX aM ob x4) → lWo D ca aX aM ob SX2 SM2 f s H locs → lWr p l e s m below meth c b H locs (n + 1) (F0 m 1559 ls [])) : ∀ (H : Heap) (locs : List Loc) (ls : Array Slot), lv_has ls 8 (lLo b aX aM ob x4) → lWo D ca aX aM ob SX SM f s H locs → lWr p l e s m below meth c b H locs n (F0 m 1429 ls []) := by
  intro H locs ls hl hw
  have hx := hO.1.1
  have hb := hO.1.2.1
  have hXs := hO.1.2.2.2.2.2.2.1
  have hbl := hO.1.2.2.2.2.2.2.2.1
  have hbA : ¬ lA s b := Nat.not_le.mpr hbl
  have hL := hO.2.2.2.1
  refine lv_aload_n hx hb dL_law_1429 rfl (lv_at hl 1 rfl) ?_
  refine lv_aload_n hx hb dL_law_1430 rfl (lv_at hl 0 rfl) ?_
  refine lv_iload hx hb dL_law_1431 (lv_at hl 4 rfl) ?_
  refine lv_iconst (v := 1) hx hb dL_law_1433 (by decide) ?_
  refine lv_iadd hx hb dL_law_1434 ?_
  refine va_sld hx hb hXs hbl hbA hw.2.2.2 (lin hx4 hi hL (show (1 : Int32) = nI 1 by decide) (by decide)) dL_law_1435 ?_
  refine lx_call (st := []) [.int (xs (x4 + 1).toNatClampNeg)] hO (by omega) lk_198 (c_X11_keep (xs (x4 + 1).toNatClampNeg)) hX rfl rfl (Nat.le_of_ble_eq_true rfl) (by decide) dL_law_1436 hl.1 hw (fun H locs hw => ?_)
  refine W.eq (g2 := F0 m 1439 ls [.int (r)]) rfl ?_
  refine lv_aload_n hx hb dL_law_1439 rfl (lv_at hl 2 rfl) ?_
  refine lv_aload_n hx hb dL_law_1440 rfl (lv_at hl 0 rfl) ?_
  refine lv_iload hx hb dL_law_1441 (lv_at hl 4 rfl) ?_
  refine lv_iconst (v := 1) hx hb dL_law_1443 (by decide) ?_
  refine lv_iadd hx hb dL_law_1444 ?_
  refine va_sld hx hb hXs hbl hbA hw.2.2.2 (lin hx4 hi hL (show (1 : Int32) = nI 1 by decide) (by decide)) dL_law_1445 ?_
  refine lm_call (st := [.int (r)]) [.int (xs (x4 + 1).toNatClampNeg)] hO (by omega) lk_201 (c_X12_keep (xs (x4 + 1).toNatClampNeg)) hM rfl rfl (Nat.le_of_ble_eq_true rfl) (by decide) dL_law_1446 hl.1 hw (fun H locs hw => ?_)
  refine W.eq (g2 := F0 m 1449 ls [.int (r), .int (r)]) rfl ?_
  refine lv_icmp_eq (tgt := 1559) hx hb dL_law_1449 (by decide) (fun _ => ?_) (fun h => absurd rfl h)
  exact W.widen (k := 108 + (n + 1)) (n := lKS + 6 * (n + 1)) (by omega) (by omega) (next H locs ls hl hw)
set_option maxRecDepth 100000 in
set_option maxHeartbeats 4000000 in
theorem law_c41 {p : Program} {l : Launch} {e : Env} {s : State} {m : MethodId} {below : List Frame} {meth : Method} {c : Code} {D : va_G} {ca : FieldType → ClassId} {aX aM tt sa sv : Nat → Nat} {ob b L : Nat} {xs : Nat → Int32} {SX SM SX2 SM2 : zS} {f : Nat → Int64} {n : Nat} (hO : lOK p l s m meth c D ca aX aM tt sa sv ob b L xs) (hn : n + 1 ≤ 512) {x4 : Int32} {i : Nat} (hx4 : x4 = nI i) (hi : i + 5 ≤ L) {r : Int32} (hX : p_X11_again (xs (x4 + 1).toNatClampNeg) SX = some (r, SX2)) (hM : p_X12_again (xs (x4 + 1).toNatClampNeg) SM = some (r, SM2)) (next : ∀ (H : Heap) (locs : List Loc) (ls : Array Slot), lv_has ls 8 (lLo b aX aM ob x4) → lWo D ca aX aM ob SX2 SM2 f s H locs → lWr p l e s m below meth c b H locs (n + 1) (F0 m 1559 ls [])) : ∀ (H : Heap) (locs : List Loc) (ls : Array Slot), lv_has ls 8 (lLo b aX aM ob x4) → lWo D ca aX aM ob SX SM f s H locs → lWr p l e s m below meth c b H locs n (F0 m 1454 ls []) := by
  intro H locs ls hl hw
  have hx := hO.1.1
  have hb := hO.1.2.1
  have hXs := hO.1.2.2.2.2.2.2.1
  have hbl := hO.1.2.2.2.2.2.2.2.1
  have hbA : ¬ lA s b := Nat.not_le.mpr hbl
  have hL := hO.2.2.2.1
  refine lv_aload_n hx hb dL_law_1454 rfl (lv_at hl 1 rfl) ?_
  refine lv_aload_n hx hb dL_law_1455 rfl (lv_at hl 0 rfl) ?_
  refine lv_iload hx hb dL_law_1456 (lv_at hl 4 rfl) ?_
  refine lv_iconst (v := 1) hx hb dL_law_1458 (by decide) ?_
  refine lv_iadd hx hb dL_law_1459 ?_
  refine va_sld hx hb hXs hbl hbA hw.2.2.2 (lin hx4 hi hL (show (1 : Int32) = nI 1 by decide) (by decide)) dL_law_1460 ?_
  refine lx_call (st := []) [.int (xs (x4 + 1).toNatClampNeg)] hO (by omega) lk_202 (c_X11_again (xs (x4 + 1).toNatClampNeg)) hX rfl rfl (Nat.le_of_ble_eq_true rfl) (by decide) dL_law_1461 hl.1 hw (fun H locs hw => ?_)
  refine W.eq (g2 := F0 m 1464 ls [.int (r)]) rfl ?_
  refine lv_aload_n hx hb dL_law_1464 rfl (lv_at hl 2 rfl) ?_
  refine lv_aload_n hx hb dL_law_1465 rfl (lv_at hl 0 rfl) ?_
  refine lv_iload hx hb dL_law_1466 (lv_at hl 4 rfl) ?_
  refine lv_iconst (v := 1) hx hb dL_law_1468 (by decide) ?_
  refine lv_iadd hx hb dL_law_1469 ?_
  refine va_sld hx hb hXs hbl hbA hw.2.2.2 (lin hx4 hi hL (show (1 : Int32) = nI 1 by decide) (by decide)) dL_law_1470 ?_
  refine lm_call (st := [.int (r)]) [.int (xs (x4 + 1).toNatClampNeg)] hO (by omega) lk_205 (c_X12_again (xs (x4 + 1).toNatClampNeg)) hM rfl rfl (Nat.le_of_ble_eq_true rfl) (by decide) dL_law_1471 hl.1 hw (fun H locs hw => ?_)
  refine W.eq (g2 := F0 m 1474 ls [.int (r), .int (r)]) rfl ?_
  refine lv_icmp_eq (tgt := 1559) hx hb dL_law_1474 (by decide) (fun _ => ?_) (fun h => absurd rfl h)
  exact W.widen (k := 108 + (n + 1)) (n := lKS + 6 * (n + 1)) (by omega) (by omega) (next H locs ls hl hw)
set_option maxRecDepth 100000 in
set_option maxHeartbeats 4000000 in
theorem law_c42 {p : Program} {l : Launch} {e : Env} {s : State} {m : MethodId} {below : List Frame} {meth : Method} {c : Code} {D : va_G} {ca : FieldType → ClassId} {aX aM tt sa sv : Nat → Nat} {ob b L : Nat} {xs : Nat → Int32} {SX SM SX2 SM2 : zS} {f : Nat → Int64} {n : Nat} (hO : lOK p l s m meth c D ca aX aM tt sa sv ob b L xs) (hn : n + 1 ≤ 512) {x4 : Int32} {i : Nat} (hx4 : x4 = nI i) (hi : i + 5 ≤ L) {r : Int32} (hX : p_X11_count (xs (x4 + 1).toNatClampNeg) SX = some (r, SX2)) (hM : p_X12_count (xs (x4 + 1).toNatClampNeg) SM = some (r, SM2)) (next : ∀ (H : Heap) (locs : List Loc) (ls : Array Slot), lv_has ls 8 (lLo b aX aM ob x4) → lWo D ca aX aM ob SX2 SM2 f s H locs → lWr p l e s m below meth c b H locs (n + 1) (F0 m 1559 ls [])) : ∀ (H : Heap) (locs : List Loc) (ls : Array Slot), lv_has ls 8 (lLo b aX aM ob x4) → lWo D ca aX aM ob SX SM f s H locs → lWr p l e s m below meth c b H locs n (F0 m 1479 ls []) := by
  intro H locs ls hl hw
  have hx := hO.1.1
  have hb := hO.1.2.1
  have hXs := hO.1.2.2.2.2.2.2.1
  have hbl := hO.1.2.2.2.2.2.2.2.1
  have hbA : ¬ lA s b := Nat.not_le.mpr hbl
  have hL := hO.2.2.2.1
  refine lv_aload_n hx hb dL_law_1479 rfl (lv_at hl 1 rfl) ?_
  refine lv_aload_n hx hb dL_law_1480 rfl (lv_at hl 0 rfl) ?_
  refine lv_iload hx hb dL_law_1481 (lv_at hl 4 rfl) ?_
  refine lv_iconst (v := 1) hx hb dL_law_1483 (by decide) ?_
  refine lv_iadd hx hb dL_law_1484 ?_
  refine va_sld hx hb hXs hbl hbA hw.2.2.2 (lin hx4 hi hL (show (1 : Int32) = nI 1 by decide) (by decide)) dL_law_1485 ?_
  refine lx_call (st := []) [.int (xs (x4 + 1).toNatClampNeg)] hO (by omega) lk_206 (c_X11_count (xs (x4 + 1).toNatClampNeg)) hX rfl rfl (Nat.le_of_ble_eq_true rfl) (by decide) dL_law_1486 hl.1 hw (fun H locs hw => ?_)
  refine W.eq (g2 := F0 m 1489 ls [.int (r)]) rfl ?_
  refine lv_aload_n hx hb dL_law_1489 rfl (lv_at hl 2 rfl) ?_
  refine lv_aload_n hx hb dL_law_1490 rfl (lv_at hl 0 rfl) ?_
  refine lv_iload hx hb dL_law_1491 (lv_at hl 4 rfl) ?_
  refine lv_iconst (v := 1) hx hb dL_law_1493 (by decide) ?_
  refine lv_iadd hx hb dL_law_1494 ?_
  refine va_sld hx hb hXs hbl hbA hw.2.2.2 (lin hx4 hi hL (show (1 : Int32) = nI 1 by decide) (by decide)) dL_law_1495 ?_
  refine lm_call (st := [.int (r)]) [.int (xs (x4 + 1).toNatClampNeg)] hO (by omega) lk_209 (c_X12_count (xs (x4 + 1).toNatClampNeg)) hM rfl rfl (Nat.le_of_ble_eq_true rfl) (by decide) dL_law_1496 hl.1 hw (fun H locs hw => ?_)
  refine W.eq (g2 := F0 m 1499 ls [.int (r), .int (r)]) rfl ?_
  refine lv_icmp_eq (tgt := 1559) hx hb dL_law_1499 (by decide) (fun _ => ?_) (fun h => absurd rfl h)
  exact W.widen (k := 108 + (n + 1)) (n := lKS + 6 * (n + 1)) (by omega) (by omega) (next H locs ls hl hw)
set_option maxRecDepth 100000 in
set_option maxHeartbeats 4000000 in
theorem law_c43 {p : Program} {l : Launch} {e : Env} {s : State} {m : MethodId} {below : List Frame} {meth : Method} {c : Code} {D : va_G} {ca : FieldType → ClassId} {aX aM tt sa sv : Nat → Nat} {ob b L : Nat} {xs : Nat → Int32} {SX SM SX2 SM2 : zS} {f : Nat → Int64} {n : Nat} (hO : lOK p l s m meth c D ca aX aM tt sa sv ob b L xs) (hn : n + 1 ≤ 512) {x4 : Int32} {i : Nat} (hx4 : x4 = nI i) (hi : i + 5 ≤ L) {SM1 : zS} {r : Option Int64} {v : Int64} (hX : p_X11_row (xs (x4 + 1).toNatClampNeg) SX = some (r, SX2)) (hM : p_X12_row (xs (x4 + 1).toNatClampNeg) SM = some (v, SM1)) (hT : p_X12_thrown SM1 = some (hr01 r, SM2)) (hv : ∀ z, r = some z → z = v) (next : ∀ (H : Heap) (locs : List Loc) (ls : Array Slot), lv_has ls 8 (lLo b aX aM ob x4) → lWo D ca aX aM ob SX2 SM2 (hupL f r) s H locs → lWr p l e s m below meth c b H locs (n + 1) (F0 m 1559 ls [])) : ∀ (H : Heap) (locs : List Loc) (ls : Array Slot), lv_has ls 8 (lLo b aX aM ob x4) → lWo D ca aX aM ob SX SM f s H locs → lWr p l e s m below meth c b H locs n (F0 m 1504 ls []) := by
  intro H locs ls hl hw
  have hx := hO.1.1
  have hb := hO.1.2.1
  have hXs := hO.1.2.2.2.2.2.2.1
  have hbl := hO.1.2.2.2.2.2.2.2.1
  have hbA : ¬ lA s b := Nat.not_le.mpr hbl
  have hL := hO.2.2.2.1
  refine lv_aload_n hx hb dL_law_1504 rfl (lv_at hl 1 rfl) ?_
  refine lv_aload_n hx hb dL_law_1505 rfl (lv_at hl 0 rfl) ?_
  refine lv_iload hx hb dL_law_1506 (lv_at hl 4 rfl) ?_
  refine lv_iconst (v := 1) hx hb dL_law_1508 (by decide) ?_
  refine lv_iadd hx hb dL_law_1509 ?_
  refine va_sld hx hb hXs hbl hbA hw.2.2.2 (lin hx4 hi hL (show (1 : Int32) = nI 1 by decide) (by decide)) dL_law_1510 ?_
  refine lv_aload_n hx hb dL_law_1511 rfl (lv_at hl 3 rfl) ?_
  refine lh_call (st := []) [.ref (aX 0), .int (xs (x4 + 1).toNatClampNeg), .ref ob] hO hn lh_210 (h_row (tt := tt) hO.2.2.1 ob f (xs (x4 + 1).toNatClampNeg) SX SX2 r hX) rfl rfl (Nat.le_of_ble_eq_true rfl) (by decide) dL_law_1512 hl.1 hw (fun H locs hw => ?_)
  refine lv_istore (lv' := [(5, .int (hr01 r))] ++ lLo b aX aM ob x4) hx hb dL_law_1515 hl (by decide) rfl (fun ls hl => ?_)
  refine lv_aload_n hx hb dL_law_1517 rfl (lv_at hl 3 rfl) ?_
  refine lv_aload_n hx hb dL_law_1518 rfl (lv_at hl 1 rfl) ?_
  refine lv_iload hx hb dL_law_1519 (lv_at hl 5 rfl) ?_
  refine lv_iconst (v := 1) hx hb dL_law_1521 (by decide) ?_
  refine lv_iadd hx hb dL_law_1522 ?_
  refine va_sld hx hb hXs hbl hbA hw.2.2.2 (lin hx4 hi hL (show (1 : Int32) = nI 1 by decide) (by decide)) dL_law_1523 ?_
  refine lm_call (st := []) [.int (xs (x4 + 1).toNatClampNeg)] hO (by omega) lk_212 (c_X12_row (xs (x4 + 1).toNatClampNeg)) hM rfl rfl (Nat.le_of_ble_eq_true rfl) (by decide) dL_law_1524 hl.1 hw (fun H locs hw => ?_)
  refine W.eq (g2 := F0 m 1527 ls [.long (v)]) rfl ?_
  refine lv_lstore (lv' := [(6, .long (v)), (5, .int (hr01 r))] ++ lLo b aX aM ob x4) hx hb dL_law_1527 hl (by decide) rfl (fun ls hl => ?_)
  refine lv_aload_n hx hb dL_law_1529 rfl (lv_at hl 4 rfl) ?_
  refine lm_call (st := []) [] hO (by omega) lk_62 (c_X12_thrown) hT rfl rfl (Nat.le_of_ble_eq_true rfl) (by decide) dL_law_1530 hl.1 hw (fun H locs hw => ?_)
  refine W.eq (g2 := F0 m 1533 ls [.int (hr01 r)]) rfl ?_
  refine lv_iload hx hb dL_law_1533 (lv_at hl 1 rfl) ?_
  refine lv_icmp_eq (tgt := 1540) hx hb dL_law_1535 (by decide) (fun _ => ?_) (fun h => absurd rfl h)
  refine lv_iload hx hb dL_law_1540 (lv_at hl 1 rfl) ?_
  refine lv_if_ne (tgt := 1556) hx hb dL_law_1542 (by decide) (fun _ => ?_) (fun h0 => ?_)
  · refine lv_goto (tgt := 1559) hx hb dL_law_1556 (by decide) ?_
    exact next H locs ls (lv_sub hl [2, 3, 4, 5, 6] rfl) hw
  · refine lv_aload_n hx hb dL_law_1545 rfl (lv_at hl 5 rfl) ?_
    refine lv_iconst (v := 0) hx hb dL_law_1546 (by decide) ?_
    refine va_lald (f := hupL f r) hx hb hO.2.1 hw.2.2.1 0 3 rfl rfl (by unfold vp_in; decide) dL_law_1547 ?_
    refine lv_lload hx hb dL_law_1548 (lv_at hl 0 rfl) ?_
    refine W.lcmp hx hb dL_law_1550 ?_
    refine lv_if_eq (tgt := 1556) hx hb dL_law_1551 (by decide) (fun _ => ?_) (fun h => absurd (lcmpL hv h0) h)
    refine lv_goto (tgt := 1559) hx hb dL_law_1556 (by decide) ?_
    exact next H locs ls (lv_sub hl [2, 3, 4, 5, 6] rfl) hw
