theorem wM_14 : Cond.lays "BalloonsMoorModel" "BalloonsMoorModel" "thrown" "I" ∈ zTB := zch_6 _ (List.mem_of_getElem? (i := 107) (by decide +kernel)) rfl
theorem wM_15 : Cond.lays "BalloonsMoorModel" "BalloonsMoorModel" "rows" "I" ∈ zTB := zch_6 _ (List.mem_of_getElem? (i := 109) (by decide +kernel)) rfl
theorem wM_16 : Cond.laysFinal "BalloonsMoorModel" "BalloonsMoorModel" "row" "[J" ∈ zTB := zch_6 _ (List.mem_of_getElem? (i := 111) (by decide +kernel)) rfl
theorem wM_17 : Cond.lays "BalloonsMoorModel" "BalloonsMoorModel" "rings" "I" ∈ zTB := zch_6 _ (List.mem_of_getElem? (i := 113) (by decide +kernel)) rfl
theorem wM_18 : Cond.lays "BalloonsMoorModel" "BalloonsMoorModel" "balloons" "I" ∈ zTB := zch_6 _ (List.mem_of_getElem? (i := 115) (by decide +kernel)) rfl
theorem wM_19 : Cond.lays "BalloonsMoorModel" "BalloonsMoorModel" "changes" "I" ∈ zTB := zch_6 _ (List.mem_of_getElem? (i := 117) (by decide +kernel)) rfl
theorem wM_20 : Cond.lays "BalloonsMoorModel" "BalloonsMoorModel" "rain" "I" ∈ zTB := zch_6 _ (List.mem_of_getElem? (i := 119) (by decide +kernel)) rfl
theorem wM_21 : Cond.laysFinal "BalloonsMoorModel" "BalloonsMoorModel" "height" "[I" ∈ zTB := zch_6 _ (List.mem_of_getElem? (i := 121) (by decide +kernel)) rfl
theorem wM_22 : Cond.laysFinal "BalloonsMoorModel" "BalloonsMoorModel" "side" "[I" ∈ zTB := zch_6 _ (List.mem_of_getElem? (i := 123) (by decide +kernel)) rfl
theorem wM_23 : Cond.laysFinal "BalloonsMoorModel" "BalloonsMoorModel" "rope" "[I" ∈ zTB := zch_6 _ (List.mem_of_getElem? (i := 125) (by decide +kernel)) rfl
theorem wM_24 : Cond.laysFinal "BalloonsMoorModel" "BalloonsMoorModel" "leak" "[I" ∈ zTB := zch_6 _ (List.mem_of_getElem? (i := 127) (by decide +kernel)) rfl
theorem wM_25 : Cond.laysFinal "BalloonsMoorModel" "BalloonsMoorModel" "whither" "[I" ∈ zTB := zch_6 _ (List.mem_of_getElem? (i := 129) (by decide +kernel)) rfl
theorem wM_26 : Cond.laysFinal "BalloonsMoorModel" "BalloonsMoorModel" "strong" "[I" ∈ zTB := zch_6 _ (List.mem_of_getElem? (i := 131) (by decide +kernel)) rfl
theorem wM_27 : Cond.laysFinal "BalloonsMoorModel" "BalloonsMoorModel" "now" "[I" ∈ zTB := zch_6 _ (List.mem_of_getElem? (i := 133) (by decide +kernel)) rfl
theorem wM_28 : Cond.laysFinal "BalloonsMoorModel" "BalloonsMoorModel" "then" "[I" ∈ zTB := zch_6 _ (List.mem_of_getElem? (i := 135) (by decide +kernel)) rfl
theorem wM_29 : Cond.laysFinal "BalloonsMoorModel" "BalloonsMoorModel" "tape" "[I" ∈ zTB := zch_6 _ (List.mem_of_getElem? (i := 137) (by decide +kernel)) rfl
theorem wM_30 : Cond.lays "BalloonsMoorModel" "BalloonsMoorModel" "taped" "I" ∈ zTB := zch_6 _ (List.mem_of_getElem? (i := 139) (by decide +kernel)) rfl
theorem wM_31 : Cond.lays "BalloonsMoorModel" "BalloonsMoorModel" "at" "I" ∈ zTB := zch_6 _ (List.mem_of_getElem? (i := 141) (by decide +kernel)) rfl
theorem wM_32 : Cond.lays "BalloonsMoorModel" "BalloonsMoorModel" "to" "I" ∈ zTB := zch_6 _ (List.mem_of_getElem? (i := 143) (by decide +kernel)) rfl
theorem wM_33 : Cond.lays "BalloonsMoorModel" "BalloonsMoorModel" "nest" "I" ∈ zTB := zch_6 _ (List.mem_of_getElem? (i := 145) (by decide +kernel)) rfl
theorem wM_34 : Cond.laysFinal "BalloonsMoorModel" "BalloonsMoorModel" "read" "[I" ∈ zTB := zch_6 _ (List.mem_of_getElem? (i := 147) (by decide +kernel)) rfl
theorem wM_35 : Cond.lays "BalloonsMoorModel" "BalloonsMoorModel" "readMany" "I" ∈ zTB := zch_6 _ (List.mem_of_getElem? (i := 149) (by decide +kernel)) rfl
theorem wM_36 : Cond.laysFinal "BalloonsMoorModel" "BalloonsMoorModel" "code" "[I" ∈ zTB := zch_6 _ (List.mem_of_getElem? (i := 151) (by decide +kernel)) rfl
theorem wM_37 : Cond.laysFinal "BalloonsMoorModel" "BalloonsMoorModel" "readCode" "[I" ∈ zTB := zch_6 _ (List.mem_of_getElem? (i := 153) (by decide +kernel)) rfl
theorem wM_38 : Cond.lays "BalloonsMoorModel" "BalloonsMoorModel" "codeLong" "I" ∈ zTB := zch_6 _ (List.mem_of_getElem? (i := 155) (by decide +kernel)) rfl
theorem wM_39 : Cond.lays "BalloonsMoorModel" "BalloonsMoorModel" "readLong" "I" ∈ zTB := zch_6 _ (List.mem_of_getElem? (i := 157) (by decide +kernel)) rfl
theorem wM_40 : Cond.laysFinal "BalloonsMoorModel" "BalloonsMoorModel" "stack" "[I" ∈ zTB := zch_6 _ (List.mem_of_getElem? (i := 159) (by decide +kernel)) rfl
theorem wM_41 : Cond.laysFinal "BalloonsMoorModel" "BalloonsMoorModel" "asked" "[I" ∈ zTB := zch_6 _ (List.mem_of_getElem? (i := 161) (by decide +kernel)) rfl
theorem wM_42 : Cond.lays "BalloonsMoorModel" "BalloonsMoorModel" "undos" "I" ∈ zTB := zch_6 _ (List.mem_of_getElem? (i := 163) (by decide +kernel)) rfl
theorem wM_43 : Cond.laysFinal "BalloonsMoorModel" "BalloonsMoorModel" "undone" "[I" ∈ zTB := zch_6 _ (List.mem_of_getElem? (i := 165) (by decide +kernel)) rfl
theorem wM_44 : Cond.lays "BalloonsMoorModel" "BalloonsMoorModel" "cameBits" "I" ∈ zTB := zch_6 _ (List.mem_of_getElem? (i := 167) (by decide +kernel)) rfl
theorem wM_45 : Cond.lays "BalloonsMoorModel" "BalloonsMoorModel" "lostBits" "I" ∈ zTB := zch_6 _ (List.mem_of_getElem? (i := 169) (by decide +kernel)) rfl
theorem wM_46 : Cond.lays "BalloonsMoorModel" "BalloonsMoorModel" "cameMany" "I" ∈ zTB := zch_6 _ (List.mem_of_getElem? (i := 171) (by decide +kernel)) rfl
theorem wM_47 : Cond.lays "BalloonsMoorModel" "BalloonsMoorModel" "lostMany" "I" ∈ zTB := zch_6 _ (List.mem_of_getElem? (i := 173) (by decide +kernel)) rfl
theorem wM_48 : Cond.laysFinal "BalloonsMoorModel" "BalloonsMoorModel" "torn" "[I" ∈ zTB := zch_6 _ (List.mem_of_getElem? (i := 175) (by decide +kernel)) rfl
theorem wM_49 : Cond.laysFinal "BalloonsMoorModel" "BalloonsMoorModel" "actSign" "[I" ∈ zTB := zch_6 _ (List.mem_of_getElem? (i := 177) (by decide +kernel)) rfl
theorem wM_50 : Cond.laysFinal "BalloonsMoorModel" "BalloonsMoorModel" "actOne" "[I" ∈ zTB := zch_6 _ (List.mem_of_getElem? (i := 179) (by decide +kernel)) rfl
theorem wM_51 : Cond.laysFinal "BalloonsMoorModel" "BalloonsMoorModel" "actTwo" "[I" ∈ zTB := zch_6 _ (List.mem_of_getElem? (i := 181) (by decide +kernel)) rfl
theorem wM_52 : Cond.lays "BalloonsMoorModel" "BalloonsMoorModel" "acts" "I" ∈ zTB := zch_6 _ (List.mem_of_getElem? (i := 183) (by decide +kernel)) rfl
theorem wM_53 : Cond.laysFinal "BalloonsMoorModel" "BalloonsMoorModel" "berth" "[I" ∈ zTB := zch_6 _ (List.mem_of_getElem? (i := 185) (by decide +kernel)) rfl
theorem wM_54 : Cond.laysFinal "BalloonsMoorModel" "BalloonsMoorModel" "firstBerth" "[I" ∈ zTB := zch_6 _ (List.mem_of_getElem? (i := 187) (by decide +kernel)) rfl
theorem wM_55 : Cond.lays "BalloonsMoorModel" "BalloonsMoorModel" "berthMany" "I" ∈ zTB := zch_6 _ (List.mem_of_getElem? (i := 189) (by decide +kernel)) rfl
theorem wM_56 : Cond.laysFinal "BalloonsMoorModel" "BalloonsMoorModel" "stages" "[I" ∈ zTB := zch_6 _ (List.mem_of_getElem? (i := 191) (by decide +kernel)) rfl
theorem wM_57 : Cond.laysFinal "BalloonsMoorModel" "BalloonsMoorModel" "alone" "[I" ∈ zTB := zch_6 _ (List.mem_of_getElem? (i := 193) (by decide +kernel)) rfl
theorem wM_58 : Cond.laysFinal "BalloonsMoorModel" "BalloonsMoorModel" "dropped" "[I" ∈ zTB := zch_6 _ (List.mem_of_getElem? (i := 195) (by decide +kernel)) rfl
theorem wM_59 : Cond.lays "BalloonsMoorModel" "BalloonsMoorModel" "landSacks" "I" ∈ zTB := zch_6 _ (List.mem_of_getElem? (i := 197) (by decide +kernel)) rfl
theorem wM_60 : Cond.lays "BalloonsMoorModel" "BalloonsMoorModel" "landHours" "I" ∈ zTB := zch_6 _ (List.mem_of_getElem? (i := 199) (by decide +kernel)) rfl
theorem wM_61 : Cond.laysFinal "BalloonsMoorModel" "BalloonsMoorModel" "order" "[I" ∈ zTB := zch_6 _ (List.mem_of_getElem? (i := 201) (by decide +kernel)) rfl
theorem wM_62 : Cond.laysFinal "BalloonsMoorModel" "BalloonsMoorModel" "bestOrder" "[I" ∈ zTB := zch_6 _ (List.mem_of_getElem? (i := 203) (by decide +kernel)) rfl
theorem wM_63 : Cond.lays "BalloonsMoorModel" "BalloonsMoorModel" "bestMany" "I" ∈ zTB := zch_6 _ (List.mem_of_getElem? (i := 205) (by decide +kernel)) rfl
theorem wM_64 : Cond.lays "BalloonsMoorModel" "BalloonsMoorModel" "marks" "I" ∈ zTB := zch_6 _ (List.mem_of_getElem? (i := 207) (by decide +kernel)) rfl
theorem wM_65 : Cond.laysFinal "BalloonsMoorModel" "BalloonsMoorModel" "markRing" "[I" ∈ zTB := zch_6 _ (List.mem_of_getElem? (i := 209) (by decide +kernel)) rfl
theorem wM_66 : Cond.laysFinal "BalloonsMoorModel" "BalloonsMoorModel" "markWhat" "[I" ∈ zTB := zch_6 _ (List.mem_of_getElem? (i := 211) (by decide +kernel)) rfl
theorem wM_67 : Cond.laysFinal "BalloonsMoorModel" "BalloonsMoorModel" "markOf" "[I" ∈ zTB := zch_6 _ (List.mem_of_getElem? (i := 213) (by decide +kernel)) rfl
theorem wM_68 : Cond.lays "BalloonsMoorModel" "BalloonsMoorModel" "wayMany" "I" ∈ zTB := zch_6 _ (List.mem_of_getElem? (i := 215) (by decide +kernel)) rfl
theorem wM_69 : Cond.laysFinal "BalloonsMoorModel" "BalloonsMoorModel" "lain" "[I" ∈ zTB := zch_6 _ (List.mem_of_getElem? (i := 217) (by decide +kernel)) rfl
theorem wM_70 : Cond.laysFinal "BalloonsMoorModel" "BalloonsMoorModel" "firstLain" "[I" ∈ zTB := zch_6 _ (List.mem_of_getElem? (i := 219) (by decide +kernel)) rfl
theorem wM_71 : Cond.lays "BalloonsMoorModel" "BalloonsMoorModel" "sameBits" "I" ∈ zTB := zch_6 _ (List.mem_of_getElem? (i := 221) (by decide +kernel)) rfl
theorem wM_72 : Cond.lays "BalloonsMoorModel" "BalloonsMoorModel" "up" "J" ∈ zTB := zch_6 _ (List.mem_of_getElem? (i := 223) (by decide +kernel)) rfl
theorem wM_73 : Cond.lays "BalloonsMoorModel" "BalloonsMoorModel" "down" "J" ∈ zTB := zch_6 _ (List.mem_of_getElem? (i := 225) (by decide +kernel)) rfl
theorem wM_74 : Cond.laysFinal "BalloonsMoorModel" "BalloonsMoorModel" "isKept" "[Z" ∈ zTB := zch_6 _ (List.mem_of_getElem? (i := 227) (by decide +kernel)) rfl
theorem wM_75 : Cond.laysFinal "BalloonsMoorModel" "BalloonsMoorModel" "keptChanges" "[I" ∈ zTB := zch_6 _ (List.mem_of_getElem? (i := 229) (by decide +kernel)) rfl
theorem wM_76 : Cond.laysFinal "BalloonsMoorModel" "BalloonsMoorModel" "kept" "[I" ∈ zTB := zch_6 _ (List.mem_of_getElem? (i := 231) (by decide +kernel)) rfl
theorem inTB_12 : ∀ w ∈ u_ws RX12 TX12 63, w ∈ zTB := zcons wM_14 (zcons wM_15 (zcons wM_16 (zcons wM_17 (zcons wM_18 (zcons wM_19 (zcons wM_20 (zcons wM_21 (zcons wM_22 (zcons wM_23 (zcons wM_24 (zcons wM_25 (zcons wM_26 (zcons wM_27 (zcons wM_28 (zcons wM_29 (zcons wM_30 (zcons wM_31 (zcons wM_32 (zcons wM_33 (zcons wM_34 (zcons wM_35 (zcons wM_36 (zcons wM_37 (zcons wM_38 (zcons wM_39 (zcons wM_40 (zcons wM_41 (zcons wM_42 (zcons wM_43 (zcons wM_44 (zcons wM_45 (zcons wM_46 (zcons wM_47 (zcons wM_48 (zcons wM_49 (zcons wM_50 (zcons wM_51 (zcons wM_52 (zcons wM_53 (zcons wM_54 (zcons wM_55 (zcons wM_56 (zcons wM_57 (zcons wM_58 (zcons wM_59 (zcons wM_60 (zcons wM_61 (zcons wM_62 (zcons wM_63 (zcons wM_64 (zcons wM_65 (zcons wM_66 (zcons wM_67 (zcons wM_68 (zcons wM_69 (zcons wM_70 (zcons wM_71 (zcons wM_72 (zcons wM_73 (zcons wM_74 (zcons wM_75 (zcons wM_76 (znil)))))))))))))))))))))))))))))))))))))))))))))))))))))))))))))))
theorem wM_77 : Cond.fieldLink "BalloonsMoorModel" 117 "BalloonsMoorModel" "thrown" "I" ∈ zTB := zch_6 _ (List.mem_of_getElem? (i := 44) (by decide +kernel)) rfl
theorem fk_RX12_117 : zF RX12 117 12 0 .int false := ⟨RX12, TX12, 63, tyX12, rfl, inTB_12, by decide, wM_77, tyX12_ok, nmX12, by decide +kernel, rfl⟩
theorem wM_78 : Cond.fieldLink "BalloonsMoorModel" 9 "BalloonsMoorModel" "row" "[J" ∈ zTB := zch_6 _ (List.mem_of_getElem? (i := 46) (by decide +kernel)) rfl
theorem fk_RX12_9 : zF RX12 9 12 2 (.array .long) true := ⟨RX12, TX12, 63, tyX12, rfl, inTB_12, by decide, wM_78, tyX12_ok, nmX12, by decide +kernel, rfl⟩
theorem wM_79 : Cond.fieldLink "BalloonsMoorModel" 125 "BalloonsMoorModel" "rows" "I" ∈ zTB := zch_6 _ (List.mem_of_getElem? (i := 45) (by decide +kernel)) rfl
theorem fk_RX12_125 : zF RX12 125 12 1 .int false := ⟨RX12, TX12, 63, tyX12, rfl, inTB_12, by decide, wM_79, tyX12_ok, nmX12, by decide +kernel, rfl⟩
theorem wM_80 : Cond.fieldLink "BalloonsMoorModel" 128 "BalloonsMoorModel" "rings" "I" ∈ zTB := zch_6 _ (List.mem_of_getElem? (i := 47) (by decide +kernel)) rfl
theorem fk_RX12_128 : zF RX12 128 12 3 .int false := ⟨RX12, TX12, 63, tyX12, rfl, inTB_12, by decide, wM_80, tyX12_ok, nmX12, by decide +kernel, rfl⟩
theorem wM_81 : Cond.fieldLink "BalloonsMoorModel" 135 "BalloonsMoorModel" "balloons" "I" ∈ zTB := zch_6 _ (List.mem_of_getElem? (i := 48) (by decide +kernel)) rfl
theorem fk_RX12_135 : zF RX12 135 12 4 .int false := ⟨RX12, TX12, 63, tyX12, rfl, inTB_12, by decide, wM_81, tyX12_ok, nmX12, by decide +kernel, rfl⟩
theorem wM_82 : Cond.fieldLink "BalloonsMoorModel" 32 "BalloonsMoorModel" "now" "[I" ∈ zTB := zch_6 _ (List.mem_of_getElem? (i := 57) (by decide +kernel)) rfl
theorem fk_RX12_32 : zF RX12 32 12 13 (.array .int) true := ⟨RX12, TX12, 63, tyX12, rfl, inTB_12, by decide, wM_82, tyX12_ok, nmX12, by decide +kernel, rfl⟩
theorem wM_83 : Cond.fieldLink "BalloonsMoorModel" 138 "BalloonsMoorModel" "taped" "I" ∈ zTB := zch_6 _ (List.mem_of_getElem? (i := 60) (by decide +kernel)) rfl
theorem fk_RX12_138 : zF RX12 138 12 16 .int false := ⟨RX12, TX12, 63, tyX12, rfl, inTB_12, by decide, wM_83, tyX12_ok, nmX12, by decide +kernel, rfl⟩
theorem wM_84 : Cond.fieldLink "BalloonsMoorModel" 38 "BalloonsMoorModel" "tape" "[I" ∈ zTB := zch_6 _ (List.mem_of_getElem? (i := 59) (by decide +kernel)) rfl
theorem fk_RX12_38 : zF RX12 38 12 15 (.array .int) true := ⟨RX12, TX12, 63, tyX12, rfl, inTB_12, by decide, wM_84, tyX12_ok, nmX12, by decide +kernel, rfl⟩
theorem wM_85 : Cond.fieldLink "BalloonsMoorModel" 141 "BalloonsMoorModel" "at" "I" ∈ zTB := zch_6 _ (List.mem_of_getElem? (i := 61) (by decide +kernel)) rfl
theorem fk_RX12_141 : zF RX12 141 12 17 .int false := ⟨RX12, TX12, 63, tyX12, rfl, inTB_12, by decide, wM_85, tyX12_ok, nmX12, by decide +kernel, rfl⟩
theorem wM_86 : Cond.fieldLink "BalloonsMoorModel" 144 "BalloonsMoorModel" "nest" "I" ∈ zTB := zch_6 _ (List.mem_of_getElem? (i := 63) (by decide +kernel)) rfl
theorem fk_RX12_144 : zF RX12 144 12 19 .int false := ⟨RX12, TX12, 63, tyX12, rfl, inTB_12, by decide, wM_86, tyX12_ok, nmX12, by decide +kernel, rfl⟩
theorem wM_87 : Cond.fieldLink "BalloonsMoorModel" 153 "BalloonsMoorModel" "to" "I" ∈ zTB := zch_6 _ (List.mem_of_getElem? (i := 62) (by decide +kernel)) rfl
theorem fk_RX12_153 : zF RX12 153 12 18 .int false := ⟨RX12, TX12, 63, tyX12, rfl, inTB_12, by decide, wM_87, tyX12_ok, nmX12, by decide +kernel, rfl⟩
theorem wM_88 : Cond.fieldLink "BalloonsMoorModel" 182 "BalloonsMoorModel" "readMany" "I" ∈ zTB := zch_6 _ (List.mem_of_getElem? (i := 65) (by decide +kernel)) rfl
theorem fk_RX12_182 : zF RX12 182 12 21 .int false := ⟨RX12, TX12, 63, tyX12, rfl, inTB_12, by decide, wM_88, tyX12_ok, nmX12, by decide +kernel, rfl⟩
theorem wM_89 : Cond.fieldLink "BalloonsMoorModel" 41 "BalloonsMoorModel" "read" "[I" ∈ zTB := zch_6 _ (List.mem_of_getElem? (i := 64) (by decide +kernel)) rfl
theorem fk_RX12_41 : zF RX12 41 12 20 (.array .int) true := ⟨RX12, TX12, 63, tyX12, rfl, inTB_12, by decide, wM_89, tyX12_ok, nmX12, by decide +kernel, rfl⟩
theorem wM_90 : Cond.fieldLink "BalloonsMoorModel" 13 "BalloonsMoorModel" "height" "[I" ∈ zTB := zch_6 _ (List.mem_of_getElem? (i := 51) (by decide +kernel)) rfl
theorem fk_RX12_13 : zF RX12 13 12 7 (.array .int) true := ⟨RX12, TX12, 63, tyX12, rfl, inTB_12, by decide, wM_90, tyX12_ok, nmX12, by decide +kernel, rfl⟩
theorem wM_91 : Cond.fieldLink "BalloonsMoorModel" 17 "BalloonsMoorModel" "side" "[I" ∈ zTB := zch_6 _ (List.mem_of_getElem? (i := 52) (by decide +kernel)) rfl
theorem fk_RX12_17 : zF RX12 17 12 8 (.array .int) true := ⟨RX12, TX12, 63, tyX12, rfl, inTB_12, by decide, wM_91, tyX12_ok, nmX12, by decide +kernel, rfl⟩
theorem wM_92 : Cond.fieldLink "BalloonsMoorModel" 208 "BalloonsMoorModel" "marks" "I" ∈ zTB := zch_6 _ (List.mem_of_getElem? (i := 94) (by decide +kernel)) rfl
theorem fk_RX12_208 : zF RX12 208 12 50 .int false := ⟨RX12, TX12, 63, tyX12, rfl, inTB_12, by decide, wM_92, tyX12_ok, nmX12, by decide +kernel, rfl⟩
theorem wM_93 : Cond.fieldLink "BalloonsMoorModel" 211 "BalloonsMoorModel" "undos" "I" ∈ zTB := zch_6 _ (List.mem_of_getElem? (i := 72) (by decide +kernel)) rfl
theorem fk_RX12_211 : zF RX12 211 12 28 .int false := ⟨RX12, TX12, 63, tyX12, rfl, inTB_12, by decide, wM_93, tyX12_ok, nmX12, by decide +kernel, rfl⟩
theorem wM_94 : Cond.fieldLink "BalloonsMoorModel" 214 "BalloonsMoorModel" "changes" "I" ∈ zTB := zch_6 _ (List.mem_of_getElem? (i := 49) (by decide +kernel)) rfl
theorem fk_RX12_214 : zF RX12 214 12 5 .int false := ⟨RX12, TX12, 63, tyX12, rfl, inTB_12, by decide, wM_94, tyX12_ok, nmX12, by decide +kernel, rfl⟩
theorem wM_95 : Cond.fieldLink "BalloonsMoorModel" 20 "BalloonsMoorModel" "rope" "[I" ∈ zTB := zch_6 _ (List.mem_of_getElem? (i := 53) (by decide +kernel)) rfl
theorem fk_RX12_20 : zF RX12 20 12 9 (.array .int) true := ⟨RX12, TX12, 63, tyX12, rfl, inTB_12, by decide, wM_95, tyX12_ok, nmX12, by decide +kernel, rfl⟩
theorem wM_96 : Cond.fieldLink "BalloonsMoorModel" 23 "BalloonsMoorModel" "leak" "[I" ∈ zTB := zch_6 _ (List.mem_of_getElem? (i := 54) (by decide +kernel)) rfl
theorem fk_RX12_23 : zF RX12 23 12 10 (.array .int) true := ⟨RX12, TX12, 63, tyX12, rfl, inTB_12, by decide, wM_96, tyX12_ok, nmX12, by decide +kernel, rfl⟩
theorem wM_97 : Cond.fieldLink "BalloonsMoorModel" 26 "BalloonsMoorModel" "whither" "[I" ∈ zTB := zch_6 _ (List.mem_of_getElem? (i := 55) (by decide +kernel)) rfl
theorem fk_RX12_26 : zF RX12 26 12 11 (.array .int) true := ⟨RX12, TX12, 63, tyX12, rfl, inTB_12, by decide, wM_97, tyX12_ok, nmX12, by decide +kernel, rfl⟩
theorem wM_98 : Cond.fieldLink "BalloonsMoorModel" 29 "BalloonsMoorModel" "strong" "[I" ∈ zTB := zch_6 _ (List.mem_of_getElem? (i := 56) (by decide +kernel)) rfl
theorem fk_RX12_29 : zF RX12 29 12 12 (.array .int) true := ⟨RX12, TX12, 63, tyX12, rfl, inTB_12, by decide, wM_98, tyX12_ok, nmX12, by decide +kernel, rfl⟩
theorem wM_99 : Cond.fieldLink "BalloonsMoorModel" 47 "BalloonsMoorModel" "readCode" "[I" ∈ zTB := zch_6 _ (List.mem_of_getElem? (i := 67) (by decide +kernel)) rfl
theorem fk_RX12_47 : zF RX12 47 12 23 (.array .int) true := ⟨RX12, TX12, 63, tyX12, rfl, inTB_12, by decide, wM_99, tyX12_ok, nmX12, by decide +kernel, rfl⟩
theorem wM_100 : Cond.fieldLink "BalloonsMoorModel" 227 "BalloonsMoorModel" "readLong" "I" ∈ zTB := zch_6 _ (List.mem_of_getElem? (i := 69) (by decide +kernel)) rfl
theorem fk_RX12_227 : zF RX12 227 12 25 .int false := ⟨RX12, TX12, 63, tyX12, rfl, inTB_12, by decide, wM_100, tyX12_ok, nmX12, by decide +kernel, rfl⟩
theorem wM_101 : Cond.fieldLink "BalloonsMoorModel" 248 "BalloonsMoorModel" "codeLong" "I" ∈ zTB := zch_6 _ (List.mem_of_getElem? (i := 68) (by decide +kernel)) rfl
theorem fk_RX12_248 : zF RX12 248 12 24 .int false := ⟨RX12, TX12, 63, tyX12, rfl, inTB_12, by decide, wM_101, tyX12_ok, nmX12, by decide +kernel, rfl⟩
theorem wM_102 : Cond.fieldLink "BalloonsMoorModel" 44 "BalloonsMoorModel" "code" "[I" ∈ zTB := zch_6 _ (List.mem_of_getElem? (i := 66) (by decide +kernel)) rfl
theorem fk_RX12_44 : zF RX12 44 12 22 (.array .int) true := ⟨RX12, TX12, 63, tyX12, rfl, inTB_12, by decide, wM_102, tyX12_ok, nmX12, by decide +kernel, rfl⟩
theorem wM_103 : Cond.fieldLink "BalloonsMoorModel" 50 "BalloonsMoorModel" "stack" "[I" ∈ zTB := zch_6 _ (List.mem_of_getElem? (i := 70) (by decide +kernel)) rfl
theorem fk_RX12_50 : zF RX12 50 12 26 (.array .int) true := ⟨RX12, TX12, 63, tyX12, rfl, inTB_12, by decide, wM_103, tyX12_ok, nmX12, by decide +kernel, rfl⟩
theorem wM_104 : Cond.fieldLink "BalloonsMoorModel" 53 "BalloonsMoorModel" "asked" "[I" ∈ zTB := zch_6 _ (List.mem_of_getElem? (i := 71) (by decide +kernel)) rfl
theorem fk_RX12_53 : zF RX12 53 12 27 (.array .int) true := ⟨RX12, TX12, 63, tyX12, rfl, inTB_12, by decide, wM_104, tyX12_ok, nmX12, by decide +kernel, rfl⟩
theorem wM_105 : Cond.fieldLink "BalloonsMoorModel" 255 "BalloonsMoorModel" "rain" "I" ∈ zTB := zch_6 _ (List.mem_of_getElem? (i := 50) (by decide +kernel)) rfl
theorem fk_RX12_255 : zF RX12 255 12 6 .int false := ⟨RX12, TX12, 63, tyX12, rfl, inTB_12, by decide, wM_105, tyX12_ok, nmX12, by decide +kernel, rfl⟩
theorem wM_106 : Cond.fieldLink "BalloonsMoorModel" 56 "BalloonsMoorModel" "undone" "[I" ∈ zTB := zch_6 _ (List.mem_of_getElem? (i := 73) (by decide +kernel)) rfl
theorem fk_RX12_56 : zF RX12 56 12 29 (.array .int) true := ⟨RX12, TX12, 63, tyX12, rfl, inTB_12, by decide, wM_106, tyX12_ok, nmX12, by decide +kernel, rfl⟩
theorem wM_107 : Cond.fieldLink "BalloonsMoorModel" 320 "BalloonsMoorModel" "cameBits" "I" ∈ zTB := zch_6 _ (List.mem_of_getElem? (i := 74) (by decide +kernel)) rfl
theorem fk_RX12_320 : zF RX12 320 12 30 .int false := ⟨RX12, TX12, 63, tyX12, rfl, inTB_12, by decide, wM_107, tyX12_ok, nmX12, by decide +kernel, rfl⟩
theorem wM_108 : Cond.fieldLink "BalloonsMoorModel" 323 "BalloonsMoorModel" "lostBits" "I" ∈ zTB := zch_6 _ (List.mem_of_getElem? (i := 75) (by decide +kernel)) rfl
theorem fk_RX12_323 : zF RX12 323 12 31 .int false := ⟨RX12, TX12, 63, tyX12, rfl, inTB_12, by decide, wM_108, tyX12_ok, nmX12, by decide +kernel, rfl⟩
theorem wM_109 : Cond.fieldLink "BalloonsMoorModel" 326 "BalloonsMoorModel" "cameMany" "I" ∈ zTB := zch_6 _ (List.mem_of_getElem? (i := 76) (by decide +kernel)) rfl
theorem fk_RX12_326 : zF RX12 326 12 32 .int false := ⟨RX12, TX12, 63, tyX12, rfl, inTB_12, by decide, wM_109, tyX12_ok, nmX12, by decide +kernel, rfl⟩
theorem wM_110 : Cond.fieldLink "BalloonsMoorModel" 329 "BalloonsMoorModel" "lostMany" "I" ∈ zTB := zch_6 _ (List.mem_of_getElem? (i := 77) (by decide +kernel)) rfl
theorem fk_RX12_329 : zF RX12 329 12 33 .int false := ⟨RX12, TX12, 63, tyX12, rfl, inTB_12, by decide, wM_110, tyX12_ok, nmX12, by decide +kernel, rfl⟩
theorem wM_111 : Cond.fieldLink "BalloonsMoorModel" 59 "BalloonsMoorModel" "torn" "[I" ∈ zTB := zch_6 _ (List.mem_of_getElem? (i := 78) (by decide +kernel)) rfl
theorem fk_RX12_59 : zF RX12 59 12 34 (.array .int) true := ⟨RX12, TX12, 63, tyX12, rfl, inTB_12, by decide, wM_111, tyX12_ok, nmX12, by decide +kernel, rfl⟩
theorem wM_112 : Cond.fieldLink "BalloonsMoorModel" 388 "BalloonsMoorModel" "acts" "I" ∈ zTB := zch_6 _ (List.mem_of_getElem? (i := 82) (by decide +kernel)) rfl
theorem fk_RX12_388 : zF RX12 388 12 38 .int false := ⟨RX12, TX12, 63, tyX12, rfl, inTB_12, by decide, wM_112, tyX12_ok, nmX12, by decide +kernel, rfl⟩
theorem wM_113 : Cond.fieldLink "BalloonsMoorModel" 62 "BalloonsMoorModel" "actSign" "[I" ∈ zTB := zch_6 _ (List.mem_of_getElem? (i := 79) (by decide +kernel)) rfl
theorem fk_RX12_62 : zF RX12 62 12 35 (.array .int) true := ⟨RX12, TX12, 63, tyX12, rfl, inTB_12, by decide, wM_113, tyX12_ok, nmX12, by decide +kernel, rfl⟩
theorem wM_114 : Cond.fieldLink "BalloonsMoorModel" 65 "BalloonsMoorModel" "actOne" "[I" ∈ zTB := zch_6 _ (List.mem_of_getElem? (i := 80) (by decide +kernel)) rfl
theorem fk_RX12_65 : zF RX12 65 12 36 (.array .int) true := ⟨RX12, TX12, 63, tyX12, rfl, inTB_12, by decide, wM_114, tyX12_ok, nmX12, by decide +kernel, rfl⟩
theorem wM_115 : Cond.fieldLink "BalloonsMoorModel" 68 "BalloonsMoorModel" "actTwo" "[I" ∈ zTB := zch_6 _ (List.mem_of_getElem? (i := 81) (by decide +kernel)) rfl
theorem fk_RX12_68 : zF RX12 68 12 37 (.array .int) true := ⟨RX12, TX12, 63, tyX12, rfl, inTB_12, by decide, wM_115, tyX12_ok, nmX12, by decide +kernel, rfl⟩
theorem wM_116 : Cond.fieldLink "BalloonsMoorModel" 35 "BalloonsMoorModel" "then" "[I" ∈ zTB := zch_6 _ (List.mem_of_getElem? (i := 58) (by decide +kernel)) rfl
theorem fk_RX12_35 : zF RX12 35 12 14 (.array .int) true := ⟨RX12, TX12, 63, tyX12, rfl, inTB_12, by decide, wM_116, tyX12_ok, nmX12, by decide +kernel, rfl⟩
theorem wM_117 : Cond.fieldLink "BalloonsMoorModel" 71 "BalloonsMoorModel" "berth" "[I" ∈ zTB := zch_6 _ (List.mem_of_getElem? (i := 83) (by decide +kernel)) rfl
theorem fk_RX12_71 : zF RX12 71 12 39 (.array .int) true := ⟨RX12, TX12, 63, tyX12, rfl, inTB_12, by decide, wM_117, tyX12_ok, nmX12, by decide +kernel, rfl⟩
theorem wM_118 : Cond.fieldLink "BalloonsMoorModel" 412 "BalloonsMoorModel" "berthMany" "I" ∈ zTB := zch_6 _ (List.mem_of_getElem? (i := 85) (by decide +kernel)) rfl
theorem fk_RX12_412 : zF RX12 412 12 41 .int false := ⟨RX12, TX12, 63, tyX12, rfl, inTB_12, by decide, wM_118, tyX12_ok, nmX12, by decide +kernel, rfl⟩
theorem wM_119 : Cond.fieldLink "BalloonsMoorModel" 74 "BalloonsMoorModel" "firstBerth" "[I" ∈ zTB := zch_6 _ (List.mem_of_getElem? (i := 84) (by decide +kernel)) rfl
theorem fk_RX12_74 : zF RX12 74 12 40 (.array .int) true := ⟨RX12, TX12, 63, tyX12, rfl, inTB_12, by decide, wM_119, tyX12_ok, nmX12, by decide +kernel, rfl⟩
theorem wM_120 : Cond.fieldLink "BalloonsMoorModel" 77 "BalloonsMoorModel" "stages" "[I" ∈ zTB := zch_6 _ (List.mem_of_getElem? (i := 86) (by decide +kernel)) rfl
theorem fk_RX12_77 : zF RX12 77 12 42 (.array .int) true := ⟨RX12, TX12, 63, tyX12, rfl, inTB_12, by decide, wM_120, tyX12_ok, nmX12, by decide +kernel, rfl⟩
theorem wM_121 : Cond.fieldLink "BalloonsMoorModel" 80 "BalloonsMoorModel" "alone" "[I" ∈ zTB := zch_6 _ (List.mem_of_getElem? (i := 87) (by decide +kernel)) rfl
theorem fk_RX12_80 : zF RX12 80 12 43 (.array .int) true := ⟨RX12, TX12, 63, tyX12, rfl, inTB_12, by decide, wM_121, tyX12_ok, nmX12, by decide +kernel, rfl⟩
theorem wM_122 : Cond.fieldLink "BalloonsMoorModel" 83 "BalloonsMoorModel" "dropped" "[I" ∈ zTB := zch_6 _ (List.mem_of_getElem? (i := 88) (by decide +kernel)) rfl
theorem fk_RX12_83 : zF RX12 83 12 44 (.array .int) true := ⟨RX12, TX12, 63, tyX12, rfl, inTB_12, by decide, wM_122, tyX12_ok, nmX12, by decide +kernel, rfl⟩
theorem wM_123 : Cond.fieldLink "BalloonsMoorModel" 444 "BalloonsMoorModel" "landSacks" "I" ∈ zTB := zch_6 _ (List.mem_of_getElem? (i := 89) (by decide +kernel)) rfl
theorem fk_RX12_444 : zF RX12 444 12 45 .int false := ⟨RX12, TX12, 63, tyX12, rfl, inTB_12, by decide, wM_123, tyX12_ok, nmX12, by decide +kernel, rfl⟩
theorem wM_124 : Cond.fieldLink "BalloonsMoorModel" 447 "BalloonsMoorModel" "landHours" "I" ∈ zTB := zch_6 _ (List.mem_of_getElem? (i := 90) (by decide +kernel)) rfl
theorem fk_RX12_447 : zF RX12 447 12 46 .int false := ⟨RX12, TX12, 63, tyX12, rfl, inTB_12, by decide, wM_124, tyX12_ok, nmX12, by decide +kernel, rfl⟩
theorem wM_125 : Cond.fieldLink "BalloonsMoorModel" 459 "BalloonsMoorModel" "bestMany" "I" ∈ zTB := zch_6 _ (List.mem_of_getElem? (i := 93) (by decide +kernel)) rfl
theorem fk_RX12_459 : zF RX12 459 12 49 .int false := ⟨RX12, TX12, 63, tyX12, rfl, inTB_12, by decide, wM_125, tyX12_ok, nmX12, by decide +kernel, rfl⟩
theorem wM_126 : Cond.fieldLink "BalloonsMoorModel" 86 "BalloonsMoorModel" "order" "[I" ∈ zTB := zch_6 _ (List.mem_of_getElem? (i := 91) (by decide +kernel)) rfl
theorem fk_RX12_86 : zF RX12 86 12 47 (.array .int) true := ⟨RX12, TX12, 63, tyX12, rfl, inTB_12, by decide, wM_126, tyX12_ok, nmX12, by decide +kernel, rfl⟩
theorem wM_127 : Cond.fieldLink "BalloonsMoorModel" 89 "BalloonsMoorModel" "bestOrder" "[I" ∈ zTB := zch_6 _ (List.mem_of_getElem? (i := 92) (by decide +kernel)) rfl
theorem fk_RX12_89 : zF RX12 89 12 48 (.array .int) true := ⟨RX12, TX12, 63, tyX12, rfl, inTB_12, by decide, wM_127, tyX12_ok, nmX12, by decide +kernel, rfl⟩
theorem wM_128 : Cond.fieldLink "BalloonsMoorModel" 92 "BalloonsMoorModel" "markRing" "[I" ∈ zTB := zch_6 _ (List.mem_of_getElem? (i := 95) (by decide +kernel)) rfl
theorem fk_RX12_92 : zF RX12 92 12 51 (.array .int) true := ⟨RX12, TX12, 63, tyX12, rfl, inTB_12, by decide, wM_128, tyX12_ok, nmX12, by decide +kernel, rfl⟩
theorem wM_129 : Cond.fieldLink "BalloonsMoorModel" 95 "BalloonsMoorModel" "markWhat" "[I" ∈ zTB := zch_6 _ (List.mem_of_getElem? (i := 96) (by decide +kernel)) rfl
theorem fk_RX12_95 : zF RX12 95 12 52 (.array .int) true := ⟨RX12, TX12, 63, tyX12, rfl, inTB_12, by decide, wM_129, tyX12_ok, nmX12, by decide +kernel, rfl⟩
theorem wM_130 : Cond.fieldLink "BalloonsMoorModel" 98 "BalloonsMoorModel" "markOf" "[I" ∈ zTB := zch_6 _ (List.mem_of_getElem? (i := 97) (by decide +kernel)) rfl
theorem fk_RX12_98 : zF RX12 98 12 53 (.array .int) true := ⟨RX12, TX12, 63, tyX12, rfl, inTB_12, by decide, wM_130, tyX12_ok, nmX12, by decide +kernel, rfl⟩
theorem wM_131 : Cond.fieldLink "BalloonsMoorModel" 101 "BalloonsMoorModel" "lain" "[I" ∈ zTB := zch_6 _ (List.mem_of_getElem? (i := 99) (by decide +kernel)) rfl
theorem fk_RX12_101 : zF RX12 101 12 55 (.array .int) true := ⟨RX12, TX12, 63, tyX12, rfl, inTB_12, by decide, wM_131, tyX12_ok, nmX12, by decide +kernel, rfl⟩
theorem wM_132 : Cond.fieldLink "BalloonsMoorModel" 104 "BalloonsMoorModel" "firstLain" "[I" ∈ zTB := zch_6 _ (List.mem_of_getElem? (i := 100) (by decide +kernel)) rfl
theorem fk_RX12_104 : zF RX12 104 12 56 (.array .int) true := ⟨RX12, TX12, 63, tyX12, rfl, inTB_12, by decide, wM_132, tyX12_ok, nmX12, by decide +kernel, rfl⟩
theorem wM_133 : Cond.fieldLink "BalloonsMoorModel" 476 "BalloonsMoorModel" "wayMany" "I" ∈ zTB := zch_6 _ (List.mem_of_getElem? (i := 98) (by decide +kernel)) rfl
theorem fk_RX12_476 : zF RX12 476 12 54 .int false := ⟨RX12, TX12, 63, tyX12, rfl, inTB_12, by decide, wM_133, tyX12_ok, nmX12, by decide +kernel, rfl⟩
theorem wM_134 : Cond.fieldLink "BalloonsMoorModel" 479 "BalloonsMoorModel" "sameBits" "I" ∈ zTB := zch_6 _ (List.mem_of_getElem? (i := 101) (by decide +kernel)) rfl
theorem fk_RX12_479 : zF RX12 479 12 57 .int false := ⟨RX12, TX12, 63, tyX12, rfl, inTB_12, by decide, wM_134, tyX12_ok, nmX12, by decide +kernel, rfl⟩
theorem wM_135 : Cond.fieldLink "BalloonsMoorModel" 495 "BalloonsMoorModel" "up" "J" ∈ zTB := zch_6 _ (List.mem_of_getElem? (i := 102) (by decide +kernel)) rfl
theorem fk_RX12_495 : zF RX12 495 12 58 .long false := ⟨RX12, TX12, 63, tyX12, rfl, inTB_12, by decide, wM_135, tyX12_ok, nmX12, by decide +kernel, rfl⟩
theorem wM_136 : Cond.fieldLink "BalloonsMoorModel" 499 "BalloonsMoorModel" "down" "J" ∈ zTB := zch_6 _ (List.mem_of_getElem? (i := 103) (by decide +kernel)) rfl
theorem fk_RX12_499 : zF RX12 499 12 59 .long false := ⟨RX12, TX12, 63, tyX12, rfl, inTB_12, by decide, wM_136, tyX12_ok, nmX12, by decide +kernel, rfl⟩
theorem wM_137 : Cond.fieldLink "BalloonsMoorModel" 107 "BalloonsMoorModel" "isKept" "[Z" ∈ zTB := zch_6 _ (List.mem_of_getElem? (i := 104) (by decide +kernel)) rfl
theorem fk_RX12_107 : zF RX12 107 12 60 (.array .boolean) true := ⟨RX12, TX12, 63, tyX12, rfl, inTB_12, by decide, wM_137, tyX12_ok, nmX12, by decide +kernel, rfl⟩
theorem wM_138 : Cond.fieldLink "BalloonsMoorModel" 111 "BalloonsMoorModel" "keptChanges" "[I" ∈ zTB := zch_6 _ (List.mem_of_getElem? (i := 105) (by decide +kernel)) rfl
theorem fk_RX12_111 : zF RX12 111 12 61 (.array .int) true := ⟨RX12, TX12, 63, tyX12, rfl, inTB_12, by decide, wM_138, tyX12_ok, nmX12, by decide +kernel, rfl⟩
theorem wM_139 : Cond.fieldLink "BalloonsMoorModel" 114 "BalloonsMoorModel" "kept" "[I" ∈ zTB := zch_6 _ (List.mem_of_getElem? (i := 106) (by decide +kernel)) rfl
theorem fk_RX12_114 : zF RX12 114 12 62 (.array .int) true := ⟨RX12, TX12, 63, tyX12, rfl, inTB_12, by decide, wM_139, tyX12_ok, nmX12, by decide +kernel, rfl⟩
theorem wM_140 : Cond.code yX12_common prog_14_method_7_code 4 (some .long) ∈ zTB := zch_9 _ (List.mem_of_getElem? (i := 22) (by decide +kernel)) rfl
theorem wM_141 : Cond.methodLink "BalloonsMoorModel" 121 yX12_common ∈ zTB := zch_9 _ (List.mem_of_getElem? (i := 20) (by decide +kernel)) rfl
theorem wM_142 : Cond.static yX12_common ∈ zTB := zch_9 _ (List.mem_of_getElem? (i := 21) (by decide +kernel)) rfl
theorem wM_143 : Cond.initialized "BalloonsMoorModel" ∈ zTB := zch_1 _ (List.mem_of_getElem? (i := 14) (by decide +kernel)) rfl
theorem kk_RX12_121 : zKS RX12 121 yX12_common cX12_common 4 (some .long) 2 := ⟨wM_141, wM_142, wM_143, wM_140, by decide +kernel, by decide⟩
theorem wM_144 : Cond.code yX12_in prog_14_method_4_code 6 (some .boolean) ∈ zTB := zch_7 _ (List.mem_of_getElem? (i := 8) (by decide +kernel)) rfl
theorem wM_145 : Cond.methodLink "BalloonsMoorModel" 131 yX12_in ∈ zTB := zch_7 _ (List.mem_of_getElem? (i := 6) (by decide +kernel)) rfl
theorem wM_146 : Cond.static yX12_in ∈ zTB := zch_7 _ (List.mem_of_getElem? (i := 7) (by decide +kernel)) rfl
theorem kk_RX12_131 : zKS RX12 131 yX12_in cX12_in 6 (some .boolean) 3 := ⟨wM_145, wM_146, wM_143, wM_144, by decide +kernel, by decide⟩
theorem wM_code_Math_min : Cond.code Lib.Math.min.name Lib.Math.min.code 2 (some .int) ∈ zTB := zch_2 _ (List.mem_of_getElem? (i := 230) (by decide +kernel)) rfl
theorem wM_147 : Cond.methodLink "BalloonsMoorModel" 147 yJ9_min_7cf53 ∈ zTB := zch_7 _ (List.mem_of_getElem? (i := 17) (by decide +kernel)) rfl
theorem wM_148 : Cond.static yJ9_min_7cf53 ∈ zTB := zch_2 _ (List.mem_of_getElem? (i := 229) (by decide +kernel)) rfl
theorem wM_149 : Cond.initialized "java/lang/Math" ∈ zTB := zch_1 _ (List.mem_of_getElem? (i := 15) (by decide +kernel)) rfl
theorem kk_RX12_147 : zKS RX12 147 Lib.Math.min.name Lib.Math.min.code 2 (some .int) 2 := ⟨wM_147, wM_148, wM_149, wM_code_Math_min, by decide +kernel, by decide⟩
theorem wM_150 : Cond.code yX12_flag prog_14_method_6_code 1 (some .int) ∈ zTB := zch_7 _ (List.mem_of_getElem? (i := 91) (by decide +kernel)) rfl
theorem wM_151 : Cond.methodLink "BalloonsMoorModel" 156 yX12_flag ∈ zTB := zch_7 _ (List.mem_of_getElem? (i := 89) (by decide +kernel)) rfl
theorem wM_152 : Cond.static yX12_flag ∈ zTB := zch_7 _ (List.mem_of_getElem? (i := 90) (by decide +kernel)) rfl
theorem kk_RX12_156 : zKS RX12 156 yX12_flag cX12_flag 1 (some .int) 1 := ⟨wM_151, wM_152, wM_143, wM_150, by decide +kernel, by decide⟩
theorem wM_153 : Cond.code yJ0_length_8abf5 prog_22_method_54_code 1 (some .int) ∈ zTB := zch_7 _ (List.mem_of_getElem? (i := 44) (by decide +kernel)) rfl
theorem wM_154 : Cond.methodLink "BalloonsMoorModel" 164 yJ0_length_8abf5 ∈ zTB := zch_7 _ (List.mem_of_getElem? (i := 41) (by decide +kernel)) rfl
theorem wM_155 : Cond.instanceMethod yJ0_length_8abf5 ∈ zTB := zch_7 _ (List.mem_of_getElem? (i := 42) (by decide +kernel)) rfl
theorem wM_156 : Cond.selects "java/lang/String" yJ0_length_8abf5 yJ0_length_8abf5 ∈ zTB := zch_7 _ (List.mem_of_getElem? (i := 43) (by decide +kernel)) rfl
theorem wM_157 : Cond.initialized "java/lang/String" ∈ zTB := zch_1 _ (List.mem_of_getElem? (i := 16) (by decide +kernel)) rfl
theorem kk_RX12_164 : zKV RX12 164 RJ0 yJ0_length_8abf5 cJ0_length_8abf5 1 (some .int) 0 := ⟨wM_154, wM_155, wM_156, wM_157, wM_153, by decide +kernel, by decide⟩
theorem wM_158 : Cond.code yJ0_charAt_5068e prog_22_method_56_code 2 (some .char) ∈ zTB := zch_7 _ (List.mem_of_getElem? (i := 54) (by decide +kernel)) rfl
theorem wM_159 : Cond.methodLink "BalloonsMoorModel" 170 yJ0_charAt_5068e ∈ zTB := zch_7 _ (List.mem_of_getElem? (i := 51) (by decide +kernel)) rfl
theorem wM_160 : Cond.instanceMethod yJ0_charAt_5068e ∈ zTB := zch_7 _ (List.mem_of_getElem? (i := 52) (by decide +kernel)) rfl
theorem wM_161 : Cond.selects "java/lang/String" yJ0_charAt_5068e yJ0_charAt_5068e ∈ zTB := zch_7 _ (List.mem_of_getElem? (i := 53) (by decide +kernel)) rfl
theorem kk_RX12_170 : zKV RX12 170 RJ0 yJ0_charAt_5068e cJ0_charAt_5068e 2 (some .char) 1 := ⟨wM_159, wM_160, wM_161, wM_157, wM_158, by decide +kernel, by decide⟩
theorem wM_162 : Cond.code yX12_among prog_14_method_17_code 3 (some .int) ∈ zTB := zch_7 _ (List.mem_of_getElem? (i := 40) (by decide +kernel)) rfl
theorem wM_163 : Cond.methodLink "BalloonsMoorModel" 174 yX12_among ∈ zTB := zch_7 _ (List.mem_of_getElem? (i := 37) (by decide +kernel)) rfl
theorem wM_164 : Cond.instanceMethod yX12_among ∈ zTB := zch_7 _ (List.mem_of_getElem? (i := 39) (by decide +kernel)) rfl
theorem w_sel_X12_among : Cond.selects RX12 yX12_among yX12_among ∈ zTB := zch_0 _ (List.mem_of_getElem? (i := 53) (by decide +kernel)) rfl
theorem kk_RX12_174 : zKV RX12 174 RX12 yX12_among cX12_among 3 (some .int) 1 := ⟨wM_163, wM_164, w_sel_X12_among, wM_143, wM_162, by decide +kernel, by decide⟩
theorem wM_165 : Cond.code yX12_isDigit prog_14_method_16_code 1 (some .boolean) ∈ zTB := zch_7 _ (List.mem_of_getElem? (i := 29) (by decide +kernel)) rfl
theorem wM_166 : Cond.methodLink "BalloonsMoorModel" 178 yX12_isDigit ∈ zTB := zch_7 _ (List.mem_of_getElem? (i := 26) (by decide +kernel)) rfl
theorem wM_167 : Cond.instanceMethod yX12_isDigit ∈ zTB := zch_7 _ (List.mem_of_getElem? (i := 28) (by decide +kernel)) rfl
theorem w_sel_X12_isDigit : Cond.selects RX12 yX12_isDigit yX12_isDigit ∈ zTB := zch_0 _ (List.mem_of_getElem? (i := 51) (by decide +kernel)) rfl
theorem kk_RX12_178 : zKV RX12 178 RX12 yX12_isDigit cX12_isDigit 1 (some .boolean) 0 := ⟨wM_166, wM_167, w_sel_X12_isDigit, wM_143, wM_165, by decide +kernel, by decide⟩
theorem wM_168 : Cond.code yX12_number prog_14_method_19_code 4 (some .int) ∈ zTB := zch_7 _ (List.mem_of_getElem? (i := 25) (by decide +kernel)) rfl
theorem wM_169 : Cond.methodLink "BalloonsMoorModel" 185 yX12_number ∈ zTB := zch_7 _ (List.mem_of_getElem? (i := 22) (by decide +kernel)) rfl
theorem wM_170 : Cond.instanceMethod yX12_number ∈ zTB := zch_7 _ (List.mem_of_getElem? (i := 24) (by decide +kernel)) rfl
theorem w_sel_X12_number : Cond.selects RX12 yX12_number yX12_number ∈ zTB := zch_0 _ (List.mem_of_getElem? (i := 50) (by decide +kernel)) rfl
theorem kk_RX12_185 : zKV RX12 185 RX12 yX12_number cX12_number 4 (some .int) 1 := ⟨wM_169, wM_170, w_sel_X12_number, wM_143, wM_168, by decide +kernel, by decide⟩
theorem wM_171 : Cond.code yX12_takesOf prog_14_method_18_code 3 (some .int) ∈ zTB := zch_7 _ (List.mem_of_getElem? (i := 36) (by decide +kernel)) rfl
theorem wM_172 : Cond.methodLink "BalloonsMoorModel" 191 yX12_takesOf ∈ zTB := zch_7 _ (List.mem_of_getElem? (i := 33) (by decide +kernel)) rfl
theorem wM_173 : Cond.instanceMethod yX12_takesOf ∈ zTB := zch_7 _ (List.mem_of_getElem? (i := 35) (by decide +kernel)) rfl
theorem w_sel_X12_takesOf : Cond.selects RX12 yX12_takesOf yX12_takesOf ∈ zTB := zch_0 _ (List.mem_of_getElem? (i := 52) (by decide +kernel)) rfl
theorem kk_RX12_191 : zKV RX12 191 RX12 yX12_takesOf cX12_takesOf 3 (some .int) 1 := ⟨wM_172, wM_173, w_sel_X12_takesOf, wM_143, wM_171, by decide +kernel, by decide⟩
theorem wM_174 : Cond.code yX12_begins prog_14_method_14_code 3 (some .int) ∈ zTB := zch_7 _ (List.mem_of_getElem? (i := 16) (by decide +kernel)) rfl
theorem wM_175 : Cond.methodLink "BalloonsMoorModel" 194 yX12_begins ∈ zTB := zch_7 _ (List.mem_of_getElem? (i := 13) (by decide +kernel)) rfl
theorem wM_176 : Cond.instanceMethod yX12_begins ∈ zTB := zch_7 _ (List.mem_of_getElem? (i := 15) (by decide +kernel)) rfl
theorem w_sel_X12_begins : Cond.selects RX12 yX12_begins yX12_begins ∈ zTB := zch_0 _ (List.mem_of_getElem? (i := 48) (by decide +kernel)) rfl
theorem kk_RX12_194 : zKV RX12 194 RX12 yX12_begins cX12_begins 3 (some .int) 1 := ⟨wM_175, wM_176, w_sel_X12_begins, wM_143, wM_174, by decide +kernel, by decide⟩
theorem wM_177 : Cond.code yX12_readsRing prog_14_method_21_code 2 (some .boolean) ∈ zTB := zch_7 _ (List.mem_of_getElem? (i := 21) (by decide +kernel)) rfl
theorem wM_178 : Cond.methodLink "BalloonsMoorModel" 197 yX12_readsRing ∈ zTB := zch_7 _ (List.mem_of_getElem? (i := 18) (by decide +kernel)) rfl
theorem wM_179 : Cond.instanceMethod yX12_readsRing ∈ zTB := zch_7 _ (List.mem_of_getElem? (i := 20) (by decide +kernel)) rfl
theorem w_sel_X12_readsRing : Cond.selects RX12 yX12_readsRing yX12_readsRing ∈ zTB := zch_0 _ (List.mem_of_getElem? (i := 49) (by decide +kernel)) rfl
theorem kk_RX12_197 : zKV RX12 197 RX12 yX12_readsRing cX12_readsRing 2 (some .boolean) 0 := ⟨wM_178, wM_179, w_sel_X12_readsRing, wM_143, wM_177, by decide +kernel, by decide⟩
theorem wM_180 : Cond.code yX12_takes prog_14_method_15_code 3 (some .boolean) ∈ zTB := zch_7 _ (List.mem_of_getElem? (i := 95) (by decide +kernel)) rfl
theorem wM_181 : Cond.methodLink "BalloonsMoorModel" 200 yX12_takes ∈ zTB := zch_7 _ (List.mem_of_getElem? (i := 92) (by decide +kernel)) rfl
theorem wM_182 : Cond.instanceMethod yX12_takes ∈ zTB := zch_7 _ (List.mem_of_getElem? (i := 94) (by decide +kernel)) rfl
theorem w_sel_X12_takes : Cond.selects RX12 yX12_takes yX12_takes ∈ zTB := zch_0 _ (List.mem_of_getElem? (i := 54) (by decide +kernel)) rfl
theorem kk_RX12_200 : zKV RX12 200 RX12 yX12_takes cX12_takes 3 (some .boolean) 1 := ⟨wM_181, wM_182, w_sel_X12_takes, wM_143, wM_180, by decide +kernel, by decide⟩
theorem wM_183 : Cond.code yX12_faultOf prog_14_method_20_code 5 (some .int) ∈ zTB := zch_7 _ (List.mem_of_getElem? (i := 99) (by decide +kernel)) rfl
theorem wM_184 : Cond.methodLink "BalloonsMoorModel" 204 yX12_faultOf ∈ zTB := zch_7 _ (List.mem_of_getElem? (i := 96) (by decide +kernel)) rfl
theorem wM_185 : Cond.instanceMethod yX12_faultOf ∈ zTB := zch_7 _ (List.mem_of_getElem? (i := 98) (by decide +kernel)) rfl
theorem w_sel_X12_faultOf : Cond.selects RX12 yX12_faultOf yX12_faultOf ∈ zTB := zch_0 _ (List.mem_of_getElem? (i := 55) (by decide +kernel)) rfl
theorem kk_RX12_204 : zKV RX12 204 RX12 yX12_faultOf cX12_faultOf 5 (some .int) 3 := ⟨wM_184, wM_185, w_sel_X12_faultOf, wM_143, wM_183, by decide +kernel, by decide⟩
theorem wM_186 : Cond.code yX12_readsBalloon prog_14_method_23_code 2 (some .boolean) ∈ zTB := zch_7 _ (List.mem_of_getElem? (i := 108) (by decide +kernel)) rfl
theorem wM_187 : Cond.methodLink "BalloonsMoorModel" 219 yX12_readsBalloon ∈ zTB := zch_7 _ (List.mem_of_getElem? (i := 105) (by decide +kernel)) rfl
theorem wM_188 : Cond.instanceMethod yX12_readsBalloon ∈ zTB := zch_7 _ (List.mem_of_getElem? (i := 107) (by decide +kernel)) rfl
theorem w_sel_X12_readsBalloon : Cond.selects RX12 yX12_readsBalloon yX12_readsBalloon ∈ zTB := zch_0 _ (List.mem_of_getElem? (i := 56) (by decide +kernel)) rfl
theorem kk_RX12_219 : zKV RX12 219 RX12 yX12_readsBalloon cX12_readsBalloon 2 (some .boolean) 0 := ⟨wM_187, wM_188, w_sel_X12_readsBalloon, wM_143, wM_186, by decide +kernel, by decide⟩
theorem wM_189 : Cond.code yX12_readsWind prog_14_method_25_code 2 (some .boolean) ∈ zTB := zch_7 _ (List.mem_of_getElem? (i := 117) (by decide +kernel)) rfl
theorem wM_190 : Cond.methodLink "BalloonsMoorModel" 224 yX12_readsWind ∈ zTB := zch_7 _ (List.mem_of_getElem? (i := 114) (by decide +kernel)) rfl
theorem wM_191 : Cond.instanceMethod yX12_readsWind ∈ zTB := zch_7 _ (List.mem_of_getElem? (i := 116) (by decide +kernel)) rfl
theorem w_sel_X12_readsWind : Cond.selects RX12 yX12_readsWind yX12_readsWind ∈ zTB := zch_0 _ (List.mem_of_getElem? (i := 57) (by decide +kernel)) rfl
theorem kk_RX12_224 : zKV RX12 224 RX12 yX12_readsWind cX12_readsWind 2 (some .boolean) 1 := ⟨wM_190, wM_191, w_sel_X12_readsWind, wM_143, wM_189, by decide +kernel, by decide⟩
theorem wM_192 : Cond.code yX12_readsRank prog_14_method_29_code 4 (some .boolean) ∈ zTB := zch_7 _ (List.mem_of_getElem? (i := 126) (by decide +kernel)) rfl
theorem wM_193 : Cond.methodLink "BalloonsMoorModel" 239 yX12_readsRank ∈ zTB := zch_7 _ (List.mem_of_getElem? (i := 123) (by decide +kernel)) rfl
theorem wM_194 : Cond.instanceMethod yX12_readsRank ∈ zTB := zch_7 _ (List.mem_of_getElem? (i := 125) (by decide +kernel)) rfl
theorem w_sel_X12_readsRank : Cond.selects RX12 yX12_readsRank yX12_readsRank ∈ zTB := zch_0 _ (List.mem_of_getElem? (i := 58) (by decide +kernel)) rfl
theorem kk_RX12_239 : zKV RX12 239 RX12 yX12_readsRank cX12_readsRank 4 (some .boolean) 1 := ⟨wM_193, wM_194, w_sel_X12_readsRank, wM_143, wM_192, by decide +kernel, by decide⟩
theorem wM_195 : Cond.code yX12_codes prog_14_method_27_code 2 (none) ∈ zTB := zch_7 _ (List.mem_of_getElem? (i := 134) (by decide +kernel)) rfl
theorem wM_196 : Cond.methodLink "BalloonsMoorModel" 233 yX12_codes ∈ zTB := zch_7 _ (List.mem_of_getElem? (i := 131) (by decide +kernel)) rfl
theorem wM_197 : Cond.instanceMethod yX12_codes ∈ zTB := zch_7 _ (List.mem_of_getElem? (i := 133) (by decide +kernel)) rfl
theorem w_sel_X12_codes : Cond.selects RX12 yX12_codes yX12_codes ∈ zTB := zch_0 _ (List.mem_of_getElem? (i := 60) (by decide +kernel)) rfl
theorem kk_RX12_233 : zKV RX12 233 RX12 yX12_codes cX12_codes 2 none 1 := ⟨wM_196, wM_197, w_sel_X12_codes, wM_143, wM_195, by decide +kernel, by decide⟩
theorem wM_198 : Cond.code yX12_readsThing prog_14_method_28_code 2 (some .boolean) ∈ zTB := zch_7 _ (List.mem_of_getElem? (i := 130) (by decide +kernel)) rfl
theorem wM_199 : Cond.methodLink "BalloonsMoorModel" 230 yX12_readsThing ∈ zTB := zch_7 _ (List.mem_of_getElem? (i := 127) (by decide +kernel)) rfl
theorem wM_200 : Cond.instanceMethod yX12_readsThing ∈ zTB := zch_7 _ (List.mem_of_getElem? (i := 129) (by decide +kernel)) rfl
theorem w_sel_X12_readsThing : Cond.selects RX12 yX12_readsThing yX12_readsThing ∈ zTB := zch_0 _ (List.mem_of_getElem? (i := 59) (by decide +kernel)) rfl
theorem kk_RX12_230 : zKV RX12 230 RX12 yX12_readsThing cX12_readsThing 2 (some .boolean) 0 := ⟨wM_199, wM_200, w_sel_X12_readsThing, wM_143, wM_198, by decide +kernel, by decide⟩
theorem wM_201 : Cond.code yX12_worked prog_14_method_31_code 3 (some .int) ∈ zTB := zch_7 _ (List.mem_of_getElem? (i := 187) (by decide +kernel)) rfl
theorem wM_202 : Cond.methodLink "BalloonsMoorModel" 251 yX12_worked ∈ zTB := zch_7 _ (List.mem_of_getElem? (i := 185) (by decide +kernel)) rfl
theorem wM_203 : Cond.static yX12_worked ∈ zTB := zch_7 _ (List.mem_of_getElem? (i := 186) (by decide +kernel)) rfl
theorem kk_RX12_251 : zKS RX12 251 yX12_worked cX12_worked 3 (some .int) 3 := ⟨wM_202, wM_203, wM_143, wM_201, by decide +kernel, by decide⟩
theorem wM_204 : Cond.code yX12_ruled prog_14_method_32_code 4 (some .int) ∈ zTB := zch_7 _ (List.mem_of_getElem? (i := 184) (by decide +kernel)) rfl
theorem wM_205 : Cond.methodLink "BalloonsMoorModel" 258 yX12_ruled ∈ zTB := zch_7 _ (List.mem_of_getElem? (i := 181) (by decide +kernel)) rfl
theorem wM_206 : Cond.instanceMethod yX12_ruled ∈ zTB := zch_7 _ (List.mem_of_getElem? (i := 183) (by decide +kernel)) rfl
theorem w_sel_X12_ruled : Cond.selects RX12 yX12_ruled yX12_ruled ∈ zTB := zch_0 _ (List.mem_of_getElem? (i := 69) (by decide +kernel)) rfl
theorem kk_RX12_258 : zKV RX12 258 RX12 yX12_ruled cX12_ruled 4 (some .int) 0 := ⟨wM_205, wM_206, w_sel_X12_ruled, wM_143, wM_204, by decide +kernel, by decide⟩
theorem wM_207 : Cond.code yX12_liftOf prog_14_method_33_code 3 (some .int) ∈ zTB := zch_7 _ (List.mem_of_getElem? (i := 180) (by decide +kernel)) rfl
theorem wM_208 : Cond.methodLink "BalloonsMoorModel" 261 yX12_liftOf ∈ zTB := zch_7 _ (List.mem_of_getElem? (i := 177) (by decide +kernel)) rfl
theorem wM_209 : Cond.instanceMethod yX12_liftOf ∈ zTB := zch_7 _ (List.mem_of_getElem? (i := 179) (by decide +kernel)) rfl
theorem w_sel_X12_liftOf : Cond.selects RX12 yX12_liftOf yX12_liftOf ∈ zTB := zch_0 _ (List.mem_of_getElem? (i := 68) (by decide +kernel)) rfl
theorem kk_RX12_261 : zKV RX12 261 RX12 yX12_liftOf cX12_liftOf 3 (some .int) 2 := ⟨wM_208, wM_209, w_sel_X12_liftOf, wM_143, wM_207, by decide +kernel, by decide⟩
theorem wM_code_Math_max : Cond.code Lib.Math.max.name Lib.Math.max.code 2 (some .int) ∈ zTB := zch_3 _ (List.mem_of_getElem? (i := 153) (by decide +kernel)) rfl
theorem wM_210 : Cond.methodLink "BalloonsMoorModel" 265 yJ9_max_7cf53 ∈ zTB := zch_7 _ (List.mem_of_getElem? (i := 188) (by decide +kernel)) rfl
theorem wM_211 : Cond.static yJ9_max_7cf53 ∈ zTB := zch_3 _ (List.mem_of_getElem? (i := 152) (by decide +kernel)) rfl
theorem kk_RX12_265 : zKS RX12 265 Lib.Math.max.name Lib.Math.max.code 2 (some .int) 2 := ⟨wM_210, wM_211, wM_149, wM_code_Math_max, by decide +kernel, by decide⟩
theorem wM_212 : Cond.code yX12_how prog_14_method_11_code 2 (some .int) ∈ zTB := zch_7 _ (List.mem_of_getElem? (i := 159) (by decide +kernel)) rfl
theorem wM_213 : Cond.methodLink "BalloonsMoorModel" 268 yX12_how ∈ zTB := zch_7 _ (List.mem_of_getElem? (i := 156) (by decide +kernel)) rfl
theorem wM_214 : Cond.instanceMethod yX12_how ∈ zTB := zch_7 _ (List.mem_of_getElem? (i := 158) (by decide +kernel)) rfl
theorem w_sel_X12_how : Cond.selects RX12 yX12_how yX12_how ∈ zTB := zch_0 _ (List.mem_of_getElem? (i := 64) (by decide +kernel)) rfl
theorem kk_RX12_268 : zKV RX12 268 RX12 yX12_how cX12_how 2 (some .int) 1 := ⟨wM_213, wM_214, w_sel_X12_how, wM_143, wM_212, by decide +kernel, by decide⟩
theorem wM_215 : Cond.code yX12_isRing prog_14_method_9_code 2 (some .boolean) ∈ zTB := zch_7 _ (List.mem_of_getElem? (i := 146) (by decide +kernel)) rfl
theorem wM_216 : Cond.methodLink "BalloonsMoorModel" 271 yX12_isRing ∈ zTB := zch_7 _ (List.mem_of_getElem? (i := 143) (by decide +kernel)) rfl
theorem wM_217 : Cond.instanceMethod yX12_isRing ∈ zTB := zch_7 _ (List.mem_of_getElem? (i := 145) (by decide +kernel)) rfl
theorem w_sel_X12_isRing : Cond.selects RX12 yX12_isRing yX12_isRing ∈ zTB := zch_0 _ (List.mem_of_getElem? (i := 61) (by decide +kernel)) rfl
theorem kk_RX12_271 : zKV RX12 271 RX12 yX12_isRing cX12_isRing 2 (some .boolean) 1 := ⟨wM_216, wM_217, w_sel_X12_isRing, wM_143, wM_215, by decide +kernel, by decide⟩
theorem wM_218 : Cond.code yX12_refuse prog_14_method_3_code 1 (some .int) ∈ zTB := zch_7 _ (List.mem_of_getElem? (i := 151) (by decide +kernel)) rfl
theorem wM_219 : Cond.methodLink "BalloonsMoorModel" 276 yX12_refuse ∈ zTB := zch_7 _ (List.mem_of_getElem? (i := 148) (by decide +kernel)) rfl
theorem wM_220 : Cond.instanceMethod yX12_refuse ∈ zTB := zch_7 _ (List.mem_of_getElem? (i := 150) (by decide +kernel)) rfl
theorem w_sel_X12_refuse : Cond.selects RX12 yX12_refuse yX12_refuse ∈ zTB := zch_0 _ (List.mem_of_getElem? (i := 62) (by decide +kernel)) rfl
theorem kk_RX12_276 : zKV RX12 276 RX12 yX12_refuse cX12_refuse 1 (some .int) 0 := ⟨wM_219, wM_220, w_sel_X12_refuse, wM_143, wM_218, by decide +kernel, by decide⟩
theorem wM_221 : Cond.code yX12_mooredAt prog_14_method_36_code 4 (some .int) ∈ zTB := zch_7 _ (List.mem_of_getElem? (i := 155) (by decide +kernel)) rfl
theorem wM_222 : Cond.methodLink "BalloonsMoorModel" 279 yX12_mooredAt ∈ zTB := zch_7 _ (List.mem_of_getElem? (i := 152) (by decide +kernel)) rfl
theorem wM_223 : Cond.instanceMethod yX12_mooredAt ∈ zTB := zch_7 _ (List.mem_of_getElem? (i := 154) (by decide +kernel)) rfl
theorem w_sel_X12_mooredAt : Cond.selects RX12 yX12_mooredAt yX12_mooredAt ∈ zTB := zch_0 _ (List.mem_of_getElem? (i := 63) (by decide +kernel)) rfl
theorem kk_RX12_279 : zKV RX12 279 RX12 yX12_mooredAt cX12_mooredAt 4 (some .int) 1 := ⟨wM_222, wM_223, w_sel_X12_mooredAt, wM_143, wM_221, by decide +kernel, by decide⟩
theorem wM_224 : Cond.code yX12_isBalloon prog_14_method_10_code 2 (some .boolean) ∈ zTB := zch_7 _ (List.mem_of_getElem? (i := 167) (by decide +kernel)) rfl
theorem wM_225 : Cond.methodLink "BalloonsMoorModel" 282 yX12_isBalloon ∈ zTB := zch_7 _ (List.mem_of_getElem? (i := 164) (by decide +kernel)) rfl
theorem wM_226 : Cond.instanceMethod yX12_isBalloon ∈ zTB := zch_7 _ (List.mem_of_getElem? (i := 166) (by decide +kernel)) rfl
theorem w_sel_X12_isBalloon : Cond.selects RX12 yX12_isBalloon yX12_isBalloon ∈ zTB := zch_0 _ (List.mem_of_getElem? (i := 65) (by decide +kernel)) rfl
theorem kk_RX12_282 : zKV RX12 282 RX12 yX12_isBalloon cX12_isBalloon 2 (some .boolean) 1 := ⟨wM_225, wM_226, w_sel_X12_isBalloon, wM_143, wM_224, by decide +kernel, by decide⟩
theorem wM_227 : Cond.code yX12_heavy prog_14_method_35_code 2 (some .int) ∈ zTB := zch_7 _ (List.mem_of_getElem? (i := 172) (by decide +kernel)) rfl
theorem wM_228 : Cond.methodLink "BalloonsMoorModel" 287 yX12_heavy ∈ zTB := zch_7 _ (List.mem_of_getElem? (i := 169) (by decide +kernel)) rfl
theorem wM_229 : Cond.instanceMethod yX12_heavy ∈ zTB := zch_7 _ (List.mem_of_getElem? (i := 171) (by decide +kernel)) rfl
theorem w_sel_X12_heavy : Cond.selects RX12 yX12_heavy yX12_heavy ∈ zTB := zch_0 _ (List.mem_of_getElem? (i := 66) (by decide +kernel)) rfl
theorem kk_RX12_287 : zKV RX12 287 RX12 yX12_heavy cX12_heavy 2 (some .int) 1 := ⟨wM_228, wM_229, w_sel_X12_heavy, wM_143, wM_227, by decide +kernel, by decide⟩
theorem wM_230 : Cond.code yX12_highOf prog_14_method_34_code 3 (some .int) ∈ zTB := zch_7 _ (List.mem_of_getElem? (i := 176) (by decide +kernel)) rfl
theorem wM_231 : Cond.methodLink "BalloonsMoorModel" 290 yX12_highOf ∈ zTB := zch_7 _ (List.mem_of_getElem? (i := 173) (by decide +kernel)) rfl
theorem wM_232 : Cond.instanceMethod yX12_highOf ∈ zTB := zch_7 _ (List.mem_of_getElem? (i := 175) (by decide +kernel)) rfl
theorem w_sel_X12_highOf : Cond.selects RX12 yX12_highOf yX12_highOf ∈ zTB := zch_0 _ (List.mem_of_getElem? (i := 67) (by decide +kernel)) rfl
theorem kk_RX12_290 : zKV RX12 290 RX12 yX12_highOf cX12_highOf 3 (some .int) 2 := ⟨wM_231, wM_232, w_sel_X12_highOf, wM_143, wM_230, by decide +kernel, by decide⟩
theorem wM_233 : Cond.code yX12_ringOf prog_14_method_38_code 2 (some .int) ∈ zTB := zch_7 _ (List.mem_of_getElem? (i := 191) (by decide +kernel)) rfl
theorem wM_234 : Cond.methodLink "BalloonsMoorModel" 293 yX12_ringOf ∈ zTB := zch_7 _ (List.mem_of_getElem? (i := 189) (by decide +kernel)) rfl
theorem wM_235 : Cond.static yX12_ringOf ∈ zTB := zch_7 _ (List.mem_of_getElem? (i := 190) (by decide +kernel)) rfl
theorem kk_RX12_293 : zKS RX12 293 yX12_ringOf cX12_ringOf 2 (some .int) 2 := ⟨wM_234, wM_235, wM_143, wM_233, by decide +kernel, by decide⟩
theorem wM_236 : Cond.code yX12_cellOf prog_14_method_37_code 2 (some .int) ∈ zTB := zch_7 _ (List.mem_of_getElem? (i := 194) (by decide +kernel)) rfl
theorem wM_237 : Cond.methodLink "BalloonsMoorModel" 296 yX12_cellOf ∈ zTB := zch_7 _ (List.mem_of_getElem? (i := 192) (by decide +kernel)) rfl
theorem wM_238 : Cond.static yX12_cellOf ∈ zTB := zch_7 _ (List.mem_of_getElem? (i := 193) (by decide +kernel)) rfl
theorem kk_RX12_296 : zKS RX12 296 yX12_cellOf cX12_cellOf 2 (some .int) 2 := ⟨wM_237, wM_238, wM_143, wM_236, by decide +kernel, by decide⟩
theorem wM_239 : Cond.code yX12_adds prog_14_method_45_code 3 (some .int) ∈ zTB := zch_7 _ (List.mem_of_getElem? (i := 234) (by decide +kernel)) rfl
theorem wM_240 : Cond.methodLink "BalloonsMoorModel" 301 yX12_adds ∈ zTB := zch_7 _ (List.mem_of_getElem? (i := 231) (by decide +kernel)) rfl
theorem wM_241 : Cond.instanceMethod yX12_adds ∈ zTB := zch_7 _ (List.mem_of_getElem? (i := 233) (by decide +kernel)) rfl
theorem w_sel_X12_adds : Cond.selects RX12 yX12_adds yX12_adds ∈ zTB := zch_0 _ (List.mem_of_getElem? (i := 73) (by decide +kernel)) rfl
theorem kk_RX12_301 : zKV RX12 301 RX12 yX12_adds cX12_adds 3 (some .int) 1 := ⟨wM_240, wM_241, w_sel_X12_adds, wM_143, wM_239, by decide +kernel, by decide⟩
theorem wM_242 : Cond.code yX12_frees prog_14_method_48_code 2 (none) ∈ zTB := zch_7 _ (List.mem_of_getElem? (i := 226) (by decide +kernel)) rfl
theorem wM_243 : Cond.methodLink "BalloonsMoorModel" 304 yX12_frees ∈ zTB := zch_7 _ (List.mem_of_getElem? (i := 224) (by decide +kernel)) rfl
theorem wM_244 : Cond.static yX12_frees ∈ zTB := zch_7 _ (List.mem_of_getElem? (i := 225) (by decide +kernel)) rfl
theorem kk_RX12_304 : zKS RX12 304 yX12_frees cX12_frees 2 none 2 := ⟨wM_243, wM_244, wM_143, wM_242, by decide +kernel, by decide⟩
theorem wM_code_Math_abs : Cond.code Lib.Math.abs.name Lib.Math.abs.code 1 (some .int) ∈ zTB := zch_3 _ (List.mem_of_getElem? (i := 223) (by decide +kernel)) rfl
theorem wM_245 : Cond.methodLink "BalloonsMoorModel" 308 yJ9_abs_0f7a4 ∈ zTB := zch_8 _ (List.mem_of_getElem? (i := 6) (by decide +kernel)) rfl
theorem wM_246 : Cond.static yJ9_abs_0f7a4 ∈ zTB := zch_3 _ (List.mem_of_getElem? (i := 222) (by decide +kernel)) rfl
theorem kk_RX12_308 : zKS RX12 308 Lib.Math.abs.name Lib.Math.abs.code 1 (some .int) 1 := ⟨wM_245, wM_246, wM_149, wM_code_Math_abs, by decide +kernel, by decide⟩
theorem wM_247 : Cond.code yX12_apart prog_14_method_50_code 2 (some .int) ∈ zTB := zch_8 _ (List.mem_of_getElem? (i := 5) (by decide +kernel)) rfl
theorem wM_248 : Cond.methodLink "BalloonsMoorModel" 311 yX12_apart ∈ zTB := zch_8 _ (List.mem_of_getElem? (i := 3) (by decide +kernel)) rfl
theorem wM_249 : Cond.static yX12_apart ∈ zTB := zch_8 _ (List.mem_of_getElem? (i := 4) (by decide +kernel)) rfl
theorem kk_RX12_311 : zKS RX12 311 yX12_apart cX12_apart 2 (some .int) 2 := ⟨wM_248, wM_249, wM_143, wM_247, by decide +kernel, by decide⟩
theorem wM_250 : Cond.code yX12_canTie prog_14_method_51_code 4 (some .boolean) ∈ zTB := zch_8 _ (List.mem_of_getElem? (i := 10) (by decide +kernel)) rfl
theorem wM_251 : Cond.methodLink "BalloonsMoorModel" 314 yX12_canTie ∈ zTB := zch_8 _ (List.mem_of_getElem? (i := 7) (by decide +kernel)) rfl
theorem wM_252 : Cond.instanceMethod yX12_canTie ∈ zTB := zch_8 _ (List.mem_of_getElem? (i := 9) (by decide +kernel)) rfl
theorem w_sel_X12_canTie : Cond.selects RX12 yX12_canTie yX12_canTie ∈ zTB := zch_0 _ (List.mem_of_getElem? (i := 75) (by decide +kernel)) rfl
theorem kk_RX12_314 : zKV RX12 314 RX12 yX12_canTie cX12_canTie 4 (some .boolean) 3 := ⟨wM_251, wM_252, w_sel_X12_canTie, wM_143, wM_250, by decide +kernel, by decide⟩
theorem wM_253 : Cond.code yX12_eastward prog_14_method_59_code 1 (some .int) ∈ zTB := zch_8 _ (List.mem_of_getElem? (i := 62) (by decide +kernel)) rfl
theorem wM_254 : Cond.methodLink "BalloonsMoorModel" 332 yX12_eastward ∈ zTB := zch_8 _ (List.mem_of_getElem? (i := 60) (by decide +kernel)) rfl
theorem wM_255 : Cond.static yX12_eastward ∈ zTB := zch_8 _ (List.mem_of_getElem? (i := 61) (by decide +kernel)) rfl
theorem kk_RX12_332 : zKS RX12 332 yX12_eastward cX12_eastward 1 (some .int) 1 := ⟨wM_254, wM_255, wM_143, wM_253, by decide +kernel, by decide⟩
theorem wM_256 : Cond.code yX12_southward prog_14_method_60_code 1 (some .int) ∈ zTB := zch_8 _ (List.mem_of_getElem? (i := 65) (by decide +kernel)) rfl
theorem wM_257 : Cond.methodLink "BalloonsMoorModel" 335 yX12_southward ∈ zTB := zch_8 _ (List.mem_of_getElem? (i := 63) (by decide +kernel)) rfl
theorem wM_258 : Cond.static yX12_southward ∈ zTB := zch_8 _ (List.mem_of_getElem? (i := 64) (by decide +kernel)) rfl
theorem kk_RX12_335 : zKS RX12 335 yX12_southward cX12_southward 1 (some .int) 1 := ⟨wM_257, wM_258, wM_143, wM_256, by decide +kernel, by decide⟩
theorem wM_259 : Cond.code yX12_isLost prog_14_method_58_code 3 (none) ∈ zTB := zch_8 _ (List.mem_of_getElem? (i := 70) (by decide +kernel)) rfl
theorem wM_260 : Cond.methodLink "BalloonsMoorModel" 340 yX12_isLost ∈ zTB := zch_8 _ (List.mem_of_getElem? (i := 67) (by decide +kernel)) rfl
theorem wM_261 : Cond.instanceMethod yX12_isLost ∈ zTB := zch_8 _ (List.mem_of_getElem? (i := 69) (by decide +kernel)) rfl
theorem w_sel_X12_isLost : Cond.selects RX12 yX12_isLost yX12_isLost ∈ zTB := zch_0 _ (List.mem_of_getElem? (i := 83) (by decide +kernel)) rfl
theorem kk_RX12_340 : zKV RX12 340 RX12 yX12_isLost cX12_isLost 3 none 2 := ⟨wM_260, wM_261, w_sel_X12_isLost, wM_143, wM_259, by decide +kernel, by decide⟩
theorem wM_262 : Cond.code yX12_blows prog_14_method_61_code 5 (some .boolean) ∈ zTB := zch_8 _ (List.mem_of_getElem? (i := 59) (by decide +kernel)) rfl
theorem wM_263 : Cond.methodLink "BalloonsMoorModel" 343 yX12_blows ∈ zTB := zch_8 _ (List.mem_of_getElem? (i := 56) (by decide +kernel)) rfl
theorem wM_264 : Cond.instanceMethod yX12_blows ∈ zTB := zch_8 _ (List.mem_of_getElem? (i := 58) (by decide +kernel)) rfl
theorem w_sel_X12_blows : Cond.selects RX12 yX12_blows yX12_blows ∈ zTB := zch_0 _ (List.mem_of_getElem? (i := 82) (by decide +kernel)) rfl
theorem kk_RX12_343 : zKV RX12 343 RX12 yX12_blows cX12_blows 5 (some .boolean) 3 := ⟨wM_263, wM_264, w_sel_X12_blows, wM_143, wM_262, by decide +kernel, by decide⟩
theorem wM_265 : Cond.code yX12_touch prog_14_method_62_code 3 (some .boolean) ∈ zTB := zch_8 _ (List.mem_of_getElem? (i := 74) (by decide +kernel)) rfl
theorem wM_266 : Cond.methodLink "BalloonsMoorModel" 346 yX12_touch ∈ zTB := zch_8 _ (List.mem_of_getElem? (i := 71) (by decide +kernel)) rfl
theorem wM_267 : Cond.instanceMethod yX12_touch ∈ zTB := zch_8 _ (List.mem_of_getElem? (i := 73) (by decide +kernel)) rfl
theorem w_sel_X12_touch : Cond.selects RX12 yX12_touch yX12_touch ∈ zTB := zch_0 _ (List.mem_of_getElem? (i := 84) (by decide +kernel)) rfl
theorem kk_RX12_346 : zKV RX12 346 RX12 yX12_touch cX12_touch 3 (some .boolean) 2 := ⟨wM_266, wM_267, w_sel_X12_touch, wM_143, wM_265, by decide +kernel, by decide⟩
theorem wM_268 : Cond.code yX12_comesDown prog_14_method_63_code 5 (none) ∈ zTB := zch_8 _ (List.mem_of_getElem? (i := 78) (by decide +kernel)) rfl
theorem wM_269 : Cond.methodLink "BalloonsMoorModel" 350 yX12_comesDown ∈ zTB := zch_8 _ (List.mem_of_getElem? (i := 75) (by decide +kernel)) rfl
theorem wM_270 : Cond.instanceMethod yX12_comesDown ∈ zTB := zch_8 _ (List.mem_of_getElem? (i := 77) (by decide +kernel)) rfl
theorem w_sel_X12_comesDown : Cond.selects RX12 yX12_comesDown yX12_comesDown ∈ zTB := zch_0 _ (List.mem_of_getElem? (i := 85) (by decide +kernel)) rfl
theorem kk_RX12_350 : zKV RX12 350 RX12 yX12_comesDown cX12_comesDown 5 none 2 := ⟨wM_269, wM_270, w_sel_X12_comesDown, wM_143, wM_268, by decide +kernel, by decide⟩
theorem wM_271 : Cond.code yX12_putsBy prog_14_method_44_code 2 (none) ∈ zTB := zch_7 _ (List.mem_of_getElem? (i := 219) (by decide +kernel)) rfl
theorem wM_272 : Cond.methodLink "BalloonsMoorModel" 353 yX12_putsBy ∈ zTB := zch_7 _ (List.mem_of_getElem? (i := 216) (by decide +kernel)) rfl
theorem wM_273 : Cond.instanceMethod yX12_putsBy ∈ zTB := zch_7 _ (List.mem_of_getElem? (i := 218) (by decide +kernel)) rfl
theorem w_sel_X12_putsBy : Cond.selects RX12 yX12_putsBy yX12_putsBy ∈ zTB := zch_0 _ (List.mem_of_getElem? (i := 70) (by decide +kernel)) rfl
theorem kk_RX12_353 : zKV RX12 353 RX12 yX12_putsBy cX12_putsBy 2 none 0 := ⟨wM_272, wM_273, w_sel_X12_putsBy, wM_143, wM_271, by decide +kernel, by decide⟩
theorem wM_274 : Cond.code yX12_launches prog_14_method_49_code 3 (some .int) ∈ zTB := zch_7 _ (List.mem_of_getElem? (i := 223) (by decide +kernel)) rfl
theorem wM_275 : Cond.methodLink "BalloonsMoorModel" 356 yX12_launches ∈ zTB := zch_7 _ (List.mem_of_getElem? (i := 220) (by decide +kernel)) rfl
theorem wM_276 : Cond.instanceMethod yX12_launches ∈ zTB := zch_7 _ (List.mem_of_getElem? (i := 222) (by decide +kernel)) rfl
theorem w_sel_X12_launches : Cond.selects RX12 yX12_launches yX12_launches ∈ zTB := zch_0 _ (List.mem_of_getElem? (i := 71) (by decide +kernel)) rfl
theorem kk_RX12_356 : zKV RX12 356 RX12 yX12_launches cX12_launches 3 (some .int) 2 := ⟨wM_275, wM_276, w_sel_X12_launches, wM_143, wM_274, by decide +kernel, by decide⟩
theorem wM_277 : Cond.code yX12_counts prog_14_method_46_code 2 (some .int) ∈ zTB := zch_7 _ (List.mem_of_getElem? (i := 230) (by decide +kernel)) rfl
theorem wM_278 : Cond.methodLink "BalloonsMoorModel" 359 yX12_counts ∈ zTB := zch_7 _ (List.mem_of_getElem? (i := 227) (by decide +kernel)) rfl
theorem wM_279 : Cond.instanceMethod yX12_counts ∈ zTB := zch_7 _ (List.mem_of_getElem? (i := 229) (by decide +kernel)) rfl
theorem w_sel_X12_counts : Cond.selects RX12 yX12_counts yX12_counts ∈ zTB := zch_0 _ (List.mem_of_getElem? (i := 72) (by decide +kernel)) rfl
theorem kk_RX12_359 : zKV RX12 359 RX12 yX12_counts cX12_counts 2 (some .int) 1 := ⟨wM_278, wM_279, w_sel_X12_counts, wM_143, wM_277, by decide +kernel, by decide⟩
theorem wM_280 : Cond.code yX12_moors prog_14_method_52_code 3 (some .int) ∈ zTB := zch_8 _ (List.mem_of_getElem? (i := 2) (by decide +kernel)) rfl
theorem wM_281 : Cond.methodLink "BalloonsMoorModel" 362 yX12_moors ∈ zTB := zch_7 _ (List.mem_of_getElem? (i := 239) (by decide +kernel)) rfl
theorem wM_282 : Cond.instanceMethod yX12_moors ∈ zTB := zch_8 _ (List.mem_of_getElem? (i := 1) (by decide +kernel)) rfl
theorem w_sel_X12_moors : Cond.selects RX12 yX12_moors yX12_moors ∈ zTB := zch_0 _ (List.mem_of_getElem? (i := 74) (by decide +kernel)) rfl
theorem kk_RX12_362 : zKV RX12 362 RX12 yX12_moors cX12_moors 3 (some .int) 2 := ⟨wM_281, wM_282, w_sel_X12_moors, wM_143, wM_280, by decide +kernel, by decide⟩
theorem wM_283 : Cond.code yX12_casts prog_14_method_53_code 3 (some .int) ∈ zTB := zch_8 _ (List.mem_of_getElem? (i := 18) (by decide +kernel)) rfl
theorem wM_284 : Cond.methodLink "BalloonsMoorModel" 365 yX12_casts ∈ zTB := zch_8 _ (List.mem_of_getElem? (i := 15) (by decide +kernel)) rfl
theorem wM_285 : Cond.instanceMethod yX12_casts ∈ zTB := zch_8 _ (List.mem_of_getElem? (i := 17) (by decide +kernel)) rfl
theorem w_sel_X12_casts : Cond.selects RX12 yX12_casts yX12_casts ∈ zTB := zch_0 _ (List.mem_of_getElem? (i := 76) (by decide +kernel)) rfl
theorem kk_RX12_365 : zKV RX12 365 RX12 yX12_casts cX12_casts 3 (some .int) 2 := ⟨wM_284, wM_285, w_sel_X12_casts, wM_143, wM_283, by decide +kernel, by decide⟩
theorem wM_286 : Cond.code yX12_sacksBy prog_14_method_54_code 5 (some .int) ∈ zTB := zch_8 _ (List.mem_of_getElem? (i := 26) (by decide +kernel)) rfl
theorem wM_287 : Cond.methodLink "BalloonsMoorModel" 368 yX12_sacksBy ∈ zTB := zch_8 _ (List.mem_of_getElem? (i := 23) (by decide +kernel)) rfl
theorem wM_288 : Cond.instanceMethod yX12_sacksBy ∈ zTB := zch_8 _ (List.mem_of_getElem? (i := 25) (by decide +kernel)) rfl
theorem w_sel_X12_sacksBy : Cond.selects RX12 yX12_sacksBy yX12_sacksBy ∈ zTB := zch_0 _ (List.mem_of_getElem? (i := 77) (by decide +kernel)) rfl
theorem kk_RX12_368 : zKV RX12 368 RX12 yX12_sacksBy cX12_sacksBy 5 (some .int) 2 := ⟨wM_287, wM_288, w_sel_X12_sacksBy, wM_143, wM_286, by decide +kernel, by decide⟩
theorem wM_289 : Cond.code yX12_loads prog_14_method_55_code 4 (some .int) ∈ zTB := zch_8 _ (List.mem_of_getElem? (i := 34) (by decide +kernel)) rfl
theorem wM_290 : Cond.methodLink "BalloonsMoorModel" 371 yX12_loads ∈ zTB := zch_8 _ (List.mem_of_getElem? (i := 31) (by decide +kernel)) rfl
theorem wM_291 : Cond.instanceMethod yX12_loads ∈ zTB := zch_8 _ (List.mem_of_getElem? (i := 33) (by decide +kernel)) rfl
theorem w_sel_X12_loads : Cond.selects RX12 yX12_loads yX12_loads ∈ zTB := zch_0 _ (List.mem_of_getElem? (i := 78) (by decide +kernel)) rfl
theorem kk_RX12_371 : zKV RX12 371 RX12 yX12_loads cX12_loads 4 (some .int) 2 := ⟨wM_290, wM_291, w_sel_X12_loads, wM_143, wM_289, by decide +kernel, by decide⟩
theorem wM_292 : Cond.code yX12_fills prog_14_method_56_code 4 (some .int) ∈ zTB := zch_8 _ (List.mem_of_getElem? (i := 42) (by decide +kernel)) rfl
theorem wM_293 : Cond.methodLink "BalloonsMoorModel" 374 yX12_fills ∈ zTB := zch_8 _ (List.mem_of_getElem? (i := 39) (by decide +kernel)) rfl
theorem wM_294 : Cond.instanceMethod yX12_fills ∈ zTB := zch_8 _ (List.mem_of_getElem? (i := 41) (by decide +kernel)) rfl
theorem w_sel_X12_fills : Cond.selects RX12 yX12_fills yX12_fills ∈ zTB := zch_0 _ (List.mem_of_getElem? (i := 79) (by decide +kernel)) rfl
theorem kk_RX12_374 : zKV RX12 374 RX12 yX12_fills cX12_fills 4 (some .int) 2 := ⟨wM_293, wM_294, w_sel_X12_fills, wM_143, wM_292, by decide +kernel, by decide⟩
theorem wM_295 : Cond.code yX12_startsCounting prog_14_method_57_code 1 (none) ∈ zTB := zch_8 _ (List.mem_of_getElem? (i := 51) (by decide +kernel)) rfl
theorem wM_296 : Cond.methodLink "BalloonsMoorModel" 377 yX12_startsCounting ∈ zTB := zch_8 _ (List.mem_of_getElem? (i := 48) (by decide +kernel)) rfl
theorem wM_297 : Cond.instanceMethod yX12_startsCounting ∈ zTB := zch_8 _ (List.mem_of_getElem? (i := 50) (by decide +kernel)) rfl
theorem w_sel_X12_startsCounting : Cond.selects RX12 yX12_startsCounting yX12_startsCounting ∈ zTB := zch_0 _ (List.mem_of_getElem? (i := 80) (by decide +kernel)) rfl
theorem kk_RX12_377 : zKV RX12 377 RX12 yX12_startsCounting cX12_startsCounting 1 none 0 := ⟨wM_296, wM_297, w_sel_X12_startsCounting, wM_143, wM_295, by decide +kernel, by decide⟩
theorem wM_298 : Cond.code yX12_hourGoes prog_14_method_64_code 7 (none) ∈ zTB := zch_8 _ (List.mem_of_getElem? (i := 55) (by decide +kernel)) rfl
theorem wM_299 : Cond.methodLink "BalloonsMoorModel" 380 yX12_hourGoes ∈ zTB := zch_8 _ (List.mem_of_getElem? (i := 52) (by decide +kernel)) rfl
theorem wM_300 : Cond.instanceMethod yX12_hourGoes ∈ zTB := zch_8 _ (List.mem_of_getElem? (i := 54) (by decide +kernel)) rfl
theorem w_sel_X12_hourGoes : Cond.selects RX12 yX12_hourGoes yX12_hourGoes ∈ zTB := zch_0 _ (List.mem_of_getElem? (i := 81) (by decide +kernel)) rfl
theorem kk_RX12_380 : zKV RX12 380 RX12 yX12_hourGoes cX12_hourGoes 7 none 1 := ⟨wM_299, wM_300, w_sel_X12_hourGoes, wM_143, wM_298, by decide +kernel, by decide⟩
theorem wM_301 : Cond.code yX12_enters prog_14_method_8_code 3 (none) ∈ zTB := zch_8 _ (List.mem_of_getElem? (i := 82) (by decide +kernel)) rfl
theorem wM_302 : Cond.methodLink "BalloonsMoorModel" 384 yX12_enters ∈ zTB := zch_8 _ (List.mem_of_getElem? (i := 79) (by decide +kernel)) rfl
theorem wM_303 : Cond.instanceMethod yX12_enters ∈ zTB := zch_8 _ (List.mem_of_getElem? (i := 81) (by decide +kernel)) rfl
theorem w_sel_X12_enters : Cond.selects RX12 yX12_enters yX12_enters ∈ zTB := zch_0 _ (List.mem_of_getElem? (i := 86) (by decide +kernel)) rfl
theorem kk_RX12_384 : zKV RX12 384 RX12 yX12_enters cX12_enters 3 none 1 := ⟨wM_302, wM_303, w_sel_X12_enters, wM_143, wM_301, by decide +kernel, by decide⟩
theorem wM_304 : Cond.code yX12_readsAct prog_14_method_72_code 3 (some .boolean) ∈ zTB := zch_8 _ (List.mem_of_getElem? (i := 90) (by decide +kernel)) rfl
theorem wM_305 : Cond.methodLink "BalloonsMoorModel" 393 yX12_readsAct ∈ zTB := zch_8 _ (List.mem_of_getElem? (i := 87) (by decide +kernel)) rfl
theorem wM_306 : Cond.instanceMethod yX12_readsAct ∈ zTB := zch_8 _ (List.mem_of_getElem? (i := 89) (by decide +kernel)) rfl
theorem w_sel_X12_readsAct : Cond.selects RX12 yX12_readsAct yX12_readsAct ∈ zTB := zch_0 _ (List.mem_of_getElem? (i := 87) (by decide +kernel)) rfl
theorem kk_RX12_393 : zKV RX12 393 RX12 yX12_readsAct cX12_readsAct 3 (some .boolean) 0 := ⟨wM_305, wM_306, w_sel_X12_readsAct, wM_143, wM_304, by decide +kernel, by decide⟩
theorem wM_307 : Cond.code yX12_does prog_14_method_73_code 3 (some .boolean) ∈ zTB := zch_8 _ (List.mem_of_getElem? (i := 95) (by decide +kernel)) rfl
theorem wM_308 : Cond.methodLink "BalloonsMoorModel" 396 yX12_does ∈ zTB := zch_8 _ (List.mem_of_getElem? (i := 92) (by decide +kernel)) rfl
theorem wM_309 : Cond.instanceMethod yX12_does ∈ zTB := zch_8 _ (List.mem_of_getElem? (i := 94) (by decide +kernel)) rfl
theorem w_sel_X12_does : Cond.selects RX12 yX12_does yX12_does ∈ zTB := zch_0 _ (List.mem_of_getElem? (i := 88) (by decide +kernel)) rfl
theorem kk_RX12_396 : zKV RX12 396 RX12 yX12_does cX12_does 3 (some .boolean) 1 := ⟨wM_308, wM_309, w_sel_X12_does, wM_143, wM_307, by decide +kernel, by decide⟩
theorem wM_310 : Cond.code yX12_isBreach prog_14_method_76_code 5 (some .boolean) ∈ zTB := zch_8 _ (List.mem_of_getElem? (i := 107) (by decide +kernel)) rfl
theorem wM_311 : Cond.methodLink "BalloonsMoorModel" 399 yX12_isBreach ∈ zTB := zch_8 _ (List.mem_of_getElem? (i := 104) (by decide +kernel)) rfl
theorem wM_312 : Cond.instanceMethod yX12_isBreach ∈ zTB := zch_8 _ (List.mem_of_getElem? (i := 106) (by decide +kernel)) rfl
theorem w_sel_X12_isBreach : Cond.selects RX12 yX12_isBreach yX12_isBreach ∈ zTB := zch_0 _ (List.mem_of_getElem? (i := 89) (by decide +kernel)) rfl
theorem kk_RX12_399 : zKV RX12 399 RX12 yX12_isBreach cX12_isBreach 5 (some .boolean) 4 := ⟨wM_311, wM_312, w_sel_X12_isBreach, wM_143, wM_310, by decide +kernel, by decide⟩
theorem wM_313 : Cond.code yX12_puts prog_14_method_78_code 2 (none) ∈ zTB := zch_8 _ (List.mem_of_getElem? (i := 116) (by decide +kernel)) rfl
theorem wM_314 : Cond.methodLink "BalloonsMoorModel" 405 yX12_puts ∈ zTB := zch_8 _ (List.mem_of_getElem? (i := 113) (by decide +kernel)) rfl
theorem wM_315 : Cond.instanceMethod yX12_puts ∈ zTB := zch_8 _ (List.mem_of_getElem? (i := 115) (by decide +kernel)) rfl
theorem w_sel_X12_puts : Cond.selects RX12 yX12_puts yX12_puts ∈ zTB := zch_0 _ (List.mem_of_getElem? (i := 90) (by decide +kernel)) rfl
theorem kk_RX12_405 : zKV RX12 405 RX12 yX12_puts cX12_puts 2 none 0 := ⟨wM_314, wM_315, w_sel_X12_puts, wM_143, wM_313, by decide +kernel, by decide⟩
theorem wM_316 : Cond.code yX12_isUp prog_14_method_80_code 3 (some .boolean) ∈ zTB := zch_8 _ (List.mem_of_getElem? (i := 124) (by decide +kernel)) rfl
theorem wM_317 : Cond.methodLink "BalloonsMoorModel" 408 yX12_isUp ∈ zTB := zch_8 _ (List.mem_of_getElem? (i := 121) (by decide +kernel)) rfl
theorem wM_318 : Cond.instanceMethod yX12_isUp ∈ zTB := zch_8 _ (List.mem_of_getElem? (i := 123) (by decide +kernel)) rfl
theorem w_sel_X12_isUp : Cond.selects RX12 yX12_isUp yX12_isUp ∈ zTB := zch_0 _ (List.mem_of_getElem? (i := 91) (by decide +kernel)) rfl
theorem kk_RX12_408 : zKV RX12 408 RX12 yX12_isUp cX12_isUp 3 (some .boolean) 2 := ⟨wM_317, wM_318, w_sel_X12_isUp, wM_143, wM_316, by decide +kernel, by decide⟩
theorem wM_319 : Cond.code yX12_has prog_14_method_5_code 2 (some .boolean) ∈ zTB := zch_8 _ (List.mem_of_getElem? (i := 139) (by decide +kernel)) rfl
theorem wM_320 : Cond.methodLink "BalloonsMoorModel" 415 yX12_has ∈ zTB := zch_8 _ (List.mem_of_getElem? (i := 137) (by decide +kernel)) rfl
theorem wM_321 : Cond.static yX12_has ∈ zTB := zch_8 _ (List.mem_of_getElem? (i := 138) (by decide +kernel)) rfl
theorem kk_RX12_415 : zKS RX12 415 yX12_has cX12_has 2 (some .boolean) 2 := ⟨wM_320, wM_321, wM_143, wM_319, by decide +kernel, by decide⟩
theorem wM_322 : Cond.code yX12_canBeside prog_14_method_83_code 5 (some .boolean) ∈ zTB := zch_8 _ (List.mem_of_getElem? (i := 143) (by decide +kernel)) rfl
theorem wM_323 : Cond.methodLink "BalloonsMoorModel" 422 yX12_canBeside ∈ zTB := zch_8 _ (List.mem_of_getElem? (i := 140) (by decide +kernel)) rfl
theorem wM_324 : Cond.instanceMethod yX12_canBeside ∈ zTB := zch_8 _ (List.mem_of_getElem? (i := 142) (by decide +kernel)) rfl
theorem w_sel_X12_canBeside : Cond.selects RX12 yX12_canBeside yX12_canBeside ∈ zTB := zch_0 _ (List.mem_of_getElem? (i := 93) (by decide +kernel)) rfl
theorem kk_RX12_422 : zKV RX12 422 RX12 yX12_canBeside cX12_canBeside 5 (some .boolean) 4 := ⟨wM_323, wM_324, w_sel_X12_canBeside, wM_143, wM_322, by decide +kernel, by decide⟩
theorem wM_325 : Cond.code yX12_berthsFrom prog_14_method_84_code 8 (none) ∈ zTB := zch_8 _ (List.mem_of_getElem? (i := 136) (by decide +kernel)) rfl
theorem wM_326 : Cond.methodLink "BalloonsMoorModel" 418 yX12_berthsFrom ∈ zTB := zch_8 _ (List.mem_of_getElem? (i := 133) (by decide +kernel)) rfl
theorem wM_327 : Cond.instanceMethod yX12_berthsFrom ∈ zTB := zch_8 _ (List.mem_of_getElem? (i := 135) (by decide +kernel)) rfl
theorem w_sel_X12_berthsFrom : Cond.selects RX12 yX12_berthsFrom yX12_berthsFrom ∈ zTB := zch_0 _ (List.mem_of_getElem? (i := 92) (by decide +kernel)) rfl
theorem kk_RX12_418 : zKV RX12 418 RX12 yX12_berthsFrom cX12_berthsFrom 8 none 4 := ⟨wM_326, wM_327, w_sel_X12_berthsFrom, wM_143, wM_325, by decide +kernel, by decide⟩
theorem wM_328 : Cond.code yJ6_bitCount_0f7a4 prog_19_method_49_code 1 (some .int) ∈ zTB := zch_4 _ (List.mem_of_getElem? (i := 112) (by decide +kernel)) rfl
theorem wM_329 : Cond.methodLink "BalloonsMoorModel" 425 yJ6_bitCount_0f7a4 ∈ zTB := zch_8 _ (List.mem_of_getElem? (i := 148) (by decide +kernel)) rfl
theorem wM_330 : Cond.static yJ6_bitCount_0f7a4 ∈ zTB := zch_4 _ (List.mem_of_getElem? (i := 111) (by decide +kernel)) rfl
theorem wM_331 : Cond.initialized "java/lang/Integer" ∈ zTB := zch_1 _ (List.mem_of_getElem? (i := 25) (by decide +kernel)) rfl
theorem kk_RX12_425 : zKS RX12 425 yJ6_bitCount_0f7a4 cJ6_bitCount_0f7a4 1 (some .int) 1 := ⟨wM_329, wM_330, wM_331, wM_328, by decide +kernel, by decide⟩
theorem wM_332 : Cond.code yX12_takesStage prog_14_method_89_code 4 (none) ∈ zTB := zch_8 _ (List.mem_of_getElem? (i := 177) (by decide +kernel)) rfl
theorem wM_333 : Cond.methodLink "BalloonsMoorModel" 430 yX12_takesStage ∈ zTB := zch_8 _ (List.mem_of_getElem? (i := 174) (by decide +kernel)) rfl
theorem wM_334 : Cond.instanceMethod yX12_takesStage ∈ zTB := zch_8 _ (List.mem_of_getElem? (i := 176) (by decide +kernel)) rfl
theorem w_sel_X12_takesStage : Cond.selects RX12 yX12_takesStage yX12_takesStage ∈ zTB := zch_0 _ (List.mem_of_getElem? (i := 98) (by decide +kernel)) rfl
theorem kk_RX12_430 : zKV RX12 430 RX12 yX12_takesStage cX12_takesStage 4 none 2 := ⟨wM_333, wM_334, w_sel_X12_takesStage, wM_143, wM_332, by decide +kernel, by decide⟩
theorem wM_335 : Cond.code yX12_goesAlone prog_14_method_90_code 3 (some .boolean) ∈ zTB := zch_8 _ (List.mem_of_getElem? (i := 181) (by decide +kernel)) rfl
theorem wM_336 : Cond.methodLink "BalloonsMoorModel" 434 yX12_goesAlone ∈ zTB := zch_8 _ (List.mem_of_getElem? (i := 178) (by decide +kernel)) rfl
theorem wM_337 : Cond.instanceMethod yX12_goesAlone ∈ zTB := zch_8 _ (List.mem_of_getElem? (i := 180) (by decide +kernel)) rfl
theorem w_sel_X12_goesAlone : Cond.selects RX12 yX12_goesAlone yX12_goesAlone ∈ zTB := zch_0 _ (List.mem_of_getElem? (i := 99) (by decide +kernel)) rfl
theorem kk_RX12_434 : zKV RX12 434 RX12 yX12_goesAlone cX12_goesAlone 3 (some .boolean) 1 := ⟨wM_336, wM_337, w_sel_X12_goesAlone, wM_143, wM_335, by decide +kernel, by decide⟩
theorem wM_338 : Cond.code yX12_setsStage prog_14_method_88_code 4 (none) ∈ zTB := zch_8 _ (List.mem_of_getElem? (i := 169) (by decide +kernel)) rfl
theorem wM_339 : Cond.methodLink "BalloonsMoorModel" 437 yX12_setsStage ∈ zTB := zch_8 _ (List.mem_of_getElem? (i := 166) (by decide +kernel)) rfl
theorem wM_340 : Cond.instanceMethod yX12_setsStage ∈ zTB := zch_8 _ (List.mem_of_getElem? (i := 168) (by decide +kernel)) rfl
theorem w_sel_X12_setsStage : Cond.selects RX12 yX12_setsStage yX12_setsStage ∈ zTB := zch_0 _ (List.mem_of_getElem? (i := 96) (by decide +kernel)) rfl
theorem kk_RX12_437 : zKV RX12 437 RX12 yX12_setsStage cX12_setsStage 4 none 2 := ⟨wM_339, wM_340, w_sel_X12_setsStage, wM_143, wM_338, by decide +kernel, by decide⟩
theorem wM_341 : Cond.code yX12_landsBy prog_14_method_91_code 7 (some .boolean) ∈ zTB := zch_8 _ (List.mem_of_getElem? (i := 173) (by decide +kernel)) rfl
theorem wM_342 : Cond.methodLink "BalloonsMoorModel" 440 yX12_landsBy ∈ zTB := zch_8 _ (List.mem_of_getElem? (i := 170) (by decide +kernel)) rfl
theorem wM_343 : Cond.instanceMethod yX12_landsBy ∈ zTB := zch_8 _ (List.mem_of_getElem? (i := 172) (by decide +kernel)) rfl
theorem w_sel_X12_landsBy : Cond.selects RX12 yX12_landsBy yX12_landsBy ∈ zTB := zch_0 _ (List.mem_of_getElem? (i := 97) (by decide +kernel)) rfl
theorem kk_RX12_440 : zKV RX12 440 RX12 yX12_landsBy cX12_landsBy 7 (some .boolean) 5 := ⟨wM_342, wM_343, w_sel_X12_landsBy, wM_143, wM_341, by decide +kernel, by decide⟩
theorem wM_344 : Cond.code yX12_takesNow prog_14_method_93_code 3 (none) ∈ zTB := zch_8 _ (List.mem_of_getElem? (i := 165) (by decide +kernel)) rfl
theorem wM_345 : Cond.methodLink "BalloonsMoorModel" 450 yX12_takesNow ∈ zTB := zch_8 _ (List.mem_of_getElem? (i := 162) (by decide +kernel)) rfl
theorem wM_346 : Cond.instanceMethod yX12_takesNow ∈ zTB := zch_8 _ (List.mem_of_getElem? (i := 164) (by decide +kernel)) rfl
theorem w_sel_X12_takesNow : Cond.selects RX12 yX12_takesNow yX12_takesNow ∈ zTB := zch_0 _ (List.mem_of_getElem? (i := 95) (by decide +kernel)) rfl
theorem kk_RX12_450 : zKV RX12 450 RX12 yX12_takesNow cX12_takesNow 3 none 1 := ⟨wM_345, wM_346, w_sel_X12_takesNow, wM_143, wM_344, by decide +kernel, by decide⟩
theorem wM_347 : Cond.code yX12_canLand prog_14_method_92_code 5 (some .boolean) ∈ zTB := zch_8 _ (List.mem_of_getElem? (i := 161) (by decide +kernel)) rfl
theorem wM_348 : Cond.methodLink "BalloonsMoorModel" 455 yX12_canLand ∈ zTB := zch_8 _ (List.mem_of_getElem? (i := 158) (by decide +kernel)) rfl
theorem wM_349 : Cond.instanceMethod yX12_canLand ∈ zTB := zch_8 _ (List.mem_of_getElem? (i := 160) (by decide +kernel)) rfl
theorem w_sel_X12_canLand : Cond.selects RX12 yX12_canLand yX12_canLand ∈ zTB := zch_0 _ (List.mem_of_getElem? (i := 94) (by decide +kernel)) rfl
theorem kk_RX12_455 : zKV RX12 455 RX12 yX12_canLand cX12_canLand 5 (some .boolean) 3 := ⟨wM_348, wM_349, w_sel_X12_canLand, wM_143, wM_347, by decide +kernel, by decide⟩
theorem wM_350 : Cond.code yX12_letsDown prog_14_method_96_code 4 (none) ∈ zTB := zch_8 _ (List.mem_of_getElem? (i := 193) (by decide +kernel)) rfl
theorem wM_351 : Cond.methodLink "BalloonsMoorModel" 462 yX12_letsDown ∈ zTB := zch_8 _ (List.mem_of_getElem? (i := 190) (by decide +kernel)) rfl
theorem wM_352 : Cond.instanceMethod yX12_letsDown ∈ zTB := zch_8 _ (List.mem_of_getElem? (i := 192) (by decide +kernel)) rfl
theorem w_sel_X12_letsDown : Cond.selects RX12 yX12_letsDown yX12_letsDown ∈ zTB := zch_0 _ (List.mem_of_getElem? (i := 100) (by decide +kernel)) rfl
theorem kk_RX12_462 : zKV RX12 462 RX12 yX12_letsDown cX12_letsDown 4 none 2 := ⟨wM_351, wM_352, w_sel_X12_letsDown, wM_143, wM_350, by decide +kernel, by decide⟩
theorem wM_353 : Cond.code yX12_earns prog_14_method_98_code 3 (some .int) ∈ zTB := zch_8 _ (List.mem_of_getElem? (i := 203) (by decide +kernel)) rfl
theorem wM_354 : Cond.methodLink "BalloonsMoorModel" 465 yX12_earns ∈ zTB := zch_8 _ (List.mem_of_getElem? (i := 201) (by decide +kernel)) rfl
theorem wM_355 : Cond.static yX12_earns ∈ zTB := zch_8 _ (List.mem_of_getElem? (i := 202) (by decide +kernel)) rfl
theorem kk_RX12_465 : zKS RX12 465 yX12_earns cX12_earns 3 (some .int) 3 := ⟨wM_354, wM_355, wM_143, wM_353, by decide +kernel, by decide⟩
theorem wM_356 : Cond.code yX12_isRest prog_14_method_99_code 5 (some .boolean) ∈ zTB := zch_8 _ (List.mem_of_getElem? (i := 200) (by decide +kernel)) rfl
theorem wM_357 : Cond.methodLink "BalloonsMoorModel" 468 yX12_isRest ∈ zTB := zch_8 _ (List.mem_of_getElem? (i := 198) (by decide +kernel)) rfl
theorem wM_358 : Cond.static yX12_isRest ∈ zTB := zch_8 _ (List.mem_of_getElem? (i := 199) (by decide +kernel)) rfl
theorem kk_RX12_468 : zKS RX12 468 yX12_isRest cX12_isRest 5 (some .boolean) 3 := ⟨wM_357, wM_358, wM_143, wM_356, by decide +kernel, by decide⟩
theorem wM_359 : Cond.code yX12_fits prog_14_method_103_code 6 (some .boolean) ∈ zTB := zch_8 _ (List.mem_of_getElem? (i := 220) (by decide +kernel)) rfl
theorem wM_360 : Cond.methodLink "BalloonsMoorModel" 473 yX12_fits ∈ zTB := zch_8 _ (List.mem_of_getElem? (i := 217) (by decide +kernel)) rfl
theorem wM_361 : Cond.instanceMethod yX12_fits ∈ zTB := zch_8 _ (List.mem_of_getElem? (i := 219) (by decide +kernel)) rfl
theorem w_sel_X12_fits : Cond.selects RX12 yX12_fits yX12_fits ∈ zTB := zch_0 _ (List.mem_of_getElem? (i := 101) (by decide +kernel)) rfl
theorem kk_RX12_473 : zKV RX12 473 RX12 yX12_fits cX12_fits 6 (some .boolean) 2 := ⟨wM_360, wM_361, w_sel_X12_fits, wM_143, wM_359, by decide +kernel, by decide⟩
theorem wM_362 : Cond.code yX12_laysFrom prog_14_method_106_code 5 (none) ∈ zTB := zch_8 _ (List.mem_of_getElem? (i := 236) (by decide +kernel)) rfl
theorem wM_363 : Cond.methodLink "BalloonsMoorModel" 482 yX12_laysFrom ∈ zTB := zch_8 _ (List.mem_of_getElem? (i := 233) (by decide +kernel)) rfl
theorem wM_364 : Cond.instanceMethod yX12_laysFrom ∈ zTB := zch_8 _ (List.mem_of_getElem? (i := 235) (by decide +kernel)) rfl
theorem w_sel_X12_laysFrom : Cond.selects RX12 yX12_laysFrom yX12_laysFrom ∈ zTB := zch_0 _ (List.mem_of_getElem? (i := 104) (by decide +kernel)) rfl
theorem kk_RX12_482 : zKV RX12 482 RX12 yX12_laysFrom cX12_laysFrom 5 none 3 := ⟨wM_363, wM_364, w_sel_X12_laysFrom, wM_143, wM_362, by decide +kernel, by decide⟩
theorem wM_365 : Cond.code yX12_markedRings prog_14_method_105_code 3 (some .int) ∈ zTB := zch_8 _ (List.mem_of_getElem? (i := 232) (by decide +kernel)) rfl
theorem wM_366 : Cond.methodLink "BalloonsMoorModel" 486 yX12_markedRings ∈ zTB := zch_8 _ (List.mem_of_getElem? (i := 229) (by decide +kernel)) rfl
theorem wM_367 : Cond.instanceMethod yX12_markedRings ∈ zTB := zch_8 _ (List.mem_of_getElem? (i := 231) (by decide +kernel)) rfl
theorem w_sel_X12_markedRings : Cond.selects RX12 yX12_markedRings yX12_markedRings ∈ zTB := zch_0 _ (List.mem_of_getElem? (i := 103) (by decide +kernel)) rfl
theorem kk_RX12_486 : zKV RX12 486 RX12 yX12_markedRings cX12_markedRings 3 (some .int) 0 := ⟨wM_366, wM_367, w_sel_X12_markedRings, wM_143, wM_365, by decide +kernel, by decide⟩
theorem wM_368 : Cond.code yX12_laysWays prog_14_method_107_code 1 (none) ∈ zTB := zch_8 _ (List.mem_of_getElem? (i := 228) (by decide +kernel)) rfl
theorem wM_369 : Cond.methodLink "BalloonsMoorModel" 489 yX12_laysWays ∈ zTB := zch_8 _ (List.mem_of_getElem? (i := 225) (by decide +kernel)) rfl
theorem wM_370 : Cond.instanceMethod yX12_laysWays ∈ zTB := zch_8 _ (List.mem_of_getElem? (i := 227) (by decide +kernel)) rfl
theorem w_sel_X12_laysWays : Cond.selects RX12 yX12_laysWays yX12_laysWays ∈ zTB := zch_0 _ (List.mem_of_getElem? (i := 102) (by decide +kernel)) rfl
theorem kk_RX12_489 : zKV RX12 489 RX12 yX12_laysWays cX12_laysWays 1 none 0 := ⟨wM_369, wM_370, w_sel_X12_laysWays, wM_143, wM_368, by decide +kernel, by decide⟩
theorem wM_371 : Cond.code yX12_tellsLain prog_14_method_108_code 3 (none) ∈ zTB := zch_9 _ (List.mem_of_getElem? (i := 0) (by decide +kernel)) rfl
theorem wM_372 : Cond.methodLink "BalloonsMoorModel" 492 yX12_tellsLain ∈ zTB := zch_8 _ (List.mem_of_getElem? (i := 237) (by decide +kernel)) rfl
theorem wM_373 : Cond.instanceMethod yX12_tellsLain ∈ zTB := zch_8 _ (List.mem_of_getElem? (i := 239) (by decide +kernel)) rfl
theorem w_sel_X12_tellsLain : Cond.selects RX12 yX12_tellsLain yX12_tellsLain ∈ zTB := zch_0 _ (List.mem_of_getElem? (i := 105) (by decide +kernel)) rfl
theorem kk_RX12_492 : zKV RX12 492 RX12 yX12_tellsLain cX12_tellsLain 3 none 1 := ⟨wM_372, wM_373, w_sel_X12_tellsLain, wM_143, wM_371, by decide +kernel, by decide⟩
theorem wM_374 : Cond.code yX12_bets prog_14_method_111_code 11 (none) ∈ zTB := zch_9 _ (List.mem_of_getElem? (i := 15) (by decide +kernel)) rfl
theorem wM_375 : Cond.methodLink "BalloonsMoorModel" 508 yX12_bets ∈ zTB := zch_9 _ (List.mem_of_getElem? (i := 12) (by decide +kernel)) rfl
theorem wM_376 : Cond.instanceMethod yX12_bets ∈ zTB := zch_9 _ (List.mem_of_getElem? (i := 14) (by decide +kernel)) rfl
theorem w_sel_X12_bets : Cond.selects RX12 yX12_bets yX12_bets ∈ zTB := zch_0 _ (List.mem_of_getElem? (i := 106) (by decide +kernel)) rfl
theorem kk_RX12_508 : zKV RX12 508 RX12 yX12_bets cX12_bets 11 none 4 := ⟨wM_375, wM_376, w_sel_X12_bets, wM_143, wM_374, by decide +kernel, by decide⟩
theorem wM_377 : Cond.code yX12_tellsChance prog_14_method_112_code 3 (none) ∈ zTB := zch_9 _ (List.mem_of_getElem? (i := 19) (by decide +kernel)) rfl
theorem wM_378 : Cond.methodLink "BalloonsMoorModel" 512 yX12_tellsChance ∈ zTB := zch_9 _ (List.mem_of_getElem? (i := 16) (by decide +kernel)) rfl
theorem wM_379 : Cond.instanceMethod yX12_tellsChance ∈ zTB := zch_9 _ (List.mem_of_getElem? (i := 18) (by decide +kernel)) rfl
theorem w_sel_X12_tellsChance : Cond.selects RX12 yX12_tellsChance yX12_tellsChance ∈ zTB := zch_0 _ (List.mem_of_getElem? (i := 107) (by decide +kernel)) rfl
theorem kk_RX12_512 : zKV RX12 512 RX12 yX12_tellsChance cX12_tellsChance 3 none 0 := ⟨wM_378, wM_379, w_sel_X12_tellsChance, wM_143, wM_377, by decide +kernel, by decide⟩
theorem wM_380 : Cond.code yX12_allBy prog_14_method_118_code 4 (some .int) ∈ zTB := zch_9 _ (List.mem_of_getElem? (i := 47) (by decide +kernel)) rfl
theorem wM_381 : Cond.methodLink "BalloonsMoorModel" 516 yX12_allBy ∈ zTB := zch_9 _ (List.mem_of_getElem? (i := 44) (by decide +kernel)) rfl
theorem wM_382 : Cond.instanceMethod yX12_allBy ∈ zTB := zch_9 _ (List.mem_of_getElem? (i := 46) (by decide +kernel)) rfl
theorem w_sel_X12_allBy : Cond.selects RX12 yX12_allBy yX12_allBy ∈ zTB := zch_0 _ (List.mem_of_getElem? (i := 108) (by decide +kernel)) rfl
theorem kk_RX12_516 : zKV RX12 516 RX12 yX12_allBy cX12_allBy 4 (some .int) 1 := ⟨wM_381, wM_382, w_sel_X12_allBy, wM_143, wM_380, by decide +kernel, by decide⟩
theorem wM_0 : Cond.constantLong "BalloonsMoorModel" 160 48 ∈ zTB := zch_7 _ (List.mem_of_getElem? (i := 30) (by decide +kernel)) rfl
theorem wM_1 : Cond.constantLong "BalloonsMoorModel" 162 57 ∈ zTB := zch_7 _ (List.mem_of_getElem? (i := 31) (by decide +kernel)) rfl
theorem wM_2 : Cond.constantLong "BalloonsMoorModel" 274 4 ∈ zTB := zch_7 _ (List.mem_of_getElem? (i := 147) (by decide +kernel)) rfl
theorem wM_3 : Cond.constantLong "BalloonsMoorModel" 285 9 ∈ zTB := zch_7 _ (List.mem_of_getElem? (i := 168) (by decide +kernel)) rfl
theorem wM_4 : Cond.constantLong "BalloonsMoorModel" 299 3 ∈ zTB := zch_7 _ (List.mem_of_getElem? (i := 207) (by decide +kernel)) rfl
theorem wM_5 : Cond.constantLong "BalloonsMoorModel" 318 99 ∈ zTB := zch_8 _ (List.mem_of_getElem? (i := 43) (by decide +kernel)) rfl
theorem wM_6 : Cond.constantLong "BalloonsMoorModel" 338 (-9) ∈ zTB := zch_8 _ (List.mem_of_getElem? (i := 66) (by decide +kernel)) rfl
theorem wM_7 : Cond.constantLong "BalloonsMoorModel" 403 60 ∈ zTB := zch_8 _ (List.mem_of_getElem? (i := 112) (by decide +kernel)) rfl
theorem wM_8 : Cond.constantLong "BalloonsMoorModel" 453 6 ∈ zTB := zch_8 _ (List.mem_of_getElem? (i := 157) (by decide +kernel)) rfl
theorem wM_9 : Cond.constantLong "BalloonsMoorModel" 471 2 ∈ zTB := zch_8 _ (List.mem_of_getElem? (i := 208) (by decide +kernel)) rfl
theorem wM_10 : Cond.constantLong "BalloonsMoorModel" 502 10 ∈ zTB := zch_9 _ (List.mem_of_getElem? (i := 10) (by decide +kernel)) rfl
theorem wM_11 : Cond.constantLong "BalloonsMoorModel" 504 8 ∈ zTB := zch_9 _ (List.mem_of_getElem? (i := 9) (by decide +kernel)) rfl
theorem wM_12 : Cond.constantLong "BalloonsMoorModel" 506 18 ∈ zTB := zch_9 _ (List.mem_of_getElem? (i := 11) (by decide +kernel)) rfl
theorem wM_13 : Cond.constant "BalloonsMoorModel" 515 1103515245 ∈ zTB := zch_9 _ (List.mem_of_getElem? (i := 31) (by decide +kernel)) rfl
theorem qM_iconst_1 : Int32.ofInt 1 = (1 : Int32) := by decide
theorem qM_iconst_0 : Int32.ofInt 0 = (0 : Int32) := by decide
theorem qM_bipush_7 : (Int8.ofInt 7).toInt32 = (7 : Int32) := by decide
theorem qM_iconst_3 : Int32.ofInt 3 = (3 : Int32) := by decide
theorem qM_bipush_76 : (Int8.ofInt 76).toInt32 = (76 : Int32) := by decide
theorem qM_iconst_4 : Int32.ofInt 4 = (4 : Int32) := by decide
theorem qM_bipush_24 : (Int8.ofInt 24).toInt32 = (24 : Int32) := by decide
theorem qM_bipush_8 : (Int8.ofInt 8).toInt32 = (8 : Int32) := by decide
theorem qM_sipush_255 : (Int16.ofInt 255).toInt32 = (255 : Int32) := by decide
theorem qM_iconst_m1 : Int32.ofInt (-1) = (-1 : Int32) := by decide
theorem qM_bipush_10 : (Int8.ofInt 10).toInt32 = (10 : Int32) := by decide
theorem qM_bipush_48 : (Int8.ofInt 48).toInt32 = (48 : Int32) := by decide
theorem qM_iconst_2 : Int32.ofInt 2 = (2 : Int32) := by decide
theorem qM_bipush_23 : (Int8.ofInt 23).toInt32 = (23 : Int32) := by decide
theorem qM_bipush_59 : (Int8.ofInt 59).toInt32 = (59 : Int32) := by decide
theorem qM_bipush_42 : (Int8.ofInt 42).toInt32 = (42 : Int32) := by decide
theorem qM_bipush_6 : (Int8.ofInt 6).toInt32 = (6 : Int32) := by decide
theorem qM_iconst_5 : Int32.ofInt 5 = (5 : Int32) := by decide
theorem qM_bipush_44 : (Int8.ofInt 44).toInt32 = (44 : Int32) := by decide
theorem qM_bipush_47 : (Int8.ofInt 47).toInt32 = (47 : Int32) := by decide
theorem qM_bipush_45 : (Int8.ofInt 45).toInt32 = (45 : Int32) := by decide
theorem qM_bipush_29 : (Int8.ofInt 29).toInt32 = (29 : Int32) := by decide
theorem qM_bipush_40 : (Int8.ofInt 40).toInt32 = (40 : Int32) := by decide
theorem qM_bipush_41 : (Int8.ofInt 41).toInt32 = (41 : Int32) := by decide
theorem qM_sipush_1000 : (Int16.ofInt 1000).toInt32 = (1000 : Int32) := by decide
theorem qM_sipush_3000 : (Int16.ofInt 3000).toInt32 = (3000 : Int32) := by decide
theorem qM_sipush_2000 : (Int16.ofInt 2000).toInt32 = (2000 : Int32) := by decide
theorem qM_bipush_9 : (Int8.ofInt 9).toInt32 = (9 : Int32) := by decide
theorem qM_bipush_19 : (Int8.ofInt 19).toInt32 = (19 : Int32) := by decide
theorem qM_bipush_99 : (Int8.ofInt 99).toInt32 = (99 : Int32) := by decide
theorem qM_bipush_m3 : (Int8.ofInt (-3)).toInt32 = (-3 : Int32) := by decide
theorem qM_bipush_m2 : (Int8.ofInt (-2)).toInt32 = (-2 : Int32) := by decide
theorem qM_bipush_43 : (Int8.ofInt 43).toInt32 = (43 : Int32) := by decide
theorem qM_bipush_15 : (Int8.ofInt 15).toInt32 = (15 : Int32) := by decide
theorem qM_sipush_645 : (Int16.ofInt 645).toInt32 = (645 : Int32) := by decide
theorem qM_bipush_m5 : (Int8.ofInt (-5)).toInt32 = (-5 : Int32) := by decide
theorem qM_bipush_m4 : (Int8.ofInt (-4)).toInt32 = (-4 : Int32) := by decide
theorem qM_bipush_60 : (Int8.ofInt 60).toInt32 = (60 : Int32) := by decide
theorem qM_bipush_12 : (Int8.ofInt 12).toInt32 = (12 : Int32) := by decide
theorem qM_sipush_12345 : (Int16.ofInt 12345).toInt32 = (12345 : Int32) := by decide
theorem qM_bipush_16 : (Int8.ofInt 16).toInt32 = (16 : Int32) := by decide
theorem qM_bipush_m100 : (Int8.ofInt (-100)).toInt32 = (-100 : Int32) := by decide
