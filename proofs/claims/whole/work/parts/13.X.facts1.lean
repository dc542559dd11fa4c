theorem w_13 : Cond.laysFinal "BalloonsMoor$Acts" "BalloonsMoor$Acts" "kind" "[I" ∈ zTB := zch_2 _ (List.mem_of_getElem? (i := 86) (by decide +kernel)) rfl
theorem w_14 : Cond.laysFinal "BalloonsMoor$Acts" "BalloonsMoor$Acts" "first" "[I" ∈ zTB := zch_2 _ (List.mem_of_getElem? (i := 88) (by decide +kernel)) rfl
theorem w_15 : Cond.laysFinal "BalloonsMoor$Acts" "BalloonsMoor$Acts" "second" "[I" ∈ zTB := zch_2 _ (List.mem_of_getElem? (i := 90) (by decide +kernel)) rfl
theorem w_16 : Cond.lays "BalloonsMoor$Acts" "BalloonsMoor$Acts" "size" "I" ∈ zTB := zch_2 _ (List.mem_of_getElem? (i := 92) (by decide +kernel)) rfl
theorem inTB_0 : ∀ w ∈ u_ws RX0 TX0 4, w ∈ zTB := zcons w_13 (zcons w_14 (zcons w_15 (zcons w_16 (znil))))
theorem w_17 : Cond.laysFinal "BalloonsMoor$Answers" "BalloonsMoor$Answers" "numbers" "[J" ∈ zTB := zch_2 _ (List.mem_of_getElem? (i := 21) (by decide +kernel)) rfl
theorem w_18 : Cond.lays "BalloonsMoor$Answers" "BalloonsMoor$Answers" "size" "I" ∈ zTB := zch_2 _ (List.mem_of_getElem? (i := 23) (by decide +kernel)) rfl
theorem inTB_1 : ∀ w ∈ u_ws RX1 TX1 2, w ∈ zTB := zcons w_17 (zcons w_18 (znil))
theorem w_19 : Cond.laysFinal "BalloonsMoor$Berths" "BalloonsMoor$Berths" "rings" "LBalloonsMoor$Tower;" ∈ zTB := zch_2 _ (List.mem_of_getElem? (i := 110) (by decide +kernel)) rfl
theorem w_20 : Cond.laysFinal "BalloonsMoor$Berths" "BalloonsMoor$Berths" "flock" "LBalloonsMoor$Flock;" ∈ zTB := zch_2 _ (List.mem_of_getElem? (i := 112) (by decide +kernel)) rfl
theorem w_21 : Cond.laysFinal "BalloonsMoor$Berths" "BalloonsMoor$Berths" "weight" "[I" ∈ zTB := zch_2 _ (List.mem_of_getElem? (i := 114) (by decide +kernel)) rfl
theorem w_22 : Cond.laysFinal "BalloonsMoor$Berths" "BalloonsMoor$Berths" "place" "[I" ∈ zTB := zch_2 _ (List.mem_of_getElem? (i := 116) (by decide +kernel)) rfl
theorem w_23 : Cond.laysFinal "BalloonsMoor$Berths" "BalloonsMoor$Berths" "least" "[I" ∈ zTB := zch_2 _ (List.mem_of_getElem? (i := 118) (by decide +kernel)) rfl
theorem w_24 : Cond.lays "BalloonsMoor$Berths" "BalloonsMoor$Berths" "found" "Z" ∈ zTB := zch_2 _ (List.mem_of_getElem? (i := 120) (by decide +kernel)) rfl
theorem w_25 : Cond.lays "BalloonsMoor$Berths" "BalloonsMoor$Berths" "size" "I" ∈ zTB := zch_2 _ (List.mem_of_getElem? (i := 122) (by decide +kernel)) rfl
theorem inTB_2 : ∀ w ∈ u_ws RX2 TX2 7, w ∈ zTB := zcons w_19 (zcons w_20 (zcons w_21 (zcons w_22 (zcons w_23 (zcons w_24 (zcons w_25 (znil)))))))
theorem w_26 : Cond.laysFinal "BalloonsMoor$Flock" "BalloonsMoor$Flock" "rings" "LBalloonsMoor$Tower;" ∈ zTB := zch_1 _ (List.mem_of_getElem? (i := 187) (by decide +kernel)) rfl
theorem w_27 : Cond.laysFinal "BalloonsMoor$Flock" "BalloonsMoor$Flock" "air" "LBalloonsMoor$Winds;" ∈ zTB := zch_1 _ (List.mem_of_getElem? (i := 189) (by decide +kernel)) rfl
theorem w_28 : Cond.laysFinal "BalloonsMoor$Flock" "BalloonsMoor$Flock" "lifting" "LBalloonsMoor$Rule;" ∈ zTB := zch_1 _ (List.mem_of_getElem? (i := 191) (by decide +kernel)) rfl
theorem w_29 : Cond.laysFinal "BalloonsMoor$Flock" "BalloonsMoor$Flock" "facts" "[I" ∈ zTB := zch_1 _ (List.mem_of_getElem? (i := 193) (by decide +kernel)) rfl
theorem w_30 : Cond.laysFinal "BalloonsMoor$Flock" "BalloonsMoor$Flock" "foreseen" "[I" ∈ zTB := zch_1 _ (List.mem_of_getElem? (i := 195) (by decide +kernel)) rfl
theorem w_31 : Cond.laysFinal "BalloonsMoor$Flock" "BalloonsMoor$Flock" "gas" "[I" ∈ zTB := zch_1 _ (List.mem_of_getElem? (i := 197) (by decide +kernel)) rfl
theorem w_32 : Cond.laysFinal "BalloonsMoor$Flock" "BalloonsMoor$Flock" "sacks" "[I" ∈ zTB := zch_1 _ (List.mem_of_getElem? (i := 199) (by decide +kernel)) rfl
theorem w_33 : Cond.laysFinal "BalloonsMoor$Flock" "BalloonsMoor$Flock" "cargo" "[I" ∈ zTB := zch_1 _ (List.mem_of_getElem? (i := 201) (by decide +kernel)) rfl
theorem w_34 : Cond.laysFinal "BalloonsMoor$Flock" "BalloonsMoor$Flock" "rope" "[I" ∈ zTB := zch_1 _ (List.mem_of_getElem? (i := 203) (by decide +kernel)) rfl
theorem w_35 : Cond.laysFinal "BalloonsMoor$Flock" "BalloonsMoor$Flock" "leak" "[I" ∈ zTB := zch_1 _ (List.mem_of_getElem? (i := 205) (by decide +kernel)) rfl
theorem w_36 : Cond.laysFinal "BalloonsMoor$Flock" "BalloonsMoor$Flock" "where" "[I" ∈ zTB := zch_1 _ (List.mem_of_getElem? (i := 207) (by decide +kernel)) rfl
theorem w_37 : Cond.laysFinal "BalloonsMoor$Flock" "BalloonsMoor$Flock" "ring" "[I" ∈ zTB := zch_1 _ (List.mem_of_getElem? (i := 209) (by decide +kernel)) rfl
theorem w_38 : Cond.laysFinal "BalloonsMoor$Flock" "BalloonsMoor$Flock" "x" "[I" ∈ zTB := zch_1 _ (List.mem_of_getElem? (i := 211) (by decide +kernel)) rfl
theorem w_39 : Cond.laysFinal "BalloonsMoor$Flock" "BalloonsMoor$Flock" "y" "[I" ∈ zTB := zch_1 _ (List.mem_of_getElem? (i := 213) (by decide +kernel)) rfl
theorem w_40 : Cond.lays "BalloonsMoor$Flock" "BalloonsMoor$Flock" "size" "I" ∈ zTB := zch_1 _ (List.mem_of_getElem? (i := 215) (by decide +kernel)) rfl
theorem w_41 : Cond.lays "BalloonsMoor$Flock" "BalloonsMoor$Flock" "now" "I" ∈ zTB := zch_1 _ (List.mem_of_getElem? (i := 217) (by decide +kernel)) rfl
theorem w_42 : Cond.lays "BalloonsMoor$Flock" "BalloonsMoor$Flock" "rain" "I" ∈ zTB := zch_1 _ (List.mem_of_getElem? (i := 219) (by decide +kernel)) rfl
theorem w_43 : Cond.lays "BalloonsMoor$Flock" "BalloonsMoor$Flock" "cameDown" "I" ∈ zTB := zch_1 _ (List.mem_of_getElem? (i := 221) (by decide +kernel)) rfl
theorem w_44 : Cond.lays "BalloonsMoor$Flock" "BalloonsMoor$Flock" "wentLost" "I" ∈ zTB := zch_1 _ (List.mem_of_getElem? (i := 223) (by decide +kernel)) rfl
theorem inTB_3 : ∀ w ∈ u_ws RX3 TX3 19, w ∈ zTB := zcons w_26 (zcons w_27 (zcons w_28 (zcons w_29 (zcons w_30 (zcons w_31 (zcons w_32 (zcons w_33 (zcons w_34 (zcons w_35 (zcons w_36 (zcons w_37 (zcons w_38 (zcons w_39 (zcons w_40 (zcons w_41 (zcons w_42 (zcons w_43 (zcons w_44 (znil)))))))))))))))))))
theorem w_45 : Cond.laysFinal "BalloonsMoor$Landing" "BalloonsMoor$Landing" "flock" "LBalloonsMoor$Flock;" ∈ zTB := zch_2 _ (List.mem_of_getElem? (i := 146) (by decide +kernel)) rfl
theorem w_46 : Cond.laysFinal "BalloonsMoor$Landing" "BalloonsMoor$Landing" "air" "LBalloonsMoor$Winds;" ∈ zTB := zch_2 _ (List.mem_of_getElem? (i := 148) (by decide +kernel)) rfl
theorem w_47 : Cond.laysFinal "BalloonsMoor$Landing" "BalloonsMoor$Landing" "lift" "[I" ∈ zTB := zch_2 _ (List.mem_of_getElem? (i := 150) (by decide +kernel)) rfl
theorem w_48 : Cond.laysFinal "BalloonsMoor$Landing" "BalloonsMoor$Landing" "isNear" "[Z" ∈ zTB := zch_2 _ (List.mem_of_getElem? (i := 152) (by decide +kernel)) rfl
theorem w_49 : Cond.laysFinal "BalloonsMoor$Landing" "BalloonsMoor$Landing" "seen" "[J" ∈ zTB := zch_2 _ (List.mem_of_getElem? (i := 154) (by decide +kernel)) rfl
theorem w_50 : Cond.laysFinal "BalloonsMoor$Landing" "BalloonsMoor$Landing" "drops" "[I" ∈ zTB := zch_2 _ (List.mem_of_getElem? (i := 156) (by decide +kernel)) rfl
theorem w_51 : Cond.lays "BalloonsMoor$Landing" "BalloonsMoor$Landing" "balloon" "I" ∈ zTB := zch_2 _ (List.mem_of_getElem? (i := 158) (by decide +kernel)) rfl
theorem w_52 : Cond.lays "BalloonsMoor$Landing" "BalloonsMoor$Landing" "within" "I" ∈ zTB := zch_2 _ (List.mem_of_getElem? (i := 160) (by decide +kernel)) rfl
theorem w_53 : Cond.lays "BalloonsMoor$Landing" "BalloonsMoor$Landing" "most" "I" ∈ zTB := zch_2 _ (List.mem_of_getElem? (i := 162) (by decide +kernel)) rfl
theorem w_54 : Cond.lays "BalloonsMoor$Landing" "BalloonsMoor$Landing" "rope" "I" ∈ zTB := zch_2 _ (List.mem_of_getElem? (i := 164) (by decide +kernel)) rfl
theorem w_55 : Cond.lays "BalloonsMoor$Landing" "BalloonsMoor$Landing" "sacks" "I" ∈ zTB := zch_2 _ (List.mem_of_getElem? (i := 166) (by decide +kernel)) rfl
theorem w_56 : Cond.lays "BalloonsMoor$Landing" "BalloonsMoor$Landing" "hours" "I" ∈ zTB := zch_2 _ (List.mem_of_getElem? (i := 168) (by decide +kernel)) rfl
theorem inTB_4 : ∀ w ∈ u_ws RX4 TX4 12, w ∈ zTB := zcons w_45 (zcons w_46 (zcons w_47 (zcons w_48 (zcons w_49 (zcons w_50 (zcons w_51 (zcons w_52 (zcons w_53 (zcons w_54 (zcons w_55 (zcons w_56 (znil))))))))))))
theorem w_57 : Cond.laysFinal "BalloonsMoor$Marks" "BalloonsMoor$Marks" "ring" "[I" ∈ zTB := zch_2 _ (List.mem_of_getElem? (i := 49) (by decide +kernel)) rfl
theorem w_58 : Cond.laysFinal "BalloonsMoor$Marks" "BalloonsMoor$Marks" "what" "[I" ∈ zTB := zch_2 _ (List.mem_of_getElem? (i := 51) (by decide +kernel)) rfl
theorem w_59 : Cond.laysFinal "BalloonsMoor$Marks" "BalloonsMoor$Marks" "value" "[I" ∈ zTB := zch_2 _ (List.mem_of_getElem? (i := 53) (by decide +kernel)) rfl
theorem w_60 : Cond.laysFinal "BalloonsMoor$Marks" "BalloonsMoor$Marks" "seenRing" "[I" ∈ zTB := zch_2 _ (List.mem_of_getElem? (i := 55) (by decide +kernel)) rfl
theorem w_61 : Cond.laysFinal "BalloonsMoor$Marks" "BalloonsMoor$Marks" "fits" "[I" ∈ zTB := zch_2 _ (List.mem_of_getElem? (i := 57) (by decide +kernel)) rfl
theorem w_62 : Cond.laysFinal "BalloonsMoor$Marks" "BalloonsMoor$Marks" "who" "[I" ∈ zTB := zch_2 _ (List.mem_of_getElem? (i := 59) (by decide +kernel)) rfl
theorem w_63 : Cond.laysFinal "BalloonsMoor$Marks" "BalloonsMoor$Marks" "least" "[I" ∈ zTB := zch_2 _ (List.mem_of_getElem? (i := 61) (by decide +kernel)) rfl
theorem w_64 : Cond.lays "BalloonsMoor$Marks" "BalloonsMoor$Marks" "size" "I" ∈ zTB := zch_2 _ (List.mem_of_getElem? (i := 63) (by decide +kernel)) rfl
theorem w_65 : Cond.lays "BalloonsMoor$Marks" "BalloonsMoor$Marks" "seen" "I" ∈ zTB := zch_2 _ (List.mem_of_getElem? (i := 65) (by decide +kernel)) rfl
theorem w_66 : Cond.lays "BalloonsMoor$Marks" "BalloonsMoor$Marks" "same" "I" ∈ zTB := zch_2 _ (List.mem_of_getElem? (i := 67) (by decide +kernel)) rfl
theorem w_67 : Cond.lays "BalloonsMoor$Marks" "BalloonsMoor$Marks" "found" "I" ∈ zTB := zch_2 _ (List.mem_of_getElem? (i := 69) (by decide +kernel)) rfl
theorem inTB_5 : ∀ w ∈ u_ws RX5 TX5 11, w ∈ zTB := zcons w_57 (zcons w_58 (zcons w_59 (zcons w_60 (zcons w_61 (zcons w_62 (zcons w_63 (zcons w_64 (zcons w_65 (zcons w_66 (zcons w_67 (znil)))))))))))
theorem w_68 : Cond.laysFinal "BalloonsMoor$Past" "BalloonsMoor$Past" "ahead" "[I" ∈ zTB := zch_1 _ (List.mem_of_getElem? (i := 239) (by decide +kernel)) rfl
theorem w_69 : Cond.laysFinal "BalloonsMoor$Past" "BalloonsMoor$Past" "stored" "[I" ∈ zTB := zch_2 _ (List.mem_of_getElem? (i := 1) (by decide +kernel)) rfl
theorem w_70 : Cond.laysFinal "BalloonsMoor$Past" "BalloonsMoor$Past" "isStored" "[Z" ∈ zTB := zch_2 _ (List.mem_of_getElem? (i := 3) (by decide +kernel)) rfl
theorem w_71 : Cond.lays "BalloonsMoor$Past" "BalloonsMoor$Past" "slot" "I" ∈ zTB := zch_2 _ (List.mem_of_getElem? (i := 5) (by decide +kernel)) rfl
theorem w_72 : Cond.lays "BalloonsMoor$Past" "BalloonsMoor$Past" "size" "I" ∈ zTB := zch_2 _ (List.mem_of_getElem? (i := 7) (by decide +kernel)) rfl
theorem inTB_6 : ∀ w ∈ u_ws RX6 TX6 5, w ∈ zTB := zcons w_68 (zcons w_69 (zcons w_70 (zcons w_71 (zcons w_72 (znil)))))
theorem w_73 : Cond.laysFinal "BalloonsMoor$Rule" "BalloonsMoor$Rule" "steps" "[I" ∈ zTB := zch_1 _ (List.mem_of_getElem? (i := 130) (by decide +kernel)) rfl
theorem w_74 : Cond.laysFinal "BalloonsMoor$Rule" "BalloonsMoor$Rule" "draft" "[I" ∈ zTB := zch_1 _ (List.mem_of_getElem? (i := 132) (by decide +kernel)) rfl
theorem w_75 : Cond.laysFinal "BalloonsMoor$Rule" "BalloonsMoor$Rule" "stack" "[I" ∈ zTB := zch_1 _ (List.mem_of_getElem? (i := 134) (by decide +kernel)) rfl
theorem w_76 : Cond.lays "BalloonsMoor$Rule" "BalloonsMoor$Rule" "size" "I" ∈ zTB := zch_1 _ (List.mem_of_getElem? (i := 136) (by decide +kernel)) rfl
theorem w_77 : Cond.lays "BalloonsMoor$Rule" "BalloonsMoor$Rule" "drafted" "I" ∈ zTB := zch_1 _ (List.mem_of_getElem? (i := 138) (by decide +kernel)) rfl
theorem inTB_7 : ∀ w ∈ u_ws RX7 TX7 5, w ∈ zTB := zcons w_73 (zcons w_74 (zcons w_75 (zcons w_76 (zcons w_77 (znil)))))
theorem w_78 : Cond.laysFinal "BalloonsMoor$Told" "BalloonsMoor$Told" "signs" "[C" ∈ zTB := zch_1 _ (List.mem_of_getElem? (i := 45) (by decide +kernel)) rfl
theorem w_79 : Cond.lays "BalloonsMoor$Told" "BalloonsMoor$Told" "stop" "I" ∈ zTB := zch_1 _ (List.mem_of_getElem? (i := 47) (by decide +kernel)) rfl
theorem w_80 : Cond.lays "BalloonsMoor$Told" "BalloonsMoor$Told" "at" "I" ∈ zTB := zch_1 _ (List.mem_of_getElem? (i := 49) (by decide +kernel)) rfl
theorem w_81 : Cond.lays "BalloonsMoor$Told" "BalloonsMoor$Told" "size" "I" ∈ zTB := zch_1 _ (List.mem_of_getElem? (i := 51) (by decide +kernel)) rfl
theorem inTB_8 : ∀ w ∈ u_ws RX8 TX8 4, w ∈ zTB := zcons w_78 (zcons w_79 (zcons w_80 (zcons w_81 (znil))))
theorem w_82 : Cond.laysFinal "BalloonsMoor$Tower" "BalloonsMoor$Tower" "height" "[I" ∈ zTB := zch_1 _ (List.mem_of_getElem? (i := 72) (by decide +kernel)) rfl
theorem w_83 : Cond.laysFinal "BalloonsMoor$Tower" "BalloonsMoor$Tower" "side" "[I" ∈ zTB := zch_1 _ (List.mem_of_getElem? (i := 74) (by decide +kernel)) rfl
theorem w_84 : Cond.laysFinal "BalloonsMoor$Tower" "BalloonsMoor$Tower" "draft" "[I" ∈ zTB := zch_1 _ (List.mem_of_getElem? (i := 76) (by decide +kernel)) rfl
theorem w_85 : Cond.laysFinal "BalloonsMoor$Tower" "BalloonsMoor$Tower" "near" "[I" ∈ zTB := zch_1 _ (List.mem_of_getElem? (i := 78) (by decide +kernel)) rfl
theorem w_86 : Cond.laysFinal "BalloonsMoor$Tower" "BalloonsMoor$Tower" "lower" "[I" ∈ zTB := zch_1 _ (List.mem_of_getElem? (i := 80) (by decide +kernel)) rfl
theorem w_87 : Cond.laysFinal "BalloonsMoor$Tower" "BalloonsMoor$Tower" "higher" "[I" ∈ zTB := zch_1 _ (List.mem_of_getElem? (i := 82) (by decide +kernel)) rfl
theorem w_88 : Cond.lays "BalloonsMoor$Tower" "BalloonsMoor$Tower" "size" "I" ∈ zTB := zch_1 _ (List.mem_of_getElem? (i := 84) (by decide +kernel)) rfl
theorem inTB_9 : ∀ w ∈ u_ws RX9 TX9 7, w ∈ zTB := zcons w_82 (zcons w_83 (zcons w_84 (zcons w_85 (zcons w_86 (zcons w_87 (zcons w_88 (znil)))))))
theorem w_89 : Cond.laysFinal "BalloonsMoor$Winds" "BalloonsMoor$Winds" "whither" "[I" ∈ zTB := zch_1 _ (List.mem_of_getElem? (i := 108) (by decide +kernel)) rfl
theorem w_90 : Cond.laysFinal "BalloonsMoor$Winds" "BalloonsMoor$Winds" "strong" "[I" ∈ zTB := zch_1 _ (List.mem_of_getElem? (i := 110) (by decide +kernel)) rfl
theorem w_91 : Cond.laysFinal "BalloonsMoor$Winds" "BalloonsMoor$Winds" "east" "[I" ∈ zTB := zch_1 _ (List.mem_of_getElem? (i := 112) (by decide +kernel)) rfl
theorem w_92 : Cond.laysFinal "BalloonsMoor$Winds" "BalloonsMoor$Winds" "south" "[I" ∈ zTB := zch_1 _ (List.mem_of_getElem? (i := 114) (by decide +kernel)) rfl
theorem w_93 : Cond.laysFinal "BalloonsMoor$Winds" "BalloonsMoor$Winds" "draft" "[I" ∈ zTB := zch_1 _ (List.mem_of_getElem? (i := 116) (by decide +kernel)) rfl
theorem inTB_10 : ∀ w ∈ u_ws RX10 TX10 5, w ∈ zTB := zcons w_89 (zcons w_90 (zcons w_91 (zcons w_92 (zcons w_93 (znil)))))
theorem w_94 : Cond.laysFinal "BalloonsMoor" "BalloonsMoor" "told" "LBalloonsMoor$Told;" ∈ zTB := zch_2 _ (List.mem_of_getElem? (i := 183) (by decide +kernel)) rfl
theorem w_95 : Cond.laysFinal "BalloonsMoor" "BalloonsMoor" "rings" "LBalloonsMoor$Tower;" ∈ zTB := zch_2 _ (List.mem_of_getElem? (i := 185) (by decide +kernel)) rfl
theorem w_96 : Cond.laysFinal "BalloonsMoor" "BalloonsMoor" "air" "LBalloonsMoor$Winds;" ∈ zTB := zch_2 _ (List.mem_of_getElem? (i := 187) (by decide +kernel)) rfl
theorem w_97 : Cond.laysFinal "BalloonsMoor" "BalloonsMoor" "lifting" "LBalloonsMoor$Rule;" ∈ zTB := zch_2 _ (List.mem_of_getElem? (i := 189) (by decide +kernel)) rfl
theorem w_98 : Cond.laysFinal "BalloonsMoor" "BalloonsMoor" "flock" "LBalloonsMoor$Flock;" ∈ zTB := zch_2 _ (List.mem_of_getElem? (i := 191) (by decide +kernel)) rfl
theorem w_99 : Cond.laysFinal "BalloonsMoor" "BalloonsMoor" "dream" "LBalloonsMoor$Flock;" ∈ zTB := zch_2 _ (List.mem_of_getElem? (i := 193) (by decide +kernel)) rfl
theorem w_100 : Cond.laysFinal "BalloonsMoor" "BalloonsMoor" "past" "LBalloonsMoor$Past;" ∈ zTB := zch_2 _ (List.mem_of_getElem? (i := 195) (by decide +kernel)) rfl
theorem w_101 : Cond.laysFinal "BalloonsMoor" "BalloonsMoor" "answers" "LBalloonsMoor$Answers;" ∈ zTB := zch_2 _ (List.mem_of_getElem? (i := 197) (by decide +kernel)) rfl
theorem w_102 : Cond.laysFinal "BalloonsMoor" "BalloonsMoor" "marks" "LBalloonsMoor$Marks;" ∈ zTB := zch_2 _ (List.mem_of_getElem? (i := 199) (by decide +kernel)) rfl
theorem w_103 : Cond.laysFinal "BalloonsMoor" "BalloonsMoor" "acts" "LBalloonsMoor$Acts;" ∈ zTB := zch_2 _ (List.mem_of_getElem? (i := 201) (by decide +kernel)) rfl
theorem w_104 : Cond.laysFinal "BalloonsMoor" "BalloonsMoor" "berthing" "LBalloonsMoor$Berths;" ∈ zTB := zch_2 _ (List.mem_of_getElem? (i := 203) (by decide +kernel)) rfl
theorem w_105 : Cond.laysFinal "BalloonsMoor" "BalloonsMoor" "landing" "LBalloonsMoor$Landing;" ∈ zTB := zch_2 _ (List.mem_of_getElem? (i := 205) (by decide +kernel)) rfl
theorem inTB_11 : ∀ w ∈ u_ws RX11 TX11 12, w ∈ zTB := zcons w_94 (zcons w_95 (zcons w_96 (zcons w_97 (zcons w_98 (zcons w_99 (zcons w_100 (zcons w_101 (zcons w_102 (zcons w_103 (zcons w_104 (zcons w_105 (znil))))))))))))
theorem w_106 : Cond.fieldLink "BalloonsMoor$Told" 19 "BalloonsMoor$Told" "at" "I" ∈ zTB := zch_1 _ (List.mem_of_getElem? (i := 42) (by decide +kernel)) rfl
theorem fk_RX8_19 : zF RX8 19 8 2 .int false := ⟨RX8, TX8, 4, tyX8, rfl, inTB_8, by decide, w_106, tyX8_ok, nmX8, by decide +kernel, rfl⟩
theorem w_107 : Cond.fieldLink "BalloonsMoor$Told" 15 "BalloonsMoor$Told" "size" "I" ∈ zTB := zch_1 _ (List.mem_of_getElem? (i := 43) (by decide +kernel)) rfl
theorem fk_RX8_15 : zF RX8 15 8 3 .int false := ⟨RX8, TX8, 4, tyX8, rfl, inTB_8, by decide, w_107, tyX8_ok, nmX8, by decide +kernel, rfl⟩
theorem w_108 : Cond.fieldLink "BalloonsMoor$Told" 28 "BalloonsMoor$Told" "stop" "I" ∈ zTB := zch_1 _ (List.mem_of_getElem? (i := 41) (by decide +kernel)) rfl
theorem fk_RX8_28 : zF RX8 28 8 1 .int false := ⟨RX8, TX8, 4, tyX8, rfl, inTB_8, by decide, w_108, tyX8_ok, nmX8, by decide +kernel, rfl⟩
theorem w_109 : Cond.fieldLink "BalloonsMoor$Told" 9 "BalloonsMoor$Told" "signs" "[C" ∈ zTB := zch_1 _ (List.mem_of_getElem? (i := 40) (by decide +kernel)) rfl
theorem fk_RX8_9 : zF RX8 9 8 0 (.array .char) true := ⟨RX8, TX8, 4, tyX8, rfl, inTB_8, by decide, w_109, tyX8_ok, nmX8, by decide +kernel, rfl⟩
theorem w_110 : Cond.fieldLink "BalloonsMoor$Acts" 15 "BalloonsMoor$Acts" "first" "[I" ∈ zTB := zch_2 _ (List.mem_of_getElem? (i := 80) (by decide +kernel)) rfl
theorem fk_RX0_15 : zF RX0 15 0 1 (.array .int) true := ⟨RX0, TX0, 4, tyX0, rfl, inTB_0, by decide, w_110, tyX0_ok, nmX0, by decide +kernel, rfl⟩
theorem w_111 : Cond.fieldLink "BalloonsMoor$Acts" 18 "BalloonsMoor$Acts" "second" "[I" ∈ zTB := zch_2 _ (List.mem_of_getElem? (i := 82) (by decide +kernel)) rfl
theorem fk_RX0_18 : zF RX0 18 0 2 (.array .int) true := ⟨RX0, TX0, 4, tyX0, rfl, inTB_0, by decide, w_111, tyX0_ok, nmX0, by decide +kernel, rfl⟩
theorem w_112 : Cond.fieldLink "BalloonsMoor$Acts" 9 "BalloonsMoor$Acts" "kind" "[I" ∈ zTB := zch_2 _ (List.mem_of_getElem? (i := 78) (by decide +kernel)) rfl
theorem fk_RX0_9 : zF RX0 9 0 0 (.array .int) true := ⟨RX0, TX0, 4, tyX0, rfl, inTB_0, by decide, w_112, tyX0_ok, nmX0, by decide +kernel, rfl⟩
theorem w_113 : Cond.fieldLink "BalloonsMoor$Acts" 21 "BalloonsMoor$Acts" "size" "I" ∈ zTB := zch_2 _ (List.mem_of_getElem? (i := 84) (by decide +kernel)) rfl
theorem fk_RX0_21 : zF RX0 21 0 3 .int false := ⟨RX0, TX0, 4, tyX0, rfl, inTB_0, by decide, w_113, tyX0_ok, nmX0, by decide +kernel, rfl⟩
theorem w_114 : Cond.fieldLink "BalloonsMoor$Answers" 13 "BalloonsMoor$Answers" "size" "I" ∈ zTB := zch_2 _ (List.mem_of_getElem? (i := 19) (by decide +kernel)) rfl
theorem fk_RX1_13 : zF RX1 13 1 1 .int false := ⟨RX1, TX1, 2, tyX1, rfl, inTB_1, by decide, w_114, tyX1_ok, nmX1, by decide +kernel, rfl⟩
theorem w_115 : Cond.fieldLink "BalloonsMoor$Answers" 9 "BalloonsMoor$Answers" "numbers" "[J" ∈ zTB := zch_2 _ (List.mem_of_getElem? (i := 17) (by decide +kernel)) rfl
theorem fk_RX1_9 : zF RX1 9 1 0 (.array .long) true := ⟨RX1, TX1, 2, tyX1, rfl, inTB_1, by decide, w_115, tyX1_ok, nmX1, by decide +kernel, rfl⟩
theorem w_116 : Cond.fieldLink "BalloonsMoor$Flock" 59 "BalloonsMoor$Flock" "size" "I" ∈ zTB := zch_1 _ (List.mem_of_getElem? (i := 175) (by decide +kernel)) rfl
theorem fk_RX3_59 : zF RX3 59 3 14 .int false := ⟨RX3, TX3, 19, tyX3, rfl, inTB_3, by decide, w_116, tyX3_ok, nmX3, by decide +kernel, rfl⟩
theorem w_117 : Cond.fieldLink "BalloonsMoor$Flock" 23 "BalloonsMoor$Flock" "sacks" "[I" ∈ zTB := zch_1 _ (List.mem_of_getElem? (i := 155) (by decide +kernel)) rfl
theorem fk_RX3_23 : zF RX3 23 3 6 (.array .int) true := ⟨RX3, TX3, 19, tyX3, rfl, inTB_3, by decide, w_117, tyX3_ok, nmX3, by decide +kernel, rfl⟩
theorem w_118 : Cond.fieldLink "BalloonsMoor$Flock" 26 "BalloonsMoor$Flock" "cargo" "[I" ∈ zTB := zch_1 _ (List.mem_of_getElem? (i := 158) (by decide +kernel)) rfl
theorem fk_RX3_26 : zF RX3 26 3 7 (.array .int) true := ⟨RX3, TX3, 19, tyX3, rfl, inTB_3, by decide, w_118, tyX3_ok, nmX3, by decide +kernel, rfl⟩
theorem w_119 : Cond.fieldLink "BalloonsMoor$Berths" 29 "BalloonsMoor$Berths" "size" "I" ∈ zTB := zch_2 _ (List.mem_of_getElem? (i := 108) (by decide +kernel)) rfl
theorem fk_RX2_29 : zF RX2 29 2 6 .int false := ⟨RX2, TX2, 7, tyX2, rfl, inTB_2, by decide, w_119, tyX2_ok, nmX2, by decide +kernel, rfl⟩
theorem w_120 : Cond.fieldLink "BalloonsMoor$Berths" 25 "BalloonsMoor$Berths" "flock" "LBalloonsMoor$Flock;" ∈ zTB := zch_2 _ (List.mem_of_getElem? (i := 102) (by decide +kernel)) rfl
theorem fk_RX2_25 : zF RX2 25 2 1 (.object "BalloonsMoor$Flock") true := ⟨RX2, TX2, 7, tyX2, rfl, inTB_2, by decide, w_120, tyX2_ok, nmX2, by decide +kernel, rfl⟩
theorem w_121 : Cond.fieldLink "BalloonsMoor$Berths" 33 "BalloonsMoor$Flock" "size" "I" ∈ zTB := zch_1 _ (List.mem_of_getElem? (i := 176) (by decide +kernel)) rfl
theorem fk_RX2_33 : zF RX2 33 3 14 .int false := ⟨RX3, TX3, 19, tyX3, rfl, inTB_3, by decide, w_121, tyX3_ok, nmX3, by decide +kernel, rfl⟩
theorem w_122 : Cond.fieldLink "BalloonsMoor$Berths" 9 "BalloonsMoor$Berths" "weight" "[I" ∈ zTB := zch_2 _ (List.mem_of_getElem? (i := 103) (by decide +kernel)) rfl
theorem fk_RX2_9 : zF RX2 9 2 2 (.array .int) true := ⟨RX2, TX2, 7, tyX2, rfl, inTB_2, by decide, w_122, tyX2_ok, nmX2, by decide +kernel, rfl⟩
theorem w_123 : Cond.fieldLink "BalloonsMoor$Tower" 30 "BalloonsMoor$Tower" "size" "I" ∈ zTB := zch_1 _ (List.mem_of_getElem? (i := 69) (by decide +kernel)) rfl
theorem fk_RX9_30 : zF RX9 30 9 6 .int false := ⟨RX9, TX9, 7, tyX9, rfl, inTB_9, by decide, w_123, tyX9_ok, nmX9, by decide +kernel, rfl⟩
theorem w_124 : Cond.fieldLink "BalloonsMoor$Tower" 21 "BalloonsMoor$Tower" "near" "[I" ∈ zTB := zch_1 _ (List.mem_of_getElem? (i := 66) (by decide +kernel)) rfl
theorem fk_RX9_21 : zF RX9 21 9 3 (.array .int) true := ⟨RX9, TX9, 7, tyX9, rfl, inTB_9, by decide, w_124, tyX9_ok, nmX9, by decide +kernel, rfl⟩
theorem w_125 : Cond.fieldLink "BalloonsMoor$Tower" 27 "BalloonsMoor$Tower" "higher" "[I" ∈ zTB := zch_1 _ (List.mem_of_getElem? (i := 68) (by decide +kernel)) rfl
theorem fk_RX9_27 : zF RX9 27 9 5 (.array .int) true := ⟨RX9, TX9, 7, tyX9, rfl, inTB_9, by decide, w_125, tyX9_ok, nmX9, by decide +kernel, rfl⟩
theorem w_126 : Cond.fieldLink "BalloonsMoor$Tower" 24 "BalloonsMoor$Tower" "lower" "[I" ∈ zTB := zch_1 _ (List.mem_of_getElem? (i := 67) (by decide +kernel)) rfl
theorem fk_RX9_24 : zF RX9 24 9 4 (.array .int) true := ⟨RX9, TX9, 7, tyX9, rfl, inTB_9, by decide, w_126, tyX9_ok, nmX9, by decide +kernel, rfl⟩
theorem w_127 : Cond.fieldLink "BalloonsMoor$Berths" 21 "BalloonsMoor$Berths" "rings" "LBalloonsMoor$Tower;" ∈ zTB := zch_2 _ (List.mem_of_getElem? (i := 101) (by decide +kernel)) rfl
theorem fk_RX2_21 : zF RX2 21 2 0 (.object "BalloonsMoor$Tower") true := ⟨RX2, TX2, 7, tyX2, rfl, inTB_2, by decide, w_127, tyX2_ok, nmX2, by decide +kernel, rfl⟩
theorem w_128 : Cond.fieldLink "BalloonsMoor$Berths" 62 "BalloonsMoor$Tower" "size" "I" ∈ zTB := zch_1 _ (List.mem_of_getElem? (i := 70) (by decide +kernel)) rfl
theorem fk_RX2_62 : zF RX2 62 9 6 .int false := ⟨RX9, TX9, 7, tyX9, rfl, inTB_9, by decide, w_128, tyX9_ok, nmX9, by decide +kernel, rfl⟩
theorem w_129 : Cond.fieldLink "BalloonsMoor$Berths" 15 "BalloonsMoor$Berths" "place" "[I" ∈ zTB := zch_2 _ (List.mem_of_getElem? (i := 104) (by decide +kernel)) rfl
theorem fk_RX2_15 : zF RX2 15 2 3 (.array .int) true := ⟨RX2, TX2, 7, tyX2, rfl, inTB_2, by decide, w_129, tyX2_ok, nmX2, by decide +kernel, rfl⟩
theorem w_130 : Cond.fieldLink "BalloonsMoor$Berths" 40 "BalloonsMoor$Berths" "found" "Z" ∈ zTB := zch_2 _ (List.mem_of_getElem? (i := 107) (by decide +kernel)) rfl
theorem fk_RX2_40 : zF RX2 40 2 5 .boolean false := ⟨RX2, TX2, 7, tyX2, rfl, inTB_2, by decide, w_130, tyX2_ok, nmX2, by decide +kernel, rfl⟩
theorem w_131 : Cond.fieldLink "BalloonsMoor$Berths" 18 "BalloonsMoor$Berths" "least" "[I" ∈ zTB := zch_2 _ (List.mem_of_getElem? (i := 105) (by decide +kernel)) rfl
theorem fk_RX2_18 : zF RX2 18 2 4 (.array .int) true := ⟨RX2, TX2, 7, tyX2, rfl, inTB_2, by decide, w_131, tyX2_ok, nmX2, by decide +kernel, rfl⟩
theorem w_132 : Cond.fieldLink "BalloonsMoor$Flock" 63 "BalloonsMoor$Flock" "now" "I" ∈ zTB := zch_1 _ (List.mem_of_getElem? (i := 179) (by decide +kernel)) rfl
theorem fk_RX3_63 : zF RX3 63 3 15 .int false := ⟨RX3, TX3, 19, tyX3, rfl, inTB_3, by decide, w_132, tyX3_ok, nmX3, by decide +kernel, rfl⟩
theorem w_133 : Cond.fieldLink "BalloonsMoor$Flock" 20 "BalloonsMoor$Flock" "gas" "[I" ∈ zTB := zch_1 _ (List.mem_of_getElem? (i := 152) (by decide +kernel)) rfl
theorem fk_RX3_20 : zF RX3 20 3 5 (.array .int) true := ⟨RX3, TX3, 19, tyX3, rfl, inTB_3, by decide, w_133, tyX3_ok, nmX3, by decide +kernel, rfl⟩
theorem w_134 : Cond.fieldLink "BalloonsMoor$Flock" 29 "BalloonsMoor$Flock" "rope" "[I" ∈ zTB := zch_1 _ (List.mem_of_getElem? (i := 160) (by decide +kernel)) rfl
theorem fk_RX3_29 : zF RX3 29 3 8 (.array .int) true := ⟨RX3, TX3, 19, tyX3, rfl, inTB_3, by decide, w_134, tyX3_ok, nmX3, by decide +kernel, rfl⟩
theorem w_135 : Cond.fieldLink "BalloonsMoor$Flock" 32 "BalloonsMoor$Flock" "leak" "[I" ∈ zTB := zch_1 _ (List.mem_of_getElem? (i := 164) (by decide +kernel)) rfl
theorem fk_RX3_32 : zF RX3 32 3 9 (.array .int) true := ⟨RX3, TX3, 19, tyX3, rfl, inTB_3, by decide, w_135, tyX3_ok, nmX3, by decide +kernel, rfl⟩
theorem w_136 : Cond.fieldLink "BalloonsMoor$Flock" 35 "BalloonsMoor$Flock" "where" "[I" ∈ zTB := zch_1 _ (List.mem_of_getElem? (i := 167) (by decide +kernel)) rfl
theorem fk_RX3_35 : zF RX3 35 3 10 (.array .int) true := ⟨RX3, TX3, 19, tyX3, rfl, inTB_3, by decide, w_136, tyX3_ok, nmX3, by decide +kernel, rfl⟩
theorem w_137 : Cond.fieldLink "BalloonsMoor$Rule" 35 "BalloonsMoor$Rule" "size" "I" ∈ zTB := zch_1 _ (List.mem_of_getElem? (i := 128) (by decide +kernel)) rfl
theorem fk_RX7_35 : zF RX7 35 7 3 .int false := ⟨RX7, TX7, 5, tyX7, rfl, inTB_7, by decide, w_137, tyX7_ok, nmX7, by decide +kernel, rfl⟩
theorem w_138 : Cond.fieldLink "BalloonsMoor$Rule" 9 "BalloonsMoor$Rule" "steps" "[I" ∈ zTB := zch_1 _ (List.mem_of_getElem? (i := 125) (by decide +kernel)) rfl
theorem fk_RX7_9 : zF RX7 9 7 0 (.array .int) true := ⟨RX7, TX7, 5, tyX7, rfl, inTB_7, by decide, w_138, tyX7_ok, nmX7, by decide +kernel, rfl⟩
theorem w_139 : Cond.fieldLink "BalloonsMoor$Rule" 18 "BalloonsMoor$Rule" "stack" "[I" ∈ zTB := zch_1 _ (List.mem_of_getElem? (i := 127) (by decide +kernel)) rfl
theorem fk_RX7_18 : zF RX7 18 7 2 (.array .int) true := ⟨RX7, TX7, 5, tyX7, rfl, inTB_7, by decide, w_139, tyX7_ok, nmX7, by decide +kernel, rfl⟩
theorem w_140 : Cond.fieldLink "BalloonsMoor$Flock" 13 "BalloonsMoor$Flock" "facts" "[I" ∈ zTB := zch_1 _ (List.mem_of_getElem? (i := 150) (by decide +kernel)) rfl
theorem fk_RX3_13 : zF RX3 13 3 3 (.array .int) true := ⟨RX3, TX3, 19, tyX3, rfl, inTB_3, by decide, w_140, tyX3_ok, nmX3, by decide +kernel, rfl⟩
theorem w_141 : Cond.fieldLink "BalloonsMoor$Flock" 99 "BalloonsMoor$Flock" "rain" "I" ∈ zTB := zch_1 _ (List.mem_of_getElem? (i := 181) (by decide +kernel)) rfl
theorem fk_RX3_99 : zF RX3 99 3 16 .int false := ⟨RX3, TX3, 19, tyX3, rfl, inTB_3, by decide, w_141, tyX3_ok, nmX3, by decide +kernel, rfl⟩
theorem w_142 : Cond.fieldLink "BalloonsMoor$Flock" 55 "BalloonsMoor$Flock" "lifting" "LBalloonsMoor$Rule;" ∈ zTB := zch_1 _ (List.mem_of_getElem? (i := 149) (by decide +kernel)) rfl
theorem fk_RX3_55 : zF RX3 55 3 2 (.object "BalloonsMoor$Rule") true := ⟨RX3, TX3, 19, tyX3, rfl, inTB_3, by decide, w_142, tyX3_ok, nmX3, by decide +kernel, rfl⟩
theorem w_143 : Cond.fieldLink "BalloonsMoor$Flock" 38 "BalloonsMoor$Flock" "ring" "[I" ∈ zTB := zch_1 _ (List.mem_of_getElem? (i := 169) (by decide +kernel)) rfl
theorem fk_RX3_38 : zF RX3 38 3 11 (.array .int) true := ⟨RX3, TX3, 19, tyX3, rfl, inTB_3, by decide, w_143, tyX3_ok, nmX3, by decide +kernel, rfl⟩
theorem w_144 : Cond.fieldLink "BalloonsMoor$Flock" 44 "BalloonsMoor$Flock" "y" "[I" ∈ zTB := zch_1 _ (List.mem_of_getElem? (i := 173) (by decide +kernel)) rfl
theorem fk_RX3_44 : zF RX3 44 3 13 (.array .int) true := ⟨RX3, TX3, 19, tyX3, rfl, inTB_3, by decide, w_144, tyX3_ok, nmX3, by decide +kernel, rfl⟩
theorem w_145 : Cond.fieldLink "BalloonsMoor$Flock" 41 "BalloonsMoor$Flock" "x" "[I" ∈ zTB := zch_1 _ (List.mem_of_getElem? (i := 171) (by decide +kernel)) rfl
theorem fk_RX3_41 : zF RX3 41 3 12 (.array .int) true := ⟨RX3, TX3, 19, tyX3, rfl, inTB_3, by decide, w_145, tyX3_ok, nmX3, by decide +kernel, rfl⟩
theorem w_146 : Cond.fieldLink "BalloonsMoor$Flock" 47 "BalloonsMoor$Flock" "rings" "LBalloonsMoor$Tower;" ∈ zTB := zch_1 _ (List.mem_of_getElem? (i := 147) (by decide +kernel)) rfl
theorem fk_RX3_47 : zF RX3 47 3 0 (.object "BalloonsMoor$Tower") true := ⟨RX3, TX3, 19, tyX3, rfl, inTB_3, by decide, w_146, tyX3_ok, nmX3, by decide +kernel, rfl⟩
theorem w_147 : Cond.fieldLink "BalloonsMoor$Flock" 130 "BalloonsMoor$Flock" "wentLost" "I" ∈ zTB := zch_1 _ (List.mem_of_getElem? (i := 186) (by decide +kernel)) rfl
theorem fk_RX3_130 : zF RX3 130 3 18 .int false := ⟨RX3, TX3, 19, tyX3, rfl, inTB_3, by decide, w_147, tyX3_ok, nmX3, by decide +kernel, rfl⟩
theorem w_148 : Cond.fieldLink "BalloonsMoor$Flock" 51 "BalloonsMoor$Flock" "air" "LBalloonsMoor$Winds;" ∈ zTB := zch_1 _ (List.mem_of_getElem? (i := 148) (by decide +kernel)) rfl
theorem fk_RX3_51 : zF RX3 51 3 1 (.object "BalloonsMoor$Winds") true := ⟨RX3, TX3, 19, tyX3, rfl, inTB_3, by decide, w_148, tyX3_ok, nmX3, by decide +kernel, rfl⟩
theorem w_149 : Cond.fieldLink "BalloonsMoor$Flock" 151 "BalloonsMoor$Winds" "east" "[I" ∈ zTB := zch_1 _ (List.mem_of_getElem? (i := 103) (by decide +kernel)) rfl
theorem fk_RX3_151 : zF RX3 151 10 2 (.array .int) true := ⟨RX10, TX10, 5, tyX10, rfl, inTB_10, by decide, w_149, tyX10_ok, nmX10, by decide +kernel, rfl⟩
theorem w_150 : Cond.fieldLink "BalloonsMoor$Flock" 156 "BalloonsMoor$Winds" "south" "[I" ∈ zTB := zch_1 _ (List.mem_of_getElem? (i := 106) (by decide +kernel)) rfl
theorem fk_RX3_156 : zF RX3 156 10 3 (.array .int) true := ⟨RX10, TX10, 5, tyX10, rfl, inTB_10, by decide, w_150, tyX10_ok, nmX10, by decide +kernel, rfl⟩
theorem w_151 : Cond.fieldLink "BalloonsMoor$Flock" 127 "BalloonsMoor$Flock" "cameDown" "I" ∈ zTB := zch_1 _ (List.mem_of_getElem? (i := 184) (by decide +kernel)) rfl
theorem fk_RX3_127 : zF RX3 127 3 17 .int false := ⟨RX3, TX3, 19, tyX3, rfl, inTB_3, by decide, w_151, tyX3_ok, nmX3, by decide +kernel, rfl⟩
theorem w_152 : Cond.fieldLink "BalloonsMoor$Flock" 17 "BalloonsMoor$Flock" "foreseen" "[I" ∈ zTB := zch_1 _ (List.mem_of_getElem? (i := 151) (by decide +kernel)) rfl
theorem fk_RX3_17 : zF RX3 17 3 4 (.array .int) true := ⟨RX3, TX3, 19, tyX3, rfl, inTB_3, by decide, w_152, tyX3_ok, nmX3, by decide +kernel, rfl⟩
theorem w_153 : Cond.fieldLink "BalloonsMoor$Landing" 19 "BalloonsMoor$Landing" "seen" "[J" ∈ zTB := zch_2 _ (List.mem_of_getElem? (i := 135) (by decide +kernel)) rfl
theorem fk_RX4_19 : zF RX4 19 4 4 (.array .long) true := ⟨RX4, TX4, 12, tyX4, rfl, inTB_4, by decide, w_153, tyX4_ok, nmX4, by decide +kernel, rfl⟩
theorem w_154 : Cond.fieldLink "BalloonsMoor$Landing" 44 "BalloonsMoor$Landing" "within" "I" ∈ zTB := zch_2 _ (List.mem_of_getElem? (i := 139) (by decide +kernel)) rfl
theorem fk_RX4_44 : zF RX4 44 4 7 .int false := ⟨RX4, TX4, 12, tyX4, rfl, inTB_4, by decide, w_154, tyX4_ok, nmX4, by decide +kernel, rfl⟩
theorem w_155 : Cond.fieldLink "BalloonsMoor$Landing" 56 "BalloonsMoor$Landing" "rope" "I" ∈ zTB := zch_2 _ (List.mem_of_getElem? (i := 141) (by decide +kernel)) rfl
theorem fk_RX4_56 : zF RX4 56 4 9 .int false := ⟨RX4, TX4, 12, tyX4, rfl, inTB_4, by decide, w_155, tyX4_ok, nmX4, by decide +kernel, rfl⟩
theorem w_156 : Cond.fieldLink "BalloonsMoor$Landing" 50 "BalloonsMoor$Landing" "most" "I" ∈ zTB := zch_2 _ (List.mem_of_getElem? (i := 140) (by decide +kernel)) rfl
theorem fk_RX4_50 : zF RX4 50 4 8 .int false := ⟨RX4, TX4, 12, tyX4, rfl, inTB_4, by decide, w_156, tyX4_ok, nmX4, by decide +kernel, rfl⟩
theorem w_157 : Cond.fieldLink "BalloonsMoor$Landing" 15 "BalloonsMoor$Landing" "isNear" "[Z" ∈ zTB := zch_2 _ (List.mem_of_getElem? (i := 134) (by decide +kernel)) rfl
theorem fk_RX4_15 : zF RX4 15 4 3 (.array .boolean) true := ⟨RX4, TX4, 12, tyX4, rfl, inTB_4, by decide, w_157, tyX4_ok, nmX4, by decide +kernel, rfl⟩
theorem w_158 : Cond.fieldLink "BalloonsMoor$Landing" 11 "BalloonsMoor$Landing" "lift" "[I" ∈ zTB := zch_2 _ (List.mem_of_getElem? (i := 133) (by decide +kernel)) rfl
theorem fk_RX4_11 : zF RX4 11 4 2 (.array .int) true := ⟨RX4, TX4, 12, tyX4, rfl, inTB_4, by decide, w_158, tyX4_ok, nmX4, by decide +kernel, rfl⟩
theorem w_159 : Cond.fieldLink "BalloonsMoor$Landing" 30 "BalloonsMoor$Landing" "air" "LBalloonsMoor$Winds;" ∈ zTB := zch_2 _ (List.mem_of_getElem? (i := 132) (by decide +kernel)) rfl
theorem fk_RX4_30 : zF RX4 30 4 1 (.object "BalloonsMoor$Winds") true := ⟨RX4, TX4, 12, tyX4, rfl, inTB_4, by decide, w_159, tyX4_ok, nmX4, by decide +kernel, rfl⟩
theorem w_160 : Cond.fieldLink "BalloonsMoor$Landing" 108 "BalloonsMoor$Winds" "east" "[I" ∈ zTB := zch_1 _ (List.mem_of_getElem? (i := 102) (by decide +kernel)) rfl
theorem fk_RX4_108 : zF RX4 108 10 2 (.array .int) true := ⟨RX10, TX10, 5, tyX10, rfl, inTB_10, by decide, w_160, tyX10_ok, nmX10, by decide +kernel, rfl⟩
theorem w_161 : Cond.fieldLink "BalloonsMoor$Landing" 113 "BalloonsMoor$Winds" "south" "[I" ∈ zTB := zch_1 _ (List.mem_of_getElem? (i := 105) (by decide +kernel)) rfl
theorem fk_RX4_113 : zF RX4 113 10 3 (.array .int) true := ⟨RX10, TX10, 5, tyX10, rfl, inTB_10, by decide, w_161, tyX10_ok, nmX10, by decide +kernel, rfl⟩
theorem w_162 : Cond.fieldLink "BalloonsMoor$Landing" 26 "BalloonsMoor$Landing" "flock" "LBalloonsMoor$Flock;" ∈ zTB := zch_2 _ (List.mem_of_getElem? (i := 131) (by decide +kernel)) rfl
theorem fk_RX4_26 : zF RX4 26 4 0 (.object "BalloonsMoor$Flock") true := ⟨RX4, TX4, 12, tyX4, rfl, inTB_4, by decide, w_162, tyX4_ok, nmX4, by decide +kernel, rfl⟩
theorem w_163 : Cond.fieldLink "BalloonsMoor$Landing" 40 "BalloonsMoor$Landing" "balloon" "I" ∈ zTB := zch_2 _ (List.mem_of_getElem? (i := 138) (by decide +kernel)) rfl
theorem fk_RX4_40 : zF RX4 40 4 6 .int false := ⟨RX4, TX4, 12, tyX4, rfl, inTB_4, by decide, w_163, tyX4_ok, nmX4, by decide +kernel, rfl⟩
theorem w_164 : Cond.fieldLink "BalloonsMoor$Landing" 47 "BalloonsMoor$Flock" "sacks" "[I" ∈ zTB := zch_1 _ (List.mem_of_getElem? (i := 156) (by decide +kernel)) rfl
theorem fk_RX4_47 : zF RX4 47 3 6 (.array .int) true := ⟨RX3, TX3, 19, tyX3, rfl, inTB_3, by decide, w_164, tyX3_ok, nmX3, by decide +kernel, rfl⟩
theorem w_165 : Cond.fieldLink "BalloonsMoor$Landing" 53 "BalloonsMoor$Flock" "rope" "[I" ∈ zTB := zch_1 _ (List.mem_of_getElem? (i := 161) (by decide +kernel)) rfl
theorem fk_RX4_53 : zF RX4 53 3 8 (.array .int) true := ⟨RX3, TX3, 19, tyX3, rfl, inTB_3, by decide, w_165, tyX3_ok, nmX3, by decide +kernel, rfl⟩
theorem w_166 : Cond.fieldLink "BalloonsMoor$Landing" 58 "BalloonsMoor$Flock" "gas" "[I" ∈ zTB := zch_1 _ (List.mem_of_getElem? (i := 153) (by decide +kernel)) rfl
theorem fk_RX4_58 : zF RX4 58 3 5 (.array .int) true := ⟨RX3, TX3, 19, tyX3, rfl, inTB_3, by decide, w_166, tyX3_ok, nmX3, by decide +kernel, rfl⟩
theorem w_167 : Cond.fieldLink "BalloonsMoor$Landing" 61 "BalloonsMoor$Flock" "leak" "[I" ∈ zTB := zch_1 _ (List.mem_of_getElem? (i := 165) (by decide +kernel)) rfl
theorem fk_RX4_61 : zF RX4 61 3 9 (.array .int) true := ⟨RX3, TX3, 19, tyX3, rfl, inTB_3, by decide, w_167, tyX3_ok, nmX3, by decide +kernel, rfl⟩
theorem w_168 : Cond.fieldLink "BalloonsMoor$Landing" 80 "BalloonsMoor$Flock" "x" "[I" ∈ zTB := zch_1 _ (List.mem_of_getElem? (i := 172) (by decide +kernel)) rfl
theorem fk_RX4_80 : zF RX4 80 3 12 (.array .int) true := ⟨RX3, TX3, 19, tyX3, rfl, inTB_3, by decide, w_168, tyX3_ok, nmX3, by decide +kernel, rfl⟩
theorem w_169 : Cond.fieldLink "BalloonsMoor$Landing" 83 "BalloonsMoor$Flock" "y" "[I" ∈ zTB := zch_1 _ (List.mem_of_getElem? (i := 174) (by decide +kernel)) rfl
theorem fk_RX4_83 : zF RX4 83 3 13 (.array .int) true := ⟨RX3, TX3, 19, tyX3, rfl, inTB_3, by decide, w_169, tyX3_ok, nmX3, by decide +kernel, rfl⟩
theorem w_170 : Cond.fieldLink "BalloonsMoor$Landing" 119 "BalloonsMoor$Landing" "sacks" "I" ∈ zTB := zch_2 _ (List.mem_of_getElem? (i := 142) (by decide +kernel)) rfl
theorem fk_RX4_119 : zF RX4 119 4 10 .int false := ⟨RX4, TX4, 12, tyX4, rfl, inTB_4, by decide, w_170, tyX4_ok, nmX4, by decide +kernel, rfl⟩
theorem w_171 : Cond.fieldLink "BalloonsMoor$Landing" 121 "BalloonsMoor$Landing" "hours" "I" ∈ zTB := zch_2 _ (List.mem_of_getElem? (i := 144) (by decide +kernel)) rfl
theorem fk_RX4_121 : zF RX4 121 4 11 .int false := ⟨RX4, TX4, 12, tyX4, rfl, inTB_4, by decide, w_171, tyX4_ok, nmX4, by decide +kernel, rfl⟩
theorem w_172 : Cond.fieldLink "BalloonsMoor$Landing" 23 "BalloonsMoor$Landing" "drops" "[I" ∈ zTB := zch_2 _ (List.mem_of_getElem? (i := 136) (by decide +kernel)) rfl
theorem fk_RX4_23 : zF RX4 23 4 5 (.array .int) true := ⟨RX4, TX4, 12, tyX4, rfl, inTB_4, by decide, w_172, tyX4_ok, nmX4, by decide +kernel, rfl⟩
theorem w_173 : Cond.fieldLink "BalloonsMoor$Marks" 33 "BalloonsMoor$Marks" "size" "I" ∈ zTB := zch_2 _ (List.mem_of_getElem? (i := 42) (by decide +kernel)) rfl
theorem fk_RX5_33 : zF RX5 33 5 7 .int false := ⟨RX5, TX5, 11, tyX5, rfl, inTB_5, by decide, w_173, tyX5_ok, nmX5, by decide +kernel, rfl⟩
theorem w_174 : Cond.fieldLink "BalloonsMoor$Marks" 9 "BalloonsMoor$Marks" "ring" "[I" ∈ zTB := zch_2 _ (List.mem_of_getElem? (i := 33) (by decide +kernel)) rfl
theorem fk_RX5_9 : zF RX5 9 5 0 (.array .int) true := ⟨RX5, TX5, 11, tyX5, rfl, inTB_5, by decide, w_174, tyX5_ok, nmX5, by decide +kernel, rfl⟩
theorem w_175 : Cond.fieldLink "BalloonsMoor$Marks" 15 "BalloonsMoor$Marks" "what" "[I" ∈ zTB := zch_2 _ (List.mem_of_getElem? (i := 34) (by decide +kernel)) rfl
theorem fk_RX5_15 : zF RX5 15 5 1 (.array .int) true := ⟨RX5, TX5, 11, tyX5, rfl, inTB_5, by decide, w_175, tyX5_ok, nmX5, by decide +kernel, rfl⟩
theorem w_176 : Cond.fieldLink "BalloonsMoor$Marks" 18 "BalloonsMoor$Marks" "value" "[I" ∈ zTB := zch_2 _ (List.mem_of_getElem? (i := 35) (by decide +kernel)) rfl
theorem fk_RX5_18 : zF RX5 18 5 2 (.array .int) true := ⟨RX5, TX5, 11, tyX5, rfl, inTB_5, by decide, w_176, tyX5_ok, nmX5, by decide +kernel, rfl⟩
theorem w_177 : Cond.fieldLink "BalloonsMoor$Marks" 44 "BalloonsMoor$Flock" "rope" "[I" ∈ zTB := zch_1 _ (List.mem_of_getElem? (i := 162) (by decide +kernel)) rfl
theorem fk_RX5_44 : zF RX5 44 3 8 (.array .int) true := ⟨RX3, TX3, 19, tyX3, rfl, inTB_3, by decide, w_177, tyX3_ok, nmX3, by decide +kernel, rfl⟩
theorem w_178 : Cond.fieldLink "BalloonsMoor$Marks" 37 "BalloonsMoor$Flock" "size" "I" ∈ zTB := zch_1 _ (List.mem_of_getElem? (i := 177) (by decide +kernel)) rfl
theorem fk_RX5_37 : zF RX5 37 3 14 .int false := ⟨RX3, TX3, 19, tyX3, rfl, inTB_3, by decide, w_178, tyX3_ok, nmX3, by decide +kernel, rfl⟩
theorem w_179 : Cond.fieldLink "BalloonsMoor$Marks" 62 "BalloonsMoor$Marks" "found" "I" ∈ zTB := zch_2 _ (List.mem_of_getElem? (i := 48) (by decide +kernel)) rfl
theorem fk_RX5_62 : zF RX5 62 5 10 .int false := ⟨RX5, TX5, 11, tyX5, rfl, inTB_5, by decide, w_179, tyX5_ok, nmX5, by decide +kernel, rfl⟩
theorem w_180 : Cond.fieldLink "BalloonsMoor$Marks" 51 "BalloonsMoor$Marks" "seen" "I" ∈ zTB := zch_2 _ (List.mem_of_getElem? (i := 44) (by decide +kernel)) rfl
theorem fk_RX5_51 : zF RX5 51 5 8 .int false := ⟨RX5, TX5, 11, tyX5, rfl, inTB_5, by decide, w_180, tyX5_ok, nmX5, by decide +kernel, rfl⟩
theorem w_181 : Cond.fieldLink "BalloonsMoor$Marks" 30 "BalloonsMoor$Marks" "least" "[I" ∈ zTB := zch_2 _ (List.mem_of_getElem? (i := 40) (by decide +kernel)) rfl
theorem fk_RX5_30 : zF RX5 30 5 6 (.array .int) true := ⟨RX5, TX5, 11, tyX5, rfl, inTB_5, by decide, w_181, tyX5_ok, nmX5, by decide +kernel, rfl⟩
theorem w_182 : Cond.fieldLink "BalloonsMoor$Marks" 27 "BalloonsMoor$Marks" "who" "[I" ∈ zTB := zch_2 _ (List.mem_of_getElem? (i := 39) (by decide +kernel)) rfl
theorem fk_RX5_27 : zF RX5 27 5 5 (.array .int) true := ⟨RX5, TX5, 11, tyX5, rfl, inTB_5, by decide, w_182, tyX5_ok, nmX5, by decide +kernel, rfl⟩
theorem w_183 : Cond.fieldLink "BalloonsMoor$Marks" 65 "BalloonsMoor$Marks" "same" "I" ∈ zTB := zch_2 _ (List.mem_of_getElem? (i := 46) (by decide +kernel)) rfl
theorem fk_RX5_65 : zF RX5 65 5 9 .int false := ⟨RX5, TX5, 11, tyX5, rfl, inTB_5, by decide, w_183, tyX5_ok, nmX5, by decide +kernel, rfl⟩
theorem w_184 : Cond.fieldLink "BalloonsMoor$Marks" 24 "BalloonsMoor$Marks" "fits" "[I" ∈ zTB := zch_2 _ (List.mem_of_getElem? (i := 38) (by decide +kernel)) rfl
theorem fk_RX5_24 : zF RX5 24 5 4 (.array .int) true := ⟨RX5, TX5, 11, tyX5, rfl, inTB_5, by decide, w_184, tyX5_ok, nmX5, by decide +kernel, rfl⟩
theorem w_185 : Cond.fieldLink "BalloonsMoor$Marks" 21 "BalloonsMoor$Marks" "seenRing" "[I" ∈ zTB := zch_2 _ (List.mem_of_getElem? (i := 36) (by decide +kernel)) rfl
theorem fk_RX5_21 : zF RX5 21 5 3 (.array .int) true := ⟨RX5, TX5, 11, tyX5, rfl, inTB_5, by decide, w_185, tyX5_ok, nmX5, by decide +kernel, rfl⟩
theorem w_186 : Cond.fieldLink "BalloonsMoor$Past" 13 "BalloonsMoor$Past" "ahead" "[I" ∈ zTB := zch_1 _ (List.mem_of_getElem? (i := 232) (by decide +kernel)) rfl
theorem fk_RX6_13 : zF RX6 13 6 0 (.array .int) true := ⟨RX6, TX6, 5, tyX6, rfl, inTB_6, by decide, w_186, tyX6_ok, nmX6, by decide +kernel, rfl⟩
theorem w_187 : Cond.fieldLink "BalloonsMoor$Past" 24 "BalloonsMoor$Past" "slot" "I" ∈ zTB := zch_1 _ (List.mem_of_getElem? (i := 236) (by decide +kernel)) rfl
theorem fk_RX6_24 : zF RX6 24 6 3 .int false := ⟨RX6, TX6, 5, tyX6, rfl, inTB_6, by decide, w_187, tyX6_ok, nmX6, by decide +kernel, rfl⟩
theorem w_188 : Cond.fieldLink "BalloonsMoor$Past" 32 "BalloonsMoor$Past" "size" "I" ∈ zTB := zch_1 _ (List.mem_of_getElem? (i := 237) (by decide +kernel)) rfl
theorem fk_RX6_32 : zF RX6 32 6 4 .int false := ⟨RX6, TX6, 5, tyX6, rfl, inTB_6, by decide, w_188, tyX6_ok, nmX6, by decide +kernel, rfl⟩
theorem w_189 : Cond.fieldLink "BalloonsMoor$Past" 20 "BalloonsMoor$Past" "isStored" "[Z" ∈ zTB := zch_1 _ (List.mem_of_getElem? (i := 234) (by decide +kernel)) rfl
theorem fk_RX6_20 : zF RX6 20 6 2 (.array .boolean) true := ⟨RX6, TX6, 5, tyX6, rfl, inTB_6, by decide, w_189, tyX6_ok, nmX6, by decide +kernel, rfl⟩
theorem w_190 : Cond.fieldLink "BalloonsMoor$Past" 17 "BalloonsMoor$Past" "stored" "[I" ∈ zTB := zch_1 _ (List.mem_of_getElem? (i := 233) (by decide +kernel)) rfl
theorem fk_RX6_17 : zF RX6 17 6 1 (.array .int) true := ⟨RX6, TX6, 5, tyX6, rfl, inTB_6, by decide, w_190, tyX6_ok, nmX6, by decide +kernel, rfl⟩
theorem w_191 : Cond.fieldLink "BalloonsMoor$Rule" 21 "BalloonsMoor$Rule" "drafted" "I" ∈ zTB := zch_1 _ (List.mem_of_getElem? (i := 129) (by decide +kernel)) rfl
theorem fk_RX7_21 : zF RX7 21 7 4 .int false := ⟨RX7, TX7, 5, tyX7, rfl, inTB_7, by decide, w_191, tyX7_ok, nmX7, by decide +kernel, rfl⟩
theorem w_192 : Cond.fieldLink "BalloonsMoor$Rule" 15 "BalloonsMoor$Rule" "draft" "[I" ∈ zTB := zch_1 _ (List.mem_of_getElem? (i := 126) (by decide +kernel)) rfl
theorem fk_RX7_15 : zF RX7 15 7 1 (.array .int) true := ⟨RX7, TX7, 5, tyX7, rfl, inTB_7, by decide, w_192, tyX7_ok, nmX7, by decide +kernel, rfl⟩
theorem w_193 : Cond.fieldLink "BalloonsMoor$Tower" 18 "BalloonsMoor$Tower" "draft" "[I" ∈ zTB := zch_1 _ (List.mem_of_getElem? (i := 65) (by decide +kernel)) rfl
theorem fk_RX9_18 : zF RX9 18 9 2 (.array .int) true := ⟨RX9, TX9, 7, tyX9, rfl, inTB_9, by decide, w_193, tyX9_ok, nmX9, by decide +kernel, rfl⟩
theorem w_194 : Cond.fieldLink "BalloonsMoor$Tower" 15 "BalloonsMoor$Tower" "side" "[I" ∈ zTB := zch_1 _ (List.mem_of_getElem? (i := 63) (by decide +kernel)) rfl
theorem fk_RX9_15 : zF RX9 15 9 1 (.array .int) true := ⟨RX9, TX9, 7, tyX9, rfl, inTB_9, by decide, w_194, tyX9_ok, nmX9, by decide +kernel, rfl⟩
theorem w_195 : Cond.fieldLink "BalloonsMoor$Tower" 9 "BalloonsMoor$Tower" "height" "[I" ∈ zTB := zch_1 _ (List.mem_of_getElem? (i := 61) (by decide +kernel)) rfl
theorem fk_RX9_9 : zF RX9 9 9 0 (.array .int) true := ⟨RX9, TX9, 7, tyX9, rfl, inTB_9, by decide, w_195, tyX9_ok, nmX9, by decide +kernel, rfl⟩
theorem w_196 : Cond.fieldLink "BalloonsMoor$Winds" 24 "BalloonsMoor$Winds" "draft" "[I" ∈ zTB := zch_1 _ (List.mem_of_getElem? (i := 107) (by decide +kernel)) rfl
theorem fk_RX10_24 : zF RX10 24 10 4 (.array .int) true := ⟨RX10, TX10, 5, tyX10, rfl, inTB_10, by decide, w_196, tyX10_ok, nmX10, by decide +kernel, rfl⟩
theorem w_197 : Cond.fieldLink "BalloonsMoor$Winds" 9 "BalloonsMoor$Winds" "whither" "[I" ∈ zTB := zch_1 _ (List.mem_of_getElem? (i := 97) (by decide +kernel)) rfl
theorem fk_RX10_9 : zF RX10 9 10 0 (.array .int) true := ⟨RX10, TX10, 5, tyX10, rfl, inTB_10, by decide, w_197, tyX10_ok, nmX10, by decide +kernel, rfl⟩
theorem w_198 : Cond.fieldLink "BalloonsMoor$Winds" 15 "BalloonsMoor$Winds" "strong" "[I" ∈ zTB := zch_1 _ (List.mem_of_getElem? (i := 99) (by decide +kernel)) rfl
theorem fk_RX10_15 : zF RX10 15 10 1 (.array .int) true := ⟨RX10, TX10, 5, tyX10, rfl, inTB_10, by decide, w_198, tyX10_ok, nmX10, by decide +kernel, rfl⟩
theorem w_199 : Cond.fieldLink "BalloonsMoor$Winds" 18 "BalloonsMoor$Winds" "east" "[I" ∈ zTB := zch_1 _ (List.mem_of_getElem? (i := 101) (by decide +kernel)) rfl
theorem fk_RX10_18 : zF RX10 18 10 2 (.array .int) true := ⟨RX10, TX10, 5, tyX10, rfl, inTB_10, by decide, w_199, tyX10_ok, nmX10, by decide +kernel, rfl⟩
theorem w_200 : Cond.fieldLink "BalloonsMoor$Winds" 21 "BalloonsMoor$Winds" "south" "[I" ∈ zTB := zch_1 _ (List.mem_of_getElem? (i := 104) (by decide +kernel)) rfl
theorem fk_RX10_21 : zF RX10 21 10 3 (.array .int) true := ⟨RX10, TX10, 5, tyX10, rfl, inTB_10, by decide, w_200, tyX10_ok, nmX10, by decide +kernel, rfl⟩
theorem w_201 : Cond.fieldLink "BalloonsMoor" 10 "BalloonsMoor" "told" "LBalloonsMoor$Told;" ∈ zTB := zch_2 _ (List.mem_of_getElem? (i := 171) (by decide +kernel)) rfl
theorem fk_RX11_10 : zF RX11 10 11 0 (.object "BalloonsMoor$Told") true := ⟨RX11, TX11, 12, tyX11, rfl, inTB_11, by decide, w_201, tyX11_ok, nmX11, by decide +kernel, rfl⟩
theorem w_202 : Cond.fieldLink "BalloonsMoor" 95 "BalloonsMoor$Told" "size" "I" ∈ zTB := zch_1 _ (List.mem_of_getElem? (i := 44) (by decide +kernel)) rfl
theorem fk_RX11_95 : zF RX11 95 8 3 .int false := ⟨RX8, TX8, 4, tyX8, rfl, inTB_8, by decide, w_202, tyX8_ok, nmX8, by decide +kernel, rfl⟩
theorem w_203 : Cond.fieldLink "BalloonsMoor" 19 "BalloonsMoor" "rings" "LBalloonsMoor$Tower;" ∈ zTB := zch_2 _ (List.mem_of_getElem? (i := 172) (by decide +kernel)) rfl
theorem fk_RX11_19 : zF RX11 19 11 1 (.object "BalloonsMoor$Tower") true := ⟨RX11, TX11, 12, tyX11, rfl, inTB_11, by decide, w_203, tyX11_ok, nmX11, by decide +kernel, rfl⟩
theorem w_204 : Cond.fieldLink "BalloonsMoor" 42 "BalloonsMoor" "flock" "LBalloonsMoor$Flock;" ∈ zTB := zch_2 _ (List.mem_of_getElem? (i := 175) (by decide +kernel)) rfl
theorem fk_RX11_42 : zF RX11 42 11 4 (.object "BalloonsMoor$Flock") true := ⟨RX11, TX11, 12, tyX11, rfl, inTB_11, by decide, w_204, tyX11_ok, nmX11, by decide +kernel, rfl⟩
theorem w_205 : Cond.fieldLink "BalloonsMoor" 66 "BalloonsMoor" "marks" "LBalloonsMoor$Marks;" ∈ zTB := zch_2 _ (List.mem_of_getElem? (i := 179) (by decide +kernel)) rfl
theorem fk_RX11_66 : zF RX11 66 11 8 (.object "BalloonsMoor$Marks") true := ⟨RX11, TX11, 12, tyX11, rfl, inTB_11, by decide, w_205, tyX11_ok, nmX11, by decide +kernel, rfl⟩
theorem w_206 : Cond.fieldLink "BalloonsMoor" 121 "BalloonsMoor$Marks" "size" "I" ∈ zTB := zch_2 _ (List.mem_of_getElem? (i := 43) (by decide +kernel)) rfl
theorem fk_RX11_121 : zF RX11 121 5 7 .int false := ⟨RX5, TX5, 11, tyX5, rfl, inTB_5, by decide, w_206, tyX5_ok, nmX5, by decide +kernel, rfl⟩
theorem w_207 : Cond.fieldLink "BalloonsMoor" 52 "BalloonsMoor" "past" "LBalloonsMoor$Past;" ∈ zTB := zch_2 _ (List.mem_of_getElem? (i := 177) (by decide +kernel)) rfl
theorem fk_RX11_52 : zF RX11 52 11 6 (.object "BalloonsMoor$Past") true := ⟨RX11, TX11, 12, tyX11, rfl, inTB_11, by decide, w_207, tyX11_ok, nmX11, by decide +kernel, rfl⟩
theorem w_208 : Cond.fieldLink "BalloonsMoor" 26 "BalloonsMoor" "air" "LBalloonsMoor$Winds;" ∈ zTB := zch_2 _ (List.mem_of_getElem? (i := 173) (by decide +kernel)) rfl
theorem fk_RX11_26 : zF RX11 26 11 2 (.object "BalloonsMoor$Winds") true := ⟨RX11, TX11, 12, tyX11, rfl, inTB_11, by decide, w_208, tyX11_ok, nmX11, by decide +kernel, rfl⟩
theorem w_209 : Cond.fieldLink "BalloonsMoor" 33 "BalloonsMoor" "lifting" "LBalloonsMoor$Rule;" ∈ zTB := zch_2 _ (List.mem_of_getElem? (i := 174) (by decide +kernel)) rfl
theorem fk_RX11_33 : zF RX11 33 11 3 (.object "BalloonsMoor$Rule") true := ⟨RX11, TX11, 12, tyX11, rfl, inTB_11, by decide, w_209, tyX11_ok, nmX11, by decide +kernel, rfl⟩
theorem w_210 : Cond.fieldLink "BalloonsMoor" 143 "BalloonsMoor$Tower" "height" "[I" ∈ zTB := zch_1 _ (List.mem_of_getElem? (i := 62) (by decide +kernel)) rfl
theorem fk_RX11_143 : zF RX11 143 9 0 (.array .int) true := ⟨RX9, TX9, 7, tyX9, rfl, inTB_9, by decide, w_210, tyX9_ok, nmX9, by decide +kernel, rfl⟩
theorem w_211 : Cond.fieldLink "BalloonsMoor" 147 "BalloonsMoor$Tower" "side" "[I" ∈ zTB := zch_1 _ (List.mem_of_getElem? (i := 64) (by decide +kernel)) rfl
theorem fk_RX11_147 : zF RX11 147 9 1 (.array .int) true := ⟨RX9, TX9, 7, tyX9, rfl, inTB_9, by decide, w_211, tyX9_ok, nmX9, by decide +kernel, rfl⟩
theorem w_212 : Cond.fieldLink "BalloonsMoor" 154 "BalloonsMoor$Winds" "whither" "[I" ∈ zTB := zch_1 _ (List.mem_of_getElem? (i := 98) (by decide +kernel)) rfl
theorem fk_RX11_154 : zF RX11 154 10 0 (.array .int) true := ⟨RX10, TX10, 5, tyX10, rfl, inTB_10, by decide, w_212, tyX10_ok, nmX10, by decide +kernel, rfl⟩
theorem w_213 : Cond.fieldLink "BalloonsMoor" 157 "BalloonsMoor$Winds" "strong" "[I" ∈ zTB := zch_1 _ (List.mem_of_getElem? (i := 100) (by decide +kernel)) rfl
theorem fk_RX11_157 : zF RX11 157 10 1 (.array .int) true := ⟨RX10, TX10, 5, tyX10, rfl, inTB_10, by decide, w_213, tyX10_ok, nmX10, by decide +kernel, rfl⟩
theorem w_214 : Cond.fieldLink "BalloonsMoor" 161 "BalloonsMoor$Flock" "gas" "[I" ∈ zTB := zch_1 _ (List.mem_of_getElem? (i := 154) (by decide +kernel)) rfl
theorem fk_RX11_161 : zF RX11 161 3 5 (.array .int) true := ⟨RX3, TX3, 19, tyX3, rfl, inTB_3, by decide, w_214, tyX3_ok, nmX3, by decide +kernel, rfl⟩
theorem w_215 : Cond.fieldLink "BalloonsMoor" 164 "BalloonsMoor$Flock" "sacks" "[I" ∈ zTB := zch_1 _ (List.mem_of_getElem? (i := 157) (by decide +kernel)) rfl
theorem fk_RX11_164 : zF RX11 164 3 6 (.array .int) true := ⟨RX3, TX3, 19, tyX3, rfl, inTB_3, by decide, w_215, tyX3_ok, nmX3, by decide +kernel, rfl⟩
theorem w_216 : Cond.fieldLink "BalloonsMoor" 167 "BalloonsMoor$Flock" "cargo" "[I" ∈ zTB := zch_1 _ (List.mem_of_getElem? (i := 159) (by decide +kernel)) rfl
theorem fk_RX11_167 : zF RX11 167 3 7 (.array .int) true := ⟨RX3, TX3, 19, tyX3, rfl, inTB_3, by decide, w_216, tyX3_ok, nmX3, by decide +kernel, rfl⟩
theorem w_217 : Cond.fieldLink "BalloonsMoor" 170 "BalloonsMoor$Flock" "rope" "[I" ∈ zTB := zch_1 _ (List.mem_of_getElem? (i := 163) (by decide +kernel)) rfl
theorem fk_RX11_170 : zF RX11 170 3 8 (.array .int) true := ⟨RX3, TX3, 19, tyX3, rfl, inTB_3, by decide, w_217, tyX3_ok, nmX3, by decide +kernel, rfl⟩
theorem w_218 : Cond.fieldLink "BalloonsMoor" 173 "BalloonsMoor$Flock" "leak" "[I" ∈ zTB := zch_1 _ (List.mem_of_getElem? (i := 166) (by decide +kernel)) rfl
theorem fk_RX11_173 : zF RX11 173 3 9 (.array .int) true := ⟨RX3, TX3, 19, tyX3, rfl, inTB_3, by decide, w_218, tyX3_ok, nmX3, by decide +kernel, rfl⟩
theorem w_219 : Cond.fieldLink "BalloonsMoor" 185 "BalloonsMoor$Flock" "where" "[I" ∈ zTB := zch_1 _ (List.mem_of_getElem? (i := 168) (by decide +kernel)) rfl
theorem fk_RX11_185 : zF RX11 185 3 10 (.array .int) true := ⟨RX3, TX3, 19, tyX3, rfl, inTB_3, by decide, w_219, tyX3_ok, nmX3, by decide +kernel, rfl⟩
theorem w_220 : Cond.fieldLink "BalloonsMoor" 194 "BalloonsMoor$Flock" "rain" "I" ∈ zTB := zch_1 _ (List.mem_of_getElem? (i := 182) (by decide +kernel)) rfl
theorem fk_RX11_194 : zF RX11 194 3 16 .int false := ⟨RX3, TX3, 19, tyX3, rfl, inTB_3, by decide, w_220, tyX3_ok, nmX3, by decide +kernel, rfl⟩
theorem w_221 : Cond.fieldLink "BalloonsMoor" 197 "BalloonsMoor$Flock" "size" "I" ∈ zTB := zch_1 _ (List.mem_of_getElem? (i := 178) (by decide +kernel)) rfl
theorem fk_RX11_197 : zF RX11 197 3 14 .int false := ⟨RX3, TX3, 19, tyX3, rfl, inTB_3, by decide, w_221, tyX3_ok, nmX3, by decide +kernel, rfl⟩
theorem w_222 : Cond.fieldLink "BalloonsMoor" 276 "BalloonsMoor$Flock" "ring" "[I" ∈ zTB := zch_1 _ (List.mem_of_getElem? (i := 170) (by decide +kernel)) rfl
theorem fk_RX11_276 : zF RX11 276 3 11 (.array .int) true := ⟨RX3, TX3, 19, tyX3, rfl, inTB_3, by decide, w_222, tyX3_ok, nmX3, by decide +kernel, rfl⟩
theorem w_223 : Cond.fieldLink "BalloonsMoor" 59 "BalloonsMoor" "answers" "LBalloonsMoor$Answers;" ∈ zTB := zch_2 _ (List.mem_of_getElem? (i := 178) (by decide +kernel)) rfl
theorem fk_RX11_59 : zF RX11 59 11 7 (.object "BalloonsMoor$Answers") true := ⟨RX11, TX11, 12, tyX11, rfl, inTB_11, by decide, w_223, tyX11_ok, nmX11, by decide +kernel, rfl⟩
theorem w_224 : Cond.fieldLink "BalloonsMoor" 288 "BalloonsMoor$Answers" "size" "I" ∈ zTB := zch_2 _ (List.mem_of_getElem? (i := 20) (by decide +kernel)) rfl
theorem fk_RX11_288 : zF RX11 288 1 1 .int false := ⟨RX1, TX1, 2, tyX1, rfl, inTB_1, by decide, w_224, tyX1_ok, nmX1, by decide +kernel, rfl⟩
theorem w_225 : Cond.fieldLink "BalloonsMoor" 236 "BalloonsMoor$Flock" "cameDown" "I" ∈ zTB := zch_1 _ (List.mem_of_getElem? (i := 183) (by decide +kernel)) rfl
theorem fk_RX11_236 : zF RX11 236 3 17 .int false := ⟨RX3, TX3, 19, tyX3, rfl, inTB_3, by decide, w_225, tyX3_ok, nmX3, by decide +kernel, rfl⟩
theorem w_226 : Cond.fieldLink "BalloonsMoor" 239 "BalloonsMoor$Flock" "wentLost" "I" ∈ zTB := zch_1 _ (List.mem_of_getElem? (i := 185) (by decide +kernel)) rfl
theorem fk_RX11_239 : zF RX11 239 3 18 .int false := ⟨RX3, TX3, 19, tyX3, rfl, inTB_3, by decide, w_226, tyX3_ok, nmX3, by decide +kernel, rfl⟩
theorem w_227 : Cond.fieldLink "BalloonsMoor" 73 "BalloonsMoor" "acts" "LBalloonsMoor$Acts;" ∈ zTB := zch_2 _ (List.mem_of_getElem? (i := 180) (by decide +kernel)) rfl
theorem fk_RX11_73 : zF RX11 73 11 9 (.object "BalloonsMoor$Acts") true := ⟨RX11, TX11, 12, tyX11, rfl, inTB_11, by decide, w_227, tyX11_ok, nmX11, by decide +kernel, rfl⟩
theorem w_228 : Cond.fieldLink "BalloonsMoor" 255 "BalloonsMoor$Acts" "size" "I" ∈ zTB := zch_2 _ (List.mem_of_getElem? (i := 85) (by decide +kernel)) rfl
theorem fk_RX11_255 : zF RX11 255 0 3 .int false := ⟨RX0, TX0, 4, tyX0, rfl, inTB_0, by decide, w_228, tyX0_ok, nmX0, by decide +kernel, rfl⟩
theorem w_229 : Cond.fieldLink "BalloonsMoor" 279 "BalloonsMoor$Acts" "first" "[I" ∈ zTB := zch_2 _ (List.mem_of_getElem? (i := 81) (by decide +kernel)) rfl
theorem fk_RX11_279 : zF RX11 279 0 1 (.array .int) true := ⟨RX0, TX0, 4, tyX0, rfl, inTB_0, by decide, w_229, tyX0_ok, nmX0, by decide +kernel, rfl⟩
theorem w_230 : Cond.fieldLink "BalloonsMoor" 282 "BalloonsMoor$Acts" "second" "[I" ∈ zTB := zch_2 _ (List.mem_of_getElem? (i := 83) (by decide +kernel)) rfl
theorem fk_RX11_282 : zF RX11 282 0 2 (.array .int) true := ⟨RX0, TX0, 4, tyX0, rfl, inTB_0, by decide, w_230, tyX0_ok, nmX0, by decide +kernel, rfl⟩
theorem w_231 : Cond.fieldLink "BalloonsMoor" 285 "BalloonsMoor$Acts" "kind" "[I" ∈ zTB := zch_2 _ (List.mem_of_getElem? (i := 79) (by decide +kernel)) rfl
theorem fk_RX11_285 : zF RX11 285 0 0 (.array .int) true := ⟨RX0, TX0, 4, tyX0, rfl, inTB_0, by decide, w_231, tyX0_ok, nmX0, by decide +kernel, rfl⟩
theorem w_232 : Cond.fieldLink "BalloonsMoor" 266 "BalloonsMoor$Past" "size" "I" ∈ zTB := zch_1 _ (List.mem_of_getElem? (i := 238) (by decide +kernel)) rfl
theorem fk_RX11_266 : zF RX11 266 6 4 .int false := ⟨RX6, TX6, 5, tyX6, rfl, inTB_6, by decide, w_232, tyX6_ok, nmX6, by decide +kernel, rfl⟩
theorem w_233 : Cond.fieldLink "BalloonsMoor" 46 "BalloonsMoor" "dream" "LBalloonsMoor$Flock;" ∈ zTB := zch_2 _ (List.mem_of_getElem? (i := 176) (by decide +kernel)) rfl
theorem fk_RX11_46 : zF RX11 46 11 5 (.object "BalloonsMoor$Flock") true := ⟨RX11, TX11, 12, tyX11, rfl, inTB_11, by decide, w_233, tyX11_ok, nmX11, by decide +kernel, rfl⟩
theorem w_234 : Cond.fieldLink "BalloonsMoor" 82 "BalloonsMoor" "berthing" "LBalloonsMoor$Berths;" ∈ zTB := zch_2 _ (List.mem_of_getElem? (i := 181) (by decide +kernel)) rfl
theorem fk_RX11_82 : zF RX11 82 11 10 (.object "BalloonsMoor$Berths") true := ⟨RX11, TX11, 12, tyX11, rfl, inTB_11, by decide, w_234, tyX11_ok, nmX11, by decide +kernel, rfl⟩
theorem w_235 : Cond.fieldLink "BalloonsMoor" 323 "BalloonsMoor$Berths" "size" "I" ∈ zTB := zch_2 _ (List.mem_of_getElem? (i := 109) (by decide +kernel)) rfl
theorem fk_RX11_323 : zF RX11 323 2 6 .int false := ⟨RX2, TX2, 7, tyX2, rfl, inTB_2, by decide, w_235, tyX2_ok, nmX2, by decide +kernel, rfl⟩
theorem w_236 : Cond.fieldLink "BalloonsMoor" 324 "BalloonsMoor$Berths" "least" "[I" ∈ zTB := zch_2 _ (List.mem_of_getElem? (i := 106) (by decide +kernel)) rfl
theorem fk_RX11_324 : zF RX11 324 2 4 (.array .int) true := ⟨RX2, TX2, 7, tyX2, rfl, inTB_2, by decide, w_236, tyX2_ok, nmX2, by decide +kernel, rfl⟩
theorem w_237 : Cond.fieldLink "BalloonsMoor" 331 "BalloonsMoor$Tower" "size" "I" ∈ zTB := zch_1 _ (List.mem_of_getElem? (i := 71) (by decide +kernel)) rfl
theorem fk_RX11_331 : zF RX11 331 9 6 .int false := ⟨RX9, TX9, 7, tyX9, rfl, inTB_9, by decide, w_237, tyX9_ok, nmX9, by decide +kernel, rfl⟩
theorem w_238 : Cond.fieldLink "BalloonsMoor" 91 "BalloonsMoor" "landing" "LBalloonsMoor$Landing;" ∈ zTB := zch_2 _ (List.mem_of_getElem? (i := 182) (by decide +kernel)) rfl
theorem fk_RX11_91 : zF RX11 91 11 11 (.object "BalloonsMoor$Landing") true := ⟨RX11, TX11, 12, tyX11, rfl, inTB_11, by decide, w_238, tyX11_ok, nmX11, by decide +kernel, rfl⟩
theorem w_239 : Cond.fieldLink "BalloonsMoor" 346 "BalloonsMoor$Landing" "hours" "I" ∈ zTB := zch_2 _ (List.mem_of_getElem? (i := 145) (by decide +kernel)) rfl
theorem fk_RX11_346 : zF RX11 346 4 11 .int false := ⟨RX4, TX4, 12, tyX4, rfl, inTB_4, by decide, w_239, tyX4_ok, nmX4, by decide +kernel, rfl⟩
theorem w_240 : Cond.fieldLink "BalloonsMoor" 349 "BalloonsMoor$Landing" "drops" "[I" ∈ zTB := zch_2 _ (List.mem_of_getElem? (i := 137) (by decide +kernel)) rfl
theorem fk_RX11_349 : zF RX11 349 4 5 (.array .int) true := ⟨RX4, TX4, 12, tyX4, rfl, inTB_4, by decide, w_240, tyX4_ok, nmX4, by decide +kernel, rfl⟩
theorem w_241 : Cond.fieldLink "BalloonsMoor" 352 "BalloonsMoor$Landing" "sacks" "I" ∈ zTB := zch_2 _ (List.mem_of_getElem? (i := 143) (by decide +kernel)) rfl
theorem fk_RX11_352 : zF RX11 352 4 10 .int false := ⟨RX4, TX4, 12, tyX4, rfl, inTB_4, by decide, w_241, tyX4_ok, nmX4, by decide +kernel, rfl⟩
theorem w_242 : Cond.fieldLink "BalloonsMoor" 382 "BalloonsMoor$Marks" "seen" "I" ∈ zTB := zch_2 _ (List.mem_of_getElem? (i := 45) (by decide +kernel)) rfl
theorem fk_RX11_382 : zF RX11 382 5 8 .int false := ⟨RX5, TX5, 11, tyX5, rfl, inTB_5, by decide, w_242, tyX5_ok, nmX5, by decide +kernel, rfl⟩
theorem w_243 : Cond.fieldLink "BalloonsMoor" 385 "BalloonsMoor$Marks" "least" "[I" ∈ zTB := zch_2 _ (List.mem_of_getElem? (i := 41) (by decide +kernel)) rfl
theorem fk_RX11_385 : zF RX11 385 5 6 (.array .int) true := ⟨RX5, TX5, 11, tyX5, rfl, inTB_5, by decide, w_243, tyX5_ok, nmX5, by decide +kernel, rfl⟩
theorem w_244 : Cond.fieldLink "BalloonsMoor" 386 "BalloonsMoor$Marks" "same" "I" ∈ zTB := zch_2 _ (List.mem_of_getElem? (i := 47) (by decide +kernel)) rfl
theorem fk_RX11_386 : zF RX11 386 5 9 .int false := ⟨RX5, TX5, 11, tyX5, rfl, inTB_5, by decide, w_244, tyX5_ok, nmX5, by decide +kernel, rfl⟩
theorem w_245 : Cond.fieldLink "BalloonsMoor" 389 "BalloonsMoor$Marks" "seenRing" "[I" ∈ zTB := zch_2 _ (List.mem_of_getElem? (i := 37) (by decide +kernel)) rfl
theorem fk_RX11_389 : zF RX11 389 5 3 (.array .int) true := ⟨RX5, TX5, 11, tyX5, rfl, inTB_5, by decide, w_245, tyX5_ok, nmX5, by decide +kernel, rfl⟩
theorem w_246 : Cond.fieldLink "BalloonsMoor" 423 "BalloonsMoor$Past" "isStored" "[Z" ∈ zTB := zch_1 _ (List.mem_of_getElem? (i := 235) (by decide +kernel)) rfl
theorem fk_RX11_423 : zF RX11 423 6 2 (.array .boolean) true := ⟨RX6, TX6, 5, tyX6, rfl, inTB_6, by decide, w_246, tyX6_ok, nmX6, by decide +kernel, rfl⟩
theorem w_247 : Cond.fieldLink "BalloonsMoor" 430 "BalloonsMoor$Flock" "now" "I" ∈ zTB := zch_1 _ (List.mem_of_getElem? (i := 180) (by decide +kernel)) rfl
theorem fk_RX11_430 : zF RX11 430 3 15 .int false := ⟨RX3, TX3, 19, tyX3, rfl, inTB_3, by decide, w_247, tyX3_ok, nmX3, by decide +kernel, rfl⟩
theorem w_248 : Cond.fieldLink "BalloonsMoor" 433 "BalloonsMoor$Answers" "numbers" "[J" ∈ zTB := zch_2 _ (List.mem_of_getElem? (i := 18) (by decide +kernel)) rfl
theorem fk_RX11_433 : zF RX11 433 1 0 (.array .long) true := ⟨RX1, TX1, 2, tyX1, rfl, inTB_1, by decide, w_248, tyX1_ok, nmX1, by decide +kernel, rfl⟩
theorem w_249 : Cond.code yX8_digit prog_10_method_11_code 4 (some .int) ∈ zTB := zch_3 _ (List.mem_of_getElem? (i := 6) (by decide +kernel)) rfl
theorem w_250 : Cond.methodLink "BalloonsMoor$Acts" 58 yX8_digit ∈ zTB := zch_4 _ (List.mem_of_getElem? (i := 95) (by decide +kernel)) rfl
theorem w_251 : Cond.instanceMethod yX8_digit ∈ zTB := zch_3 _ (List.mem_of_getElem? (i := 4) (by decide +kernel)) rfl
theorem w_252 : Cond.selects "BalloonsMoor$Told" yX8_digit yX8_digit ∈ zTB := zch_3 _ (List.mem_of_getElem? (i := 5) (by decide +kernel)) rfl
theorem w_253 : Cond.initialized "BalloonsMoor$Told" ∈ zTB := zch_1 _ (List.mem_of_getElem? (i := 2) (by decide +kernel)) rfl
theorem kk_RX0_58 : zKV RX0 58 RX8 yX8_digit cX8_digit 4 (some .int) 2 := ⟨w_250, w_251, w_252, w_253, w_249, by decide +kernel, by decide⟩
theorem w_254 : Cond.code yX8_take prog_10_method_9_code 2 (some .boolean) ∈ zTB := zch_3 _ (List.mem_of_getElem? (i := 10) (by decide +kernel)) rfl
theorem w_255 : Cond.methodLink "BalloonsMoor$Acts" 35 yX8_take ∈ zTB := zch_4 _ (List.mem_of_getElem? (i := 104) (by decide +kernel)) rfl
theorem w_256 : Cond.instanceMethod yX8_take ∈ zTB := zch_3 _ (List.mem_of_getElem? (i := 8) (by decide +kernel)) rfl
theorem w_257 : Cond.selects "BalloonsMoor$Told" yX8_take yX8_take ∈ zTB := zch_3 _ (List.mem_of_getElem? (i := 9) (by decide +kernel)) rfl
theorem kk_RX0_35 : zKV RX0 35 RX8 yX8_take cX8_take 2 (some .boolean) 1 := ⟨w_255, w_256, w_257, w_253, w_254, by decide +kernel, by decide⟩
theorem w_258 : Cond.code yX0_readSecond prog_2_method_5_code 3 (some .boolean) ∈ zTB := zch_4 _ (List.mem_of_getElem? (i := 99) (by decide +kernel)) rfl
theorem w_259 : Cond.methodLink "BalloonsMoor$Acts" 49 yX0_readSecond ∈ zTB := zch_4 _ (List.mem_of_getElem? (i := 96) (by decide +kernel)) rfl
theorem w_260 : Cond.instanceMethod yX0_readSecond ∈ zTB := zch_4 _ (List.mem_of_getElem? (i := 98) (by decide +kernel)) rfl
theorem w_sel_X0_readSecond : Cond.selects RX0 yX0_readSecond yX0_readSecond ∈ zTB := zch_0 _ (List.mem_of_getElem? (i := 24) (by decide +kernel)) rfl
theorem w_261 : Cond.initialized "BalloonsMoor$Acts" ∈ zTB := zch_1 _ (List.mem_of_getElem? (i := 11) (by decide +kernel)) rfl
theorem kk_RX0_49 : zKV RX0 49 RX0 yX0_readSecond cX0_readSecond 3 (some .boolean) 2 := ⟨w_259, w_260, w_sel_X0_readSecond, w_261, w_258, by decide +kernel, by decide⟩
theorem w_262 : Cond.methodLink "BalloonsMoor$Told" 31 yX8_digit ∈ zTB := zch_3 _ (List.mem_of_getElem? (i := 56) (by decide +kernel)) rfl
theorem kk_RX8_31 : zKV RX8 31 RX8 yX8_digit cX8_digit 4 (some .int) 2 := ⟨w_262, w_251, w_252, w_253, w_249, by decide +kernel, by decide⟩
theorem w_263 : Cond.code yX8_isDigit prog_10_method_10_code 1 (some .boolean) ∈ zTB := zch_3 _ (List.mem_of_getElem? (i := 60) (by decide +kernel)) rfl
theorem w_264 : Cond.methodLink "BalloonsMoor$Told" 34 yX8_isDigit ∈ zTB := zch_3 _ (List.mem_of_getElem? (i := 57) (by decide +kernel)) rfl
theorem w_265 : Cond.instanceMethod yX8_isDigit ∈ zTB := zch_3 _ (List.mem_of_getElem? (i := 58) (by decide +kernel)) rfl
theorem w_266 : Cond.selects "BalloonsMoor$Told" yX8_isDigit yX8_isDigit ∈ zTB := zch_3 _ (List.mem_of_getElem? (i := 59) (by decide +kernel)) rfl
theorem kk_RX8_34 : zKV RX8 34 RX8 yX8_isDigit cX8_isDigit 1 (some .boolean) 0 := ⟨w_264, w_265, w_266, w_253, w_263, by decide +kernel, by decide⟩
theorem w_267 : Cond.code yX8_next prog_10_method_7_code 1 (some .int) ∈ zTB := zch_3 _ (List.mem_of_getElem? (i := 131) (by decide +kernel)) rfl
theorem w_268 : Cond.methodLink "BalloonsMoor$Acts" 39 yX8_next ∈ zTB := zch_4 _ (List.mem_of_getElem? (i := 89) (by decide +kernel)) rfl
theorem w_269 : Cond.instanceMethod yX8_next ∈ zTB := zch_3 _ (List.mem_of_getElem? (i := 129) (by decide +kernel)) rfl
theorem w_270 : Cond.selects "BalloonsMoor$Told" yX8_next yX8_next ∈ zTB := zch_3 _ (List.mem_of_getElem? (i := 130) (by decide +kernel)) rfl
theorem kk_RX0_39 : zKV RX0 39 RX8 yX8_next cX8_next 1 (some .int) 0 := ⟨w_268, w_269, w_270, w_253, w_267, by decide +kernel, by decide⟩
theorem w_271 : Cond.code yX8_step prog_10_method_8_code 1 (none) ∈ zTB := zch_3 _ (List.mem_of_getElem? (i := 135) (by decide +kernel)) rfl
theorem w_272 : Cond.methodLink "BalloonsMoor$Acts" 43 yX8_step ∈ zTB := zch_4 _ (List.mem_of_getElem? (i := 90) (by decide +kernel)) rfl
theorem w_273 : Cond.instanceMethod yX8_step ∈ zTB := zch_3 _ (List.mem_of_getElem? (i := 133) (by decide +kernel)) rfl
theorem w_274 : Cond.selects "BalloonsMoor$Told" yX8_step yX8_step ∈ zTB := zch_3 _ (List.mem_of_getElem? (i := 134) (by decide +kernel)) rfl
theorem kk_RX0_43 : zKV RX0 43 RX8 yX8_step cX8_step 1 none 0 := ⟨w_272, w_273, w_274, w_253, w_271, by decide +kernel, by decide⟩
theorem w_275 : Cond.code yX0_readFirst prog_2_method_4_code 3 (some .boolean) ∈ zTB := zch_4 _ (List.mem_of_getElem? (i := 94) (by decide +kernel)) rfl
theorem w_276 : Cond.methodLink "BalloonsMoor$Acts" 46 yX0_readFirst ∈ zTB := zch_4 _ (List.mem_of_getElem? (i := 91) (by decide +kernel)) rfl
theorem w_277 : Cond.instanceMethod yX0_readFirst ∈ zTB := zch_4 _ (List.mem_of_getElem? (i := 93) (by decide +kernel)) rfl
theorem w_sel_X0_readFirst : Cond.selects RX0 yX0_readFirst yX0_readFirst ∈ zTB := zch_0 _ (List.mem_of_getElem? (i := 23) (by decide +kernel)) rfl
theorem kk_RX0_46 : zKV RX0 46 RX0 yX0_readFirst cX0_readFirst 3 (some .boolean) 2 := ⟨w_276, w_277, w_sel_X0_readFirst, w_261, w_275, by decide +kernel, by decide⟩
theorem w_278 : Cond.code yX8_number prog_10_method_12_code 2 (some .int) ∈ zTB := zch_3 _ (List.mem_of_getElem? (i := 55) (by decide +kernel)) rfl
theorem w_279 : Cond.methodLink "BalloonsMoor$Acts" 55 yX8_number ∈ zTB := zch_4 _ (List.mem_of_getElem? (i := 105) (by decide +kernel)) rfl
theorem w_280 : Cond.instanceMethod yX8_number ∈ zTB := zch_3 _ (List.mem_of_getElem? (i := 53) (by decide +kernel)) rfl
theorem w_281 : Cond.selects "BalloonsMoor$Told" yX8_number yX8_number ∈ zTB := zch_3 _ (List.mem_of_getElem? (i := 54) (by decide +kernel)) rfl
theorem kk_RX0_55 : zKV RX0 55 RX8 yX8_number cX8_number 2 (some .int) 0 := ⟨w_279, w_280, w_281, w_253, w_278, by decide +kernel, by decide⟩
theorem w_282 : Cond.code yX0_readChange prog_2_method_6_code 4 (some .boolean) ∈ zTB := zch_4 _ (List.mem_of_getElem? (i := 103) (by decide +kernel)) rfl
theorem w_283 : Cond.methodLink "BalloonsMoor$Acts" 52 yX0_readChange ∈ zTB := zch_4 _ (List.mem_of_getElem? (i := 100) (by decide +kernel)) rfl
theorem w_284 : Cond.instanceMethod yX0_readChange ∈ zTB := zch_4 _ (List.mem_of_getElem? (i := 102) (by decide +kernel)) rfl
theorem w_sel_X0_readChange : Cond.selects RX0 yX0_readChange yX0_readChange ∈ zTB := zch_0 _ (List.mem_of_getElem? (i := 25) (by decide +kernel)) rfl
theorem kk_RX0_52 : zKV RX0 52 RX0 yX0_readChange cX0_readChange 4 (some .boolean) 2 := ⟨w_283, w_284, w_sel_X0_readChange, w_261, w_282, by decide +kernel, by decide⟩
theorem w_285 : Cond.code yX8_isRead prog_10_method_6_code 1 (some .boolean) ∈ zTB := zch_2 _ (List.mem_of_getElem? (i := 238) (by decide +kernel)) rfl
theorem w_286 : Cond.methodLink "BalloonsMoor$Acts" 25 yX8_isRead ∈ zTB := zch_4 _ (List.mem_of_getElem? (i := 84) (by decide +kernel)) rfl
theorem w_287 : Cond.instanceMethod yX8_isRead ∈ zTB := zch_2 _ (List.mem_of_getElem? (i := 236) (by decide +kernel)) rfl
theorem w_288 : Cond.selects "BalloonsMoor$Told" yX8_isRead yX8_isRead ∈ zTB := zch_2 _ (List.mem_of_getElem? (i := 237) (by decide +kernel)) rfl
theorem kk_RX0_25 : zKV RX0 25 RX8 yX8_isRead cX8_isRead 1 (some .boolean) 0 := ⟨w_286, w_287, w_288, w_253, w_285, by decide +kernel, by decide⟩
theorem w_289 : Cond.code yX0_readOne prog_2_method_3_code 3 (some .boolean) ∈ zTB := zch_4 _ (List.mem_of_getElem? (i := 88) (by decide +kernel)) rfl
theorem w_290 : Cond.methodLink "BalloonsMoor$Acts" 31 yX0_readOne ∈ zTB := zch_4 _ (List.mem_of_getElem? (i := 85) (by decide +kernel)) rfl
theorem w_291 : Cond.instanceMethod yX0_readOne ∈ zTB := zch_4 _ (List.mem_of_getElem? (i := 87) (by decide +kernel)) rfl
theorem w_sel_X0_readOne : Cond.selects RX0 yX0_readOne yX0_readOne ∈ zTB := zch_0 _ (List.mem_of_getElem? (i := 22) (by decide +kernel)) rfl
theorem kk_RX0_31 : zKV RX0 31 RX0 yX0_readOne cX0_readOne 3 (some .boolean) 2 := ⟨w_290, w_291, w_sel_X0_readOne, w_261, w_289, by decide +kernel, by decide⟩
theorem w_292 : Cond.code yX3_has prog_5_method_3_code 2 (some .boolean) ∈ zTB := zch_3 _ (List.mem_of_getElem? (i := 172) (by decide +kernel)) rfl
theorem w_293 : Cond.methodLink "BalloonsMoor$Flock" 92 yX3_has ∈ zTB := zch_3 _ (List.mem_of_getElem? (i := 177) (by decide +kernel)) rfl
theorem w_294 : Cond.instanceMethod yX3_has ∈ zTB := zch_3 _ (List.mem_of_getElem? (i := 170) (by decide +kernel)) rfl
theorem w_295 : Cond.selects "BalloonsMoor$Flock" yX3_has yX3_has ∈ zTB := zch_3 _ (List.mem_of_getElem? (i := 171) (by decide +kernel)) rfl
theorem w_296 : Cond.initialized "BalloonsMoor$Flock" ∈ zTB := zch_1 _ (List.mem_of_getElem? (i := 7) (by decide +kernel)) rfl
theorem kk_RX3_92 : zKV RX3 92 RX3 yX3_has cX3_has 2 (some .boolean) 1 := ⟨w_293, w_294, w_295, w_296, w_292, by decide +kernel, by decide⟩
theorem w_297 : Cond.code yX3_weightOf prog_5_method_8_code 2 (some .int) ∈ zTB := zch_4 _ (List.mem_of_getElem? (i := 156) (by decide +kernel)) rfl
theorem w_298 : Cond.methodLink "BalloonsMoor$Berths" 36 yX3_weightOf ∈ zTB := zch_4 _ (List.mem_of_getElem? (i := 195) (by decide +kernel)) rfl
theorem w_299 : Cond.instanceMethod yX3_weightOf ∈ zTB := zch_4 _ (List.mem_of_getElem? (i := 154) (by decide +kernel)) rfl
theorem w_300 : Cond.selects "BalloonsMoor$Flock" yX3_weightOf yX3_weightOf ∈ zTB := zch_4 _ (List.mem_of_getElem? (i := 155) (by decide +kernel)) rfl
theorem kk_RX2_36 : zKV RX2 36 RX3 yX3_weightOf cX3_weightOf 2 (some .int) 1 := ⟨w_298, w_299, w_300, w_296, w_297, by decide +kernel, by decide⟩
theorem w_301 : Cond.code yX9_has prog_11_method_2_code 2 (some .boolean) ∈ zTB := zch_3 _ (List.mem_of_getElem? (i := 216) (by decide +kernel)) rfl
theorem w_302 : Cond.methodLink "BalloonsMoor$Tower" 55 yX9_has ∈ zTB := zch_4 _ (List.mem_of_getElem? (i := 62) (by decide +kernel)) rfl
theorem w_303 : Cond.instanceMethod yX9_has ∈ zTB := zch_3 _ (List.mem_of_getElem? (i := 214) (by decide +kernel)) rfl
theorem w_304 : Cond.selects "BalloonsMoor$Tower" yX9_has yX9_has ∈ zTB := zch_3 _ (List.mem_of_getElem? (i := 215) (by decide +kernel)) rfl
theorem w_305 : Cond.initialized "BalloonsMoor$Tower" ∈ zTB := zch_1 _ (List.mem_of_getElem? (i := 3) (by decide +kernel)) rfl
theorem kk_RX9_55 : zKV RX9 55 RX9 yX9_has cX9_has 2 (some .boolean) 1 := ⟨w_302, w_303, w_304, w_305, w_301, by decide +kernel, by decide⟩
theorem w_306 : Cond.code yX9_barredBy prog_11_method_8_code 5 (some .int) ∈ zTB := zch_4 _ (List.mem_of_getElem? (i := 212) (by decide +kernel)) rfl
theorem w_307 : Cond.methodLink "BalloonsMoor$Berths" 69 yX9_barredBy ∈ zTB := zch_4 _ (List.mem_of_getElem? (i := 209) (by decide +kernel)) rfl
theorem w_308 : Cond.instanceMethod yX9_barredBy ∈ zTB := zch_4 _ (List.mem_of_getElem? (i := 210) (by decide +kernel)) rfl
theorem w_309 : Cond.selects "BalloonsMoor$Tower" yX9_barredBy yX9_barredBy ∈ zTB := zch_4 _ (List.mem_of_getElem? (i := 211) (by decide +kernel)) rfl
theorem kk_RX2_69 : zKV RX2 69 RX9 yX9_barredBy cX9_barredBy 5 (some .int) 3 := ⟨w_307, w_308, w_309, w_305, w_306, by decide +kernel, by decide⟩
theorem w_310 : Cond.code yX2_openTo prog_4_method_7_code 4 (some .int) ∈ zTB := zch_4 _ (List.mem_of_getElem? (i := 208) (by decide +kernel)) rfl
theorem w_311 : Cond.methodLink "BalloonsMoor$Berths" 54 yX2_openTo ∈ zTB := zch_4 _ (List.mem_of_getElem? (i := 205) (by decide +kernel)) rfl
theorem w_312 : Cond.instanceMethod yX2_openTo ∈ zTB := zch_4 _ (List.mem_of_getElem? (i := 207) (by decide +kernel)) rfl
theorem w_sel_X2_openTo : Cond.selects RX2 yX2_openTo yX2_openTo ∈ zTB := zch_0 _ (List.mem_of_getElem? (i := 29) (by decide +kernel)) rfl
theorem w_313 : Cond.initialized "BalloonsMoor$Berths" ∈ zTB := zch_1 _ (List.mem_of_getElem? (i := 12) (by decide +kernel)) rfl
theorem kk_RX2_54 : zKV RX2 54 RX2 yX2_openTo cX2_openTo 4 (some .int) 1 := ⟨w_311, w_312, w_sel_X2_openTo, w_313, w_310, by decide +kernel, by decide⟩
theorem w_314 : Cond.code yX2_waysWith prog_4_method_6_code 4 (some .int) ∈ zTB := zch_4 _ (List.mem_of_getElem? (i := 217) (by decide +kernel)) rfl
theorem w_315 : Cond.methodLink "BalloonsMoor$Berths" 65 yX2_waysWith ∈ zTB := zch_4 _ (List.mem_of_getElem? (i := 214) (by decide +kernel)) rfl
theorem w_316 : Cond.instanceMethod yX2_waysWith ∈ zTB := zch_4 _ (List.mem_of_getElem? (i := 216) (by decide +kernel)) rfl
theorem w_sel_X2_waysWith : Cond.selects RX2 yX2_waysWith yX2_waysWith ∈ zTB := zch_0 _ (List.mem_of_getElem? (i := 30) (by decide +kernel)) rfl
theorem kk_RX2_65 : zKV RX2 65 RX2 yX2_waysWith cX2_waysWith 4 (some .int) 3 := ⟨w_315, w_316, w_sel_X2_waysWith, w_313, w_314, by decide +kernel, by decide⟩
theorem w_317 : Cond.code yJ6_bitCount_0f7a4 prog_19_method_49_code 1 (some .int) ∈ zTB := zch_4 _ (List.mem_of_getElem? (i := 112) (by decide +kernel)) rfl
theorem w_318 : Cond.methodLink "BalloonsMoor$Berths" 57 yJ6_bitCount_0f7a4 ∈ zTB := zch_4 _ (List.mem_of_getElem? (i := 213) (by decide +kernel)) rfl
theorem w_319 : Cond.static yJ6_bitCount_0f7a4 ∈ zTB := zch_4 _ (List.mem_of_getElem? (i := 111) (by decide +kernel)) rfl
theorem w_320 : Cond.initialized "java/lang/Integer" ∈ zTB := zch_1 _ (List.mem_of_getElem? (i := 25) (by decide +kernel)) rfl
theorem kk_RX2_57 : zKS RX2 57 yJ6_bitCount_0f7a4 cJ6_bitCount_0f7a4 1 (some .int) 1 := ⟨w_318, w_319, w_320, w_317, by decide +kernel, by decide⟩
theorem w_321 : Cond.code yX2_waysFrom prog_4_method_5_code 6 (some .int) ∈ zTB := zch_4 _ (List.mem_of_getElem? (i := 203) (by decide +kernel)) rfl
theorem w_322 : Cond.methodLink "BalloonsMoor$Berths" 44 yX2_waysFrom ∈ zTB := zch_4 _ (List.mem_of_getElem? (i := 200) (by decide +kernel)) rfl
theorem w_323 : Cond.instanceMethod yX2_waysFrom ∈ zTB := zch_4 _ (List.mem_of_getElem? (i := 202) (by decide +kernel)) rfl
theorem w_sel_X2_waysFrom : Cond.selects RX2 yX2_waysFrom yX2_waysFrom ∈ zTB := zch_0 _ (List.mem_of_getElem? (i := 28) (by decide +kernel)) rfl
theorem kk_RX2_44 : zKV RX2 44 RX2 yX2_waysFrom cX2_waysFrom 6 (some .int) 2 := ⟨w_322, w_323, w_sel_X2_waysFrom, w_313, w_321, by decide +kernel, by decide⟩
theorem w_324 : Cond.methodLink "BalloonsMoor$Flock" 84 yX8_number ∈ zTB := zch_3 _ (List.mem_of_getElem? (i := 52) (by decide +kernel)) rfl
theorem kk_RX3_84 : zKV RX3 84 RX8 yX8_number cX8_number 2 (some .int) 0 := ⟨w_324, w_280, w_281, w_253, w_278, by decide +kernel, by decide⟩
theorem w_325 : Cond.methodLink "BalloonsMoor$Flock" 80 yX8_take ∈ zTB := zch_3 _ (List.mem_of_getElem? (i := 61) (by decide +kernel)) rfl
theorem kk_RX3_80 : zKV RX3 80 RX8 yX8_take cX8_take 2 (some .boolean) 1 := ⟨w_325, w_256, w_257, w_253, w_254, by decide +kernel, by decide⟩
theorem w_326 : Cond.methodLink "BalloonsMoor$Flock" 88 yX8_digit ∈ zTB := zch_3 _ (List.mem_of_getElem? (i := 62) (by decide +kernel)) rfl
theorem kk_RX3_88 : zKV RX3 88 RX8 yX8_digit cX8_digit 4 (some .int) 2 := ⟨w_326, w_251, w_252, w_253, w_249, by decide +kernel, by decide⟩
theorem w_327 : Cond.code yX3_readLine prog_5_method_7_code 3 (some .boolean) ∈ zTB := zch_3 _ (List.mem_of_getElem? (i := 51) (by decide +kernel)) rfl
theorem w_328 : Cond.methodLink "BalloonsMoor$Flock" 76 yX3_readLine ∈ zTB := zch_3 _ (List.mem_of_getElem? (i := 48) (by decide +kernel)) rfl
theorem w_329 : Cond.instanceMethod yX3_readLine ∈ zTB := zch_3 _ (List.mem_of_getElem? (i := 50) (by decide +kernel)) rfl
theorem w_sel_X3_readLine : Cond.selects RX3 yX3_readLine yX3_readLine ∈ zTB := zch_0 _ (List.mem_of_getElem? (i := 3) (by decide +kernel)) rfl
theorem kk_RX3_76 : zKV RX3 76 RX3 yX3_readLine cX3_readLine 3 (some .boolean) 2 := ⟨w_328, w_329, w_sel_X3_readLine, w_296, w_327, by decide +kernel, by decide⟩
theorem w_330 : Cond.methodLink "BalloonsMoor$Flock" 66 yX8_isRead ∈ zTB := zch_3 _ (List.mem_of_getElem? (i := 43) (by decide +kernel)) rfl
theorem kk_RX3_66 : zKV RX3 66 RX8 yX8_isRead cX8_isRead 1 (some .boolean) 0 := ⟨w_330, w_287, w_288, w_253, w_285, by decide +kernel, by decide⟩
theorem w_331 : Cond.code yX3_readLines prog_5_method_6_code 3 (some .int) ∈ zTB := zch_3 _ (List.mem_of_getElem? (i := 47) (by decide +kernel)) rfl
theorem w_332 : Cond.methodLink "BalloonsMoor$Flock" 72 yX3_readLines ∈ zTB := zch_3 _ (List.mem_of_getElem? (i := 44) (by decide +kernel)) rfl
theorem w_333 : Cond.instanceMethod yX3_readLines ∈ zTB := zch_3 _ (List.mem_of_getElem? (i := 46) (by decide +kernel)) rfl
theorem w_sel_X3_readLines : Cond.selects RX3 yX3_readLines yX3_readLines ∈ zTB := zch_0 _ (List.mem_of_getElem? (i := 2) (by decide +kernel)) rfl
theorem kk_RX3_72 : zKV RX3 72 RX3 yX3_readLines cX3_readLines 3 (some .int) 1 := ⟨w_332, w_333, w_sel_X3_readLines, w_296, w_331, by decide +kernel, by decide⟩
theorem w_334 : Cond.code yX7_joined prog_9_method_10_code 3 (some .int) ∈ zTB := zch_3 _ (List.mem_of_getElem? (i := 188) (by decide +kernel)) rfl
theorem w_335 : Cond.methodLink "BalloonsMoor$Rule" 82 yX7_joined ∈ zTB := zch_3 _ (List.mem_of_getElem? (i := 186) (by decide +kernel)) rfl
theorem w_336 : Cond.static yX7_joined ∈ zTB := zch_3 _ (List.mem_of_getElem? (i := 187) (by decide +kernel)) rfl
theorem w_337 : Cond.initialized "BalloonsMoor$Rule" ∈ zTB := zch_1 _ (List.mem_of_getElem? (i := 6) (by decide +kernel)) rfl
theorem kk_RX7_82 : zKS RX7 82 yX7_joined cX7_joined 3 (some .int) 3 := ⟨w_335, w_336, w_337, w_334, by decide +kernel, by decide⟩
theorem w_338 : Cond.code yX7_valueBy prog_9_method_9_code 5 (some .int) ∈ zTB := zch_3 _ (List.mem_of_getElem? (i := 185) (by decide +kernel)) rfl
theorem w_339 : Cond.methodLink "BalloonsMoor$Flock" 102 yX7_valueBy ∈ zTB := zch_3 _ (List.mem_of_getElem? (i := 182) (by decide +kernel)) rfl
theorem w_340 : Cond.instanceMethod yX7_valueBy ∈ zTB := zch_3 _ (List.mem_of_getElem? (i := 183) (by decide +kernel)) rfl
theorem w_341 : Cond.selects "BalloonsMoor$Rule" yX7_valueBy yX7_valueBy ∈ zTB := zch_3 _ (List.mem_of_getElem? (i := 184) (by decide +kernel)) rfl
theorem kk_RX3_102 : zKV RX3 102 RX7 yX7_valueBy cX7_valueBy 5 (some .int) 1 := ⟨w_339, w_340, w_341, w_337, w_338, by decide +kernel, by decide⟩
theorem w_342 : Cond.code yX3_liftAs prog_5_method_10_code 5 (some .int) ∈ zTB := zch_3 _ (List.mem_of_getElem? (i := 181) (by decide +kernel)) rfl
theorem w_343 : Cond.methodLink "BalloonsMoor$Flock" 95 yX3_liftAs ∈ zTB := zch_3 _ (List.mem_of_getElem? (i := 178) (by decide +kernel)) rfl
theorem w_344 : Cond.instanceMethod yX3_liftAs ∈ zTB := zch_3 _ (List.mem_of_getElem? (i := 179) (by decide +kernel)) rfl
theorem w_345 : Cond.selects "BalloonsMoor$Flock" yX3_liftAs yX3_liftAs ∈ zTB := zch_3 _ (List.mem_of_getElem? (i := 180) (by decide +kernel)) rfl
theorem kk_RX3_95 : zKV RX3 95 RX3 yX3_liftAs cX3_liftAs 5 (some .int) 4 := ⟨w_343, w_344, w_345, w_296, w_342, by decide +kernel, by decide⟩
theorem w_code_Math_abs : Cond.code Lib.Math.abs.name Lib.Math.abs.code 1 (some .int) ∈ zTB := zch_3 _ (List.mem_of_getElem? (i := 223) (by decide +kernel)) rfl
theorem w_346 : Cond.methodLink "BalloonsMoor$Flock" 106 yJ9_abs_0f7a4 ∈ zTB := zch_3 _ (List.mem_of_getElem? (i := 221) (by decide +kernel)) rfl
theorem w_347 : Cond.static yJ9_abs_0f7a4 ∈ zTB := zch_3 _ (List.mem_of_getElem? (i := 222) (by decide +kernel)) rfl
theorem w_348 : Cond.initialized "java/lang/Math" ∈ zTB := zch_1 _ (List.mem_of_getElem? (i := 15) (by decide +kernel)) rfl
theorem kk_RX3_106 : zKS RX3 106 Lib.Math.abs.name Lib.Math.abs.code 1 (some .int) 1 := ⟨w_346, w_347, w_348, w_code_Math_abs, by decide +kernel, by decide⟩
theorem w_349 : Cond.code yX3_areMoored prog_5_method_20_code 3 (some .boolean) ∈ zTB := zch_4 _ (List.mem_of_getElem? (i := 57) (by decide +kernel)) rfl
theorem w_350 : Cond.methodLink "BalloonsMoor$Flock" 112 yX3_areMoored ∈ zTB := zch_4 _ (List.mem_of_getElem? (i := 54) (by decide +kernel)) rfl
theorem w_351 : Cond.instanceMethod yX3_areMoored ∈ zTB := zch_4 _ (List.mem_of_getElem? (i := 56) (by decide +kernel)) rfl
theorem w_sel_X3_areMoored : Cond.selects RX3 yX3_areMoored yX3_areMoored ∈ zTB := zch_0 _ (List.mem_of_getElem? (i := 19) (by decide +kernel)) rfl
theorem kk_RX3_112 : zKV RX3 112 RX3 yX3_areMoored cX3_areMoored 3 (some .boolean) 2 := ⟨w_350, w_351, w_sel_X3_areMoored, w_296, w_349, by decide +kernel, by decide⟩
theorem w_352 : Cond.code yX9_areNear prog_11_method_6_code 3 (some .boolean) ∈ zTB := zch_4 _ (List.mem_of_getElem? (i := 61) (by decide +kernel)) rfl
theorem w_353 : Cond.methodLink "BalloonsMoor$Flock" 116 yX9_areNear ∈ zTB := zch_4 _ (List.mem_of_getElem? (i := 58) (by decide +kernel)) rfl
theorem w_354 : Cond.instanceMethod yX9_areNear ∈ zTB := zch_4 _ (List.mem_of_getElem? (i := 59) (by decide +kernel)) rfl
theorem w_355 : Cond.selects "BalloonsMoor$Tower" yX9_areNear yX9_areNear ∈ zTB := zch_4 _ (List.mem_of_getElem? (i := 60) (by decide +kernel)) rfl
theorem kk_RX3_116 : zKV RX3 116 RX9 yX9_areNear cX9_areNear 3 (some .boolean) 2 := ⟨w_353, w_354, w_355, w_305, w_352, by decide +kernel, by decide⟩
theorem w_356 : Cond.code yX9_isLower prog_11_method_7_code 3 (some .boolean) ∈ zTB := zch_4 _ (List.mem_of_getElem? (i := 152) (by decide +kernel)) rfl
theorem w_357 : Cond.methodLink "BalloonsMoor$Flock" 121 yX9_isLower ∈ zTB := zch_4 _ (List.mem_of_getElem? (i := 149) (by decide +kernel)) rfl
theorem w_358 : Cond.instanceMethod yX9_isLower ∈ zTB := zch_4 _ (List.mem_of_getElem? (i := 150) (by decide +kernel)) rfl
theorem w_359 : Cond.selects "BalloonsMoor$Tower" yX9_isLower yX9_isLower ∈ zTB := zch_4 _ (List.mem_of_getElem? (i := 151) (by decide +kernel)) rfl
theorem kk_RX3_121 : zKV RX3 121 RX9 yX9_isLower cX9_isLower 3 (some .boolean) 2 := ⟨w_357, w_358, w_359, w_305, w_356, by decide +kernel, by decide⟩
theorem w_360 : Cond.methodLink "BalloonsMoor$Flock" 124 yX3_weightOf ∈ zTB := zch_4 _ (List.mem_of_getElem? (i := 153) (by decide +kernel)) rfl
theorem kk_RX3_124 : zKV RX3 124 RX3 yX3_weightOf cX3_weightOf 2 (some .int) 1 := ⟨w_360, w_299, w_300, w_296, w_297, by decide +kernel, by decide⟩
theorem w_code_Math_min : Cond.code Lib.Math.min.name Lib.Math.min.code 2 (some .int) ∈ zTB := zch_2 _ (List.mem_of_getElem? (i := 230) (by decide +kernel)) rfl
theorem w_361 : Cond.methodLink "BalloonsMoor" 202 yJ9_min_7cf53 ∈ zTB := zch_3 _ (List.mem_of_getElem? (i := 150) (by decide +kernel)) rfl
theorem w_362 : Cond.static yJ9_min_7cf53 ∈ zTB := zch_2 _ (List.mem_of_getElem? (i := 229) (by decide +kernel)) rfl
theorem kk_RX11_202 : zKS RX11 202 Lib.Math.min.name Lib.Math.min.code 2 (some .int) 2 := ⟨w_361, w_362, w_348, w_code_Math_min, by decide +kernel, by decide⟩
theorem w_code_Math_max : Cond.code Lib.Math.max.name Lib.Math.max.code 2 (some .int) ∈ zTB := zch_3 _ (List.mem_of_getElem? (i := 153) (by decide +kernel)) rfl
theorem w_363 : Cond.methodLink "BalloonsMoor" 207 yJ9_max_7cf53 ∈ zTB := zch_3 _ (List.mem_of_getElem? (i := 151) (by decide +kernel)) rfl
theorem w_364 : Cond.static yJ9_max_7cf53 ∈ zTB := zch_3 _ (List.mem_of_getElem? (i := 152) (by decide +kernel)) rfl
theorem kk_RX11_207 : zKS RX11 207 Lib.Math.max.name Lib.Math.max.code 2 (some .int) 2 := ⟨w_363, w_364, w_348, w_code_Math_max, by decide +kernel, by decide⟩
theorem w_365 : Cond.code yX3_liftOf prog_5_method_9_code 2 (some .int) ∈ zTB := zch_3 _ (List.mem_of_getElem? (i := 176) (by decide +kernel)) rfl
theorem w_366 : Cond.methodLink "BalloonsMoor$Flock" 145 yX3_liftOf ∈ zTB := zch_4 _ (List.mem_of_getElem? (i := 28) (by decide +kernel)) rfl
theorem w_367 : Cond.instanceMethod yX3_liftOf ∈ zTB := zch_3 _ (List.mem_of_getElem? (i := 174) (by decide +kernel)) rfl
theorem w_368 : Cond.selects "BalloonsMoor$Flock" yX3_liftOf yX3_liftOf ∈ zTB := zch_3 _ (List.mem_of_getElem? (i := 175) (by decide +kernel)) rfl
theorem kk_RX3_145 : zKV RX3 145 RX3 yX3_liftOf cX3_liftOf 2 (some .int) 1 := ⟨w_366, w_367, w_368, w_296, w_365, by decide +kernel, by decide⟩
theorem w_369 : Cond.code yX11_highBy prog_1_method_65_code 1 (some .int) ∈ zTB := zch_3 _ (List.mem_of_getElem? (i := 195) (by decide +kernel)) rfl
theorem w_370 : Cond.static yX11_highBy ∈ zTB := zch_3 _ (List.mem_of_getElem? (i := 194) (by decide +kernel)) rfl
theorem w_371 : Cond.initialized "BalloonsMoor" ∈ zTB := zch_1 _ (List.mem_of_getElem? (i := 1) (by decide +kernel)) rfl
theorem kk_RX3_148 {ad tt : Nat → Nat} : zKN RX3 148 yX11_highBy "BalloonsMoor" cX11_highBy 1 (some .int) 1 (xtX ad tt) := ⟨fun U h => xN_RX3_148 U h, w_370, w_371, w_369, by decide +kernel, by decide⟩
theorem w_372 : Cond.code yX11_isOver prog_1_method_66_code 2 (some .boolean) ∈ zTB := zch_4 _ (List.mem_of_getElem? (i := 32) (by decide +kernel)) rfl
theorem w_373 : Cond.static yX11_isOver ∈ zTB := zch_4 _ (List.mem_of_getElem? (i := 31) (by decide +kernel)) rfl
theorem kk_RX3_159 {ad tt : Nat → Nat} : zKN RX3 159 yX11_isOver "BalloonsMoor" cX11_isOver 2 (some .boolean) 2 (xtX ad tt) := ⟨fun U h => xN_RX3_159 U h, w_373, w_371, w_372, by decide +kernel, by decide⟩
theorem w_374 : Cond.code yX3_lose prog_5_method_24_code 2 (none) ∈ zTB := zch_4 _ (List.mem_of_getElem? (i := 36) (by decide +kernel)) rfl
theorem w_375 : Cond.methodLink "BalloonsMoor$Flock" 162 yX3_lose ∈ zTB := zch_4 _ (List.mem_of_getElem? (i := 33) (by decide +kernel)) rfl
theorem w_376 : Cond.instanceMethod yX3_lose ∈ zTB := zch_4 _ (List.mem_of_getElem? (i := 35) (by decide +kernel)) rfl
theorem w_sel_X3_lose : Cond.selects RX3 yX3_lose yX3_lose ∈ zTB := zch_0 _ (List.mem_of_getElem? (i := 16) (by decide +kernel)) rfl
theorem kk_RX3_162 : zKV RX3 162 RX3 yX3_lose cX3_lose 2 none 1 := ⟨w_375, w_376, w_sel_X3_lose, w_296, w_374, by decide +kernel, by decide⟩
theorem w_377 : Cond.code yX3_isUp prog_5_method_14_code 2 (some .boolean) ∈ zTB := zch_4 _ (List.mem_of_getElem? (i := 44) (by decide +kernel)) rfl
theorem w_378 : Cond.methodLink "BalloonsMoor$Flock" 166 yX3_isUp ∈ zTB := zch_4 _ (List.mem_of_getElem? (i := 41) (by decide +kernel)) rfl
theorem w_379 : Cond.instanceMethod yX3_isUp ∈ zTB := zch_4 _ (List.mem_of_getElem? (i := 42) (by decide +kernel)) rfl
theorem w_380 : Cond.selects "BalloonsMoor$Flock" yX3_isUp yX3_isUp ∈ zTB := zch_4 _ (List.mem_of_getElem? (i := 43) (by decide +kernel)) rfl
theorem kk_RX3_166 : zKV RX3 166 RX3 yX3_isUp cX3_isUp 2 (some .boolean) 1 := ⟨w_378, w_379, w_380, w_296, w_377, by decide +kernel, by decide⟩
theorem w_381 : Cond.methodLink "BalloonsMoor$Flock" 169 yJ9_max_7cf53 ∈ zTB := zch_4 _ (List.mem_of_getElem? (i := 45) (by decide +kernel)) rfl
theorem kk_RX3_169 : zKS RX3 169 Lib.Math.max.name Lib.Math.max.code 2 (some .int) 2 := ⟨w_381, w_364, w_348, w_code_Math_max, by decide +kernel, by decide⟩
theorem w_382 : Cond.code yX3_doTouch prog_5_method_18_code 3 (some .boolean) ∈ zTB := zch_4 _ (List.mem_of_getElem? (i := 53) (by decide +kernel)) rfl
theorem w_383 : Cond.methodLink "BalloonsMoor$Flock" 172 yX3_doTouch ∈ zTB := zch_4 _ (List.mem_of_getElem? (i := 50) (by decide +kernel)) rfl
theorem w_384 : Cond.instanceMethod yX3_doTouch ∈ zTB := zch_4 _ (List.mem_of_getElem? (i := 51) (by decide +kernel)) rfl
theorem w_385 : Cond.selects "BalloonsMoor$Flock" yX3_doTouch yX3_doTouch ∈ zTB := zch_4 _ (List.mem_of_getElem? (i := 52) (by decide +kernel)) rfl
theorem kk_RX3_172 : zKV RX3 172 RX3 yX3_doTouch cX3_doTouch 3 (some .boolean) 2 := ⟨w_383, w_384, w_385, w_296, w_382, by decide +kernel, by decide⟩
theorem w_386 : Cond.code yX3_farness prog_5_method_13_code 2 (some .int) ∈ zTB := zch_3 _ (List.mem_of_getElem? (i := 220) (by decide +kernel)) rfl
theorem w_387 : Cond.methodLink "BalloonsMoor$Flock" 175 yX3_farness ∈ zTB := zch_4 _ (List.mem_of_getElem? (i := 67) (by decide +kernel)) rfl
theorem w_388 : Cond.instanceMethod yX3_farness ∈ zTB := zch_3 _ (List.mem_of_getElem? (i := 218) (by decide +kernel)) rfl
theorem w_389 : Cond.selects "BalloonsMoor$Flock" yX3_farness yX3_farness ∈ zTB := zch_3 _ (List.mem_of_getElem? (i := 219) (by decide +kernel)) rfl
theorem kk_RX3_175 : zKV RX3 175 RX3 yX3_farness cX3_farness 2 (some .int) 1 := ⟨w_387, w_388, w_389, w_296, w_386, by decide +kernel, by decide⟩
theorem w_390 : Cond.code yX3_driftAll prog_5_method_23_code 3 (none) ∈ zTB := zch_4 _ (List.mem_of_getElem? (i := 27) (by decide +kernel)) rfl
theorem w_391 : Cond.methodLink "BalloonsMoor$Flock" 133 yX3_driftAll ∈ zTB := zch_4 _ (List.mem_of_getElem? (i := 24) (by decide +kernel)) rfl
theorem w_392 : Cond.instanceMethod yX3_driftAll ∈ zTB := zch_4 _ (List.mem_of_getElem? (i := 26) (by decide +kernel)) rfl
theorem w_sel_X3_driftAll : Cond.selects RX3 yX3_driftAll yX3_driftAll ∈ zTB := zch_0 _ (List.mem_of_getElem? (i := 15) (by decide +kernel)) rfl
theorem kk_RX3_133 : zKV RX3 133 RX3 yX3_driftAll cX3_driftAll 3 none 0 := ⟨w_391, w_392, w_sel_X3_driftAll, w_296, w_390, by decide +kernel, by decide⟩
theorem w_393 : Cond.code yX3_leakAll prog_5_method_25_code 2 (none) ∈ zTB := zch_4 _ (List.mem_of_getElem? (i := 40) (by decide +kernel)) rfl
theorem w_394 : Cond.methodLink "BalloonsMoor$Flock" 136 yX3_leakAll ∈ zTB := zch_4 _ (List.mem_of_getElem? (i := 37) (by decide +kernel)) rfl
theorem w_395 : Cond.instanceMethod yX3_leakAll ∈ zTB := zch_4 _ (List.mem_of_getElem? (i := 39) (by decide +kernel)) rfl
theorem w_sel_X3_leakAll : Cond.selects RX3 yX3_leakAll yX3_leakAll ∈ zTB := zch_0 _ (List.mem_of_getElem? (i := 17) (by decide +kernel)) rfl
theorem kk_RX3_136 : zKV RX3 136 RX3 yX3_leakAll cX3_leakAll 2 none 0 := ⟨w_394, w_395, w_sel_X3_leakAll, w_296, w_393, by decide +kernel, by decide⟩
theorem w_396 : Cond.code yX3_tearAll prog_5_method_26_code 3 (none) ∈ zTB := zch_4 _ (List.mem_of_getElem? (i := 49) (by decide +kernel)) rfl
theorem w_397 : Cond.methodLink "BalloonsMoor$Flock" 139 yX3_tearAll ∈ zTB := zch_4 _ (List.mem_of_getElem? (i := 46) (by decide +kernel)) rfl
theorem w_398 : Cond.instanceMethod yX3_tearAll ∈ zTB := zch_4 _ (List.mem_of_getElem? (i := 48) (by decide +kernel)) rfl
theorem w_sel_X3_tearAll : Cond.selects RX3 yX3_tearAll yX3_tearAll ∈ zTB := zch_0 _ (List.mem_of_getElem? (i := 18) (by decide +kernel)) rfl
theorem kk_RX3_139 : zKV RX3 139 RX3 yX3_tearAll cX3_tearAll 3 none 0 := ⟨w_397, w_398, w_sel_X3_tearAll, w_296, w_396, by decide +kernel, by decide⟩
theorem w_399 : Cond.code yX3_sinkAll prog_5_method_27_code 2 (none) ∈ zTB := zch_4 _ (List.mem_of_getElem? (i := 66) (by decide +kernel)) rfl
theorem w_400 : Cond.methodLink "BalloonsMoor$Flock" 142 yX3_sinkAll ∈ zTB := zch_4 _ (List.mem_of_getElem? (i := 63) (by decide +kernel)) rfl
theorem w_401 : Cond.instanceMethod yX3_sinkAll ∈ zTB := zch_4 _ (List.mem_of_getElem? (i := 65) (by decide +kernel)) rfl
theorem w_sel_X3_sinkAll : Cond.selects RX3 yX3_sinkAll yX3_sinkAll ∈ zTB := zch_0 _ (List.mem_of_getElem? (i := 20) (by decide +kernel)) rfl
theorem kk_RX3_142 : zKV RX3 142 RX3 yX3_sinkAll cX3_sinkAll 2 none 0 := ⟨w_400, w_401, w_sel_X3_sinkAll, w_296, w_399, by decide +kernel, by decide⟩
theorem kk_RX4_90 {ad tt : Nat → Nat} : zKN RX4 90 yX11_isOver "BalloonsMoor" cX11_isOver 2 (some .boolean) 2 (xtX ad tt) := ⟨fun U h => xN_RX4_90 U h, w_373, w_371, w_372, by decide +kernel, by decide⟩
theorem w_402 : Cond.code yX4_wasSeen prog_6_method_5_code 10 (some .boolean) ∈ zTB := zch_5 _ (List.mem_of_getElem? (i := 14) (by decide +kernel)) rfl
theorem w_403 : Cond.methodLink "BalloonsMoor$Landing" 94 yX4_wasSeen ∈ zTB := zch_5 _ (List.mem_of_getElem? (i := 11) (by decide +kernel)) rfl
theorem w_404 : Cond.instanceMethod yX4_wasSeen ∈ zTB := zch_5 _ (List.mem_of_getElem? (i := 13) (by decide +kernel)) rfl
theorem w_sel_X4_wasSeen : Cond.selects RX4 yX4_wasSeen yX4_wasSeen ∈ zTB := zch_0 _ (List.mem_of_getElem? (i := 32) (by decide +kernel)) rfl
theorem w_405 : Cond.initialized "BalloonsMoor$Landing" ∈ zTB := zch_1 _ (List.mem_of_getElem? (i := 13) (by decide +kernel)) rfl
theorem kk_RX4_94 : zKV RX4 94 RX4 yX4_wasSeen cX4_wasSeen 10 (some .boolean) 4 := ⟨w_403, w_404, w_sel_X4_wasSeen, w_405, w_402, by decide +kernel, by decide⟩
theorem w_406 : Cond.methodLink "BalloonsMoor$Landing" 98 yJ9_abs_0f7a4 ∈ zTB := zch_5 _ (List.mem_of_getElem? (i := 15) (by decide +kernel)) rfl
theorem kk_RX4_98 : zKS RX4 98 Lib.Math.abs.name Lib.Math.abs.code 1 (some .int) 1 := ⟨w_406, w_347, w_348, w_code_Math_abs, by decide +kernel, by decide⟩
theorem w_407 : Cond.code yX4_exploreHour prog_6_method_4_code 6 (none) ∈ zTB := zch_5 _ (List.mem_of_getElem? (i := 19) (by decide +kernel)) rfl
theorem w_408 : Cond.methodLink "BalloonsMoor$Landing" 102 yX4_exploreHour ∈ zTB := zch_5 _ (List.mem_of_getElem? (i := 16) (by decide +kernel)) rfl
theorem w_409 : Cond.instanceMethod yX4_exploreHour ∈ zTB := zch_5 _ (List.mem_of_getElem? (i := 18) (by decide +kernel)) rfl
theorem w_sel_X4_exploreHour : Cond.selects RX4 yX4_exploreHour yX4_exploreHour ∈ zTB := zch_0 _ (List.mem_of_getElem? (i := 33) (by decide +kernel)) rfl
theorem kk_RX4_102 : zKV RX4 102 RX4 yX4_exploreHour cX4_exploreHour 6 none 4 := ⟨w_408, w_409, w_sel_X4_exploreHour, w_405, w_407, by decide +kernel, by decide⟩
theorem kk_RX4_105 {ad tt : Nat → Nat} : zKN RX4 105 yX11_highBy "BalloonsMoor" cX11_highBy 1 (some .int) 1 (xtX ad tt) := ⟨fun U h => xN_RX4_105 U h, w_370, w_371, w_369, by decide +kernel, by decide⟩
theorem w_410 : Cond.code yX4_explore prog_6_method_3_code 6 (none) ∈ zTB := zch_5 _ (List.mem_of_getElem? (i := 9) (by decide +kernel)) rfl
theorem w_411 : Cond.methodLink "BalloonsMoor$Landing" 86 yX4_explore ∈ zTB := zch_5 _ (List.mem_of_getElem? (i := 6) (by decide +kernel)) rfl
theorem w_412 : Cond.instanceMethod yX4_explore ∈ zTB := zch_5 _ (List.mem_of_getElem? (i := 8) (by decide +kernel)) rfl
theorem w_sel_X4_explore : Cond.selects RX4 yX4_explore yX4_explore ∈ zTB := zch_0 _ (List.mem_of_getElem? (i := 31) (by decide +kernel)) rfl
theorem kk_RX4_86 : zKV RX4 86 RX4 yX4_explore cX4_explore 6 none 4 := ⟨w_411, w_412, w_sel_X4_explore, w_405, w_410, by decide +kernel, by decide⟩
theorem w_413 : Cond.methodLink "BalloonsMoor$Landing" 34 yX3_has ∈ zTB := zch_5 _ (List.mem_of_getElem? (i := 0) (by decide +kernel)) rfl
theorem kk_RX4_34 : zKV RX4 34 RX3 yX3_has cX3_has 2 (some .boolean) 1 := ⟨w_413, w_294, w_295, w_296, w_292, by decide +kernel, by decide⟩
theorem w_414 : Cond.methodLink "BalloonsMoor$Landing" 64 yJ9_max_7cf53 ∈ zTB := zch_5 _ (List.mem_of_getElem? (i := 1) (by decide +kernel)) rfl
theorem kk_RX4_64 : zKS RX4 64 Lib.Math.max.name Lib.Math.max.code 2 (some .int) 2 := ⟨w_414, w_364, w_348, w_code_Math_max, by decide +kernel, by decide⟩
theorem w_415 : Cond.methodLink "BalloonsMoor$Landing" 70 yX3_liftAs ∈ zTB := zch_5 _ (List.mem_of_getElem? (i := 2) (by decide +kernel)) rfl
theorem kk_RX4_70 : zKV RX4 70 RX3 yX3_liftAs cX3_liftAs 5 (some .int) 4 := ⟨w_415, w_344, w_345, w_296, w_342, by decide +kernel, by decide⟩
theorem w_416 : Cond.code yJ7_fill_d0a16 prog_29_method_101_code 5 (none) ∈ zTB := zch_5 _ (List.mem_of_getElem? (i := 5) (by decide +kernel)) rfl
theorem w_417 : Cond.methodLink "BalloonsMoor$Landing" 74 yJ7_fill_d0a16 ∈ zTB := zch_5 _ (List.mem_of_getElem? (i := 3) (by decide +kernel)) rfl
theorem w_418 : Cond.static yJ7_fill_d0a16 ∈ zTB := zch_5 _ (List.mem_of_getElem? (i := 4) (by decide +kernel)) rfl
theorem w_419 : Cond.initialized "java/util/Arrays" ∈ zTB := zch_1 _ (List.mem_of_getElem? (i := 5) (by decide +kernel)) rfl
theorem kk_RX4_74 : zKS RX4 74 yJ7_fill_d0a16 cJ7_fill_d0a16 5 none 2 := ⟨w_417, w_418, w_419, w_416, by decide +kernel, by decide⟩
theorem w_420 : Cond.code yX4_canBeNear prog_6_method_7_code 4 (some .boolean) ∈ zTB := zch_5 _ (List.mem_of_getElem? (i := 28) (by decide +kernel)) rfl
theorem w_421 : Cond.methodLink "BalloonsMoor$Landing" 116 yX4_canBeNear ∈ zTB := zch_5 _ (List.mem_of_getElem? (i := 25) (by decide +kernel)) rfl
theorem w_422 : Cond.instanceMethod yX4_canBeNear ∈ zTB := zch_5 _ (List.mem_of_getElem? (i := 27) (by decide +kernel)) rfl
theorem w_sel_X4_canBeNear : Cond.selects RX4 yX4_canBeNear yX4_canBeNear ∈ zTB := zch_0 _ (List.mem_of_getElem? (i := 34) (by decide +kernel)) rfl
theorem kk_RX4_116 : zKV RX4 116 RX4 yX4_canBeNear cX4_canBeNear 4 (some .boolean) 2 := ⟨w_421, w_422, w_sel_X4_canBeNear, w_405, w_420, by decide +kernel, by decide⟩
theorem w_423 : Cond.code yX4_retraceHour prog_6_method_11_code 6 (some .boolean) ∈ zTB := zch_5 _ (List.mem_of_getElem? (i := 40) (by decide +kernel)) rfl
theorem w_424 : Cond.methodLink "BalloonsMoor$Landing" 127 yX4_retraceHour ∈ zTB := zch_5 _ (List.mem_of_getElem? (i := 37) (by decide +kernel)) rfl
theorem w_425 : Cond.instanceMethod yX4_retraceHour ∈ zTB := zch_5 _ (List.mem_of_getElem? (i := 39) (by decide +kernel)) rfl
theorem w_sel_X4_retraceHour : Cond.selects RX4 yX4_retraceHour yX4_retraceHour ∈ zTB := zch_0 _ (List.mem_of_getElem? (i := 36) (by decide +kernel)) rfl
theorem kk_RX4_127 : zKV RX4 127 RX4 yX4_retraceHour cX4_retraceHour 6 (some .boolean) 4 := ⟨w_424, w_425, w_sel_X4_retraceHour, w_405, w_423, by decide +kernel, by decide⟩
theorem w_426 : Cond.code yX4_retraceFrom prog_6_method_10_code 6 (some .boolean) ∈ zTB := zch_5 _ (List.mem_of_getElem? (i := 36) (by decide +kernel)) rfl
theorem w_427 : Cond.methodLink "BalloonsMoor$Landing" 124 yX4_retraceFrom ∈ zTB := zch_5 _ (List.mem_of_getElem? (i := 33) (by decide +kernel)) rfl
theorem w_428 : Cond.instanceMethod yX4_retraceFrom ∈ zTB := zch_5 _ (List.mem_of_getElem? (i := 35) (by decide +kernel)) rfl
theorem w_sel_X4_retraceFrom : Cond.selects RX4 yX4_retraceFrom yX4_retraceFrom ∈ zTB := zch_0 _ (List.mem_of_getElem? (i := 35) (by decide +kernel)) rfl
theorem kk_RX4_124 : zKV RX4 124 RX4 yX4_retraceFrom cX4_retraceFrom 6 (some .boolean) 4 := ⟨w_427, w_428, w_sel_X4_retraceFrom, w_405, w_426, by decide +kernel, by decide⟩
theorem w_429 : Cond.methodLink "BalloonsMoor$Marks" 47 yX3_weightOf ∈ zTB := zch_5 _ (List.mem_of_getElem? (i := 99) (by decide +kernel)) rfl
theorem kk_RX5_47 : zKV RX5 47 RX3 yX3_weightOf cX3_weightOf 2 (some .int) 1 := ⟨w_429, w_299, w_300, w_296, w_297, by decide +kernel, by decide⟩
theorem w_430 : Cond.code yX5_allows prog_7_method_4_code 4 (some .boolean) ∈ zTB := zch_5 _ (List.mem_of_getElem? (i := 98) (by decide +kernel)) rfl
theorem w_431 : Cond.methodLink "BalloonsMoor$Marks" 40 yX5_allows ∈ zTB := zch_5 _ (List.mem_of_getElem? (i := 95) (by decide +kernel)) rfl
theorem w_432 : Cond.instanceMethod yX5_allows ∈ zTB := zch_5 _ (List.mem_of_getElem? (i := 97) (by decide +kernel)) rfl
theorem w_sel_X5_allows : Cond.selects RX5 yX5_allows yX5_allows ∈ zTB := zch_0 _ (List.mem_of_getElem? (i := 40) (by decide +kernel)) rfl
theorem w_433 : Cond.initialized "BalloonsMoor$Marks" ∈ zTB := zch_1 _ (List.mem_of_getElem? (i := 10) (by decide +kernel)) rfl
theorem kk_RX5_40 : zKV RX5 40 RX5 yX5_allows cX5_allows 4 (some .boolean) 3 := ⟨w_431, w_432, w_sel_X5_allows, w_433, w_430, by decide +kernel, by decide⟩
theorem w_434 : Cond.code yX5_goWith prog_7_method_8_code 4 (none) ∈ zTB := zch_5 _ (List.mem_of_getElem? (i := 124) (by decide +kernel)) rfl
theorem w_435 : Cond.methodLink "BalloonsMoor$Marks" 75 yX5_goWith ∈ zTB := zch_5 _ (List.mem_of_getElem? (i := 121) (by decide +kernel)) rfl
theorem w_436 : Cond.instanceMethod yX5_goWith ∈ zTB := zch_5 _ (List.mem_of_getElem? (i := 123) (by decide +kernel)) rfl
theorem w_sel_X5_goWith : Cond.selects RX5 yX5_goWith yX5_goWith ∈ zTB := zch_0 _ (List.mem_of_getElem? (i := 44) (by decide +kernel)) rfl
theorem kk_RX5_75 : zKV RX5 75 RX5 yX5_goWith cX5_goWith 4 none 3 := ⟨w_435, w_436, w_sel_X5_goWith, w_433, w_434, by decide +kernel, by decide⟩
theorem w_437 : Cond.code yX5_noteWay prog_7_method_9_code 2 (none) ∈ zTB := zch_5 _ (List.mem_of_getElem? (i := 120) (by decide +kernel)) rfl
theorem w_438 : Cond.methodLink "BalloonsMoor$Marks" 72 yX5_noteWay ∈ zTB := zch_5 _ (List.mem_of_getElem? (i := 117) (by decide +kernel)) rfl
theorem w_439 : Cond.instanceMethod yX5_noteWay ∈ zTB := zch_5 _ (List.mem_of_getElem? (i := 119) (by decide +kernel)) rfl
theorem w_sel_X5_noteWay : Cond.selects RX5 yX5_noteWay yX5_noteWay ∈ zTB := zch_0 _ (List.mem_of_getElem? (i := 43) (by decide +kernel)) rfl
theorem kk_RX5_72 : zKV RX5 72 RX5 yX5_noteWay cX5_noteWay 2 none 0 := ⟨w_438, w_439, w_sel_X5_noteWay, w_433, w_437, by decide +kernel, by decide⟩
theorem w_440 : Cond.code yX5_goFrom prog_7_method_7_code 5 (none) ∈ zTB := zch_5 _ (List.mem_of_getElem? (i := 116) (by decide +kernel)) rfl
theorem w_441 : Cond.methodLink "BalloonsMoor$Marks" 68 yX5_goFrom ∈ zTB := zch_5 _ (List.mem_of_getElem? (i := 113) (by decide +kernel)) rfl
theorem w_442 : Cond.instanceMethod yX5_goFrom ∈ zTB := zch_5 _ (List.mem_of_getElem? (i := 115) (by decide +kernel)) rfl
theorem w_sel_X5_goFrom : Cond.selects RX5 yX5_goFrom yX5_goFrom ∈ zTB := zch_0 _ (List.mem_of_getElem? (i := 42) (by decide +kernel)) rfl
theorem kk_RX5_68 : zKV RX5 68 RX5 yX5_goFrom cX5_goFrom 5 none 2 := ⟨w_441, w_442, w_sel_X5_goFrom, w_433, w_440, by decide +kernel, by decide⟩
theorem w_443 : Cond.code yX5_isSeen prog_7_method_5_code 3 (some .boolean) ∈ zTB := zch_5 _ (List.mem_of_getElem? (i := 111) (by decide +kernel)) rfl
theorem w_444 : Cond.methodLink "BalloonsMoor$Marks" 54 yX5_isSeen ∈ zTB := zch_5 _ (List.mem_of_getElem? (i := 108) (by decide +kernel)) rfl
theorem w_445 : Cond.instanceMethod yX5_isSeen ∈ zTB := zch_5 _ (List.mem_of_getElem? (i := 110) (by decide +kernel)) rfl
theorem w_sel_X5_isSeen : Cond.selects RX5 yX5_isSeen yX5_isSeen ∈ zTB := zch_0 _ (List.mem_of_getElem? (i := 41) (by decide +kernel)) rfl
theorem kk_RX5_54 : zKV RX5 54 RX5 yX5_isSeen cX5_isSeen 3 (some .boolean) 1 := ⟨w_444, w_445, w_sel_X5_isSeen, w_433, w_443, by decide +kernel, by decide⟩
theorem w_446 : Cond.code yX5_fitting prog_7_method_3_code 7 (some .int) ∈ zTB := zch_5 _ (List.mem_of_getElem? (i := 94) (by decide +kernel)) rfl
theorem w_447 : Cond.methodLink "BalloonsMoor$Marks" 58 yX5_fitting ∈ zTB := zch_5 _ (List.mem_of_getElem? (i := 112) (by decide +kernel)) rfl
theorem w_448 : Cond.instanceMethod yX5_fitting ∈ zTB := zch_5 _ (List.mem_of_getElem? (i := 92) (by decide +kernel)) rfl
theorem w_449 : Cond.selects "BalloonsMoor$Marks" yX5_fitting yX5_fitting ∈ zTB := zch_5 _ (List.mem_of_getElem? (i := 93) (by decide +kernel)) rfl
theorem kk_RX5_58 : zKV RX5 58 RX5 yX5_fitting cX5_fitting 7 (some .int) 2 := ⟨w_447, w_448, w_449, w_433, w_446, by decide +kernel, by decide⟩
theorem w_450 : Cond.code yX3_pack prog_5_method_31_code 5 (none) ∈ zTB := zch_3 _ (List.mem_of_getElem? (i := 165) (by decide +kernel)) rfl
theorem w_451 : Cond.methodLink "BalloonsMoor$Past" 28 yX3_pack ∈ zTB := zch_3 _ (List.mem_of_getElem? (i := 162) (by decide +kernel)) rfl
theorem w_452 : Cond.instanceMethod yX3_pack ∈ zTB := zch_3 _ (List.mem_of_getElem? (i := 163) (by decide +kernel)) rfl
theorem w_453 : Cond.selects "BalloonsMoor$Flock" yX3_pack yX3_pack ∈ zTB := zch_3 _ (List.mem_of_getElem? (i := 164) (by decide +kernel)) rfl
theorem kk_RX6_28 : zKV RX6 28 RX3 yX3_pack cX3_pack 5 none 2 := ⟨w_451, w_452, w_453, w_296, w_450, by decide +kernel, by decide⟩
theorem w_454 : Cond.methodLink "BalloonsMoor$Past" 35 yJ9_min_7cf53 ∈ zTB := zch_3 _ (List.mem_of_getElem? (i := 204) (by decide +kernel)) rfl
theorem kk_RX6_35 : zKS RX6 35 Lib.Math.min.name Lib.Math.min.code 2 (some .int) 2 := ⟨w_454, w_362, w_348, w_code_Math_min, by decide +kernel, by decide⟩
theorem w_455 : Cond.code yX3_unpack prog_5_method_32_code 5 (none) ∈ zTB := zch_4 _ (List.mem_of_getElem? (i := 131) (by decide +kernel)) rfl
theorem w_456 : Cond.methodLink "BalloonsMoor$Past" 41 yX3_unpack ∈ zTB := zch_4 _ (List.mem_of_getElem? (i := 128) (by decide +kernel)) rfl
theorem w_457 : Cond.instanceMethod yX3_unpack ∈ zTB := zch_4 _ (List.mem_of_getElem? (i := 129) (by decide +kernel)) rfl
theorem w_458 : Cond.selects "BalloonsMoor$Flock" yX3_unpack yX3_unpack ∈ zTB := zch_4 _ (List.mem_of_getElem? (i := 130) (by decide +kernel)) rfl
theorem kk_RX6_41 : zKV RX6 41 RX3 yX3_unpack cX3_unpack 5 none 2 := ⟨w_456, w_457, w_458, w_296, w_455, by decide +kernel, by decide⟩
theorem w_459 : Cond.code yX7_readSum prog_9_method_5_code 6 (some .boolean) ∈ zTB := zch_3 _ (List.mem_of_getElem? (i := 106) (by decide +kernel)) rfl
theorem w_460 : Cond.methodLink "BalloonsMoor$Rule" 44 yX7_readSum ∈ zTB := zch_3 _ (List.mem_of_getElem? (i := 103) (by decide +kernel)) rfl
theorem w_461 : Cond.instanceMethod yX7_readSum ∈ zTB := zch_3 _ (List.mem_of_getElem? (i := 105) (by decide +kernel)) rfl
theorem w_sel_X7_readSum : Cond.selects RX7 yX7_readSum yX7_readSum ∈ zTB := zch_0 _ (List.mem_of_getElem? (i := 7) (by decide +kernel)) rfl
theorem kk_RX7_44 : zKV RX7 44 RX7 yX7_readSum cX7_readSum 6 (some .boolean) 2 := ⟨w_460, w_461, w_sel_X7_readSum, w_337, w_459, by decide +kernel, by decide⟩
theorem w_462 : Cond.methodLink "BalloonsMoor$Rule" 47 yX8_next ∈ zTB := zch_3 _ (List.mem_of_getElem? (i := 128) (by decide +kernel)) rfl
theorem kk_RX7_47 : zKV RX7 47 RX8 yX8_next cX8_next 1 (some .int) 0 := ⟨w_462, w_269, w_270, w_253, w_267, by decide +kernel, by decide⟩
theorem w_463 : Cond.methodLink "BalloonsMoor$Rule" 51 yX8_step ∈ zTB := zch_3 _ (List.mem_of_getElem? (i := 132) (by decide +kernel)) rfl
theorem kk_RX7_51 : zKV RX7 51 RX8 yX8_step cX8_step 1 none 0 := ⟨w_463, w_273, w_274, w_253, w_271, by decide +kernel, by decide⟩
theorem w_464 : Cond.code yX7_write prog_9_method_3_code 2 (none) ∈ zTB := zch_3 _ (List.mem_of_getElem? (i := 125) (by decide +kernel)) rfl
theorem w_465 : Cond.methodLink "BalloonsMoor$Rule" 54 yX7_write ∈ zTB := zch_3 _ (List.mem_of_getElem? (i := 122) (by decide +kernel)) rfl
theorem w_466 : Cond.instanceMethod yX7_write ∈ zTB := zch_3 _ (List.mem_of_getElem? (i := 124) (by decide +kernel)) rfl
theorem w_sel_X7_write : Cond.selects RX7 yX7_write yX7_write ∈ zTB := zch_0 _ (List.mem_of_getElem? (i := 11) (by decide +kernel)) rfl
theorem kk_RX7_54 : zKV RX7 54 RX7 yX7_write cX7_write 2 none 1 := ⟨w_465, w_466, w_sel_X7_write, w_337, w_464, by decide +kernel, by decide⟩
theorem w_467 : Cond.code yX7_readProduct prog_9_method_6_code 6 (some .boolean) ∈ zTB := zch_3 _ (List.mem_of_getElem? (i := 110) (by decide +kernel)) rfl
theorem w_468 : Cond.methodLink "BalloonsMoor$Rule" 58 yX7_readProduct ∈ zTB := zch_3 _ (List.mem_of_getElem? (i := 107) (by decide +kernel)) rfl
theorem w_469 : Cond.instanceMethod yX7_readProduct ∈ zTB := zch_3 _ (List.mem_of_getElem? (i := 109) (by decide +kernel)) rfl
theorem w_sel_X7_readProduct : Cond.selects RX7 yX7_readProduct yX7_readProduct ∈ zTB := zch_0 _ (List.mem_of_getElem? (i := 8) (by decide +kernel)) rfl
theorem kk_RX7_58 : zKV RX7 58 RX7 yX7_readProduct cX7_readProduct 6 (some .boolean) 2 := ⟨w_468, w_469, w_sel_X7_readProduct, w_337, w_467, by decide +kernel, by decide⟩
theorem w_470 : Cond.code yX7_readSigned prog_9_method_7_code 5 (some .boolean) ∈ zTB := zch_3 _ (List.mem_of_getElem? (i := 114) (by decide +kernel)) rfl
theorem w_471 : Cond.methodLink "BalloonsMoor$Rule" 61 yX7_readSigned ∈ zTB := zch_3 _ (List.mem_of_getElem? (i := 111) (by decide +kernel)) rfl
theorem w_472 : Cond.instanceMethod yX7_readSigned ∈ zTB := zch_3 _ (List.mem_of_getElem? (i := 113) (by decide +kernel)) rfl
theorem w_sel_X7_readSigned : Cond.selects RX7 yX7_readSigned yX7_readSigned ∈ zTB := zch_0 _ (List.mem_of_getElem? (i := 9) (by decide +kernel)) rfl
theorem kk_RX7_61 : zKV RX7 61 RX7 yX7_readSigned cX7_readSigned 5 (some .boolean) 2 := ⟨w_471, w_472, w_sel_X7_readSigned, w_337, w_470, by decide +kernel, by decide⟩
theorem w_473 : Cond.methodLink "BalloonsMoor$Rule" 64 yX8_take ∈ zTB := zch_3 _ (List.mem_of_getElem? (i := 115) (by decide +kernel)) rfl
theorem kk_RX7_64 : zKV RX7 64 RX8 yX8_take cX8_take 2 (some .boolean) 1 := ⟨w_473, w_256, w_257, w_253, w_254, by decide +kernel, by decide⟩
theorem w_474 : Cond.code yX7_readThing prog_9_method_8_code 5 (some .boolean) ∈ zTB := zch_3 _ (List.mem_of_getElem? (i := 119) (by decide +kernel)) rfl
theorem w_475 : Cond.methodLink "BalloonsMoor$Rule" 68 yX7_readThing ∈ zTB := zch_3 _ (List.mem_of_getElem? (i := 116) (by decide +kernel)) rfl
theorem w_476 : Cond.instanceMethod yX7_readThing ∈ zTB := zch_3 _ (List.mem_of_getElem? (i := 118) (by decide +kernel)) rfl
theorem w_sel_X7_readThing : Cond.selects RX7 yX7_readThing yX7_readThing ∈ zTB := zch_0 _ (List.mem_of_getElem? (i := 10) (by decide +kernel)) rfl
theorem kk_RX7_68 : zKV RX7 68 RX7 yX7_readThing cX7_readThing 5 (some .boolean) 2 := ⟨w_475, w_476, w_sel_X7_readThing, w_337, w_474, by decide +kernel, by decide⟩
theorem w_477 : Cond.methodLink "BalloonsMoor$Rule" 71 yX8_isDigit ∈ zTB := zch_3 _ (List.mem_of_getElem? (i := 120) (by decide +kernel)) rfl
theorem kk_RX7_71 : zKV RX7 71 RX8 yX8_isDigit cX8_isDigit 1 (some .boolean) 0 := ⟨w_477, w_265, w_266, w_253, w_263, by decide +kernel, by decide⟩
theorem w_478 : Cond.code yX7_readCompared prog_9_method_4_code 5 (some .boolean) ∈ zTB := zch_3 _ (List.mem_of_getElem? (i := 102) (by decide +kernel)) rfl
theorem w_479 : Cond.methodLink "BalloonsMoor$Rule" 31 yX7_readCompared ∈ zTB := zch_3 _ (List.mem_of_getElem? (i := 99) (by decide +kernel)) rfl
theorem w_480 : Cond.instanceMethod yX7_readCompared ∈ zTB := zch_3 _ (List.mem_of_getElem? (i := 101) (by decide +kernel)) rfl
theorem w_sel_X7_readCompared : Cond.selects RX7 yX7_readCompared yX7_readCompared ∈ zTB := zch_0 _ (List.mem_of_getElem? (i := 6) (by decide +kernel)) rfl
theorem kk_RX7_31 : zKV RX7 31 RX7 yX7_readCompared cX7_readCompared 5 (some .boolean) 2 := ⟨w_479, w_480, w_sel_X7_readCompared, w_337, w_478, by decide +kernel, by decide⟩
theorem w_481 : Cond.methodLink "BalloonsMoor$Rule" 74 yX8_digit ∈ zTB := zch_3 _ (List.mem_of_getElem? (i := 121) (by decide +kernel)) rfl
theorem kk_RX7_74 : zKV RX7 74 RX8 yX8_digit cX8_digit 4 (some .int) 2 := ⟨w_481, w_251, w_252, w_253, w_249, by decide +kernel, by decide⟩
theorem w_482 : Cond.methodLink "BalloonsMoor$Rule" 25 yX8_isRead ∈ zTB := zch_3 _ (List.mem_of_getElem? (i := 98) (by decide +kernel)) rfl
theorem kk_RX7_25 : zKV RX7 25 RX8 yX8_isRead cX8_isRead 1 (some .boolean) 0 := ⟨w_482, w_287, w_288, w_253, w_285, by decide +kernel, by decide⟩
theorem w_483 : Cond.methodLink "BalloonsMoor$Told" 22 yJ9_min_7cf53 ∈ zTB := zch_2 _ (List.mem_of_getElem? (i := 228) (by decide +kernel)) rfl
theorem kk_RX8_22 : zKS RX8 22 Lib.Math.min.name Lib.Math.min.code 2 (some .int) 2 := ⟨w_483, w_362, w_348, w_code_Math_min, by decide +kernel, by decide⟩
theorem w_484 : Cond.methodLink "BalloonsMoor$Tower" 47 yX8_digit ∈ zTB := zch_3 _ (List.mem_of_getElem? (i := 3) (by decide +kernel)) rfl
theorem kk_RX9_47 : zKV RX9 47 RX8 yX8_digit cX8_digit 4 (some .int) 2 := ⟨w_484, w_251, w_252, w_253, w_249, by decide +kernel, by decide⟩
theorem w_485 : Cond.methodLink "BalloonsMoor$Tower" 34 yX8_isRead ∈ zTB := zch_2 _ (List.mem_of_getElem? (i := 235) (by decide +kernel)) rfl
theorem kk_RX9_34 : zKV RX9 34 RX8 yX8_isRead cX8_isRead 1 (some .boolean) 0 := ⟨w_485, w_287, w_288, w_253, w_285, by decide +kernel, by decide⟩
theorem w_486 : Cond.methodLink "BalloonsMoor$Tower" 51 yX8_take ∈ zTB := zch_3 _ (List.mem_of_getElem? (i := 7) (by decide +kernel)) rfl
theorem kk_RX9_51 : zKV RX9 51 RX8 yX8_take cX8_take 2 (some .boolean) 1 := ⟨w_486, w_256, w_257, w_253, w_254, by decide +kernel, by decide⟩
theorem w_487 : Cond.code yX9_compare prog_11_method_5_code 4 (none) ∈ zTB := zch_3 _ (List.mem_of_getElem? (i := 14) (by decide +kernel)) rfl
theorem w_488 : Cond.methodLink "BalloonsMoor$Tower" 44 yX9_compare ∈ zTB := zch_3 _ (List.mem_of_getElem? (i := 11) (by decide +kernel)) rfl
theorem w_489 : Cond.instanceMethod yX9_compare ∈ zTB := zch_3 _ (List.mem_of_getElem? (i := 13) (by decide +kernel)) rfl
theorem w_sel_X9_compare : Cond.selects RX9 yX9_compare yX9_compare ∈ zTB := zch_0 _ (List.mem_of_getElem? (i := 1) (by decide +kernel)) rfl
theorem kk_RX9_44 : zKV RX9 44 RX9 yX9_compare cX9_compare 4 none 0 := ⟨w_488, w_489, w_sel_X9_compare, w_305, w_487, by decide +kernel, by decide⟩
theorem w_490 : Cond.code yX9_readLines prog_11_method_4_code 3 (some .int) ∈ zTB := zch_3 _ (List.mem_of_getElem? (i := 2) (by decide +kernel)) rfl
theorem w_491 : Cond.methodLink "BalloonsMoor$Tower" 40 yX9_readLines ∈ zTB := zch_2 _ (List.mem_of_getElem? (i := 239) (by decide +kernel)) rfl
theorem w_492 : Cond.instanceMethod yX9_readLines ∈ zTB := zch_3 _ (List.mem_of_getElem? (i := 1) (by decide +kernel)) rfl
theorem w_sel_X9_readLines : Cond.selects RX9 yX9_readLines yX9_readLines ∈ zTB := zch_0 _ (List.mem_of_getElem? (i := 0) (by decide +kernel)) rfl
theorem kk_RX9_40 : zKV RX9 40 RX9 yX9_readLines cX9_readLines 3 (some .int) 1 := ⟨w_491, w_492, w_sel_X9_readLines, w_305, w_490, by decide +kernel, by decide⟩
theorem w_493 : Cond.methodLink "BalloonsMoor$Winds" 33 yX8_take ∈ zTB := zch_3 _ (List.mem_of_getElem? (i := 71) (by decide +kernel)) rfl
theorem kk_RX10_33 : zKV RX10 33 RX8 yX8_take cX8_take 2 (some .boolean) 1 := ⟨w_493, w_256, w_257, w_253, w_254, by decide +kernel, by decide⟩
theorem w_494 : Cond.methodLink "BalloonsMoor$Winds" 51 yX8_digit ∈ zTB := zch_3 _ (List.mem_of_getElem? (i := 76) (by decide +kernel)) rfl
theorem kk_RX10_51 : zKV RX10 51 RX8 yX8_digit cX8_digit 4 (some .int) 2 := ⟨w_494, w_251, w_252, w_253, w_249, by decide +kernel, by decide⟩
theorem w_495 : Cond.code yX10_readOne prog_12_method_3_code 4 (some .boolean) ∈ zTB := zch_3 _ (List.mem_of_getElem? (i := 75) (by decide +kernel)) rfl
theorem w_496 : Cond.methodLink "BalloonsMoor$Winds" 39 yX10_readOne ∈ zTB := zch_3 _ (List.mem_of_getElem? (i := 72) (by decide +kernel)) rfl
theorem w_497 : Cond.instanceMethod yX10_readOne ∈ zTB := zch_3 _ (List.mem_of_getElem? (i := 74) (by decide +kernel)) rfl
theorem w_sel_X10_readOne : Cond.selects RX10 yX10_readOne yX10_readOne ∈ zTB := zch_0 _ (List.mem_of_getElem? (i := 4) (by decide +kernel)) rfl
theorem w_498 : Cond.initialized "BalloonsMoor$Winds" ∈ zTB := zch_1 _ (List.mem_of_getElem? (i := 4) (by decide +kernel)) rfl
theorem kk_RX10_39 : zKV RX10 39 RX10 yX10_readOne cX10_readOne 4 (some .boolean) 2 := ⟨w_496, w_497, w_sel_X10_readOne, w_498, w_495, by decide +kernel, by decide⟩
theorem w_499 : Cond.methodLink "BalloonsMoor$Winds" 43 yX8_isRead ∈ zTB := zch_3 _ (List.mem_of_getElem? (i := 77) (by decide +kernel)) rfl
theorem kk_RX10_43 : zKV RX10 43 RX8 yX8_isRead cX8_isRead 1 (some .boolean) 0 := ⟨w_499, w_287, w_288, w_253, w_285, by decide +kernel, by decide⟩
theorem w_500 : Cond.code yX10_put prog_12_method_4_code 5 (none) ∈ zTB := zch_3 _ (List.mem_of_getElem? (i := 81) (by decide +kernel)) rfl
theorem w_501 : Cond.methodLink "BalloonsMoor$Winds" 47 yX10_put ∈ zTB := zch_3 _ (List.mem_of_getElem? (i := 78) (by decide +kernel)) rfl
theorem w_502 : Cond.instanceMethod yX10_put ∈ zTB := zch_3 _ (List.mem_of_getElem? (i := 80) (by decide +kernel)) rfl
theorem w_sel_X10_put : Cond.selects RX10 yX10_put yX10_put ∈ zTB := zch_0 _ (List.mem_of_getElem? (i := 5) (by decide +kernel)) rfl
theorem kk_RX10_47 : zKV RX10 47 RX10 yX10_put cX10_put 5 none 3 := ⟨w_501, w_502, w_sel_X10_put, w_498, w_500, by decide +kernel, by decide⟩
theorem w_503 : Cond.code yX8_append prog_10_method_2_code 2 (none) ∈ zTB := zch_2 _ (List.mem_of_getElem? (i := 215) (by decide +kernel)) rfl
theorem w_504 : Cond.methodLink "BalloonsMoor" 99 yX8_append ∈ zTB := zch_2 _ (List.mem_of_getElem? (i := 212) (by decide +kernel)) rfl
theorem w_505 : Cond.instanceMethod yX8_append ∈ zTB := zch_2 _ (List.mem_of_getElem? (i := 213) (by decide +kernel)) rfl
theorem w_506 : Cond.selects "BalloonsMoor$Told" yX8_append yX8_append ∈ zTB := zch_2 _ (List.mem_of_getElem? (i := 214) (by decide +kernel)) rfl
theorem kk_RX11_99 : zKV RX11 99 RX8 yX8_append cX8_append 2 none 1 := ⟨w_504, w_505, w_506, w_253, w_503, by decide +kernel, by decide⟩
theorem w_507 : Cond.code yX8_open prog_10_method_3_code 2 (none) ∈ zTB := zch_2 _ (List.mem_of_getElem? (i := 227) (by decide +kernel)) rfl
theorem w_508 : Cond.methodLink "BalloonsMoor" 103 yX8_open ∈ zTB := zch_2 _ (List.mem_of_getElem? (i := 224) (by decide +kernel)) rfl
theorem w_509 : Cond.instanceMethod yX8_open ∈ zTB := zch_2 _ (List.mem_of_getElem? (i := 225) (by decide +kernel)) rfl
theorem w_510 : Cond.selects "BalloonsMoor$Told" yX8_open yX8_open ∈ zTB := zch_2 _ (List.mem_of_getElem? (i := 226) (by decide +kernel)) rfl
theorem kk_RX11_103 : zKV RX11 103 RX8 yX8_open cX8_open 2 none 1 := ⟨w_508, w_509, w_510, w_253, w_507, by decide +kernel, by decide⟩
theorem w_511 : Cond.code yX9_read prog_11_method_3_code 4 (some .int) ∈ zTB := zch_2 _ (List.mem_of_getElem? (i := 234) (by decide +kernel)) rfl
theorem w_512 : Cond.methodLink "BalloonsMoor" 107 yX9_read ∈ zTB := zch_2 _ (List.mem_of_getElem? (i := 231) (by decide +kernel)) rfl
theorem w_513 : Cond.instanceMethod yX9_read ∈ zTB := zch_2 _ (List.mem_of_getElem? (i := 232) (by decide +kernel)) rfl
theorem w_514 : Cond.selects "BalloonsMoor$Tower" yX9_read yX9_read ∈ zTB := zch_2 _ (List.mem_of_getElem? (i := 233) (by decide +kernel)) rfl
theorem kk_RX11_107 : zKV RX11 107 RX9 yX9_read cX9_read 4 (some .int) 1 := ⟨w_512, w_513, w_514, w_305, w_511, by decide +kernel, by decide⟩
theorem w_515 : Cond.code yX8_close prog_10_method_4_code 1 (none) ∈ zTB := zch_3 _ (List.mem_of_getElem? (i := 18) (by decide +kernel)) rfl
theorem w_516 : Cond.methodLink "BalloonsMoor" 111 yX8_close ∈ zTB := zch_3 _ (List.mem_of_getElem? (i := 15) (by decide +kernel)) rfl
theorem w_517 : Cond.instanceMethod yX8_close ∈ zTB := zch_3 _ (List.mem_of_getElem? (i := 16) (by decide +kernel)) rfl
theorem w_518 : Cond.selects "BalloonsMoor$Told" yX8_close yX8_close ∈ zTB := zch_3 _ (List.mem_of_getElem? (i := 17) (by decide +kernel)) rfl
theorem kk_RX11_111 : zKV RX11 111 RX8 yX8_close cX8_close 1 none 0 := ⟨w_516, w_517, w_518, w_253, w_515, by decide +kernel, by decide⟩
theorem w_519 : Cond.code yX3_leave prog_5_method_2_code 1 (none) ∈ zTB := zch_3 _ (List.mem_of_getElem? (i := 26) (by decide +kernel)) rfl
theorem w_520 : Cond.methodLink "BalloonsMoor" 118 yX3_leave ∈ zTB := zch_3 _ (List.mem_of_getElem? (i := 23) (by decide +kernel)) rfl
theorem w_521 : Cond.instanceMethod yX3_leave ∈ zTB := zch_3 _ (List.mem_of_getElem? (i := 24) (by decide +kernel)) rfl
theorem w_522 : Cond.selects "BalloonsMoor$Flock" yX3_leave yX3_leave ∈ zTB := zch_3 _ (List.mem_of_getElem? (i := 25) (by decide +kernel)) rfl
theorem kk_RX11_118 : zKV RX11 118 RX3 yX3_leave cX3_leave 1 none 0 := ⟨w_520, w_521, w_522, w_296, w_519, by decide +kernel, by decide⟩
theorem w_523 : Cond.code yX6_forgetActs prog_8_method_5_code 1 (none) ∈ zTB := zch_3 _ (List.mem_of_getElem? (i := 30) (by decide +kernel)) rfl
theorem w_524 : Cond.methodLink "BalloonsMoor" 122 yX6_forgetActs ∈ zTB := zch_3 _ (List.mem_of_getElem? (i := 27) (by decide +kernel)) rfl
theorem w_525 : Cond.instanceMethod yX6_forgetActs ∈ zTB := zch_3 _ (List.mem_of_getElem? (i := 28) (by decide +kernel)) rfl
theorem w_526 : Cond.selects "BalloonsMoor$Past" yX6_forgetActs yX6_forgetActs ∈ zTB := zch_3 _ (List.mem_of_getElem? (i := 29) (by decide +kernel)) rfl
theorem w_527 : Cond.initialized "BalloonsMoor$Past" ∈ zTB := zch_1 _ (List.mem_of_getElem? (i := 8) (by decide +kernel)) rfl
theorem kk_RX11_122 : zKV RX11 122 RX6 yX6_forgetActs cX6_forgetActs 1 none 0 := ⟨w_524, w_525, w_526, w_527, w_523, by decide +kernel, by decide⟩
theorem w_528 : Cond.code yX6_forgetKept prog_8_method_6_code 2 (none) ∈ zTB := zch_3 _ (List.mem_of_getElem? (i := 34) (by decide +kernel)) rfl
theorem w_529 : Cond.methodLink "BalloonsMoor" 125 yX6_forgetKept ∈ zTB := zch_3 _ (List.mem_of_getElem? (i := 31) (by decide +kernel)) rfl
theorem w_530 : Cond.instanceMethod yX6_forgetKept ∈ zTB := zch_3 _ (List.mem_of_getElem? (i := 32) (by decide +kernel)) rfl
theorem w_531 : Cond.selects "BalloonsMoor$Past" yX6_forgetKept yX6_forgetKept ∈ zTB := zch_3 _ (List.mem_of_getElem? (i := 33) (by decide +kernel)) rfl
theorem kk_RX11_125 : zKV RX11 125 RX6 yX6_forgetKept cX6_forgetKept 2 none 0 := ⟨w_529, w_530, w_531, w_527, w_528, by decide +kernel, by decide⟩
theorem w_532 : Cond.code yX8_fault prog_10_method_5_code 1 (some .int) ∈ zTB := zch_3 _ (List.mem_of_getElem? (i := 22) (by decide +kernel)) rfl
theorem w_533 : Cond.methodLink "BalloonsMoor" 114 yX8_fault ∈ zTB := zch_3 _ (List.mem_of_getElem? (i := 19) (by decide +kernel)) rfl
theorem w_534 : Cond.instanceMethod yX8_fault ∈ zTB := zch_3 _ (List.mem_of_getElem? (i := 20) (by decide +kernel)) rfl
theorem w_535 : Cond.selects "BalloonsMoor$Told" yX8_fault yX8_fault ∈ zTB := zch_3 _ (List.mem_of_getElem? (i := 21) (by decide +kernel)) rfl
theorem kk_RX11_114 : zKV RX11 114 RX8 yX8_fault cX8_fault 1 (some .int) 0 := ⟨w_533, w_534, w_535, w_253, w_532, by decide +kernel, by decide⟩
theorem w_536 : Cond.code yX3_read prog_5_method_5_code 3 (some .int) ∈ zTB := zch_3 _ (List.mem_of_getElem? (i := 42) (by decide +kernel)) rfl
theorem w_537 : Cond.methodLink "BalloonsMoor" 128 yX3_read ∈ zTB := zch_3 _ (List.mem_of_getElem? (i := 39) (by decide +kernel)) rfl
theorem w_538 : Cond.instanceMethod yX3_read ∈ zTB := zch_3 _ (List.mem_of_getElem? (i := 40) (by decide +kernel)) rfl
theorem w_539 : Cond.selects "BalloonsMoor$Flock" yX3_read yX3_read ∈ zTB := zch_3 _ (List.mem_of_getElem? (i := 41) (by decide +kernel)) rfl
theorem kk_RX11_128 : zKV RX11 128 RX3 yX3_read cX3_read 3 (some .int) 1 := ⟨w_537, w_538, w_539, w_296, w_536, by decide +kernel, by decide⟩
theorem w_540 : Cond.code yX10_read prog_12_method_2_code 3 (some .boolean) ∈ zTB := zch_3 _ (List.mem_of_getElem? (i := 70) (by decide +kernel)) rfl
theorem w_541 : Cond.methodLink "BalloonsMoor" 129 yX10_read ∈ zTB := zch_3 _ (List.mem_of_getElem? (i := 67) (by decide +kernel)) rfl
theorem w_542 : Cond.instanceMethod yX10_read ∈ zTB := zch_3 _ (List.mem_of_getElem? (i := 68) (by decide +kernel)) rfl
theorem w_543 : Cond.selects "BalloonsMoor$Winds" yX10_read yX10_read ∈ zTB := zch_3 _ (List.mem_of_getElem? (i := 69) (by decide +kernel)) rfl
theorem kk_RX11_129 : zKV RX11 129 RX10 yX10_read cX10_read 3 (some .boolean) 1 := ⟨w_541, w_542, w_543, w_498, w_540, by decide +kernel, by decide⟩
theorem w_544 : Cond.code yX10_blowing prog_12_method_5_code 3 (some .int) ∈ zTB := zch_3 _ (List.mem_of_getElem? (i := 89) (by decide +kernel)) rfl
theorem w_545 : Cond.methodLink "BalloonsMoor" 132 yX10_blowing ∈ zTB := zch_3 _ (List.mem_of_getElem? (i := 86) (by decide +kernel)) rfl
theorem w_546 : Cond.instanceMethod yX10_blowing ∈ zTB := zch_3 _ (List.mem_of_getElem? (i := 87) (by decide +kernel)) rfl
theorem w_547 : Cond.selects "BalloonsMoor$Winds" yX10_blowing yX10_blowing ∈ zTB := zch_3 _ (List.mem_of_getElem? (i := 88) (by decide +kernel)) rfl
theorem kk_RX11_132 : zKV RX11 132 RX10 yX10_blowing cX10_blowing 3 (some .int) 0 := ⟨w_545, w_546, w_547, w_498, w_544, by decide +kernel, by decide⟩
theorem w_548 : Cond.code yX7_read prog_9_method_2_code 2 (some .boolean) ∈ zTB := zch_3 _ (List.mem_of_getElem? (i := 97) (by decide +kernel)) rfl
theorem w_549 : Cond.methodLink "BalloonsMoor" 135 yX7_read ∈ zTB := zch_3 _ (List.mem_of_getElem? (i := 94) (by decide +kernel)) rfl
theorem w_550 : Cond.instanceMethod yX7_read ∈ zTB := zch_3 _ (List.mem_of_getElem? (i := 95) (by decide +kernel)) rfl
theorem w_551 : Cond.selects "BalloonsMoor$Rule" yX7_read yX7_read ∈ zTB := zch_3 _ (List.mem_of_getElem? (i := 96) (by decide +kernel)) rfl
theorem kk_RX11_135 : zKV RX11 135 RX7 yX7_read cX7_read 2 (some .boolean) 1 := ⟨w_549, w_550, w_551, w_337, w_548, by decide +kernel, by decide⟩
theorem w_552 : Cond.methodLink "BalloonsMoor" 136 yX9_has ∈ zTB := zch_3 _ (List.mem_of_getElem? (i := 213) (by decide +kernel)) rfl
theorem kk_RX11_136 : zKV RX11 136 RX9 yX9_has cX9_has 2 (some .boolean) 1 := ⟨w_552, w_303, w_304, w_305, w_301, by decide +kernel, by decide⟩
theorem w_553 : Cond.code yX3_guestAt prog_5_method_16_code 3 (some .int) ∈ zTB := zch_3 _ (List.mem_of_getElem? (i := 228) (by decide +kernel)) rfl
theorem w_554 : Cond.methodLink "BalloonsMoor" 150 yX3_guestAt ∈ zTB := zch_3 _ (List.mem_of_getElem? (i := 225) (by decide +kernel)) rfl
theorem w_555 : Cond.instanceMethod yX3_guestAt ∈ zTB := zch_3 _ (List.mem_of_getElem? (i := 226) (by decide +kernel)) rfl
theorem w_556 : Cond.selects "BalloonsMoor$Flock" yX3_guestAt yX3_guestAt ∈ zTB := zch_3 _ (List.mem_of_getElem? (i := 227) (by decide +kernel)) rfl
theorem kk_RX11_150 : zKV RX11 150 RX3 yX3_guestAt cX3_guestAt 3 (some .int) 1 := ⟨w_554, w_555, w_556, w_296, w_553, by decide +kernel, by decide⟩
theorem w_557 : Cond.methodLink "BalloonsMoor" 160 yX3_has ∈ zTB := zch_3 _ (List.mem_of_getElem? (i := 169) (by decide +kernel)) rfl
theorem kk_RX11_160 : zKV RX11 160 RX3 yX3_has cX3_has 2 (some .boolean) 1 := ⟨w_557, w_294, w_295, w_296, w_292, by decide +kernel, by decide⟩
theorem w_558 : Cond.methodLink "BalloonsMoor" 176 yX3_weightOf ∈ zTB := zch_4 _ (List.mem_of_getElem? (i := 230) (by decide +kernel)) rfl
theorem kk_RX11_176 : zKV RX11 176 RX3 yX3_weightOf cX3_weightOf 2 (some .int) 1 := ⟨w_558, w_299, w_300, w_296, w_297, by decide +kernel, by decide⟩
theorem w_559 : Cond.methodLink "BalloonsMoor" 179 yX3_liftOf ∈ zTB := zch_3 _ (List.mem_of_getElem? (i := 173) (by decide +kernel)) rfl
theorem kk_RX11_179 : zKV RX11 179 RX3 yX3_liftOf cX3_liftOf 2 (some .int) 1 := ⟨w_559, w_367, w_368, w_296, w_365, by decide +kernel, by decide⟩
theorem w_560 : Cond.methodLink "BalloonsMoor" 182 yX11_highBy ∈ zTB := zch_3 _ (List.mem_of_getElem? (i := 193) (by decide +kernel)) rfl
theorem kk_RX11_182 : zKS RX11 182 yX11_highBy cX11_highBy 1 (some .int) 1 := ⟨w_560, w_370, w_371, w_369, by decide +kernel, by decide⟩
theorem w_561 : Cond.code yX3_ringOf prog_5_method_11_code 2 (some .int) ∈ zTB := zch_4 _ (List.mem_of_getElem? (i := 168) (by decide +kernel)) rfl
theorem w_562 : Cond.methodLink "BalloonsMoor" 188 yX3_ringOf ∈ zTB := zch_4 _ (List.mem_of_getElem? (i := 165) (by decide +kernel)) rfl
theorem w_563 : Cond.instanceMethod yX3_ringOf ∈ zTB := zch_4 _ (List.mem_of_getElem? (i := 166) (by decide +kernel)) rfl
theorem w_564 : Cond.selects "BalloonsMoor$Flock" yX3_ringOf yX3_ringOf ∈ zTB := zch_4 _ (List.mem_of_getElem? (i := 167) (by decide +kernel)) rfl
theorem kk_RX11_188 : zKV RX11 188 RX3 yX3_ringOf cX3_ringOf 2 (some .int) 1 := ⟨w_562, w_563, w_564, w_296, w_561, by decide +kernel, by decide⟩
theorem w_565 : Cond.code yX3_cellOf prog_5_method_12_code 2 (some .int) ∈ zTB := zch_4 _ (List.mem_of_getElem? (i := 172) (by decide +kernel)) rfl
theorem w_566 : Cond.methodLink "BalloonsMoor" 191 yX3_cellOf ∈ zTB := zch_4 _ (List.mem_of_getElem? (i := 169) (by decide +kernel)) rfl
theorem w_567 : Cond.instanceMethod yX3_cellOf ∈ zTB := zch_4 _ (List.mem_of_getElem? (i := 170) (by decide +kernel)) rfl
theorem w_568 : Cond.selects "BalloonsMoor$Flock" yX3_cellOf yX3_cellOf ∈ zTB := zch_4 _ (List.mem_of_getElem? (i := 171) (by decide +kernel)) rfl
theorem kk_RX11_191 : zKV RX11 191 RX3 yX3_cellOf cX3_cellOf 2 (some .int) 1 := ⟨w_566, w_567, w_568, w_296, w_565, by decide +kernel, by decide⟩
theorem w_569 : Cond.code yX11_entryOf prog_1_method_13_code 3 (some .int) ∈ zTB := zch_3 _ (List.mem_of_getElem? (i := 149) (by decide +kernel)) rfl
theorem w_570 : Cond.methodLink "BalloonsMoor" 198 yX11_entryOf ∈ zTB := zch_3 _ (List.mem_of_getElem? (i := 147) (by decide +kernel)) rfl
theorem w_571 : Cond.static yX11_entryOf ∈ zTB := zch_3 _ (List.mem_of_getElem? (i := 148) (by decide +kernel)) rfl
theorem kk_RX11_198 : zKS RX11 198 yX11_entryOf cX11_entryOf 3 (some .int) 2 := ⟨w_570, w_571, w_371, w_569, by decide +kernel, by decide⟩
theorem w_572 : Cond.code yX3_setLoose prog_5_method_21_code 2 (none) ∈ zTB := zch_3 _ (List.mem_of_getElem? (i := 192) (by decide +kernel)) rfl
theorem w_573 : Cond.methodLink "BalloonsMoor" 267 yX3_setLoose ∈ zTB := zch_3 _ (List.mem_of_getElem? (i := 189) (by decide +kernel)) rfl
theorem w_574 : Cond.instanceMethod yX3_setLoose ∈ zTB := zch_3 _ (List.mem_of_getElem? (i := 190) (by decide +kernel)) rfl
theorem w_575 : Cond.selects "BalloonsMoor$Flock" yX3_setLoose yX3_setLoose ∈ zTB := zch_3 _ (List.mem_of_getElem? (i := 191) (by decide +kernel)) rfl
theorem kk_RX11_267 : zKV RX11 267 RX3 yX3_setLoose cX3_setLoose 2 none 1 := ⟨w_573, w_574, w_575, w_296, w_572, by decide +kernel, by decide⟩
theorem w_576 : Cond.code yX6_hold prog_8_method_3_code 1 (none) ∈ zTB := zch_3 _ (List.mem_of_getElem? (i := 203) (by decide +kernel)) rfl
theorem w_577 : Cond.methodLink "BalloonsMoor" 259 yX6_hold ∈ zTB := zch_3 _ (List.mem_of_getElem? (i := 200) (by decide +kernel)) rfl
theorem w_578 : Cond.instanceMethod yX6_hold ∈ zTB := zch_3 _ (List.mem_of_getElem? (i := 201) (by decide +kernel)) rfl
theorem w_579 : Cond.selects "BalloonsMoor$Past" yX6_hold yX6_hold ∈ zTB := zch_3 _ (List.mem_of_getElem? (i := 202) (by decide +kernel)) rfl
theorem kk_RX11_259 : zKV RX11 259 RX6 yX6_hold cX6_hold 1 none 0 := ⟨w_577, w_578, w_579, w_527, w_576, by decide +kernel, by decide⟩
theorem w_580 : Cond.code yX6_note prog_8_method_2_code 2 (none) ∈ zTB := zch_3 _ (List.mem_of_getElem? (i := 161) (by decide +kernel)) rfl
theorem w_581 : Cond.methodLink "BalloonsMoor" 210 yX6_note ∈ zTB := zch_3 _ (List.mem_of_getElem? (i := 158) (by decide +kernel)) rfl
theorem w_582 : Cond.instanceMethod yX6_note ∈ zTB := zch_3 _ (List.mem_of_getElem? (i := 159) (by decide +kernel)) rfl
theorem w_583 : Cond.selects "BalloonsMoor$Past" yX6_note yX6_note ∈ zTB := zch_3 _ (List.mem_of_getElem? (i := 160) (by decide +kernel)) rfl
theorem kk_RX11_210 : zKV RX11 210 RX6 yX6_note cX6_note 2 none 1 := ⟨w_581, w_582, w_583, w_527, w_580, by decide +kernel, by decide⟩
theorem w_584 : Cond.code yX11_setFree prog_1_method_24_code 3 (some .int) ∈ zTB := zch_3 _ (List.mem_of_getElem? (i := 168) (by decide +kernel)) rfl
theorem w_585 : Cond.methodLink "BalloonsMoor" 214 yX11_setFree ∈ zTB := zch_3 _ (List.mem_of_getElem? (i := 166) (by decide +kernel)) rfl
theorem w_586 : Cond.static yX11_setFree ∈ zTB := zch_3 _ (List.mem_of_getElem? (i := 167) (by decide +kernel)) rfl
theorem kk_RX11_214 : zKS RX11 214 yX11_setFree cX11_setFree 3 (some .int) 2 := ⟨w_585, w_586, w_371, w_584, by decide +kernel, by decide⟩
theorem w_587 : Cond.code yX11_remembered prog_1_method_23_code 2 (some .int) ∈ zTB := zch_3 _ (List.mem_of_getElem? (i := 199) (by decide +kernel)) rfl
theorem w_588 : Cond.methodLink "BalloonsMoor" 218 yX11_remembered ∈ zTB := zch_3 _ (List.mem_of_getElem? (i := 196) (by decide +kernel)) rfl
theorem w_589 : Cond.instanceMethod yX11_remembered ∈ zTB := zch_3 _ (List.mem_of_getElem? (i := 198) (by decide +kernel)) rfl
theorem w_sel_X11_remembered : Cond.selects RX11 yX11_remembered yX11_remembered ∈ zTB := zch_0 _ (List.mem_of_getElem? (i := 12) (by decide +kernel)) rfl
theorem kk_RX11_218 : zKV RX11 218 RX11 yX11_remembered cX11_remembered 2 (some .int) 1 := ⟨w_588, w_589, w_sel_X11_remembered, w_371, w_587, by decide +kernel, by decide⟩
theorem w_590 : Cond.methodLink "BalloonsMoor" 270 yX3_farness ∈ zTB := zch_3 _ (List.mem_of_getElem? (i := 217) (by decide +kernel)) rfl
theorem kk_RX11_270 : zKV RX11 270 RX3 yX3_farness cX3_farness 2 (some .int) 1 := ⟨w_590, w_388, w_389, w_296, w_386, by decide +kernel, by decide⟩
theorem w_591 : Cond.methodLink "BalloonsMoor" 273 yJ9_abs_0f7a4 ∈ zTB := zch_3 _ (List.mem_of_getElem? (i := 224) (by decide +kernel)) rfl
theorem kk_RX11_273 : zKS RX11 273 Lib.Math.abs.name Lib.Math.abs.code 1 (some .int) 1 := ⟨w_591, w_347, w_348, w_code_Math_abs, by decide +kernel, by decide⟩
theorem w_592 : Cond.code yX11_tie prog_1_method_25_code 4 (some .int) ∈ zTB := zch_3 _ (List.mem_of_getElem? (i := 212) (by decide +kernel)) rfl
theorem w_593 : Cond.methodLink "BalloonsMoor" 221 yX11_tie ∈ zTB := zch_3 _ (List.mem_of_getElem? (i := 209) (by decide +kernel)) rfl
theorem w_594 : Cond.instanceMethod yX11_tie ∈ zTB := zch_3 _ (List.mem_of_getElem? (i := 211) (by decide +kernel)) rfl
theorem w_sel_X11_tie : Cond.selects RX11 yX11_tie yX11_tie ∈ zTB := zch_0 _ (List.mem_of_getElem? (i := 13) (by decide +kernel)) rfl
theorem kk_RX11_221 : zKV RX11 221 RX11 yX11_tie cX11_tie 4 (some .int) 2 := ⟨w_593, w_594, w_sel_X11_tie, w_371, w_592, by decide +kernel, by decide⟩
theorem w_595 : Cond.code yX11_untie prog_1_method_26_code 3 (some .int) ∈ zTB := zch_3 _ (List.mem_of_getElem? (i := 235) (by decide +kernel)) rfl
theorem w_596 : Cond.methodLink "BalloonsMoor" 224 yX11_untie ∈ zTB := zch_3 _ (List.mem_of_getElem? (i := 233) (by decide +kernel)) rfl
theorem w_597 : Cond.static yX11_untie ∈ zTB := zch_3 _ (List.mem_of_getElem? (i := 234) (by decide +kernel)) rfl
theorem kk_RX11_224 : zKS RX11 224 yX11_untie cX11_untie 3 (some .int) 2 := ⟨w_596, w_597, w_371, w_595, by decide +kernel, by decide⟩
theorem w_598 : Cond.code yX3_isAtHand prog_5_method_15_code 2 (some .boolean) ∈ zTB := zch_4 _ (List.mem_of_getElem? (i := 7) (by decide +kernel)) rfl
theorem w_599 : Cond.methodLink "BalloonsMoor" 230 yX3_isAtHand ∈ zTB := zch_4 _ (List.mem_of_getElem? (i := 4) (by decide +kernel)) rfl
theorem w_600 : Cond.instanceMethod yX3_isAtHand ∈ zTB := zch_4 _ (List.mem_of_getElem? (i := 5) (by decide +kernel)) rfl
theorem w_601 : Cond.selects "BalloonsMoor$Flock" yX3_isAtHand yX3_isAtHand ∈ zTB := zch_4 _ (List.mem_of_getElem? (i := 6) (by decide +kernel)) rfl
theorem kk_RX11_230 : zKV RX11 230 RX3 yX3_isAtHand cX3_isAtHand 2 (some .boolean) 1 := ⟨w_599, w_600, w_601, w_296, w_598, by decide +kernel, by decide⟩
theorem w_602 : Cond.code yX11_load prog_1_method_27_code 4 (some .int) ∈ zTB := zch_4 _ (List.mem_of_getElem? (i := 3) (by decide +kernel)) rfl
theorem w_603 : Cond.methodLink "BalloonsMoor" 227 yX11_load ∈ zTB := zch_4 _ (List.mem_of_getElem? (i := 0) (by decide +kernel)) rfl
theorem w_604 : Cond.instanceMethod yX11_load ∈ zTB := zch_4 _ (List.mem_of_getElem? (i := 2) (by decide +kernel)) rfl
theorem w_sel_X11_load : Cond.selects RX11 yX11_load yX11_load ∈ zTB := zch_0 _ (List.mem_of_getElem? (i := 14) (by decide +kernel)) rfl
theorem kk_RX11_227 : zKV RX11 227 RX11 yX11_load cX11_load 4 (some .int) 2 := ⟨w_603, w_604, w_sel_X11_load, w_371, w_602, by decide +kernel, by decide⟩
theorem w_605 : Cond.code yX1_add prog_3_method_2_code 3 (none) ∈ zTB := zch_4 _ (List.mem_of_getElem? (i := 75) (by decide +kernel)) rfl
theorem w_606 : Cond.methodLink "BalloonsMoor" 306 yX1_add ∈ zTB := zch_4 _ (List.mem_of_getElem? (i := 72) (by decide +kernel)) rfl
theorem w_607 : Cond.instanceMethod yX1_add ∈ zTB := zch_4 _ (List.mem_of_getElem? (i := 73) (by decide +kernel)) rfl
theorem w_608 : Cond.selects "BalloonsMoor$Answers" yX1_add yX1_add ∈ zTB := zch_4 _ (List.mem_of_getElem? (i := 74) (by decide +kernel)) rfl
theorem w_609 : Cond.initialized "BalloonsMoor$Answers" ∈ zTB := zch_1 _ (List.mem_of_getElem? (i := 9) (by decide +kernel)) rfl
theorem kk_RX11_306 : zKV RX11 306 RX1 yX1_add cX1_add 3 none 1 := ⟨w_606, w_607, w_608, w_609, w_605, by decide +kernel, by decide⟩
theorem w_610 : Cond.code yX3_passHours prog_5_method_22_code 3 (some .int) ∈ zTB := zch_4 _ (List.mem_of_getElem? (i := 23) (by decide +kernel)) rfl
theorem w_611 : Cond.methodLink "BalloonsMoor" 233 yX3_passHours ∈ zTB := zch_4 _ (List.mem_of_getElem? (i := 20) (by decide +kernel)) rfl
theorem w_612 : Cond.instanceMethod yX3_passHours ∈ zTB := zch_4 _ (List.mem_of_getElem? (i := 21) (by decide +kernel)) rfl
theorem w_613 : Cond.selects "BalloonsMoor$Flock" yX3_passHours yX3_passHours ∈ zTB := zch_4 _ (List.mem_of_getElem? (i := 22) (by decide +kernel)) rfl
theorem kk_RX11_233 : zKV RX11 233 RX3 yX3_passHours cX3_passHours 3 (some .int) 1 := ⟨w_611, w_612, w_613, w_296, w_610, by decide +kernel, by decide⟩
theorem w_614 : Cond.code yX11_tell prog_1_method_62_code 5 (none) ∈ zTB := zch_4 _ (List.mem_of_getElem? (i := 71) (by decide +kernel)) rfl
theorem w_615 : Cond.methodLink "BalloonsMoor" 242 yX11_tell ∈ zTB := zch_4 _ (List.mem_of_getElem? (i := 68) (by decide +kernel)) rfl
theorem w_616 : Cond.instanceMethod yX11_tell ∈ zTB := zch_4 _ (List.mem_of_getElem? (i := 70) (by decide +kernel)) rfl
theorem w_sel_X11_tell : Cond.selects RX11 yX11_tell yX11_tell ∈ zTB := zch_0 _ (List.mem_of_getElem? (i := 21) (by decide +kernel)) rfl
theorem kk_RX11_242 : zKV RX11 242 RX11 yX11_tell cX11_tell 5 none 2 := ⟨w_615, w_616, w_sel_X11_tell, w_371, w_614, by decide +kernel, by decide⟩
theorem w_617 : Cond.code yX0_read prog_2_method_2_code 4 (some .boolean) ∈ zTB := zch_4 _ (List.mem_of_getElem? (i := 83) (by decide +kernel)) rfl
theorem w_618 : Cond.methodLink "BalloonsMoor" 246 yX0_read ∈ zTB := zch_4 _ (List.mem_of_getElem? (i := 80) (by decide +kernel)) rfl
theorem w_619 : Cond.instanceMethod yX0_read ∈ zTB := zch_4 _ (List.mem_of_getElem? (i := 81) (by decide +kernel)) rfl
theorem w_620 : Cond.selects "BalloonsMoor$Acts" yX0_read yX0_read ∈ zTB := zch_4 _ (List.mem_of_getElem? (i := 82) (by decide +kernel)) rfl
theorem kk_RX11_246 : zKV RX11 246 RX0 yX0_read cX0_read 4 (some .boolean) 1 := ⟨w_618, w_619, w_620, w_261, w_617, by decide +kernel, by decide⟩
theorem w_621 : Cond.code yX3_those prog_5_method_17_code 4 (some .int) ∈ zTB := zch_4 _ (List.mem_of_getElem? (i := 109) (by decide +kernel)) rfl
theorem w_622 : Cond.methodLink "BalloonsMoor" 247 yX3_those ∈ zTB := zch_4 _ (List.mem_of_getElem? (i := 106) (by decide +kernel)) rfl
theorem w_623 : Cond.instanceMethod yX3_those ∈ zTB := zch_4 _ (List.mem_of_getElem? (i := 107) (by decide +kernel)) rfl
theorem w_624 : Cond.selects "BalloonsMoor$Flock" yX3_those yX3_those ∈ zTB := zch_4 _ (List.mem_of_getElem? (i := 108) (by decide +kernel)) rfl
theorem kk_RX11_247 : zKV RX11 247 RX3 yX3_those cX3_those 4 (some .int) 1 := ⟨w_622, w_623, w_624, w_296, w_621, by decide +kernel, by decide⟩
theorem w_625 : Cond.methodLink "BalloonsMoor" 250 yJ6_bitCount_0f7a4 ∈ zTB := zch_4 _ (List.mem_of_getElem? (i := 110) (by decide +kernel)) rfl
theorem kk_RX11_250 : zKS RX11 250 yJ6_bitCount_0f7a4 cJ6_bitCount_0f7a4 1 (some .int) 1 := ⟨w_625, w_319, w_320, w_317, by decide +kernel, by decide⟩
theorem w_626 : Cond.code yX11_carryOut prog_1_method_28_code 4 (some .int) ∈ zTB := zch_4 _ (List.mem_of_getElem? (i := 119) (by decide +kernel)) rfl
theorem w_627 : Cond.methodLink "BalloonsMoor" 256 yX11_carryOut ∈ zTB := zch_4 _ (List.mem_of_getElem? (i := 116) (by decide +kernel)) rfl
theorem w_628 : Cond.instanceMethod yX11_carryOut ∈ zTB := zch_4 _ (List.mem_of_getElem? (i := 118) (by decide +kernel)) rfl
theorem w_sel_X11_carryOut : Cond.selects RX11 yX11_carryOut yX11_carryOut ∈ zTB := zch_0 _ (List.mem_of_getElem? (i := 26) (by decide +kernel)) rfl
theorem kk_RX11_256 : zKV RX11 256 RX11 yX11_carryOut cX11_carryOut 4 (some .int) 1 := ⟨w_627, w_628, w_sel_X11_carryOut, w_371, w_626, by decide +kernel, by decide⟩
theorem w_629 : Cond.code yX6_takeBack prog_8_method_4_code 2 (some .boolean) ∈ zTB := zch_4 _ (List.mem_of_getElem? (i := 127) (by decide +kernel)) rfl
theorem w_630 : Cond.methodLink "BalloonsMoor" 262 yX6_takeBack ∈ zTB := zch_4 _ (List.mem_of_getElem? (i := 124) (by decide +kernel)) rfl
theorem w_631 : Cond.instanceMethod yX6_takeBack ∈ zTB := zch_4 _ (List.mem_of_getElem? (i := 125) (by decide +kernel)) rfl
theorem w_632 : Cond.selects "BalloonsMoor$Past" yX6_takeBack yX6_takeBack ∈ zTB := zch_4 _ (List.mem_of_getElem? (i := 126) (by decide +kernel)) rfl
theorem kk_RX11_262 : zKV RX11 262 RX6 yX6_takeBack cX6_takeBack 2 (some .boolean) 1 := ⟨w_630, w_631, w_632, w_527, w_629, by decide +kernel, by decide⟩
theorem w_633 : Cond.methodLink "BalloonsMoor" 289 yX3_doTouch ∈ zTB := zch_4 _ (List.mem_of_getElem? (i := 136) (by decide +kernel)) rfl
theorem kk_RX11_289 : zKV RX11 289 RX3 yX3_doTouch cX3_doTouch 3 (some .boolean) 2 := ⟨w_633, w_384, w_385, w_296, w_382, by decide +kernel, by decide⟩
theorem w_634 : Cond.code yX11_tellFirst prog_1_method_63_code 4 (none) ∈ zTB := zch_4 _ (List.mem_of_getElem? (i := 140) (by decide +kernel)) rfl
theorem w_635 : Cond.methodLink "BalloonsMoor" 293 yX11_tellFirst ∈ zTB := zch_4 _ (List.mem_of_getElem? (i := 137) (by decide +kernel)) rfl
theorem w_636 : Cond.instanceMethod yX11_tellFirst ∈ zTB := zch_4 _ (List.mem_of_getElem? (i := 139) (by decide +kernel)) rfl
theorem w_sel_X11_tellFirst : Cond.selects RX11 yX11_tellFirst yX11_tellFirst ∈ zTB := zch_0 _ (List.mem_of_getElem? (i := 27) (by decide +kernel)) rfl
theorem kk_RX11_293 : zKV RX11 293 RX11 yX11_tellFirst cX11_tellFirst 4 none 3 := ⟨w_635, w_636, w_sel_X11_tellFirst, w_371, w_634, by decide +kernel, by decide⟩
theorem w_637 : Cond.code yX3_doesBreach prog_5_method_19_code 3 (some .boolean) ∈ zTB := zch_4 _ (List.mem_of_getElem? (i := 148) (by decide +kernel)) rfl
theorem w_638 : Cond.methodLink "BalloonsMoor" 297 yX3_doesBreach ∈ zTB := zch_4 _ (List.mem_of_getElem? (i := 145) (by decide +kernel)) rfl
theorem w_639 : Cond.instanceMethod yX3_doesBreach ∈ zTB := zch_4 _ (List.mem_of_getElem? (i := 146) (by decide +kernel)) rfl
theorem w_640 : Cond.selects "BalloonsMoor$Flock" yX3_doesBreach yX3_doesBreach ∈ zTB := zch_4 _ (List.mem_of_getElem? (i := 147) (by decide +kernel)) rfl
theorem kk_RX11_297 : zKV RX11 297 RX3 yX3_doesBreach cX3_doesBreach 3 (some .boolean) 2 := ⟨w_638, w_639, w_640, w_296, w_637, by decide +kernel, by decide⟩
theorem w_641 : Cond.code yX3_become prog_5_method_30_code 3 (none) ∈ zTB := zch_4 _ (List.mem_of_getElem? (i := 164) (by decide +kernel)) rfl
theorem w_642 : Cond.methodLink "BalloonsMoor" 300 yX3_become ∈ zTB := zch_4 _ (List.mem_of_getElem? (i := 161) (by decide +kernel)) rfl
theorem w_643 : Cond.instanceMethod yX3_become ∈ zTB := zch_4 _ (List.mem_of_getElem? (i := 162) (by decide +kernel)) rfl
theorem w_644 : Cond.selects "BalloonsMoor$Flock" yX3_become yX3_become ∈ zTB := zch_4 _ (List.mem_of_getElem? (i := 163) (by decide +kernel)) rfl
theorem kk_RX11_300 : zKV RX11 300 RX3 yX3_become cX3_become 3 none 1 := ⟨w_642, w_643, w_644, w_296, w_641, by decide +kernel, by decide⟩
theorem w_645 : Cond.methodLink "BalloonsMoor" 303 yX3_isUp ∈ zTB := zch_4 _ (List.mem_of_getElem? (i := 177) (by decide +kernel)) rfl
theorem kk_RX11_303 : zKV RX11 303 RX3 yX3_isUp cX3_isUp 2 (some .boolean) 1 := ⟨w_645, w_379, w_380, w_296, w_377, by decide +kernel, by decide⟩
theorem w_646 : Cond.methodLink "BalloonsMoor" 310 yX3_liftAs ∈ zTB := zch_4 _ (List.mem_of_getElem? (i := 182) (by decide +kernel)) rfl
theorem kk_RX11_310 : zKV RX11 310 RX3 yX3_liftAs cX3_liftAs 5 (some .int) 4 := ⟨w_646, w_344, w_345, w_296, w_342, by decide +kernel, by decide⟩
theorem w_647 : Cond.code yX3_areAll prog_5_method_4_code 2 (some .boolean) ∈ zTB := zch_4 _ (List.mem_of_getElem? (i := 190) (by decide +kernel)) rfl
theorem w_648 : Cond.methodLink "BalloonsMoor" 314 yX3_areAll ∈ zTB := zch_4 _ (List.mem_of_getElem? (i := 187) (by decide +kernel)) rfl
theorem w_649 : Cond.instanceMethod yX3_areAll ∈ zTB := zch_4 _ (List.mem_of_getElem? (i := 188) (by decide +kernel)) rfl
theorem w_650 : Cond.selects "BalloonsMoor$Flock" yX3_areAll yX3_areAll ∈ zTB := zch_4 _ (List.mem_of_getElem? (i := 189) (by decide +kernel)) rfl
theorem kk_RX11_314 : zKV RX11 314 RX3 yX3_areAll cX3_areAll 2 (some .boolean) 1 := ⟨w_648, w_649, w_650, w_296, w_647, by decide +kernel, by decide⟩
theorem w_651 : Cond.code yX2_choose prog_4_method_2_code 3 (none) ∈ zTB := zch_4 _ (List.mem_of_getElem? (i := 194) (by decide +kernel)) rfl
theorem w_652 : Cond.methodLink "BalloonsMoor" 317 yX2_choose ∈ zTB := zch_4 _ (List.mem_of_getElem? (i := 191) (by decide +kernel)) rfl
theorem w_653 : Cond.instanceMethod yX2_choose ∈ zTB := zch_4 _ (List.mem_of_getElem? (i := 192) (by decide +kernel)) rfl
theorem w_654 : Cond.selects "BalloonsMoor$Berths" yX2_choose yX2_choose ∈ zTB := zch_4 _ (List.mem_of_getElem? (i := 193) (by decide +kernel)) rfl
theorem kk_RX11_317 : zKV RX11 317 RX2 yX2_choose cX2_choose 3 none 1 := ⟨w_652, w_653, w_654, w_313, w_651, by decide +kernel, by decide⟩
theorem w_655 : Cond.code yX2_waysAll prog_4_method_3_code 1 (some .int) ∈ zTB := zch_4 _ (List.mem_of_getElem? (i := 199) (by decide +kernel)) rfl
theorem w_656 : Cond.methodLink "BalloonsMoor" 320 yX2_waysAll ∈ zTB := zch_4 _ (List.mem_of_getElem? (i := 196) (by decide +kernel)) rfl
theorem w_657 : Cond.instanceMethod yX2_waysAll ∈ zTB := zch_4 _ (List.mem_of_getElem? (i := 197) (by decide +kernel)) rfl
theorem w_658 : Cond.selects "BalloonsMoor$Berths" yX2_waysAll yX2_waysAll ∈ zTB := zch_4 _ (List.mem_of_getElem? (i := 198) (by decide +kernel)) rfl
theorem kk_RX11_320 : zKV RX11 320 RX2 yX2_waysAll cX2_waysAll 1 (some .int) 0 := ⟨w_656, w_657, w_658, w_313, w_655, by decide +kernel, by decide⟩
theorem w_659 : Cond.code yX2_canAll prog_4_method_4_code 1 (some .boolean) ∈ zTB := zch_4 _ (List.mem_of_getElem? (i := 225) (by decide +kernel)) rfl
theorem w_660 : Cond.methodLink "BalloonsMoor" 327 yX2_canAll ∈ zTB := zch_4 _ (List.mem_of_getElem? (i := 222) (by decide +kernel)) rfl
theorem w_661 : Cond.instanceMethod yX2_canAll ∈ zTB := zch_4 _ (List.mem_of_getElem? (i := 223) (by decide +kernel)) rfl
theorem w_662 : Cond.selects "BalloonsMoor$Berths" yX2_canAll yX2_canAll ∈ zTB := zch_4 _ (List.mem_of_getElem? (i := 224) (by decide +kernel)) rfl
theorem kk_RX11_327 : zKV RX11 327 RX2 yX2_canAll cX2_canAll 1 (some .boolean) 0 := ⟨w_660, w_661, w_662, w_313, w_659, by decide +kernel, by decide⟩
theorem w_663 : Cond.methodLink "BalloonsMoor" 332 yX9_barredBy ∈ zTB := zch_4 _ (List.mem_of_getElem? (i := 231) (by decide +kernel)) rfl
theorem kk_RX11_332 : zKV RX11 332 RX9 yX9_barredBy cX9_barredBy 5 (some .int) 3 := ⟨w_663, w_308, w_309, w_305, w_306, by decide +kernel, by decide⟩
theorem w_664 : Cond.code yX4_survey prog_6_method_2_code 6 (none) ∈ zTB := zch_4 _ (List.mem_of_getElem? (i := 239) (by decide +kernel)) rfl
theorem w_665 : Cond.methodLink "BalloonsMoor" 336 yX4_survey ∈ zTB := zch_4 _ (List.mem_of_getElem? (i := 236) (by decide +kernel)) rfl
theorem w_666 : Cond.instanceMethod yX4_survey ∈ zTB := zch_4 _ (List.mem_of_getElem? (i := 237) (by decide +kernel)) rfl
theorem w_667 : Cond.selects "BalloonsMoor$Landing" yX4_survey yX4_survey ∈ zTB := zch_4 _ (List.mem_of_getElem? (i := 238) (by decide +kernel)) rfl
theorem kk_RX11_336 : zKV RX11 336 RX4 yX4_survey cX4_survey 6 none 2 := ⟨w_665, w_666, w_667, w_405, w_664, by decide +kernel, by decide⟩
theorem w_668 : Cond.code yX4_plan prog_6_method_6_code 4 (some .boolean) ∈ zTB := zch_5 _ (List.mem_of_getElem? (i := 24) (by decide +kernel)) rfl
theorem w_669 : Cond.methodLink "BalloonsMoor" 340 yX4_plan ∈ zTB := zch_5 _ (List.mem_of_getElem? (i := 21) (by decide +kernel)) rfl
theorem w_670 : Cond.instanceMethod yX4_plan ∈ zTB := zch_5 _ (List.mem_of_getElem? (i := 22) (by decide +kernel)) rfl
theorem w_671 : Cond.selects "BalloonsMoor$Landing" yX4_plan yX4_plan ∈ zTB := zch_5 _ (List.mem_of_getElem? (i := 23) (by decide +kernel)) rfl
theorem kk_RX11_340 : zKV RX11 340 RX4 yX4_plan cX4_plan 4 (some .boolean) 1 := ⟨w_669, w_670, w_671, w_405, w_668, by decide +kernel, by decide⟩
theorem w_672 : Cond.code yX4_retrace prog_6_method_9_code 1 (some .boolean) ∈ zTB := zch_5 _ (List.mem_of_getElem? (i := 32) (by decide +kernel)) rfl
theorem w_673 : Cond.methodLink "BalloonsMoor" 343 yX4_retrace ∈ zTB := zch_5 _ (List.mem_of_getElem? (i := 29) (by decide +kernel)) rfl
theorem w_674 : Cond.instanceMethod yX4_retrace ∈ zTB := zch_5 _ (List.mem_of_getElem? (i := 30) (by decide +kernel)) rfl
theorem w_675 : Cond.selects "BalloonsMoor$Landing" yX4_retrace yX4_retrace ∈ zTB := zch_5 _ (List.mem_of_getElem? (i := 31) (by decide +kernel)) rfl
theorem kk_RX11_343 : zKV RX11 343 RX4 yX4_retrace cX4_retrace 1 (some .boolean) 0 := ⟨w_673, w_674, w_675, w_405, w_672, by decide +kernel, by decide⟩
theorem w_676 : Cond.code yX4_beats prog_6_method_8_code 3 (some .boolean) ∈ zTB := zch_5 _ (List.mem_of_getElem? (i := 48) (by decide +kernel)) rfl
theorem w_677 : Cond.methodLink "BalloonsMoor" 354 yX4_beats ∈ zTB := zch_5 _ (List.mem_of_getElem? (i := 45) (by decide +kernel)) rfl
theorem w_678 : Cond.instanceMethod yX4_beats ∈ zTB := zch_5 _ (List.mem_of_getElem? (i := 46) (by decide +kernel)) rfl
theorem w_679 : Cond.selects "BalloonsMoor$Landing" yX4_beats yX4_beats ∈ zTB := zch_5 _ (List.mem_of_getElem? (i := 47) (by decide +kernel)) rfl
theorem kk_RX11_354 : zKV RX11 354 RX4 yX4_beats cX4_beats 3 (some .boolean) 2 := ⟨w_677, w_678, w_679, w_405, w_676, by decide +kernel, by decide⟩
theorem w_680 : Cond.code yX11_withRope prog_1_method_41_code 5 (some .int) ∈ zTB := zch_5 _ (List.mem_of_getElem? (i := 60) (by decide +kernel)) rfl
theorem w_681 : Cond.methodLink "BalloonsMoor" 363 yX11_withRope ∈ zTB := zch_5 _ (List.mem_of_getElem? (i := 57) (by decide +kernel)) rfl
theorem w_682 : Cond.instanceMethod yX11_withRope ∈ zTB := zch_5 _ (List.mem_of_getElem? (i := 59) (by decide +kernel)) rfl
theorem w_sel_X11_withRope : Cond.selects RX11 yX11_withRope yX11_withRope ∈ zTB := zch_0 _ (List.mem_of_getElem? (i := 38) (by decide +kernel)) rfl
theorem kk_RX11_363 : zKV RX11 363 RX11 yX11_withRope cX11_withRope 5 (some .int) 2 := ⟨w_681, w_682, w_sel_X11_withRope, w_371, w_680, by decide +kernel, by decide⟩
theorem w_683 : Cond.code yX11_savable prog_1_method_40_code 5 (some .int) ∈ zTB := zch_5 _ (List.mem_of_getElem? (i := 56) (by decide +kernel)) rfl
theorem w_684 : Cond.methodLink "BalloonsMoor" 357 yX11_savable ∈ zTB := zch_5 _ (List.mem_of_getElem? (i := 53) (by decide +kernel)) rfl
theorem w_685 : Cond.instanceMethod yX11_savable ∈ zTB := zch_5 _ (List.mem_of_getElem? (i := 55) (by decide +kernel)) rfl
theorem w_sel_X11_savable : Cond.selects RX11 yX11_savable yX11_savable ∈ zTB := zch_0 _ (List.mem_of_getElem? (i := 37) (by decide +kernel)) rfl
theorem kk_RX11_357 : zKV RX11 357 RX11 yX11_savable cX11_savable 5 (some .int) 2 := ⟨w_684, w_685, w_sel_X11_savable, w_371, w_683, by decide +kernel, by decide⟩
theorem w_686 : Cond.code yX11_firstDown prog_1_method_42_code 5 (some .int) ∈ zTB := zch_5 _ (List.mem_of_getElem? (i := 64) (by decide +kernel)) rfl
theorem w_687 : Cond.methodLink "BalloonsMoor" 360 yX11_firstDown ∈ zTB := zch_5 _ (List.mem_of_getElem? (i := 61) (by decide +kernel)) rfl
theorem w_688 : Cond.instanceMethod yX11_firstDown ∈ zTB := zch_5 _ (List.mem_of_getElem? (i := 63) (by decide +kernel)) rfl
theorem w_sel_X11_firstDown : Cond.selects RX11 yX11_firstDown yX11_firstDown ∈ zTB := zch_0 _ (List.mem_of_getElem? (i := 39) (by decide +kernel)) rfl
theorem kk_RX11_360 : zKV RX11 360 RX11 yX11_firstDown cX11_firstDown 5 (some .int) 3 := ⟨w_687, w_688, w_sel_X11_firstDown, w_371, w_686, by decide +kernel, by decide⟩
theorem w_689 : Cond.code yX11_gain prog_1_method_45_code 4 (some .int) ∈ zTB := zch_5 _ (List.mem_of_getElem? (i := 74) (by decide +kernel)) rfl
theorem w_690 : Cond.methodLink "BalloonsMoor" 370 yX11_gain ∈ zTB := zch_5 _ (List.mem_of_getElem? (i := 72) (by decide +kernel)) rfl
theorem w_691 : Cond.static yX11_gain ∈ zTB := zch_5 _ (List.mem_of_getElem? (i := 73) (by decide +kernel)) rfl
theorem kk_RX11_370 : zKS RX11 370 yX11_gain cX11_gain 4 (some .int) 3 := ⟨w_690, w_691, w_371, w_689, by decide +kernel, by decide⟩
theorem w_692 : Cond.code yX11_isContent prog_1_method_44_code 4 (some .boolean) ∈ zTB := zch_5 _ (List.mem_of_getElem? (i := 71) (by decide +kernel)) rfl
theorem w_693 : Cond.methodLink "BalloonsMoor" 366 yX11_isContent ∈ zTB := zch_5 _ (List.mem_of_getElem? (i := 69) (by decide +kernel)) rfl
theorem w_694 : Cond.static yX11_isContent ∈ zTB := zch_5 _ (List.mem_of_getElem? (i := 70) (by decide +kernel)) rfl
theorem kk_RX11_366 : zKS RX11 366 yX11_isContent cX11_isContent 4 (some .boolean) 3 := ⟨w_693, w_694, w_371, w_692, by decide +kernel, by decide⟩
theorem w_695 : Cond.code yX5_add prog_7_method_2_code 4 (none) ∈ zTB := zch_5 _ (List.mem_of_getElem? (i := 82) (by decide +kernel)) rfl
theorem w_696 : Cond.methodLink "BalloonsMoor" 373 yX5_add ∈ zTB := zch_5 _ (List.mem_of_getElem? (i := 79) (by decide +kernel)) rfl
theorem w_697 : Cond.instanceMethod yX5_add ∈ zTB := zch_5 _ (List.mem_of_getElem? (i := 80) (by decide +kernel)) rfl
theorem w_698 : Cond.selects "BalloonsMoor$Marks" yX5_add yX5_add ∈ zTB := zch_5 _ (List.mem_of_getElem? (i := 81) (by decide +kernel)) rfl
theorem kk_RX11_373 : zKV RX11 373 RX5 yX5_add cX5_add 4 none 3 := ⟨w_696, w_697, w_698, w_433, w_695, by decide +kernel, by decide⟩
theorem w_699 : Cond.methodLink "BalloonsMoor" 375 yX5_fitting ∈ zTB := zch_5 _ (List.mem_of_getElem? (i := 91) (by decide +kernel)) rfl
theorem kk_RX11_375 : zKV RX11 375 RX5 yX5_fitting cX5_fitting 7 (some .int) 2 := ⟨w_699, w_448, w_449, w_433, w_446, by decide +kernel, by decide⟩
theorem w_700 : Cond.code yX5_goThrough prog_7_method_6_code 3 (some .int) ∈ zTB := zch_5 _ (List.mem_of_getElem? (i := 107) (by decide +kernel)) rfl
theorem w_701 : Cond.methodLink "BalloonsMoor" 378 yX5_goThrough ∈ zTB := zch_5 _ (List.mem_of_getElem? (i := 104) (by decide +kernel)) rfl
theorem w_702 : Cond.instanceMethod yX5_goThrough ∈ zTB := zch_5 _ (List.mem_of_getElem? (i := 105) (by decide +kernel)) rfl
theorem w_703 : Cond.selects "BalloonsMoor$Marks" yX5_goThrough yX5_goThrough ∈ zTB := zch_5 _ (List.mem_of_getElem? (i := 106) (by decide +kernel)) rfl
theorem kk_RX11_378 : zKV RX11 378 RX5 yX5_goThrough cX5_goThrough 3 (some .int) 1 := ⟨w_701, w_702, w_703, w_433, w_700, by decide +kernel, by decide⟩
theorem w_704 : Cond.code yX3_staysNear prog_5_method_29_code 8 (some .boolean) ∈ zTB := zch_5 _ (List.mem_of_getElem? (i := 144) (by decide +kernel)) rfl
theorem w_705 : Cond.methodLink "BalloonsMoor" 408 yX3_staysNear ∈ zTB := zch_5 _ (List.mem_of_getElem? (i := 141) (by decide +kernel)) rfl
theorem w_706 : Cond.instanceMethod yX3_staysNear ∈ zTB := zch_5 _ (List.mem_of_getElem? (i := 142) (by decide +kernel)) rfl
theorem w_707 : Cond.selects "BalloonsMoor$Flock" yX3_staysNear yX3_staysNear ∈ zTB := zch_5 _ (List.mem_of_getElem? (i := 143) (by decide +kernel)) rfl
theorem kk_RX11_408 : zKV RX11 408 RX3 yX3_staysNear cX3_staysNear 8 (some .boolean) 4 := ⟨w_705, w_706, w_707, w_296, w_704, by decide +kernel, by decide⟩
theorem w_708 : Cond.code yX11_power prog_1_method_54_code 5 (some .long) ∈ zTB := zch_5 _ (List.mem_of_getElem? (i := 147) (by decide +kernel)) rfl
theorem w_709 : Cond.methodLink "BalloonsMoor" 399 yX11_power ∈ zTB := zch_5 _ (List.mem_of_getElem? (i := 145) (by decide +kernel)) rfl
theorem w_710 : Cond.static yX11_power ∈ zTB := zch_5 _ (List.mem_of_getElem? (i := 146) (by decide +kernel)) rfl
theorem kk_RX11_399 : zKS RX11 399 yX11_power cX11_power 5 (some .long) 2 := ⟨w_709, w_710, w_371, w_708, by decide +kernel, by decide⟩
theorem w_711 : Cond.code yX3_foresee prog_5_method_28_code 3 (none) ∈ zTB := zch_5 _ (List.mem_of_getElem? (i := 136) (by decide +kernel)) rfl
theorem w_712 : Cond.methodLink "BalloonsMoor" 392 yX3_foresee ∈ zTB := zch_5 _ (List.mem_of_getElem? (i := 133) (by decide +kernel)) rfl
theorem w_713 : Cond.instanceMethod yX3_foresee ∈ zTB := zch_5 _ (List.mem_of_getElem? (i := 134) (by decide +kernel)) rfl
theorem w_714 : Cond.selects "BalloonsMoor$Flock" yX3_foresee yX3_foresee ∈ zTB := zch_5 _ (List.mem_of_getElem? (i := 135) (by decide +kernel)) rfl
theorem kk_RX11_392 : zKV RX11 392 RX3 yX3_foresee cX3_foresee 3 none 1 := ⟨w_712, w_713, w_714, w_296, w_711, by decide +kernel, by decide⟩
theorem w_715 : Cond.code yX11_likely prog_1_method_53_code 9 (some .long) ∈ zTB := zch_5 _ (List.mem_of_getElem? (i := 140) (by decide +kernel)) rfl
theorem w_716 : Cond.methodLink "BalloonsMoor" 395 yX11_likely ∈ zTB := zch_5 _ (List.mem_of_getElem? (i := 137) (by decide +kernel)) rfl
theorem w_717 : Cond.instanceMethod yX11_likely ∈ zTB := zch_5 _ (List.mem_of_getElem? (i := 139) (by decide +kernel)) rfl
theorem w_sel_X11_likely : Cond.selects RX11 yX11_likely yX11_likely ∈ zTB := zch_0 _ (List.mem_of_getElem? (i := 45) (by decide +kernel)) rfl
theorem kk_RX11_395 : zKV RX11 395 RX11 yX11_likely cX11_likely 9 (some .long) 4 := ⟨w_716, w_717, w_sel_X11_likely, w_371, w_715, by decide +kernel, by decide⟩
theorem w_718 : Cond.code yX11_tellFraction prog_1_method_64_code 12 (none) ∈ zTB := zch_5 _ (List.mem_of_getElem? (i := 151) (by decide +kernel)) rfl
theorem w_719 : Cond.methodLink "BalloonsMoor" 403 yX11_tellFraction ∈ zTB := zch_5 _ (List.mem_of_getElem? (i := 148) (by decide +kernel)) rfl
theorem w_720 : Cond.instanceMethod yX11_tellFraction ∈ zTB := zch_5 _ (List.mem_of_getElem? (i := 150) (by decide +kernel)) rfl
theorem w_sel_X11_tellFraction : Cond.selects RX11 yX11_tellFraction yX11_tellFraction ∈ zTB := zch_0 _ (List.mem_of_getElem? (i := 46) (by decide +kernel)) rfl
theorem kk_RX11_403 : zKV RX11 403 RX11 yX11_tellFraction cX11_tellFraction 12 none 2 := ⟨w_719, w_720, w_sel_X11_tellFraction, w_371, w_718, by decide +kernel, by decide⟩
theorem w_721 : Cond.code yX11_stir prog_1_method_56_code 1 (some .int) ∈ zTB := zch_5 _ (List.mem_of_getElem? (i := 163) (by decide +kernel)) rfl
theorem w_722 : Cond.methodLink "BalloonsMoor" 412 yX11_stir ∈ zTB := zch_5 _ (List.mem_of_getElem? (i := 161) (by decide +kernel)) rfl
theorem w_723 : Cond.static yX11_stir ∈ zTB := zch_5 _ (List.mem_of_getElem? (i := 162) (by decide +kernel)) rfl
theorem kk_RX11_412 : zKS RX11 412 yX11_stir cX11_stir 1 (some .int) 1 := ⟨w_722, w_723, w_371, w_721, by decide +kernel, by decide⟩
theorem w_724 : Cond.code yX11_drawn prog_1_method_57_code 2 (some .int) ∈ zTB := zch_5 _ (List.mem_of_getElem? (i := 167) (by decide +kernel)) rfl
theorem w_725 : Cond.methodLink "BalloonsMoor" 415 yX11_drawn ∈ zTB := zch_5 _ (List.mem_of_getElem? (i := 165) (by decide +kernel)) rfl
theorem w_726 : Cond.static yX11_drawn ∈ zTB := zch_5 _ (List.mem_of_getElem? (i := 166) (by decide +kernel)) rfl
theorem kk_RX11_415 : zKS RX11 415 yX11_drawn cX11_drawn 2 (some .int) 2 := ⟨w_725, w_726, w_371, w_724, by decide +kernel, by decide⟩
theorem w_727 : Cond.code yX6_store prog_8_method_7_code 3 (none) ∈ zTB := zch_5 _ (List.mem_of_getElem? (i := 175) (by decide +kernel)) rfl
theorem w_728 : Cond.methodLink "BalloonsMoor" 419 yX6_store ∈ zTB := zch_5 _ (List.mem_of_getElem? (i := 172) (by decide +kernel)) rfl
theorem w_729 : Cond.instanceMethod yX6_store ∈ zTB := zch_5 _ (List.mem_of_getElem? (i := 173) (by decide +kernel)) rfl
theorem w_730 : Cond.selects "BalloonsMoor$Past" yX6_store yX6_store ∈ zTB := zch_5 _ (List.mem_of_getElem? (i := 174) (by decide +kernel)) rfl
theorem kk_RX11_419 : zKV RX11 419 RX6 yX6_store cX6_store 3 none 2 := ⟨w_728, w_729, w_730, w_527, w_727, by decide +kernel, by decide⟩
theorem w_731 : Cond.code yX6_fetch prog_8_method_8_code 3 (none) ∈ zTB := zch_5 _ (List.mem_of_getElem? (i := 183) (by decide +kernel)) rfl
theorem w_732 : Cond.methodLink "BalloonsMoor" 427 yX6_fetch ∈ zTB := zch_5 _ (List.mem_of_getElem? (i := 180) (by decide +kernel)) rfl
theorem w_733 : Cond.instanceMethod yX6_fetch ∈ zTB := zch_5 _ (List.mem_of_getElem? (i := 181) (by decide +kernel)) rfl
theorem w_734 : Cond.selects "BalloonsMoor$Past" yX6_fetch yX6_fetch ∈ zTB := zch_5 _ (List.mem_of_getElem? (i := 182) (by decide +kernel)) rfl
theorem kk_RX11_427 : zKV RX11 427 RX6 yX6_fetch cX6_fetch 3 none 2 := ⟨w_732, w_733, w_734, w_527, w_731, by decide +kernel, by decide⟩
theorem w_0 : Cond.constant "java/lang/Integer" 265 1431655765 ∈ zTB := zch_4 _ (List.mem_of_getElem? (i := 113) (by decide +kernel)) rfl
theorem w_1 : Cond.constant "java/lang/Integer" 266 858993459 ∈ zTB := zch_4 _ (List.mem_of_getElem? (i := 114) (by decide +kernel)) rfl
theorem w_2 : Cond.constant "java/lang/Integer" 267 252645135 ∈ zTB := zch_4 _ (List.mem_of_getElem? (i := 115) (by decide +kernel)) rfl
theorem w_3 : Cond.methodLink "BalloonsMoor$Berths" 48 ⟨"java/lang/System", "arraycopy", "(Ljava/lang/Object;ILjava/lang/Object;II)V"⟩ ∈ zTB := zch_4 _ (List.mem_of_getElem? (i := 204) (by decide +kernel)) rfl
theorem w_4 : Cond.native ⟨"java/lang/System", "arraycopy", "(Ljava/lang/Object;ILjava/lang/Object;II)V"⟩ ∈ zTB := zch_3 _ (List.mem_of_getElem? (i := 138) (by decide +kernel)) rfl
theorem w_5 : Cond.static ⟨"java/lang/System", "arraycopy", "(Ljava/lang/Object;ILjava/lang/Object;II)V"⟩ ∈ zTB := zch_3 _ (List.mem_of_getElem? (i := 137) (by decide +kernel)) rfl
theorem w_6 : Cond.initialized "java/lang/System" ∈ zTB := zch_1 _ (List.mem_of_getElem? (i := 20) (by decide +kernel)) rfl
theorem w_7 : Cond.fieldLink "BalloonsMoor$Rule" 78 "BalloonsMoor$Rule" "LETTERS" "[C" ∈ zTB := zch_3 _ (List.mem_of_getElem? (i := 126) (by decide +kernel)) rfl
theorem w_8 : Cond.methodLink "BalloonsMoor$Rule" 38 ⟨"java/lang/System", "arraycopy", "(Ljava/lang/Object;ILjava/lang/Object;II)V"⟩ ∈ zTB := zch_3 _ (List.mem_of_getElem? (i := 136) (by decide +kernel)) rfl
theorem w_9 : Cond.fieldLink "BalloonsMoor$Winds" 58 "BalloonsMoor$Winds" "SOUTH" "[I" ∈ zTB := zch_3 _ (List.mem_of_getElem? (i := 84) (by decide +kernel)) rfl
theorem w_10 : Cond.fieldLink "BalloonsMoor$Winds" 55 "BalloonsMoor$Winds" "EAST" "[I" ∈ zTB := zch_3 _ (List.mem_of_getElem? (i := 82) (by decide +kernel)) rfl
theorem w_11 : Cond.constantLong "BalloonsMoor" 406 (-1) ∈ zTB := zch_5 _ (List.mem_of_getElem? (i := 156) (by decide +kernel)) rfl
theorem w_12 : Cond.constant "BalloonsMoor" 418 1103515245 ∈ zTB := zch_5 _ (List.mem_of_getElem? (i := 164) (by decide +kernel)) rfl
theorem q_iconst_0 : Int32.ofInt 0 = (0 : Int32) := by decide
theorem q_iconst_1 : Int32.ofInt 1 = (1 : Int32) := by decide
theorem q_iconst_m1 : Int32.ofInt (-1) = (-1 : Int32) := by decide
theorem q_bipush_48 : (Int8.ofInt 48).toInt32 = (48 : Int32) := by decide
theorem q_bipush_9 : (Int8.ofInt 9).toInt32 = (9 : Int32) := by decide
theorem q_bipush_45 : (Int8.ofInt 45).toInt32 = (45 : Int32) := by decide
theorem q_bipush_43 : (Int8.ofInt 43).toInt32 = (43 : Int32) := by decide
theorem q_bipush_57 : (Int8.ofInt 57).toInt32 = (57 : Int32) := by decide
theorem q_bipush_10 : (Int8.ofInt 10).toInt32 = (10 : Int32) := by decide
theorem q_bipush_20 : (Int8.ofInt 20).toInt32 = (20 : Int32) := by decide
theorem q_bipush_59 : (Int8.ofInt 59).toInt32 = (59 : Int32) := by decide
theorem q_bipush_8 : (Int8.ofInt 8).toInt32 = (8 : Int32) := by decide
theorem q_iconst_5 : Int32.ofInt 5 = (5 : Int32) := by decide
theorem q_iconst_4 : Int32.ofInt 4 = (4 : Int32) := by decide
theorem q_iconst_2 : Int32.ofInt 2 = (2 : Int32) := by decide
theorem q_bipush_16 : (Int8.ofInt 16).toInt32 = (16 : Int32) := by decide
theorem q_bipush_63 : (Int8.ofInt 63).toInt32 = (63 : Int32) := by decide
theorem q_bipush_44 : (Int8.ofInt 44).toInt32 = (44 : Int32) := by decide
theorem q_bipush_6 : (Int8.ofInt 6).toInt32 = (6 : Int32) := by decide
theorem q_sipush_2000 : (Int16.ofInt 2000).toInt32 = (2000 : Int32) := by decide
theorem q_sipush_3000 : (Int16.ofInt 3000).toInt32 = (3000 : Int32) := by decide
theorem q_sipush_1000 : (Int16.ofInt 1000).toInt32 = (1000 : Int32) := by decide
theorem q_iconst_3 : Int32.ofInt 3 = (3 : Int32) := by decide
theorem q_bipush_24 : (Int8.ofInt 24).toInt32 = (24 : Int32) := by decide
theorem q_bipush_7 : (Int8.ofInt 7).toInt32 = (7 : Int32) := by decide
theorem q_bipush_19 : (Int8.ofInt 19).toInt32 = (19 : Int32) := by decide
theorem q_bipush_m9 : (Int8.ofInt (-9)).toInt32 = (-9 : Int32) := by decide
theorem q_iconst_7 : Int32.ofInt 7 = (7 : Int32) := by decide
theorem q_bipush_12 : (Int8.ofInt 12).toInt32 = (12 : Int32) := by decide
theorem q_bipush_15 : (Int8.ofInt 15).toInt32 = (15 : Int32) := by decide
theorem q_bipush_40 : (Int8.ofInt 40).toInt32 = (40 : Int32) := by decide
theorem q_bipush_60 : (Int8.ofInt 60).toInt32 = (60 : Int32) := by decide
theorem q_bipush_62 : (Int8.ofInt 62).toInt32 = (62 : Int32) := by decide
theorem q_bipush_61 : (Int8.ofInt 61).toInt32 = (61 : Int32) := by decide
theorem q_bipush_42 : (Int8.ofInt 42).toInt32 = (42 : Int32) := by decide
theorem q_bipush_47 : (Int8.ofInt 47).toInt32 = (47 : Int32) := by decide
theorem q_bipush_41 : (Int8.ofInt 41).toInt32 = (41 : Int32) := by decide
theorem q_bipush_80 : (Int8.ofInt 80).toInt32 = (80 : Int32) := by decide
theorem q_sipush_255 : (Int16.ofInt 255).toInt32 = (255 : Int32) := by decide
theorem q_iconst_m8 : Int32.ofInt (-8) = (-8 : Int32) := by decide
theorem q_bipush_23 : (Int8.ofInt 23).toInt32 = (23 : Int32) := by decide
theorem q_bipush_29 : (Int8.ofInt 29).toInt32 = (29 : Int32) := by decide
theorem q_bipush_99 : (Int8.ofInt 99).toInt32 = (99 : Int32) := by decide
theorem q_bipush_m3 : (Int8.ofInt (-3)).toInt32 = (-3 : Int32) := by decide
theorem q_bipush_m2 : (Int8.ofInt (-2)).toInt32 = (-2 : Int32) := by decide
theorem q_bipush_m5 : (Int8.ofInt (-5)).toInt32 = (-5 : Int32) := by decide
theorem q_bipush_m4 : (Int8.ofInt (-4)).toInt32 = (-4 : Int32) := by decide
theorem q_sipush_128 : (Int16.ofInt 128).toInt32 = (128 : Int32) := by decide
theorem q_bipush_18 : (Int8.ofInt 18).toInt32 = (18 : Int32) := by decide
theorem q_sipush_12345 : (Int16.ofInt 12345).toInt32 = (12345 : Int32) := by decide
theorem q_bipush_m100 : (Int8.ofInt (-100)).toInt32 = (-100 : Int32) := by decide
