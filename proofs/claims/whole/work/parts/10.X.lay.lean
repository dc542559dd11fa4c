def layX : List zY := [.inl (11, [.inl 1, .inl 3, .inl 10, .inl 16, .inl 20, .inl 32, .inl 44, .inl 48, .inl 50, .inl 58, .inl 62, .inl 66]), .inl (8, [.inl 2, .inr false, .inr false, .inr false]), .inr (.char, 80), .inl (9, [.inl 4, .inl 5, .inl 6, .inl 7, .inl 8, .inl 9, .inr false]), .inr (.int, 8), .inr (.int, 8), .inr (.int, 16), .inr (.int, 8), .inr (.int, 8), .inr (.int, 8), .inl (10, [.inl 11, .inl 12, .inl 13, .inl 14, .inl 15]), .inr (.int, 10), .inr (.int, 10), .inr (.int, 10), .inr (.int, 10), .inr (.int, 20), .inl (7, [.inl 17, .inl 18, .inl 19, .inr false, .inr false]), .inr (.int, 40), .inr (.int, 40), .inr (.int, 40), .inl (3, [.inl 3, .inl 10, .inl 16, .inl 21, .inl 22, .inl 23, .inl 24, .inl 25, .inl 26, .inl 27, .inl 28, .inl 29, .inl 30, .inl 31, .inr false, .inr false, .inr false, .inr false, .inr false]), .inr (.int, 8), .inr (.int, 8), .inr (.int, 6), .inr (.int, 6), .inr (.int, 6), .inr (.int, 6), .inr (.int, 6), .inr (.int, 6), .inr (.int, 6), .inr (.int, 6), .inr (.int, 6), .inl (3, [.inl 3, .inl 10, .inl 16, .inl 33, .inl 34, .inl 35, .inl 36, .inl 37, .inl 38, .inl 39, .inl 40, .inl 41, .inl 42, .inl 43, .inr false, .inr false, .inr false, .inr false, .inr false]), .inr (.int, 8), .inr (.int, 8), .inr (.int, 6), .inr (.int, 6), .inr (.int, 6), .inr (.int, 6), .inr (.int, 6), .inr (.int, 6), .inr (.int, 6), .inr (.int, 6), .inr (.int, 6), .inl (6, [.inl 45, .inl 46, .inl 47, .inr false, .inr false]), .inr (.int, 688), .inr (.int, 129), .inr (.boolean, 3), .inl (1, [.inl 49, .inr false]), .inr (.long, 8), .inl (5, [.inl 51, .inl 52, .inl 53, .inl 54, .inl 55, .inl 56, .inl 57, .inr false, .inr false, .inr false, .inr false]), .inr (.int, 12), .inr (.int, 12), .inr (.int, 12), .inr (.int, 8), .inr (.int, 8), .inr (.int, 8), .inr (.int, 8), .inl (0, [.inl 59, .inl 60, .inl 61, .inr false]), .inr (.int, 20), .inr (.int, 20), .inr (.int, 20), .inl (2, [.inl 3, .inl 20, .inl 63, .inl 64, .inl 65, .inr false, .inr false]), .inr (.int, 6), .inr (.int, 6), .inr (.int, 6), .inl (4, [.inl 20, .inl 10, .inl 67, .inl 68, .inl 69, .inl 70, .inr false, .inr false, .inr false, .inr false, .inr false, .inr false]), .inr (.int, 70), .inr (.boolean, 70), .inr (.long, 420), .inr (.int, 7)]
theorem lX_0 : layX[0]? = some (.inl (11, [.inl 1, .inl 3, .inl 10, .inl 16, .inl 20, .inl 32, .inl 44, .inl 48, .inl 50, .inl 58, .inl 62, .inl 66])) := rfl
theorem lX_1 : layX[1]? = some (.inl (8, [.inl 2, .inr false, .inr false, .inr false])) := rfl
theorem lX_2 : layX[2]? = some (.inr (.char, 80)) := rfl
theorem lX_3 : layX[3]? = some (.inl (9, [.inl 4, .inl 5, .inl 6, .inl 7, .inl 8, .inl 9, .inr false])) := rfl
theorem lX_4 : layX[4]? = some (.inr (.int, 8)) := rfl
theorem lX_5 : layX[5]? = some (.inr (.int, 8)) := rfl
theorem lX_6 : layX[6]? = some (.inr (.int, 16)) := rfl
theorem lX_7 : layX[7]? = some (.inr (.int, 8)) := rfl
theorem lX_8 : layX[8]? = some (.inr (.int, 8)) := rfl
theorem lX_9 : layX[9]? = some (.inr (.int, 8)) := rfl
theorem lX_10 : layX[10]? = some (.inl (10, [.inl 11, .inl 12, .inl 13, .inl 14, .inl 15])) := rfl
theorem lX_11 : layX[11]? = some (.inr (.int, 10)) := rfl
theorem lX_12 : layX[12]? = some (.inr (.int, 10)) := rfl
theorem lX_13 : layX[13]? = some (.inr (.int, 10)) := rfl
theorem lX_14 : layX[14]? = some (.inr (.int, 10)) := rfl
theorem lX_15 : layX[15]? = some (.inr (.int, 20)) := rfl
theorem lX_16 : layX[16]? = some (.inl (7, [.inl 17, .inl 18, .inl 19, .inr false, .inr false])) := rfl
theorem lX_17 : layX[17]? = some (.inr (.int, 40)) := rfl
theorem lX_18 : layX[18]? = some (.inr (.int, 40)) := rfl
theorem lX_19 : layX[19]? = some (.inr (.int, 40)) := rfl
theorem lX_20 : layX[20]? = some (.inl (3, [.inl 3, .inl 10, .inl 16, .inl 21, .inl 22, .inl 23, .inl 24, .inl 25, .inl 26, .inl 27, .inl 28, .inl 29, .inl 30, .inl 31, .inr false, .inr false, .inr false, .inr false, .inr false])) := rfl
theorem lX_21 : layX[21]? = some (.inr (.int, 8)) := rfl
theorem lX_22 : layX[22]? = some (.inr (.int, 8)) := rfl
theorem lX_23 : layX[23]? = some (.inr (.int, 6)) := rfl
theorem lX_24 : layX[24]? = some (.inr (.int, 6)) := rfl
theorem lX_25 : layX[25]? = some (.inr (.int, 6)) := rfl
theorem lX_26 : layX[26]? = some (.inr (.int, 6)) := rfl
theorem lX_27 : layX[27]? = some (.inr (.int, 6)) := rfl
theorem lX_28 : layX[28]? = some (.inr (.int, 6)) := rfl
theorem lX_29 : layX[29]? = some (.inr (.int, 6)) := rfl
theorem lX_30 : layX[30]? = some (.inr (.int, 6)) := rfl
theorem lX_31 : layX[31]? = some (.inr (.int, 6)) := rfl
theorem lX_32 : layX[32]? = some (.inl (3, [.inl 3, .inl 10, .inl 16, .inl 33, .inl 34, .inl 35, .inl 36, .inl 37, .inl 38, .inl 39, .inl 40, .inl 41, .inl 42, .inl 43, .inr false, .inr false, .inr false, .inr false, .inr false])) := rfl
theorem lX_33 : layX[33]? = some (.inr (.int, 8)) := rfl
theorem lX_34 : layX[34]? = some (.inr (.int, 8)) := rfl
theorem lX_35 : layX[35]? = some (.inr (.int, 6)) := rfl
theorem lX_36 : layX[36]? = some (.inr (.int, 6)) := rfl
theorem lX_37 : layX[37]? = some (.inr (.int, 6)) := rfl
theorem lX_38 : layX[38]? = some (.inr (.int, 6)) := rfl
theorem lX_39 : layX[39]? = some (.inr (.int, 6)) := rfl
theorem lX_40 : layX[40]? = some (.inr (.int, 6)) := rfl
theorem lX_41 : layX[41]? = some (.inr (.int, 6)) := rfl
theorem lX_42 : layX[42]? = some (.inr (.int, 6)) := rfl
theorem lX_43 : layX[43]? = some (.inr (.int, 6)) := rfl
theorem lX_44 : layX[44]? = some (.inl (6, [.inl 45, .inl 46, .inl 47, .inr false, .inr false])) := rfl
theorem lX_45 : layX[45]? = some (.inr (.int, 688)) := rfl
theorem lX_46 : layX[46]? = some (.inr (.int, 129)) := rfl
theorem lX_47 : layX[47]? = some (.inr (.boolean, 3)) := rfl
theorem lX_48 : layX[48]? = some (.inl (1, [.inl 49, .inr false])) := rfl
theorem lX_49 : layX[49]? = some (.inr (.long, 8)) := rfl
theorem lX_50 : layX[50]? = some (.inl (5, [.inl 51, .inl 52, .inl 53, .inl 54, .inl 55, .inl 56, .inl 57, .inr false, .inr false, .inr false, .inr false])) := rfl
theorem lX_51 : layX[51]? = some (.inr (.int, 12)) := rfl
theorem lX_52 : layX[52]? = some (.inr (.int, 12)) := rfl
theorem lX_53 : layX[53]? = some (.inr (.int, 12)) := rfl
theorem lX_54 : layX[54]? = some (.inr (.int, 8)) := rfl
theorem lX_55 : layX[55]? = some (.inr (.int, 8)) := rfl
theorem lX_56 : layX[56]? = some (.inr (.int, 8)) := rfl
theorem lX_57 : layX[57]? = some (.inr (.int, 8)) := rfl
theorem lX_58 : layX[58]? = some (.inl (0, [.inl 59, .inl 60, .inl 61, .inr false])) := rfl
theorem lX_59 : layX[59]? = some (.inr (.int, 20)) := rfl
theorem lX_60 : layX[60]? = some (.inr (.int, 20)) := rfl
theorem lX_61 : layX[61]? = some (.inr (.int, 20)) := rfl
theorem lX_62 : layX[62]? = some (.inl (2, [.inl 3, .inl 20, .inl 63, .inl 64, .inl 65, .inr false, .inr false])) := rfl
theorem lX_63 : layX[63]? = some (.inr (.int, 6)) := rfl
theorem lX_64 : layX[64]? = some (.inr (.int, 6)) := rfl
theorem lX_65 : layX[65]? = some (.inr (.int, 6)) := rfl
theorem lX_66 : layX[66]? = some (.inl (4, [.inl 20, .inl 10, .inl 67, .inl 68, .inl 69, .inl 70, .inr false, .inr false, .inr false, .inr false, .inr false, .inr false])) := rfl
theorem lX_67 : layX[67]? = some (.inr (.int, 70)) := rfl
theorem lX_68 : layX[68]? = some (.inr (.boolean, 70)) := rfl
theorem lX_69 : layX[69]? = some (.inr (.long, 420)) := rfl
theorem lX_70 : layX[70]? = some (.inr (.int, 7)) := rfl
def zfk (b : Nat) : Prop := layX[b]? = some (.inl (3, [.inl 3, .inl 10, .inl 16, .inl (b + 1), .inl (b + 2), .inl (b + 3), .inl (b + 4), .inl (b + 5), .inl (b + 6), .inl (b + 7), .inl (b + 8), .inl (b + 9), .inl (b + 10), .inl (b + 11), .inr false, .inr false, .inr false, .inr false, .inr false])) ∧ layX[b + 1]? = some (.inr (.int, 8)) ∧ layX[b + 2]? = some (.inr (.int, 8)) ∧ layX[b + 3]? = some (.inr (.int, 6)) ∧ layX[b + 4]? = some (.inr (.int, 6)) ∧ layX[b + 5]? = some (.inr (.int, 6)) ∧ layX[b + 6]? = some (.inr (.int, 6)) ∧ layX[b + 7]? = some (.inr (.int, 6)) ∧ layX[b + 8]? = some (.inr (.int, 6)) ∧ layX[b + 9]? = some (.inr (.int, 6)) ∧ layX[b + 10]? = some (.inr (.int, 6)) ∧ layX[b + 11]? = some (.inr (.int, 6))
theorem zfk_20 : zfk 20 := ⟨rfl, rfl, rfl, rfl, rfl, rfl, rfl, rfl, rfl, rfl, rfl, rfl⟩
theorem zfk_32 : zfk 32 := ⟨rfl, rfl, rfl, rfl, rfl, rfl, rfl, rfl, rfl, rfl, rfl, rfl⟩
def tEAST : List Int32 := [0, 1, 1, 1, 0, -1, -1, -1]
def tSOUTH : List Int32 := [-1, -1, 0, 1, 1, 1, 0, -1]
def tLETTERS : List Int32 := [103, 115, 99, 108, 111, 114, 104, 98]
def xtX (ad tt : Nat → Nat) (U : State) : Prop := va_Z "BalloonsMoor$Winds" "EAST" "[I" (.ref (tt 0)) (zA layX.length ad) U U.heap ∧ va_T .int (tt 0) tEAST.length (fun j => .int (tEAST.getD j 0)) (zA layX.length ad) U U.heap ∧ va_Z "BalloonsMoor$Winds" "SOUTH" "[I" (.ref (tt 1)) (zA layX.length ad) U U.heap ∧ va_T .int (tt 1) tSOUTH.length (fun j => .int (tSOUTH.getD j 0)) (zA layX.length ad) U U.heap ∧ va_Z "BalloonsMoor$Rule" "LETTERS" "[C" (.ref (tt 2)) (zA layX.length ad) U U.heap ∧ va_T .char (tt 2) tLETTERS.length (fun j => .int (tLETTERS.getD j 0)) (zA layX.length ad) U U.heap ∧ va_Nw (.methodLinkNest RX3 148 yX11_highBy "BalloonsMoor") U ∧ va_Nw (.methodLinkNest RX3 159 yX11_isOver "BalloonsMoor") U ∧ va_Nw (.methodLinkNest RX4 90 yX11_isOver "BalloonsMoor") U ∧ va_Nw (.methodLinkNest RX4 105 yX11_highBy "BalloonsMoor") U ∧ xthr (zA layX.length ad) U
theorem xZ_0 {ad tt : Nat → Nat} (U : State) (h : xtX ad tt U) : va_Z "BalloonsMoor$Winds" "EAST" "[I" (.ref (tt 0)) (zA layX.length ad) U U.heap := h.1
theorem xT_0 {ad tt : Nat → Nat} (U : State) (h : xtX ad tt U) : va_T .int (tt 0) tEAST.length (fun j => .int (tEAST.getD j 0)) (zA layX.length ad) U U.heap := h.2.1
theorem xZ_1 {ad tt : Nat → Nat} (U : State) (h : xtX ad tt U) : va_Z "BalloonsMoor$Winds" "SOUTH" "[I" (.ref (tt 1)) (zA layX.length ad) U U.heap := h.2.2.1
theorem xT_1 {ad tt : Nat → Nat} (U : State) (h : xtX ad tt U) : va_T .int (tt 1) tSOUTH.length (fun j => .int (tSOUTH.getD j 0)) (zA layX.length ad) U U.heap := h.2.2.2.1
theorem xZ_2 {ad tt : Nat → Nat} (U : State) (h : xtX ad tt U) : va_Z "BalloonsMoor$Rule" "LETTERS" "[C" (.ref (tt 2)) (zA layX.length ad) U U.heap := h.2.2.2.2.1
theorem xT_2 {ad tt : Nat → Nat} (U : State) (h : xtX ad tt U) : va_T .char (tt 2) tLETTERS.length (fun j => .int (tLETTERS.getD j 0)) (zA layX.length ad) U U.heap := h.2.2.2.2.2.1
theorem xN_RX3_148 {ad tt : Nat → Nat} (U : State) (h : xtX ad tt U) : va_Nw (.methodLinkNest RX3 148 yX11_highBy "BalloonsMoor") U := h.2.2.2.2.2.2.1
theorem xN_RX3_159 {ad tt : Nat → Nat} (U : State) (h : xtX ad tt U) : va_Nw (.methodLinkNest RX3 159 yX11_isOver "BalloonsMoor") U := h.2.2.2.2.2.2.2.1
theorem xN_RX4_90 {ad tt : Nat → Nat} (U : State) (h : xtX ad tt U) : va_Nw (.methodLinkNest RX4 90 yX11_isOver "BalloonsMoor") U := h.2.2.2.2.2.2.2.2.1
theorem xN_RX4_105 {ad tt : Nat → Nat} (U : State) (h : xtX ad tt U) : va_Nw (.methodLinkNest RX4 105 yX11_highBy "BalloonsMoor") U := h.2.2.2.2.2.2.2.2.2.1
theorem xThr {ad tt : Nat → Nat} (U : State) (h : xtX ad tt U) : xthr (zA layX.length ad) U := h.2.2.2.2.2.2.2.2.2.2
