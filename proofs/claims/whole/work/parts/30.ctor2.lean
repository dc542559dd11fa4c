def nrm (f mc ms : Nat) : Room := { frames := f, cells := mc, slots := ms, locals := 40 * f }
section NC
variable {p : Program} {l : Launch} {e : Env} {R : Room} {s : State} {m : MethodId} {args : Array Value} {below : List Frame} {meth : Method} {c : Code} {H H0 : Heap} {locs : List Loc} {cells slots : Nat} {Q : State → Prop} {D : va_G} {ca : FieldType → ClassId} {A : Nat → Prop} {ws : va_W} {cc : ByteArray} {pc : Nat} {ls : Array Slot} {rest : List Value}
theorem n_newi (hexec : p.tables.exec = Jvm.exec) (hb : c.code = cc) (harr : (Cond.arrayClass .int).before args s = true) (hK : va_K D vwCl (zT ca) s) (hP : va_P D vwCl ws H) (hD : va_D A ws) (hS : va_S A H0 H locs) (hA : ∀ q, H0.size ≤ q → A q) {n : Int32} {N : Nat} (hn : ¬ n < 0) (hN : n.toNatClampNeg = N) (hbytes : N * componentBytes .int ≤ 536870912) (hcells : cells + 1 ≤ R.cells) (hslots : slots + N ≤ R.slots) (hdg : decode cc pc = .ok (.newarray .int, 2))
    (kk : ∀ (q : Nat) (H1 : Heap), va_P D vwCl (ws ++ [(q, .inl (ca .int, N, .inl (fun _ => 0)))]) H1 → va_D A (ws ++ [(q, .inl (ca .int, N, .inl (fun _ => 0)))]) → va_S A H0 H1 locs → W p l e R s m args below meth c H1 locs (cells + 1) (slots + N) Q (F0 m (pc + 2) ls (.ref q :: rest))) : W p l e R s m args below meth c H locs cells slots Q (F0 m pc ls (.int n :: rest)) := by
  refine va_newa (atype := .int) (ty := .int) (a0 := (N, .inl (fun _ => 0))) hexec hb harr rfl hK hP hD hS hA (fun _ => rfl) hn hN hbytes hcells hslots hdg (fun q cA H1 hK1 hP1 hD1 hS1 => ?_)
  have e1 : cA = ca .int := Option.some.inj (((hK1.2 4 (cA, .int) rfl).2 : s.vm.findClass _ = some cA).symm.trans ((hK.2 0 (ca .int, .int) rfl).2 : s.vm.findClass _ = some (ca .int)))
  subst e1
  exact kk q H1 hP1 hD1 hS1
theorem n_newc (hexec : p.tables.exec = Jvm.exec) (hb : c.code = cc) (harr : (Cond.arrayClass .char).before args s = true) (hK : va_K D vwCl (zT ca) s) (hP : va_P D vwCl ws H) (hD : va_D A ws) (hS : va_S A H0 H locs) (hA : ∀ q, H0.size ≤ q → A q) {n : Int32} {N : Nat} (hn : ¬ n < 0) (hN : n.toNatClampNeg = N) (hbytes : N * componentBytes .char ≤ 536870912) (hcells : cells + 1 ≤ R.cells) (hslots : slots + N ≤ R.slots) (hdg : decode cc pc = .ok (.newarray .char, 2))
    (kk : ∀ (q : Nat) (H1 : Heap), va_P D vwCl (ws ++ [(q, .inl (ca .char, N, .inl (fun _ => 0)))]) H1 → va_D A (ws ++ [(q, .inl (ca .char, N, .inl (fun _ => 0)))]) → va_S A H0 H1 locs → W p l e R s m args below meth c H1 locs (cells + 1) (slots + N) Q (F0 m (pc + 2) ls (.ref q :: rest))) : W p l e R s m args below meth c H locs cells slots Q (F0 m pc ls (.int n :: rest)) := by
  refine va_newa (atype := .char) (ty := .char) (a0 := (N, .inl (fun _ => 0))) hexec hb harr rfl hK hP hD hS hA (fun _ => rfl) hn hN hbytes hcells hslots hdg (fun q cA H1 hK1 hP1 hD1 hS1 => ?_)
  have e1 : cA = ca .char := Option.some.inj (((hK1.2 4 (cA, .char) rfl).2 : s.vm.findClass _ = some cA).symm.trans ((hK.2 1 (ca .char, .char) rfl).2 : s.vm.findClass _ = some (ca .char)))
  subst e1
  exact kk q H1 hP1 hD1 hS1
theorem n_newz (hexec : p.tables.exec = Jvm.exec) (hb : c.code = cc) (harr : (Cond.arrayClass .boolean).before args s = true) (hK : va_K D vwCl (zT ca) s) (hP : va_P D vwCl ws H) (hD : va_D A ws) (hS : va_S A H0 H locs) (hA : ∀ q, H0.size ≤ q → A q) {n : Int32} {N : Nat} (hn : ¬ n < 0) (hN : n.toNatClampNeg = N) (hbytes : N * componentBytes .boolean ≤ 536870912) (hcells : cells + 1 ≤ R.cells) (hslots : slots + N ≤ R.slots) (hdg : decode cc pc = .ok (.newarray .boolean, 2))
    (kk : ∀ (q : Nat) (H1 : Heap), va_P D vwCl (ws ++ [(q, .inl (ca .boolean, N, .inl (fun _ => 0)))]) H1 → va_D A (ws ++ [(q, .inl (ca .boolean, N, .inl (fun _ => 0)))]) → va_S A H0 H1 locs → W p l e R s m args below meth c H1 locs (cells + 1) (slots + N) Q (F0 m (pc + 2) ls (.ref q :: rest))) : W p l e R s m args below meth c H locs cells slots Q (F0 m pc ls (.int n :: rest)) := by
  refine va_newa (atype := .boolean) (ty := .boolean) (a0 := (N, .inl (fun _ => 0))) hexec hb harr rfl hK hP hD hS hA (fun _ => rfl) hn hN hbytes hcells hslots hdg (fun q cA H1 hK1 hP1 hD1 hS1 => ?_)
  have e1 : cA = ca .boolean := Option.some.inj (((hK1.2 4 (cA, .boolean) rfl).2 : s.vm.findClass _ = some cA).symm.trans ((hK.2 2 (ca .boolean, .boolean) rfl).2 : s.vm.findClass _ = some (ca .boolean)))
  subst e1
  exact kk q H1 hP1 hD1 hS1
theorem n_newl (hexec : p.tables.exec = Jvm.exec) (hb : c.code = cc) (harr : (Cond.arrayClass .long).before args s = true) (hK : va_K D vwCl (zT ca) s) (hP : va_P D vwCl ws H) (hD : va_D A ws) (hS : va_S A H0 H locs) (hA : ∀ q, H0.size ≤ q → A q) {n : Int32} {N : Nat} (hn : ¬ n < 0) (hN : n.toNatClampNeg = N) (hbytes : N * componentBytes .long ≤ 536870912) (hcells : cells + 1 ≤ R.cells) (hslots : slots + N ≤ R.slots) (hdg : decode cc pc = .ok (.newarray .long, 2))
    (kk : ∀ (q : Nat) (H1 : Heap), va_P D vwCl (ws ++ [(q, .inl (ca .long, N, .inr (.inl (fun _ => 0))))]) H1 → va_D A (ws ++ [(q, .inl (ca .long, N, .inr (.inl (fun _ => 0))))]) → va_S A H0 H1 locs → W p l e R s m args below meth c H1 locs (cells + 1) (slots + N) Q (F0 m (pc + 2) ls (.ref q :: rest))) : W p l e R s m args below meth c H locs cells slots Q (F0 m pc ls (.int n :: rest)) := by
  refine va_newa (atype := .long) (ty := .long) (a0 := (N, .inr (.inl (fun _ => 0)))) hexec hb harr rfl hK hP hD hS hA (fun _ => rfl) hn hN hbytes hcells hslots hdg (fun q cA H1 hK1 hP1 hD1 hS1 => ?_)
  have e1 : cA = ca .long := Option.some.inj (((hK1.2 4 (cA, .long) rfl).2 : s.vm.findClass _ = some cA).symm.trans ((hK.2 3 (ca .long, .long) rfl).2 : s.vm.findClass _ = some (ca .long)))
  subst e1
  exact kk q H1 hP1 hD1 hS1
end NC
theorem wn_oi : Cond.instanceMethod objectInit ∈ zTB := zch_1 _ (List.mem_of_getElem? (i := 32) (by decide +kernel)) rfl
theorem wn_oc : Cond.code objectInit ⟨#[0xb1]⟩ 1 none ∈ zTB := zch_1 _ (List.mem_of_getElem? (i := 33) (by decide +kernel)) rfl
theorem wn_a_int : Cond.arrayClass .int ∈ zTB := zch_1 _ (List.mem_of_getElem? (i := 87) (by decide +kernel)) rfl
theorem wn_a_char : Cond.arrayClass .char ∈ zTB := zch_1 _ (List.mem_of_getElem? (i := 54) (by decide +kernel)) rfl
theorem wn_a_boolean : Cond.arrayClass .boolean ∈ zTB := zch_2 _ (List.mem_of_getElem? (i := 10) (by decide +kernel)) rfl
theorem wn_a_long : Cond.arrayClass .long ∈ zTB := zch_2 _ (List.mem_of_getElem? (i := 26) (by decide +kernel)) rfl
theorem wn_l0_kind : Cond.laysFinal RX0 "BalloonsMoor$Acts" "kind" "[I" ∈ zTB := zch_2 _ (List.mem_of_getElem? (i := 86) (by decide +kernel)) rfl
theorem wn_l0_first : Cond.laysFinal RX0 "BalloonsMoor$Acts" "first" "[I" ∈ zTB := zch_2 _ (List.mem_of_getElem? (i := 88) (by decide +kernel)) rfl
theorem wn_l0_second : Cond.laysFinal RX0 "BalloonsMoor$Acts" "second" "[I" ∈ zTB := zch_2 _ (List.mem_of_getElem? (i := 90) (by decide +kernel)) rfl
theorem wn_l0_size : Cond.lays RX0 "BalloonsMoor$Acts" "size" "I" ∈ zTB := zch_2 _ (List.mem_of_getElem? (i := 92) (by decide +kernel)) rfl
theorem inN_0 : ∀ w ∈ u_ws RX0 TX0 4, w ∈ zTB := zcons wn_l0_kind (zcons wn_l0_first (zcons wn_l0_second (zcons wn_l0_size (znil))))
theorem wn_l1_numbers : Cond.laysFinal RX1 "BalloonsMoor$Answers" "numbers" "[J" ∈ zTB := zch_2 _ (List.mem_of_getElem? (i := 21) (by decide +kernel)) rfl
theorem wn_l1_size : Cond.lays RX1 "BalloonsMoor$Answers" "size" "I" ∈ zTB := zch_2 _ (List.mem_of_getElem? (i := 23) (by decide +kernel)) rfl
theorem inN_1 : ∀ w ∈ u_ws RX1 TX1 2, w ∈ zTB := zcons wn_l1_numbers (zcons wn_l1_size (znil))
theorem wn_l2_rings : Cond.laysFinal RX2 "BalloonsMoor$Berths" "rings" "LBalloonsMoor$Tower;" ∈ zTB := zch_2 _ (List.mem_of_getElem? (i := 110) (by decide +kernel)) rfl
theorem wn_l2_flock : Cond.laysFinal RX2 "BalloonsMoor$Berths" "flock" "LBalloonsMoor$Flock;" ∈ zTB := zch_2 _ (List.mem_of_getElem? (i := 112) (by decide +kernel)) rfl
theorem wn_l2_weight : Cond.laysFinal RX2 "BalloonsMoor$Berths" "weight" "[I" ∈ zTB := zch_2 _ (List.mem_of_getElem? (i := 114) (by decide +kernel)) rfl
theorem wn_l2_place : Cond.laysFinal RX2 "BalloonsMoor$Berths" "place" "[I" ∈ zTB := zch_2 _ (List.mem_of_getElem? (i := 116) (by decide +kernel)) rfl
theorem wn_l2_least : Cond.laysFinal RX2 "BalloonsMoor$Berths" "least" "[I" ∈ zTB := zch_2 _ (List.mem_of_getElem? (i := 118) (by decide +kernel)) rfl
theorem wn_l2_found : Cond.lays RX2 "BalloonsMoor$Berths" "found" "Z" ∈ zTB := zch_2 _ (List.mem_of_getElem? (i := 120) (by decide +kernel)) rfl
theorem wn_l2_size : Cond.lays RX2 "BalloonsMoor$Berths" "size" "I" ∈ zTB := zch_2 _ (List.mem_of_getElem? (i := 122) (by decide +kernel)) rfl
theorem inN_2 : ∀ w ∈ u_ws RX2 TX2 7, w ∈ zTB := zcons wn_l2_rings (zcons wn_l2_flock (zcons wn_l2_weight (zcons wn_l2_place (zcons wn_l2_least (zcons wn_l2_found (zcons wn_l2_size (znil)))))))
theorem wn_l3_rings : Cond.laysFinal RX3 "BalloonsMoor$Flock" "rings" "LBalloonsMoor$Tower;" ∈ zTB := zch_1 _ (List.mem_of_getElem? (i := 187) (by decide +kernel)) rfl
theorem wn_l3_air : Cond.laysFinal RX3 "BalloonsMoor$Flock" "air" "LBalloonsMoor$Winds;" ∈ zTB := zch_1 _ (List.mem_of_getElem? (i := 189) (by decide +kernel)) rfl
theorem wn_l3_lifting : Cond.laysFinal RX3 "BalloonsMoor$Flock" "lifting" "LBalloonsMoor$Rule;" ∈ zTB := zch_1 _ (List.mem_of_getElem? (i := 191) (by decide +kernel)) rfl
theorem wn_l3_facts : Cond.laysFinal RX3 "BalloonsMoor$Flock" "facts" "[I" ∈ zTB := zch_1 _ (List.mem_of_getElem? (i := 193) (by decide +kernel)) rfl
theorem wn_l3_foreseen : Cond.laysFinal RX3 "BalloonsMoor$Flock" "foreseen" "[I" ∈ zTB := zch_1 _ (List.mem_of_getElem? (i := 195) (by decide +kernel)) rfl
theorem wn_l3_gas : Cond.laysFinal RX3 "BalloonsMoor$Flock" "gas" "[I" ∈ zTB := zch_1 _ (List.mem_of_getElem? (i := 197) (by decide +kernel)) rfl
theorem wn_l3_sacks : Cond.laysFinal RX3 "BalloonsMoor$Flock" "sacks" "[I" ∈ zTB := zch_1 _ (List.mem_of_getElem? (i := 199) (by decide +kernel)) rfl
theorem wn_l3_cargo : Cond.laysFinal RX3 "BalloonsMoor$Flock" "cargo" "[I" ∈ zTB := zch_1 _ (List.mem_of_getElem? (i := 201) (by decide +kernel)) rfl
theorem wn_l3_rope : Cond.laysFinal RX3 "BalloonsMoor$Flock" "rope" "[I" ∈ zTB := zch_1 _ (List.mem_of_getElem? (i := 203) (by decide +kernel)) rfl
theorem wn_l3_leak : Cond.laysFinal RX3 "BalloonsMoor$Flock" "leak" "[I" ∈ zTB := zch_1 _ (List.mem_of_getElem? (i := 205) (by decide +kernel)) rfl
theorem wn_l3_where : Cond.laysFinal RX3 "BalloonsMoor$Flock" "where" "[I" ∈ zTB := zch_1 _ (List.mem_of_getElem? (i := 207) (by decide +kernel)) rfl
theorem wn_l3_ring : Cond.laysFinal RX3 "BalloonsMoor$Flock" "ring" "[I" ∈ zTB := zch_1 _ (List.mem_of_getElem? (i := 209) (by decide +kernel)) rfl
theorem wn_l3_x : Cond.laysFinal RX3 "BalloonsMoor$Flock" "x" "[I" ∈ zTB := zch_1 _ (List.mem_of_getElem? (i := 211) (by decide +kernel)) rfl
theorem wn_l3_y : Cond.laysFinal RX3 "BalloonsMoor$Flock" "y" "[I" ∈ zTB := zch_1 _ (List.mem_of_getElem? (i := 213) (by decide +kernel)) rfl
theorem wn_l3_size : Cond.lays RX3 "BalloonsMoor$Flock" "size" "I" ∈ zTB := zch_1 _ (List.mem_of_getElem? (i := 215) (by decide +kernel)) rfl
theorem wn_l3_now : Cond.lays RX3 "BalloonsMoor$Flock" "now" "I" ∈ zTB := zch_1 _ (List.mem_of_getElem? (i := 217) (by decide +kernel)) rfl
theorem wn_l3_rain : Cond.lays RX3 "BalloonsMoor$Flock" "rain" "I" ∈ zTB := zch_1 _ (List.mem_of_getElem? (i := 219) (by decide +kernel)) rfl
theorem wn_l3_cameDown : Cond.lays RX3 "BalloonsMoor$Flock" "cameDown" "I" ∈ zTB := zch_1 _ (List.mem_of_getElem? (i := 221) (by decide +kernel)) rfl
theorem wn_l3_wentLost : Cond.lays RX3 "BalloonsMoor$Flock" "wentLost" "I" ∈ zTB := zch_1 _ (List.mem_of_getElem? (i := 223) (by decide +kernel)) rfl
theorem inN_3 : ∀ w ∈ u_ws RX3 TX3 19, w ∈ zTB := zcons wn_l3_rings (zcons wn_l3_air (zcons wn_l3_lifting (zcons wn_l3_facts (zcons wn_l3_foreseen (zcons wn_l3_gas (zcons wn_l3_sacks (zcons wn_l3_cargo (zcons wn_l3_rope (zcons wn_l3_leak (zcons wn_l3_where (zcons wn_l3_ring (zcons wn_l3_x (zcons wn_l3_y (zcons wn_l3_size (zcons wn_l3_now (zcons wn_l3_rain (zcons wn_l3_cameDown (zcons wn_l3_wentLost (znil)))))))))))))))))))
theorem wn_l4_flock : Cond.laysFinal RX4 "BalloonsMoor$Landing" "flock" "LBalloonsMoor$Flock;" ∈ zTB := zch_2 _ (List.mem_of_getElem? (i := 146) (by decide +kernel)) rfl
theorem wn_l4_air : Cond.laysFinal RX4 "BalloonsMoor$Landing" "air" "LBalloonsMoor$Winds;" ∈ zTB := zch_2 _ (List.mem_of_getElem? (i := 148) (by decide +kernel)) rfl
theorem wn_l4_lift : Cond.laysFinal RX4 "BalloonsMoor$Landing" "lift" "[I" ∈ zTB := zch_2 _ (List.mem_of_getElem? (i := 150) (by decide +kernel)) rfl
theorem wn_l4_isNear : Cond.laysFinal RX4 "BalloonsMoor$Landing" "isNear" "[Z" ∈ zTB := zch_2 _ (List.mem_of_getElem? (i := 152) (by decide +kernel)) rfl
theorem wn_l4_seen : Cond.laysFinal RX4 "BalloonsMoor$Landing" "seen" "[J" ∈ zTB := zch_2 _ (List.mem_of_getElem? (i := 154) (by decide +kernel)) rfl
theorem wn_l4_drops : Cond.laysFinal RX4 "BalloonsMoor$Landing" "drops" "[I" ∈ zTB := zch_2 _ (List.mem_of_getElem? (i := 156) (by decide +kernel)) rfl
theorem wn_l4_balloon : Cond.lays RX4 "BalloonsMoor$Landing" "balloon" "I" ∈ zTB := zch_2 _ (List.mem_of_getElem? (i := 158) (by decide +kernel)) rfl
theorem wn_l4_within : Cond.lays RX4 "BalloonsMoor$Landing" "within" "I" ∈ zTB := zch_2 _ (List.mem_of_getElem? (i := 160) (by decide +kernel)) rfl
theorem wn_l4_most : Cond.lays RX4 "BalloonsMoor$Landing" "most" "I" ∈ zTB := zch_2 _ (List.mem_of_getElem? (i := 162) (by decide +kernel)) rfl
theorem wn_l4_rope : Cond.lays RX4 "BalloonsMoor$Landing" "rope" "I" ∈ zTB := zch_2 _ (List.mem_of_getElem? (i := 164) (by decide +kernel)) rfl
theorem wn_l4_sacks : Cond.lays RX4 "BalloonsMoor$Landing" "sacks" "I" ∈ zTB := zch_2 _ (List.mem_of_getElem? (i := 166) (by decide +kernel)) rfl
theorem wn_l4_hours : Cond.lays RX4 "BalloonsMoor$Landing" "hours" "I" ∈ zTB := zch_2 _ (List.mem_of_getElem? (i := 168) (by decide +kernel)) rfl
theorem inN_4 : ∀ w ∈ u_ws RX4 TX4 12, w ∈ zTB := zcons wn_l4_flock (zcons wn_l4_air (zcons wn_l4_lift (zcons wn_l4_isNear (zcons wn_l4_seen (zcons wn_l4_drops (zcons wn_l4_balloon (zcons wn_l4_within (zcons wn_l4_most (zcons wn_l4_rope (zcons wn_l4_sacks (zcons wn_l4_hours (znil))))))))))))
theorem wn_l5_ring : Cond.laysFinal RX5 "BalloonsMoor$Marks" "ring" "[I" ∈ zTB := zch_2 _ (List.mem_of_getElem? (i := 49) (by decide +kernel)) rfl
theorem wn_l5_what : Cond.laysFinal RX5 "BalloonsMoor$Marks" "what" "[I" ∈ zTB := zch_2 _ (List.mem_of_getElem? (i := 51) (by decide +kernel)) rfl
theorem wn_l5_value : Cond.laysFinal RX5 "BalloonsMoor$Marks" "value" "[I" ∈ zTB := zch_2 _ (List.mem_of_getElem? (i := 53) (by decide +kernel)) rfl
theorem wn_l5_seenRing : Cond.laysFinal RX5 "BalloonsMoor$Marks" "seenRing" "[I" ∈ zTB := zch_2 _ (List.mem_of_getElem? (i := 55) (by decide +kernel)) rfl
theorem wn_l5_fits : Cond.laysFinal RX5 "BalloonsMoor$Marks" "fits" "[I" ∈ zTB := zch_2 _ (List.mem_of_getElem? (i := 57) (by decide +kernel)) rfl
theorem wn_l5_who : Cond.laysFinal RX5 "BalloonsMoor$Marks" "who" "[I" ∈ zTB := zch_2 _ (List.mem_of_getElem? (i := 59) (by decide +kernel)) rfl
theorem wn_l5_least : Cond.laysFinal RX5 "BalloonsMoor$Marks" "least" "[I" ∈ zTB := zch_2 _ (List.mem_of_getElem? (i := 61) (by decide +kernel)) rfl
theorem wn_l5_size : Cond.lays RX5 "BalloonsMoor$Marks" "size" "I" ∈ zTB := zch_2 _ (List.mem_of_getElem? (i := 63) (by decide +kernel)) rfl
theorem wn_l5_seen : Cond.lays RX5 "BalloonsMoor$Marks" "seen" "I" ∈ zTB := zch_2 _ (List.mem_of_getElem? (i := 65) (by decide +kernel)) rfl
theorem wn_l5_same : Cond.lays RX5 "BalloonsMoor$Marks" "same" "I" ∈ zTB := zch_2 _ (List.mem_of_getElem? (i := 67) (by decide +kernel)) rfl
theorem wn_l5_found : Cond.lays RX5 "BalloonsMoor$Marks" "found" "I" ∈ zTB := zch_2 _ (List.mem_of_getElem? (i := 69) (by decide +kernel)) rfl
theorem inN_5 : ∀ w ∈ u_ws RX5 TX5 11, w ∈ zTB := zcons wn_l5_ring (zcons wn_l5_what (zcons wn_l5_value (zcons wn_l5_seenRing (zcons wn_l5_fits (zcons wn_l5_who (zcons wn_l5_least (zcons wn_l5_size (zcons wn_l5_seen (zcons wn_l5_same (zcons wn_l5_found (znil)))))))))))
theorem wn_l6_ahead : Cond.laysFinal RX6 "BalloonsMoor$Past" "ahead" "[I" ∈ zTB := zch_1 _ (List.mem_of_getElem? (i := 239) (by decide +kernel)) rfl
theorem wn_l6_stored : Cond.laysFinal RX6 "BalloonsMoor$Past" "stored" "[I" ∈ zTB := zch_2 _ (List.mem_of_getElem? (i := 1) (by decide +kernel)) rfl
theorem wn_l6_isStored : Cond.laysFinal RX6 "BalloonsMoor$Past" "isStored" "[Z" ∈ zTB := zch_2 _ (List.mem_of_getElem? (i := 3) (by decide +kernel)) rfl
theorem wn_l6_slot : Cond.lays RX6 "BalloonsMoor$Past" "slot" "I" ∈ zTB := zch_2 _ (List.mem_of_getElem? (i := 5) (by decide +kernel)) rfl
theorem wn_l6_size : Cond.lays RX6 "BalloonsMoor$Past" "size" "I" ∈ zTB := zch_2 _ (List.mem_of_getElem? (i := 7) (by decide +kernel)) rfl
theorem inN_6 : ∀ w ∈ u_ws RX6 TX6 5, w ∈ zTB := zcons wn_l6_ahead (zcons wn_l6_stored (zcons wn_l6_isStored (zcons wn_l6_slot (zcons wn_l6_size (znil)))))
theorem wn_l7_steps : Cond.laysFinal RX7 "BalloonsMoor$Rule" "steps" "[I" ∈ zTB := zch_1 _ (List.mem_of_getElem? (i := 130) (by decide +kernel)) rfl
theorem wn_l7_draft : Cond.laysFinal RX7 "BalloonsMoor$Rule" "draft" "[I" ∈ zTB := zch_1 _ (List.mem_of_getElem? (i := 132) (by decide +kernel)) rfl
theorem wn_l7_stack : Cond.laysFinal RX7 "BalloonsMoor$Rule" "stack" "[I" ∈ zTB := zch_1 _ (List.mem_of_getElem? (i := 134) (by decide +kernel)) rfl
theorem wn_l7_size : Cond.lays RX7 "BalloonsMoor$Rule" "size" "I" ∈ zTB := zch_1 _ (List.mem_of_getElem? (i := 136) (by decide +kernel)) rfl
theorem wn_l7_drafted : Cond.lays RX7 "BalloonsMoor$Rule" "drafted" "I" ∈ zTB := zch_1 _ (List.mem_of_getElem? (i := 138) (by decide +kernel)) rfl
theorem inN_7 : ∀ w ∈ u_ws RX7 TX7 5, w ∈ zTB := zcons wn_l7_steps (zcons wn_l7_draft (zcons wn_l7_stack (zcons wn_l7_size (zcons wn_l7_drafted (znil)))))
theorem wn_l8_signs : Cond.laysFinal RX8 "BalloonsMoor$Told" "signs" "[C" ∈ zTB := zch_1 _ (List.mem_of_getElem? (i := 45) (by decide +kernel)) rfl
theorem wn_l8_stop : Cond.lays RX8 "BalloonsMoor$Told" "stop" "I" ∈ zTB := zch_1 _ (List.mem_of_getElem? (i := 47) (by decide +kernel)) rfl
theorem wn_l8_at : Cond.lays RX8 "BalloonsMoor$Told" "at" "I" ∈ zTB := zch_1 _ (List.mem_of_getElem? (i := 49) (by decide +kernel)) rfl
theorem wn_l8_size : Cond.lays RX8 "BalloonsMoor$Told" "size" "I" ∈ zTB := zch_1 _ (List.mem_of_getElem? (i := 51) (by decide +kernel)) rfl
theorem inN_8 : ∀ w ∈ u_ws RX8 TX8 4, w ∈ zTB := zcons wn_l8_signs (zcons wn_l8_stop (zcons wn_l8_at (zcons wn_l8_size (znil))))
theorem wn_l9_height : Cond.laysFinal RX9 "BalloonsMoor$Tower" "height" "[I" ∈ zTB := zch_1 _ (List.mem_of_getElem? (i := 72) (by decide +kernel)) rfl
theorem wn_l9_side : Cond.laysFinal RX9 "BalloonsMoor$Tower" "side" "[I" ∈ zTB := zch_1 _ (List.mem_of_getElem? (i := 74) (by decide +kernel)) rfl
theorem wn_l9_draft : Cond.laysFinal RX9 "BalloonsMoor$Tower" "draft" "[I" ∈ zTB := zch_1 _ (List.mem_of_getElem? (i := 76) (by decide +kernel)) rfl
theorem wn_l9_near : Cond.laysFinal RX9 "BalloonsMoor$Tower" "near" "[I" ∈ zTB := zch_1 _ (List.mem_of_getElem? (i := 78) (by decide +kernel)) rfl
theorem wn_l9_lower : Cond.laysFinal RX9 "BalloonsMoor$Tower" "lower" "[I" ∈ zTB := zch_1 _ (List.mem_of_getElem? (i := 80) (by decide +kernel)) rfl
theorem wn_l9_higher : Cond.laysFinal RX9 "BalloonsMoor$Tower" "higher" "[I" ∈ zTB := zch_1 _ (List.mem_of_getElem? (i := 82) (by decide +kernel)) rfl
theorem wn_l9_size : Cond.lays RX9 "BalloonsMoor$Tower" "size" "I" ∈ zTB := zch_1 _ (List.mem_of_getElem? (i := 84) (by decide +kernel)) rfl
theorem inN_9 : ∀ w ∈ u_ws RX9 TX9 7, w ∈ zTB := zcons wn_l9_height (zcons wn_l9_side (zcons wn_l9_draft (zcons wn_l9_near (zcons wn_l9_lower (zcons wn_l9_higher (zcons wn_l9_size (znil)))))))
theorem wn_l10_whither : Cond.laysFinal RX10 "BalloonsMoor$Winds" "whither" "[I" ∈ zTB := zch_1 _ (List.mem_of_getElem? (i := 108) (by decide +kernel)) rfl
theorem wn_l10_strong : Cond.laysFinal RX10 "BalloonsMoor$Winds" "strong" "[I" ∈ zTB := zch_1 _ (List.mem_of_getElem? (i := 110) (by decide +kernel)) rfl
theorem wn_l10_east : Cond.laysFinal RX10 "BalloonsMoor$Winds" "east" "[I" ∈ zTB := zch_1 _ (List.mem_of_getElem? (i := 112) (by decide +kernel)) rfl
theorem wn_l10_south : Cond.laysFinal RX10 "BalloonsMoor$Winds" "south" "[I" ∈ zTB := zch_1 _ (List.mem_of_getElem? (i := 114) (by decide +kernel)) rfl
theorem wn_l10_draft : Cond.laysFinal RX10 "BalloonsMoor$Winds" "draft" "[I" ∈ zTB := zch_1 _ (List.mem_of_getElem? (i := 116) (by decide +kernel)) rfl
theorem inN_10 : ∀ w ∈ u_ws RX10 TX10 5, w ∈ zTB := zcons wn_l10_whither (zcons wn_l10_strong (zcons wn_l10_east (zcons wn_l10_south (zcons wn_l10_draft (znil)))))
theorem wn_l11_told : Cond.laysFinal RX11 "BalloonsMoor" "told" "LBalloonsMoor$Told;" ∈ zTB := zch_2 _ (List.mem_of_getElem? (i := 183) (by decide +kernel)) rfl
theorem wn_l11_rings : Cond.laysFinal RX11 "BalloonsMoor" "rings" "LBalloonsMoor$Tower;" ∈ zTB := zch_2 _ (List.mem_of_getElem? (i := 185) (by decide +kernel)) rfl
theorem wn_l11_air : Cond.laysFinal RX11 "BalloonsMoor" "air" "LBalloonsMoor$Winds;" ∈ zTB := zch_2 _ (List.mem_of_getElem? (i := 187) (by decide +kernel)) rfl
theorem wn_l11_lifting : Cond.laysFinal RX11 "BalloonsMoor" "lifting" "LBalloonsMoor$Rule;" ∈ zTB := zch_2 _ (List.mem_of_getElem? (i := 189) (by decide +kernel)) rfl
theorem wn_l11_flock : Cond.laysFinal RX11 "BalloonsMoor" "flock" "LBalloonsMoor$Flock;" ∈ zTB := zch_2 _ (List.mem_of_getElem? (i := 191) (by decide +kernel)) rfl
theorem wn_l11_dream : Cond.laysFinal RX11 "BalloonsMoor" "dream" "LBalloonsMoor$Flock;" ∈ zTB := zch_2 _ (List.mem_of_getElem? (i := 193) (by decide +kernel)) rfl
theorem wn_l11_past : Cond.laysFinal RX11 "BalloonsMoor" "past" "LBalloonsMoor$Past;" ∈ zTB := zch_2 _ (List.mem_of_getElem? (i := 195) (by decide +kernel)) rfl
theorem wn_l11_answers : Cond.laysFinal RX11 "BalloonsMoor" "answers" "LBalloonsMoor$Answers;" ∈ zTB := zch_2 _ (List.mem_of_getElem? (i := 197) (by decide +kernel)) rfl
theorem wn_l11_marks : Cond.laysFinal RX11 "BalloonsMoor" "marks" "LBalloonsMoor$Marks;" ∈ zTB := zch_2 _ (List.mem_of_getElem? (i := 199) (by decide +kernel)) rfl
theorem wn_l11_acts : Cond.laysFinal RX11 "BalloonsMoor" "acts" "LBalloonsMoor$Acts;" ∈ zTB := zch_2 _ (List.mem_of_getElem? (i := 201) (by decide +kernel)) rfl
theorem wn_l11_berthing : Cond.laysFinal RX11 "BalloonsMoor" "berthing" "LBalloonsMoor$Berths;" ∈ zTB := zch_2 _ (List.mem_of_getElem? (i := 203) (by decide +kernel)) rfl
theorem wn_l11_landing : Cond.laysFinal RX11 "BalloonsMoor" "landing" "LBalloonsMoor$Landing;" ∈ zTB := zch_2 _ (List.mem_of_getElem? (i := 205) (by decide +kernel)) rfl
theorem inN_11 : ∀ w ∈ u_ws RX11 TX11 12, w ∈ zTB := zcons wn_l11_told (zcons wn_l11_rings (zcons wn_l11_air (zcons wn_l11_lifting (zcons wn_l11_flock (zcons wn_l11_dream (zcons wn_l11_past (zcons wn_l11_answers (zcons wn_l11_marks (zcons wn_l11_acts (zcons wn_l11_berthing (zcons wn_l11_landing (znil))))))))))))
theorem wn_l12_thrown : Cond.lays RX12 "BalloonsMoorModel" "thrown" "I" ∈ zTB := zch_6 _ (List.mem_of_getElem? (i := 107) (by decide +kernel)) rfl
theorem wn_l12_rows : Cond.lays RX12 "BalloonsMoorModel" "rows" "I" ∈ zTB := zch_6 _ (List.mem_of_getElem? (i := 109) (by decide +kernel)) rfl
theorem wn_l12_row : Cond.laysFinal RX12 "BalloonsMoorModel" "row" "[J" ∈ zTB := zch_6 _ (List.mem_of_getElem? (i := 111) (by decide +kernel)) rfl
theorem wn_l12_rings : Cond.lays RX12 "BalloonsMoorModel" "rings" "I" ∈ zTB := zch_6 _ (List.mem_of_getElem? (i := 113) (by decide +kernel)) rfl
theorem wn_l12_balloons : Cond.lays RX12 "BalloonsMoorModel" "balloons" "I" ∈ zTB := zch_6 _ (List.mem_of_getElem? (i := 115) (by decide +kernel)) rfl
theorem wn_l12_changes : Cond.lays RX12 "BalloonsMoorModel" "changes" "I" ∈ zTB := zch_6 _ (List.mem_of_getElem? (i := 117) (by decide +kernel)) rfl
theorem wn_l12_rain : Cond.lays RX12 "BalloonsMoorModel" "rain" "I" ∈ zTB := zch_6 _ (List.mem_of_getElem? (i := 119) (by decide +kernel)) rfl
theorem wn_l12_height : Cond.laysFinal RX12 "BalloonsMoorModel" "height" "[I" ∈ zTB := zch_6 _ (List.mem_of_getElem? (i := 121) (by decide +kernel)) rfl
theorem wn_l12_side : Cond.laysFinal RX12 "BalloonsMoorModel" "side" "[I" ∈ zTB := zch_6 _ (List.mem_of_getElem? (i := 123) (by decide +kernel)) rfl
theorem wn_l12_rope : Cond.laysFinal RX12 "BalloonsMoorModel" "rope" "[I" ∈ zTB := zch_6 _ (List.mem_of_getElem? (i := 125) (by decide +kernel)) rfl
theorem wn_l12_leak : Cond.laysFinal RX12 "BalloonsMoorModel" "leak" "[I" ∈ zTB := zch_6 _ (List.mem_of_getElem? (i := 127) (by decide +kernel)) rfl
theorem wn_l12_whither : Cond.laysFinal RX12 "BalloonsMoorModel" "whither" "[I" ∈ zTB := zch_6 _ (List.mem_of_getElem? (i := 129) (by decide +kernel)) rfl
theorem wn_l12_strong : Cond.laysFinal RX12 "BalloonsMoorModel" "strong" "[I" ∈ zTB := zch_6 _ (List.mem_of_getElem? (i := 131) (by decide +kernel)) rfl
theorem wn_l12_now : Cond.laysFinal RX12 "BalloonsMoorModel" "now" "[I" ∈ zTB := zch_6 _ (List.mem_of_getElem? (i := 133) (by decide +kernel)) rfl
theorem wn_l12_then : Cond.laysFinal RX12 "BalloonsMoorModel" "then" "[I" ∈ zTB := zch_6 _ (List.mem_of_getElem? (i := 135) (by decide +kernel)) rfl
theorem wn_l12_tape : Cond.laysFinal RX12 "BalloonsMoorModel" "tape" "[I" ∈ zTB := zch_6 _ (List.mem_of_getElem? (i := 137) (by decide +kernel)) rfl
theorem wn_l12_taped : Cond.lays RX12 "BalloonsMoorModel" "taped" "I" ∈ zTB := zch_6 _ (List.mem_of_getElem? (i := 139) (by decide +kernel)) rfl
theorem wn_l12_at : Cond.lays RX12 "BalloonsMoorModel" "at" "I" ∈ zTB := zch_6 _ (List.mem_of_getElem? (i := 141) (by decide +kernel)) rfl
theorem wn_l12_to : Cond.lays RX12 "BalloonsMoorModel" "to" "I" ∈ zTB := zch_6 _ (List.mem_of_getElem? (i := 143) (by decide +kernel)) rfl
theorem wn_l12_nest : Cond.lays RX12 "BalloonsMoorModel" "nest" "I" ∈ zTB := zch_6 _ (List.mem_of_getElem? (i := 145) (by decide +kernel)) rfl
theorem wn_l12_read : Cond.laysFinal RX12 "BalloonsMoorModel" "read" "[I" ∈ zTB := zch_6 _ (List.mem_of_getElem? (i := 147) (by decide +kernel)) rfl
theorem wn_l12_readMany : Cond.lays RX12 "BalloonsMoorModel" "readMany" "I" ∈ zTB := zch_6 _ (List.mem_of_getElem? (i := 149) (by decide +kernel)) rfl
theorem wn_l12_code : Cond.laysFinal RX12 "BalloonsMoorModel" "code" "[I" ∈ zTB := zch_6 _ (List.mem_of_getElem? (i := 151) (by decide +kernel)) rfl
theorem wn_l12_readCode : Cond.laysFinal RX12 "BalloonsMoorModel" "readCode" "[I" ∈ zTB := zch_6 _ (List.mem_of_getElem? (i := 153) (by decide +kernel)) rfl
theorem wn_l12_codeLong : Cond.lays RX12 "BalloonsMoorModel" "codeLong" "I" ∈ zTB := zch_6 _ (List.mem_of_getElem? (i := 155) (by decide +kernel)) rfl
theorem wn_l12_readLong : Cond.lays RX12 "BalloonsMoorModel" "readLong" "I" ∈ zTB := zch_6 _ (List.mem_of_getElem? (i := 157) (by decide +kernel)) rfl
theorem wn_l12_stack : Cond.laysFinal RX12 "BalloonsMoorModel" "stack" "[I" ∈ zTB := zch_6 _ (List.mem_of_getElem? (i := 159) (by decide +kernel)) rfl
theorem wn_l12_asked : Cond.laysFinal RX12 "BalloonsMoorModel" "asked" "[I" ∈ zTB := zch_6 _ (List.mem_of_getElem? (i := 161) (by decide +kernel)) rfl
theorem wn_l12_undos : Cond.lays RX12 "BalloonsMoorModel" "undos" "I" ∈ zTB := zch_6 _ (List.mem_of_getElem? (i := 163) (by decide +kernel)) rfl
theorem wn_l12_undone : Cond.laysFinal RX12 "BalloonsMoorModel" "undone" "[I" ∈ zTB := zch_6 _ (List.mem_of_getElem? (i := 165) (by decide +kernel)) rfl
theorem wn_l12_cameBits : Cond.lays RX12 "BalloonsMoorModel" "cameBits" "I" ∈ zTB := zch_6 _ (List.mem_of_getElem? (i := 167) (by decide +kernel)) rfl
theorem wn_l12_lostBits : Cond.lays RX12 "BalloonsMoorModel" "lostBits" "I" ∈ zTB := zch_6 _ (List.mem_of_getElem? (i := 169) (by decide +kernel)) rfl
theorem wn_l12_cameMany : Cond.lays RX12 "BalloonsMoorModel" "cameMany" "I" ∈ zTB := zch_6 _ (List.mem_of_getElem? (i := 171) (by decide +kernel)) rfl
theorem wn_l12_lostMany : Cond.lays RX12 "BalloonsMoorModel" "lostMany" "I" ∈ zTB := zch_6 _ (List.mem_of_getElem? (i := 173) (by decide +kernel)) rfl
theorem wn_l12_torn : Cond.laysFinal RX12 "BalloonsMoorModel" "torn" "[I" ∈ zTB := zch_6 _ (List.mem_of_getElem? (i := 175) (by decide +kernel)) rfl
theorem wn_l12_actSign : Cond.laysFinal RX12 "BalloonsMoorModel" "actSign" "[I" ∈ zTB := zch_6 _ (List.mem_of_getElem? (i := 177) (by decide +kernel)) rfl
theorem wn_l12_actOne : Cond.laysFinal RX12 "BalloonsMoorModel" "actOne" "[I" ∈ zTB := zch_6 _ (List.mem_of_getElem? (i := 179) (by decide +kernel)) rfl
theorem wn_l12_actTwo : Cond.laysFinal RX12 "BalloonsMoorModel" "actTwo" "[I" ∈ zTB := zch_6 _ (List.mem_of_getElem? (i := 181) (by decide +kernel)) rfl
theorem wn_l12_acts : Cond.lays RX12 "BalloonsMoorModel" "acts" "I" ∈ zTB := zch_6 _ (List.mem_of_getElem? (i := 183) (by decide +kernel)) rfl
theorem wn_l12_berth : Cond.laysFinal RX12 "BalloonsMoorModel" "berth" "[I" ∈ zTB := zch_6 _ (List.mem_of_getElem? (i := 185) (by decide +kernel)) rfl
theorem wn_l12_firstBerth : Cond.laysFinal RX12 "BalloonsMoorModel" "firstBerth" "[I" ∈ zTB := zch_6 _ (List.mem_of_getElem? (i := 187) (by decide +kernel)) rfl
theorem wn_l12_berthMany : Cond.lays RX12 "BalloonsMoorModel" "berthMany" "I" ∈ zTB := zch_6 _ (List.mem_of_getElem? (i := 189) (by decide +kernel)) rfl
theorem wn_l12_stages : Cond.laysFinal RX12 "BalloonsMoorModel" "stages" "[I" ∈ zTB := zch_6 _ (List.mem_of_getElem? (i := 191) (by decide +kernel)) rfl
theorem wn_l12_alone : Cond.laysFinal RX12 "BalloonsMoorModel" "alone" "[I" ∈ zTB := zch_6 _ (List.mem_of_getElem? (i := 193) (by decide +kernel)) rfl
theorem wn_l12_dropped : Cond.laysFinal RX12 "BalloonsMoorModel" "dropped" "[I" ∈ zTB := zch_6 _ (List.mem_of_getElem? (i := 195) (by decide +kernel)) rfl
theorem wn_l12_landSacks : Cond.lays RX12 "BalloonsMoorModel" "landSacks" "I" ∈ zTB := zch_6 _ (List.mem_of_getElem? (i := 197) (by decide +kernel)) rfl
theorem wn_l12_landHours : Cond.lays RX12 "BalloonsMoorModel" "landHours" "I" ∈ zTB := zch_6 _ (List.mem_of_getElem? (i := 199) (by decide +kernel)) rfl
theorem wn_l12_order : Cond.laysFinal RX12 "BalloonsMoorModel" "order" "[I" ∈ zTB := zch_6 _ (List.mem_of_getElem? (i := 201) (by decide +kernel)) rfl
theorem wn_l12_bestOrder : Cond.laysFinal RX12 "BalloonsMoorModel" "bestOrder" "[I" ∈ zTB := zch_6 _ (List.mem_of_getElem? (i := 203) (by decide +kernel)) rfl
theorem wn_l12_bestMany : Cond.lays RX12 "BalloonsMoorModel" "bestMany" "I" ∈ zTB := zch_6 _ (List.mem_of_getElem? (i := 205) (by decide +kernel)) rfl
theorem wn_l12_marks : Cond.lays RX12 "BalloonsMoorModel" "marks" "I" ∈ zTB := zch_6 _ (List.mem_of_getElem? (i := 207) (by decide +kernel)) rfl
theorem wn_l12_markRing : Cond.laysFinal RX12 "BalloonsMoorModel" "markRing" "[I" ∈ zTB := zch_6 _ (List.mem_of_getElem? (i := 209) (by decide +kernel)) rfl
theorem wn_l12_markWhat : Cond.laysFinal RX12 "BalloonsMoorModel" "markWhat" "[I" ∈ zTB := zch_6 _ (List.mem_of_getElem? (i := 211) (by decide +kernel)) rfl
theorem wn_l12_markOf : Cond.laysFinal RX12 "BalloonsMoorModel" "markOf" "[I" ∈ zTB := zch_6 _ (List.mem_of_getElem? (i := 213) (by decide +kernel)) rfl
theorem wn_l12_wayMany : Cond.lays RX12 "BalloonsMoorModel" "wayMany" "I" ∈ zTB := zch_6 _ (List.mem_of_getElem? (i := 215) (by decide +kernel)) rfl
theorem wn_l12_lain : Cond.laysFinal RX12 "BalloonsMoorModel" "lain" "[I" ∈ zTB := zch_6 _ (List.mem_of_getElem? (i := 217) (by decide +kernel)) rfl
theorem wn_l12_firstLain : Cond.laysFinal RX12 "BalloonsMoorModel" "firstLain" "[I" ∈ zTB := zch_6 _ (List.mem_of_getElem? (i := 219) (by decide +kernel)) rfl
theorem wn_l12_sameBits : Cond.lays RX12 "BalloonsMoorModel" "sameBits" "I" ∈ zTB := zch_6 _ (List.mem_of_getElem? (i := 221) (by decide +kernel)) rfl
theorem wn_l12_up : Cond.lays RX12 "BalloonsMoorModel" "up" "J" ∈ zTB := zch_6 _ (List.mem_of_getElem? (i := 223) (by decide +kernel)) rfl
theorem wn_l12_down : Cond.lays RX12 "BalloonsMoorModel" "down" "J" ∈ zTB := zch_6 _ (List.mem_of_getElem? (i := 225) (by decide +kernel)) rfl
theorem wn_l12_isKept : Cond.laysFinal RX12 "BalloonsMoorModel" "isKept" "[Z" ∈ zTB := zch_6 _ (List.mem_of_getElem? (i := 227) (by decide +kernel)) rfl
theorem wn_l12_keptChanges : Cond.laysFinal RX12 "BalloonsMoorModel" "keptChanges" "[I" ∈ zTB := zch_6 _ (List.mem_of_getElem? (i := 229) (by decide +kernel)) rfl
theorem wn_l12_kept : Cond.laysFinal RX12 "BalloonsMoorModel" "kept" "[I" ∈ zTB := zch_6 _ (List.mem_of_getElem? (i := 231) (by decide +kernel)) rfl
theorem inN_12 : ∀ w ∈ u_ws RX12 TX12 63, w ∈ zTB := zcons wn_l12_thrown (zcons wn_l12_rows (zcons wn_l12_row (zcons wn_l12_rings (zcons wn_l12_balloons (zcons wn_l12_changes (zcons wn_l12_rain (zcons wn_l12_height (zcons wn_l12_side (zcons wn_l12_rope (zcons wn_l12_leak (zcons wn_l12_whither (zcons wn_l12_strong (zcons wn_l12_now (zcons wn_l12_then (zcons wn_l12_tape (zcons wn_l12_taped (zcons wn_l12_at (zcons wn_l12_to (zcons wn_l12_nest (zcons wn_l12_read (zcons wn_l12_readMany (zcons wn_l12_code (zcons wn_l12_readCode (zcons wn_l12_codeLong (zcons wn_l12_readLong (zcons wn_l12_stack (zcons wn_l12_asked (zcons wn_l12_undos (zcons wn_l12_undone (zcons wn_l12_cameBits (zcons wn_l12_lostBits (zcons wn_l12_cameMany (zcons wn_l12_lostMany (zcons wn_l12_torn (zcons wn_l12_actSign (zcons wn_l12_actOne (zcons wn_l12_actTwo (zcons wn_l12_acts (zcons wn_l12_berth (zcons wn_l12_firstBerth (zcons wn_l12_berthMany (zcons wn_l12_stages (zcons wn_l12_alone (zcons wn_l12_dropped (zcons wn_l12_landSacks (zcons wn_l12_landHours (zcons wn_l12_order (zcons wn_l12_bestOrder (zcons wn_l12_bestMany (zcons wn_l12_marks (zcons wn_l12_markRing (zcons wn_l12_markWhat (zcons wn_l12_markOf (zcons wn_l12_wayMany (zcons wn_l12_lain (zcons wn_l12_firstLain (zcons wn_l12_sameBits (zcons wn_l12_up (zcons wn_l12_down (zcons wn_l12_isKept (zcons wn_l12_keptChanges (zcons wn_l12_kept (znil)))))))))))))))))))))))))))))))))))))))))))))))))))))))))))))))
set_option maxRecDepth 10000 in
theorem nfs_0 : ∀ j, j < 4 → defaultValue (tyX0 j) = vp_V [.null, .null, .null, .int 0] j := by decide +kernel
set_option maxRecDepth 10000 in
theorem nfs_1 : ∀ j, j < 2 → defaultValue (tyX1 j) = vp_V [.null, .int 0] j := by decide +kernel
set_option maxRecDepth 10000 in
theorem nfs_2 : ∀ j, j < 7 → defaultValue (tyX2 j) = vp_V [.null, .null, .null, .null, .null, .int 0, .int 0] j := by decide +kernel
set_option maxRecDepth 10000 in
theorem nfs_3 : ∀ j, j < 19 → defaultValue (tyX3 j) = vp_V [.null, .null, .null, .null, .null, .null, .null, .null, .null, .null, .null, .null, .null, .null, .int 0, .int 0, .int 0, .int 0, .int 0] j := by decide +kernel
set_option maxRecDepth 10000 in
theorem nfs_4 : ∀ j, j < 12 → defaultValue (tyX4 j) = vp_V [.null, .null, .null, .null, .null, .null, .int 0, .int 0, .int 0, .int 0, .int 0, .int 0] j := by decide +kernel
set_option maxRecDepth 10000 in
theorem nfs_5 : ∀ j, j < 11 → defaultValue (tyX5 j) = vp_V [.null, .null, .null, .null, .null, .null, .null, .int 0, .int 0, .int 0, .int 0] j := by decide +kernel
set_option maxRecDepth 10000 in
theorem nfs_6 : ∀ j, j < 5 → defaultValue (tyX6 j) = vp_V [.null, .null, .null, .int 0, .int 0] j := by decide +kernel
set_option maxRecDepth 10000 in
theorem nfs_7 : ∀ j, j < 5 → defaultValue (tyX7 j) = vp_V [.null, .null, .null, .int 0, .int 0] j := by decide +kernel
set_option maxRecDepth 10000 in
theorem nfs_8 : ∀ j, j < 4 → defaultValue (tyX8 j) = vp_V [.null, .int 0, .int 0, .int 0] j := by decide +kernel
set_option maxRecDepth 10000 in
theorem nfs_9 : ∀ j, j < 7 → defaultValue (tyX9 j) = vp_V [.null, .null, .null, .null, .null, .null, .int 0] j := by decide +kernel
set_option maxRecDepth 10000 in
theorem nfs_10 : ∀ j, j < 5 → defaultValue (tyX10 j) = vp_V [.null, .null, .null, .null, .null] j := by decide +kernel
set_option maxRecDepth 10000 in
theorem nfs_11 : ∀ j, j < 12 → defaultValue (tyX11 j) = vp_V [.null, .null, .null, .null, .null, .null, .null, .null, .null, .null, .null, .null] j := by decide +kernel
set_option maxRecDepth 10000 in
theorem nfs_12 : ∀ j, j < 63 → defaultValue (tyX12 j) = vp_V [.int 0, .int 0, .null, .int 0, .int 0, .int 0, .int 0, .null, .null, .null, .null, .null, .null, .null, .null, .null, .int 0, .int 0, .int 0, .int 0, .null, .int 0, .null, .null, .int 0, .int 0, .null, .null, .int 0, .null, .int 0, .int 0, .int 0, .int 0, .null, .null, .null, .null, .int 0, .null, .null, .int 0, .null, .null, .null, .int 0, .int 0, .null, .null, .int 0, .int 0, .null, .null, .null, .int 0, .null, .null, .int 0, .long 0, .long 0, .null, .null, .null] j := by decide +kernel
theorem wn_fl : Cond.methodLink RX10 27 yJ7_fill_53178 ∈ zTB := zch_1 _ (List.mem_of_getElem? (i := 94) (by decide +kernel)) rfl
theorem wn_fs : Cond.static yJ7_fill_53178 ∈ zTB := zch_1 _ (List.mem_of_getElem? (i := 95) (by decide +kernel)) rfl
theorem wn_fi : Cond.initialized yJ7_fill_53178.cls ∈ zTB := zch_1 _ (List.mem_of_getElem? (i := 5) (by decide +kernel)) rfl
theorem wn_fc : Cond.code yJ7_fill_53178 cJ7_fill_53178 4 none ∈ zTB := zch_1 _ (List.mem_of_getElem? (i := 96) (by decide +kernel)) rfl
theorem dJ7_fill_53178_0 : decode cJ7_fill_53178 0 = .ok (.iconst 0, 1) := by decide +kernel
theorem dJ7_fill_53178_1 : decode cJ7_fill_53178 1 = .ok (.istore_n 2, 1) := by decide +kernel
theorem dJ7_fill_53178_2 : decode cJ7_fill_53178 2 = .ok (.aload_n 0, 1) := by decide +kernel
theorem dJ7_fill_53178_3 : decode cJ7_fill_53178 3 = .ok (.arraylength, 1) := by decide +kernel
theorem dJ7_fill_53178_4 : decode cJ7_fill_53178 4 = .ok (.istore_n 3, 1) := by decide +kernel
theorem dJ7_fill_53178_5 : decode cJ7_fill_53178 5 = .ok (.iload_n 2, 1) := by decide +kernel
theorem dJ7_fill_53178_6 : decode cJ7_fill_53178 6 = .ok (.iload_n 3, 1) := by decide +kernel
theorem dJ7_fill_53178_7 : decode cJ7_fill_53178 7 = .ok (.if_icmp .ge 13, 3) := by decide +kernel
theorem dJ7_fill_53178_10 : decode cJ7_fill_53178 10 = .ok (.aload_n 0, 1) := by decide +kernel
theorem dJ7_fill_53178_11 : decode cJ7_fill_53178 11 = .ok (.iload_n 2, 1) := by decide +kernel
theorem dJ7_fill_53178_12 : decode cJ7_fill_53178 12 = .ok (.iload_n 1, 1) := by decide +kernel
theorem dJ7_fill_53178_13 : decode cJ7_fill_53178 13 = .ok (.iastore, 1) := by decide +kernel
theorem dJ7_fill_53178_14 : decode cJ7_fill_53178 14 = .ok (.iinc 2 1, 3) := by decide +kernel
theorem dJ7_fill_53178_17 : decode cJ7_fill_53178 17 = .ok (.goto (-12), 3) := by decide +kernel
theorem dJ7_fill_53178_20 : decode cJ7_fill_53178 20 = .ok (.return_, 1) := by decide +kernel
noncomputable def p_J7_fill_53178_b5 (r : Nat) (n : Nat) (a2 : Int32) (rc3 : Int32 → zM Unit) (k2 : Unit → zM Unit) (v1 : Int32) : zM Unit := zle (Int32.ofNat n) v1 (k2 ()) (zas r n v1 a2 (rc3 (v1 + (1 : Int32))))
noncomputable def p_J7_fill_53178 (r n : Nat) (a2 : Int32) : zM Unit := zlp (p_J7_fill_53178_b5 r n a2) zNF ((0 : Int32)) (fun e4 => zret ())
set_option maxRecDepth 100000 in
set_option maxHeartbeats 4000000 in
theorem c_J7_fill_53178 {l : Launch} {ad : Nat → Nat} {ca : FieldType → ClassId} {D : va_G} {lay : List zY} {Xt : State → Prop} (r n : Nat) (hr0 : lay[r]? = some (.inr (.int, n))) (a2 : Int32) : zC l yJ7_fill_53178 cJ7_fill_53178 4 none 0 lay ad ca D Xt [.ref (ad r), .int a2] zvn (p_J7_fill_53178 r n a2) := by
  refine z_enter (by decide) (Nat.le_of_ble_eq_true rfl) (fun E hE hl0 hcD hr => ?_)
  have hE : zok lay ad Xt E cJ7_fill_53178 4 RJ7 0 := hE
  show Z lay ad E 4 (zFin lay ad E zvn) 0 [(0, .ref (ad r)), (1, .int a2)] [] (p_J7_fill_53178 r n a2)
  unfold p_J7_fill_53178
  refine z_iconst (pc := 0) hE dJ7_fill_53178_0 q_iconst_0 ?_
  refine z_istore_n (L' := [(2, .int ((0 : Int32))), (0, .ref (ad r)), (1, .int a2)]) (pc := 1) hE 2 rfl (by decide) rfl dJ7_fill_53178_1 ?_
  refine z_aload_n (pc := 2) hE 1 0 rfl rfl dJ7_fill_53178_2 ?_
  refine z_aleni (pc := 3) hE hr0 rfl dJ7_fill_53178_3 ?_
  refine z_istore_n (L' := [(3, .int (Int32.ofNat n)), (2, .int ((0 : Int32))), (0, .ref (ad r)), (1, .int a2)]) (pc := 4) hE 3 rfl (by decide) rfl dJ7_fill_53178_4 ?_
  refine z_sub (L' := [(0, .ref (ad r)), (1, .int a2), (2, .int ((0 : Int32))), (3, .int (Int32.ofNat n))]) [2, 3, 1, 0] rfl ?_
  refine z_loop (V := Int32) (X := Unit) (hd := 5) (ex := 20) (Lh := fun v1 => [(0, .ref (ad r)), (1, .int a2), (2, .int v1), (3, .int (Int32.ofNat n))]) (Lx := fun e4 => []) (fun rc3 k2 hrc3 hk2 v1 => ?_) zNF ((0 : Int32)) _ (fun e4 => ?_)
  · unfold p_J7_fill_53178_b5
    refine z_iload_n (pc := 5) hE 2 2 rfl rfl dJ7_fill_53178_5 ?_
    refine z_iload_n (pc := 6) hE 3 3 rfl rfl dJ7_fill_53178_6 ?_
    refine z_icmp_ge (pc := 7) hE 20 rfl dJ7_fill_53178_7 ?_ ?_
    · exact z_sub [] rfl (hk2 ())
    · refine z_aload_n (pc := 10) hE 0 0 rfl rfl dJ7_fill_53178_10 ?_
      refine z_iload_n (pc := 11) hE 2 2 rfl rfl dJ7_fill_53178_11 ?_
      refine z_iload_n (pc := 12) hE 1 1 rfl rfl dJ7_fill_53178_12 ?_
      refine z_iast (pc := 13) hE hr0 dJ7_fill_53178_13 ?_
      refine z_iinc (L' := [(2, .int (v1 + (1 : Int32))), (0, .ref (ad r)), (1, .int a2), (3, .int (Int32.ofNat n))]) (pc := 14) hE 2 rfl (zinc q_iconst_1) (by decide) rfl dJ7_fill_53178_14 ?_
      refine z_goto (pc := 17) hE 5 rfl dJ7_fill_53178_17 ?_
      exact z_sub [1, 2, 0, 3] rfl (hrc3 (v1 + (1 : Int32)))
  · exact z_return (pc := 20) hE hr dJ7_fill_53178_20

def nS0 : zS := (fun _ _ => 0, fun _ _ => 0)
def nfill : Nat → Int32 := fun j => if j < 10 then -1 else 0
def nfillAt (i : Nat) : Nat → Int32 := fun j => if j < i then -1 else 0
theorem nfill_run : p_J7_fill_53178 0 10 (-1) nS0 = some ((), zpr nS0 0 nfill) := by
  have h := zlp_iter (ρ := Unit) (V := Int32) (X := Unit) (body := p_J7_fill_53178_b5 0 10 (-1)) (k := fun _ => zret ()) (fun i => (nI i, zpr nS0 0 (nfillAt i))) 10 (some ((), zpr nS0 0 nfill)) (fun i hi rc => ?_) (fun rc => ?_) zNF (by have := zNF_ge; omega)
  · have e0 : zpr nS0 0 (nfillAt 0) = nS0 := by
      refine Prod.ext (funext fun a => funext fun j => ?_) rfl
      simp only [zpr, nS0, nfillAt]
      split <;> rfl
    simp only [e0, nI_0] at h
    exact h
  · simp only [p_J7_fill_53178_b5, zle]
    rw [if_neg (show ¬ Int32.ofNat 10 ≤ nI i from nI_ge hi (by decide))]
    simp only [zas]
    rw [if_neg (nI_in hi (by decide))]
    rw [nI_clamp (by omega), nI_1]
    congr 1
    simp only [zpi, zpr]
    refine Prod.ext (funext fun a => ?_) rfl
    by_cases ha : a = 0
    · simp only [ha, if_true]
      funext j
      simp only [upd, nfillAt]
      by_cases hj : j = i
      · simp [hj]
      · by_cases h2 : j < i
        · simp [hj, h2, show j < i + 1 by omega]
        · simp [hj, h2, show ¬ j < i + 1 by omega]
    · simp [ha]
  · simp only [p_J7_fill_53178_b5, zle]
    rw [if_pos (show Int32.ofNat 10 ≤ nI 10 by decide)]
    rfl
section NF
variable {p : Program} {l : Launch} {e : Env} {R : Room} {s : State} {m : MethodId} {args : Array Value} {below : List Frame} {meth : Method} {c : Code} {H H0 : Heap} {locs : List Loc} {cells slots : Nat} {Q : State → Prop} {D : va_G} {ca : FieldType → ClassId} {A : Nat → Prop} {pc nL : Nat} {ls : Array Slot} {rest : List Value}
abbrev nW (ca : FieldType → ClassId) (q : Nat) (f : Nat → Int32) : va_W := [(q, .inl (ca .int, 10, .inl f))]
theorem n_fill {q : Nat} {cc : ByteArray} (hx : p.tables.exec = Jvm.exec) (hb : c.code = cc) (hml : c.maxLocals = nL) (hown : s.vm.findClass RX10 = some m.cls) (hts : ∀ w ∈ zTB, w.before args s = true) (hK : va_K D vwCl (zT ca) s) (hPc : va_P D vwCl (nW ca q (fun _ => 0)) H) (hDc : va_D A (nW ca q (fun _ => 0))) (hS : va_S A H0 H locs) (hFc : ∀ x, va_A (nW ca q (fun _ => 0)) H.size x → A x) (hroom : 2 * (F0 m pc ls (.int (-1) :: .ref q :: rest)).monitorRoom + (rest.map fun v => v.category).sum ≤ 8) (hsize : ls.size = nL) (hd : decode cc pc = .ok (.invokestatic 27, 3)) (hfr : 1 ≤ R.frames) (hlo : 23 ≤ R.locals) (hcs : cells ≤ R.cells ∧ slots ≤ R.slots)
    (kk : ∀ (H1 : Heap) (locs1 : List Loc), va_P D vwCl (nW ca q nfill) H1 → va_D (va_A (nW ca q (fun _ => 0)) H.size) (nW ca q nfill) → (∀ x : Nat, x < H.size → ¬ va_A (nW ca q (fun _ => 0)) H.size x → H1[x]? = H[x]?) → va_S A H0 H1 locs1 → W p l e R s m args below meth c H1 locs1 cells slots Q (F0 m (pc + 3) ls rest)) :
    W p l e R s m args below meth c H locs cells slots Q (F0 m pc ls (.int (-1) :: .ref q :: rest)) := by
  have hC := c_J7_fill_53178 (l := l) (ad := fun _ => q) (ca := ca) (D := D) (lay := [.inr (.int, 10)]) (Xt := fun _ => True) 0 10 rfl (-1) nS0 () _ nfill_run
  have hst : zStab (zA 1 (fun _ => q)) (fun _ => True) := fun _ _ _ _ _ _ => trivial
  have hDz : va_D (zA 1 (fun _ => q)) (zW [.inr (.int, 10)] (fun _ => q) ca nS0) := ⟨hDc.1, fun k x hk => by
    obtain ⟨h1, h2⟩ := zW_some hk
    exact ⟨k, h1, h2⟩⟩
  have hG : GoodIn zTB (va_wsS RX10 27 yJ7_fill_53178 (zws yJ7_fill_53178 cJ7_fill_53178 4 none)) := zgoodIn (fun w hw => by
    simp only [va_wsS, zws, List.cons_append, List.nil_append, List.mem_cons] at hw
    rcases hw with rfl | rfl | rfl | rfl | hw
    · exact wn_fl
    · exact wn_fs
    · exact wn_fi
    · exact wn_fc
    · exact hw)
  have hr := va_runS (l := l) (e := e) (R := R) (below := below) (meth := meth) (H := H) (locs := locs) (cells := cells) (slots := slots) (g := F0 m pc ls (.int (-1) :: .ref q :: rest)) (As := [.ref q, .int (-1)]) (rest := rest) ⟨hx, hb, hml, hown, hts⟩ hC (va_cwS 2 hts hG rfl rfl rfl (by decide +kernel) ⟨hfr, hlo⟩) ⟨zPre_blind _ _ _ _ _ _ _, fun U hU hW => ⟨rfl, by rw [hU]; exact hPc, va_K.moved hW.alike hK, hDz, trivial, hst⟩⟩ rfl rfl hsize rfl hroom hd
  intro T hT X
  obtain ⟨v, st₀, t, T', Lc, h0, X', hL, e1, e2, ⟨hv, hP1, hz, hk⟩, go⟩ := hr hcs T hT X
  cases hv
  rw [h0] at hz hk
  have inA : ∀ x, zA 1 (fun _ => q) x → va_A (nW ca q (fun _ => 0)) H.size x := fun x hx => by
    obtain ⟨i, hi, rfl⟩ := hx
    exact Or.inl ⟨0, _, rfl⟩
  obtain ⟨t2, a1, b1⟩ := kk T'.heap (locs ++ Lc) (by
      rw [e1]
      have hz2 : zW [.inr (.int, 10)] (fun _ => q) ca (zpr nS0 0 nfill) = nW ca q nfill := by simp [zWf, zct, zpr]
      rw [← hz2]; exact hP1)
    ⟨fun i j x y hi hj _ => by
      have h1 : i = 0 := by cases i with | zero => rfl | succ i => simp at hi
      have h2 : j = 0 := by cases j with | zero => rfl | succ j => simp at hj
      rw [h1, h2], fun k x hk => by
      cases k with
      | zero => cases hk; exact Or.inl ⟨0, _, rfl⟩
      | succ k => simp at hk⟩
    (fun x h1 h2 => by rw [e1]; exact hk x h1 (fun z => h2 (inA x z)))
    ⟨Nat.le_trans hS.1 (by rw [e1]; exact hz), fun x h1 h2 => by rw [e1, hk x (Nat.lt_of_lt_of_le h1 hS.1) (fun z => h2 (hFc x (inA x z)))]; exact hS.2.1 x h1 h2, fun x hx => by
      rcases List.mem_append.mp hx with h | h
      · exact hS.2.2 x h
      · exact hFc _ (inA _ (hL x h))⟩ T' rfl X'
  exact ⟨t2, go t2 a1, b1⟩
end NF

