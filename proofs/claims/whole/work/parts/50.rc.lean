/-! ===== the whole relation, and what leaves its parts as they are ===== -/
def RC (m R : Nat) (v : z8) (n : Nat) (S T : zS) : Prop := RH m R v 20 8 S T ∧ (RTx S T ∧ RKe m R n S T ∧ RMk R S T) ∧ RPa m R (1000 * n) S T ∧ RAn S T
def RR (n : Nat) (S T : zS) : Prop := ∃ m R v, RC m R v n S T
/-- a call, on both sides -/
def LL (f g : zM Int32) (n : Nat) (S T : zS) : Prop := zq f S (fun r S' => zq g T (fun r' T' => r' = r ∧ RR (n + 1) S' T'))
def kH (S S' : zS) : Prop := S'.1 3 6 = S.1 3 6 ∧ S'.1 4 = S.1 4 ∧ S'.1 5 = S.1 5 ∧ S'.1 7 = S.1 7 ∧ S'.1 8 = S.1 8 ∧ S'.1 9 = S.1 9 ∧ S'.1 11 = S.1 11 ∧ S'.1 12 = S.1 12 ∧ S'.1 13 = S.1 13 ∧ S'.1 14 = S.1 14 ∧ S'.1 16 = S.1 16 ∧ S'.1 17 = S.1 17 ∧ S'.1 20 14 = S.1 20 14 ∧ S'.1 20 15 = S.1 20 15 ∧ S'.1 20 16 = S.1 20 16 ∧ S'.1 23 = S.1 23 ∧ S'.1 24 = S.1 24 ∧ S'.1 25 = S.1 25 ∧ S'.1 26 = S.1 26 ∧ S'.1 27 = S.1 27 ∧ S'.1 28 = S.1 28 ∧ S'.1 29 = S.1 29 ∧ S'.1 30 = S.1 30 ∧ S'.1 31 = S.1 31
def mH (T T' : zS) : Prop := T'.1 0 3 = T.1 0 3 ∧ T'.1 0 4 = T.1 0 4 ∧ T'.1 0 6 = T.1 0 6 ∧ T'.1 0 24 = T.1 0 24 ∧ T'.1 2 = T.1 2 ∧ T'.1 3 = T.1 3 ∧ T'.1 4 = T.1 4 ∧ T'.1 5 = T.1 5 ∧ T'.1 6 = T.1 6 ∧ T'.1 7 = T.1 7 ∧ T'.1 8 = T.1 8 ∧ T'.1 12 = T.1 12
def kQ (S S' : zS) : Prop := S'.1 1 3 = S.1 1 3 ∧ S'.1 2 = S.1 2 ∧ S'.1 46 = S.1 46 ∧ S'.1 47 = S.1 47 ∧ S'.1 50 7 = S.1 50 7 ∧ S'.1 51 = S.1 51 ∧ S'.1 52 = S.1 52 ∧ S'.1 53 = S.1 53
def mQ (T T' : zS) : Prop := T'.1 0 16 = T.1 0 16 ∧ T'.1 10 = T.1 10 ∧ T'.1 33 = T.1 33 ∧ T'.1 34 = T.1 34 ∧ T'.1 35 = T.1 35 ∧ T'.1 0 5 = T.1 0 5 ∧ T'.1 0 50 = T.1 0 50 ∧ T'.1 28 = T.1 28 ∧ T'.1 29 = T.1 29 ∧ T'.1 30 = T.1 30 ∧ T'.1 8 42 = T.1 8 42
def kP (S S' : zS) : Prop := S'.1 44 3 = S.1 44 3 ∧ S'.1 44 4 = S.1 44 4 ∧ S'.1 45 = S.1 45
def mP (T T' : zS) : Prop := T'.1 0 28 = T.1 0 28 ∧ T'.1 16 = T.1 16
def kA (S S' : zS) : Prop := S'.1 48 1 = S.1 48 1 ∧ S'.2 49 = S.2 49
def mA (T T' : zS) : Prop := T'.1 0 1 = T.1 0 1 ∧ T'.2 1 = T.2 1
theorem RH_c {m R : Nat} {v : z8} {S T S' T' : zS} (h : RH m R v 20 8 S T) (x : kH S S') (y : mH T T') : RH m R v 20 8 S' T' := by
  obtain ⟨x1, x2, x3, x4, x5, x6, x7, x8, x9, x10, x11, x12, x13, x14, x15, x16, x17, x18, x19, x20, x21, x22, x23, x24⟩ := x
  obtain ⟨y1, y2, y3, y4, y5, y6, y7, y8, y9, y10, y11, y12⟩ := y
  obtain ⟨h1, ⟨f1, f2, f3, f4, f5, f6⟩, h3, h4, h5, h6⟩ := h
  refine ⟨RCon_c h1 y7 y8 y3, ⟨x13.trans f1, y2.trans f2, by rw [x14, y11]; exact f3, by rw [x15, y3]; exact f4, fun b hb => ?_, fun b hb => ?_, fun a b ha hb => ?_⟩, RTo_c h3 x1 x2 x3 x4 x5 x6 y1 y5 y6, RWi_c h4 x7 x8 x9 x10 y9 y10, RLx_c h5 x11 x12, RLm_c h6 y4 y12⟩
  · show S'.1 26 b = _ ∧ S'.1 27 b = _
    rw [x19, x20, y7, y8]
    exact f5 b hb
  · refine rrow_c (xv_o (c := 20) ?_ ?_ ?_ ?_ ?_ ?_ ?_) (fun k _ => by rw [y11]) (f6.1 b hb)
    · show S'.1 23 b = _
      rw [x16]
    · show S'.1 24 b = _
      rw [x17]
    · show S'.1 25 b = _
      rw [x18]
    · show S'.1 28 b = _
      rw [x21]
    · show S'.1 29 b = _
      rw [x22]
    · show S'.1 30 b = _
      rw [x23]
    · show S'.1 31 b = _
      rw [x24]
  · rw [y11]
    exact f6.2 a b ha hb
theorem RPk_m {m R B B' : Nat} {f g : Nat → Int32} {a b : Nat} (h : RPk m R B f g a b) (hB : B ≤ B') : RPk m R B' f g a b := by
  obtain ⟨⟨h1, N, hN, h2⟩, h3⟩ := h
  exact ⟨⟨h1, N, Nat.le_trans hN hB, h2⟩, h3⟩
theorem RNw_c {n : Nat} {T T' : zS} (h : RNw n T) (e : T'.1 8 42 = T.1 8 42) : RNw (n + 1) T' := by
  obtain ⟨N, hN, h⟩ := h
  exact ⟨N, by omega, e.trans h⟩
theorem RKe_n {m R n : Nat} {S T S' T' : zS} (h : RKe m R n S T) (x3 : S'.1 46 = S.1 46) (x4 : S'.1 47 = S.1 47) (y3 : T'.1 33 = T.1 33) (y4 : T'.1 34 = T.1 34) (y5 : T'.1 35 = T.1 35) (y6 : T'.1 0 5 = T.1 0 5) (hN : RNw (n + 1) T') : RKe m R (n + 1) S' T' := by
  obtain ⟨c, hc, -, h1, h2⟩ := h
  refine ⟨c, by omega, hN, y6.trans h1, fun i hi => ?_⟩
  obtain ⟨k1, k2, k3, k4, k5⟩ := h2 i hi
  rw [x3, x4, y3, y4, y5, y6]
  exact ⟨k1, k2, k3, k4, fun e => RPk_m (k5 e) (by omega)⟩
theorem RKe_c {m R n : Nat} {S T S' T' : zS} (h : RKe m R n S T) (x3 : S'.1 46 = S.1 46) (x4 : S'.1 47 = S.1 47) (y3 : T'.1 33 = T.1 33) (y4 : T'.1 34 = T.1 34) (y5 : T'.1 35 = T.1 35) (y6 : T'.1 0 5 = T.1 0 5) (y7 : T'.1 8 42 = T.1 8 42) : RKe m R (n + 1) S' T' := RKe_n h x3 x4 y3 y4 y5 y6 (RNw_c h.choose_spec.2.1 y7)
def mQ0 (T T' : zS) : Prop := T'.1 0 16 = T.1 0 16 ∧ T'.1 10 = T.1 10 ∧ T'.1 33 = T.1 33 ∧ T'.1 34 = T.1 34 ∧ T'.1 35 = T.1 35 ∧ T'.1 0 5 = T.1 0 5 ∧ T'.1 0 50 = T.1 0 50 ∧ T'.1 28 = T.1 28 ∧ T'.1 29 = T.1 29 ∧ T'.1 30 = T.1 30
theorem RQ_n {m R n : Nat} {S T S' T' : zS} (h : RTx S T ∧ RKe m R n S T ∧ RMk R S T) (x : kQ S S') (y : mQ0 T T') (hN : RNw (n + 1) T') : RTx S' T' ∧ RKe m R (n + 1) S' T' ∧ RMk R S' T' := by
  obtain ⟨x1, x2, x3, x4, x5, x6, x7, x8⟩ := x
  obtain ⟨y1, y2, y3, y4, y5, y6, y7, y8, y9, y10⟩ := y
  obtain ⟨h1, h2, h3⟩ := h
  refine ⟨?_, RKe_n h2 x3 x4 y3 y4 y5 y6 hN, ?_⟩
  · unfold RTx at h1 ⊢
    rw [x1, x2, y1, y2]
    exact h1
  · unfold RMk at h3 ⊢
    rw [x5, x6, x7, x8, y7, y8, y9, y10]
    exact h3
theorem RQ_c {m R n : Nat} {S T S' T' : zS} (h : RTx S T ∧ RKe m R n S T ∧ RMk R S T) (x : kQ S S') (y : mQ T T') : RTx S' T' ∧ RKe m R (n + 1) S' T' ∧ RMk R S' T' := by
  obtain ⟨y1, y2, y3, y4, y5, y6, y7, y8, y9, y10, y11⟩ := y
  exact RQ_n h x ⟨y1, y2, y3, y4, y5, y6, y7, y8, y9, y10⟩ (RNw_c h.2.1.choose_spec.2.1 y11)
theorem RPa_c {m R B B' : Nat} {S T S' T' : zS} (h : RPa m R B S T) (x : kP S S') (y : mP T T') (hB : B ≤ B' := by omega) : RPa m R B' S' T' := by
  obtain ⟨x1, x2, x3⟩ := x
  obtain ⟨y1, y2⟩ := y
  obtain ⟨u, s, h1, h2, h3, h4, h5, h6⟩ := h
  refine ⟨u, s, h1, h2, x2.trans h3, x1.trans h4, y1.trans h5, fun j hj => ?_⟩
  rw [x3, y2]
  exact RPk_m (h6 j hj) hB
theorem RAn_c {S T S' T' : zS} (h : RAn S T) (x : kA S S') (y : mA T T') : RAn S' T' := by
  obtain ⟨x1, x2⟩ := x
  obtain ⟨y1, y2⟩ := y
  unfold RAn at h ⊢
  rw [x1, x2, y1, y2]
  exact h
theorem fx_kQ {c : Nat} {S S' : zS} (h : fx c S S') (hc : c = 20 ∨ c = 32) : kQ S S' := ⟨by rw [h.1 1 (by omega) (by omega) (by omega) (by omega) (by omega) (by omega) (by omega)], h.1 2 (by omega) (by omega) (by omega) (by omega) (by omega) (by omega) (by omega), h.1 46 (by omega) (by omega) (by omega) (by omega) (by omega) (by omega) (by omega), h.1 47 (by omega) (by omega) (by omega) (by omega) (by omega) (by omega) (by omega), by rw [h.1 50 (by omega) (by omega) (by omega) (by omega) (by omega) (by omega) (by omega)], h.1 51 (by omega) (by omega) (by omega) (by omega) (by omega) (by omega) (by omega), h.1 52 (by omega) (by omega) (by omega) (by omega) (by omega) (by omega) (by omega), h.1 53 (by omega) (by omega) (by omega) (by omega) (by omega) (by omega) (by omega)⟩
theorem fx_kP {c : Nat} {S S' : zS} (h : fx c S S') (hc : c = 20 ∨ c = 32) : kP S S' := ⟨by rw [h.1 44 (by omega) (by omega) (by omega) (by omega) (by omega) (by omega) (by omega)], by rw [h.1 44 (by omega) (by omega) (by omega) (by omega) (by omega) (by omega) (by omega)], h.1 45 (by omega) (by omega) (by omega) (by omega) (by omega) (by omega) (by omega)⟩
theorem fx_kA {c : Nat} {S S' : zS} (h : fx c S S') (hc : c = 20 ∨ c = 32) : kA S S' := ⟨by rw [h.1 48 (by omega) (by omega) (by omega) (by omega) (by omega) (by omega) (by omega)], by rw [h.2.2]⟩
theorem fm_mQ0 {r : Nat} {T T' : zS} (h : fm r T T') (hr : r = 8 ∨ r = 9) : mQ0 T T' := ⟨h.2.1 16 (by omega) (by omega) (by omega) (by omega), h.1 10 (by omega) (by omega) (by omega) (by omega) (by omega), h.1 33 (by omega) (by omega) (by omega) (by omega) (by omega), h.1 34 (by omega) (by omega) (by omega) (by omega) (by omega), h.1 35 (by omega) (by omega) (by omega) (by omega) (by omega), h.2.1 5 (by omega) (by omega) (by omega) (by omega), h.2.1 50 (by omega) (by omega) (by omega) (by omega), h.1 28 (by omega) (by omega) (by omega) (by omega) (by omega), h.1 29 (by omega) (by omega) (by omega) (by omega) (by omega), h.1 30 (by omega) (by omega) (by omega) (by omega) (by omega)⟩
theorem fm_mQ {T T' : zS} (h : fm 9 T T') : mQ T T' := by
  obtain ⟨y1, y2, y3, y4, y5, y6, y7, y8, y9, y10⟩ := fm_mQ0 h (Or.inr rfl)
  exact ⟨y1, y2, y3, y4, y5, y6, y7, y8, y9, y10, by rw [h.1 8 (by omega) (by omega) (by omega) (by omega) (by omega)]⟩
theorem mQ0_t {S S1 S2 : zS} (h : mQ0 S S1) (g : mQ0 S1 S2) : mQ0 S S2 := by
  unfold mQ0 at h g ⊢
  simp only [h, g, and_self]
theorem mQ_0 {S S1 : zS} (h : mQ S S1) : mQ0 S S1 := by
  obtain ⟨y1, y2, y3, y4, y5, y6, y7, y8, y9, y10, y11⟩ := h
  exact ⟨y1, y2, y3, y4, y5, y6, y7, y8, y9, y10⟩
theorem fm_mP {r : Nat} {T T' : zS} (h : fm r T T') (hr : r = 8 ∨ r = 9) : mP T T' := ⟨h.2.1 28 (by omega) (by omega) (by omega) (by omega), h.1 16 (by omega) (by omega) (by omega) (by omega) (by omega)⟩
theorem fm_mA {r : Nat} {T T' : zS} (h : fm r T T') (hr : r = 8 ∨ r = 9) : mA T T' := ⟨h.2.1 1 (by omega) (by omega) (by omega) (by omega), by rw [h.2.2]⟩
theorem fx_kH {S S' : zS} (h : fx 32 S S') : kH S S' := by
  refine ⟨?_, ?_, ?_, ?_, ?_, ?_, ?_, ?_, ?_, ?_, ?_, ?_, ?_, ?_, ?_, ?_, ?_, ?_, ?_, ?_, ?_, ?_, ?_, ?_⟩ <;> rw [h.1 _ (by omega) (by omega) (by omega) (by omega) (by omega) (by omega) (by omega)]
theorem fm_mH {T T' : zS} (h : fm 9 T T') : mH T T' := by
  refine ⟨?_, ?_, ?_, ?_, ?_, ?_, ?_, ?_, ?_, ?_, ?_, ?_⟩ <;> first | exact h.2.1 _ (by omega) (by omega) (by omega) (by omega) | rw [h.1 _ (by omega) (by omega) (by omega) (by omega) (by omega)]
theorem kH_t {S S1 S2 : zS} (h : kH S S1) (g : kH S1 S2) : kH S S2 := by
  unfold kH at h g ⊢
  simp only [h, g, and_self]
theorem mH_t {S S1 S2 : zS} (h : mH S S1) (g : mH S1 S2) : mH S S2 := by
  unfold mH at h g ⊢
  simp only [h, g, and_self]
theorem kQ_t {S S1 S2 : zS} (h : kQ S S1) (g : kQ S1 S2) : kQ S S2 := by
  unfold kQ at h g ⊢
  simp only [h, g, and_self]
theorem mQ_t {S S1 S2 : zS} (h : mQ S S1) (g : mQ S1 S2) : mQ S S2 := by
  unfold mQ at h g ⊢
  simp only [h, g, and_self]
theorem kP_t {S S1 S2 : zS} (h : kP S S1) (g : kP S1 S2) : kP S S2 := by
  unfold kP at h g ⊢
  simp only [h, g, and_self]
theorem mP_t {S S1 S2 : zS} (h : mP S S1) (g : mP S1 S2) : mP S S2 := by
  unfold mP at h g ⊢
  simp only [h, g, and_self]
theorem kA_t {S S1 S2 : zS} (h : kA S S1) (g : kA S1 S2) : kA S S2 := by
  unfold kA at h g ⊢
  simp only [h, g, and_self]
theorem mA_t {S S1 S2 : zS} (h : mA S S1) (g : mA S1 S2) : mA S S2 := by
  unfold mA at h g ⊢
  simp only [h, g, and_self]
