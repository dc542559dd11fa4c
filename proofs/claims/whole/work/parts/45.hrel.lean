/-! ===== what an HOUR keeps ===== -/
theorem r_comm {ρ ρ' : Type} {f : zM ρ} {g : zM ρ'} {S T : zS} {P : ρ → zS → ρ' → zS → Prop} (h : zq f S (fun a S' => zq g T (fun b T' => P a S' b T'))) : zq g T (fun b T' => zq f S (fun a S' => P a S' b T')) := by
  obtain ⟨a, S', h1, b, T', h2, h3⟩ := h
  exact ⟨b, T', h2, a, S', h1, h3⟩
theorem r_bl {ρ ρ' α : Type} {f : zM α} {kX : α → zM ρ} {g : zM ρ'} {S T : zS} {Q : ρ → zS → ρ' → zS → Prop} (h : zq f S (fun a S' => zq g T (fun r' T1 => zq (kX a) S' (fun r S1 => Q r S1 r' T1)))) : zq (zb f kX) S (fun r S1 => zq g T (Q r S1)) := by
  rw [q_b]
  exact q_mono h (fun a S' h1 => r_comm h1)
def RH (m R : Nat) (v : z8) (c r : Nat) (S T : zS) : Prop := RCon m T ∧ RFl m R c r S T ∧ RTo R S T ∧ RWi S T ∧ RLx v S ∧ RLm v T
def fx (c : Nat) (S S' : zS) : Prop := (∀ a, a ≠ c → a ≠ c + 1 → a ≠ c + 3 → a ≠ c + 8 → a ≠ c + 10 → a ≠ c + 11 → a ≠ 19 → S'.1 a = S.1 a) ∧ (∀ j, j ≠ 15 → j ≠ 17 → j ≠ 18 → S'.1 c j = S.1 c j) ∧ S'.2 = S.2
def fm (r : Nat) (T T' : zS) : Prop := (∀ a, a ≠ 0 → a ≠ r → a ≠ 14 → a ≠ 15 → a ≠ 17 → T'.1 a = T.1 a) ∧ (∀ j, j ≠ 30 → j ≠ 31 → j ≠ 32 → j ≠ 33 → T'.1 0 j = T.1 0 j) ∧ T'.2 = T.2
theorem fx_r {c : Nat} {S : zS} : fx c S S := ⟨fun _ _ _ _ _ _ _ _ => rfl, fun _ _ _ _ => rfl, rfl⟩
theorem fm_r {r : Nat} {T : zS} : fm r T T := ⟨fun _ _ _ _ _ _ => rfl, fun _ _ _ _ _ => rfl, rfl⟩
theorem fx_t {c : Nat} {S S1 S2 : zS} (h : fx c S S1) (g : fx c S1 S2) : fx c S S2 := ⟨fun a h1 h2 h3 h4 h5 h6 h7 => (g.1 a h1 h2 h3 h4 h5 h6 h7).trans (h.1 a h1 h2 h3 h4 h5 h6 h7), fun j h1 h2 h3 => (g.2.1 j h1 h2 h3).trans (h.2.1 j h1 h2 h3), g.2.2.trans h.2.2⟩
theorem fm_t {r : Nat} {S S1 S2 : zS} (h : fm r S S1) (g : fm r S1 S2) : fm r S S2 := ⟨fun a h1 h2 h3 h4 h5 => (g.1 a h1 h2 h3 h4 h5).trans (h.1 a h1 h2 h3 h4 h5), fun j h1 h2 h3 h4 => (g.2.1 j h1 h2 h3 h4).trans (h.2.1 j h1 h2 h3 h4), g.2.2.trans h.2.2⟩
/-- a write into a cell that an HOUR may write -/
theorem fx_w {c i : Nat} {S S' : zS} {f : Nat → Int32} (h : fx c S S') (hi : i = c + 1 ∨ i = c + 3 ∨ i = c + 8 ∨ i = c + 10 ∨ i = c + 11 ∨ i = 19) (hc : c ≠ 19) : fx c S (zpr S' i f) := by
  refine ⟨fun a h1 h2 h3 h4 h5 h6 h7 => ?_, fun j h1 h2 h3 => ?_, ?_⟩
  · rw [zpr_1, if_neg (by omega)]
    exact h.1 a h1 h2 h3 h4 h5 h6 h7
  · rw [zpr_1, if_neg (by omega)]
    exact h.2.1 j h1 h2 h3
  · rw [zpr_2]
    exact h.2.2
theorem fx_s {c j : Nat} {S S' : zS} {x : Int32} (h : fx c S S') (hj : j = 15 ∨ j = 17 ∨ j = 18) : fx c S (zpr S' c (upd (S'.1 c) j x)) := by
  refine ⟨fun a h1 h2 h3 h4 h5 h6 h7 => ?_, fun k h1 h2 h3 => ?_, ?_⟩
  · rw [zpr_1, if_neg h1]
    exact h.1 a h1 h2 h3 h4 h5 h6 h7
  · rw [zpr_1, if_pos rfl, upd_ap, if_neg (by omega)]
    exact h.2.1 k h1 h2 h3
  · rw [zpr_2]
    exact h.2.2
theorem fm_w {r i : Nat} {S S' : zS} {f : Nat → Int32} (h : fm r S S') (hi : i = r ∨ i = 14 ∨ i = 15 ∨ i = 17) (hr : r ≠ 0) : fm r S (zpr S' i f) := by
  refine ⟨fun a h1 h2 h3 h4 h5 => ?_, fun j h1 h2 h3 h4 => ?_, ?_⟩
  · rw [zpr_1, if_neg (by omega)]
    exact h.1 a h1 h2 h3 h4 h5
  · rw [zpr_1, if_neg (by omega)]
    exact h.2.1 j h1 h2 h3 h4
  · rw [zpr_2]
    exact h.2.2
theorem fm_s {r j : Nat} {S S' : zS} {x : Int32} (h : fm r S S') (hj : j = 30 ∨ j = 31 ∨ j = 32 ∨ j = 33) : fm r S (zpr S' 0 (upd (S'.1 0) j x)) := by
  refine ⟨fun a h1 h2 h3 h4 h5 => ?_, fun k h1 h2 h3 h4 => ?_, ?_⟩
  · rw [zpr_1, if_neg h1]
    exact h.1 a h1 h2 h3 h4 h5
  · rw [zpr_1, if_pos rfl, upd_ap, if_neg (by omega)]
    exact h.2.1 k h1 h2 h3 h4
  · rw [zpr_2]
    exact h.2.2
theorem fm_s2 {r j j' : Nat} {S S' : zS} {x y : Int32} (h : fm r S S') (hj : j = 30 ∨ j = 31 ∨ j = 32 ∨ j = 33) (hj' : j' = 30 ∨ j' = 31 ∨ j' = 32 ∨ j' = 33) : fm r S (zpr S' 0 (upd (upd (S'.1 0) j x) j' y)) := by
  refine ⟨fun a h1 h2 h3 h4 h5 => ?_, fun k h1 h2 h3 h4 => ?_, ?_⟩
  · rw [zpr_1, if_neg h1]
    exact h.1 a h1 h2 h3 h4 h5
  · rw [zpr_1, if_pos rfl, upd_ap, if_neg (by omega), upd_ap, if_neg (by omega)]
    exact h.2.1 k h1 h2 h3 h4
  · rw [zpr_2]
    exact h.2.2
theorem rrow_c {R : Nat} {F G F' G' : Nat → Nat → Int32} {b : Nat} (hF : ∀ k, k < 7 → F' k b = F k b) (hG : ∀ k, k < 7 → G' k b = G k b) (h : rrow R F G b) : rrow R F' G' b := by
  unfold rrow at h ⊢
  rw [hF 0 (by omega), hF 1 (by omega), hF 2 (by omega), hF 3 (by omega), hF 4 (by omega), hF 5 (by omega), hF 6 (by omega), hG 0 (by omega), hG 1 (by omega), hG 2 (by omega), hG 3 (by omega), hG 4 (by omega), hG 5 (by omega), hG 6 (by omega)]
  exact h
theorem RLx_c {v : z8} {S S' : zS} (h : RLx v S) (e1 : S'.1 16 = S.1 16) (e2 : S'.1 17 = S.1 17) : RLx v S' := fun S1 r h1 h2 => h S1 r (h1.trans (congrFun e1 3)) (h2.trans e2)
theorem RLx_c3 {v : z8} {S S' : zS} (h : RLx v S) (e1 : S'.1 16 3 = S.1 16 3) (e2 : S'.1 17 = S.1 17) : RLx v S' := fun S1 r h1 h2 => h S1 r (h1.trans e1) (h2.trans e2)
theorem RLm_c {v : z8} {T T' : zS} (h : RLm v T) (e1 : T'.1 0 24 = T.1 0 24) (e2 : T'.1 12 = T.1 12) : RLm v T' := fun T1 h1 h2 => h T1 (h1.trans e1) (h2.trans e2)
theorem RTo_c {R : Nat} {S T S' T' : zS} (h : RTo R S T) (x3 : S'.1 3 6 = S.1 3 6) (x4 : S'.1 4 = S.1 4) (x5 : S'.1 5 = S.1 5) (x7 : S'.1 7 = S.1 7) (x8 : S'.1 8 = S.1 8) (x9 : S'.1 9 = S.1 9) (m0 : T'.1 0 3 = T.1 0 3) (m2 : T'.1 2 = T.1 2) (m3 : T'.1 3 = T.1 3) : RTo R S' T' := by
  unfold RTo at h ⊢
  rw [x3, x4, x5, x7, x8, x9, m0, m2, m3]
  exact h
theorem RWi_c {S T S' T' : zS} (h : RWi S T) (x11 : S'.1 11 = S.1 11) (x12 : S'.1 12 = S.1 12) (x13 : S'.1 13 = S.1 13) (x14 : S'.1 14 = S.1 14) (m6 : T'.1 6 = T.1 6) (m7 : T'.1 7 = T.1 7) : RWi S' T' := by
  unfold RWi at h ⊢
  rw [x11, x12, x13, x14, m6, m7]
  exact h
theorem RCon_c {m : Nat} {T T' : zS} (h : RCon m T) (m4 : T'.1 4 = T.1 4) (m5 : T'.1 5 = T.1 5) (m6 : T'.1 0 6 = T.1 0 6) : RCon m T' := by
  unfold RCon at h ⊢
  rw [m4, m5, m6]
  exact h
theorem RH_mk {m R : Nat} {v : z8} {c r : Nat} {S T S' T' : zS} (hc : c = 20 ∨ c = 32) (hr : r = 8 ∨ r = 9) (h : RH m R v c r S T) (hx : fx c S S') (hm : fm r T T') (hnow : S'.1 c 15 = T'.1 r 42) (hB : RB m R (xv c S') (mf (T'.1 r))) : RH m R v c r S' T' := by
  obtain ⟨h1, ⟨f1, f2, f3, f4, f5, f6⟩, h3, h4, h5, h6⟩ := h
  have X : ∀ a, a < 18 → S'.1 a = S.1 a := fun a ha => hx.1 a (by omega) (by omega) (by omega) (by omega) (by omega) (by omega) (by omega)
  have M : ∀ a, 0 < a → a < 8 → T'.1 a = T.1 a := fun a ha hb => hm.1 a (by omega) (by omega) (by omega) (by omega) (by omega)
  refine ⟨RCon_c h1 (M 4 (by omega) (by omega)) (M 5 (by omega) (by omega)) (hm.2.1 6 (by omega) (by omega) (by omega) (by omega)), ⟨(hx.2.1 14 (by omega) (by omega) (by omega)).trans f1, (hm.2.1 4 (by omega) (by omega) (by omega) (by omega)).trans f2, hnow, ?_, fun b hb => ?_, hB⟩, RTo_c h3 (by rw [X 3 (by omega)]) (X 4 (by omega)) (X 5 (by omega)) (X 7 (by omega)) (X 8 (by omega)) (X 9 (by omega)) (hm.2.1 3 (by omega) (by omega) (by omega) (by omega)) (M 2 (by omega) (by omega)) (M 3 (by omega) (by omega)), RWi_c h4 (X 11 (by omega)) (X 12 (by omega)) (X 13 (by omega)) (X 14 (by omega)) (M 6 (by omega) (by omega)) (M 7 (by omega) (by omega)), RLx_c h5 (X 16 (by omega)) (X 17 (by omega)), RLm_c h6 (hm.2.1 24 (by omega) (by omega) (by omega) (by omega)) (hm.1 12 (by omega) (by omega) (by omega) (by omega) (by omega))⟩
  · rw [hx.2.1 16 (by omega) (by omega) (by omega), hm.2.1 6 (by omega) (by omega) (by omega) (by omega)]
    exact f4
  · rw [hx.1 (c + 6) (by omega) (by omega) (by omega) (by omega) (by omega) (by omega) (by omega), hx.1 (c + 7) (by omega) (by omega) (by omega) (by omega) (by omega) (by omega) (by omega), M 4 (by omega) (by omega), M 5 (by omega) (by omega)]
    exact f5 b hb
theorem RB_step {m R b : Nat} {F G F' G' : Nat → Nat → Int32} (h : RB m R F G) (hrow : rrow R F' G' b) (hoX : ∀ b', b' ≠ b → ∀ k, k < 7 → F' k b' = F k b') (hoM : ∀ b', b' ≠ b → ∀ k, k < 7 → G' k b' = G k b') (hu : G' 3 b = 2 → G 3 b = 2 ∧ G' 4 b = G 4 b) (hb : b < m) : RB m R F' G' := by
  refine ⟨fun b' hb' => ?_, fun a a' ha ha' h1 h2 h3 => ?_⟩
  · by_cases e : b' = b
    · rw [e]
      exact hrow
    · exact rrow_c (hoX b' e) (hoM b' e) (h.1 b' hb')
  · by_cases ea : a = b
    · by_cases ea' : a' = b
      · rw [ea, ea']
      · subst ea
        obtain ⟨u1, u2⟩ := hu h1
        rw [hoM a' ea' 3 (by omega)] at h2
        rw [u2, hoM a' ea' 4 (by omega)] at h3
        exact h.2 a a' ha ha' u1 h2 h3
    · by_cases ea' : a' = b
      · subst ea'
        obtain ⟨u1, u2⟩ := hu h2
        rw [hoM a ea 3 (by omega)] at h1
        rw [u2, hoM a ea 4 (by omega)] at h3
        exact h.2 a a' ha ha' h1 u1 h3
      · rw [hoM a ea 3 (by omega)] at h1
        rw [hoM a' ea' 3 (by omega)] at h2
        rw [hoM a ea 4 (by omega), hoM a' ea' 4 (by omega)] at h3
        exact h.2 a a' ha ha' h1 h2 h3
/-- who came down, who was lost: words and counts on both sides -/
def HA (m c : Nat) (S0 T0 S T : zS) (pc pl : Nat → Bool) : Prop :=
  (∀ j, j < 32 → bt (S.1 c 17) j = (bt (S0.1 c 17) j || pc j)) ∧ (∀ j, j < 32 → bt (S.1 c 18) j = (bt (S0.1 c 18) j || pl j)) ∧ (∀ j, j < 32 → bt (T.1 0 30) j = (bt (T0.1 0 30) j || pc j)) ∧ (∀ j, j < 32 → bt (T.1 0 31) j = (bt (T0.1 0 31) j || pl j)) ∧ T.1 0 32 = T0.1 0 32 + nI (fa_cnt pc 6) ∧ T.1 0 33 = T0.1 0 33 + nI (fa_cnt pl 6) ∧ ∀ j, m ≤ j → pc j = false ∧ pl j = false
def HL (m r : Nat) (T0 T : zS) (pl : Nat → Bool) : Prop := ∀ b, b < m → (mf (T.1 r) 3 b = 3 ↔ mf (T0.1 r) 3 b = 3 ∨ pl b = true) ∧ (pl b = true → mf (T0.1 r) 3 b ≠ 3)
def fn (r : Nat) (T T' : zS) : Prop := fm r T T' ∧ T'.1 r 42 = T.1 r 42
theorem fn_t {r : Nat} {S S1 S2 : zS} (h : fn r S S1) (g : fm r S1 S2) (e : S2.1 r 42 = S1.1 r 42) : fn r S S2 := ⟨fm_t h.1 g, e.trans h.2⟩
def HV (m R : Nat) (v : z8) (c r : Nat) (S0 T0 S T : zS) (pc pl : Nat → Bool) : Prop := RH m R v c r S T ∧ fx c S0 S ∧ fn r T0 T ∧ HA m c S0 T0 S T pc pl ∧ HL m r T0 T pl
def pset (p : Nat → Bool) (b : Nat) : Nat → Bool := fun j => p j || decide (j = b)
theorem cnt_set {p : Nat → Bool} {b : Nat} (h : p b = false) : ∀ n, fa_cnt (pset p b) n = fa_cnt p n + if b < n then 1 else 0
  | 0 => rfl
  | n + 1 => by
    rw [fa_cnt, fa_cnt, cnt_set h n]
    unfold pset
    by_cases e : n = b
    · subst e
      rw [h, if_neg (Nat.lt_irrefl n), if_pos (Nat.lt_succ_self n), show decide (n = n) = true from decide_eq_true rfl]
      simp
    · rw [show decide (n = b) = false from decide_eq_false e, Bool.or_false]
      by_cases h2 : b < n
      · rw [if_pos h2, if_pos (show b < n + 1 by omega)]
        omega
      · rw [if_neg h2, if_neg (show ¬ b < n + 1 by omega)]
        omega
theorem pset_b {p : Nat → Bool} {b : Nat} : pset p b b = true := by simp [pset]
theorem pset_o {p : Nat → Bool} {b j : Nat} (h : j ≠ b) : pset p b j = p j := by simp [pset, h]
