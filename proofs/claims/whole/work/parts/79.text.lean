/-! ===== a call that reads a text: what is left as it was ===== -/
def kZ (S S' : zS) : Prop := S'.1 46 = S.1 46 ∧ S'.1 47 = S.1 47 ∧ S'.1 50 7 = S.1 50 7 ∧ S'.1 51 = S.1 51 ∧ S'.1 52 = S.1 52 ∧ S'.1 53 = S.1 53
def mZ (T T' : zS) : Prop := T'.1 33 = T.1 33 ∧ T'.1 34 = T.1 34 ∧ T'.1 35 = T.1 35 ∧ T'.1 0 5 = T.1 0 5 ∧ T'.1 0 50 = T.1 0 50 ∧ T'.1 28 = T.1 28 ∧ T'.1 29 = T.1 29 ∧ T'.1 30 = T.1 30 ∧ T'.1 8 42 = T.1 8 42
theorem RTx_0 {S T : zS} (e1 : S.1 1 3 = 0) (e2 : T.1 0 16 = 0) : RTx S T := ⟨0, by omega, e1, e2, fun i hi => absurd hi (Nat.not_lt_zero i)⟩
theorem RC_z {m R n : Nat} {v v' : z8} {S T S' T' : zS} (h : RC m R v n S T) (hH : RH m R v' 20 8 S' T') (x : kZ S S' ∧ kP S S' ∧ kA S S') (y : mZ T T' ∧ mP T T' ∧ mA T T') (e1 : S'.1 1 3 = 0) (e2 : T'.1 0 16 = 0) : RR (n + 1) S' T' := by
  obtain ⟨-, ⟨-, hKe, hMk⟩, hP, hAn⟩ := h
  obtain ⟨⟨x1, x2, x3, x4, x5, x6⟩, xP, xA⟩ := x
  obtain ⟨⟨y1, y2, y3, y4, y5, y6, y7, y8, y9⟩, yP, yA⟩ := y
  refine ⟨m, R, v', hH, ⟨RTx_0 e1 e2, RKe_c hKe x1 x2 y1 y2 y3 y4 y9, ?_⟩, RPa_c hP xP yP, RAn_c hAn xA yA⟩
  unfold RMk at hMk ⊢
  rw [x3, x4, x5, x6, y5, y6, y7, y8]
  exact hMk
/-- cells that reading alone touches -/
def fP (S S' : zS) : Prop := (∀ c, c ≠ 1 → c ≠ 6 → c ≠ 15 → c ≠ 18 → c ≠ 58 → c ≠ 59 → c ≠ 60 → c ≠ 61 → S'.1 c = S.1 c) ∧ S'.2 = S.2
def gP (T T' : zS) : Prop := (∀ c, c ≠ 0 → c ≠ 11 → c ≠ 13 → c ≠ 18 → c ≠ 19 → c ≠ 20 → T'.1 c = T.1 c) ∧ (∀ k, k ≠ 0 → k ≠ 16 → k ≠ 17 → k ≠ 18 → k ≠ 19 → k ≠ 21 → k ≠ 25 → k ≠ 38 → T'.1 0 k = T.1 0 k) ∧ T'.2 = T.2
theorem fP_t {S S1 S2 : zS} (h : fP S S1) (g : fP S1 S2) : fP S S2 := ⟨fun c a1 a2 a3 a4 a5 a6 a7 a8 => (g.1 c a1 a2 a3 a4 a5 a6 a7 a8).trans (h.1 c a1 a2 a3 a4 a5 a6 a7 a8), g.2.trans h.2⟩
theorem gP_t {T T1 T2 : zS} (h : gP T T1) (g : gP T1 T2) : gP T T2 := ⟨fun c a1 a2 a3 a4 a5 a6 => (g.1 c a1 a2 a3 a4 a5 a6).trans (h.1 c a1 a2 a3 a4 a5 a6), fun k a1 a2 a3 a4 a5 a6 a7 a8 => (g.2.1 k a1 a2 a3 a4 a5 a6 a7 a8).trans (h.2.1 k a1 a2 a3 a4 a5 a6 a7 a8), g.2.2.trans h.2.2⟩
theorem fP_w {S : zS} {i : Nat} {f : Nat → Int32} (hi' : i = 1 ∨ i = 6 ∨ i = 15 ∨ i = 18 ∨ i = 58 ∨ i = 59 ∨ i = 60 ∨ i = 61) : fP S (zpr S i f) := ⟨fun c a1 a2 a3 a4 a5 a6 a7 a8 => zpr_n (by omega), rfl⟩
theorem gP_w {T : zS} {i : Nat} {f : Nat → Int32} (hi' : i = 11 ∨ i = 13 ∨ i = 18 ∨ i = 19 ∨ i = 20) : gP T (zpr T i f) := ⟨fun c a1 a2 a3 a4 a5 a6 => zpr_n (by omega), fun k _ _ _ _ _ _ _ _ => by rw [zpr_n (by omega)], rfl⟩
theorem gP_s {T : zS} {i : Nat} {x : Int32} (hi' : i = 0 ∨ i = 16 ∨ i = 17 ∨ i = 18 ∨ i = 19 ∨ i = 21 ∨ i = 25 ∨ i = 38) : gP T (zpr T 0 (upd (T.1 0) i x)) := ⟨fun c a1 a2 a3 a4 a5 a6 => zpr_n (by omega), fun k a1 a2 a3 a4 a5 a6 a7 a8 => by rw [zpr_1, if_pos rfl, upd_ap, if_neg (by omega)], rfl⟩
theorem fP_k {S S' : zS} (h : fP S S') : kH S S' ∧ kZ S S' ∧ kP S S' ∧ kA S S' := by
  obtain ⟨h1, h2⟩ := h
  have w : ∀ c, c ≠ 1 ∧ c ≠ 6 ∧ c ≠ 15 ∧ c ≠ 18 ∧ c ≠ 58 ∧ c ≠ 59 ∧ c ≠ 60 ∧ c ≠ 61 → S'.1 c = S.1 c := fun c z => h1 c z.1 z.2.1 z.2.2.1 z.2.2.2.1 z.2.2.2.2.1 z.2.2.2.2.2.1 z.2.2.2.2.2.2.1 z.2.2.2.2.2.2.2
  unfold kH kZ kP kA
  refine ⟨⟨?_, ?_, ?_, ?_, ?_, ?_, ?_, ?_, ?_, ?_, ?_, ?_, ?_, ?_, ?_, ?_, ?_, ?_, ?_, ?_, ?_, ?_, ?_, ?_⟩, ⟨?_, ?_, ?_, ?_, ?_, ?_⟩, ⟨?_, ?_, ?_⟩, ?_, by rw [h2]⟩ <;> first | exact w _ (by omega) | exact congrFun (w _ (by omega)) _
theorem gP_k {T T' : zS} (h : gP T T') : mH T T' ∧ mZ T T' ∧ mP T T' ∧ mA T T' := by
  obtain ⟨h1, h2, h3⟩ := h
  have w : ∀ c, c ≠ 0 ∧ c ≠ 11 ∧ c ≠ 13 ∧ c ≠ 18 ∧ c ≠ 19 ∧ c ≠ 20 → T'.1 c = T.1 c := fun c z => h1 c z.1 z.2.1 z.2.2.1 z.2.2.2.1 z.2.2.2.2.1 z.2.2.2.2.2
  have w0 : ∀ k, k ≠ 0 ∧ k ≠ 16 ∧ k ≠ 17 ∧ k ≠ 18 ∧ k ≠ 19 ∧ k ≠ 21 ∧ k ≠ 25 ∧ k ≠ 38 → T'.1 0 k = T.1 0 k := fun k z => h2 k z.1 z.2.1 z.2.2.1 z.2.2.2.1 z.2.2.2.2.1 z.2.2.2.2.2.1 z.2.2.2.2.2.2.1 z.2.2.2.2.2.2.2
  unfold mH mZ mP mA
  refine ⟨⟨?_, ?_, ?_, ?_, ?_, ?_, ?_, ?_, ?_, ?_, ?_, ?_⟩, ⟨?_, ?_, ?_, ?_, ?_, ?_, ?_, ?_, ?_⟩, ⟨?_, ?_⟩, ?_, by rw [h3]⟩ <;> first | exact w0 _ (by omega) | exact w _ (by omega) | exact congrFun (w _ (by omega)) _
/-- while a text is read -/
def PI (len : Nat) (S T S1 T1 : zS) : Prop := fP S S1 ∧ gP T T1 ∧ S1.1 1 3 = nI len ∧ T1.1 0 16 = 0
theorem P_fail {m R n len : Nat} {v : z8} {S T S1 T1 : zS} (h : RC m R v n S T) (hI : PI len S T S1 T1) : RR (n + 1) (zpr S1 1 (upd (S1.1 1) 3 0)) T1 := by
  obtain ⟨f, g, -, e2⟩ := hI
  have f' := fP_t f (fP_w (S := S1) (i := 1) (f := upd (S1.1 1) 3 0) (by omega))
  obtain ⟨a1, a2, a3, a4⟩ := fP_k f'
  obtain ⟨b1, b2, b3, b4⟩ := gP_k g
  exact RC_z h (RH_c h.1 a1 b1) ⟨a2, a3, a4⟩ ⟨b2, b3, b4⟩ (by simp (disch := first | assumption | omega | fail) only [zpi_d, zpl_d, zpr_1, zpr_2, zpq_1, zpq_2, zpr_o, zpq_o, Nat.reduceAdd, Nat.reduceEqDiff, Nat.reduceMul, reduceIte, ite_true, ite_false, if_true, if_false, reduceCtorEq, eq_self, iff_self, i_T, i_F, implies_true, false_and, and_false, ne_m5_m4, ne_m5_m3, ne_m5_m2, ne_m5_m1, ne_m5_0, ne_m5_1, ne_m5_2, ne_m5_3, ne_m4_m5, ne_m4_m3, ne_m4_m2, ne_m4_m1, ne_m4_0, ne_m4_1, ne_m4_2, ne_m4_3, ne_m3_m5, ne_m3_m4, ne_m3_m2, ne_m3_m1, ne_m3_0, ne_m3_1, ne_m3_2, ne_m3_3, ne_m2_m5, ne_m2_m4, ne_m2_m3, ne_m2_m1, ne_m2_0, ne_m2_1, ne_m2_2, ne_m2_3, ne_m1_m5, ne_m1_m4, ne_m1_m3, ne_m1_m2, ne_m1_0, ne_m1_1, ne_m1_2, ne_m1_3, ne_0_m5, ne_0_m4, ne_0_m3, ne_0_m2, ne_0_m1, ne_0_1, ne_0_2, ne_0_3, ne_1_m5, ne_1_m4, ne_1_m3, ne_1_m2, ne_1_m1, ne_1_0, ne_1_2, ne_1_3, ne_2_m5, ne_2_m4, ne_2_m3, ne_2_m2, ne_2_m1, ne_2_0, ne_2_1, ne_2_3, ne_3_m5, ne_3_m4, ne_3_m3, ne_3_m2, ne_3_m1, ne_3_0, ne_3_1, ne_3_2, le0_m5, lt0_m5, le0_m4, lt0_m4, le0_m3, lt0_m3, le0_m2, lt0_m2, le0_m1, lt0_m1, le0_0, lt0_0, le0_1, lt0_1, le0_2, lt0_2, le0_3, lt0_3, Nat.reduceLT, Nat.reduceLeDiff, ne_eq, not_true_eq_false, not_false_eq_true, true_and, and_true, Nat.succ_ne_self, upd_ap]) e2
theorem q_isRead {S : zS} {Q : Int32 → zS → Prop} {p len : Nat} (e1 : S.1 1 2 = nI p) (e2 : S.1 1 3 = nI len) (hp : p ≤ 80) (hl : len ≤ 80) : zq p_X8_isRead S Q = Q (bI (p = len)) S := by
  unfold p_X8_isRead
  by_cases e : p = len
  · simp only [q_gi, q_eq, e1, e2, e, i_T, not_true_eq_false, i_F, and_true, q_rz1, bI_T]
  · have ne : (nI p = nI len) = False := eq_false (by rw [nI_eqP (by omega) (by omega)]; exact e)
    simp only [q_gi, q_eq, e1, e2, ne, e, i_T, i_F, true_and, not_false_eq_true, q_rz0, bI_F]
theorem fneg : ∀ p, p < 81 → ((0 : Int32) ≤ -1 - nI p) = False := fun p hp => eq_false ((show ∀ p, p < 81 → ¬ (0 : Int32) ≤ -1 - nI p by decide +kernel) p hp)
/-- two loops side by side, the second may be seen one step further -/
theorem r_fo {ρ ρ' V V' X X' A A' : Type} {body : (V → zM ρ) → (X → zM ρ) → V → zM ρ} {k : X → zM ρ} {body' : (V' → zM ρ') → (X' → zM ρ') → V' → zM ρ'} {k' : X' → zM ρ'} {Q : ρ → zS → ρ' → zS → Prop} (vv : A → Nat → V) (vv' : A' → Nat → V') (e : Nat) (I : A → A' → Nat → zS → zS → Prop) (he : e < 900)
    (hs : ∀ (a : A) (a' : A') (i : Nat) (S T : zS), i < e → I a a' i S T → ∀ (rc : V → zM ρ) (n' : Nat), (∀ b b' S' T', I b b' (i + 1) S' T' → zq (rc (vv b (i + 1))) S' (fun r S1 => zq (zlp body' (n' + 1) (vv' b' (i + 1)) k') T' (Q r S1))) → zq (body rc k (vv a i)) S (fun r S1 => zq (body' (fun v => zlp body' (n' + 1) v k') k' (vv' a' i)) T (Q r S1)))
    (hx : ∀ (a : A) (a' : A') (S T : zS), I a a' e S T → ∀ (rc : V → zM ρ) (n' : Nat), zq (body rc k (vv a e)) S (fun r S1 => zq (body' (fun v => zlp body' (n' + 1) v k') k' (vv' a' e)) T (Q r S1))) (a : A) (a' : A') (i : Nat) (S T : zS) (hi' : i ≤ e) (hI : I a a' i S T) : zq (zlp body zNF (vv a i) k) S (fun r S1 => zq (zlp body' zNF (vv' a' i) k') T (Q r S1)) := by
  have key : ∀ (d i : Nat), i + d = e → ∀ (n n' : Nat), d < n → d + 2 < n' → ∀ (a : A) (a' : A') (S T : zS), I a a' i S T → zq (zlp body n (vv a i) k) S (fun r S1 => zq (zlp body' n' (vv' a' i) k') T (Q r S1)) := by
    intro d
    induction d with
    | zero =>
      intro i hi n n' hn hn' a a' S T hI
      obtain ⟨n1, rfl⟩ : ∃ n1, n = n1 + 1 := ⟨n - 1, by omega⟩
      obtain ⟨n2, rfl⟩ : ∃ n2, n' = n2 + 1 + 1 := ⟨n' - 2, by omega⟩
      have : i = e := by omega
      subst this
      exact hx a a' S T hI _ n2
    | succ d ih =>
      intro i hi n n' hn hn' a a' S T hI
      obtain ⟨n1, rfl⟩ : ∃ n1, n = n1 + 1 := ⟨n - 1, by omega⟩
      obtain ⟨n2, rfl⟩ : ∃ n2, n' = n2 + 1 + 1 := ⟨n' - 2, by omega⟩
      exact hs a a' i S T (by omega) hI _ n2 (fun b b' S' T' hI' => ih (i + 1) (by omega) n1 (n2 + 1) (by omega) (by omega) b b' S' T' hI')
  have := zNF_ge
  exact key (e - i) i (by omega) zNF zNF (by omega) (by omega) a a' S T hI
theorem q_ta {ρ : Type} {t : List Int32} {d : Nat} {S : zS} {k : Int32 → zM ρ} {Q : ρ → zS → Prop} (h : d < t.length) (h2 : d < 1000) : zq (zta t (nI d) k) S Q = zq (k (t.getD d 0)) S Q := by
  have cl : (nI d).toNatClampNeg = d := nI_clamp (by omega)
  have n0 : ¬ nI d < 0 := nI_nlt (a := d) (b := 0) (by omega) (by omega)
  unfold zq zta
  rw [cl, if_neg (by
    rintro (h | h)
    · exact n0 h
    · omega)]
