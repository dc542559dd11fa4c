/-! ===== comparisons; the whole rule ===== -/
theorem q_zlp2 {ρ V X : Type} {body : (V → zM ρ) → (X → zM ρ) → V → zM ρ} {k : X → zM ρ} {v : V} {S : zS} {Q : ρ → zS → Prop} (h : ∀ n, zq (body (fun v => zlp body (n + 1) v k) k v) S Q) : zq (zlp body zNF v k) S Q := by
  obtain ⟨n, e⟩ : ∃ n, zNF = n + 1 + 1 := ⟨zNF - 2, by have := zNF_ge; omega⟩
  rw [e]
  exact h n
theorem J_compared {to nd F : Nat} {G : (Int32 → zM Int32) × (Int32 → zM Int32) × (Int32 → zM Int32) × (Int32 → zM Int32) × (Int32 → zM Int32)} (hto : to ≤ 40)
    (hsub : ∀ a b p N S T, ST to a b p nd S T → F + (to - p) ≤ N → zq (G.2.1 (nI nd)) S (fun r S2 => zq ((p_X12_readsThing_g N).2 (1 : Int32)) T (JO to a b p nd 0 S T r S2))) :
    ∀ a b p N S T, ST to a b p nd S T → F + 1 + (to - p) ≤ N → zq (p_X7_readCompared_s G (nI nd)) S (fun r S2 => zq ((p_X12_readsThing_g N).2 (0 : Int32)) T (JO to a b p nd 0 S T r S2)) := by
  intro a b p N S T h hN
  obtain ⟨N, rfl⟩ : ∃ j, N = j + 1 := ⟨N - 1, by omega⟩
  have e01 : (0 : Int32) + 1 = 1 := by decide
  show zq (p_X7_readCompared_s G (nI nd)) S (fun r S2 => zq (p_X12_readsRank_s (p_X12_readsThing_g N) (0 : Int32)) T (JO to a b p nd 0 S T r S2))
  unfold p_X7_readCompared_s p_X12_readsRank_s
  rw [q_b]
  refine q_mono (hsub a b p N S T h (by omega)) ?_
  rintro r S2 ⟨r', T2, g1, g2⟩
  simp only [q_eq, ne_0_3, i_T, i_F, true_and, not_false_eq_true, e01, q_b, q_of g1]
  obtain ⟨rfl, ⟨rfl, z⟩ | ⟨rfl, p', y⟩⟩ := g2
  · simp only [i_T, i_F, not_true_eq_false, and_true, q_rz0]
    exact ⟨rfl, Or.inl ⟨rfl, z⟩⟩
  · simp only [ne_1_0, i_T, i_F, true_and, not_false_eq_true]
    obtain ⟨t0, t1, t5, -⟩ := tc01
    have hp := y.2.1
    obtain ⟨h1, h2, h3, h4, h5, h6, h7⟩ := id hp
    rcases r_of (q := 5) (by omega) hp with ⟨i, i1, hpt, i2, i3, i4⟩ | ⟨i1, i2⟩
    · have go : ∀ ch act : Nat, ch < 128 → act < 128 → mch act = ch → (2000 : Int32) + nI i + 0 = nI (2000 + act) → zq (zb p_X8_step (fun x5 => zb (G.2.1 (nI nd)) (fun x6 => zb (p_X7_write ((2000 : Int32) + nI ch)) (fun x7 => zretz x6)))) S2 (fun r S3 => zq (zlp (p_X12_readsRank_b24 (0 : Int32) (p_X12_readsThing_g N)) zNF (1 : Int32) (fun e5 => zretz (1 : Int32))) T2 (JO to a b p nd 0 S T r S3)) := by
        intro ch act hch hact hm hcode
        have hpp := y.2.2.1
        obtain ⟨r, S3, T3, kX, kM, kR⟩ := op_go hto hch hact hm y h.2.2.2.2.1 h.2.2.2.2.2 hpt (fun a b S T hst => hsub a b (p' + 1) N S T hst (by omega))
        have eX : ∀ Q, zq (zb p_X8_step (fun x5 => zb (G.2.1 (nI nd)) (fun x6 => zb (p_X7_write ((2000 : Int32) + nI ch)) (fun x7 => zretz x6)))) S2 Q = zq (zretz r) S3 Q := fun Q => by
          have : zq (zb p_X8_step (fun x5 => zb (G.2.1 (nI nd)) (fun x6 => zb (p_X7_write ((2000 : Int32) + nI ch)) (fun x7 => zretz x6)))) S2 Q = zq (zb (zb p_X8_step (fun _ => zb (G.2.1 (nI nd)) (fun x10 => zb (p_X7_write ((2000 : Int32) + nI ch)) (fun _ => zret x10)))) (fun x10 => zretz x10)) S2 Q := by simp only [q_b, q_ret]
          rw [this, q_b, q_of kX]
        have eM : ∀ Q, zq (zeq r (0 : Int32) (zretz (0 : Int32)) (zretz (1 : Int32))) T3 Q → zq (zlp (p_X12_readsRank_b24 (0 : Int32) (p_X12_readsThing_g N)) zNF (1 : Int32) (fun e5 => zretz (1 : Int32))) T2 Q := fun Q hq => by
          refine q_zlp2 (fun n' => ?_)
          have i0 : ((0 : Int32) ≤ nI i) = True := nI_nn (by omega)
          have : zq (p_X12_readsRank_b24 (0 : Int32) (p_X12_readsThing_g N) (fun v => zlp (p_X12_readsRank_b24 (0 : Int32) (p_X12_readsThing_g N)) (n' + 1) v (fun e5 => zretz (1 : Int32))) (fun e5 => zretz (1 : Int32)) (1 : Int32)) T2 Q = zq (zb (zb ((p_X12_readsThing_g N).2 (1 : Int32)) (fun x9 => zeq x9 (0 : Int32) (zret (0 : Int32)) (zb (p_X12_codes (nI (2000 + act))) (fun _ => zret (1 : Int32))))) (fun r => zeq r (0 : Int32) (zretz (0 : Int32)) (zlp (p_X12_readsRank_b24 (0 : Int32) (p_X12_readsThing_g N)) (n' + 1) (0 : Int32) (fun e5 => zretz (1 : Int32))))) (zpr T2 0 (upd (T2.1 0) 17 (nI (p' + 1)))) Q := by
            rw [p_X12_readsRank_b24]
            simp only [q_eq, ne_1_0, i_T, i_F, true_and, not_false_eq_true, not_true_eq_false, and_true, q_j, q_lt8 (show 5 < 8 by omega), q_b, i4, q_le, i0, e01, le0_0, hcode, q_ret, q_rz0]
          rw [this, q_b, q_of kM]
          have : zq (zlp (p_X12_readsRank_b24 (0 : Int32) (p_X12_readsThing_g N)) (n' + 1) (0 : Int32) (fun e5 => zretz (1 : Int32))) T3 Q = zq (zretz (1 : Int32)) T3 Q := by
            show zq (p_X12_readsRank_b24 _ _ _ _ _) T3 Q = _
            rw [p_X12_readsRank_b24]
            simp only [q_eq, i_T, i_F, not_true_eq_false, and_true]
          rw [q_eq, this]
          rw [q_eq] at hq
          exact hq
        rw [eX]
        rcases kR with ⟨rfl, z⟩ | ⟨rfl, p2, pp, z⟩
        · rw [q_rz0]
          refine eM _ ?_
          simp only [q_eq, i_T, i_F, not_true_eq_false, and_true, q_rz0]
          exact ⟨rfl, Or.inl ⟨rfl, z⟩⟩
        · rw [q_rz1]
          refine eM _ ?_
          simp only [q_eq, ne_1_0, i_T, i_F, true_and, not_false_eq_true, q_rz1]
          exact ⟨rfl, Or.inr ⟨rfl, p2, z⟩⟩
      have ii : i = 0 ∨ i = 1 ∨ i = 2 := by omega
      rcases ii with rfl | rfl | rfl
      · have cc : S2.1 2 p' = 60 := i3.trans (by decide +kernel)
        rw [q_next_t h3 h4 hpt h2, cc]
        simp only [q_j, q_eq, i_T, i_F, not_true_eq_false, and_true]
        exact go 60 0 (by omega) (by omega) (by decide) (by decide)
      · have cc : S2.1 2 p' = 62 := i3.trans (by decide +kernel)
        have nn : ((62 : Int32) = 60) = False := eq_false (by decide)
        rw [q_next_t h3 h4 hpt h2, cc]
        simp only [q_j, q_eq, nn, i_T, i_F, true_and, not_false_eq_true, not_true_eq_false, and_true]
        exact go 62 1 (by omega) (by omega) (by decide) (by decide)
      · have cc : S2.1 2 p' = 61 := i3.trans (by decide +kernel)
        have nn : ((61 : Int32) = 60) = False := eq_false (by decide)
        have nn2 : ((61 : Int32) = 62) = False := eq_false (by decide)
        rw [q_next_t h3 h4 hpt h2, cc]
        simp only [q_j, q_eq, nn, nn2, i_T, i_F, true_and, not_false_eq_true, not_true_eq_false, and_true]
        exact go 61 2 (by omega) (by omega) (by decide) (by decide)
    · have out : zq (zlp (p_X12_readsRank_b24 (0 : Int32) (p_X12_readsThing_g N)) zNF (1 : Int32) (fun e5 => zretz (1 : Int32))) T2 (JO to a b p nd 0 S T 1 S2) := by
        refine q_zlp2 (fun n' => ?_)
        rw [p_X12_readsRank_b24]
        have z3 : ((0 : Int32) ≤ -1) = False := eq_false (by decide)
        simp only [q_eq, ne_1_0, i_T, i_F, true_and, not_false_eq_true, not_true_eq_false, and_true, q_j, q_lt8 (show 5 < 8 by omega), q_b, i2, q_le, z3, q_rz1]
        exact ⟨rfl, Or.inr ⟨rfl, p', y⟩⟩
      by_cases hpt : p' < to
      · have nx : ∀ i ch, i < 3 → tc 5 i = ch → (S2.1 2 p' = ch) = False := fun i ch hi' e => eq_false (fun z => i1 i (by omega) hpt ((h7 p' hpt).1.symm.trans (z.trans e.symm)))
        rw [q_next_t h3 h4 hpt h2]
        simp only [q_j, q_eq, nx 0 60 (by omega) (by decide +kernel), nx 1 62 (by omega) (by decide +kernel), nx 2 61 (by omega) (by decide +kernel), i_T, i_F, true_and, not_false_eq_true, q_rz1]
        exact out
      · have ept : p' = to := by omega
        subst ept
        have n1 : ((-1 : Int32) = 60) = False := eq_false (by decide)
        have n2 : ((-1 : Int32) = 62) = False := eq_false (by decide)
        have n3 : ((-1 : Int32) = 61) = False := eq_false (by decide)
        rw [q_next_f h3 h4 h2]
        simp only [q_j, q_eq, n1, n2, n3, i_T, i_F, true_and, not_false_eq_true, q_rz1]
        exact out
theorem J_rule {to : Nat} (hto : to ≤ 40) : ∀ j nd, nd + j = 4 → ∀ M, 5 * (5 - nd) ≤ M → ∀ a b p N S T, ST to a b p nd S T → 5 * (5 - nd) + (to - p) ≤ N → zq ((p_X7_readCompared_g M).1 (nI nd)) S (fun r S2 => zq ((p_X12_readsThing_g N).2 (0 : Int32)) T (JO to a b p nd 0 S T r S2)) := by
  intro j
  induction j with
  | zero =>
    intro nd hnd M hM a b p N S T h hN
    obtain ⟨B, rfl⟩ : ∃ B, M = B + 5 := ⟨M - 5, by omega⟩
    have s1 := J_signed (to := to) (nd := nd) (B := B) hto (by omega) (fun z => absurd z (by omega))
    have s2 := J_Product (to := to) (nd := nd) (F := 5 * (4 - nd) + 2) (G := p_X7_readCompared_g (B + 2)) hto s1
    have s3 := J_Sum (to := to) (nd := nd) (F := 5 * (4 - nd) + 2 + 1) (G := p_X7_readCompared_g (B + 3)) hto s2
    have s4 := J_compared (to := to) (nd := nd) (F := 5 * (4 - nd) + 2 + 1 + 1) (G := p_X7_readCompared_g (B + 4)) hto s3
    exact s4 a b p N S T h (by omega)
  | succ j ih =>
    intro nd hnd M hM a b p N S T h hN
    obtain ⟨B, rfl⟩ : ∃ B, M = B + 5 := ⟨M - 5, by omega⟩
    have s1 := J_signed (to := to) (nd := nd) (B := B) hto (by omega) (fun _ a b p N S T hst hf => ih (nd + 1) (by omega) B (by omega) a b p N S T hst (by omega))
    have s2 := J_Product (to := to) (nd := nd) (F := 5 * (4 - nd) + 2) (G := p_X7_readCompared_g (B + 2)) hto s1
    have s3 := J_Sum (to := to) (nd := nd) (F := 5 * (4 - nd) + 2 + 1) (G := p_X7_readCompared_g (B + 3)) hto s2
    have s4 := J_compared (to := to) (nd := nd) (F := 5 * (4 - nd) + 2 + 1 + 1) (G := p_X7_readCompared_g (B + 4)) hto s3
    exact s4 a b p N S T h (by omega)
