/-! ===== balloons ===== -/
theorem nI_sub {a b : Nat} : nI (a + b) - nI a = nI b := by
  rw [Nat.add_comm, ← nI_add]
  exact Int32.add_sub_cancel _ _
/-- the relation with text gone and BALLOONS m to m + r new in the yard -/
theorem B_out {m R n r : Nat} {v : z8} {S T S' T' : zS} (hn : n ≤ 512) (h : RC m R v n S T) (hmr : m + r ≤ 6)
    (f1 : ∀ c, (c ≠ 1 ∧ c ≠ 6 ∧ c ≠ 15 ∧ c ≠ 18 ∧ c ≠ 20 ∧ c ≠ 44 ∧ c ≠ 47 ∧ c < 58 ∧ (c < 23 ∨ 28 < c)) → S'.1 c = S.1 c) (f2 : ∀ c, 23 ≤ c → c ≤ 28 → ∀ j, j < m → S'.1 c j = S.1 c j) (f3 : S'.2 = S.2) (f4 : S'.1 20 14 = nI (m + r)) (f5 : S'.1 20 15 = S.1 20 15 ∧ S'.1 20 16 = S.1 20 16) (f6 : S'.1 1 3 = 0) (f7 : S'.1 44 3 = S.1 44 3)
    (g1 : ∀ c, (c ≠ 0 ∧ c ≠ 4 ∧ c ≠ 5 ∧ c ≠ 8 ∧ c ≠ 11 ∧ c ≠ 13 ∧ c ≠ 18 ∧ c ≠ 19 ∧ c ≠ 20) → T'.1 c = T.1 c) (g2 : ∀ j, (j ≠ 0 ∧ j ≠ 4 ∧ j ≠ 5 ∧ j ≠ 16 ∧ j ≠ 17 ∧ j ≠ 18 ∧ j ≠ 19 ∧ j ≠ 21 ∧ j ≠ 25 ∧ j ≠ 28 ∧ j ≠ 38) → T'.1 0 j = T.1 0 j) (g3 : T'.2 = T.2) (g4 : T'.1 0 4 = nI (m + r)) (g5 : ∀ k, k < 7 → ∀ b, b < m → mf (T'.1 8) k b = mf (T.1 8) k b) (g6 : T'.1 8 42 = T.1 8 42) (g7 : T'.1 0 16 = 0) (g8 : ∀ b, b < m → T'.1 4 b = T.1 4 b ∧ T'.1 5 b = T.1 5 b)
    (hnew : ∀ j, j < r → (S'.1 23 (m + j) = mf (T'.1 8) 0 (m + j) ∧ S'.1 24 (m + j) = mf (T'.1 8) 1 (m + j) ∧ S'.1 25 (m + j) = mf (T'.1 8) 2 (m + j) ∧ S'.1 26 (m + j) = T'.1 4 (m + j) ∧ S'.1 27 (m + j) = T'.1 5 (m + j) ∧ S'.1 28 (m + j) = 0 ∧ mf (T'.1 8) 3 (m + j) = 0) ∧ rg 99 (mf (T'.1 8) 0 (m + j)) ∧ rg 9 (mf (T'.1 8) 1 (m + j)) ∧ rg 9 (mf (T'.1 8) 2 (m + j)) ∧ (∃ i : Nat, 1 ≤ i ∧ i ≤ 9 ∧ T'.1 4 (m + j) = nI i) ∧ rg 9 (T'.1 5 (m + j)))
    (hz : (r = 0 ∧ S'.1 44 4 = S.1 44 4 ∧ S'.1 47 = S.1 47 ∧ T'.1 0 5 = T.1 0 5 ∧ T'.1 0 28 = T.1 0 28) ∨ (S'.1 44 4 = 0 ∧ (∀ i, i < 3 → S'.1 47 i = 0) ∧ T'.1 0 5 = T.1 0 5 + 1 ∧ T'.1 0 28 = 0)) (f8 : S'.1 45 = S.1 45) : RR (n + 1) S' T' := by
  obtain ⟨⟨hc, ⟨h1, h2, h3, h4, h5, h6⟩, hT, hW, hX, hM⟩, ⟨hTx, hKe, hMk⟩, hP, hAn⟩ := id h
  have spl : ∀ b, b < m + r → b < m ∨ ∃ j, j < r ∧ b = m + j := fun b hb => by
    rcases Nat.lt_or_ge b m with z | z
    · exact Or.inl z
    · exact Or.inr ⟨b - m, by omega, by omega⟩
  have hN : RNw (n + 1) T' := RNw_c hKe.choose_spec.2.1 g6
  refine ⟨m + r, R, v, ⟨⟨hmr, fun b hb => ?_, ?_⟩, ⟨f4, g4, ?_, ?_, fun b hb => ?_, fun b hb => ?_, fun a b ha hb e1 e2 e3 => ?_⟩, RTo_c hT ?_ ?_ ?_ ?_ ?_ ?_ ?_ ?_ ?_, RWi_c hW ?_ ?_ ?_ ?_ ?_ ?_, RLx_c hX ?_ ?_, RLm_c hM ?_ ?_⟩, ⟨RTx_0 f6 g7, ?_, ?_⟩, ?_, RAn_c hAn ⟨?_, ?_⟩ ⟨?_, ?_⟩⟩
  · rcases spl b hb with z | ⟨j, hj, rfl⟩
    · rw [(g8 b z).1, (g8 b z).2]; exact hc.2.1 b z
    · obtain ⟨-, -, -, -, k1, k2⟩ := hnew j hj
      exact ⟨k1, k2⟩
  · rw [g2 6 (by omega)]; exact hc.2.2
  · rw [f5.1, g6]; exact h3
  · rw [f5.2, g2 6 (by omega)]; exact h4
  · rcases spl b hb with z | ⟨j, hj, rfl⟩
    · rw [f2 (20 + 6) (by omega) (by omega) b z, f2 (20 + 7) (by omega) (by omega) b z, (g8 b z).1, (g8 b z).2]; exact h5 b z
    · obtain ⟨⟨-, -, -, k1, k2, -⟩, -⟩ := hnew j hj
      exact ⟨k1, k2⟩
  · rcases spl b hb with z | ⟨j, hj, rfl⟩
    · refine rrow_c (fun k hk => ?_) (fun k hk => g5 k hk b z) (h6.1 b z)
      show S'.1 (20 + (if k < 3 then k + 3 else k + 5)) b = S.1 (20 + (if k < 3 then k + 3 else k + 5)) b
      by_cases e : 20 + (if k < 3 then k + 3 else k + 5) ≤ 28
      · have : 23 ≤ 20 + (if k < 3 then k + 3 else k + 5) := by split <;> omega
        exact f2 _ this e b z
      · have : 20 + (if k < 3 then k + 3 else k + 5) < 44 := by split <;> omega
        rw [f1 _ (by omega)]
    · obtain ⟨⟨k0, k1, k2, -, -, k5, k6⟩, q0, q1, q2, -⟩ := hnew j hj
      refine ⟨k0, k1, k2, k5.trans k6.symm, fun z => ?_, fun z => ?_, q0, q1, q2, ⟨0, by omega, k6⟩⟩
      · rw [k6] at z; exact absurd z (by decide)
      · rw [k6] at z; exact absurd z (by decide)
  · rcases spl a ha with za | ⟨j, hj, rfl⟩
    · rcases spl b hb with zb | ⟨j, hj, rfl⟩
      · rw [g5 3 (by omega) a za] at e1
        rw [g5 3 (by omega) b zb] at e2
        rw [g5 4 (by omega) a za, g5 4 (by omega) b zb] at e3
        exact h6.2 a b za zb e1 e2 e3
      · rw [(hnew j hj).1.2.2.2.2.2.2] at e2; exact absurd e2 (by decide)
    · rw [(hnew j hj).1.2.2.2.2.2.2] at e1; exact absurd e1 (by decide)
  all_goals try exact f1 _ (by omega)
  all_goals try exact g1 _ (by omega)
  all_goals try exact g2 _ (by omega)
  · rw [f1 3 (by omega)]
  · rcases hz with ⟨rfl, z1, z2, z3, z4⟩ | ⟨z1, z2, z3, z4⟩
    · rw [Nat.add_zero]
      exact RKe_n hKe (f1 46 (by omega)) z2 (g1 33 (by omega)) (g1 34 (by omega)) (g1 35 (by omega)) z3 hN
    · exact RKe_new hKe hn z2 (g1 33 (by omega)) (g1 34 (by omega)) z3 hN
  · unfold RMk at hMk ⊢
    rw [f1 50 (by omega), f1 51 (by omega), f1 52 (by omega), f1 53 (by omega), g2 50 (by omega), g1 28 (by omega), g1 29 (by omega), g1 30 (by omega)]
    exact hMk
  · rcases hz with ⟨rfl, z1, z2, z3, z4⟩ | ⟨z1, z2, z3, z4⟩
    · rw [Nat.add_zero]
      exact RPa_c hP ⟨f7, z1, f8⟩ ⟨z4, g1 16 (by omega)⟩
    · obtain ⟨uu, s, hu, hs, e1, e2, e3, e4⟩ := hP
      exact ⟨0, s, by omega, hs, z1, f7.trans e2, z4, fun j hj => absurd hj (Nat.not_lt_zero j)⟩
  · rw [f1 48 (by omega)]
  · rw [f3]
  · rw [g3]
