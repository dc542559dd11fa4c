/-! ===== what a pure program does, as a predicate; rows that run it ===== -/
def zq {ρ : Type} (f : zM ρ) (S : zS) (Q : ρ → zS → Prop) : Prop := ∃ r S', f S = some (r, S') ∧ Q r S'
noncomputable def bI (p : Prop) : Int32 := @ite _ p (Classical.propDecidable p) 1 0
theorem bI_t {p : Prop} (h : p) : bI p = 1 := if_pos h
theorem bI_f {p : Prop} (h : ¬ p) : bI p = 0 := if_neg h
theorem bI_T : bI True = 1 := bI_t trivial
theorem bI_F : bI False = 0 := bI_f id
theorem bI_01 {p : Prop} : bI p = 0 ∨ bI p = 1 := by
  by_cases h : p
  · exact Or.inr (bI_t h)
  · exact Or.inl (bI_f h)
theorem bI_0 {p : Prop} : (bI p = 0) = ¬ p := by
  by_cases h : p
  · rw [bI_t h]
    exact propext ⟨fun e => absurd e (by decide), fun e => absurd h e⟩
  · rw [bI_f h]
    exact propext ⟨fun _ => h, fun _ => rfl⟩
theorem bI_1 {p : Prop} : (bI p = 1) = p := by
  by_cases h : p
  · rw [bI_t h]
    exact propext ⟨fun _ => h, fun _ => rfl⟩
  · rw [bI_f h]
    exact propext ⟨fun e => absurd e (by decide), fun e => absurd e h⟩
/-! small literals -/
theorem ne_m5_m4 : ((-5 : Int32) = (-4 : Int32)) = False := eq_false (by decide)
theorem ne_m5_m3 : ((-5 : Int32) = (-3 : Int32)) = False := eq_false (by decide)
theorem ne_m5_m2 : ((-5 : Int32) = (-2 : Int32)) = False := eq_false (by decide)
theorem ne_m5_m1 : ((-5 : Int32) = (-1 : Int32)) = False := eq_false (by decide)
theorem ne_m5_0 : ((-5 : Int32) = (0 : Int32)) = False := eq_false (by decide)
theorem ne_m5_1 : ((-5 : Int32) = (1 : Int32)) = False := eq_false (by decide)
theorem ne_m5_2 : ((-5 : Int32) = (2 : Int32)) = False := eq_false (by decide)
theorem ne_m5_3 : ((-5 : Int32) = (3 : Int32)) = False := eq_false (by decide)
theorem ne_m4_m5 : ((-4 : Int32) = (-5 : Int32)) = False := eq_false (by decide)
theorem ne_m4_m3 : ((-4 : Int32) = (-3 : Int32)) = False := eq_false (by decide)
theorem ne_m4_m2 : ((-4 : Int32) = (-2 : Int32)) = False := eq_false (by decide)
theorem ne_m4_m1 : ((-4 : Int32) = (-1 : Int32)) = False := eq_false (by decide)
theorem ne_m4_0 : ((-4 : Int32) = (0 : Int32)) = False := eq_false (by decide)
theorem ne_m4_1 : ((-4 : Int32) = (1 : Int32)) = False := eq_false (by decide)
theorem ne_m4_2 : ((-4 : Int32) = (2 : Int32)) = False := eq_false (by decide)
theorem ne_m4_3 : ((-4 : Int32) = (3 : Int32)) = False := eq_false (by decide)
theorem ne_m3_m5 : ((-3 : Int32) = (-5 : Int32)) = False := eq_false (by decide)
theorem ne_m3_m4 : ((-3 : Int32) = (-4 : Int32)) = False := eq_false (by decide)
theorem ne_m3_m2 : ((-3 : Int32) = (-2 : Int32)) = False := eq_false (by decide)
theorem ne_m3_m1 : ((-3 : Int32) = (-1 : Int32)) = False := eq_false (by decide)
theorem ne_m3_0 : ((-3 : Int32) = (0 : Int32)) = False := eq_false (by decide)
theorem ne_m3_1 : ((-3 : Int32) = (1 : Int32)) = False := eq_false (by decide)
theorem ne_m3_2 : ((-3 : Int32) = (2 : Int32)) = False := eq_false (by decide)
theorem ne_m3_3 : ((-3 : Int32) = (3 : Int32)) = False := eq_false (by decide)
theorem ne_m2_m5 : ((-2 : Int32) = (-5 : Int32)) = False := eq_false (by decide)
theorem ne_m2_m4 : ((-2 : Int32) = (-4 : Int32)) = False := eq_false (by decide)
theorem ne_m2_m3 : ((-2 : Int32) = (-3 : Int32)) = False := eq_false (by decide)
theorem ne_m2_m1 : ((-2 : Int32) = (-1 : Int32)) = False := eq_false (by decide)
theorem ne_m2_0 : ((-2 : Int32) = (0 : Int32)) = False := eq_false (by decide)
theorem ne_m2_1 : ((-2 : Int32) = (1 : Int32)) = False := eq_false (by decide)
theorem ne_m2_2 : ((-2 : Int32) = (2 : Int32)) = False := eq_false (by decide)
theorem ne_m2_3 : ((-2 : Int32) = (3 : Int32)) = False := eq_false (by decide)
theorem ne_m1_m5 : ((-1 : Int32) = (-5 : Int32)) = False := eq_false (by decide)
theorem ne_m1_m4 : ((-1 : Int32) = (-4 : Int32)) = False := eq_false (by decide)
theorem ne_m1_m3 : ((-1 : Int32) = (-3 : Int32)) = False := eq_false (by decide)
theorem ne_m1_m2 : ((-1 : Int32) = (-2 : Int32)) = False := eq_false (by decide)
theorem ne_m1_0 : ((-1 : Int32) = (0 : Int32)) = False := eq_false (by decide)
theorem ne_m1_1 : ((-1 : Int32) = (1 : Int32)) = False := eq_false (by decide)
theorem ne_m1_2 : ((-1 : Int32) = (2 : Int32)) = False := eq_false (by decide)
theorem ne_m1_3 : ((-1 : Int32) = (3 : Int32)) = False := eq_false (by decide)
theorem ne_0_m5 : ((0 : Int32) = (-5 : Int32)) = False := eq_false (by decide)
theorem ne_0_m4 : ((0 : Int32) = (-4 : Int32)) = False := eq_false (by decide)
theorem ne_0_m3 : ((0 : Int32) = (-3 : Int32)) = False := eq_false (by decide)
theorem ne_0_m2 : ((0 : Int32) = (-2 : Int32)) = False := eq_false (by decide)
theorem ne_0_m1 : ((0 : Int32) = (-1 : Int32)) = False := eq_false (by decide)
theorem ne_0_1 : ((0 : Int32) = (1 : Int32)) = False := eq_false (by decide)
theorem ne_0_2 : ((0 : Int32) = (2 : Int32)) = False := eq_false (by decide)
theorem ne_0_3 : ((0 : Int32) = (3 : Int32)) = False := eq_false (by decide)
theorem ne_1_m5 : ((1 : Int32) = (-5 : Int32)) = False := eq_false (by decide)
theorem ne_1_m4 : ((1 : Int32) = (-4 : Int32)) = False := eq_false (by decide)
theorem ne_1_m3 : ((1 : Int32) = (-3 : Int32)) = False := eq_false (by decide)
theorem ne_1_m2 : ((1 : Int32) = (-2 : Int32)) = False := eq_false (by decide)
theorem ne_1_m1 : ((1 : Int32) = (-1 : Int32)) = False := eq_false (by decide)
theorem ne_1_0 : ((1 : Int32) = (0 : Int32)) = False := eq_false (by decide)
theorem ne_1_2 : ((1 : Int32) = (2 : Int32)) = False := eq_false (by decide)
theorem ne_1_3 : ((1 : Int32) = (3 : Int32)) = False := eq_false (by decide)
theorem ne_2_m5 : ((2 : Int32) = (-5 : Int32)) = False := eq_false (by decide)
theorem ne_2_m4 : ((2 : Int32) = (-4 : Int32)) = False := eq_false (by decide)
theorem ne_2_m3 : ((2 : Int32) = (-3 : Int32)) = False := eq_false (by decide)
theorem ne_2_m2 : ((2 : Int32) = (-2 : Int32)) = False := eq_false (by decide)
theorem ne_2_m1 : ((2 : Int32) = (-1 : Int32)) = False := eq_false (by decide)
theorem ne_2_0 : ((2 : Int32) = (0 : Int32)) = False := eq_false (by decide)
theorem ne_2_1 : ((2 : Int32) = (1 : Int32)) = False := eq_false (by decide)
theorem ne_2_3 : ((2 : Int32) = (3 : Int32)) = False := eq_false (by decide)
theorem ne_3_m5 : ((3 : Int32) = (-5 : Int32)) = False := eq_false (by decide)
theorem ne_3_m4 : ((3 : Int32) = (-4 : Int32)) = False := eq_false (by decide)
theorem ne_3_m3 : ((3 : Int32) = (-3 : Int32)) = False := eq_false (by decide)
theorem ne_3_m2 : ((3 : Int32) = (-2 : Int32)) = False := eq_false (by decide)
theorem ne_3_m1 : ((3 : Int32) = (-1 : Int32)) = False := eq_false (by decide)
theorem ne_3_0 : ((3 : Int32) = (0 : Int32)) = False := eq_false (by decide)
theorem ne_3_1 : ((3 : Int32) = (1 : Int32)) = False := eq_false (by decide)
theorem ne_3_2 : ((3 : Int32) = (2 : Int32)) = False := eq_false (by decide)
theorem le0_m5 : ((0 : Int32) ≤ (-5 : Int32)) = False := eq_false (by decide)
theorem lt0_m5 : ((-5 : Int32) < (0 : Int32)) = True := eq_true (by decide)
theorem le0_m4 : ((0 : Int32) ≤ (-4 : Int32)) = False := eq_false (by decide)
theorem lt0_m4 : ((-4 : Int32) < (0 : Int32)) = True := eq_true (by decide)
theorem le0_m3 : ((0 : Int32) ≤ (-3 : Int32)) = False := eq_false (by decide)
theorem lt0_m3 : ((-3 : Int32) < (0 : Int32)) = True := eq_true (by decide)
theorem le0_m2 : ((0 : Int32) ≤ (-2 : Int32)) = False := eq_false (by decide)
theorem lt0_m2 : ((-2 : Int32) < (0 : Int32)) = True := eq_true (by decide)
theorem le0_m1 : ((0 : Int32) ≤ (-1 : Int32)) = False := eq_false (by decide)
theorem lt0_m1 : ((-1 : Int32) < (0 : Int32)) = True := eq_true (by decide)
theorem le0_0 : ((0 : Int32) ≤ (0 : Int32)) = True := eq_true (by decide)
theorem lt0_0 : ((0 : Int32) < (0 : Int32)) = False := eq_false (by decide)
theorem le0_1 : ((0 : Int32) ≤ (1 : Int32)) = True := eq_true (by decide)
theorem lt0_1 : ((1 : Int32) < (0 : Int32)) = False := eq_false (by decide)
theorem le0_2 : ((0 : Int32) ≤ (2 : Int32)) = True := eq_true (by decide)
theorem lt0_2 : ((2 : Int32) < (0 : Int32)) = False := eq_false (by decide)
theorem le0_3 : ((0 : Int32) ≤ (3 : Int32)) = True := eq_true (by decide)
theorem lt0_3 : ((3 : Int32) < (0 : Int32)) = False := eq_false (by decide)
section ZQ
variable {ρ α : Type} {S T : zS} {Q : ρ → zS → Prop}
theorem q_of {f : zM ρ} {r : ρ} {S' : zS} (h : f S = some (r, S')) : zq f S Q = Q r S' := by
  apply propext
  constructor
  · rintro ⟨r1, S1, h1, q⟩
    rw [h] at h1
    cases h1
    exact q
  · intro q
    exact ⟨r, S', h, q⟩
theorem q_mono {f : zM ρ} {Q' : ρ → zS → Prop} (h : zq f S Q) (g : ∀ r S', Q r S' → Q' r S') : zq f S Q' := by
  obtain ⟨r, S', h1, q⟩ := h
  exact ⟨r, S', h1, g r S' q⟩
theorem q_ret {v : ρ} : zq (zret v) S Q = Q v S := q_of rfl
theorem q_gi {i j : Nat} {k : Int32 → zM ρ} : zq (zgi i j k) S Q = zq (k (S.1 i j)) S Q := by
  exact propext Iff.rfl
theorem q_gl {i j : Nat} {k : Int64 → zM ρ} : zq (zgl i j k) S Q = zq (k (S.2 i j)) S Q := by
  exact propext Iff.rfl
theorem q_si {i j : Nat} {x : Int32} {k : zM ρ} : zq (zsi i j x k) S Q = zq k (zpi S i j x) Q := by
  exact propext Iff.rfl
theorem q_sl {i j : Nat} {x : Int64} {k : zM ρ} : zq (zsl i j x k) S Q = zq k (zpl S i j x) Q := by
  exact propext Iff.rfl
theorem q_j {Y : Type} {J : Y → zM ρ} {A : (Y → zM ρ) → zM ρ} : zq (zj J A) S Q = zq (A J) S Q := by
  exact propext Iff.rfl
theorem q_b {f : zM α} {k : α → zM ρ} : zq (zb f k) S Q = zq f S (fun r S' => zq (k r) S' Q) := by
  apply propext
  constructor
  · rintro ⟨r, S', h, q⟩
    unfold zb at h
    cases hf : f S with
    | none => rw [hf] at h; cases h
    | some p =>
      rw [hf] at h
      exact ⟨p.1, p.2, hf, r, S', h, q⟩
  · rintro ⟨a, S1, hf, r, S', h, q⟩
    refine ⟨r, S', ?_, q⟩
    unfold zb
    rw [hf]
    exact h
theorem q_eq {x y : Int32} {a b : zM ρ} : zq (zeq x y a b) S Q = ((x = y → zq a S Q) ∧ (¬ x = y → zq b S Q)) := by
  by_cases h : x = y <;> simp [zq, zeq, h]
theorem q_lt {x y : Int32} {a b : zM ρ} : zq (zlt x y a b) S Q = ((x < y → zq a S Q) ∧ (¬ x < y → zq b S Q)) := by
  by_cases h : x < y <;> simp [zq, zlt, h]
theorem q_le {x y : Int32} {a b : zM ρ} : zq (zle x y a b) S Q = ((x ≤ y → zq a S Q) ∧ (¬ x ≤ y → zq b S Q)) := by
  by_cases h : x ≤ y <;> simp [zq, zle, h]
theorem i_T {p : Prop} : (True → p) = p := propext ⟨fun h => h trivial, fun h _ => h⟩
theorem i_F {p : Prop} : (False → p) = True := eq_true (fun h => h.elim)
theorem q_nz {y : Int32} {k : zM ρ} (h : y ≠ 0) : zq (znz y k) S Q = zq k S Q := by
  simp only [zq, znz, h, if_false]
theorem q_nzl {y : Int64} {k : zM ρ} (h : y ≠ 0) : zq (znzl y k) S Q = zq k S Q := by
  simp only [zq, znzl, h, if_false]
theorem q_nz2 {k : zM ρ} : zq (znz 2 k) S Q = zq k S Q := q_nz (by decide)
theorem q_nz8 {k : zM ρ} : zq (znz 8 k) S Q = zq k S Q := q_nz (by decide)
theorem q_nz10 {k : zM ρ} : zq (znz 10 k) S Q = zq k S Q := q_nz (by decide)
theorem q_nz16 {k : zM ρ} : zq (znz 16 k) S Q = zq k S Q := q_nz (by decide)
theorem q_nz24 {k : zM ρ} : zq (znz 24 k) S Q = zq k S Q := q_nz (by decide)
theorem q_rz {v : Int32} {Q : Int32 → zS → Prop} (h : v = 0 ∨ v = 1) : zq (zretz v) S Q = Q v S := q_of (by simp only [zretz, h, if_true])
theorem q_rz0 {Q : Int32 → zS → Prop} : zq (zretz 0) S Q = Q 0 S := q_rz (Or.inl rfl)
theorem q_rz1 {Q : Int32 → zS → Prop} : zq (zretz 1) S Q = Q 1 S := q_rz (Or.inr rfl)
theorem q_rzb {p : Prop} {Q : Int32 → zS → Prop} : zq (zretz (bI p)) S Q = Q (bI p) S := q_rz bI_01
theorem q_al {i n : Nat} {x : Int32} {k : Int32 → zM ρ} (h : vp_in x n) : zq (zal i n x k) S Q = zq (k (S.1 i x.toNatClampNeg)) S Q := by
  unfold vp_in at h
  simp only [zq, zal, h, if_false]
theorem q_as {i n : Nat} {x v : Int32} {k : zM ρ} (h : vp_in x n) : zq (zas i n x v k) S Q = zq k (zpi S i x.toNatClampNeg v) Q := by
  unfold vp_in at h
  simp only [zq, zas, h, if_false]
theorem q_all {i n : Nat} {x : Int32} {k : Int64 → zM ρ} (h : vp_in x n) : zq (zall i n x k) S Q = zq (k (S.2 i x.toNatClampNeg)) S Q := by
  unfold vp_in at h
  simp only [zq, zall, h, if_false]
theorem q_asl {i n : Nat} {x : Int32} {v : Int64} {k : zM ρ} (h : vp_in x n) : zq (zasl i n x v k) S Q = zq k (zpl S i x.toNatClampNeg v) Q := by
  unfold vp_in at h
  simp only [zq, zasl, h, if_false]
theorem q_alN {i n c : Nat} {k : Int32 → zM ρ} (h : c < n) (hn : n ≤ 1000) : zq (zal i n (nI c) k) S Q = zq (k (S.1 i c)) S Q := by
  rw [q_al (vp_in_nI h (by omega)), nI_clamp (by omega)]
theorem q_asN {i n c : Nat} {v : Int32} {k : zM ρ} (h : c < n) (hn : n ≤ 1000) : zq (zas i n (nI c) v k) S Q = zq k (zpi S i c v) Q := by
  rw [q_as (vp_in_nI h (by omega)), nI_clamp (by omega)]
theorem q_allN {i n c : Nat} {k : Int64 → zM ρ} (h : c < n) (hn : n ≤ 1000) : zq (zall i n (nI c) k) S Q = zq (k (S.2 i c)) S Q := by
  rw [q_all (vp_in_nI h (by omega)), nI_clamp (by omega)]
theorem q_aslN {i n c : Nat} {v : Int64} {k : zM ρ} (h : c < n) (hn : n ≤ 1000) : zq (zasl i n (nI c) v k) S Q = zq k (zpl S i c v) Q := by
  rw [q_asl (vp_in_nI h (by omega)), nI_clamp (by omega)]
theorem q_al_0 {i n : Nat} {k : Int32 → zM ρ} (h : 0 < n) (hn : n ≤ 1000) : zq (zal i n (0 : Int32) k) S Q = zq (k (S.1 i 0)) S Q := q_alN (c := 0) h hn
theorem q_as_0 {i n : Nat} {v : Int32} {k : zM ρ} (h : 0 < n) (hn : n ≤ 1000) : zq (zas i n (0 : Int32) v k) S Q = zq k (zpi S i 0 v) Q := q_asN (c := 0) h hn
theorem q_al_1 {i n : Nat} {k : Int32 → zM ρ} (h : 1 < n) (hn : n ≤ 1000) : zq (zal i n (1 : Int32) k) S Q = zq (k (S.1 i 1)) S Q := q_alN (c := 1) h hn
theorem q_as_1 {i n : Nat} {v : Int32} {k : zM ρ} (h : 1 < n) (hn : n ≤ 1000) : zq (zas i n (1 : Int32) v k) S Q = zq k (zpi S i 1 v) Q := q_asN (c := 1) h hn
theorem q_al_2 {i n : Nat} {k : Int32 → zM ρ} (h : 2 < n) (hn : n ≤ 1000) : zq (zal i n (2 : Int32) k) S Q = zq (k (S.1 i 2)) S Q := q_alN (c := 2) h hn
theorem q_as_2 {i n : Nat} {v : Int32} {k : zM ρ} (h : 2 < n) (hn : n ≤ 1000) : zq (zas i n (2 : Int32) v k) S Q = zq k (zpi S i 2 v) Q := q_asN (c := 2) h hn
theorem q_al_3 {i n : Nat} {k : Int32 → zM ρ} (h : 3 < n) (hn : n ≤ 1000) : zq (zal i n (3 : Int32) k) S Q = zq (k (S.1 i 3)) S Q := q_alN (c := 3) h hn
theorem q_as_3 {i n : Nat} {v : Int32} {k : zM ρ} (h : 3 < n) (hn : n ≤ 1000) : zq (zas i n (3 : Int32) v k) S Q = zq k (zpi S i 3 v) Q := q_asN (c := 3) h hn
theorem q_al_4 {i n : Nat} {k : Int32 → zM ρ} (h : 4 < n) (hn : n ≤ 1000) : zq (zal i n (4 : Int32) k) S Q = zq (k (S.1 i 4)) S Q := q_alN (c := 4) h hn
theorem q_as_4 {i n : Nat} {v : Int32} {k : zM ρ} (h : 4 < n) (hn : n ≤ 1000) : zq (zas i n (4 : Int32) v k) S Q = zq k (zpi S i 4 v) Q := q_asN (c := 4) h hn
theorem q_al_5 {i n : Nat} {k : Int32 → zM ρ} (h : 5 < n) (hn : n ≤ 1000) : zq (zal i n (5 : Int32) k) S Q = zq (k (S.1 i 5)) S Q := q_alN (c := 5) h hn
theorem q_as_5 {i n : Nat} {v : Int32} {k : zM ρ} (h : 5 < n) (hn : n ≤ 1000) : zq (zas i n (5 : Int32) v k) S Q = zq k (zpi S i 5 v) Q := q_asN (c := 5) h hn
theorem q_al_6 {i n : Nat} {k : Int32 → zM ρ} (h : 6 < n) (hn : n ≤ 1000) : zq (zal i n (6 : Int32) k) S Q = zq (k (S.1 i 6)) S Q := q_alN (c := 6) h hn
theorem q_as_6 {i n : Nat} {v : Int32} {k : zM ρ} (h : 6 < n) (hn : n ≤ 1000) : zq (zas i n (6 : Int32) v k) S Q = zq k (zpi S i 6 v) Q := q_asN (c := 6) h hn
theorem q_al_7 {i n : Nat} {k : Int32 → zM ρ} (h : 7 < n) (hn : n ≤ 1000) : zq (zal i n (7 : Int32) k) S Q = zq (k (S.1 i 7)) S Q := q_alN (c := 7) h hn
theorem q_as_7 {i n : Nat} {v : Int32} {k : zM ρ} (h : 7 < n) (hn : n ≤ 1000) : zq (zas i n (7 : Int32) v k) S Q = zq k (zpi S i 7 v) Q := q_asN (c := 7) h hn
theorem q_a42 {i n : Nat} {k : Int32 → zM ρ} (h : 42 < n) (hn : n ≤ 1000) : zq (zal i n (42 : Int32) k) S Q = zq (k (S.1 i 42)) S Q := q_alN (c := 42) h hn
theorem q_s42 {i n : Nat} {v : Int32} {k : zM ρ} (h : 42 < n) (hn : n ≤ 1000) : zq (zas i n (42 : Int32) v k) S Q = zq k (zpi S i 42 v) Q := q_asN (c := 42) h hn
end ZQ
/-! the state behind a write -/
section ZST
variable {S : zS} {i j a : Nat} {f g : Nat → Int32} {p q : Nat → Int64} {x : Int32} {y : Int64}
theorem zpi_d : zpi S i j x = zpr S i (upd (S.1 i) j x) := by
  exact id rfl
theorem zpl_d : zpl S i j y = zpq S i (vp_updL (S.2 i) j y) := by
  exact id rfl
theorem zpr_1 : (zpr S i f).1 a = if a = i then f else S.1 a := by
  exact id rfl
theorem zpr_2 : (zpr S i f).2 = S.2 := by
  exact id rfl
theorem zpq_1 : (zpq S i p).1 = S.1 := by
  exact id rfl
theorem zpq_2 : (zpq S i p).2 a = if a = i then p else S.2 a := by
  exact id rfl
theorem zpr_n (h : a ≠ i) : (zpr S i f).1 a = S.1 a := by rw [zpr_1, if_neg h]
theorem zpr_o : zpr (zpr S i f) i g = zpr S i g := by
  unfold zpr
  refine Prod.ext (funext fun a => ?_) rfl
  show (if a = i then g else if a = i then f else S.1 a) = if a = i then g else S.1 a
  split <;> rfl
theorem zpq_o : zpq (zpq S i p) i q = zpq S i q := by
  unfold zpq
  refine Prod.ext rfl (funext fun a => ?_)
  show (if a = i then q else if a = i then p else S.2 a) = if a = i then q else S.2 a
  split <;> rfl
theorem zpr_id : zpr S i (S.1 i) = S := by
  unfold zpr
  refine Prod.ext (funext fun a => ?_) rfl
  show (if a = i then S.1 i else S.1 a) = S.1 a
  split
  · rename_i h; rw [h]
  · rfl
theorem upd_ap {k : Nat} : upd f k x j = if j = k then x else f j := by
  by_cases h : j = k
  · rw [h, pk_us, if_pos rfl]
  · rw [pk_un h, if_neg h]
theorem updL_ap {k : Nat} : vp_updL p k y j = if j = k then y else p j := by
  exact id rfl
theorem upd_upd {k : Nat} {z : Int32} : upd (upd f k x) k z = upd f k z := by
  funext j
  simp only [upd_ap]
  split <;> rfl
end ZST
/-! the reference's rows of seven -/
def mf (f : Nat → Int32) (k b : Nat) : Int32 := f (7 * b + k)
def mu (f : Nat → Int32) (k b : Nat) (v : Int32) : Nat → Int32 := upd f (7 * b + k) v
theorem mf_mu {f : Nat → Int32} {k b k' b' : Nat} {v : Int32} (hk : k < 7) (hk' : k' < 7) : mf (mu f k b v) k' b' = if k' = k ∧ b' = b then v else mf f k' b' := by
  unfold mf mu
  rw [upd_ap]
  by_cases h : k' = k ∧ b' = b
  · rw [if_pos h, if_pos (by rw [h.1, h.2])]
  · rw [if_neg h, if_neg (by omega)]
theorem mu_42 {f : Nat → Int32} {k b : Nat} {v : Int32} (hk : k < 7) (hb : b < 6) : mu f k b v 42 = f 42 := by
  unfold mu
  rw [upd_ap, if_neg (by omega)]
theorem mf_42 {f : Nat → Int32} {k b : Nat} {v : Int32} (hk : k < 7) (hb : b < 6) : mf (upd f 42 v) k b = mf f k b := by
  unfold mf
  rw [upd_ap, if_neg (by omega)]
section ZM7
variable {ρ : Type} {S : zS} {Q : ρ → zS → Prop} {r b : Nat}
theorem m7_0 : (7 : Int32) * nI b + (0 : Int32) = nI (7 * b + 0) := by
  rw [show (7 : Int32) = nI 7 from rfl, pk_mul, show (0 : Int32) = nI 0 from rfl, nI_add]
theorem q_am_0 {k : Int32 → zM ρ} (h : b < 6) : zq (zal r 43 ((7 : Int32) * nI b + (0 : Int32)) k) S Q = zq (k (mf (S.1 r) 0 b)) S Q := by
  rw [m7_0, q_alN (by omega) (by omega)]
  rfl
theorem q_ms_0 {v : Int32} {k : zM ρ} (h : b < 6) : zq (zas r 43 ((7 : Int32) * nI b + (0 : Int32)) v k) S Q = zq k (zpr S r (mu (S.1 r) 0 b v)) Q := by
  rw [m7_0, q_asN (by omega) (by omega)]
  rfl
theorem m7_1 : (7 : Int32) * nI b + (1 : Int32) = nI (7 * b + 1) := by
  rw [show (7 : Int32) = nI 7 from rfl, pk_mul, show (1 : Int32) = nI 1 from rfl, nI_add]
theorem q_am_1 {k : Int32 → zM ρ} (h : b < 6) : zq (zal r 43 ((7 : Int32) * nI b + (1 : Int32)) k) S Q = zq (k (mf (S.1 r) 1 b)) S Q := by
  rw [m7_1, q_alN (by omega) (by omega)]
  rfl
theorem q_ms_1 {v : Int32} {k : zM ρ} (h : b < 6) : zq (zas r 43 ((7 : Int32) * nI b + (1 : Int32)) v k) S Q = zq k (zpr S r (mu (S.1 r) 1 b v)) Q := by
  rw [m7_1, q_asN (by omega) (by omega)]
  rfl
theorem m7_2 : (7 : Int32) * nI b + (2 : Int32) = nI (7 * b + 2) := by
  rw [show (7 : Int32) = nI 7 from rfl, pk_mul, show (2 : Int32) = nI 2 from rfl, nI_add]
theorem q_am_2 {k : Int32 → zM ρ} (h : b < 6) : zq (zal r 43 ((7 : Int32) * nI b + (2 : Int32)) k) S Q = zq (k (mf (S.1 r) 2 b)) S Q := by
  rw [m7_2, q_alN (by omega) (by omega)]
  rfl
theorem q_ms_2 {v : Int32} {k : zM ρ} (h : b < 6) : zq (zas r 43 ((7 : Int32) * nI b + (2 : Int32)) v k) S Q = zq k (zpr S r (mu (S.1 r) 2 b v)) Q := by
  rw [m7_2, q_asN (by omega) (by omega)]
  rfl
theorem m7_3 : (7 : Int32) * nI b + (3 : Int32) = nI (7 * b + 3) := by
  rw [show (7 : Int32) = nI 7 from rfl, pk_mul, show (3 : Int32) = nI 3 from rfl, nI_add]
theorem q_am_3 {k : Int32 → zM ρ} (h : b < 6) : zq (zal r 43 ((7 : Int32) * nI b + (3 : Int32)) k) S Q = zq (k (mf (S.1 r) 3 b)) S Q := by
  rw [m7_3, q_alN (by omega) (by omega)]
  rfl
theorem q_ms_3 {v : Int32} {k : zM ρ} (h : b < 6) : zq (zas r 43 ((7 : Int32) * nI b + (3 : Int32)) v k) S Q = zq k (zpr S r (mu (S.1 r) 3 b v)) Q := by
  rw [m7_3, q_asN (by omega) (by omega)]
  rfl
theorem m7_4 : (7 : Int32) * nI b + (4 : Int32) = nI (7 * b + 4) := by
  rw [show (7 : Int32) = nI 7 from rfl, pk_mul, show (4 : Int32) = nI 4 from rfl, nI_add]
theorem q_am_4 {k : Int32 → zM ρ} (h : b < 6) : zq (zal r 43 ((7 : Int32) * nI b + (4 : Int32)) k) S Q = zq (k (mf (S.1 r) 4 b)) S Q := by
  rw [m7_4, q_alN (by omega) (by omega)]
  rfl
theorem q_ms_4 {v : Int32} {k : zM ρ} (h : b < 6) : zq (zas r 43 ((7 : Int32) * nI b + (4 : Int32)) v k) S Q = zq k (zpr S r (mu (S.1 r) 4 b v)) Q := by
  rw [m7_4, q_asN (by omega) (by omega)]
  rfl
theorem m7_5 : (7 : Int32) * nI b + (5 : Int32) = nI (7 * b + 5) := by
  rw [show (7 : Int32) = nI 7 from rfl, pk_mul, show (5 : Int32) = nI 5 from rfl, nI_add]
theorem q_am_5 {k : Int32 → zM ρ} (h : b < 6) : zq (zal r 43 ((7 : Int32) * nI b + (5 : Int32)) k) S Q = zq (k (mf (S.1 r) 5 b)) S Q := by
  rw [m7_5, q_alN (by omega) (by omega)]
  rfl
theorem q_ms_5 {v : Int32} {k : zM ρ} (h : b < 6) : zq (zas r 43 ((7 : Int32) * nI b + (5 : Int32)) v k) S Q = zq k (zpr S r (mu (S.1 r) 5 b v)) Q := by
  rw [m7_5, q_asN (by omega) (by omega)]
  rfl
theorem m7_6 : (7 : Int32) * nI b + (6 : Int32) = nI (7 * b + 6) := by
  rw [show (7 : Int32) = nI 7 from rfl, pk_mul, show (6 : Int32) = nI 6 from rfl, nI_add]
theorem q_am_6 {k : Int32 → zM ρ} (h : b < 6) : zq (zal r 43 ((7 : Int32) * nI b + (6 : Int32)) k) S Q = zq (k (mf (S.1 r) 6 b)) S Q := by
  rw [m7_6, q_alN (by omega) (by omega)]
  rfl
theorem q_ms_6 {v : Int32} {k : zM ρ} (h : b < 6) : zq (zas r 43 ((7 : Int32) * nI b + (6 : Int32)) v k) S Q = zq k (zpr S r (mu (S.1 r) 6 b v)) Q := by
  rw [m7_6, q_asN (by omega) (by omega)]
  rfl
end ZM7
/-! loops -/
section ZLP
variable {ρ ρ' V V' X X' A A' : Type}
theorem q_lp {body : (V → zM ρ) → (X → zM ρ) → V → zM ρ} {k : X → zM ρ} {Q : ρ → zS → Prop} (I : V → zS → Prop) (m : V → Nat)
    (hb : ∀ (rc : V → zM ρ) (v : V) (S : zS), I v S → (∀ v' S', I v' S' → m v' < m v → zq (rc v') S' Q) → zq (body rc k v) S Q) :
    ∀ (n : Nat) (v : V) (S : zS), I v S → m v < n → zq (zlp body n v k) S Q
  | 0, _, _, _, h => absurd h (Nat.not_lt_zero _)
  | n + 1, v, S, hI, h => hb _ v S hI (fun v' S' hI' h' => q_lp I m hb n v' S' hI' (by omega))
theorem q_for {body : (V → zM ρ) → (X → zM ρ) → V → zM ρ} {k : X → zM ρ} {Q : ρ → zS → Prop} (vv : A → Nat → V) (e : Nat) (I : A → Nat → zS → Prop) (he : e < 1000)
    (hs : ∀ (a : A) (i : Nat) (S : zS), i < e → I a i S → ∀ rc : V → zM ρ, (∀ a' S', I a' (i + 1) S' → zq (rc (vv a' (i + 1))) S' Q) → zq (body rc k (vv a i)) S Q)
    (hx : ∀ (a : A) (S : zS), I a e S → ∀ rc : V → zM ρ, zq (body rc k (vv a e)) S Q) (a : A) (i : Nat) (S : zS) (hi : i ≤ e) (hI : I a i S) : zq (zlp body zNF (vv a i) k) S Q := by
  have key : ∀ (d i : Nat), i + d = e → ∀ (n : Nat), d < n → ∀ (a : A) (S : zS), I a i S → zq (zlp body n (vv a i) k) S Q := by
    intro d
    induction d with
    | zero =>
      intro i hi n hn a S hI
      obtain ⟨n', rfl⟩ : ∃ n', n = n' + 1 := ⟨n - 1, by omega⟩
      have : i = e := by omega
      subst this
      exact hx a S hI _
    | succ d ih =>
      intro i hi n hn a S hI
      obtain ⟨n', rfl⟩ : ∃ n', n = n' + 1 := ⟨n - 1, by omega⟩
      exact hs a i S (by omega) hI _ (fun a' S' hI' => ih (i + 1) (by omega) n' (by omega) a' S' hI')
  have := zNF_ge
  exact key (e - i) i (by omega) zNF (by omega) a S hI
theorem r_for {body : (V → zM ρ) → (X → zM ρ) → V → zM ρ} {k : X → zM ρ} {body' : (V' → zM ρ') → (X' → zM ρ') → V' → zM ρ'} {k' : X' → zM ρ'} {Q : ρ → zS → ρ' → zS → Prop} (vv : A → Nat → V) (vv' : A' → Nat → V') (e : Nat) (I : A → A' → Nat → zS → zS → Prop) (he : e < 1000)
    (hs : ∀ (a : A) (a' : A') (i : Nat) (S T : zS), i < e → I a a' i S T → ∀ (rc : V → zM ρ) (rc' : V' → zM ρ'), (∀ b b' S' T', I b b' (i + 1) S' T' → zq (rc (vv b (i + 1))) S' (fun r S1 => zq (rc' (vv' b' (i + 1))) T' (Q r S1))) → zq (body rc k (vv a i)) S (fun r S1 => zq (body' rc' k' (vv' a' i)) T (Q r S1)))
    (hx : ∀ (a : A) (a' : A') (S T : zS), I a a' e S T → ∀ (rc : V → zM ρ) (rc' : V' → zM ρ'), zq (body rc k (vv a e)) S (fun r S1 => zq (body' rc' k' (vv' a' e)) T (Q r S1))) (a : A) (a' : A') (i : Nat) (S T : zS) (hi : i ≤ e) (hI : I a a' i S T) : zq (zlp body zNF (vv a i) k) S (fun r S1 => zq (zlp body' zNF (vv' a' i) k') T (Q r S1)) := by
  have key : ∀ (d i : Nat), i + d = e → ∀ (n n' : Nat), d < n → d < n' → ∀ (a : A) (a' : A') (S T : zS), I a a' i S T → zq (zlp body n (vv a i) k) S (fun r S1 => zq (zlp body' n' (vv' a' i) k') T (Q r S1)) := by
    intro d
    induction d with
    | zero =>
      intro i hi n n' hn hn' a a' S T hI
      obtain ⟨n1, rfl⟩ : ∃ n1, n = n1 + 1 := ⟨n - 1, by omega⟩
      obtain ⟨n2, rfl⟩ : ∃ n2, n' = n2 + 1 := ⟨n' - 1, by omega⟩
      have : i = e := by omega
      subst this
      exact hx a a' S T hI _ _
    | succ d ih =>
      intro i hi n n' hn hn' a a' S T hI
      obtain ⟨n1, rfl⟩ : ∃ n1, n = n1 + 1 := ⟨n - 1, by omega⟩
      obtain ⟨n2, rfl⟩ : ∃ n2, n' = n2 + 1 := ⟨n' - 1, by omega⟩
      exact hs a a' i S T (by omega) hI _ _ (fun b b' S' T' hI' => ih (i + 1) (by omega) n1 n2 (by omega) (by omega) b b' S' T' hI')
  have := zNF_ge
  exact key (e - i) i (by omega) zNF zNF (by omega) (by omega) a a' S T hI
/-- two programs side by side: the first parts, then the rest -/
theorem r_bb {α α' : Type} {f : zM α} {k : α → zM ρ} {f' : zM α'} {k' : α' → zM ρ'} {Q : ρ → zS → ρ' → zS → Prop} {S T : zS} (h : zq f S (fun a S1 => zq f' T (fun a' T1 => zq (k a) S1 (fun r S2 => zq (k' a') T1 (Q r S2))))) : zq (zb f k) S (fun r S2 => zq (zb f' k') T (Q r S2)) := by
  obtain ⟨a, S1, h1, a', T1, h2, h3⟩ := h
  rw [q_b, q_of h1]
  refine q_mono h3 (fun r S2 h4 => ?_)
  rw [q_b, q_of h2]
  exact h4
end ZLP
