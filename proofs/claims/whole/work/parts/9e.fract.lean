/-! ===== fractions, powers ===== -/
theorem lz {a : Nat} (ha : a < 2 ^ 63) : (lg_cmp (lN a) 0 = 0) = (a = 0) := by
  rw [show (0 : Int64) = lN 0 from rfl]
  exact propext ((lg_cmp_eq _ _).trans (pk_lEQ ha (by omega)))
theorem lnz {a : Nat} (ha : a < 2 ^ 63) (h : a ≠ 0) : lN a ≠ 0 := fun z => h ((pk_lEQ (b := 0) ha (by omega)).mp z)
theorem mod_half {b r : Nat} (hr : 0 < r) (hrb : r < b) : 2 * (b % r) < b := by
  have h1 := Nat.mod_lt b hr
  by_cases h : 2 * r ≤ b
  · omega
  · have : b % r = b - r := by
      rw [Nat.mod_eq_sub_mod (by omega), Nat.mod_eq_of_lt (by omega)]
    omega
theorem x_gcd {kk : Int64 → zM Unit} {S : zS} {Q : Unit → zS → Prop} : ∀ (j a b k n : Nat), a < 2 ^ 63 → b < 2 ^ 63 → b < 2 ^ j → k + 2 * j ≤ 128 → 2 * j < n → zq (kk (lN (Nat.gcd a b))) S Q → zq (zlp p_X11_tellFraction_b9 n (lN a, lN b, nI k) kk) S Q := by
  have stop : ∀ (a k n : Nat), zq (kk (lN a)) S Q → zq (zlp p_X11_tellFraction_b9 (n + 1) (lN a, lN 0, nI k) kk) S Q := by
    intro a k n hq
    show zq (p_X11_tellFraction_b9 _ _ _) S Q
    unfold p_X11_tellFraction_b9
    have e : (lg_cmp (lN 0) 0 = 0) = True := by rw [lz (by omega)]; exact eq_true rfl
    simp only [q_le, q_eq, e, i_T, i_F, not_true_eq_false, and_true]
    exact ⟨fun _ => hq, fun _ => hq⟩
  intro j
  induction j with
  | zero =>
    intro a b k n ha hb63 hb hk hn hq
    obtain ⟨n, rfl⟩ : ∃ i, n = i + 1 := ⟨n - 1, by omega⟩
    have b0 : b = 0 := by simpa using hb
    subst b0
    rw [Nat.gcd_zero_right] at hq
    exact stop a k n hq
  | succ j ih =>
    intro a b k n ha hb63 hb hk hn hq
    obtain ⟨n, rfl⟩ : ∃ i, n = i + 2 := ⟨n - 2, by omega⟩
    have k128 : ((128 : Int32) ≤ nI k) = False := eq_false (by rw [show (128 : Int32) = nI 128 from rfl, nI_leP (by omega) (by omega)]; omega)
    have k129 : ((128 : Int32) ≤ nI (k + 1)) = False := eq_false (by rw [show (128 : Int32) = nI 128 from rfl, nI_leP (by omega) (by omega)]; omega)
    by_cases b0 : b = 0
    · subst b0
      rw [Nat.gcd_zero_right] at hq
      exact stop a k (n + 1) hq
    · have e : (lg_cmp (lN b) 0 = 0) = False := by rw [lz hb63]; exact eq_false b0
      have hr := Nat.mod_lt a (show b > 0 by omega)
      show zq (p_X11_tellFraction_b9 _ _ _) S Q
      rw [p_X11_tellFraction_b9]
      simp only [q_le, q_eq, k128, e, i_T, i_F, true_and, not_false_eq_true, q_nzl (lnz hb63 b0), pk_lRem ha (show 0 < b by omega) hb63, nI_1]
      by_cases r0 : a % b = 0
      · rw [r0]
        rw [show Nat.gcd a b = b by rw [Nat.gcd_comm, Nat.gcd_rec, r0, Nat.gcd_zero_left]] at hq
        exact stop b (k + 1) n hq
      · have e2 : (lg_cmp (lN (a % b)) 0 = 0) = False := by rw [lz (by omega)]; exact eq_false r0
        have hm := mod_half (b := b) (r := a % b) (by omega) hr
        show zq (p_X11_tellFraction_b9 _ _ _) S Q
        rw [p_X11_tellFraction_b9]
        simp only [q_le, q_eq, k129, e2, i_T, i_F, true_and, not_false_eq_true, q_nzl (lnz (show a % b < 2 ^ 63 by omega) r0), pk_lRem hb63 (show 0 < a % b by omega) (show a % b < 2 ^ 63 by omega), nI_1]
        have h2 : 2 ^ (j + 1) = 2 * 2 ^ j := by rw [Nat.pow_succ]; omega
        refine ih (a % b) (b % (a % b)) (k + 1 + 1) n (by omega) (by omega) (by omega) (by omega) (by omega) ?_
        rw [Nat.gcd_comm (a % b) (b % (a % b)), ← Nat.gcd_rec (a % b) b, ← Nat.gcd_rec b a, Nat.gcd_comm]
        exact hq
theorem x_tellF {u d : Nat} {S : zS} {Q : Unit → zS → Prop} (hu : u < 2 ^ 62) (hd : d < 2 ^ 62) (d0 : 0 < d) : zq (p_X11_tellFraction (lN u) (lN d)) S Q = Q () (zpr (zpq S 49 (vp_updL (vp_updL (S.2 49) 0 (lN (u / Nat.gcd u d))) 1 (lN (d / Nat.gcd u d)))) 48 (upd (S.1 48) 1 2)) := by
  have g0 : 0 < Nat.gcd d u := Nat.gcd_pos_of_pos_left u d0
  have gd : Nat.gcd d u ≤ d := Nat.le_of_dvd d0 (Nat.gcd_dvd_left d u)
  have key : zq (p_X11_tellFraction (lN u) (lN d)) S (fun _ S' => S' = zpr (zpq S 49 (vp_updL (vp_updL (S.2 49) 0 (lN (u / Nat.gcd u d))) 1 (lN (d / Nat.gcd u d)))) 48 (upd (S.1 48) 1 2)) := by
    unfold p_X11_tellFraction
    have zf := zNF_ge
    refine x_gcd 62 d u 0 zNF (by omega) (by omega) hu (by omega) (by omega) ?_
    have e : (lg_cmp (lN (Nat.gcd d u)) 0 = 0) = False := by rw [lz (by omega)]; exact eq_false (by omega)
    have nz : lN (Nat.gcd d u) ≠ 0 := lnz (by omega) (by omega)
    simp only [q_eq, e, i_T, i_F, true_and, not_false_eq_true, q_nzl nz, q_b, pk_lDiv (show u < 2 ^ 63 by omega) g0 (show Nat.gcd d u < 2 ^ 63 by omega), pk_lDiv (show d < 2 ^ 63 by omega) g0 (show Nat.gcd d u < 2 ^ 63 by omega), q_tell, q_ret]
    rw [Nat.gcd_comm]
  obtain ⟨r, S', h1, rfl⟩ := key
  exact q_of h1
theorem m_gcd {T : zS} {Q : Int64 → zS → Prop} : ∀ (j a b n : Nat), a < 2 ^ 63 → b < 2 ^ 63 → b < 2 ^ j → 2 * j < n → Q (lN (Nat.gcd a b)) T → zq (p_X12_common_g n (lN a, lN b)) T Q := by
  have stop : ∀ (a n : Nat), Q (lN a) T → zq (p_X12_common_g (n + 1) (lN a, lN 0)) T Q := by
    intro a n hq
    show zq (p_X12_common_s _ _ _) T Q
    unfold p_X12_common_s
    have e : (lg_cmp (lN 0) 0 = 0) = True := by rw [lz (by omega)]; exact eq_true rfl
    simp only [q_eq, e, i_T, i_F, not_true_eq_false, and_true, q_ret]
    exact hq
  intro j
  induction j with
  | zero =>
    intro a b n ha hb63 hb hn hq
    obtain ⟨n, rfl⟩ : ∃ i, n = i + 1 := ⟨n - 1, by omega⟩
    have b0 : b = 0 := by simpa using hb
    subst b0
    rw [Nat.gcd_zero_right] at hq
    exact stop a n hq
  | succ j ih =>
    intro a b n ha hb63 hb hn hq
    obtain ⟨n, rfl⟩ : ∃ i, n = i + 2 := ⟨n - 2, by omega⟩
    by_cases b0 : b = 0
    · subst b0
      rw [Nat.gcd_zero_right] at hq
      exact stop a (n + 1) hq
    · have e : (lg_cmp (lN b) 0 = 0) = False := by rw [lz hb63]; exact eq_false b0
      have hr := Nat.mod_lt a (show b > 0 by omega)
      show zq (p_X12_common_s _ _ _) T Q
      unfold p_X12_common_s
      simp only [q_eq, e, i_T, i_F, true_and, not_false_eq_true, q_nzl (lnz hb63 b0), pk_lRem ha (show 0 < b by omega) hb63, q_b]
      have fin : ∀ Q', zq (p_X12_common_g (n + 1) (lN b, lN (a % b))) T Q' = zq (p_X12_common_g (n + 1) (lN b, lN (a % b))) T Q' := fun _ => rfl
      simp only [q_ret]
      by_cases r0 : a % b = 0
      · rw [r0]
        rw [show Nat.gcd a b = b by rw [Nat.gcd_comm, Nat.gcd_rec, r0, Nat.gcd_zero_left]] at hq
        exact stop b n hq
      · have e2 : (lg_cmp (lN (a % b)) 0 = 0) = False := by rw [lz (by omega)]; exact eq_false r0
        have hm := mod_half (b := b) (r := a % b) (by omega) hr
        show zq (p_X12_common_s _ _ _) T Q
        unfold p_X12_common_s
        simp only [q_eq, e2, i_T, i_F, true_and, not_false_eq_true, q_nzl (lnz (show a % b < 2 ^ 63 by omega) r0), pk_lRem hb63 (show 0 < a % b by omega) (show a % b < 2 ^ 63 by omega), q_b, q_ret]
        have h2 : 2 ^ (j + 1) = 2 * 2 ^ j := by rw [Nat.pow_succ]; omega
        refine ih (a % b) (b % (a % b)) n (by omega) (by omega) (by omega) (by omega) ?_
        rw [Nat.gcd_comm (a % b) (b % (a % b)), ← Nat.gcd_rec (a % b) b, ← Nat.gcd_rec b a, Nat.gcd_comm]
        exact hq
theorem m_common {u d : Nat} {T : zS} {Q : Int64 → zS → Prop} (hu : u < 2 ^ 62) (hd : d < 2 ^ 40) : zq (p_X12_common (lN u) (lN d)) T Q = Q (lN (Nat.gcd u d)) T := by
  have key : zq (p_X12_common (lN u) (lN d)) T (fun r T' => r = lN (Nat.gcd u d) ∧ T' = T) := by
    unfold p_X12_common
    rw [zDP_eq]
    exact m_gcd 40 u d 100 (by omega) (by omega) hd (by omega) ⟨rfl, rfl⟩
  obtain ⟨r, T', h1, rfl, rfl⟩ := key
  exact q_of h1
theorem x_power {b k : Nat} {S : zS} {Q : Int64 → zS → Prop} (hb : b < 2 ^ 31) (hk : k < 900) : zq (p_X11_power (nI b) (nI k)) S Q = Q (lN (b ^ k)) S := by
  have key : zq (p_X11_power (nI b) (nI k)) S (fun r S' => r = lN (b ^ k) ∧ S' = S) := by
    unfold p_X11_power
    refine q_for (A := Int64) (fun w i => (w, nI i)) k (fun w i S' => w = lN (b ^ i) ∧ S' = S) (by omega) ?_ ?_ 1 0 S (Nat.zero_le _) ⟨rfl, rfl⟩
    · rintro w i S' hi ⟨rfl, rfl⟩ rc next
      unfold p_X11_power_b5
      simp (disch := first | assumption | omega | fail) only [q_le, nI_leP, le_F, i_F, i_T, true_and, not_false_eq_true, nI_l hb, lN_mul, nI_1]
      exact next _ _ ⟨by rw [Nat.pow_succ], rfl⟩
    · rintro w S' ⟨rfl, rfl⟩ rc
      unfold p_X11_power_b5
      simp (disch := first | assumption | omega | fail) only [q_le, nI_leP, le_T, i_F, i_T, not_true_eq_false, and_true, q_ret]
  obtain ⟨r, S', h1, rfl, rfl⟩ := key
  exact q_of h1
