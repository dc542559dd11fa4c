/-! ===== landings: ways over the HOURS ===== -/
/-- the first of f a, f (a + 1), .. that answers -/
def ffst {α : Type} (f : Nat → Option α) : Nat → Nat → Option α
  | _, 0 => none
  | a, n + 1 => match f a with
    | some r => some r
    | none => ffst f (a + 1) n
theorem ffst_s {α : Type} {f : Nat → Option α} {a n : Nat} {r : α} (h : f a = some r) : ffst f a (n + 1) = some r := by
  unfold ffst
  rw [h]
theorem ffst_n {α : Type} {f : Nat → Option α} {a n : Nat} (h : f a = none) : ffst f a (n + 1) = ffst f (a + 1) n := by
  rw [ffst, h]
theorem ffst_ex {α : Type} {f : Nat → Option α} : ∀ (n a : Nat), ((ffst f a n).isSome = true ↔ ∃ k, a ≤ k ∧ k < a + n ∧ (f k).isSome = true)
  | 0, a => by
    constructor
    · intro h; cases h
    · rintro ⟨k, h1, h2, -⟩; omega
  | n + 1, a => by
    rcases h : f a with _ | r
    · rw [ffst_n h, ffst_ex n (a + 1)]
      constructor
      · rintro ⟨k, h1, h2, h3⟩; exact ⟨k, by omega, by omega, h3⟩
      · rintro ⟨k, h1, h2, h3⟩
        refine ⟨k, ?_, by omega, h3⟩
        by_cases e : k = a
        · rw [e, h] at h3; cases h3
        · omega
    · rw [ffst_s h]
      exact ⟨fun _ => ⟨a, Nat.le_refl _, by omega, by rw [h]; rfl⟩, fun _ => rfl⟩
def near9 (rp x y : Int32) : Prop := ¬ rp < zab x + zab y
section WAY
variable (L ex sy : Nat → Nat → Int32) (rp : Int32)
/-- a step at t with k gone is allowed from x, y -/
def stp9 (t k : Nat) (x y : Int32) : Prop := ¬ L (t + 1) k < 0 ∧ in9 (x + ex t k) ∧ in9 (y + sy t k)
/-- the least row of drops to K gone in d HOURS -/
noncomputable def pf9 (K : Nat) : Nat → Nat → Nat → Int32 → Int32 → Option (Nat → Nat)
  | 0, _, k, x, y => @ite _ (near9 rp x y) (Classical.propDecidable _) (some fun _ => K - k) none
  | d + 1, t, k, x, y => ffst (fun j => @ite _ (stp9 L ex sy t j x y) (Classical.propDecidable _) ((pf9 K d (t + 1) j (x + ex t j) (y + sy t j)).map fun g i => if i = t then j - k else g i) none) k (K + 1 - k)
/-- there is a way -/
def wy9 : Nat → Nat → Nat → Int32 → Int32 → Nat → Int32 → Int32 → Prop
  | 0, _, k, x, y, g, x', y' => g = k ∧ x' = x ∧ y' = y
  | d + 1, t, k, x, y, g, x', y' => ∃ j, k ≤ j ∧ stp9 L ex sy t j x y ∧ wy9 d (t + 1) j (x + ex t j) (y + sy t j) g x' y'
theorem wy9_le {L ex sy : Nat → Nat → Int32} : ∀ {d t k : Nat} {x y : Int32} {g : Nat} {x' y' : Int32}, wy9 L ex sy d t k x y g x' y' → k ≤ g
  | 0, _, _, _, _, _, _, _, h => Nat.le_of_eq h.1.symm
  | d + 1, _, _, _, _, _, _, _, ⟨_, h1, _, h3⟩ => Nat.le_trans h1 (wy9_le h3)
theorem wy9_snoc {L ex sy : Nat → Nat → Int32} : ∀ {d t k : Nat} {x y : Int32} {g : Nat} {x' y' : Int32} {j : Nat}, wy9 L ex sy d t k x y g x' y' → g ≤ j → stp9 L ex sy (t + d) j x' y' → wy9 L ex sy (d + 1) t k x y j (x' + ex (t + d) j) (y' + sy (t + d) j)
  | 0, t, k, x, y, g, x', y', j, ⟨e1, e2, e3⟩, h, hs => by
    subst e1 e2 e3
    exact ⟨j, h, hs, rfl, rfl, rfl⟩
  | d + 1, t, k, x, y, g, x', y', j, ⟨i, h1, h2, h3⟩, h, hs => by
    rw [show t + (d + 1) = t + 1 + d by omega] at hs ⊢
    exact ⟨i, h1, h2, wy9_snoc h3 h hs⟩
theorem pf9_ex {L ex sy : Nat → Nat → Int32} {rp : Int32} {K : Nat} : ∀ {d t k : Nat} {x y : Int32}, k ≤ K → ((pf9 L ex sy rp K d t k x y).isSome = true ↔ ∃ g x' y', g ≤ K ∧ wy9 L ex sy d t k x y g x' y' ∧ near9 rp x' y')
  | 0, t, k, x, y, hk => by
    unfold pf9
    by_cases h : near9 rp x y
    · rw [if_pos h]
      exact ⟨fun _ => ⟨k, x, y, hk, ⟨rfl, rfl, rfl⟩, h⟩, fun _ => rfl⟩
    · rw [if_neg h]
      constructor
      · intro z; cases z
      · rintro ⟨g, x', y', -, ⟨rfl, rfl, rfl⟩, h2⟩
        exact absurd h2 h
  | d + 1, t, k, x, y, hk => by
    rw [pf9, ffst_ex]
    constructor
    · rintro ⟨j, h1, h2, h3⟩
      by_cases hs : stp9 L ex sy t j x y
      · rw [if_pos hs, Option.isSome_map, pf9_ex (by omega)] at h3
        obtain ⟨g, x', y', a, b, c⟩ := h3
        exact ⟨g, x', y', a, ⟨j, h1, hs, b⟩, c⟩
      · rw [if_neg hs] at h3
        cases h3
    · rintro ⟨g, x', y', a, ⟨j, h1, hs, b⟩, c⟩
      have := wy9_le b
      refine ⟨j, h1, by omega, ?_⟩
      rw [if_pos hs, Option.isSome_map, pf9_ex (by omega)]
      exact ⟨g, x', y', a, b, c⟩
end WAY
/-! where a long's bit stands -/
def xa9 (x : Int32) : Nat := (x + 9).toInt.toNat
def cN (x y : Int32) : Nat := 19 * xa9 y + xa9 x
theorem in9_ex {x : Int32} (h : in9 x) : ∃ a, a < 19 ∧ x = nI a - 9 := by
  obtain ⟨h1, h2⟩ := h
  rw [fa_lt] at h1 h2
  have e9 : (9 : Int32).toInt = 9 := rfl
  have e9' : (-9 : Int32).toInt = -9 := rfl
  rw [e9] at h1
  rw [e9'] at h2
  refine ⟨(x.toInt + 9).toNat, by omega, ?_⟩
  apply Int32.toInt_inj.mp
  rw [Int32.toInt_sub, nI_toInt (by omega), e9, Int.toNat_of_nonneg (by omega)]
  rw [show x.toInt + 9 - 9 = x.toInt by omega]
  rw [Int.bmod_eq_of_le]
  · omega
  · omega
theorem xa9_n : ∀ a, a < 19 → xa9 (nI a - 9) = a := by decide +kernel
theorem cN_lt {x y : Int32} (hx : in9 x) (hy : in9 y) : cN x y < 361 := by
  obtain ⟨a, ha, rfl⟩ := in9_ex hx
  obtain ⟨b, hb, rfl⟩ := in9_ex hy
  unfold cN
  rw [xa9_n a ha, xa9_n b hb]
  omega
theorem cN_inj {x y x' y' : Int32} (hx : in9 x) (hy : in9 y) (hx' : in9 x') (hy' : in9 y') (h : cN x y = cN x' y') : x = x' ∧ y = y' := by
  obtain ⟨a, ha, rfl⟩ := in9_ex hx
  obtain ⟨b, hb, rfl⟩ := in9_ex hy
  obtain ⟨c, hc, rfl⟩ := in9_ex hx'
  obtain ⟨d, hd, rfl⟩ := in9_ex hy'
  unfold cN at h
  rw [xa9_n a ha, xa9_n b hb, xa9_n c hc, xa9_n d hd] at h
  obtain rfl : a = c := by omega
  obtain rfl : b = d := by omega
  exact ⟨rfl, rfl⟩
theorem cN_e0 : ∀ b, b < 19 → ∀ a, a < 19 → ((((19 : Int32) * ((nI b - 9) + (9 : Int32))) + (nI a - 9)) + (9 : Int32)) = nI (19 * b + a) := by decide +kernel
theorem cN_e {x y : Int32} (hx : in9 x) (hy : in9 y) : ((((19 : Int32) * (y + (9 : Int32))) + x) + (9 : Int32)) = nI (cN x y) := by
  obtain ⟨a, ha, rfl⟩ := in9_ex hx
  obtain ⟨b, hb, rfl⟩ := in9_ex hy
  unfold cN
  rw [xa9_n a ha, xa9_n b hb]
  exact cN_e0 b hb a ha
theorem q_shr6 : ∀ q, q < 361 → (nI q >>> ((6 : Int32) &&& 31)) = nI (q / 64) := by decide +kernel
theorem q_bit6 : ∀ q, q < 361 → ((1 : Int64) <<< ((nI q &&& (63 : Int32)).toInt64 &&& 63)).toBitVec = BitVec.twoPow 64 (q % 64) := by decide +kernel
/-- SEEN -/
def sn9 (S : zS) (t g q : Nat) : Bool := (S.2 69 ((t * 10 + g) * 6 + q / 64)).toBitVec.getLsbD (q % 64)
theorem sn9_z {w : Int64} {q : Nat} (hq : q < 361) : (lg_cmp (w &&& ((1 : Int64) <<< ((nI q &&& (63 : Int32)).toInt64 &&& 63))) 0 = 0) = (w.toBitVec.getLsbD (q % 64) = false) := by
  refine propext ((lg_cmp_eq _ _).trans ?_)
  rw [← Int64.toBitVec_inj, Int64.toBitVec_and, q_bit6 q hq, BitVec.and_twoPow]
  have h64 : q % 64 < 64 := Nat.mod_lt _ (by omega)
  by_cases h : w.toBitVec.getLsbD (q % 64) = true
  · rw [if_pos h, h]
    constructor
    · intro z
      have := congrArg (fun v : BitVec 64 => v.getLsbD (q % 64)) z
      simp [BitVec.getLsbD_twoPow, h64] at this
    · intro z; cases z
  · rw [if_neg h]
    exact ⟨fun _ => Bool.eq_false_iff.mpr h, fun _ => rfl⟩
theorem sn9_mark {S S' : zS} {t g q t' g' q' : Nat} (hg : g < 10) (hg' : g' < 10) (hq : q < 361) (hq' : q' < 361) (hS : S'.2 69 = (fun i => if i = (t * 10 + g) * 6 + q / 64 then S.2 69 ((t * 10 + g) * 6 + q / 64) ||| ((1 : Int64) <<< ((nI q &&& (63 : Int32)).toInt64 &&& 63)) else S.2 69 i)) : sn9 S' t' g' q' = (sn9 S t' g' q' || decide (t' = t ∧ g' = g ∧ q' = q)) := by
  unfold sn9
  rw [hS]
  have h64 : q % 64 < 64 := Nat.mod_lt _ (by omega)
  have h64' : q' % 64 < 64 := Nat.mod_lt _ (by omega)
  show (ite _ _ _ : Int64).toBitVec.getLsbD _ = _
  by_cases e : (t' * 10 + g') * 6 + q' / 64 = (t * 10 + g) * 6 + q / 64
  · rw [if_pos e, Int64.toBitVec_or, BitVec.getLsbD_or, q_bit6 q hq, BitVec.getLsbD_twoPow, e]
    congr 1
    rw [decide_eq_true h64, Bool.true_and]
    exact decide_eq_decide.mpr (by omega)
  · rw [if_neg e, decide_eq_false (by rintro ⟨rfl, rfl, rfl⟩; exact e rfl), Bool.or_false]
