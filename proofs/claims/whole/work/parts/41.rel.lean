/-! ===== the relation between the class and the reference ===== -/
def rg (m : Nat) (x : Int32) : Prop := ∃ j : Nat, j ≤ m ∧ x = nI j
def in9 (x : Int32) : Prop := ¬ 9 < x ∧ ¬ x < -9
abbrev z8 : Type := Int32 → Int32 → Int32 → Int32 → Int32 → Int32 → Int32 → Int32 → Int32
def v8 (v : z8) (f : Nat → Int32) : Int32 := v (f 0) (f 1) (f 2) (f 3) (f 4) (f 5) (f 6) (f 7)
/-- what a program leaves in a cell -/
def zw {ρ : Type} (f : zM ρ) (S : zS) (c : Nat) : Nat → Int32 := match f S with
  | some p => p.2.1 c
  | none => S.1 c
theorem zw_of {ρ : Type} {f : zM ρ} {S : zS} {r : ρ} {S' : zS} {c : Nat} (h : f S = some (r, S')) : zw f S c = S'.1 c := by
  unfold zw
  rw [h]
/-- THE RULE: of the class, of the reference -/
def RLx (v : z8) (S : zS) : Prop := ∀ (S1 : zS) (r : Nat), S1.1 16 3 = S.1 16 3 → S1.1 17 = S.1 17 → r ≠ 16 → r ≠ 17 → r ≠ 19 → ∃ f, p_X7_valueBy r 8 S1 = some (v8 v (S1.1 r), zpr S1 19 f)
def RLm (v : z8) (T : zS) : Prop := ∀ T1 : zS, T1.1 0 24 = T.1 0 24 → T1.1 12 = T.1 12 → ∃ f, p_X12_ruled T1 = some (v8 v (T1.1 15), zpr T1 14 f)
/-- BALLOONS by seven ints each -/
def xv (c : Nat) (S : zS) : Nat → Nat → Int32 := fun k b => S.1 (c + (if k < 3 then k + 3 else k + 5)) b
def rrow (R : Nat) (F G : Nat → Nat → Int32) (b : Nat) : Prop :=
  F 0 b = G 0 b ∧ F 1 b = G 1 b ∧ F 2 b = G 2 b ∧ F 3 b = G 3 b ∧ (G 3 b = 2 → F 4 b = G 4 b ∧ ∃ r, r < R ∧ G 4 b = nI r) ∧ (G 3 b = 1 → F 5 b = G 5 b ∧ F 6 b = G 6 b ∧ in9 (G 5 b) ∧ in9 (G 6 b)) ∧ rg 99 (G 0 b) ∧ rg 9 (G 1 b) ∧ rg 9 (G 2 b) ∧ rg 3 (G 3 b)
def runiq (m : Nat) (G : Nat → Nat → Int32) : Prop := ∀ a b, a < m → b < m → G 3 a = 2 → G 3 b = 2 → G 4 a = G 4 b → a = b
def RB (m R : Nat) (F G : Nat → Nat → Int32) : Prop := (∀ b, b < m → rrow R F G b) ∧ runiq m G
/-- BALLOONS now (or in a dream): the class's flock at c, the reference's row at r -/
def RFl (m R c r : Nat) (S T : zS) : Prop := S.1 c 14 = nI m ∧ T.1 0 4 = nI m ∧ S.1 c 15 = T.1 r 42 ∧ S.1 c 16 = T.1 0 6 ∧ (∀ b, b < m → S.1 (c + 6) b = T.1 4 b ∧ S.1 (c + 7) b = T.1 5 b) ∧ RB m R (xv c S) (mf (T.1 r))
def RCon (m : Nat) (T : zS) : Prop := m ≤ 6 ∧ (∀ b, b < m → (∃ j : Nat, 1 ≤ j ∧ j ≤ 9 ∧ T.1 4 b = nI j) ∧ rg 9 (T.1 5 b)) ∧ rg 9 (T.1 0 6)
def RTo (R : Nat) (S T : zS) : Prop := R ≤ 8 ∧ S.1 3 6 = nI R ∧ T.1 0 3 = nI R ∧ ∀ r, r < R → S.1 4 r = T.1 2 r ∧ S.1 5 r = T.1 3 r ∧ rg 9 (T.1 2 r) ∧ rg 7 (T.1 3 r) ∧
  (∀ q, q < 32 → bt (S.1 7 r) q = decide (q < R ∧ T.1 3 r = T.1 3 q ∧ ¬ 1 < zab (T.1 2 r - T.1 2 q))) ∧
  (∀ q, q < 32 → bt (S.1 8 r) q = decide (q < R ∧ T.1 3 r = T.1 3 q ∧ T.1 2 q < T.1 2 r)) ∧
  (∀ q, q < 32 → bt (S.1 9 r) q = decide (q < R ∧ T.1 3 r = T.1 3 q ∧ T.1 2 r < T.1 2 q))
def ewd (w : Int32) : Int32 := if w = 0 ∨ w = 4 then 0 else if w < 4 then 1 else -1
def swd (w : Int32) : Int32 := if w = 2 ∨ w = 6 then 0 else if 2 < w ∧ w < 6 then 1 else -1
def RWi (S T : zS) : Prop := ∀ h, h < 10 → S.1 11 h = T.1 6 h ∧ S.1 12 h = T.1 7 h ∧ ((T.1 6 h = -1 ∧ T.1 7 h = 0) ∨ (rg 7 (T.1 6 h) ∧ ∃ j : Nat, 1 ≤ j ∧ j ≤ 3 ∧ T.1 7 h = nI j)) ∧ S.1 13 h = (if T.1 6 h < 0 then 0 else ewd (T.1 6 h) * T.1 7 h) ∧ S.1 14 h = (if T.1 6 h < 0 then 0 else swd (T.1 6 h) * T.1 7 h)
def RTx (S T : zS) : Prop := ∃ len : Nat, len ≤ 80 ∧ S.1 1 3 = nI len ∧ T.1 0 16 = nI len ∧ ∀ i, i < len → S.1 2 i = T.1 10 i ∧ rg 255 (T.1 10 i)
/-- a packed row of the class (at 43 a), of the reference (at 43 b), NOW at most B -/
def RPk (m R B : Nat) (f g : Nat → Int32) (a b : Nat) : Prop := (f (43 * a + 42) = g (43 * b + 42) ∧ ∃ N : Nat, N ≤ B ∧ g (43 * b + 42) = nI N) ∧ RB m R (mf fun i => f (43 * a + i)) (mf fun i => g (43 * b + i))
def RPa (m R B : Nat) (S T : zS) : Prop := ∃ u s : Nat, u ≤ 15 ∧ s < 16 ∧ S.1 44 4 = nI u ∧ S.1 44 3 = nI s ∧ T.1 0 28 = nI u ∧ ∀ j, j < u → RPk m R B (S.1 45) (T.1 16) ((s + 16 - u + j) % 16) j
def RNw (n : Nat) (T : zS) : Prop := ∃ N : Nat, N ≤ 1000 * n ∧ T.1 8 42 = nI N
def RKe (m R n : Nat) (S T : zS) : Prop := ∃ c : Nat, c ≤ n ∧ RNw n T ∧ T.1 0 5 = nI c ∧ ∀ i, i < 3 → (S.1 47 i = 0 ∨ S.1 47 i = 1) ∧ (T.1 33 i = 0 ∨ T.1 33 i = 1) ∧ (∃ d : Nat, d ≤ c ∧ T.1 34 i = nI d) ∧ (S.1 47 i = 1 ↔ T.1 33 i = 1 ∧ T.1 34 i = T.1 0 5) ∧ (S.1 47 i = 1 → RPk m R (1000 * n) (S.1 46) (T.1 35) i i)
def RAn (S T : zS) : Prop := ∃ l : Nat, l ≤ 8 ∧ S.1 48 1 = nI l ∧ T.1 0 1 = nI l ∧ ∀ i, i < l → S.2 49 i = T.2 1 i
def RMk (R : Nat) (S T : zS) : Prop := ∃ k : Nat, k ≤ 12 ∧ S.1 50 7 = nI k ∧ T.1 0 50 = nI k ∧ ∀ i, i < k → S.1 51 i = T.1 28 i ∧ S.1 52 i = T.1 29 i ∧ S.1 53 i = T.1 30 i ∧ (∃ r, r < R ∧ T.1 28 i = nI r) ∧ rg 2 (T.1 29 i) ∧ rg 99 (T.1 30 i)
