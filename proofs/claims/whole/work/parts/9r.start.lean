/-! ===== the start ===== -/
def SX0 : zS := zpr nS0 11 nfill
def nfillM : Nat → Int32 := upd (upd (upd (upd (upd (upd (upd (upd (upd (upd (fun _ => 0) 0 (-1 : Int32)) 1 (-1 : Int32)) 2 (-1 : Int32)) 3 (-1 : Int32)) 4 (-1 : Int32)) 5 (-1 : Int32)) 6 (-1 : Int32)) 7 (-1 : Int32)) 8 (-1 : Int32)) 9 (-1 : Int32)
def SM0 : zS := zpr nS0 6 nfillM
theorem nfill_h : ∀ h, h < 10 → nfill h = -1 := by decide
theorem nfillM_h : ∀ h, h < 10 → nfillM h = -1 := by decide
theorem SX0_n {c j : Nat} (h : c ≠ 11) : SX0.1 c j = 0 := by
  unfold SX0
  rw [zpr_n h]
  rfl
theorem SM0_n {c j : Nat} (h : c ≠ 6) : SM0.1 c j = 0 := by
  unfold SM0
  rw [zpr_n h]
  rfl
theorem RR_0 : RR 0 SX0 SM0 := by
  have z0 : (0 : Int32) = nI 0 := rfl
  refine ⟨0, 0, vdef, ⟨⟨by omega, fun b hb => absurd hb (Nat.not_lt_zero b), ⟨0, by omega, SM0_n (by omega)⟩⟩, ⟨SX0_n (by omega), SM0_n (by omega), ?_, ?_, fun b hb => absurd hb (Nat.not_lt_zero b), fun b hb => absurd hb (Nat.not_lt_zero b), fun a b ha => absurd ha (Nat.not_lt_zero a)⟩, ⟨by omega, SX0_n (by omega), SM0_n (by omega), fun r hr => absurd hr (Nat.not_lt_zero r)⟩, fun h hh => ?_, ?_, ?_⟩, ⟨⟨0, by omega, SX0_n (by omega), SM0_n (by omega), fun i hi => absurd hi (Nat.not_lt_zero i)⟩, ⟨0, by omega, ⟨0, by omega, SM0_n (by omega)⟩, SM0_n (by omega), fun i hi => ?_⟩, ⟨0, by omega, SX0_n (by omega), SM0_n (by omega), fun i hi => absurd hi (Nat.not_lt_zero i)⟩⟩, ⟨0, 0, by omega, by omega, SX0_n (by omega), SX0_n (by omega), SM0_n (by omega), fun j hj => absurd hj (Nat.not_lt_zero j)⟩, ⟨0, by omega, SX0_n (by omega), SM0_n (by omega), fun i hi => absurd hi (Nat.not_lt_zero i)⟩⟩
  · rw [SX0_n (by omega), SM0_n (by omega)]
  · rw [SX0_n (by omega), SM0_n (by omega)]
  · have e1 : SX0.1 11 h = -1 := nfill_h h hh
    have e2 : SM0.1 6 h = -1 := nfillM_h h hh
    rw [e1, e2, SX0_n (c := 12) (by omega), SX0_n (c := 13) (by omega), SX0_n (c := 14) (by omega), SM0_n (c := 7) (by omega)]
    exact ⟨rfl, rfl, Or.inl ⟨rfl, rfl⟩, rfl, rfl⟩
  · exact RLx_0 (SX0_n (by omega))
  · exact RLm_0 (SM0_n (by omega))
  · have e1 : SX0.1 47 i = 0 := SX0_n (by omega)
    have e2 : SM0.1 33 i = 0 := SM0_n (by omega)
    have e3 : SM0.1 34 i = 0 := SM0_n (by omega)
    rw [e1, e2, e3]
    exact ⟨Or.inl rfl, Or.inl rfl, ⟨0, by omega, rfl⟩, ⟨fun z => absurd z (by decide), fun z => absurd z.1 (by decide)⟩, fun z => absurd z (by decide)⟩
