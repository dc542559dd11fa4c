theorem zlp_iter {ρ V X : Type} {body : (V → zM ρ) → (X → zM ρ) → V → zM ρ} {k : X → zM ρ} (st : Nat → V × zS) (e : Nat) (res : Option (ρ × zS)) (hs : ∀ i, i < e → ∀ rc : V → zM ρ, body rc k (st i).1 (st i).2 = rc (st (i + 1)).1 (st (i + 1)).2) (he : ∀ rc : V → zM ρ, body rc k (st e).1 (st e).2 = res) : ∀ n, e < n → zlp body n (st 0).1 k (st 0).2 = res := by
  have key : ∀ (d i : Nat), i + d = e → ∀ n, d < n → zlp body n (st i).1 k (st i).2 = res := by
    intro d
    induction d with
    | zero =>
      intro i hi n hn
      obtain ⟨n', rfl⟩ : ∃ n', n = n' + 1 := ⟨n - 1, by omega⟩
      have : i = e := by omega
      subst this
      exact he _
    | succ d ih =>
      intro i hi n hn
      obtain ⟨n', rfl⟩ : ∃ n', n = n' + 1 := ⟨n - 1, by omega⟩
      show body (fun v' => zlp body n' v' k) k (st i).1 (st i).2 = res
      rw [hs i (by omega)]
      exact ih (i + 1) (by omega) n' (by omega)
  exact fun n hn => key e 0 (by omega) n hn
