/-! ===== the law's entry: what the start has ===== -/
set_option maxRecDepth 100000 in
theorem l_thr {s : State} {args : Array Value} (hts : ∀ w ∈ lw_tbl, w.before args s = true) (hg : (Jvm.Cond.and given_1 narrow_1).before args s = true) : xthr (lA s) s := by
  have hs := flat_of_before _ hg
  have hA : ∀ a : Nat, a < s.heap.size → ¬ lA s a := fun a h => Nat.not_le.mpr h
  refine ⟨vx_Zqof (hts _ (by decide +kernel)) (hts _ (by decide +kernel)) ?_ hA, vx_Zqof (hts _ (by decide +kernel)) (hts _ (by decide +kernel)) ?_ hA, va_Nw.of rfl (hts _ (by decide +kernel)), va_Nw.of rfl (hts _ (by decide +kernel)), va_Nw.of rfl (hts _ (by decide +kernel)), va_Nw.of rfl (hts _ (by decide +kernel))⟩
  · first | exact hts _ (by decide +kernel) | exact hs _ (by decide +kernel)
  · first | exact hts _ (by decide +kernel) | exact hs _ (by decide +kernel)
theorem l_pre {s : State} {args : Array Value} (hts : ∀ w ∈ lw_tbl, w.before args s = true) (hg : (Jvm.Cond.and given_1 narrow_1).before args s = true) : ∃ (D : va_G) (ca : FieldType → ClassId) (tt sa sv : Nat → Nat), va_K D vwCl (zT ca) s ∧ xsX (lA s) tt s ∧ xsM (lA s) sa sv s := by
  obtain ⟨D, hDk⟩ := zstartK hts
  obtain ⟨cI, i1, i2⟩ := zarr (hts _ wz_a_int)
  obtain ⟨cC, c1, c2⟩ := zarr (hts _ wz_a_char)
  obtain ⟨cB, b1, b2⟩ := zarr (hts _ wz_a_boolean)
  obtain ⟨cJ, j1, j2⟩ := zarr (hts _ wz_a_long)
  obtain ⟨t0, a0, a1⟩ := zst_0 hts hg
  obtain ⟨t1, a2, a3⟩ := zst_1 hts hg
  obtain ⟨t2, a4, a5⟩ := zst_2 hts hg
  obtain ⟨sa, sv, hM⟩ := zst_S hts hg
  refine ⟨D, fun ty => match ty with
    | .int => cI
    | .char => cC
    | .boolean => cB
    | .long => cJ
    | _ => cI, fun k => [t0, t1, t2].getD k 0, sa, sv, ⟨hDk, fun k q hq => ?_⟩, ⟨a0, a1, a2, a3, a4, a5, va_Nw.of rfl (hts _ wz_nRX3_148), va_Nw.of rfl (hts _ wz_nRX3_159), va_Nw.of rfl (hts _ wz_nRX4_90), va_Nw.of rfl (hts _ wz_nRX4_105), l_thr hts hg⟩, hM⟩
  match k, hq with
  | 0, hq => cases hq; exact ⟨i2, i1⟩
  | 1, hq => cases hq; exact ⟨c2, c1⟩
  | 2, hq => cases hq; exact ⟨b2, b1⟩
  | 3, hq => cases hq; exact ⟨j2, j1⟩
  | k + 4, hq => simp at hq
