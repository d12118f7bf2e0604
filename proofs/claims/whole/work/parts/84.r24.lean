/-! ===== the rows of the blocks that come ===== -/
theorem RwN.grp {st : List Int} {d : Int} {t : Int → Int} : RwN (upz (bgn 1 (par st) st.length) 2 d) st d (-1) (-1) 0 t := by
  refine ⟨?_, ?_, upz_same, ?_, ?_, ?_, by decide, fun i i0 i1 => by omega⟩
  · rw [upz_ne (by decide)]
    rfl
  · rw [upz_ne (by decide)]
    rfl
  · rw [upz_ne (by decide)]
    rfl
  · rw [upz_ne (by decide)]
    rfl
  · rw [upz_ne (by decide)]
    rfl
theorem RwN.leaf {T : Int → Int} {s m must term gr : Int} {st : List Int} (m0 : 0 ≤ m) (m5 : m ≤ 5) : RwN (mkL T s m (par st) must term gr st.length) st must term gr m.toNat (fun i => T (s + i)) := by
  refine ⟨rfl, ?_, rfl, rfl, rfl, ?_, by omega, fun i i0 i1 => ?_⟩
  · show (if (6 : Int) ≤ 11 ∧ (11 : Int) < 6 + m then _ else _) = _
    rw [if_neg (by omega)]
    rfl
  · show m = _
    omega
  · unfold mkL
    rw [if_neg (by omega), if_neg (by omega), if_neg (by omega), if_neg (by omega), if_neg (by omega), if_neg (by omega), if_pos (by omega), show 6 + i - 6 = i by omega]
