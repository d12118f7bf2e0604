/-! ===== the desk of a text ===== -/
/-- the desk g with k rows of t as its blocks, i places of them laid -/
def gps (g t : Int → Int) (k i : Int) : Int → Int := fun j => if j = 3 then k else if 60 ≤ j ∧ j < 60 + i then (if j - 60 < 12 * k then t (j - 60) else 0) else g j
theorem gps_0 {g t : Int → Int} {k : Int} : upz g 3 k = gps g t k 0 := by
  funext j
  unfold upz gps
  by_cases e : j = 3
  · rw [if_pos e, if_pos e]
  · rw [if_neg e, if_neg e, if_neg (by omega)]
theorem gps_1 {g t : Int → Int} {k i v : Int} (i0 : 0 ≤ i) (hv : v = if i < 12 * k then t i else 0) : upz (gps g t k i) (60 + i) v = gps g t k (i + 1) := by
  funext j
  rw [upz_app]
  unfold gps
  by_cases e : j = 60 + i
  · rw [if_pos e, if_neg (by omega), if_pos (by omega), e, show 60 + i - 60 = i by omega]
    exact hv
  · rw [if_neg e]
    by_cases e3 : j = 3
    · rw [if_pos e3, if_pos e3]
    · rw [if_neg e3, if_neg e3]
      by_cases e2 : 60 ≤ j ∧ j < 60 + i
      · rw [if_pos e2, if_pos (show 60 ≤ j ∧ j < 60 + (i + 1) by omega)]
      · rw [if_neg e2, if_neg (by omega)]
set_option maxRecDepth 100000 in
set_option maxHeartbeats 4000000 in
theorem l_readP (κ : KP) {A : Nat → Nat} {M : MEM} (h : AH) (hA : MA A) (hR : RG M) {v1 v2 : Int} (k0 : 0 ≤ M 30 22) (k1 : M 30 22 ≤ 8) : ∀ (f : Nat) (i : Int), 96 - i < (f : Int) → (0 ≤ i) → (i ≤ 96) → WW κ mX10_readProgram 5 0 0 (fun v h' => ∃ r M', v = some (.int (J r)) ∧ h' = mset A M' h ∧ (fun r M' => r = M 30 22 ∧ M' = setg M (gps (M 0) (M 21) (M 30 22) 96)) r M') NoX 73 [some (.ref (A 30)), some (.int (J v1)), some (.int (J v2)), some (.int (J i))] [] (mset A (setg M (gps (M 0) (M 21) (M 30 22) i)) h) := by
  intro f
  induction f with
  | zero =>
    intro i hf i0 i1
    exact absurd hf (by omega)
  | succ f ih =>
    intro i hf i0 i1
    refine r_il3 dX10_readProgram_73 ?_
    refine r_bipush dX10_readProgram_74 (by decide) ?_
    refine r_icmp_ge (tgt := 115) dX10_readProgram_76 (by decide) (by first | omega | exact hR _ _) (by first | omega | exact hR _ _) (fun c_76 => ?_) (fun c_76 => ?_)
    · refine r_al0 dX10_readProgram_115 ?_
      refine m_get dX10_readProgram_116 f_X10_190 hA rfl ?_
      try simp only [setg_app, Int.reduceEq, Nat.reduceEqDiff, if_false, if_true, reduceIte]
      exact r_iret dX10_readProgram_119 (ty := .int) rfl rfl ⟨_, _, rfl, rfl, rfl, by rw [show i = 96 by omega]⟩
    · refine r_al0 dX10_readProgram_79 ?_
      refine m_get dX10_readProgram_80 f_X10_7 hA rfl ?_
      refine r_bipush dX10_readProgram_83 (by decide) ?_
      refine r_il3 dX10_readProgram_85 ?_
      refine r_iadd dX10_readProgram_86 ?_
      refine r_il3 dX10_readProgram_87 ?_
      refine r_bipush dX10_readProgram_88 (by decide) ?_
      refine r_al0 dX10_readProgram_90 ?_
      refine m_get dX10_readProgram_91 f_X10_190 hA rfl ?_
      try simp only [setg_app, Int.reduceEq, Nat.reduceEqDiff, if_false, if_true, reduceIte]
      refine r_imul dX10_readProgram_94 ?_
      refine r_icmp_ge (tgt := 107) dX10_readProgram_95 (by decide) (by first | omega | exact hR _ _) (by first | omega | exact hR _ _) (fun c_95 => ?_) (fun c_95 => ?_)
      · refine r_iconst dX10_readProgram_107 ?_
        refine m_ast dX10_readProgram_108 hA (by decide) rfl (by first | omega | (simp only [mlen]; omega)) (by first | omega | (simp only [mlen]; omega)) ?_
        refine r_inc3 dX10_readProgram_109 rfl ?_
        refine r_goto (tgt := 73) dX10_readProgram_112 (by decide) ?_
        rw [setg_up]
        first
          | (rw [gps_1 i0 (by rw [if_pos (by assumption)])]; exact ih (i + 1) (by omega) (by omega) (by omega))
          | (rw [gps_1 i0 (by rw [if_neg (by omega)])]; exact ih (i + 1) (by omega) (by omega) (by omega))
      · refine r_al0 dX10_readProgram_98 ?_
        refine m_get dX10_readProgram_99 f_X10_42 hA rfl ?_
        refine r_il3 dX10_readProgram_102 ?_
        refine m_ald dX10_readProgram_103 hA (by decide) rfl (by first | omega | (simp only [mlen]; omega)) (by first | omega | (simp only [mlen]; omega)) ?_
        try simp only [setg_app, Int.reduceEq, Nat.reduceEqDiff, if_false, if_true, reduceIte]
        refine r_goto (tgt := 108) dX10_readProgram_104 (by decide) ?_
        refine m_ast dX10_readProgram_108 hA (by decide) rfl (by first | omega | (simp only [mlen]; omega)) (by first | omega | (simp only [mlen]; omega)) ?_
        refine r_inc3 dX10_readProgram_109 rfl ?_
        refine r_goto (tgt := 73) dX10_readProgram_112 (by decide) ?_
        rw [setg_up]
        first
          | (rw [gps_1 i0 (by rw [if_pos (by assumption)])]; exact ih (i + 1) (by omega) (by omega) (by omega))
          | (rw [gps_1 i0 (by rw [if_neg (by omega)])]; exact ih (i + 1) (by omega) (by omega) (by omega))
