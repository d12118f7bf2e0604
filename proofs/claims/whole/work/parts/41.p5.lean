/-! ===== a group begins ===== -/
noncomputable def pgrp (T : Int → Int) (n s o : Int) : Sum Int Int := if o = 3 then .inl s else if tb (QIn (hre T n (s + 1)) 49 57) = true then (if hre T n (s + 1 + 1) = 58 then .inr (hre T n (s + 1) - 48) else .inl (s + 1 + 1)) else .inl (s + 1)
theorem pgrp_3 {T : Int → Int} {n s o : Int} (h : o = 3) : pgrp T n s o = .inl s := if_pos h
theorem pgrp_d {T : Int → Int} {n s o : Int} (h : o ≠ 3) (h2 : ¬ QIn (hre T n (s + 1)) 49 57) : pgrp T n s o = .inl (s + 1) := by
  unfold pgrp
  rw [if_neg h, if_neg (by rw [tb_f.mpr h2]; decide)]
theorem pgrp_c {T : Int → Int} {n s o : Int} (h : o ≠ 3) (h2 : QIn (hre T n (s + 1)) 49 57) (h3 : hre T n (s + 1 + 1) ≠ 58) : pgrp T n s o = .inl (s + 1 + 1) := by
  unfold pgrp
  rw [if_neg h, if_pos (tb_t.mpr h2), if_neg h3]
theorem pgrp_y {T : Int → Int} {n s o : Int} (h : o ≠ 3) (h2 : QIn (hre T n (s + 1)) 49 57) (h3 : hre T n (s + 1 + 1) = 58) : pgrp T n s o = .inr (hre T n (s + 1) - 48) := by
  unfold pgrp
  rw [if_neg h, if_pos (tb_t.mpr h2), if_pos h3]
theorem ppar_18 {M : MEM} {v : Int} : ppar (updm M 30 18 v) = ppar M := by
  unfold ppar
  rw [updm_ne (by decide), updm_k (by decide)]
def PGr (M : MEM) (r : Int) (M' : MEM) : Prop := RG M' ∧ SB [21, 24] [18, 22, 23] M M' ∧ ((∃ e, pgrp (M 16) (M 30 17) (M 30 18) (M 30 23) = .inl e ∧ r = 0 ∧ M' 30 18 = e ∧ M 30 18 ≤ e ∧ e ≤ M 30 17) ∨
  ∃ d, pgrp (M 16) (M 30 17) (M 30 18) (M 30 23) = .inr d ∧ r = 1 ∧ M 30 23 < 3 ∧ (1 ≤ d ∧ d ≤ 9) ∧ M' 30 18 = M 30 18 + 1 + 1 + 1 ∧ M 30 18 + 1 + 1 < M 30 17 ∧ M' 30 22 = M 30 22 + 1 ∧ M' 30 23 = M 30 23 + 1 ∧ M' 24 (M 30 23) = M 30 22 ∧ (∀ i, i ≠ M 30 23 → M' 24 i = M 24 i) ∧ (∀ x, 0 ≤ x → x < 12 → M' 21 (12 * M 30 22 + x) = upz (bgn 1 (ppar M) (M 30 23)) 2 d x) ∧ ∀ j, j < 12 * M 30 22 → M' 21 j = M 21 j)
set_option maxRecDepth 100000 in
set_option maxHeartbeats 4000000 in
theorem c_group (κ : KP) {A : Nat → Nat} {M : MEM} (hA : MA A) (hR : RG M) (hT : TX M) (k0 : 0 ≤ M 30 22) (k1 : M 30 22 ≤ 25) (o0 : 0 ≤ M 30 23) (o1 : M 30 23 ≤ 3) (hh : hre (M 16) (M 30 17) (M 30 18) = 91) : RM κ mX10_group 3 A [.ref (A 30)] M (PGr M) := by
  intro h
  refine mm_of (L := [some _, none, none]) (by decide +kernel) rfl rfl (Nat.le_of_ble_eq_true rfl) rfl ?_
  obtain ⟨t0, t1, t2⟩ := hT
  have hT : TX M := ⟨t0, t1, t2⟩
  have hs1 : M 30 18 < M 30 17 := hre_in (T := M 16) (by rw [hh]; decide)
  refine r_al0 dX10_group_0 ?_
  refine m_get dX10_group_1 f_X10_193 hA rfl ?_
  refine r_iconst dX10_group_4 ?_
  refine r_icmp_ne (tgt := 10) dX10_group_5 (by decide) (by first | omega | exact hR _ _ | exact b1 _ _) (by first | omega | exact hR _ _ | exact b1 _ _) (fun c_5 => ?_) (fun c_5 => ?_)
  · refine r_bipush dX10_group_10 (by decide) ?_
    refine r_al0 dX10_group_12 ?_
    refine m_get dX10_group_13 f_X10_190 hA rfl ?_
    refine r_imul dX10_group_16 ?_
    refine r_is1 dX10_group_17 rfl ?_
    refine r_al0 dX10_group_18 ?_
    refine m_get dX10_group_19 f_X10_190 hA rfl ?_
    refine r_is2 dX10_group_22 rfl ?_
    refine r_al0 dX10_group_23 ?_
    refine r_dup dX10_group_24 rfl ?_
    refine m_get dX10_group_25 f_X10_181 hA rfl ?_
    refine r_iconst dX10_group_28 ?_
    refine r_iadd dX10_group_29 ?_
    refine m_put dX10_group_30 f_X10_181 p_X10_181 (ff_14_18 _) hA mfp_18 rfl rfl ?_
    refine r_al0 dX10_group_33 ?_
    refine r_iconst dX10_group_34 ?_
    refine m_callU1 dX10_group_35 v_X10_196 hA (c_begins κ hA (RG.up hR (by omega)) (gr := 1) (by decide) (by rw [updm_ne (by decide)]; exact k0) (by rw [updm_ne (by decide)]; exact k1) (by rw [updm_ne (by decide)]; exact o0) (by rw [updm_ne (by decide)]; exact o1)) (by decide) rfl (fun M_35 h_35 => ?_)
    obtain ⟨b1, b2, b3, b4, b5⟩ := h_35
    rw [updm_ne (show ¬ (30 = 30 ∧ (22 : Int) = 18) by decide)] at b3 b4 b5
    rw [ppar_18, updm_ne (show ¬ (30 = 30 ∧ (23 : Int) = 18) by decide)] at b4
    have f18 : M_35 30 18 = M 30 18 + 1 := (b2.2 18 (by decide)).trans updm_at
    have f17 : M_35 30 17 = M 30 17 := (b2.2 17 (by decide)).trans (updm_ne (by decide))
    have f23 : M_35 30 23 = M 30 23 := (b2.2 23 (by decide)).trans (updm_ne (by decide))
    have f16 : M_35 16 = M 16 := (b2.1 16 (by decide) (by decide)).trans (updm_k (by decide))
    have f24 : M_35 24 = M 24 := (b2.1 24 (by decide) (by decide)).trans (updm_k (by decide))
    have hS2 : SB [21, 24] [18, 22, 23] M M_35 := ((SB.upF SB.rf (by decide) : SB [] [18] M (updm M 30 18 (M 30 18 + 1))).trans b2).mono (by decide) (by decide)
    have hT2 : TX M_35 := ⟨by rw [f18]; omega, by rw [f18, f17]; omega, by rw [f17]; exact t2⟩
    have b6 : ∀ j, j < 12 * M 30 22 → M_35 21 j = M 21 j := fun j hj => by rw [b5 j hj, updm_k (by decide)]
    refine r_al0 dX10_group_38 ?_
    refine m_callP0 dX10_group_39 v_X10_184 hA (c_here κ _ hA b1 hT2) (by decide) rfl ?_
    rw [f16, f17, f18]
    refine r_bipush dX10_group_42 (by decide) ?_
    refine r_bipush dX10_group_44 (by decide) ?_
    refine r_callSP3 dX10_group_46 s_X10_61 (c_in κ _ (hre_rg hR) (by decide) (by decide)) (by decide) rfl ?_
    refine r_ifT_ne (tgt := 54) dX10_group_49 (by decide) (fun c_49 => ?_) (fun c_49 => ?_)
    · have hs2 : M 30 18 + 1 < M 30 17 := hre_in (T := M 16) (by unfold QIn at c_49; omega)
      have hdg : rng (hre (M 16) (M 30 17) (M 30 18 + 1) - 48) := by unfold QIn at c_49; omega
      refine r_al0 dX10_group_54 ?_
      refine m_get dX10_group_55 f_X10_42 hA rfl ?_
      refine r_il1 dX10_group_58 ?_
      refine r_iconst dX10_group_59 ?_
      refine r_iadd dX10_group_60 ?_
      refine r_al0 dX10_group_61 ?_
      refine m_callP0 dX10_group_62 v_X10_184 hA (c_here κ _ hA b1 hT2) (by decide) rfl ?_
      rw [f16, f17, f18]
      refine r_bipush dX10_group_65 (by decide) ?_
      refine r_isub dX10_group_67 ?_
      refine m_ast dX10_group_68 hA (by decide) rfl (by first | omega | (simp only [mlen]; omega)) (by first | omega | (simp only [mlen]; omega)) ?_
      refine r_al0 dX10_group_69 ?_
      refine r_dup dX10_group_70 rfl ?_
      refine m_get dX10_group_71 f_X10_181 hA rfl ?_
      try simp only [updm_app, Int.reduceEq, Nat.reduceEqDiff, and_true, true_and, false_and, and_false, if_true, if_false, reduceIte, f18, f23]
      refine r_iconst dX10_group_74 ?_
      refine r_iadd dX10_group_75 ?_
      refine m_put dX10_group_76 f_X10_181 p_X10_181 (ff_14_18 _) hA mfp_18 rfl rfl ?_
      refine r_al0 dX10_group_79 ?_
      refine m_get dX10_group_80 f_X10_45 hA rfl ?_
      refine r_al0 dX10_group_83 ?_
      refine m_get dX10_group_84 f_X10_193 hA rfl ?_
      try simp only [updm_app, Int.reduceEq, Nat.reduceEqDiff, and_true, true_and, false_and, and_false, if_true, if_false, reduceIte, f18, f23]
      refine r_il2 dX10_group_87 ?_
      refine m_ast dX10_group_88 hA (by decide) rfl (by first | omega | (simp only [mlen]; omega)) (by first | omega | (simp only [mlen]; omega)) ?_
      refine r_al0 dX10_group_89 ?_
      refine r_dup dX10_group_90 rfl ?_
      refine m_get dX10_group_91 f_X10_193 hA rfl ?_
      try simp only [updm_app, Int.reduceEq, Nat.reduceEqDiff, and_true, true_and, false_and, and_false, if_true, if_false, reduceIte, f18, f23]
      refine r_iconst dX10_group_94 ?_
      refine r_iadd dX10_group_95 ?_
      refine m_put dX10_group_96 f_X10_193 p_X10_193 (ff_14_23 _) hA mfp_23 rfl rfl ?_
      have hR5 : RG (updm (updm (updm (updm M_35 21 (12 * M 30 22 + 2) (hre (M 16) (M 30 17) (M 30 18 + 1) - 48)) 30 18 (M 30 18 + 1 + 1)) 24 (M 30 23) (M 30 22)) 30 23 (M 30 23 + 1)) := RG.up (RG.up (RG.up (RG.up b1 hdg) (by omega)) (by omega)) (by omega)
      have hS5 : SB [21, 24] [18, 22, 23] M (updm (updm (updm (updm M_35 21 (12 * M 30 22 + 2) (hre (M 16) (M 30 17) (M 30 18 + 1) - 48)) 30 18 (M 30 18 + 1 + 1)) 24 (M 30 23) (M 30 22)) 30 23 (M 30 23 + 1)) := SB.upF (SB.upA (SB.upF (SB.upA hS2 (by decide) (by decide)) (by decide)) (by decide) (by decide)) (by decide)
      have g16 : (updm (updm (updm (updm M_35 21 (12 * M 30 22 + 2) (hre (M 16) (M 30 17) (M 30 18 + 1) - 48)) 30 18 (M 30 18 + 1 + 1)) 24 (M 30 23) (M 30 22)) 30 23 (M 30 23 + 1)) 16 = M 16 := hS5.1 16 (by decide) (by decide)
      have g17 : (updm (updm (updm (updm M_35 21 (12 * M 30 22 + 2) (hre (M 16) (M 30 17) (M 30 18 + 1) - 48)) 30 18 (M 30 18 + 1 + 1)) 24 (M 30 23) (M 30 22)) 30 23 (M 30 23 + 1)) 30 17 = M 30 17 := hS5.2 17 (by decide)
      have g18 : (updm (updm (updm (updm M_35 21 (12 * M 30 22 + 2) (hre (M 16) (M 30 17) (M 30 18 + 1) - 48)) 30 18 (M 30 18 + 1 + 1)) 24 (M 30 23) (M 30 22)) 30 23 (M 30 23 + 1)) 30 18 = M 30 18 + 1 + 1 := by
        rw [updm_ne (by decide), updm_k (by decide), updm_at]
      have hT5 : TX (updm (updm (updm (updm M_35 21 (12 * M 30 22 + 2) (hre (M 16) (M 30 17) (M 30 18 + 1) - 48)) 30 18 (M 30 18 + 1 + 1)) 24 (M 30 23) (M 30 22)) 30 23 (M 30 23 + 1)) := ⟨by rw [g18]; omega, by rw [g18, g17]; omega, by rw [g17]; exact t2⟩
      refine r_al0 dX10_group_99 ?_
      refine r_bipush dX10_group_100 (by decide) ?_
      refine m_callR1 dX10_group_102 v_X10_205 hA (c_skips κ hA hR5 hT5 (c := 58) (by decide)) (by decide) rfl (fun r_102 M_102 h_102 => ?_)
      rw [g16, g17, g18] at h_102
      rcases h_102 with ⟨a1, rfl, rfl⟩ | ⟨a1, rfl, rfl⟩
      · have hs3 : M 30 18 + 1 + 1 < M 30 17 := hre_in (T := M 16) (by rw [a1]; decide)
        refine r_iret dX10_group_105 (ty := .boolean) rfl (by decide) ⟨_, _, rfl, rfl, RG.up hR5 (by omega), SB.upF hS5 (by decide), Or.inr ⟨_, pgrp_y (by assumption) c_49 a1, rfl, by omega, by unfold QIn at c_49; omega, updm_at, hs3, ?_, ?_, ?_, fun i hi => ?_, fun x x0 x1 => ?_, fun j hj => ?_⟩⟩
        · simp only [updm_app, Int.reduceEq, Nat.reduceEqDiff, and_true, true_and, false_and, and_false, if_true, if_false, reduceIte]; exact b3
        · simp only [updm_app, Int.reduceEq, Nat.reduceEqDiff, and_true, true_and, false_and, and_false, if_true, if_false, reduceIte]
        · rw [updm_k (by decide), updm_k (by decide), updm_at]
        · rw [updm_k (by decide), updm_k (by decide), updm_ne (by omega), updm_k (by decide), updm_k (by decide), f24]
        · rw [updm_k (by decide), updm_k (by decide), updm_k (by decide), updm_k (by decide), upz_app]
          by_cases e : x = 2
          · rw [if_pos e, e, updm_at]
          · rw [if_neg e, updm_ne (by omega)]
            exact b4 x x0 x1
        · rw [updm_k (by decide), updm_k (by decide), updm_k (by decide), updm_k (by decide), updm_ne (by omega)]
          exact b6 j hj
      · exact r_iret dX10_group_105 (ty := .boolean) rfl (by decide) ⟨_, _, rfl, rfl, hR5, hS5, Or.inl ⟨_, pgrp_c (by assumption) c_49 a1, rfl, g18, by omega, by omega⟩⟩
    · refine r_iconst dX10_group_52 ?_
      exact r_iret dX10_group_53 (ty := .boolean) rfl (by decide) ⟨_, _, rfl, rfl, b1, hS2, Or.inl ⟨_, pgrp_d (by assumption) (by assumption), rfl, f18, by omega, by omega⟩⟩
  · refine r_iconst dX10_group_8 ?_
    exact r_iret dX10_group_9 (ty := .boolean) rfl (by decide) ⟨_, _, rfl, rfl, hR, SB.rf, Or.inl ⟨_, pgrp_3 (by assumption), rfl, rfl, Int.le_refl _, t1⟩⟩
