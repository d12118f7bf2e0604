/-! ===== blocks as they are read: rows ===== -/
def bgn (grp par o : Int) : Int → Int := fun w => if w = 0 then grp else if w = 1 then par else if w = 3 then (if grp = 1 then -1 else 60) else if w = 4 then (if grp = 1 then -1 else 10) else if w = 11 then o else 0
def ppar (M : MEM) : Int := if M 30 23 = 0 then -1 else M 24 (M 30 23 - 1)
def PBg (M : MEM) (grp : Int) (M' : MEM) : Prop := RG M' ∧ SB [21] [22] M M' ∧ M' 30 22 = M 30 22 + 1 ∧ (∀ x, 0 ≤ x → x < 12 → M' 21 (12 * M 30 22 + x) = bgn grp (ppar M) (M 30 23) x) ∧ ∀ j, j < 12 * M 30 22 → M' 21 j = M 21 j
set_option maxRecDepth 100000 in
set_option maxHeartbeats 4000000 in
theorem l_begins (κ : KP) {A : Nat → Nat} {M : MEM} (h : AH) (hA : MA A) (hR : RG M) {gr : Int} (hgr : 0 ≤ gr ∧ gr ≤ 1) (k0 : 0 ≤ M 30 22) (k1 : M 30 22 ≤ 25) (o0 : 0 ≤ M 30 23) (o1 : M 30 23 ≤ 3) : ∀ (f : Nat) (M1 : MEM) (i : Int), 12 - i < (f : Int) → (0 ≤ i) → (i ≤ 12) → (RG M1) → (SB [21] [] M M1) → (∀ x, 0 ≤ x → x < i → M1 21 (12 * M 30 22 + x) = 0) → (∀ j, j < 12 * M 30 22 → M1 21 j = M 21 j) → WW κ mX10_begins 1 0 0 (fun v h' => ∃ M', v = none ∧ h' = mset A M' h ∧ PBg M gr M') NoX 10 [some (.ref (A 30)), some (.int (J gr)), some (.int (J (12 * M 30 22))), some (.int (J i))] [] (mset A M1 h) := by
  intro f
  induction f with
  | zero =>
    intro M1 i hf i0 i1 hR1 hS hz hj0
    exact absurd hf (by omega)
  | succ f ih =>
    intro M1 i hf i0 i1 hR1 hS hz hj0
    have e22 : M1 30 22 = M 30 22 := hS.2 22 (by decide)
    have e23 : M1 30 23 = M 30 23 := hS.2 23 (by decide)
    have e24 : M1 24 = M 24 := hS.1 24 (by decide) (by decide)
    refine r_il3 dX10_begins_10 ?_
    refine r_bipush dX10_begins_11 (by decide) ?_
    refine r_icmp_ge (tgt := 31) dX10_begins_13 (by decide) (by first | omega | exact hR _ _ | exact hR1 _ _) (by first | omega | exact hR _ _ | exact hR1 _ _) (fun c_13 => ?_) (fun c_13 => ?_)
    · refine r_al0 dX10_begins_31 ?_
      refine m_get dX10_begins_32 f_X10_42 hA rfl ?_
      refine r_il2 dX10_begins_35 ?_
      refine r_iconst dX10_begins_36 ?_
      refine r_iadd dX10_begins_37 ?_
      refine r_il1 dX10_begins_38 ?_
      refine m_ast dX10_begins_39 hA (by decide) rfl (by first | omega | (simp only [mlen]; omega)) (by first | omega | (simp only [mlen]; omega)) ?_
      refine r_al0 dX10_begins_40 ?_
      refine m_get dX10_begins_41 f_X10_42 hA rfl ?_
      refine r_il2 dX10_begins_44 ?_
      refine r_iconst dX10_begins_45 ?_
      refine r_iadd dX10_begins_46 ?_
      refine r_al0 dX10_begins_47 ?_
      refine m_get dX10_begins_48 f_X10_193 hA rfl ?_
      try simp only [updm_app, Int.reduceEq, Nat.reduceEqDiff, and_true, true_and, false_and, and_false, if_true, if_false, reduceIte, e22, e23, e24]
      refine r_if_ne (tgt := 58) dX10_begins_51 (by decide) (by first | omega | exact hR _ _ | exact hR1 _ _) (fun c_51 => ?_) (fun c_51 => ?_)
      · refine r_al0 dX10_begins_58 ?_
        refine m_get dX10_begins_59 f_X10_45 hA rfl ?_
        refine r_al0 dX10_begins_62 ?_
        refine m_get dX10_begins_63 f_X10_193 hA rfl ?_
        try simp only [updm_app, Int.reduceEq, Nat.reduceEqDiff, and_true, true_and, false_and, and_false, if_true, if_false, reduceIte, e22, e23, e24]
        refine r_iconst dX10_begins_66 ?_
        refine r_isub dX10_begins_67 ?_
        refine m_ald dX10_begins_68 hA (by decide) rfl (by first | omega | (simp only [mlen]; omega)) (by first | omega | (simp only [mlen]; omega)) ?_
        try simp only [updm_app, Int.reduceEq, Nat.reduceEqDiff, and_true, true_and, false_and, and_false, if_true, if_false, reduceIte, e22, e23, e24]
        refine m_ast dX10_begins_69 hA (by decide) rfl (by first | omega | (simp only [mlen]; omega)) (by first | omega | (simp only [mlen]; omega)) ?_
        refine r_al0 dX10_begins_70 ?_
        refine m_get dX10_begins_71 f_X10_42 hA rfl ?_
        refine r_il2 dX10_begins_74 ?_
        refine r_iconst dX10_begins_75 ?_
        refine r_iadd dX10_begins_76 ?_
        refine r_il1 dX10_begins_77 ?_
        refine r_iconst dX10_begins_78 ?_
        refine r_icmp_ne (tgt := 86) dX10_begins_79 (by decide) (by first | omega | exact hR _ _ | exact hR1 _ _) (by first | omega | exact hR _ _ | exact hR1 _ _) (fun c_79 => ?_) (fun c_79 => ?_)
        · refine r_bipush dX10_begins_86 (by decide) ?_
          refine m_ast dX10_begins_88 hA (by decide) rfl (by first | omega | (simp only [mlen]; omega)) (by first | omega | (simp only [mlen]; omega)) ?_
          refine r_al0 dX10_begins_89 ?_
          refine m_get dX10_begins_90 f_X10_42 hA rfl ?_
          refine r_il2 dX10_begins_93 ?_
          refine r_iconst dX10_begins_94 ?_
          refine r_iadd dX10_begins_95 ?_
          refine r_il1 dX10_begins_96 ?_
          refine r_iconst dX10_begins_97 ?_
          refine r_icmp_ne (tgt := 105) dX10_begins_98 (by decide) (by first | omega | exact hR _ _ | exact hR1 _ _) (by first | omega | exact hR _ _ | exact hR1 _ _) (fun c_98 => ?_) (fun c_98 => ?_)
          · refine r_bipush dX10_begins_105 (by decide) ?_
            refine m_ast dX10_begins_107 hA (by decide) rfl (by first | omega | (simp only [mlen]; omega)) (by first | omega | (simp only [mlen]; omega)) ?_
            refine r_al0 dX10_begins_108 ?_
            refine m_get dX10_begins_109 f_X10_42 hA rfl ?_
            refine r_il2 dX10_begins_112 ?_
            refine r_bipush dX10_begins_113 (by decide) ?_
            refine r_iadd dX10_begins_115 ?_
            refine r_al0 dX10_begins_116 ?_
            refine m_get dX10_begins_117 f_X10_193 hA rfl ?_
            try simp only [updm_app, Int.reduceEq, Nat.reduceEqDiff, and_true, true_and, false_and, and_false, if_true, if_false, reduceIte, e22, e23, e24]
            refine m_ast dX10_begins_120 hA (by decide) rfl (by first | omega | (simp only [mlen]; omega)) (by first | omega | (simp only [mlen]; omega)) ?_
            refine r_al0 dX10_begins_121 ?_
            refine r_dup dX10_begins_122 rfl ?_
            refine m_get dX10_begins_123 f_X10_190 hA rfl ?_
            try simp only [updm_app, Int.reduceEq, Nat.reduceEqDiff, and_true, true_and, false_and, and_false, if_true, if_false, reduceIte, e22, e23, e24]
            refine r_iconst dX10_begins_126 ?_
            refine r_iadd dX10_begins_127 ?_
            refine m_put dX10_begins_128 f_X10_190 p_X10_190 (ff_14_22 _) hA mfp_22 rfl rfl ?_
            first
              | (exfalso; omega)
              | (refine r_ret dX10_begins_131 rfl ⟨_, rfl, rfl, ?_, ?_, ?_, fun x x0 x1 => ?_, fun j hj => ?_⟩
                 · repeat (first | exact hR1 | refine RG.up ?_ (by first | omega | exact hR _ _ | exact hR1 _ _))
                 · repeat (first | exact hS.mono (by decide) (by decide) | refine SB.upF ?_ (by decide) | refine SB.upA ?_ (by decide) (by decide))
                 · rw [updm_at]
                 · rw [updm_k (by decide)]
                   unfold bgn ppar
                   rcases (show x = 0 ∨ x = 1 ∨ x = 3 ∨ x = 4 ∨ x = 11 ∨ (x ≠ 0 ∧ x ≠ 1 ∧ x ≠ 3 ∧ x ≠ 4 ∧ x ≠ 11) by omega) with z | z | z | z | z | z
                   · subst z; rw [if_pos rfl]; (repeat (first | rw [updm_at] | rw [updm_ne (by omega)]))
                   · subst z; rw [if_neg (by decide), if_pos rfl]; (first | rw [if_pos (by assumption)] | rw [if_neg (by assumption)]); (repeat (first | rw [updm_at] | rw [updm_ne (by omega)]))
                   · subst z; rw [if_neg (by decide), if_neg (by decide), if_pos rfl]; (first | rw [if_pos (by omega)] | rw [if_neg (by omega)]); (repeat (first | rw [updm_at] | rw [updm_ne (by omega)]))
                   · subst z; rw [if_neg (by decide), if_neg (by decide), if_neg (by decide), if_pos rfl]; (first | rw [if_pos (by omega)] | rw [if_neg (by omega)]); (repeat (first | rw [updm_at] | rw [updm_ne (by omega)]))
                   · subst z; rw [if_neg (by decide), if_neg (by decide), if_neg (by decide), if_neg (by decide), if_pos rfl]; (repeat (first | rw [updm_at] | rw [updm_ne (by omega)]))
                   · rw [if_neg z.1, if_neg z.2.1, if_neg z.2.2.1, if_neg z.2.2.2.1, if_neg z.2.2.2.2]; (repeat (first | rw [updm_at] | rw [updm_ne (by omega)])); exact hz x x0 (by omega)
                 · rw [updm_k (by decide)]; (repeat (first | rw [updm_at] | rw [updm_ne (by omega)])); exact hj0 j hj)
          · refine r_iconst dX10_begins_101 ?_
            refine r_goto (tgt := 107) dX10_begins_102 (by decide) ?_
            refine m_ast dX10_begins_107 hA (by decide) rfl (by first | omega | (simp only [mlen]; omega)) (by first | omega | (simp only [mlen]; omega)) ?_
            refine r_al0 dX10_begins_108 ?_
            refine m_get dX10_begins_109 f_X10_42 hA rfl ?_
            refine r_il2 dX10_begins_112 ?_
            refine r_bipush dX10_begins_113 (by decide) ?_
            refine r_iadd dX10_begins_115 ?_
            refine r_al0 dX10_begins_116 ?_
            refine m_get dX10_begins_117 f_X10_193 hA rfl ?_
            try simp only [updm_app, Int.reduceEq, Nat.reduceEqDiff, and_true, true_and, false_and, and_false, if_true, if_false, reduceIte, e22, e23, e24]
            refine m_ast dX10_begins_120 hA (by decide) rfl (by first | omega | (simp only [mlen]; omega)) (by first | omega | (simp only [mlen]; omega)) ?_
            refine r_al0 dX10_begins_121 ?_
            refine r_dup dX10_begins_122 rfl ?_
            refine m_get dX10_begins_123 f_X10_190 hA rfl ?_
            try simp only [updm_app, Int.reduceEq, Nat.reduceEqDiff, and_true, true_and, false_and, and_false, if_true, if_false, reduceIte, e22, e23, e24]
            refine r_iconst dX10_begins_126 ?_
            refine r_iadd dX10_begins_127 ?_
            refine m_put dX10_begins_128 f_X10_190 p_X10_190 (ff_14_22 _) hA mfp_22 rfl rfl ?_
            first
              | (exfalso; omega)
              | (refine r_ret dX10_begins_131 rfl ⟨_, rfl, rfl, ?_, ?_, ?_, fun x x0 x1 => ?_, fun j hj => ?_⟩
                 · repeat (first | exact hR1 | refine RG.up ?_ (by first | omega | exact hR _ _ | exact hR1 _ _))
                 · repeat (first | exact hS.mono (by decide) (by decide) | refine SB.upF ?_ (by decide) | refine SB.upA ?_ (by decide) (by decide))
                 · rw [updm_at]
                 · rw [updm_k (by decide)]
                   unfold bgn ppar
                   rcases (show x = 0 ∨ x = 1 ∨ x = 3 ∨ x = 4 ∨ x = 11 ∨ (x ≠ 0 ∧ x ≠ 1 ∧ x ≠ 3 ∧ x ≠ 4 ∧ x ≠ 11) by omega) with z | z | z | z | z | z
                   · subst z; rw [if_pos rfl]; (repeat (first | rw [updm_at] | rw [updm_ne (by omega)]))
                   · subst z; rw [if_neg (by decide), if_pos rfl]; (first | rw [if_pos (by assumption)] | rw [if_neg (by assumption)]); (repeat (first | rw [updm_at] | rw [updm_ne (by omega)]))
                   · subst z; rw [if_neg (by decide), if_neg (by decide), if_pos rfl]; (first | rw [if_pos (by omega)] | rw [if_neg (by omega)]); (repeat (first | rw [updm_at] | rw [updm_ne (by omega)]))
                   · subst z; rw [if_neg (by decide), if_neg (by decide), if_neg (by decide), if_pos rfl]; (first | rw [if_pos (by omega)] | rw [if_neg (by omega)]); (repeat (first | rw [updm_at] | rw [updm_ne (by omega)]))
                   · subst z; rw [if_neg (by decide), if_neg (by decide), if_neg (by decide), if_neg (by decide), if_pos rfl]; (repeat (first | rw [updm_at] | rw [updm_ne (by omega)]))
                   · rw [if_neg z.1, if_neg z.2.1, if_neg z.2.2.1, if_neg z.2.2.2.1, if_neg z.2.2.2.2]; (repeat (first | rw [updm_at] | rw [updm_ne (by omega)])); exact hz x x0 (by omega)
                 · rw [updm_k (by decide)]; (repeat (first | rw [updm_at] | rw [updm_ne (by omega)])); exact hj0 j hj)
        · refine r_iconst dX10_begins_82 ?_
          refine r_goto (tgt := 88) dX10_begins_83 (by decide) ?_
          refine m_ast dX10_begins_88 hA (by decide) rfl (by first | omega | (simp only [mlen]; omega)) (by first | omega | (simp only [mlen]; omega)) ?_
          refine r_al0 dX10_begins_89 ?_
          refine m_get dX10_begins_90 f_X10_42 hA rfl ?_
          refine r_il2 dX10_begins_93 ?_
          refine r_iconst dX10_begins_94 ?_
          refine r_iadd dX10_begins_95 ?_
          refine r_il1 dX10_begins_96 ?_
          refine r_iconst dX10_begins_97 ?_
          refine r_icmp_ne (tgt := 105) dX10_begins_98 (by decide) (by first | omega | exact hR _ _ | exact hR1 _ _) (by first | omega | exact hR _ _ | exact hR1 _ _) (fun c_98 => ?_) (fun c_98 => ?_)
          · refine r_bipush dX10_begins_105 (by decide) ?_
            refine m_ast dX10_begins_107 hA (by decide) rfl (by first | omega | (simp only [mlen]; omega)) (by first | omega | (simp only [mlen]; omega)) ?_
            refine r_al0 dX10_begins_108 ?_
            refine m_get dX10_begins_109 f_X10_42 hA rfl ?_
            refine r_il2 dX10_begins_112 ?_
            refine r_bipush dX10_begins_113 (by decide) ?_
            refine r_iadd dX10_begins_115 ?_
            refine r_al0 dX10_begins_116 ?_
            refine m_get dX10_begins_117 f_X10_193 hA rfl ?_
            try simp only [updm_app, Int.reduceEq, Nat.reduceEqDiff, and_true, true_and, false_and, and_false, if_true, if_false, reduceIte, e22, e23, e24]
            refine m_ast dX10_begins_120 hA (by decide) rfl (by first | omega | (simp only [mlen]; omega)) (by first | omega | (simp only [mlen]; omega)) ?_
            refine r_al0 dX10_begins_121 ?_
            refine r_dup dX10_begins_122 rfl ?_
            refine m_get dX10_begins_123 f_X10_190 hA rfl ?_
            try simp only [updm_app, Int.reduceEq, Nat.reduceEqDiff, and_true, true_and, false_and, and_false, if_true, if_false, reduceIte, e22, e23, e24]
            refine r_iconst dX10_begins_126 ?_
            refine r_iadd dX10_begins_127 ?_
            refine m_put dX10_begins_128 f_X10_190 p_X10_190 (ff_14_22 _) hA mfp_22 rfl rfl ?_
            first
              | (exfalso; omega)
              | (refine r_ret dX10_begins_131 rfl ⟨_, rfl, rfl, ?_, ?_, ?_, fun x x0 x1 => ?_, fun j hj => ?_⟩
                 · repeat (first | exact hR1 | refine RG.up ?_ (by first | omega | exact hR _ _ | exact hR1 _ _))
                 · repeat (first | exact hS.mono (by decide) (by decide) | refine SB.upF ?_ (by decide) | refine SB.upA ?_ (by decide) (by decide))
                 · rw [updm_at]
                 · rw [updm_k (by decide)]
                   unfold bgn ppar
                   rcases (show x = 0 ∨ x = 1 ∨ x = 3 ∨ x = 4 ∨ x = 11 ∨ (x ≠ 0 ∧ x ≠ 1 ∧ x ≠ 3 ∧ x ≠ 4 ∧ x ≠ 11) by omega) with z | z | z | z | z | z
                   · subst z; rw [if_pos rfl]; (repeat (first | rw [updm_at] | rw [updm_ne (by omega)]))
                   · subst z; rw [if_neg (by decide), if_pos rfl]; (first | rw [if_pos (by assumption)] | rw [if_neg (by assumption)]); (repeat (first | rw [updm_at] | rw [updm_ne (by omega)]))
                   · subst z; rw [if_neg (by decide), if_neg (by decide), if_pos rfl]; (first | rw [if_pos (by omega)] | rw [if_neg (by omega)]); (repeat (first | rw [updm_at] | rw [updm_ne (by omega)]))
                   · subst z; rw [if_neg (by decide), if_neg (by decide), if_neg (by decide), if_pos rfl]; (first | rw [if_pos (by omega)] | rw [if_neg (by omega)]); (repeat (first | rw [updm_at] | rw [updm_ne (by omega)]))
                   · subst z; rw [if_neg (by decide), if_neg (by decide), if_neg (by decide), if_neg (by decide), if_pos rfl]; (repeat (first | rw [updm_at] | rw [updm_ne (by omega)]))
                   · rw [if_neg z.1, if_neg z.2.1, if_neg z.2.2.1, if_neg z.2.2.2.1, if_neg z.2.2.2.2]; (repeat (first | rw [updm_at] | rw [updm_ne (by omega)])); exact hz x x0 (by omega)
                 · rw [updm_k (by decide)]; (repeat (first | rw [updm_at] | rw [updm_ne (by omega)])); exact hj0 j hj)
          · refine r_iconst dX10_begins_101 ?_
            refine r_goto (tgt := 107) dX10_begins_102 (by decide) ?_
            refine m_ast dX10_begins_107 hA (by decide) rfl (by first | omega | (simp only [mlen]; omega)) (by first | omega | (simp only [mlen]; omega)) ?_
            refine r_al0 dX10_begins_108 ?_
            refine m_get dX10_begins_109 f_X10_42 hA rfl ?_
            refine r_il2 dX10_begins_112 ?_
            refine r_bipush dX10_begins_113 (by decide) ?_
            refine r_iadd dX10_begins_115 ?_
            refine r_al0 dX10_begins_116 ?_
            refine m_get dX10_begins_117 f_X10_193 hA rfl ?_
            try simp only [updm_app, Int.reduceEq, Nat.reduceEqDiff, and_true, true_and, false_and, and_false, if_true, if_false, reduceIte, e22, e23, e24]
            refine m_ast dX10_begins_120 hA (by decide) rfl (by first | omega | (simp only [mlen]; omega)) (by first | omega | (simp only [mlen]; omega)) ?_
            refine r_al0 dX10_begins_121 ?_
            refine r_dup dX10_begins_122 rfl ?_
            refine m_get dX10_begins_123 f_X10_190 hA rfl ?_
            try simp only [updm_app, Int.reduceEq, Nat.reduceEqDiff, and_true, true_and, false_and, and_false, if_true, if_false, reduceIte, e22, e23, e24]
            refine r_iconst dX10_begins_126 ?_
            refine r_iadd dX10_begins_127 ?_
            refine m_put dX10_begins_128 f_X10_190 p_X10_190 (ff_14_22 _) hA mfp_22 rfl rfl ?_
            first
              | (exfalso; omega)
              | (refine r_ret dX10_begins_131 rfl ⟨_, rfl, rfl, ?_, ?_, ?_, fun x x0 x1 => ?_, fun j hj => ?_⟩
                 · repeat (first | exact hR1 | refine RG.up ?_ (by first | omega | exact hR _ _ | exact hR1 _ _))
                 · repeat (first | exact hS.mono (by decide) (by decide) | refine SB.upF ?_ (by decide) | refine SB.upA ?_ (by decide) (by decide))
                 · rw [updm_at]
                 · rw [updm_k (by decide)]
                   unfold bgn ppar
                   rcases (show x = 0 ∨ x = 1 ∨ x = 3 ∨ x = 4 ∨ x = 11 ∨ (x ≠ 0 ∧ x ≠ 1 ∧ x ≠ 3 ∧ x ≠ 4 ∧ x ≠ 11) by omega) with z | z | z | z | z | z
                   · subst z; rw [if_pos rfl]; (repeat (first | rw [updm_at] | rw [updm_ne (by omega)]))
                   · subst z; rw [if_neg (by decide), if_pos rfl]; (first | rw [if_pos (by assumption)] | rw [if_neg (by assumption)]); (repeat (first | rw [updm_at] | rw [updm_ne (by omega)]))
                   · subst z; rw [if_neg (by decide), if_neg (by decide), if_pos rfl]; (first | rw [if_pos (by omega)] | rw [if_neg (by omega)]); (repeat (first | rw [updm_at] | rw [updm_ne (by omega)]))
                   · subst z; rw [if_neg (by decide), if_neg (by decide), if_neg (by decide), if_pos rfl]; (first | rw [if_pos (by omega)] | rw [if_neg (by omega)]); (repeat (first | rw [updm_at] | rw [updm_ne (by omega)]))
                   · subst z; rw [if_neg (by decide), if_neg (by decide), if_neg (by decide), if_neg (by decide), if_pos rfl]; (repeat (first | rw [updm_at] | rw [updm_ne (by omega)]))
                   · rw [if_neg z.1, if_neg z.2.1, if_neg z.2.2.1, if_neg z.2.2.2.1, if_neg z.2.2.2.2]; (repeat (first | rw [updm_at] | rw [updm_ne (by omega)])); exact hz x x0 (by omega)
                 · rw [updm_k (by decide)]; (repeat (first | rw [updm_at] | rw [updm_ne (by omega)])); exact hj0 j hj)
      · refine r_iconst dX10_begins_54 ?_
        refine r_goto (tgt := 69) dX10_begins_55 (by decide) ?_
        refine m_ast dX10_begins_69 hA (by decide) rfl (by first | omega | (simp only [mlen]; omega)) (by first | omega | (simp only [mlen]; omega)) ?_
        refine r_al0 dX10_begins_70 ?_
        refine m_get dX10_begins_71 f_X10_42 hA rfl ?_
        refine r_il2 dX10_begins_74 ?_
        refine r_iconst dX10_begins_75 ?_
        refine r_iadd dX10_begins_76 ?_
        refine r_il1 dX10_begins_77 ?_
        refine r_iconst dX10_begins_78 ?_
        refine r_icmp_ne (tgt := 86) dX10_begins_79 (by decide) (by first | omega | exact hR _ _ | exact hR1 _ _) (by first | omega | exact hR _ _ | exact hR1 _ _) (fun c_79 => ?_) (fun c_79 => ?_)
        · refine r_bipush dX10_begins_86 (by decide) ?_
          refine m_ast dX10_begins_88 hA (by decide) rfl (by first | omega | (simp only [mlen]; omega)) (by first | omega | (simp only [mlen]; omega)) ?_
          refine r_al0 dX10_begins_89 ?_
          refine m_get dX10_begins_90 f_X10_42 hA rfl ?_
          refine r_il2 dX10_begins_93 ?_
          refine r_iconst dX10_begins_94 ?_
          refine r_iadd dX10_begins_95 ?_
          refine r_il1 dX10_begins_96 ?_
          refine r_iconst dX10_begins_97 ?_
          refine r_icmp_ne (tgt := 105) dX10_begins_98 (by decide) (by first | omega | exact hR _ _ | exact hR1 _ _) (by first | omega | exact hR _ _ | exact hR1 _ _) (fun c_98 => ?_) (fun c_98 => ?_)
          · refine r_bipush dX10_begins_105 (by decide) ?_
            refine m_ast dX10_begins_107 hA (by decide) rfl (by first | omega | (simp only [mlen]; omega)) (by first | omega | (simp only [mlen]; omega)) ?_
            refine r_al0 dX10_begins_108 ?_
            refine m_get dX10_begins_109 f_X10_42 hA rfl ?_
            refine r_il2 dX10_begins_112 ?_
            refine r_bipush dX10_begins_113 (by decide) ?_
            refine r_iadd dX10_begins_115 ?_
            refine r_al0 dX10_begins_116 ?_
            refine m_get dX10_begins_117 f_X10_193 hA rfl ?_
            try simp only [updm_app, Int.reduceEq, Nat.reduceEqDiff, and_true, true_and, false_and, and_false, if_true, if_false, reduceIte, e22, e23, e24]
            refine m_ast dX10_begins_120 hA (by decide) rfl (by first | omega | (simp only [mlen]; omega)) (by first | omega | (simp only [mlen]; omega)) ?_
            refine r_al0 dX10_begins_121 ?_
            refine r_dup dX10_begins_122 rfl ?_
            refine m_get dX10_begins_123 f_X10_190 hA rfl ?_
            try simp only [updm_app, Int.reduceEq, Nat.reduceEqDiff, and_true, true_and, false_and, and_false, if_true, if_false, reduceIte, e22, e23, e24]
            refine r_iconst dX10_begins_126 ?_
            refine r_iadd dX10_begins_127 ?_
            refine m_put dX10_begins_128 f_X10_190 p_X10_190 (ff_14_22 _) hA mfp_22 rfl rfl ?_
            first
              | (exfalso; omega)
              | (refine r_ret dX10_begins_131 rfl ⟨_, rfl, rfl, ?_, ?_, ?_, fun x x0 x1 => ?_, fun j hj => ?_⟩
                 · repeat (first | exact hR1 | refine RG.up ?_ (by first | omega | exact hR _ _ | exact hR1 _ _))
                 · repeat (first | exact hS.mono (by decide) (by decide) | refine SB.upF ?_ (by decide) | refine SB.upA ?_ (by decide) (by decide))
                 · rw [updm_at]
                 · rw [updm_k (by decide)]
                   unfold bgn ppar
                   rcases (show x = 0 ∨ x = 1 ∨ x = 3 ∨ x = 4 ∨ x = 11 ∨ (x ≠ 0 ∧ x ≠ 1 ∧ x ≠ 3 ∧ x ≠ 4 ∧ x ≠ 11) by omega) with z | z | z | z | z | z
                   · subst z; rw [if_pos rfl]; (repeat (first | rw [updm_at] | rw [updm_ne (by omega)]))
                   · subst z; rw [if_neg (by decide), if_pos rfl]; (first | rw [if_pos (by assumption)] | rw [if_neg (by assumption)]); (repeat (first | rw [updm_at] | rw [updm_ne (by omega)]))
                   · subst z; rw [if_neg (by decide), if_neg (by decide), if_pos rfl]; (first | rw [if_pos (by omega)] | rw [if_neg (by omega)]); (repeat (first | rw [updm_at] | rw [updm_ne (by omega)]))
                   · subst z; rw [if_neg (by decide), if_neg (by decide), if_neg (by decide), if_pos rfl]; (first | rw [if_pos (by omega)] | rw [if_neg (by omega)]); (repeat (first | rw [updm_at] | rw [updm_ne (by omega)]))
                   · subst z; rw [if_neg (by decide), if_neg (by decide), if_neg (by decide), if_neg (by decide), if_pos rfl]; (repeat (first | rw [updm_at] | rw [updm_ne (by omega)]))
                   · rw [if_neg z.1, if_neg z.2.1, if_neg z.2.2.1, if_neg z.2.2.2.1, if_neg z.2.2.2.2]; (repeat (first | rw [updm_at] | rw [updm_ne (by omega)])); exact hz x x0 (by omega)
                 · rw [updm_k (by decide)]; (repeat (first | rw [updm_at] | rw [updm_ne (by omega)])); exact hj0 j hj)
          · refine r_iconst dX10_begins_101 ?_
            refine r_goto (tgt := 107) dX10_begins_102 (by decide) ?_
            refine m_ast dX10_begins_107 hA (by decide) rfl (by first | omega | (simp only [mlen]; omega)) (by first | omega | (simp only [mlen]; omega)) ?_
            refine r_al0 dX10_begins_108 ?_
            refine m_get dX10_begins_109 f_X10_42 hA rfl ?_
            refine r_il2 dX10_begins_112 ?_
            refine r_bipush dX10_begins_113 (by decide) ?_
            refine r_iadd dX10_begins_115 ?_
            refine r_al0 dX10_begins_116 ?_
            refine m_get dX10_begins_117 f_X10_193 hA rfl ?_
            try simp only [updm_app, Int.reduceEq, Nat.reduceEqDiff, and_true, true_and, false_and, and_false, if_true, if_false, reduceIte, e22, e23, e24]
            refine m_ast dX10_begins_120 hA (by decide) rfl (by first | omega | (simp only [mlen]; omega)) (by first | omega | (simp only [mlen]; omega)) ?_
            refine r_al0 dX10_begins_121 ?_
            refine r_dup dX10_begins_122 rfl ?_
            refine m_get dX10_begins_123 f_X10_190 hA rfl ?_
            try simp only [updm_app, Int.reduceEq, Nat.reduceEqDiff, and_true, true_and, false_and, and_false, if_true, if_false, reduceIte, e22, e23, e24]
            refine r_iconst dX10_begins_126 ?_
            refine r_iadd dX10_begins_127 ?_
            refine m_put dX10_begins_128 f_X10_190 p_X10_190 (ff_14_22 _) hA mfp_22 rfl rfl ?_
            first
              | (exfalso; omega)
              | (refine r_ret dX10_begins_131 rfl ⟨_, rfl, rfl, ?_, ?_, ?_, fun x x0 x1 => ?_, fun j hj => ?_⟩
                 · repeat (first | exact hR1 | refine RG.up ?_ (by first | omega | exact hR _ _ | exact hR1 _ _))
                 · repeat (first | exact hS.mono (by decide) (by decide) | refine SB.upF ?_ (by decide) | refine SB.upA ?_ (by decide) (by decide))
                 · rw [updm_at]
                 · rw [updm_k (by decide)]
                   unfold bgn ppar
                   rcases (show x = 0 ∨ x = 1 ∨ x = 3 ∨ x = 4 ∨ x = 11 ∨ (x ≠ 0 ∧ x ≠ 1 ∧ x ≠ 3 ∧ x ≠ 4 ∧ x ≠ 11) by omega) with z | z | z | z | z | z
                   · subst z; rw [if_pos rfl]; (repeat (first | rw [updm_at] | rw [updm_ne (by omega)]))
                   · subst z; rw [if_neg (by decide), if_pos rfl]; (first | rw [if_pos (by assumption)] | rw [if_neg (by assumption)]); (repeat (first | rw [updm_at] | rw [updm_ne (by omega)]))
                   · subst z; rw [if_neg (by decide), if_neg (by decide), if_pos rfl]; (first | rw [if_pos (by omega)] | rw [if_neg (by omega)]); (repeat (first | rw [updm_at] | rw [updm_ne (by omega)]))
                   · subst z; rw [if_neg (by decide), if_neg (by decide), if_neg (by decide), if_pos rfl]; (first | rw [if_pos (by omega)] | rw [if_neg (by omega)]); (repeat (first | rw [updm_at] | rw [updm_ne (by omega)]))
                   · subst z; rw [if_neg (by decide), if_neg (by decide), if_neg (by decide), if_neg (by decide), if_pos rfl]; (repeat (first | rw [updm_at] | rw [updm_ne (by omega)]))
                   · rw [if_neg z.1, if_neg z.2.1, if_neg z.2.2.1, if_neg z.2.2.2.1, if_neg z.2.2.2.2]; (repeat (first | rw [updm_at] | rw [updm_ne (by omega)])); exact hz x x0 (by omega)
                 · rw [updm_k (by decide)]; (repeat (first | rw [updm_at] | rw [updm_ne (by omega)])); exact hj0 j hj)
        · refine r_iconst dX10_begins_82 ?_
          refine r_goto (tgt := 88) dX10_begins_83 (by decide) ?_
          refine m_ast dX10_begins_88 hA (by decide) rfl (by first | omega | (simp only [mlen]; omega)) (by first | omega | (simp only [mlen]; omega)) ?_
          refine r_al0 dX10_begins_89 ?_
          refine m_get dX10_begins_90 f_X10_42 hA rfl ?_
          refine r_il2 dX10_begins_93 ?_
          refine r_iconst dX10_begins_94 ?_
          refine r_iadd dX10_begins_95 ?_
          refine r_il1 dX10_begins_96 ?_
          refine r_iconst dX10_begins_97 ?_
          refine r_icmp_ne (tgt := 105) dX10_begins_98 (by decide) (by first | omega | exact hR _ _ | exact hR1 _ _) (by first | omega | exact hR _ _ | exact hR1 _ _) (fun c_98 => ?_) (fun c_98 => ?_)
          · refine r_bipush dX10_begins_105 (by decide) ?_
            refine m_ast dX10_begins_107 hA (by decide) rfl (by first | omega | (simp only [mlen]; omega)) (by first | omega | (simp only [mlen]; omega)) ?_
            refine r_al0 dX10_begins_108 ?_
            refine m_get dX10_begins_109 f_X10_42 hA rfl ?_
            refine r_il2 dX10_begins_112 ?_
            refine r_bipush dX10_begins_113 (by decide) ?_
            refine r_iadd dX10_begins_115 ?_
            refine r_al0 dX10_begins_116 ?_
            refine m_get dX10_begins_117 f_X10_193 hA rfl ?_
            try simp only [updm_app, Int.reduceEq, Nat.reduceEqDiff, and_true, true_and, false_and, and_false, if_true, if_false, reduceIte, e22, e23, e24]
            refine m_ast dX10_begins_120 hA (by decide) rfl (by first | omega | (simp only [mlen]; omega)) (by first | omega | (simp only [mlen]; omega)) ?_
            refine r_al0 dX10_begins_121 ?_
            refine r_dup dX10_begins_122 rfl ?_
            refine m_get dX10_begins_123 f_X10_190 hA rfl ?_
            try simp only [updm_app, Int.reduceEq, Nat.reduceEqDiff, and_true, true_and, false_and, and_false, if_true, if_false, reduceIte, e22, e23, e24]
            refine r_iconst dX10_begins_126 ?_
            refine r_iadd dX10_begins_127 ?_
            refine m_put dX10_begins_128 f_X10_190 p_X10_190 (ff_14_22 _) hA mfp_22 rfl rfl ?_
            first
              | (exfalso; omega)
              | (refine r_ret dX10_begins_131 rfl ⟨_, rfl, rfl, ?_, ?_, ?_, fun x x0 x1 => ?_, fun j hj => ?_⟩
                 · repeat (first | exact hR1 | refine RG.up ?_ (by first | omega | exact hR _ _ | exact hR1 _ _))
                 · repeat (first | exact hS.mono (by decide) (by decide) | refine SB.upF ?_ (by decide) | refine SB.upA ?_ (by decide) (by decide))
                 · rw [updm_at]
                 · rw [updm_k (by decide)]
                   unfold bgn ppar
                   rcases (show x = 0 ∨ x = 1 ∨ x = 3 ∨ x = 4 ∨ x = 11 ∨ (x ≠ 0 ∧ x ≠ 1 ∧ x ≠ 3 ∧ x ≠ 4 ∧ x ≠ 11) by omega) with z | z | z | z | z | z
                   · subst z; rw [if_pos rfl]; (repeat (first | rw [updm_at] | rw [updm_ne (by omega)]))
                   · subst z; rw [if_neg (by decide), if_pos rfl]; (first | rw [if_pos (by assumption)] | rw [if_neg (by assumption)]); (repeat (first | rw [updm_at] | rw [updm_ne (by omega)]))
                   · subst z; rw [if_neg (by decide), if_neg (by decide), if_pos rfl]; (first | rw [if_pos (by omega)] | rw [if_neg (by omega)]); (repeat (first | rw [updm_at] | rw [updm_ne (by omega)]))
                   · subst z; rw [if_neg (by decide), if_neg (by decide), if_neg (by decide), if_pos rfl]; (first | rw [if_pos (by omega)] | rw [if_neg (by omega)]); (repeat (first | rw [updm_at] | rw [updm_ne (by omega)]))
                   · subst z; rw [if_neg (by decide), if_neg (by decide), if_neg (by decide), if_neg (by decide), if_pos rfl]; (repeat (first | rw [updm_at] | rw [updm_ne (by omega)]))
                   · rw [if_neg z.1, if_neg z.2.1, if_neg z.2.2.1, if_neg z.2.2.2.1, if_neg z.2.2.2.2]; (repeat (first | rw [updm_at] | rw [updm_ne (by omega)])); exact hz x x0 (by omega)
                 · rw [updm_k (by decide)]; (repeat (first | rw [updm_at] | rw [updm_ne (by omega)])); exact hj0 j hj)
          · refine r_iconst dX10_begins_101 ?_
            refine r_goto (tgt := 107) dX10_begins_102 (by decide) ?_
            refine m_ast dX10_begins_107 hA (by decide) rfl (by first | omega | (simp only [mlen]; omega)) (by first | omega | (simp only [mlen]; omega)) ?_
            refine r_al0 dX10_begins_108 ?_
            refine m_get dX10_begins_109 f_X10_42 hA rfl ?_
            refine r_il2 dX10_begins_112 ?_
            refine r_bipush dX10_begins_113 (by decide) ?_
            refine r_iadd dX10_begins_115 ?_
            refine r_al0 dX10_begins_116 ?_
            refine m_get dX10_begins_117 f_X10_193 hA rfl ?_
            try simp only [updm_app, Int.reduceEq, Nat.reduceEqDiff, and_true, true_and, false_and, and_false, if_true, if_false, reduceIte, e22, e23, e24]
            refine m_ast dX10_begins_120 hA (by decide) rfl (by first | omega | (simp only [mlen]; omega)) (by first | omega | (simp only [mlen]; omega)) ?_
            refine r_al0 dX10_begins_121 ?_
            refine r_dup dX10_begins_122 rfl ?_
            refine m_get dX10_begins_123 f_X10_190 hA rfl ?_
            try simp only [updm_app, Int.reduceEq, Nat.reduceEqDiff, and_true, true_and, false_and, and_false, if_true, if_false, reduceIte, e22, e23, e24]
            refine r_iconst dX10_begins_126 ?_
            refine r_iadd dX10_begins_127 ?_
            refine m_put dX10_begins_128 f_X10_190 p_X10_190 (ff_14_22 _) hA mfp_22 rfl rfl ?_
            first
              | (exfalso; omega)
              | (refine r_ret dX10_begins_131 rfl ⟨_, rfl, rfl, ?_, ?_, ?_, fun x x0 x1 => ?_, fun j hj => ?_⟩
                 · repeat (first | exact hR1 | refine RG.up ?_ (by first | omega | exact hR _ _ | exact hR1 _ _))
                 · repeat (first | exact hS.mono (by decide) (by decide) | refine SB.upF ?_ (by decide) | refine SB.upA ?_ (by decide) (by decide))
                 · rw [updm_at]
                 · rw [updm_k (by decide)]
                   unfold bgn ppar
                   rcases (show x = 0 ∨ x = 1 ∨ x = 3 ∨ x = 4 ∨ x = 11 ∨ (x ≠ 0 ∧ x ≠ 1 ∧ x ≠ 3 ∧ x ≠ 4 ∧ x ≠ 11) by omega) with z | z | z | z | z | z
                   · subst z; rw [if_pos rfl]; (repeat (first | rw [updm_at] | rw [updm_ne (by omega)]))
                   · subst z; rw [if_neg (by decide), if_pos rfl]; (first | rw [if_pos (by assumption)] | rw [if_neg (by assumption)]); (repeat (first | rw [updm_at] | rw [updm_ne (by omega)]))
                   · subst z; rw [if_neg (by decide), if_neg (by decide), if_pos rfl]; (first | rw [if_pos (by omega)] | rw [if_neg (by omega)]); (repeat (first | rw [updm_at] | rw [updm_ne (by omega)]))
                   · subst z; rw [if_neg (by decide), if_neg (by decide), if_neg (by decide), if_pos rfl]; (first | rw [if_pos (by omega)] | rw [if_neg (by omega)]); (repeat (first | rw [updm_at] | rw [updm_ne (by omega)]))
                   · subst z; rw [if_neg (by decide), if_neg (by decide), if_neg (by decide), if_neg (by decide), if_pos rfl]; (repeat (first | rw [updm_at] | rw [updm_ne (by omega)]))
                   · rw [if_neg z.1, if_neg z.2.1, if_neg z.2.2.1, if_neg z.2.2.2.1, if_neg z.2.2.2.2]; (repeat (first | rw [updm_at] | rw [updm_ne (by omega)])); exact hz x x0 (by omega)
                 · rw [updm_k (by decide)]; (repeat (first | rw [updm_at] | rw [updm_ne (by omega)])); exact hj0 j hj)
    · refine r_al0 dX10_begins_16 ?_
      refine m_get dX10_begins_17 f_X10_42 hA rfl ?_
      refine r_il2 dX10_begins_20 ?_
      refine r_il3 dX10_begins_21 ?_
      refine r_iadd dX10_begins_22 ?_
      refine r_iconst dX10_begins_23 ?_
      refine m_ast dX10_begins_24 hA (by decide) rfl (by first | omega | (simp only [mlen]; omega)) (by first | omega | (simp only [mlen]; omega)) ?_
      refine r_inc3 dX10_begins_25 rfl ?_
      refine r_goto (tgt := 10) dX10_begins_28 (by decide) ?_
      refine ih _ (i + 1) (by omega) (by omega) (by omega) (RG.up hR1 (by decide)) (SB.upA hS (by decide) (by decide)) (fun x x0 x1 => ?_) (fun j hj => ?_)
      · rcases (show x < i ∨ x = i by omega) with z | z
        · rw [updm_ne (by omega)]; exact hz x x0 z
        · rw [z, updm_at]
      · rw [updm_ne (by omega)]; exact hj0 j hj
set_option maxRecDepth 100000 in
set_option maxHeartbeats 4000000 in
theorem c_begins (κ : KP) {A : Nat → Nat} {M : MEM} (hA : MA A) (hR : RG M) {gr : Int} (hgr : 0 ≤ gr ∧ gr ≤ 1) (k0 : 0 ≤ M 30 22) (k1 : M 30 22 ≤ 25) (o0 : 0 ≤ M 30 23) (o1 : M 30 23 ≤ 3) : UM κ mX10_begins 1 A [.ref (A 30), .int (J gr)] M (PBg M gr) := by
  intro h
  refine mm_of (L := [some _, some _, none, none]) (by decide +kernel) rfl rfl (Nat.le_of_ble_eq_true rfl) rfl ?_
  refine r_bipush dX10_begins_0 (by decide) ?_
  refine r_al0 dX10_begins_2 ?_
  refine m_get dX10_begins_3 f_X10_190 hA rfl ?_
  refine r_imul dX10_begins_6 ?_
  refine r_is2 dX10_begins_7 rfl ?_
  refine r_iconst dX10_begins_8 ?_
  refine r_is3 dX10_begins_9 rfl ?_
  exact l_begins κ h hA hR hgr k0 k1 o0 o1 13 M 0 (by omega) (by omega) (by omega) hR SB.rf (fun x _ _ => by omega) (fun j _ => rfl)
/-- the letters of a leaf: m of them from s on -/
def PLt (T : Int → Int) (n s m : Int) : Prop := 0 ≤ m ∧ m ≤ 5 ∧ (∀ i, 0 ≤ i → i < m → QLow (hre T n (s + i)) ∧ ∀ j, 0 ≤ j → j < i → hre T n (s + j) ≠ hre T n (s + i)) ∧ ¬ (m < 5 ∧ QLow (hre T n (s + m)) ∧ ∀ j, 0 ≤ j → j < m → hre T n (s + j) ≠ hre T n (s + m))
theorem PLt.uniq {T : Int → Int} {n s m m' : Int} (h : PLt T n s m) (h' : PLt T n s m') : m = m' := by
  obtain ⟨a1, a2, a3, a4⟩ := h
  obtain ⟨b1, b2, b3, b4⟩ := h'
  rcases Int.lt_trichotomy m m' with q | q | q
  · exact absurd ⟨by omega, (b3 m a1 q).1, (b3 m a1 q).2⟩ a4
  · exact q
  · exact absurd ⟨by omega, (a3 m' b1 q).1, (a3 m' b1 q).2⟩ b4
def mkL (T : Int → Int) (s m par must term gr o : Int) : Int → Int := fun w => if w = 0 then 0 else if w = 1 then par else if w = 2 then must else if w = 3 then term else if w = 4 then gr else if w = 5 then m else if 6 ≤ w ∧ w < 6 + m then T (s + (w - 6)) else if w = 11 then o else 0
/-- a part that may be left out: a sign, a number -/
noncomputable def popt (T : Int → Int) (n c s d : Int) : Sum Int (Int × Int) := if tb (hre T n s = c) = true then (match pdig T n (s + 1) with
  | none => .inl (s + 1)
  | some p => .inr p) else .inr (s, d)
noncomputable def pleaf (T : Int → Int) (n s m par o : Int) : Sum Int (Int × (Int → Int)) := if m = 0 then .inl s else match pdig T n (s + m) with
  | none => .inl (s + m)
  | some (s1, must) => match popt T n 60 s1 60 with
    | .inl e => .inl e
    | .inr (s2, term) => match popt T n 62 s2 10 with
      | .inl e => .inl e
      | .inr (s3, gr) => .inr (s3, mkL T s m par must term gr o)
theorem pleaf_0 {T : Int → Int} {n s m par o : Int} (h : m = 0) : pleaf T n s m par o = .inl s := if_pos h
theorem pleaf_d {T : Int → Int} {n s m par o : Int} (h : m ≠ 0) (hd : pdig T n (s + m) = none) : pleaf T n s m par o = .inl (s + m) := by
  unfold pleaf
  rw [if_neg h, hd]
theorem pleaf_1 {T : Int → Int} {n s m par o s1 must e : Int} (h : m ≠ 0) (hd : pdig T n (s + m) = some (s1, must)) (h1 : popt T n 60 s1 60 = .inl e) : pleaf T n s m par o = .inl e := by
  unfold pleaf
  rw [if_neg h, hd]
  simp only [h1]
theorem pleaf_2 {T : Int → Int} {n s m par o s1 must s2 term e : Int} (h : m ≠ 0) (hd : pdig T n (s + m) = some (s1, must)) (h1 : popt T n 60 s1 60 = .inr (s2, term)) (h2 : popt T n 62 s2 10 = .inl e) : pleaf T n s m par o = .inl e := by
  unfold pleaf
  rw [if_neg h, hd]
  simp only [h1, h2]
theorem pleaf_3 {T : Int → Int} {n s m par o s1 must s2 term s3 gr : Int} (h : m ≠ 0) (hd : pdig T n (s + m) = some (s1, must)) (h1 : popt T n 60 s1 60 = .inr (s2, term)) (h2 : popt T n 62 s2 10 = .inr (s3, gr)) : pleaf T n s m par o = .inr (s3, mkL T s m par must term gr o) := by
  unfold pleaf
  rw [if_neg h, hd]
  simp only [h1, h2]
theorem popt_no {T : Int → Int} {n c s d : Int} (h : hre T n s ≠ c) : popt T n c s d = .inr (s, d) := by
  unfold popt
  rw [if_neg (by rw [tb_f.mpr h]; decide)]
theorem popt_e {T : Int → Int} {n c s d : Int} (h : hre T n s = c) (hd : pdig T n (s + 1) = none) : popt T n c s d = .inl (s + 1) := by
  unfold popt
  rw [if_pos (tb_t.mpr h), hd]
theorem popt_y {T : Int → Int} {n c s d : Int} {p : Int × Int} (h : hre T n s = c) (hd : pdig T n (s + 1) = some p) : popt T n c s d = .inr p := by
  unfold popt
  rw [if_pos (tb_t.mpr h), hd]
