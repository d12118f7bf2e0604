/-! ===== the text ===== -/
def hre (T : Int → Int) (n s : Int) : Int := if s < n then T s else -1
noncomputable def pdig (T : Int → Int) (n s : Int) : Option (Int × Int) := if tb (QIn (hre T n s) 48 57) = true then (if tb (0 < hre T n s - 48 ∧ QIn (hre T n (s + 1)) 48 57) = true then some (s + 1 + 1, 10 * (hre T n s - 48) + hre T n (s + 1) - 48) else some (s + 1, hre T n s - 48)) else none

theorem updm_self {M : MEM} {k : Nat} {i : Int} : updm M k i (M k i) = M := by
  funext k' j
  unfold updm
  split
  · rename_i e; rw [e.1, e.2]
  · rfl
theorem hre_lt {T : Int → Int} {n s : Int} (h : s < n) : hre T n s = T s := if_pos h
theorem hre_ge {T : Int → Int} {n s : Int} (h : ¬ s < n) : hre T n s = -1 := if_neg h
theorem hre_rg {M : MEM} (hR : RG M) {n s : Int} : rng (hre (M 16) n s) := by
  unfold hre
  split
  · exact hR _ _
  · decide
theorem hre_in {T : Int → Int} {n s : Int} (h : 0 ≤ hre T n s) : s < n := by
  refine Classical.byContradiction fun q => ?_
  rw [hre_ge q] at h
  exact absurd h (by decide)
/-- the text's numbers -/
def TX (M : MEM) : Prop := 0 ≤ M 30 18 ∧ M 30 18 ≤ M 30 17 ∧ M 30 17 ≤ 50
set_option maxRecDepth 100000 in
set_option maxHeartbeats 4000000 in
theorem c_here (κ : KP) {A : Nat → Nat} {M : MEM} (h : AH) (hA : MA A) (hR : RG M) (hT : TX M) : PM κ mX10_here 1 [.ref (A 30)] (mset A M h) (.int (J (hre (M 16) (M 30 17) (M 30 18)))) := by
  refine mm_of (L := [some _]) (by decide +kernel) rfl rfl (Nat.le_of_ble_eq_true rfl) rfl ?_
  obtain ⟨t0, t1, t2⟩ := hT
  refine r_al0 dX10_here_0 ?_
  refine m_get dX10_here_1 f_X10_181 hA rfl ?_
  refine r_al0 dX10_here_4 ?_
  refine m_get dX10_here_5 f_X10_178 hA rfl ?_
  refine r_icmp_ge (tgt := 23) dX10_here_8 (by decide) (by first | omega | exact hR _ _) (by first | omega | exact hR _ _) (fun c_8 => ?_) (fun c_8 => ?_)
  · refine r_iconst dX10_here_23 ?_
    refine r_iret dX10_here_24 (ty := .int) rfl rfl ?_
    first | (rw [hre_lt (by assumption)]; exact ⟨rfl, rfl⟩) | (rw [hre_ge (by omega)]; exact ⟨rfl, rfl⟩)
  · refine r_al0 dX10_here_11 ?_
    refine m_get dX10_here_12 f_X10_35 hA rfl ?_
    refine r_al0 dX10_here_15 ?_
    refine m_get dX10_here_16 f_X10_181 hA rfl ?_
    refine m_ald dX10_here_19 hA (by decide) rfl (by first | omega | (simp only [mlen]; omega)) (by first | omega | (simp only [mlen]; omega)) ?_
    refine r_goto (tgt := 24) dX10_here_20 (by decide) ?_
    refine r_iret dX10_here_24 (ty := .int) rfl rfl ?_
    first | (rw [hre_lt (by assumption)]; exact ⟨rfl, rfl⟩) | (rw [hre_ge (by omega)]; exact ⟨rfl, rfl⟩)
set_option maxRecDepth 100000 in
set_option maxHeartbeats 4000000 in
theorem c_skips (κ : KP) {A : Nat → Nat} {M : MEM} (hA : MA A) (hR : RG M) (hT : TX M) {c : Int} (rc : rng c) : RM κ mX10_skips 2 A [.ref (A 30), .int (J c)] M (fun r M' => (hre (M 16) (M 30 17) (M 30 18) = c ∧ r = 1 ∧ M' = updm M 30 18 (M 30 18 + 1)) ∨ (hre (M 16) (M 30 17) (M 30 18) ≠ c ∧ r = 0 ∧ M' = M)) := by
  intro h
  refine mm_of (L := [some _, some _, none]) (by decide +kernel) rfl rfl (Nat.le_of_ble_eq_true rfl) rfl ?_
  have hh := hre_rg hR (n := M 30 17) (s := M 30 18)
  refine r_al0 dX10_skips_0 ?_
  refine m_callP0 dX10_skips_1 v_X10_184 hA (c_here κ _ hA hR hT) (by decide) rfl ?_
  refine r_il1 dX10_skips_4 ?_
  refine r_icmp_ne (tgt := 12) dX10_skips_5 (by decide) (by first | omega | exact hR _ _) (by first | omega | exact hR _ _) (fun c_5 => ?_) (fun c_5 => ?_)
  · refine r_iconst dX10_skips_12 ?_
    refine r_is2 dX10_skips_13 rfl ?_
    refine r_al0 dX10_skips_14 ?_
    refine r_dup dX10_skips_15 rfl ?_
    refine m_get dX10_skips_16 f_X10_181 hA rfl ?_
    refine r_il2 dX10_skips_19 ?_
    refine r_if_eq (tgt := 27) dX10_skips_20 (by decide) (by first | omega | exact hR _ _) (fun c_20 => ?_) (fun c_20 => ?_)
    · refine r_iconst dX10_skips_27 ?_
      refine r_iadd dX10_skips_28 ?_
      refine m_put dX10_skips_29 f_X10_181 p_X10_181 (ff_14_18 _) hA mfp_18 rfl rfl ?_
      refine r_il2 dX10_skips_32 ?_
      refine r_iret dX10_skips_33 (ty := .boolean) rfl (by decide) ⟨_, _, rfl, rfl, ?_⟩
      first | exact Or.inl ⟨by assumption, rfl, rfl⟩ | exact Or.inr ⟨by assumption, rfl, by rw [show M 30 18 + 0 = M 30 18 by omega]; exact updm_self⟩
    · exact absurd c_20 (by decide)
  · refine r_iconst dX10_skips_8 ?_
    refine r_goto (tgt := 13) dX10_skips_9 (by decide) ?_
    refine r_is2 dX10_skips_13 rfl ?_
    refine r_al0 dX10_skips_14 ?_
    refine r_dup dX10_skips_15 rfl ?_
    refine m_get dX10_skips_16 f_X10_181 hA rfl ?_
    refine r_il2 dX10_skips_19 ?_
    refine r_if_eq (tgt := 27) dX10_skips_20 (by decide) (by first | omega | exact hR _ _) (fun c_20 => ?_) (fun c_20 => ?_)
    · exact absurd c_20 (by decide)
    · refine r_iconst dX10_skips_23 ?_
      refine r_goto (tgt := 28) dX10_skips_24 (by decide) ?_
      refine r_iadd dX10_skips_28 ?_
      refine m_put dX10_skips_29 f_X10_181 p_X10_181 (ff_14_18 _) hA mfp_18 rfl rfl ?_
      refine r_il2 dX10_skips_32 ?_
      refine r_iret dX10_skips_33 (ty := .boolean) rfl (by decide) ⟨_, _, rfl, rfl, ?_⟩
      first | exact Or.inl ⟨by assumption, rfl, rfl⟩ | exact Or.inr ⟨by assumption, rfl, by rw [show M 30 18 + 0 = M 30 18 by omega]; exact updm_self⟩
set_option maxRecDepth 100000 in
set_option maxHeartbeats 4000000 in
theorem l_isNew (κ : KP) {A : Nat → Nat} {M : MEM} (h : AH) (hA : MA A) (hR : RG M) {a c : Int} (rc : rng c) (a0 : 0 ≤ a) (a1 : a ≤ 300) (hm : M 21 (a + 5) ≤ 5) : ∀ (f : Nat) (k : Int), 5 - k < (f : Int) → (0 ≤ k) → (k ≤ 5) → (∀ j, 0 ≤ j → j < k → M 21 (a + 6 + j) ≠ c) → WW κ mX10_isNew 1 0 0 (fun w h' => w = some (.int (J (bI (tb (∀ k, 0 ≤ k → k < M 21 (a + 5) → M 21 (a + 6 + k) ≠ c))))) ∧ h' = mset A M h) NoX 2 [some (.ref (A 30)), some (.int (J a)), some (.int (J c)), some (.int (J k))] [] (mset A M h) := by
  intro f
  induction f with
  | zero =>
    intro k hf k0 k1 ha
    exact absurd hf (by omega)
  | succ f ih =>
    intro k hf k0 k1 ha
    refine r_il3 dX10_isNew_2 ?_
    refine r_al0 dX10_isNew_3 ?_
    refine m_get dX10_isNew_4 f_X10_42 hA rfl ?_
    refine r_il1 dX10_isNew_7 ?_
    refine r_iconst dX10_isNew_8 ?_
    refine r_iadd dX10_isNew_9 ?_
    refine m_ald dX10_isNew_10 hA (by decide) rfl (by first | omega | (simp only [mlen]; omega)) (by first | omega | (simp only [mlen]; omega)) ?_
    refine r_icmp_ge (tgt := 37) dX10_isNew_11 (by decide) (by first | omega | exact hR _ _) (by first | omega | exact hR _ _) (fun c_11 => ?_) (fun c_11 => ?_)
    · refine r_iconst dX10_isNew_37 ?_
      refine r_iret dX10_isNew_38 (ty := .boolean) rfl (by first | exact nar_B _ | decide) ?_
      first | exact ⟨rfl, rfl⟩ | exact ⟨ret_t (by first | exact (fun j j0 j1 => ha j j0 (by omega)) | exact (fun q => q k k0 (by omega) (by assumption))), rfl⟩ | exact ⟨ret_f (by first | exact (fun j j0 j1 => ha j j0 (by omega)) | exact (fun q => q k k0 (by omega) (by assumption))), rfl⟩
    · refine r_al0 dX10_isNew_14 ?_
      refine m_get dX10_isNew_15 f_X10_42 hA rfl ?_
      refine r_il1 dX10_isNew_18 ?_
      refine r_bipush dX10_isNew_19 (by decide) ?_
      refine r_iadd dX10_isNew_21 ?_
      refine r_il3 dX10_isNew_22 ?_
      refine r_iadd dX10_isNew_23 ?_
      refine m_ald dX10_isNew_24 hA (by decide) rfl (by first | omega | (simp only [mlen]; omega)) (by first | omega | (simp only [mlen]; omega)) ?_
      refine r_il2 dX10_isNew_25 ?_
      refine r_icmp_ne (tgt := 31) dX10_isNew_26 (by decide) (by first | omega | exact hR _ _) (by first | omega | exact hR _ _) (fun c_26 => ?_) (fun c_26 => ?_)
      · refine r_inc3 dX10_isNew_31 rfl ?_
        refine r_goto (tgt := 2) dX10_isNew_34 (by decide) ?_
        refine ih (k + 1) (by omega) (by omega) (by omega) (fun j j0 j1 => ?_)
        rcases (show j < k ∨ j = k by omega) with z | z
        · exact ha j j0 z
        · rw [z]; assumption
      · refine r_iconst dX10_isNew_29 ?_
        refine r_iret dX10_isNew_30 (ty := .boolean) rfl (by first | exact nar_B _ | decide) ?_
        first | exact ⟨rfl, rfl⟩ | exact ⟨ret_t (by first | exact (fun j j0 j1 => ha j j0 (by omega)) | exact (fun q => q k k0 (by omega) (by assumption))), rfl⟩ | exact ⟨ret_f (by first | exact (fun j j0 j1 => ha j j0 (by omega)) | exact (fun q => q k k0 (by omega) (by assumption))), rfl⟩
set_option maxRecDepth 100000 in
set_option maxHeartbeats 4000000 in
theorem c_isNew (κ : KP) {A : Nat → Nat} {M : MEM} (h : AH) (hA : MA A) (hR : RG M) {a c : Int} (rc : rng c) (a0 : 0 ≤ a) (a1 : a ≤ 300) (hm : M 21 (a + 5) ≤ 5) : PM κ mX10_isNew 1 [.ref (A 30), .int (J a), .int (J c)] (mset A M h) (.int (J (bI (tb (∀ k, 0 ≤ k → k < M 21 (a + 5) → M 21 (a + 6 + k) ≠ c))))) := by
  refine mm_of (L := [some _, some _, some _, none]) (by decide +kernel) rfl rfl (Nat.le_of_ble_eq_true rfl) rfl ?_
  refine r_iconst dX10_isNew_0 ?_
  refine r_is3 dX10_isNew_1 rfl ?_
  exact l_isNew κ h hA hR rc a0 a1 hm 6 0 (by omega) (by omega) (by omega) (fun j j0 j1 => by omega)
def PDg (M : MEM) (r : Int) (M' : MEM) : Prop := (pdig (M 16) (M 30 17) (M 30 18) = none ∧ r = 0 ∧ M' = M) ∨ ∃ s' z, pdig (M 16) (M 30 17) (M 30 18) = some (s', z) ∧ r = 1 ∧ RG M' ∧ SB [] [18, 19] M M' ∧ M' 30 18 = s' ∧ M' 30 19 = z ∧ M 30 18 < s' ∧ s' ≤ M 30 17 ∧ 0 ≤ z ∧ z ≤ 99
theorem updm_k16 {M : MEM} {i v : Int} : updm M 30 i v 16 = M 16 := updm_k (by decide)
set_option maxRecDepth 100000 in
set_option maxHeartbeats 4000000 in
theorem c_digits (κ : KP) {A : Nat → Nat} {M : MEM} (hA : MA A) (hR : RG M) (hT : TX M) : RM κ mX10_digits 2 A [.ref (A 30)] M (PDg M) := by
  intro h
  refine mm_of (L := [some _]) (by decide +kernel) rfl rfl (Nat.le_of_ble_eq_true rfl) rfl ?_
  have hh := hre_rg hR (n := M 30 17) (s := M 30 18)
  have hh2 := hre_rg hR (n := M 30 17) (s := M 30 18 + 1)
  obtain ⟨t0, t1, t2⟩ := hT
  have hT : TX M := ⟨t0, t1, t2⟩
  refine r_al0 dX10_digits_0 ?_
  refine m_callP0 dX10_digits_1 v_X10_184 hA (c_here κ _ hA hR hT) (by decide) rfl ?_
  refine r_bipush dX10_digits_4 (by decide) ?_
  refine r_bipush dX10_digits_6 (by decide) ?_
  refine r_callSP3 dX10_digits_8 s_X10_61 (c_in κ _ (hre_rg hR) (by decide) (by decide)) (by decide) rfl ?_
  refine r_ifT_ne (tgt := 16) dX10_digits_11 (by decide) (fun c_11 => ?_) (fun c_11 => ?_)
  · refine r_al0 dX10_digits_16 ?_
    refine r_al0 dX10_digits_17 ?_
    refine m_callP0 dX10_digits_18 v_X10_184 hA (c_here κ _ hA hR hT) (by decide) rfl ?_
    have hs1 := hre_in (T := M 16) (n := M 30 17) (s := M 30 18) (by unfold QIn at c_11; omega)
    have hz1 := c_11
    refine r_bipush dX10_digits_21 (by decide) ?_
    refine r_isub dX10_digits_23 ?_
    refine m_put dX10_digits_24 f_X10_187 p_X10_187 (ff_14_19 _) hA mfp_19 rfl rfl ?_
    refine r_al0 dX10_digits_27 ?_
    refine r_dup dX10_digits_28 rfl ?_
    refine m_get dX10_digits_29 f_X10_181 hA rfl ?_
    try simp only [updm_app, Int.reduceEq, Nat.reduceEqDiff, and_true, true_and, false_and, and_false, if_true, if_false, reduceIte, updm_k16]
    refine r_iconst dX10_digits_32 ?_
    refine r_iadd dX10_digits_33 ?_
    refine m_put dX10_digits_34 f_X10_181 p_X10_181 (ff_14_18 _) hA mfp_18 rfl rfl ?_
    refine r_al0 dX10_digits_37 ?_
    refine m_get dX10_digits_38 f_X10_187 hA rfl ?_
    try simp only [updm_app, Int.reduceEq, Nat.reduceEqDiff, and_true, true_and, false_and, and_false, if_true, if_false, reduceIte, updm_k16]
    refine r_if_le (tgt := 87) dX10_digits_41 (by decide) (by first | omega | exact hR _ _ | (unfold QIn at *; omega)) (fun c_41 => ?_) (fun c_41 => ?_)
    · refine r_iconst dX10_digits_87 ?_
      refine r_iret dX10_digits_88 (ty := .boolean) rfl (by decide) ⟨_, _, rfl, rfl, Or.inr ?_⟩
      unfold pdig
      rw [if_pos (tb_t.mpr hz1)]
      first
        | (rw [if_pos (tb_t.mpr ⟨by assumption, by assumption⟩)]
           have hs2 := hre_in (T := M 16) (n := M 30 17) (s := M 30 18 + 1) (by unfold QIn at *; omega)
           refine ⟨_, _, rfl, rfl, ?_, ?_, ?_, ?_, ?_, ?_, ?_, ?_⟩
           · exact RG.up (RG.up (RG.up (RG.up hR (by unfold QIn at *; omega)) (by omega)) (by unfold QIn at *; omega)) (by omega)
           · exact SB.upF (SB.upF (SB.upF (SB.upF SB.rf (by decide)) (by decide)) (by decide)) (by decide)
           · rw [updm_at]
           · rw [updm_ne (by decide), updm_at]
           · omega
           · omega
           · unfold QIn at *; omega
           · unfold QIn at *; omega)
        | (rw [if_neg (by rw [tb_f.mpr (fun z => by first | exact absurd z.1 (by omega) | exact absurd z.2 (by assumption))]; decide)]
           refine ⟨_, _, rfl, rfl, ?_, ?_, ?_, ?_, ?_, ?_, ?_, ?_⟩
           · exact RG.up (RG.up hR (by unfold QIn at *; omega)) (by omega)
           · exact SB.upF (SB.upF SB.rf (by decide)) (by decide)
           · rw [updm_at]
           · rw [updm_ne (by decide), updm_at]
           · omega
           · omega
           · unfold QIn at *; omega
           · unfold QIn at *; omega)
    · have hT2 : TX (updm (updm M 30 19 (hre (M 16) (M 30 17) (M 30 18) - 48)) 30 18 (M 30 18 + 1)) := by
        unfold TX
        simp only [updm_app, Int.reduceEq, Nat.reduceEqDiff, and_true, true_and, false_and, and_false, if_true, if_false, reduceIte]
        omega
      refine r_al0 dX10_digits_44 ?_
      refine m_callP0 dX10_digits_45 v_X10_184 hA (c_here κ _ hA (RG.up (RG.up hR (by unfold QIn at *; omega)) (by omega)) (M := updm (updm M 30 19 (hre (M 16) (M 30 17) (M 30 18) - 48)) 30 18 (M 30 18 + 1)) hT2) (by decide) rfl ?_
      try simp only [updm_app, Int.reduceEq, Nat.reduceEqDiff, and_true, true_and, false_and, and_false, if_true, if_false, reduceIte, updm_k16]
      refine r_bipush dX10_digits_48 (by decide) ?_
      refine r_bipush dX10_digits_50 (by decide) ?_
      refine r_callSP3 dX10_digits_52 s_X10_61 (c_in κ _ (hre_rg hR) (by decide) (by decide)) (by decide) rfl ?_
      refine r_ifT_eq (tgt := 87) dX10_digits_55 (by decide) (fun c_55 => ?_) (fun c_55 => ?_)
      · refine r_iconst dX10_digits_87 ?_
        refine r_iret dX10_digits_88 (ty := .boolean) rfl (by decide) ⟨_, _, rfl, rfl, Or.inr ?_⟩
        unfold pdig
        rw [if_pos (tb_t.mpr hz1)]
        first
          | (rw [if_pos (tb_t.mpr ⟨by assumption, by assumption⟩)]
             have hs2 := hre_in (T := M 16) (n := M 30 17) (s := M 30 18 + 1) (by unfold QIn at *; omega)
             refine ⟨_, _, rfl, rfl, ?_, ?_, ?_, ?_, ?_, ?_, ?_, ?_⟩
             · exact RG.up (RG.up (RG.up (RG.up hR (by unfold QIn at *; omega)) (by omega)) (by unfold QIn at *; omega)) (by omega)
             · exact SB.upF (SB.upF (SB.upF (SB.upF SB.rf (by decide)) (by decide)) (by decide)) (by decide)
             · rw [updm_at]
             · rw [updm_ne (by decide), updm_at]
             · omega
             · omega
             · unfold QIn at *; omega
             · unfold QIn at *; omega)
          | (rw [if_neg (by rw [tb_f.mpr (fun z => by first | exact absurd z.1 (by omega) | exact absurd z.2 (by assumption))]; decide)]
             refine ⟨_, _, rfl, rfl, ?_, ?_, ?_, ?_, ?_, ?_, ?_, ?_⟩
             · exact RG.up (RG.up hR (by unfold QIn at *; omega)) (by omega)
             · exact SB.upF (SB.upF SB.rf (by decide)) (by decide)
             · rw [updm_at]
             · rw [updm_ne (by decide), updm_at]
             · omega
             · omega
             · unfold QIn at *; omega
             · unfold QIn at *; omega)
      · refine r_al0 dX10_digits_58 ?_
        refine r_bipush dX10_digits_59 (by decide) ?_
        refine r_al0 dX10_digits_61 ?_
        refine m_get dX10_digits_62 f_X10_187 hA rfl ?_
        try simp only [updm_app, Int.reduceEq, Nat.reduceEqDiff, and_true, true_and, false_and, and_false, if_true, if_false, reduceIte, updm_k16]
        refine r_imul dX10_digits_65 ?_
        refine r_al0 dX10_digits_66 ?_
        refine m_callP0 dX10_digits_67 v_X10_184 hA (c_here κ _ hA (RG.up (RG.up hR (by unfold QIn at *; omega)) (by omega)) (M := updm (updm M 30 19 (hre (M 16) (M 30 17) (M 30 18) - 48)) 30 18 (M 30 18 + 1)) hT2) (by decide) rfl ?_
        try simp only [updm_app, Int.reduceEq, Nat.reduceEqDiff, and_true, true_and, false_and, and_false, if_true, if_false, reduceIte, updm_k16]
        refine r_iadd dX10_digits_70 ?_
        refine r_bipush dX10_digits_71 (by decide) ?_
        refine r_isub dX10_digits_73 ?_
        refine m_put dX10_digits_74 f_X10_187 p_X10_187 (ff_14_19 _) hA mfp_19 rfl rfl ?_
        refine r_al0 dX10_digits_77 ?_
        refine r_dup dX10_digits_78 rfl ?_
        refine m_get dX10_digits_79 f_X10_181 hA rfl ?_
        try simp only [updm_app, Int.reduceEq, Nat.reduceEqDiff, and_true, true_and, false_and, and_false, if_true, if_false, reduceIte, updm_k16]
        refine r_iconst dX10_digits_82 ?_
        refine r_iadd dX10_digits_83 ?_
        refine m_put dX10_digits_84 f_X10_181 p_X10_181 (ff_14_18 _) hA mfp_18 rfl rfl ?_
        refine r_iconst dX10_digits_87 ?_
        refine r_iret dX10_digits_88 (ty := .boolean) rfl (by decide) ⟨_, _, rfl, rfl, Or.inr ?_⟩
        unfold pdig
        rw [if_pos (tb_t.mpr hz1)]
        first
          | (rw [if_pos (tb_t.mpr ⟨by assumption, by assumption⟩)]
             have hs2 := hre_in (T := M 16) (n := M 30 17) (s := M 30 18 + 1) (by unfold QIn at *; omega)
             refine ⟨_, _, rfl, rfl, ?_, ?_, ?_, ?_, ?_, ?_, ?_, ?_⟩
             · exact RG.up (RG.up (RG.up (RG.up hR (by unfold QIn at *; omega)) (by omega)) (by unfold QIn at *; omega)) (by omega)
             · exact SB.upF (SB.upF (SB.upF (SB.upF SB.rf (by decide)) (by decide)) (by decide)) (by decide)
             · rw [updm_at]
             · rw [updm_ne (by decide), updm_at]
             · omega
             · omega
             · unfold QIn at *; omega
             · unfold QIn at *; omega)
          | (rw [if_neg (by rw [tb_f.mpr (fun z => by first | exact absurd z.1 (by omega) | exact absurd z.2 (by assumption))]; decide)]
             refine ⟨_, _, rfl, rfl, ?_, ?_, ?_, ?_, ?_, ?_, ?_, ?_⟩
             · exact RG.up (RG.up hR (by unfold QIn at *; omega)) (by omega)
             · exact SB.upF (SB.upF SB.rf (by decide)) (by decide)
             · rw [updm_at]
             · rw [updm_ne (by decide), updm_at]
             · omega
             · omega
             · unfold QIn at *; omega
             · unfold QIn at *; omega)
  · refine r_iconst dX10_digits_14 ?_
    refine r_iret dX10_digits_15 (ty := .boolean) rfl (by decide) ⟨_, _, rfl, rfl, Or.inl ⟨?_, rfl, rfl⟩⟩
    unfold pdig
    rw [if_neg (by rw [tb_f.mpr (by assumption)]; decide)]
