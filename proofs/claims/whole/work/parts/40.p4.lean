/-! ===== a leaf, on ===== -/
def rowm (T : Int → Int) (s m par o : Int) : Int → Int := fun w => if w = 5 then m else if 6 ≤ w ∧ w < 6 + m then T (s + (w - 6)) else bgn 0 par o w
theorem rowm_3 {T : Int → Int} {s m par o : Int} : rowm T s m par o 3 = 60 := by
  unfold rowm bgn
  rw [if_neg (by decide), if_neg (by omega), if_neg (by decide), if_neg (by decide), if_pos rfl, if_neg (by decide)]
theorem rowm_4 {T : Int → Int} {s m par o : Int} : rowm T s m par o 4 = 10 := by
  unfold rowm bgn
  rw [if_neg (by decide), if_neg (by omega), if_neg (by decide), if_neg (by decide), if_neg (by decide), if_pos rfl, if_neg (by decide)]
theorem rowm_fin {T : Int → Int} {s m par o must y z x : Int} (m0 : 0 ≤ m) (m1 : m ≤ 5) (x0 : 0 ≤ x) (x1 : x < 12) : upz (upz (upz (rowm T s m par o) 2 must) 3 y) 4 z x = mkL T s m par must y z o x := by
  simp only [upz_app]
  unfold rowm bgn mkL
  rcases (show x = 0 ∨ x = 1 ∨ x = 2 ∨ x = 3 ∨ x = 4 ∨ x = 5 ∨ (6 ≤ x ∧ x < 6 + m) ∨ (¬ (6 ≤ x ∧ x < 6 + m) ∧ 6 ≤ x) by omega) with e | e | e | e | e | e | e | e
  · subst e; simp
  · subst e; simp
  · subst e; simp
  · subst e; simp
  · subst e; simp
  · subst e; simp
  · rw [if_neg (by omega), if_neg (by omega), if_neg (by omega), if_neg (by omega), if_pos e, if_neg (by omega), if_neg (by omega), if_neg (by omega), if_neg (by omega), if_neg (by omega), if_neg (by omega), if_pos e]
  · have h0 : ¬ x = 0 := by omega
    have h1 : ¬ x = 1 := by omega
    have h2 : ¬ x = 2 := by omega
    have h3 : ¬ x = 3 := by omega
    have h4 : ¬ x = 4 := by omega
    have h5 : ¬ x = 5 := by omega
    simp only [if_neg h0, if_neg h1, if_neg h2, if_neg h3, if_neg h4, if_neg h5, if_neg e.1]
theorem rowm_nx {T : Int → Int} {s m par o x : Int} (m0 : 0 ≤ m) (x0 : 0 ≤ x) (x1 : x < 12) : upz (upz (rowm T s m par o) (6 + m) (T (s + m))) 5 (m + 1) x = rowm T s (m + 1) par o x := by
  simp only [upz_app]
  unfold rowm
  rcases (show x = 5 ∨ x = 6 + m ∨ (6 ≤ x ∧ x < 6 + m) ∨ (x ≠ 5 ∧ x ≠ 6 + m ∧ ¬ (6 ≤ x ∧ x < 6 + m)) by omega) with e | e | e | e
  · rw [if_pos e, if_pos e]
  · rw [if_neg (by omega), if_pos e, if_neg (by omega), if_pos (by omega)]
    congr 1
    omega
  · rw [if_neg (by omega), if_neg (by omega), if_neg (by omega), if_pos e, if_neg (by omega), if_pos (by omega)]
  · rw [if_neg e.1, if_neg e.2.1, if_neg e.1, if_neg e.2.2, if_neg e.1, if_neg (by omega)]
theorem rowm_0 {T : Int → Int} {s par o x : Int} : rowm T s 0 par o x = bgn 0 par o x := by
  unfold rowm
  by_cases e : x = 5
  · rw [if_pos e, e]
    unfold bgn
    rw [if_neg (by decide), if_neg (by decide), if_neg (by decide), if_neg (by decide), if_neg (by decide)]
  · rw [if_neg e, if_neg (by omega)]
theorem pdig_low {T : Int → Int} {n s : Int} (h : QLow (hre T n s)) : pdig T n s = none := by
  unfold pdig
  rw [if_neg (by rw [tb_f.mpr (by unfold QLow at h; unfold QIn; omega)]; decide)]
/-- a leaf is read, or not -/
def QLeaf (M : MEM) (r : Int) (M' : MEM) : Prop := ∃ m, PLt (M 16) (M 30 17) (M 30 18) m ∧ ((∃ e, pleaf (M 16) (M 30 17) (M 30 18) m (ppar M) (M 30 23) = .inl e ∧ r = 0 ∧ FLf M M' e) ∨ ∃ s3 row, pleaf (M 16) (M 30 17) (M 30 18) m (ppar M) (M 30 23) = .inr (s3, row) ∧ r = 1 ∧ LIr M M' s3 row)
set_option maxRecDepth 100000 in
set_option maxHeartbeats 4000000 in
theorem l_lf108 (κ : KP) {A : Nat → Nat} {M : MEM} (h : AH) (hA : MA A) (hR : RG M) (hT : TX M) (k0 : 0 ≤ M 30 22) (k1 : M 30 22 ≤ 25) {M2 : MEM} {m : Int} (hm : m ≠ 0) (hP : PLt (M 16) (M 30 17) (M 30 18) m) (hL : LIr M M2 (M 30 18 + m) (rowm (M 16) (M 30 18) m (ppar M) (M 30 23))) : WW κ mX10_leaf 3 0 0 (fun v h' => ∃ r M', v = some (.int (J r)) ∧ h' = mset A M' h ∧ QLeaf M r M') NoX 108 [some (.ref (A 30)), some (.int (J (12 * M 30 22)))] [] (mset A M2 h) := by
  refine r_al0 dX10_leaf_108 ?_
  refine m_callR0 dX10_leaf_109 v_X10_202 hA (c_digits κ hA hL.1.1 (hL.1.tx hT)) (by decide) rfl (fun r2 M4 h4' => ?_)
  unfold PDg at h4'
  rw [hL.1.e16, hL.1.e17, hL.1.2.2.1] at h4'
  rcases h4' with ⟨b1, rfl, rfl⟩ | ⟨s', z, b1, rfl, b2, b3, b4, b5, b6, b7, b8, b9⟩
  · refine r_if_ne (tgt := 117) dX10_leaf_112 (by decide) (by decide) (fun c => absurd rfl c) (fun c => ?_)
    refine r_iconst dX10_leaf_115 ?_
    exact r_iret dX10_leaf_116 (ty := .boolean) rfl (by decide) ⟨_, _, rfl, rfl, m, hP, Or.inl ⟨_, pleaf_d hm b1, rfl, hL.1⟩⟩
  · have hL3 := (hL.dig b2 b3 b4 b6 b7).put (x := 2) (v := z) (by omega) (by decide)
    refine r_if_ne (tgt := 117) dX10_leaf_112 (by decide) (by decide) (fun c => ?_) (fun c => absurd c (by decide))
    refine r_al0 dX10_leaf_117 ?_
    refine m_get dX10_leaf_118 f_X10_42 hA rfl ?_
    refine r_il1 dX10_leaf_121 ?_
    refine r_iconst dX10_leaf_122 ?_
    refine r_iadd dX10_leaf_123 ?_
    refine r_al0 dX10_leaf_124 ?_
    refine m_get dX10_leaf_125 f_X10_187 hA rfl ?_
    refine m_ast dX10_leaf_128 hA (by decide) rfl (by omega) (by simp only [mlen]; omega) ?_
    rw [b5]
    refine ww_postR (fun r M' q => ⟨m, hP, ?_⟩) (l_lf129 κ h hA hR hT k0 k1 hL3 (by rw [upz_app, if_neg (by decide)]; exact rowm_3) (by rw [upz_app, if_neg (by decide)]; exact rowm_4))
    rcases q with ⟨e, q1, q2, q3⟩ | ⟨s2, y, q1, ⟨e, q2, q3, q4⟩ | ⟨s3, z2, q2, q3, q4⟩⟩
    · exact Or.inl ⟨e, pleaf_1 hm b1 q1, q2, q3⟩
    · exact Or.inl ⟨e, pleaf_2 hm b1 q1 q2, q3, q4⟩
    · exact Or.inr ⟨s3, _, pleaf_3 hm b1 q1 q2, q3, q4.eqr (fun x x0 x1 => rowm_fin hP.1 hP.2.1 x0 x1)⟩
set_option maxRecDepth 100000 in
set_option maxHeartbeats 4000000 in
theorem l_lf25 (κ : KP) {A : Nat → Nat} {M : MEM} (h : AH) (hA : MA A) (hR : RG M) (hT : TX M) (k0 : 0 ≤ M 30 22) (k1 : M 30 22 ≤ 25) (hlow : QLow (hre (M 16) (M 30 17) (M 30 18))) : ∀ (f : Nat) (M2 : MEM) (m : Int), 6 - m < (f : Int) → (0 ≤ m) → (m ≤ 5) → (LIr M M2 (M 30 18 + m) (rowm (M 16) (M 30 18) m (ppar M) (M 30 23))) → (∀ i, 0 ≤ i → i < m → QLow (hre (M 16) (M 30 17) (M 30 18 + i)) ∧ ∀ j, 0 ≤ j → j < i → hre (M 16) (M 30 17) (M 30 18 + j) ≠ hre (M 16) (M 30 17) (M 30 18 + i)) → WW κ mX10_leaf 3 0 0 (fun v h' => ∃ r M', v = some (.int (J r)) ∧ h' = mset A M' h ∧ QLeaf M r M') NoX 25 [some (.ref (A 30)), some (.int (J (12 * M 30 22)))] [] (mset A M2 h) := by
  intro f
  induction f with
  | zero =>
    intro M2 m hf m0 m1 hL hlet
    exact absurd hf (by omega)
  | succ f ih =>
    intro M2 m hf m0 m1 hL hlet
    have hR2 := hL.1.1
    have hT2 := hL.1.tx hT
    have e16 := hL.1.e16
    have e17 := hL.1.e17
    have e18 := hL.1.2.2.1
    have e5 : M2 21 (12 * M 30 22 + 5) = m := by
      rw [hL.2.2.1 5 (by decide) (by decide)]
      unfold rowm
      rw [if_pos rfl]
    have hlr : ∀ k, 0 ≤ k → k < m → M2 21 (12 * M 30 22 + 6 + k) = hre (M 16) (M 30 17) (M 30 18 + k) := by
      intro k k0 k1
      have hk := (hlet k k0 k1).1
      have hkn : M 30 18 + k < M 30 17 := hre_in (T := M 16) (by unfold QLow at hk; omega)
      rw [show 12 * M 30 22 + 6 + k = 12 * M 30 22 + (6 + k) by omega, hL.2.2.1 (6 + k) (by omega) (by omega), hre_lt hkn]
      unfold rowm
      rw [if_neg (by omega), if_pos (by omega)]
      congr 1
      omega
    obtain ⟨t0, t1, t2⟩ := hT
    have hT : TX M := ⟨t0, t1, t2⟩
    refine r_al0 dX10_leaf_25 ?_
    refine m_callP0 dX10_leaf_26 v_X10_184 hA (c_here κ _ hA hR2 hT2) (by decide) rfl ?_
    rw [e16, e17, e18]
    refine r_callSP1 dX10_leaf_29 s_X10_123 (c_isLow κ _ (hre_rg hR)) (by decide) rfl ?_
    refine r_ifT_eq (tgt := 108) dX10_leaf_32 (by decide) (fun c_32 => ?_) (fun c_32 => ?_)
    · exact l_lf108 κ h hA hR hT k0 k1 (m := m) (fun z => by subst z; rw [Int.add_zero] at c_32; exact c_32 hlow) ⟨m0, m1, hlet, fun z => c_32 z.2.1⟩ hL
    · refine r_al0 dX10_leaf_35 ?_
      refine m_get dX10_leaf_36 f_X10_42 hA rfl ?_
      refine r_il1 dX10_leaf_39 ?_
      refine r_iconst dX10_leaf_40 ?_
      refine r_iadd dX10_leaf_41 ?_
      refine m_ald dX10_leaf_42 hA (by decide) rfl (by first | omega | (simp only [mlen]; omega)) (by first | omega | (simp only [mlen]; omega)) ?_
      rw [e5]
      refine r_iconst dX10_leaf_43 ?_
      refine r_icmp_eq (tgt := 59) dX10_leaf_44 (by decide) (by first | omega | exact hR _ _ | exact hR2 _ _) (by first | omega | exact hR _ _ | exact hR2 _ _) (fun c_44 => ?_) (fun c_44 => ?_)
      · refine r_iconst dX10_leaf_59 ?_
        have hnn : ¬ (m < 5 ∧ QLow (hre (M 16) (M 30 17) (M 30 18 + m)) ∧ ∀ j, 0 ≤ j → j < m → hre (M 16) (M 30 17) (M 30 18 + j) ≠ hre (M 16) (M 30 17) (M 30 18 + m)) := by
          first
            | exact (fun z => by omega)
            | (refine fun z => c_56 (fun k k0 k1 => ?_)
               rw [e5] at k1
               rw [hlr k k0 k1]
               exact z.2.2 k k0 k1)
        have hmm : m ≠ 0 := by
          first
            | omega
            | (intro z; refine c_56 (fun k k0 k1 => ?_); rw [e5] at k1; omega)
        exact r_iret dX10_leaf_60 (ty := .boolean) rfl (by decide) ⟨_, _, rfl, rfl, m, ⟨m0, m1, hlet, hnn⟩, Or.inl ⟨_, pleaf_d hmm (pdig_low c_32), rfl, hL.1⟩⟩
      · refine r_al0 dX10_leaf_47 ?_
        refine r_il1 dX10_leaf_48 ?_
        refine r_al0 dX10_leaf_49 ?_
        refine m_callP0 dX10_leaf_50 v_X10_184 hA (c_here κ _ hA hR2 hT2) (by decide) rfl ?_
        rw [e16, e17, e18]
        refine m_callP2 dX10_leaf_53 v_X10_199 hA (c_isNew κ _ hA hR2 (hre_rg hR) (by omega) (by omega) (by rw [e5]; omega)) (by decide) rfl ?_
        refine r_ifT_ne (tgt := 61) dX10_leaf_56 (by decide) (fun c_56 => ?_) (fun c_56 => ?_)
        · refine r_al0 dX10_leaf_61 ?_
          refine m_get dX10_leaf_62 f_X10_42 hA rfl ?_
          refine r_il1 dX10_leaf_65 ?_
          refine r_bipush dX10_leaf_66 (by decide) ?_
          refine r_iadd dX10_leaf_68 ?_
          refine r_al0 dX10_leaf_69 ?_
          refine m_get dX10_leaf_70 f_X10_42 hA rfl ?_
          refine r_il1 dX10_leaf_73 ?_
          refine r_iconst dX10_leaf_74 ?_
          refine r_iadd dX10_leaf_75 ?_
          refine m_ald dX10_leaf_76 hA (by decide) rfl (by first | omega | (simp only [mlen]; omega)) (by first | omega | (simp only [mlen]; omega)) ?_
          rw [e5]
          have hsn : M 30 18 + m < M 30 17 := hre_in (T := M 16) (by have := c_32; unfold QLow at this; omega)
          refine r_iadd dX10_leaf_77 ?_
          refine r_al0 dX10_leaf_78 ?_
          refine m_callP0 dX10_leaf_79 v_X10_184 hA (c_here κ _ hA hR2 hT2) (by decide) rfl ?_
          rw [e16, e17, e18]
          refine m_ast dX10_leaf_82 hA (by decide) rfl (by first | omega | (simp only [mlen]; omega)) (by first | omega | (simp only [mlen]; omega)) ?_
          refine r_al0 dX10_leaf_83 ?_
          refine m_get dX10_leaf_84 f_X10_42 hA rfl ?_
          refine r_il1 dX10_leaf_87 ?_
          refine r_iconst dX10_leaf_88 ?_
          refine r_iadd dX10_leaf_89 ?_
          refine r_dup2 dX10_leaf_90 rfl rfl ?_
          refine m_ald dX10_leaf_91 hA (by decide) rfl (by first | omega | (simp only [mlen]; omega)) (by first | omega | (simp only [mlen]; omega)) ?_
          skip
          rw [updm_ne (by omega), e5]
          refine r_iconst dX10_leaf_92 ?_
          refine r_iadd dX10_leaf_93 ?_
          refine m_ast dX10_leaf_94 hA (by decide) rfl (by first | omega | (simp only [mlen]; omega)) (by first | omega | (simp only [mlen]; omega)) ?_
          refine r_al0 dX10_leaf_95 ?_
          refine r_dup dX10_leaf_96 rfl ?_
          refine m_get dX10_leaf_97 f_X10_181 hA rfl ?_
          skip
          rw [show (updm (updm M2 21 (12 * M 30 22 + 6 + m) (hre (M 16) (M 30 17) (M 30 18 + m))) 21 (12 * M 30 22 + 5) (m + 1)) 30 18 = M 30 18 + m from by rw [updm_k (by decide), updm_k (by decide)]; exact e18]
          refine r_iconst dX10_leaf_100 ?_
          refine r_iadd dX10_leaf_101 ?_
          refine m_put dX10_leaf_102 f_X10_181 p_X10_181 (ff_14_18 _) hA mfp_18 rfl rfl ?_
          refine r_goto (tgt := 25) dX10_leaf_105 (by decide) ?_
          have hTm : hre (M 16) (M 30 17) (M 30 18 + m) = M 16 (M 30 18 + m) := hre_lt hsn
          have hL4 := (((hL.put (x := 6 + m) (v := hre (M 16) (M 30 17) (M 30 18 + m)) (hre_rg hR) (by omega)).put (x := 5) (v := m + 1) (by omega) (by decide)).skip hT hsn)
          rw [hTm] at hL4
          have hL5 := hL4.eqr (row' := rowm (M 16) (M 30 18) (m + 1) (ppar M) (M 30 23)) (fun x x0 x1 => rowm_nx m0 x0 x1)
          rw [show M 30 18 + m + 1 = M 30 18 + (m + 1) by omega, show 12 * M 30 22 + (6 + m) = 12 * M 30 22 + 6 + m by omega] at hL5
          rw [hTm, show M 30 18 + m + 1 = M 30 18 + (m + 1) by omega]
          refine ih _ (m + 1) (by omega) (by omega) (by omega) hL5 (fun i i0 i1 => ?_)
          rcases (show i < m ∨ i = m by omega) with z | z
          · exact hlet i i0 z
          · subst z
            refine ⟨c_32, fun j j0 j1 => ?_⟩
            have := c_56 j j0 (by rw [e5]; exact j1)
            rw [hlr j j0 j1] at this
            exact this
        · refine r_iconst dX10_leaf_59 ?_
          have hnn : ¬ (m < 5 ∧ QLow (hre (M 16) (M 30 17) (M 30 18 + m)) ∧ ∀ j, 0 ≤ j → j < m → hre (M 16) (M 30 17) (M 30 18 + j) ≠ hre (M 16) (M 30 17) (M 30 18 + m)) := by
            first
              | exact (fun z => by omega)
              | (refine fun z => c_56 (fun k k0 k1 => ?_)
                 rw [e5] at k1
                 rw [hlr k k0 k1]
                 exact z.2.2 k k0 k1)
          have hmm : m ≠ 0 := by
            first
              | omega
              | (intro z; refine c_56 (fun k k0 k1 => ?_); rw [e5] at k1; omega)
          exact r_iret dX10_leaf_60 (ty := .boolean) rfl (by decide) ⟨_, _, rfl, rfl, m, ⟨m0, m1, hlet, hnn⟩, Or.inl ⟨_, pleaf_d hmm (pdig_low c_32), rfl, hL.1⟩⟩
set_option maxRecDepth 100000 in
set_option maxHeartbeats 4000000 in
theorem c_leaf (κ : KP) {A : Nat → Nat} {M : MEM} (hA : MA A) (hR : RG M) (hT : TX M) (k0 : 0 ≤ M 30 22) (k1 : M 30 22 ≤ 25) (o0 : 0 ≤ M 30 23) (o1 : M 30 23 ≤ 3) : RM κ mX10_leaf 3 A [.ref (A 30)] M (QLeaf M) := by
  intro h
  refine mm_of (L := [some _, none]) (by decide +kernel) rfl rfl (Nat.le_of_ble_eq_true rfl) rfl ?_
  refine r_bipush dX10_leaf_0 (by decide) ?_
  refine r_al0 dX10_leaf_2 ?_
  refine m_get dX10_leaf_3 f_X10_190 hA rfl ?_
  refine r_imul dX10_leaf_6 ?_
  refine r_is1 dX10_leaf_7 rfl ?_
  refine r_al0 dX10_leaf_8 ?_
  refine m_callP0 dX10_leaf_9 v_X10_184 hA (c_here κ _ hA hR hT) (by decide) rfl ?_
  refine r_callSP1 dX10_leaf_12 s_X10_123 (c_isLow κ _ (hre_rg hR)) (by decide) rfl ?_
  refine r_ifT_ne (tgt := 20) dX10_leaf_15 (by decide) (fun c_15 => ?_) (fun c_15 => ?_)
  · refine r_al0 dX10_leaf_20 ?_
    refine r_iconst dX10_leaf_21 ?_
    refine m_callU1 dX10_leaf_22 v_X10_196 hA (c_begins κ hA hR (gr := 0) (by decide) k0 k1 o0 o1) (by decide) rfl (fun M_22 h_22 => ?_)
    obtain ⟨b1, b2, b3, b4, b5⟩ := h_22
    refine l_lf25 κ h hA hR hT k0 k1 c_15 7 M_22 0 (by omega) (by omega) (by omega) ⟨⟨b1, b2.mono (by decide) (by decide), ?_, by omega, by rw [Int.add_zero]; exact hT.2.1⟩, b3, fun x x0 x1 => ?_, b5⟩ (fun i i0 i1 => by omega)
    · rw [b2.2 18 (by decide)]; omega
    · rw [b4 x x0 x1, rowm_0]
  · refine r_iconst dX10_leaf_18 ?_
    exact r_iret dX10_leaf_19 (ty := .boolean) rfl (by decide) ⟨_, _, rfl, rfl, 0, ⟨by decide, by decide, fun i i0 i1 => by omega, fun z => c_15 (by have := z.2.1; rw [Int.add_zero] at this; exact this)⟩, Or.inl ⟨_, pleaf_0 rfl, rfl, hR, SB.rf, rfl, Int.le_refl _, hT.2.1⟩⟩
