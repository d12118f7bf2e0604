/-! ===== a text is read ===== -/
def TRw (M : MEM) (l : List (Int → Int)) : Prop := ∀ (i : Nat) (b : Int → Int), l[i]? = some b → ∀ x, 0 ≤ x → x < 12 → M 21 (12 * (i : Int) + x) = b x
theorem TRw.snoc {M1 M2 : MEM} {l : List (Int → Int)} {row : Int → Int} (h : TRw M1 l) (h1 : ∀ j, j < 12 * (l.length : Int) → M2 21 j = M1 21 j) (h2 : ∀ x, 0 ≤ x → x < 12 → M2 21 (12 * (l.length : Int) + x) = row x) : TRw M2 (l ++ [row]) := by
  intro i b hi x x0 x1
  rcases Nat.lt_trichotomy i l.length with q | q | q
  · rw [List.getElem?_append_left q] at hi
    rw [h1 _ (by omega)]
    exact h i b hi x x0 x1
  · subst q
    have e : row = b := by simpa using hi
    rw [← e]
    exact h2 x x0 x1
  · have hl := (List.getElem?_eq_some_iff.mp hi).1
    rw [List.length_append, List.length_singleton] at hl
    omega
theorem pdig_gt {T : Int → Int} {n s s' z : Int} (h : pdig T n s = some (s', z)) : s < s' := by
  unfold pdig at h
  split at h
  · split at h
    · cases h; omega
    · cases h; omega
  · cases h
theorem popt_ge {T : Int → Int} {n c s d s' z : Int} (h : popt T n c s d = .inr (s', z)) : s ≤ s' := by
  by_cases e : hre T n s = c
  · cases hd : pdig T n (s + 1) with
    | none => rw [popt_e e hd] at h; cases h
    | some p =>
      obtain ⟨p1, p2⟩ := p
      rw [popt_y e hd] at h
      cases h
      have := pdig_gt hd
      omega
  · rw [popt_no e] at h
    cases h
    exact Int.le_refl _
theorem pleaf_ge {T : Int → Int} {n s m par o s3 : Int} {row : Int → Int} (h : pleaf T n s m par o = .inr (s3, row)) (m0 : 0 ≤ m) : s + 2 ≤ s3 := by
  by_cases e : m = 0
  · rw [pleaf_0 e] at h; cases h
  · cases hd : pdig T n (s + m) with
    | none => rw [pleaf_d e hd] at h; cases h
    | some p =>
      obtain ⟨s1, must⟩ := p
      cases h1 : popt T n 60 s1 60 with
      | inl e1 => rw [pleaf_1 e hd h1] at h; cases h
      | inr p2 =>
        obtain ⟨s2, term⟩ := p2
        cases h2 : popt T n 62 s2 10 with
        | inl e1 => rw [pleaf_2 e hd h1 h2] at h; cases h
        | inr p3 =>
          obtain ⟨s4, gr⟩ := p3
          rw [pleaf_3 e hd h1 h2] at h
          cases h
          have a1 := pdig_gt hd
          have a2 := popt_ge h1
          have a3 := popt_ge h2
          omega
def TI (M M1 : MEM) (st : List Int) (l : List (Int → Int)) : Prop := RG M1 ∧ TX M1 ∧ SB [21, 24] [18, 19, 22, 23] M M1 ∧ M1 30 22 = l.length ∧ M1 30 23 = st.length ∧ st.length ≤ 3 ∧ OpS (M1 24) st ∧ TRw M1 l ∧ 2 * (l.length : Int) ≤ M1 30 18
def PIs (M : MEM) (f : Nat) (s : Int) (st : List Int) (l : List (Int → Int)) (r : Int) (M' : MEM) : Prop := RG M' ∧ SB [21, 24] [18, 19, 22, 23] M M' ∧ ∃ R, PTop (M 16) (M 30 17) f s st l R ∧ ((∃ e, R = .inl e ∧ r = 0 ∧ M' 30 18 = e) ∨ ∃ l', R = .inr l' ∧ r = 1 ∧ M' 30 22 = l'.length ∧ l'.length ≤ 25 ∧ TRw M' l')
set_option maxRecDepth 100000 in
set_option maxHeartbeats 4000000 in
theorem l_isText (κ : KP) {A : Nat → Nat} {M : MEM} (h : AH) (hA : MA A) : ∀ (f : Nat) (M1 : MEM) (st : List Int) (l : List (Int → Int)), M 30 17 - M1 30 18 < f → TI M M1 st l → WW κ mX10_isText 4 0 0 (fun v h' => ∃ r M', v = some (.int (J r)) ∧ h' = mset A M' h ∧ PIs M f (M1 30 18) st l r M') NoX 15 [some (.ref (A 30))] [] (mset A M1 h)
  | 0, M1, st, l, hf, hI => by
    obtain ⟨hR, hT, hS, h22, h23, h3, hO, hW, h2⟩ := hI
    have e17 : M1 30 17 = M 30 17 := hS.2 17 (by decide)
    have := hT.2.1
    exact absurd hf (by omega)
  | f + 1, M1, st, l, hf, hI => by
    obtain ⟨hR, hT, hS, h22, h23, h3, hO, hW, h2⟩ := hI
    have e17 : M1 30 17 = M 30 17 := hS.2 17 (by decide)
    have e16 : M1 16 = M 16 := hS.1 16 (by decide) (by decide)
    have hT' := hT
    obtain ⟨t0, t1, t2⟩ := hT'
    have hh := hre_rg hR (n := M1 30 17) (s := M1 30 18)
    have hp := hO.par h23
    refine r_al0 dX10_isText_15 ?_
    refine m_callP0 dX10_isText_16 v_X10_184 hA (c_here κ _ hA hR hT) (by decide) rfl ?_
    refine r_bipush dX10_isText_19 (by decide) ?_
    refine r_icmp_ne (tgt := 33) dX10_isText_21 (by decide) hh (by decide) (fun c => ?_) (fun c => ?_)
    · refine r_al0 dX10_isText_33 ?_
      refine m_callR0 dX10_isText_34 v_X10_211 hA (c_leaf κ hA hR hT (by omega) (by omega) (by omega) (by omega)) (by decide) rfl (fun r2 M2 q => ?_)
      obtain ⟨m, hP, q⟩ := q
      rw [e16, e17] at hP q c
      rw [hp, h23] at q
      rcases q with ⟨e, q1, rfl, q3⟩ | ⟨s3, row, q1, rfl, q3⟩
      · refine r_if_ne (tgt := 42) dX10_isText_37 (by decide) (by decide) (fun z => absurd rfl z) (fun z => ?_)
        refine r_iconst dX10_isText_40 ?_
        exact r_iret dX10_isText_41 (ty := .boolean) rfl (by decide) ⟨_, _, rfl, rfl, q3.1, (hS.trans q3.2.1).mono (by decide) (by decide), _, Or.inr ⟨c, m, hP, Or.inl ⟨e, q1, rfl⟩⟩, Or.inl ⟨e, rfl, rfl, q3.2.2.1⟩⟩
      · obtain ⟨⟨a1, a2, a3, a4, a5⟩, b1, b2, b3⟩ := q3
        have hT2 : TX M2 := FLf.tx ⟨a1, a2, a3, a4, a5⟩ hT
        have f16 : M2 16 = M1 16 := a2.1 16 (by decide) (by decide)
        have f17 : M2 30 17 = M1 30 17 := a2.2 17 (by decide)
        have f23 : M2 30 23 = M1 30 23 := a2.2 23 (by decide)
        have f24 : M2 24 = M1 24 := a2.1 24 (by decide) (by decide)
        have hge := pleaf_ge q1 hP.1
        have hTR : TRw M2 (l ++ [row]) := hW.snoc (fun j hj => b3 j (by rw [h22]; exact hj)) (fun x x0 x1 => by rw [← h22]; exact b2 x x0 x1)
        have hS2 := (hS.trans a2).mono (ks2 := [21, 24]) (fs2 := [18, 19, 22, 23]) (by decide) (by decide)
        refine r_if_ne (tgt := 42) dX10_isText_37 (by decide) (by decide) (fun z => ?_) (fun z => absurd z (by decide))
        refine r_al0 dX10_isText_42 ?_
        refine m_callR0 dX10_isText_43 v_X10_214 hA (c_follows κ hA a1 hT2 (st := st) (by rw [f24]; exact hO) (by rw [f23]; exact h23) h3) (by decide) rfl (fun r3 M3 q => ?_)
        obtain ⟨c1, c2, c3, c4, q⟩ := q
        rw [f16, e16, f17, e17, a3] at q
        rw [f17] at c4
        rw [a3] at c3
        have g17 : M3 30 17 = M 30 17 := (c2.2 17 (by decide)).trans (f17.trans e17)
        have g21 : M3 21 = M2 21 := c2.1 21 (by decide) (by decide)
        have g22 : M3 30 22 = M2 30 22 := c2.2 22 (by decide)
        have g24 : M3 24 = M2 24 := c2.1 24 (by decide) (by decide)
        have hS3 := (hS2.trans c2).mono (ks2 := [21, 24]) (fs2 := [18, 19, 22, 23]) (by decide) (by decide)
        have hlen : ((l ++ [row]).length : Int) = l.length + 1 := by rw [List.length_append, List.length_singleton]; omega
        have hTR3 : TRw M3 (l ++ [row]) := by unfold TRw; rw [g21]; exact hTR
        have h323 := c1 30 23
        have h318 := c1 30 18
        rcases q with ⟨e, d1, rfl, d3, d4⟩ | ⟨s4, st4, d1, d2, d3, d4, d5, d6⟩
        · refine r_if_ne (tgt := 15) dX10_isText_46 (by decide) (by decide) (fun z => absurd rfl z) (fun z => ?_)
          refine r_al0 dX10_isText_49 ?_
          refine m_get dX10_isText_50 f_X10_193 hA rfl ?_
          refine r_if_ne (tgt := 71) dX10_isText_53 (by decide) h323 (fun z => ?_) (fun z => absurd z (by omega))
          refine r_iconst dX10_isText_71 ?_
          exact r_iret dX10_isText_72 (ty := .boolean) rfl (by decide) ⟨_, _, rfl, rfl, c1, hS3, _, Or.inr ⟨c, m, hP, Or.inr ⟨s3, row, q1, Or.inl ⟨e, d1, rfl⟩⟩⟩, Or.inl ⟨e, rfl, rfl, d3⟩⟩
        · rcases d6 with ⟨rfl, d6⟩ | ⟨rfl, d6, d7⟩
          · refine r_if_ne (tgt := 15) dX10_isText_46 (by decide) (by decide) (fun z => ?_) (fun z => absurd z (by decide))
            refine ww_postR (fun r M' q => ?_) (l_isText κ (M := M) h hA f M3 st4 (l ++ [row]) (by omega) ⟨c1, ⟨by omega, by omega, by rw [g17, ← e17]; exact t2⟩, hS3, by rw [g22, b1, h22, hlen], d3, by omega, by rw [g24]; exact d5, hTR3, by rw [hlen]; omega⟩)
            obtain ⟨x1, x2, R, x3, x4⟩ := q
            rw [d2] at x3
            exact ⟨x1, x2, R, Or.inr ⟨c, m, hP, Or.inr ⟨s3, row, q1, Or.inr ⟨s4, st4, d1, Or.inr ⟨d6, x3⟩⟩⟩⟩, x4⟩
          · refine r_if_ne (tgt := 15) dX10_isText_46 (by decide) (by decide) (fun z => absurd rfl z) (fun z => ?_)
            refine r_al0 dX10_isText_49 ?_
            refine m_get dX10_isText_50 f_X10_193 hA rfl ?_
            have hz : M3 30 23 = 0 := by rw [d3, d6]; rfl
            refine r_if_ne (tgt := 71) dX10_isText_53 (by decide) h323 (fun z => absurd hz z) (fun z => ?_)
            refine r_al0 dX10_isText_56 ?_
            refine m_get dX10_isText_57 f_X10_181 hA rfl ?_
            refine r_al0 dX10_isText_60 ?_
            refine m_get dX10_isText_61 f_X10_178 hA rfl ?_
            refine r_icmp_ne (tgt := 71) dX10_isText_64 (by decide) h318 (c1 30 17) (fun z => absurd z (by omega)) (fun z => ?_)
            refine r_iconst dX10_isText_67 ?_
            refine r_goto (tgt := 72) dX10_isText_68 (by decide) ?_
            exact r_iret dX10_isText_72 (ty := .boolean) rfl (by decide) ⟨_, _, rfl, rfl, c1, hS3, _, Or.inr ⟨c, m, hP, Or.inr ⟨s3, row, q1, Or.inr ⟨s4, st4, d1, Or.inl ⟨d6, d7, rfl⟩⟩⟩⟩, Or.inr ⟨l ++ [row], rfl, rfl, by rw [g22, b1, h22, hlen], by omega, hTR3⟩⟩
    · refine r_al0 dX10_isText_24 ?_
      refine m_callR0 dX10_isText_25 v_X10_208 hA (c_group κ hA hR hT (by omega) (by omega) (by omega) (by omega) (by omega)) (by decide) rfl (fun r2 M2 q => ?_)
      obtain ⟨c1, c2, q⟩ := q
      have hS3 := (hS.trans c2).mono (ks2 := [21, 24]) (fs2 := [18, 19, 22, 23]) (by decide) (by decide)
      have g17 : M2 30 17 = M 30 17 := (c2.2 17 (by decide)).trans e17
      rw [e16, e17] at c q
      rw [h23, hp, h22] at q
      rcases q with ⟨e, q1, rfl, q3, q4, q5⟩ | ⟨d, q1, rfl, q3, q4, q5, q6, q7, q8, q9, q10, q11, q12⟩
      · refine r_if_ne (tgt := 15) dX10_isText_28 (by decide) (by decide) (fun z => absurd rfl z) (fun z => ?_)
        refine r_iconst dX10_isText_31 ?_
        exact r_iret dX10_isText_32 (ty := .boolean) rfl (by decide) ⟨_, _, rfl, rfl, c1, hS3, _, Or.inl ⟨by omega, Or.inl ⟨e, q1, rfl⟩⟩, Or.inl ⟨e, rfl, rfl, q3⟩⟩
      · refine r_if_ne (tgt := 15) dX10_isText_28 (by decide) (by decide) (fun z => ?_) (fun z => absurd z (by decide))
        have hlen : ((l ++ [upz (bgn 1 (par st) st.length) 2 d]).length : Int) = l.length + 1 := by rw [List.length_append, List.length_singleton]; omega
        refine ww_postR (fun r M' q => ?_) (l_isText κ (M := M) h hA f M2 ((l.length : Int) :: st) (l ++ [upz (bgn 1 (par st) st.length) 2 d]) (by omega) ⟨c1, ⟨by omega, by omega, by rw [g17, ← e17]; exact t2⟩, hS3, by rw [q7, hlen], by rw [q8, List.length_cons]; omega, by rw [List.length_cons]; omega, hO.push q9 q10, hW.snoc q12 q11, by rw [hlen]; omega⟩)
        obtain ⟨x1, x2, R, x3, x4⟩ := q
        rw [q5] at x3
        exact ⟨x1, x2, R, Or.inl ⟨by omega, Or.inr ⟨d, q1, x3⟩⟩, x4⟩
set_option maxRecDepth 100000 in
set_option maxHeartbeats 4000000 in
theorem c_isText (κ : KP) {A : Nat → Nat} {M : MEM} (hA : MA A) (hR : RG M) (n0 : 0 ≤ M 30 17) (n1 : M 30 17 ≤ 50) : RM κ mX10_isText 4 A [.ref (A 30)] M (fun r M' => PIs M 51 0 [] [] r M') := by
  intro h
  refine mm_of (L := [some _]) (by decide +kernel) rfl rfl (Nat.le_of_ble_eq_true rfl) rfl ?_
  refine r_al0 dX10_isText_0 ?_
  refine r_iconst dX10_isText_1 ?_
  refine m_put dX10_isText_2 f_X10_181 p_X10_181 (ff_14_18 _) hA mfp_18 rfl rfl ?_
  refine r_al0 dX10_isText_5 ?_
  refine r_iconst dX10_isText_6 ?_
  refine m_put dX10_isText_7 f_X10_190 p_X10_190 (ff_14_22 _) hA mfp_22 rfl rfl ?_
  refine r_al0 dX10_isText_10 ?_
  refine r_iconst dX10_isText_11 ?_
  refine m_put dX10_isText_12 f_X10_193 p_X10_193 (ff_14_23 _) hA mfp_23 rfl rfl ?_
  have z18 : (updm (updm (updm M 30 18 0) 30 22 0) 30 23 0) 30 18 = 0 := by rw [updm_ne (by decide), updm_ne (by decide), updm_at]
  have z17 : (updm (updm (updm M 30 18 0) 30 22 0) 30 23 0) 30 17 = M 30 17 := by rw [updm_ne (by decide), updm_ne (by decide), updm_ne (by decide)]
  have z22 : (updm (updm (updm M 30 18 0) 30 22 0) 30 23 0) 30 22 = 0 := by rw [updm_ne (by decide), updm_at]
  have e := l_isText κ (M := M) h hA 51 (updm (updm (updm M 30 18 0) 30 22 0) 30 23 0) [] [] (by rw [z18]; omega) ⟨RG.up (RG.up (RG.up hR (by decide)) (by decide)) (by decide), ⟨by rw [z18]; exact Int.le_refl _, by rw [z18, z17]; exact n0, by rw [z17]; exact n1⟩, SB.upF (SB.upF (SB.upF SB.rf (by decide)) (by decide)) (by decide), by rw [z22]; rfl, by rw [updm_at]; rfl, by decide, OpS.nil, fun i b hi => by simp at hi, by rw [z18]; decide⟩
  rw [z18] at e
  exact e
