/-! ===== a leaf is read ===== -/
def FLf (M : MEM) (M' : MEM) (e : Int) : Prop := RG M' ∧ SB [21] [18, 19, 22] M M' ∧ M' 30 18 = e ∧ M 30 18 ≤ e ∧ e ≤ M 30 17
/-- being read: at s, with this row -/
def LIr (M : MEM) (M2 : MEM) (s : Int) (row : Int → Int) : Prop := FLf M M2 s ∧ M2 30 22 = M 30 22 + 1 ∧ (∀ x, 0 ≤ x → x < 12 → M2 21 (12 * M 30 22 + x) = row x) ∧ ∀ j, j < 12 * M 30 22 → M2 21 j = M 21 j
theorem FLf.e16 {M M' : MEM} {e : Int} (h : FLf M M' e) : M' 16 = M 16 := h.2.1.1 16 (by decide) (by decide)
theorem FLf.e17 {M M' : MEM} {e : Int} (h : FLf M M' e) : M' 30 17 = M 30 17 := h.2.1.2 17 (by decide)
theorem FLf.tx {M M' : MEM} {e : Int} (h : FLf M M' e) (hT : TX M) : TX M' := ⟨by rw [h.2.2.1]; exact Int.le_trans hT.1 h.2.2.2.1, by rw [h.2.2.1, h.e17]; exact h.2.2.2.2, by rw [h.e17]; exact hT.2.2⟩
theorem LIr.put {M M2 : MEM} {s : Int} {row : Int → Int} {x v : Int} (h : LIr M M2 s row) (hv : rng v) (x0 : 0 ≤ x) : LIr M (updm M2 21 (12 * M 30 22 + x) v) s (upz row x v) := by
  obtain ⟨⟨a1, a2, a3, a4, a5⟩, b, c, d⟩ := h
  refine ⟨⟨RG.up a1 hv, SB.upA a2 (by decide) (by decide), by rw [updm_k (by decide)]; exact a3, a4, a5⟩, by rw [updm_k (by decide)]; exact b, fun y y0 y1 => ?_, fun j hj => ?_⟩
  · rw [upz_app]
    by_cases e : y = x
    · rw [if_pos e, e, updm_at]
    · rw [if_neg e, updm_ne (by omega)]
      exact c y y0 y1
  · rw [updm_ne (by omega)]
    exact d j hj
theorem LIr.skip {M M2 : MEM} {s : Int} {row : Int → Int} (h : LIr M M2 s row) (hT : TX M) (hs : s < M 30 17) : LIr M (updm M2 30 18 (s + 1)) (s + 1) row := by
  obtain ⟨⟨a1, a2, a3, a4, a5⟩, b, c, d⟩ := h
  obtain ⟨t0, t1, t2⟩ := hT
  refine ⟨⟨RG.up a1 (by omega), SB.upF a2 (by decide), updm_at, by omega, by omega⟩, by rw [updm_ne (by decide)]; exact b, fun y y0 y1 => ?_, fun j hj => ?_⟩
  · rw [updm_k (by decide)]
    exact c y y0 y1
  · rw [updm_k (by decide)]
    exact d j hj
theorem LIr.dig {M M2 M3 : MEM} {s s' : Int} {row : Int → Int} (h : LIr M M2 s row) (h1 : RG M3) (h2 : SB [] [18, 19] M2 M3) (h3 : M3 30 18 = s') (h4 : s < s') (h5 : s' ≤ M 30 17) : LIr M M3 s' row := by
  obtain ⟨⟨a1, a2, a3, a4, a5⟩, b, c, d⟩ := h
  have e21 : M3 21 = M2 21 := h2.1 21 (by decide) (by decide)
  exact ⟨⟨h1, (a2.trans h2).mono (by decide) (by decide), h3, by omega, h5⟩, by rw [h2.2 22 (by decide)]; exact b, by rw [e21]; exact c, by rw [e21]; exact d⟩
theorem upz_id {row : Int → Int} {x v : Int} (h : row x = v) : upz row x v = row := by
  funext y
  rw [upz_app]
  split
  · rename_i e; rw [e, h]
  · rfl
theorem LIr.eqr {M M2 : MEM} {s : Int} {row row' : Int → Int} (h : LIr M M2 s row) (e : ∀ x, 0 ≤ x → x < 12 → row x = row' x) : LIr M M2 s row' := ⟨h.1, h.2.1, fun x a b => (h.2.2.1 x a b).trans (e x a b), h.2.2.2⟩
set_option maxRecDepth 100000 in
set_option maxHeartbeats 4000000 in
theorem l_lf159 (κ : KP) {A : Nat → Nat} {M : MEM} (h : AH) (hA : MA A) (hR : RG M) (hT : TX M) (k0 : 0 ≤ M 30 22) (k1 : M 30 22 ≤ 25) {M2 : MEM} {s : Int} {row : Int → Int} (hL : LIr M M2 s row) (h4 : row 4 = 10) : WW κ mX10_leaf 3 0 0 (fun v h' => ∃ r M', v = some (.int (J r)) ∧ h' = mset A M' h ∧ (fun r M' => (∃ e, popt (M 16) (M 30 17) 62 s 10 = .inl e ∧ r = 0 ∧ FLf M M' e) ∨ ∃ s3 z, popt (M 16) (M 30 17) 62 s 10 = .inr (s3, z) ∧ r = 1 ∧ LIr M M' s3 (upz row 4 z)) r M') NoX 159 [some (.ref (A 30)), some (.int (J (12 * M 30 22)))] [] (mset A M2 h) := by
  refine r_al0 dX10_leaf_159 ?_
  refine r_bipush dX10_leaf_160 (by decide) ?_
  refine m_callR1 dX10_leaf_162 v_X10_205 hA (c_skips κ hA hL.1.1 (hL.1.tx hT) (c := 62) (by decide)) (by decide) rfl (fun r1 M3 h3 => ?_)
  rw [hL.1.e16, hL.1.e17, hL.1.2.2.1] at h3
  rcases h3 with ⟨a1, rfl, rfl⟩ | ⟨a1, rfl, rfl⟩
  · have hs : s < M 30 17 := hre_in (T := M 16) (by rw [a1]; decide)
    have hL2 := hL.skip hT hs
    refine r_if_eq (tgt := 189) dX10_leaf_165 (by decide) (by decide) (fun c => absurd c (by decide)) (fun c => ?_)
    refine r_al0 dX10_leaf_168 ?_
    refine m_callR0 dX10_leaf_169 v_X10_202 hA (c_digits κ hA hL2.1.1 (hL2.1.tx hT)) (by decide) rfl (fun r2 M4 h4' => ?_)
    unfold PDg at h4'
    rw [hL2.1.e16, hL2.1.e17, hL2.1.2.2.1] at h4'
    rcases h4' with ⟨b1, rfl, rfl⟩ | ⟨s', z, b1, rfl, b2, b3, b4, b5, b6, b7, b8, b9⟩
    · refine r_if_ne (tgt := 177) dX10_leaf_172 (by decide) (by decide) (fun c => absurd rfl c) (fun c => ?_)
      refine r_iconst dX10_leaf_175 ?_
      exact r_iret dX10_leaf_176 (ty := .boolean) rfl (by decide) ⟨_, _, rfl, rfl, Or.inl ⟨_, popt_e a1 b1, rfl, hL2.1⟩⟩
    · have hL3 := (hL2.dig b2 b3 b4 b6 b7).put (x := 4) (v := z) (by omega) (by decide)
      refine r_if_ne (tgt := 177) dX10_leaf_172 (by decide) (by decide) (fun c => ?_) (fun c => absurd c (by decide))
      refine r_al0 dX10_leaf_177 ?_
      refine m_get dX10_leaf_178 f_X10_42 hA rfl ?_
      refine r_il1 dX10_leaf_181 ?_
      refine r_iconst dX10_leaf_182 ?_
      refine r_iadd dX10_leaf_183 ?_
      refine r_al0 dX10_leaf_184 ?_
      refine m_get dX10_leaf_185 f_X10_187 hA rfl ?_
      refine m_ast dX10_leaf_188 hA (by decide) rfl (by omega) (by simp only [mlen]; omega) ?_
      refine r_iconst dX10_leaf_189 ?_
      rw [b5]
      exact r_iret dX10_leaf_190 (ty := .boolean) rfl (by decide) ⟨_, _, rfl, rfl, Or.inr ⟨s', z, popt_y a1 b1, rfl, hL3⟩⟩
  · refine r_if_eq (tgt := 189) dX10_leaf_165 (by decide) (by decide) (fun c => ?_) (fun c => absurd rfl c)
    refine r_iconst dX10_leaf_189 ?_
    exact r_iret dX10_leaf_190 (ty := .boolean) rfl (by decide) ⟨_, _, rfl, rfl, Or.inr ⟨s, 10, popt_no a1, rfl, by rw [upz_id h4]; exact hL⟩⟩
set_option maxRecDepth 100000 in
set_option maxHeartbeats 4000000 in
theorem l_lf129 (κ : KP) {A : Nat → Nat} {M : MEM} (h : AH) (hA : MA A) (hR : RG M) (hT : TX M) (k0 : 0 ≤ M 30 22) (k1 : M 30 22 ≤ 25) {M2 : MEM} {s : Int} {row : Int → Int} (hL : LIr M M2 s row) (h3 : row 3 = 60) (h4 : row 4 = 10) : WW κ mX10_leaf 3 0 0 (fun v h' => ∃ r M', v = some (.int (J r)) ∧ h' = mset A M' h ∧ (fun r M' => (∃ e, popt (M 16) (M 30 17) 60 s 60 = .inl e ∧ r = 0 ∧ FLf M M' e) ∨ ∃ s2 y, popt (M 16) (M 30 17) 60 s 60 = .inr (s2, y) ∧ ((∃ e, popt (M 16) (M 30 17) 62 s2 10 = .inl e ∧ r = 0 ∧ FLf M M' e) ∨ ∃ s3 z, popt (M 16) (M 30 17) 62 s2 10 = .inr (s3, z) ∧ r = 1 ∧ LIr M M' s3 (upz (upz row 3 y) 4 z))) r M') NoX 129 [some (.ref (A 30)), some (.int (J (12 * M 30 22)))] [] (mset A M2 h) := by
  refine r_al0 dX10_leaf_129 ?_
  refine r_bipush dX10_leaf_130 (by decide) ?_
  refine m_callR1 dX10_leaf_132 v_X10_205 hA (c_skips κ hA hL.1.1 (hL.1.tx hT) (c := 60) (by decide)) (by decide) rfl (fun r1 M3 h3' => ?_)
  rw [hL.1.e16, hL.1.e17, hL.1.2.2.1] at h3'
  rcases h3' with ⟨a1, rfl, rfl⟩ | ⟨a1, rfl, rfl⟩
  · have hs : s < M 30 17 := hre_in (T := M 16) (by rw [a1]; decide)
    have hL2 := hL.skip hT hs
    refine r_if_eq (tgt := 159) dX10_leaf_135 (by decide) (by decide) (fun c => absurd c (by decide)) (fun c => ?_)
    refine r_al0 dX10_leaf_138 ?_
    refine m_callR0 dX10_leaf_139 v_X10_202 hA (c_digits κ hA hL2.1.1 (hL2.1.tx hT)) (by decide) rfl (fun r2 M4 h4' => ?_)
    unfold PDg at h4'
    rw [hL2.1.e16, hL2.1.e17, hL2.1.2.2.1] at h4'
    rcases h4' with ⟨b1, rfl, rfl⟩ | ⟨s', z, b1, rfl, b2, b3, b4, b5, b6, b7, b8, b9⟩
    · refine r_if_ne (tgt := 147) dX10_leaf_142 (by decide) (by decide) (fun c => absurd rfl c) (fun c => ?_)
      refine r_iconst dX10_leaf_145 ?_
      exact r_iret dX10_leaf_146 (ty := .boolean) rfl (by decide) ⟨_, _, rfl, rfl, Or.inl ⟨_, popt_e a1 b1, rfl, hL2.1⟩⟩
    · have hL3 := (hL2.dig b2 b3 b4 b6 b7).put (x := 3) (v := z) (by omega) (by decide)
      refine r_if_ne (tgt := 147) dX10_leaf_142 (by decide) (by decide) (fun c => ?_) (fun c => absurd c (by decide))
      refine r_al0 dX10_leaf_147 ?_
      refine m_get dX10_leaf_148 f_X10_42 hA rfl ?_
      refine r_il1 dX10_leaf_151 ?_
      refine r_iconst dX10_leaf_152 ?_
      refine r_iadd dX10_leaf_153 ?_
      refine r_al0 dX10_leaf_154 ?_
      refine m_get dX10_leaf_155 f_X10_187 hA rfl ?_
      refine m_ast dX10_leaf_158 hA (by decide) rfl (by omega) (by simp only [mlen]; omega) ?_
      rw [b5]
      refine ww_postR (fun r M' q => Or.inr ⟨s', z, popt_y a1 b1, q⟩) (l_lf159 κ h hA hR hT k0 k1 hL3 ?_)
      rw [upz_app, if_neg (by decide)]
      exact h4
  · refine r_if_eq (tgt := 159) dX10_leaf_135 (by decide) (by decide) (fun c => ?_) (fun c => absurd rfl c)
    refine ww_postR (fun r M' q => Or.inr ⟨s, 60, popt_no a1, by rw [upz_id h3]; exact q⟩) (l_lf159 κ h hA hR hT k0 k1 hL h4)
