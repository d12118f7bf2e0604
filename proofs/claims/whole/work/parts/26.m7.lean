/-! ===== what a use comes to ===== -/
noncomputable def qgets (g u : Int → Int) (b : Int) : Int := sz (fun c => if u c = b then g (4 + 4 * c + 1) else 0) (g 1)
noncomputable def qgiv (g u : Int → Int) : Int := sz (fun c => if 0 ≤ u c then g (4 + 4 * c + 1) else 0) (g 1)
def qmf (g u : Int → Int) : Nat → Int → Prop
  | 0, _ => False
  | f + 1, b => (QGr g b → g (60 + 12 * b + 2) ≤ sz (fun k => bP (g (60 + 12 * k + 1) = b ∧ qmf g u f k)) (g 3)) ∧ (¬ QGr g b → g (60 + 12 * b + 2) ≤ qgets g u b)
def qmet (g u : Int → Int) (b : Int) : Prop := qmf g u (g 3 - b).toNat b
noncomputable def fP (g u : Int → Int) (b : Int) : Int → Int := fun k => bP (g (60 + 12 * k + 1) = b ∧ qmet g u k)
noncomputable def fL (g u : Int → Int) : Int → Int := fun b => bP (¬ QGr g b ∧ qmet g u b)
noncomputable def fR (g u : Int → Int) : Int → Int := fun b => bP (g (60 + 12 * b + 1) < 0 ∧ qmet g u b)
noncomputable def qroots (g u : Int → Int) : Int := sz (fR g u) (g 3)
noncomputable def qleav (g u : Int → Int) : Int := sz (fL g u) (g 3)
noncomputable def qkey (g u : Int → Int) : Int := (qroots g u * 10 + qleav g u) * 1000 - qgiv g u
theorem WFb.up {g : Int → Int} {b : Int} (h : WFb g b) : g (60 + 12 * b + 1) < b := h.2.1.2
theorem qmf_irr {g u : Int → Int} (hW : WF g) : ∀ (f f' : Nat) (b : Int), 0 ≤ b → b < g 3 → g 3 - b ≤ f → g 3 - b ≤ f' → (qmf g u f b ↔ qmf g u f' b)
  | 0, _, b, b0, b1, h1, h2 => by omega
  | f + 1, 0, b, b0, b1, h1, h2 => by omega
  | f + 1, f' + 1, b, b0, b1, h1, h2 => by
    have e : sz (fun k => bP (g (60 + 12 * k + 1) = b ∧ qmf g u f k)) (g 3) = sz (fun k => bP (g (60 + 12 * k + 1) = b ∧ qmf g u f' k)) (g 3) := by
      refine sz_cong (fun k k0 k1 => bP_cong (and_congr_right (fun q => ?_)))
      have := (hW.b k0 k1).up
      exact qmf_irr hW f f' k k0 k1 (by omega) (by omega)
    unfold qmf
    rw [e]
theorem qmet_eq {g u : Int → Int} (hW : WF g) {b : Int} (b0 : 0 ≤ b) (b1 : b < g 3) : qmet g u b ↔ (QGr g b → g (60 + 12 * b + 2) ≤ sz (fP g u b) (g 3)) ∧ (¬ QGr g b → g (60 + 12 * b + 2) ≤ qgets g u b) := by
  obtain ⟨f, hf⟩ : ∃ f, (g 3 - b).toNat = f + 1 := ⟨(g 3 - b).toNat - 1, by omega⟩
  have e : sz (fun k => bP (g (60 + 12 * k + 1) = b ∧ qmf g u f k)) (g 3) = sz (fP g u b) (g 3) := by
    refine sz_cong (fun k k0 k1 => bP_cong (and_congr_right (fun q => ?_)))
    have := (hW.b k0 k1).up
    exact qmf_irr hW f _ k k0 k1 (by omega) (by omega)
  rw [show qmet g u b ↔ qmf g u (f + 1) b by unfold qmet; rw [hf]]
  unfold qmf
  rw [e]
/-- blocks are met as m says -/
theorem qmet_uniq {g u : Int → Int} (hW : WF g) {m : Int → Prop} (hm : ∀ b, 0 ≤ b → b < g 3 → (m b ↔ (QGr g b → g (60 + 12 * b + 2) ≤ sz (fun k => bP (g (60 + 12 * k + 1) = b ∧ m k)) (g 3)) ∧ (¬ QGr g b → g (60 + 12 * b + 2) ≤ qgets g u b))) : ∀ (f : Nat) (b : Int), 0 ≤ b → b < g 3 → g 3 - b ≤ f → (m b ↔ qmet g u b)
  | 0, b, b0, b1, h1 => by omega
  | f + 1, b, b0, b1, h1 => by
    rw [hm b b0 b1, qmet_eq hW b0 b1]
    have e : sz (fun k => bP (g (60 + 12 * k + 1) = b ∧ m k)) (g 3) = sz (fP g u b) (g 3) := by
      refine sz_cong (fun k k0 k1 => bP_cong (and_congr_right (fun q => ?_)))
      have := (hW.b k0 k1).up
      exact qmet_uniq hW hm f k k0 k1 (by omega)
    rw [e]
/-- the same places of n credits -/
def EQU (n : Int) (u v : Int → Int) : Prop := ∀ j, 0 ≤ j → j < n → u j = v j
theorem qgets_cong {g u v : Int → Int} (h : EQU (g 1) u v) (b : Int) : qgets g u b = qgets g v b := sz_cong fun c c0 c1 => by rw [h c c0 c1]
theorem qgiv_cong {g u v : Int → Int} (h : EQU (g 1) u v) : qgiv g u = qgiv g v := sz_cong fun c c0 c1 => by rw [h c c0 c1]
theorem qmf_cong {g u v : Int → Int} (h : EQU (g 1) u v) : ∀ (f : Nat) (b : Int), qmf g u f b ↔ qmf g v f b
  | 0, _ => Iff.rfl
  | f + 1, b => by
    have e : sz (fun k => bP (g (60 + 12 * k + 1) = b ∧ qmf g u f k)) (g 3) = sz (fun k => bP (g (60 + 12 * k + 1) = b ∧ qmf g v f k)) (g 3) := sz_cong fun k _ _ => bP_cong (and_congr_right fun _ => qmf_cong h f k)
    unfold qmf
    rw [e, qgets_cong h b]
theorem qmet_cong {g u v : Int → Int} (h : EQU (g 1) u v) (b : Int) : qmet g u b ↔ qmet g v b := qmf_cong h _ b
theorem qroots_cong {g u v : Int → Int} (h : EQU (g 1) u v) : qroots g u = qroots g v := sz_cong fun b _ _ => bP_cong (and_congr_right fun _ => qmet_cong h b)
theorem qleav_cong {g u v : Int → Int} (h : EQU (g 1) u v) : qleav g u = qleav g v := sz_cong fun b _ _ => bP_cong (and_congr_right fun _ => qmet_cong h b)
theorem qkey_cong {g u v : Int → Int} (h : EQU (g 1) u v) : qkey g u = qkey g v := by
  unfold qkey
  rw [qroots_cong h, qleav_cong h, qgiv_cong h]
theorem sz_01 {f : Int → Int} {k : Int} (k0 : 0 ≤ k) (hf : ∀ i, 0 ≤ f i ∧ f i ≤ 1) : 0 ≤ sz f k ∧ sz f k ≤ k := by
  have := sz_bd (f := f) (B := 1) k0 (fun i _ _ => hf i)
  omega
theorem fP_01 {g u : Int → Int} {b i : Int} : 0 ≤ fP g u b i ∧ fP g u b i ≤ 1 := bP_01 _
theorem fL_01 {g u : Int → Int} {i : Int} : 0 ≤ fL g u i ∧ fL g u i ≤ 1 := bP_01 _
theorem fR_01 {g u : Int → Int} {i : Int} : 0 ≤ fR g u i ∧ fR g u i ≤ 1 := bP_01 _
/-- the points of a part of the credits -/
theorem qpt_bd {g : Int → Int} (hW : WF g) {p : Int → Prop} [DecidablePred p] {k : Int} (k0 : 0 ≤ k) (k1 : k ≤ g 1) : 0 ≤ sz (fun c => if p c then g (4 + 4 * c + 1) else 0) k ∧ sz (fun c => if p c then g (4 + 4 * c + 1) else 0) k ≤ k * 24 := by
  refine sz_bd k0 (fun c c0 c1 => ?_)
  have hc := hW.c c0 (show c < g 1 by omega)
  unfold WFc at hc
  split <;> omega
theorem qk_bd {g u : Int → Int} (hW : WF g) : (0 ≤ qroots g u ∧ qroots g u ≤ 8) ∧ (0 ≤ qleav g u ∧ qleav g u ≤ 8) ∧ (0 ≤ qgiv g u ∧ qgiv g u ≤ 144) := by
  obtain ⟨⟨y0, y1⟩, ⟨n0, n1⟩, ⟨e0, e1⟩, ⟨m0, m1⟩⟩ := hW.n
  have h1 := sz_01 (f := fR g u) m0 (fun _ => fR_01)
  have h2 := sz_01 (f := fL g u) m0 (fun _ => fL_01)
  have h3 := qpt_bd hW (p := fun c => 0 ≤ u c) n0 (Int.le_refl _)
  unfold qroots qleav qgiv
  refine ⟨by omega, by omega, ?_⟩
  omega
/-- what weighing lays down -/
def QW (g u : Int → Int) (M' : MEM) : Prop := (∀ b, 0 ≤ b → b < g 3 → M' 11 b = qgets g u b ∧ M' 12 b = bP (qmet g u b)) ∧ M' 30 13 = qroots g u ∧ M' 30 14 = qleav g u ∧ M' 30 15 = qgiv g u
/-- on the way -/
def WI (M : MEM) (kr : Nat) (M1 : MEM) (bm bs : Int) : Prop := RG M1 ∧ SB [11, 12] [13, 14, 15] M M1 ∧ (∀ j, 0 ≤ j → j < M 0 3 → M1 11 j = qgets (M 0) (M kr) j) ∧ M1 30 15 = qgiv (M 0) (M kr) ∧ (∀ k, bm < k → k < M 0 3 → M1 12 k = bP (qmet (M 0) (M kr) k)) ∧ M1 30 13 = qroots (M 0) (M kr) - sz (fR (M 0) (M kr)) (bs + 1) ∧ M1 30 14 = qleav (M 0) (M kr) - sz (fL (M 0) (M kr)) (bs + 1)
theorem gr1 {g : Int → Int} {b : Int} (h : QGr g b) : g (60 + 12 * b + 0) = 1 := h
set_option maxRecDepth 100000 in
set_option maxHeartbeats 4000000 in
theorem l_w224 (κ : KP) {A : Nat → Nat} {M : MEM} (h : AH) (hA : MA A) (hR : RG M) {kr : Nat} (hk : kr ∈ mids ∧ kr ≠ 30) (ht : mty kr = .int) (hl : mlen kr = 6) (hkn : kr ∉ [11, 12]) (hW : WF (M 0)) (hv : ∀ c, 0 ≤ c → c < M 0 1 → -1 ≤ M kr c ∧ M kr c < M 0 3) {M1 : MEM} {b : Int} {v3 v4 : Option Value} (b0 : 0 ≤ b) (b1 : b < M 0 3) (hI : WI M kr M1 (b - 1) b) (kk : ∀ (M2 : MEM) (v3 v4 : Option Value), WI M kr M2 (b - 1) (b - 1) → WW κ mX10_weighs 3 0 0 (fun v h' => ∃ M', v = none ∧ h' = mset A M' h ∧ (fun M' => RG M' ∧ SB [11, 12] [13, 14, 15] M M' ∧ QW (M 0) (M kr) M') M') NoX 113 [some (.ref (A 30)), some (.ref (A kr)), some (.int (J (b - 1))), v3, v4] [] (mset A M2 h)) : WW κ mX10_weighs 3 0 0 (fun v h' => ∃ M', v = none ∧ h' = mset A M' h ∧ (fun M' => RG M' ∧ SB [11, 12] [13, 14, 15] M M' ∧ QW (M 0) (M kr) M') M') NoX 224 [some (.ref (A 30)), some (.ref (A kr)), some (.int (J b)), v3, v4] [] (mset A M1 h) := by
  obtain ⟨⟨y0, y1⟩, ⟨n0, n1⟩, ⟨q0, q1⟩, ⟨m0, m1⟩⟩ := hW.n
  obtain ⟨hR1, hS, hgt, hgv, hmt, hsr, hsl⟩ := hI
  have e0 : M1 0 = M 0 := hS.1 0 (by decide) (by decide)
  have hI : WI M kr M1 (b - 1) b := ⟨hR1, hS, hgt, hgv, hmt, hsr, hsl⟩
  have bL := sz_01 (f := fL (M 0) (M kr)) (k := b + 1) (by omega) (fun _ => fL_01)
  have bR := sz_01 (f := fR (M 0) (M kr)) (k := b + 1) (by omega) (fun _ => fR_01)
  have bK := qk_bd (u := M kr) hW
  have hmb := hmt b (by omega) b1
  have hb1 : M1 12 b ≠ 0 → qmet (M 0) (M kr) b := by
    intro z
    rw [hmb] at z
    exact Classical.byContradiction fun y => z (bP_f y)
  have hb0 : M1 12 b = 0 → ¬ qmet (M 0) (M kr) b := by
    intro z y
    rw [hmb, bP_t y] at z
    exact absurd z (by decide)
  have sR : sz (fR (M 0) (M kr)) (b + 1) = sz (fR (M 0) (M kr)) b + fR (M 0) (M kr) b := sz_1 b0
  have sL : sz (fL (M 0) (M kr)) (b + 1) = sz (fL (M 0) (M kr)) b + fL (M 0) (M kr) b := sz_1 b0
  have hfR1 : M 0 (60 + 12 * b + 1) < 0 ∧ qmet (M 0) (M kr) b → fR (M 0) (M kr) b = 1 := bP_t
  have hfR0 : ¬ (M 0 (60 + 12 * b + 1) < 0 ∧ qmet (M 0) (M kr) b) → fR (M 0) (M kr) b = 0 := bP_f
  have hfL1 : ¬ QGr (M 0) b ∧ qmet (M 0) (M kr) b → fL (M 0) (M kr) b = 1 := bP_t
  have hfL0 : ¬ (¬ QGr (M 0) b ∧ qmet (M 0) (M kr) b) → fL (M 0) (M kr) b = 0 := bP_f
  refine r_al0 dX10_weighs_224 ?_
  refine r_dup dX10_weighs_225 rfl ?_
  refine m_get dX10_weighs_226 f_X10_103 hA rfl ?_
  try simp only [updm_app, Int.reduceEq, Nat.reduceEqDiff, and_true, true_and, false_and, and_false, if_true, if_false, reduceIte, e0]
  refine r_al0 dX10_weighs_229 ?_
  refine m_get dX10_weighs_230 f_X10_31 hA rfl ?_
  refine r_il2 dX10_weighs_233 ?_
  refine m_zald dX10_weighs_234 hA (by decide) rfl (by first | omega | (simp only [mlen]; omega)) (by first | omega | (simp only [mlen]; omega)) ?_
  try simp only [updm_app, Int.reduceEq, Nat.reduceEqDiff, and_true, true_and, false_and, and_false, if_true, if_false, reduceIte, e0]
  refine r_if_eq (tgt := 250) dX10_weighs_235 (by decide) (by first | omega | exact hR1 _ _ | exact hR _ _ | (simp only [updm_app, Int.reduceEq, Nat.reduceEqDiff, and_true, true_and, false_and, and_false, if_true, if_false, reduceIte]; first | omega | exact hR1 _ _)) (fun c_235 => ?_) (fun c_235 => ?_)
  · refine r_iconst dX10_weighs_250 ?_
    refine r_iadd dX10_weighs_251 ?_
    refine m_put dX10_weighs_252 f_X10_103 p_X10_103 (ff_14_14 _) hA mfp_14 rfl rfl ?_
    refine r_al0 dX10_weighs_255 ?_
    refine r_dup dX10_weighs_256 rfl ?_
    refine m_get dX10_weighs_257 f_X10_100 hA rfl ?_
    try simp only [updm_app, Int.reduceEq, Nat.reduceEqDiff, and_true, true_and, false_and, and_false, if_true, if_false, reduceIte, e0]
    refine r_al0 dX10_weighs_260 ?_
    refine m_get dX10_weighs_261 f_X10_31 hA rfl ?_
    refine r_il2 dX10_weighs_264 ?_
    refine m_zald dX10_weighs_265 hA (by decide) rfl (by first | omega | (simp only [mlen]; omega)) (by first | omega | (simp only [mlen]; omega)) ?_
    try simp only [updm_app, Int.reduceEq, Nat.reduceEqDiff, and_true, true_and, false_and, and_false, if_true, if_false, reduceIte, e0]
    refine r_if_eq (tgt := 286) dX10_weighs_266 (by decide) (by first | omega | exact hR1 _ _ | exact hR _ _ | (simp only [updm_app, Int.reduceEq, Nat.reduceEqDiff, and_true, true_and, false_and, and_false, if_true, if_false, reduceIte]; first | omega | exact hR1 _ _)) (fun c_266 => ?_) (fun c_266 => ?_)
    · refine r_iconst dX10_weighs_286 ?_
      refine r_iadd dX10_weighs_287 ?_
      refine m_put dX10_weighs_288 f_X10_100 p_X10_100 (ff_14_13 _) hA mfp_13 rfl rfl ?_
      refine r_inc2 dX10_weighs_291 rfl ?_
      refine r_goto (tgt := 113) dX10_weighs_294 (by decide) ?_
      refine kk _ _ _ ⟨?_, ?_, ?_, ?_, ?_, ?_, ?_⟩
      · refine RG.up (RG.up hR1 ?_) ?_ <;> (try simp only [updm_app, Int.reduceEq, Nat.reduceEqDiff, and_true, true_and, false_and, and_false, if_true, if_false, reduceIte]) <;> omega
      · exact SB.upF (SB.upF hS (by decide)) (by decide)
      · intro j j0 j1
        rw [updm_k (by decide), updm_k (by decide)]
        exact hgt j j0 j1
      · try simp only [updm_app, Int.reduceEq, Nat.reduceEqDiff, and_true, true_and, false_and, and_false, if_true, if_false, reduceIte]
        exact hgv
      · intro j j0 j1
        rw [updm_k (by decide), updm_k (by decide)]
        exact hmt j j0 j1
      · rw [updm_at, show b - 1 + 1 = b by omega]
        try simp only [updm_app, Int.reduceEq, Nat.reduceEqDiff, and_true, true_and, false_and, and_false, if_true, if_false, reduceIte]
        rw [hsr, sR]
        first | (rw [hfR1 ⟨by first | assumption | omega, by first | assumption | exact hb1 (by omega)⟩]; omega) | (rw [hfR0 (fun z => by first | exact absurd z.1 (by omega) | exact absurd z.2 (hb0 (by omega)))]; omega)
      · rw [updm_ne (by decide), updm_at, show b - 1 + 1 = b by omega, hsl, sL]
        first | (rw [hfL1 ⟨by assumption, hb1 (by omega)⟩]; omega) | (rw [hfL0 (fun z => by first | exact absurd (by assumption) z.1 | exact absurd z.2 (hb0 (by omega)))]; omega)
    · refine r_al0 dX10_weighs_269 ?_
      refine m_get dX10_weighs_270 f_X10_7 hA rfl ?_
      refine r_il2 dX10_weighs_273 ?_
      refine r_iconst dX10_weighs_274 ?_
      refine r_callSP2 dX10_weighs_275 s_X10_65 (c_blockAt κ _) (by decide) rfl ?_
      refine m_ald dX10_weighs_278 hA (by decide) rfl (by first | omega | (simp only [mlen]; omega)) (by first | omega | (simp only [mlen]; omega)) ?_
      try simp only [updm_app, Int.reduceEq, Nat.reduceEqDiff, and_true, true_and, false_and, and_false, if_true, if_false, reduceIte, e0]
      refine r_if_ge (tgt := 286) dX10_weighs_279 (by decide) (by first | omega | exact hR1 _ _ | exact hR _ _ | (simp only [updm_app, Int.reduceEq, Nat.reduceEqDiff, and_true, true_and, false_and, and_false, if_true, if_false, reduceIte]; first | omega | exact hR1 _ _)) (fun c_279 => ?_) (fun c_279 => ?_)
      · refine r_iconst dX10_weighs_286 ?_
        refine r_iadd dX10_weighs_287 ?_
        refine m_put dX10_weighs_288 f_X10_100 p_X10_100 (ff_14_13 _) hA mfp_13 rfl rfl ?_
        refine r_inc2 dX10_weighs_291 rfl ?_
        refine r_goto (tgt := 113) dX10_weighs_294 (by decide) ?_
        refine kk _ _ _ ⟨?_, ?_, ?_, ?_, ?_, ?_, ?_⟩
        · refine RG.up (RG.up hR1 ?_) ?_ <;> (try simp only [updm_app, Int.reduceEq, Nat.reduceEqDiff, and_true, true_and, false_and, and_false, if_true, if_false, reduceIte]) <;> omega
        · exact SB.upF (SB.upF hS (by decide)) (by decide)
        · intro j j0 j1
          rw [updm_k (by decide), updm_k (by decide)]
          exact hgt j j0 j1
        · try simp only [updm_app, Int.reduceEq, Nat.reduceEqDiff, and_true, true_and, false_and, and_false, if_true, if_false, reduceIte]
          exact hgv
        · intro j j0 j1
          rw [updm_k (by decide), updm_k (by decide)]
          exact hmt j j0 j1
        · rw [updm_at, show b - 1 + 1 = b by omega]
          try simp only [updm_app, Int.reduceEq, Nat.reduceEqDiff, and_true, true_and, false_and, and_false, if_true, if_false, reduceIte]
          rw [hsr, sR]
          first | (rw [hfR1 ⟨by first | assumption | omega, by first | assumption | exact hb1 (by omega)⟩]; omega) | (rw [hfR0 (fun z => by first | exact absurd z.1 (by omega) | exact absurd z.2 (hb0 (by omega)))]; omega)
        · rw [updm_ne (by decide), updm_at, show b - 1 + 1 = b by omega, hsl, sL]
          first | (rw [hfL1 ⟨by assumption, hb1 (by omega)⟩]; omega) | (rw [hfL0 (fun z => by first | exact absurd (by assumption) z.1 | exact absurd z.2 (hb0 (by omega)))]; omega)
      · refine r_iconst dX10_weighs_282 ?_
        refine r_goto (tgt := 287) dX10_weighs_283 (by decide) ?_
        refine r_iadd dX10_weighs_287 ?_
        refine m_put dX10_weighs_288 f_X10_100 p_X10_100 (ff_14_13 _) hA mfp_13 rfl rfl ?_
        refine r_inc2 dX10_weighs_291 rfl ?_
        refine r_goto (tgt := 113) dX10_weighs_294 (by decide) ?_
        refine kk _ _ _ ⟨?_, ?_, ?_, ?_, ?_, ?_, ?_⟩
        · refine RG.up (RG.up hR1 ?_) ?_ <;> (try simp only [updm_app, Int.reduceEq, Nat.reduceEqDiff, and_true, true_and, false_and, and_false, if_true, if_false, reduceIte]) <;> omega
        · exact SB.upF (SB.upF hS (by decide)) (by decide)
        · intro j j0 j1
          rw [updm_k (by decide), updm_k (by decide)]
          exact hgt j j0 j1
        · try simp only [updm_app, Int.reduceEq, Nat.reduceEqDiff, and_true, true_and, false_and, and_false, if_true, if_false, reduceIte]
          exact hgv
        · intro j j0 j1
          rw [updm_k (by decide), updm_k (by decide)]
          exact hmt j j0 j1
        · rw [updm_at, show b - 1 + 1 = b by omega]
          try simp only [updm_app, Int.reduceEq, Nat.reduceEqDiff, and_true, true_and, false_and, and_false, if_true, if_false, reduceIte]
          rw [hsr, sR]
          first | (rw [hfR1 ⟨by first | assumption | omega, by first | assumption | exact hb1 (by omega)⟩]; omega) | (rw [hfR0 (fun z => by first | exact absurd z.1 (by omega) | exact absurd z.2 (hb0 (by omega)))]; omega)
        · rw [updm_ne (by decide), updm_at, show b - 1 + 1 = b by omega, hsl, sL]
          first | (rw [hfL1 ⟨by assumption, hb1 (by omega)⟩]; omega) | (rw [hfL0 (fun z => by first | exact absurd (by assumption) z.1 | exact absurd z.2 (hb0 (by omega)))]; omega)
  · refine r_al0 dX10_weighs_238 ?_
    refine r_il2 dX10_weighs_239 ?_
    refine m_callP1 dX10_weighs_240 v_X10_86 hA (c_isGroup κ _ hA hR1 (by omega) (by omega)) (by decide) rfl ?_
    simp only [e0]
    refine r_ifT_ne (tgt := 250) dX10_weighs_243 (by decide) (fun c_243 => ?_) (fun c_243 => ?_)
    · refine r_iconst dX10_weighs_250 ?_
      refine r_iadd dX10_weighs_251 ?_
      refine m_put dX10_weighs_252 f_X10_103 p_X10_103 (ff_14_14 _) hA mfp_14 rfl rfl ?_
      refine r_al0 dX10_weighs_255 ?_
      refine r_dup dX10_weighs_256 rfl ?_
      refine m_get dX10_weighs_257 f_X10_100 hA rfl ?_
      try simp only [updm_app, Int.reduceEq, Nat.reduceEqDiff, and_true, true_and, false_and, and_false, if_true, if_false, reduceIte, e0]
      refine r_al0 dX10_weighs_260 ?_
      refine m_get dX10_weighs_261 f_X10_31 hA rfl ?_
      refine r_il2 dX10_weighs_264 ?_
      refine m_zald dX10_weighs_265 hA (by decide) rfl (by first | omega | (simp only [mlen]; omega)) (by first | omega | (simp only [mlen]; omega)) ?_
      try simp only [updm_app, Int.reduceEq, Nat.reduceEqDiff, and_true, true_and, false_and, and_false, if_true, if_false, reduceIte, e0]
      refine r_if_eq (tgt := 286) dX10_weighs_266 (by decide) (by first | omega | exact hR1 _ _ | exact hR _ _ | (simp only [updm_app, Int.reduceEq, Nat.reduceEqDiff, and_true, true_and, false_and, and_false, if_true, if_false, reduceIte]; first | omega | exact hR1 _ _)) (fun c_266 => ?_) (fun c_266 => ?_)
      · refine r_iconst dX10_weighs_286 ?_
        refine r_iadd dX10_weighs_287 ?_
        refine m_put dX10_weighs_288 f_X10_100 p_X10_100 (ff_14_13 _) hA mfp_13 rfl rfl ?_
        refine r_inc2 dX10_weighs_291 rfl ?_
        refine r_goto (tgt := 113) dX10_weighs_294 (by decide) ?_
        refine kk _ _ _ ⟨?_, ?_, ?_, ?_, ?_, ?_, ?_⟩
        · refine RG.up (RG.up hR1 ?_) ?_ <;> (try simp only [updm_app, Int.reduceEq, Nat.reduceEqDiff, and_true, true_and, false_and, and_false, if_true, if_false, reduceIte]) <;> omega
        · exact SB.upF (SB.upF hS (by decide)) (by decide)
        · intro j j0 j1
          rw [updm_k (by decide), updm_k (by decide)]
          exact hgt j j0 j1
        · try simp only [updm_app, Int.reduceEq, Nat.reduceEqDiff, and_true, true_and, false_and, and_false, if_true, if_false, reduceIte]
          exact hgv
        · intro j j0 j1
          rw [updm_k (by decide), updm_k (by decide)]
          exact hmt j j0 j1
        · rw [updm_at, show b - 1 + 1 = b by omega]
          try simp only [updm_app, Int.reduceEq, Nat.reduceEqDiff, and_true, true_and, false_and, and_false, if_true, if_false, reduceIte]
          rw [hsr, sR]
          first | (rw [hfR1 ⟨by first | assumption | omega, by first | assumption | exact hb1 (by omega)⟩]; omega) | (rw [hfR0 (fun z => by first | exact absurd z.1 (by omega) | exact absurd z.2 (hb0 (by omega)))]; omega)
        · rw [updm_ne (by decide), updm_at, show b - 1 + 1 = b by omega, hsl, sL]
          first | (rw [hfL1 ⟨by assumption, hb1 (by omega)⟩]; omega) | (rw [hfL0 (fun z => by first | exact absurd (by assumption) z.1 | exact absurd z.2 (hb0 (by omega)))]; omega)
      · refine r_al0 dX10_weighs_269 ?_
        refine m_get dX10_weighs_270 f_X10_7 hA rfl ?_
        refine r_il2 dX10_weighs_273 ?_
        refine r_iconst dX10_weighs_274 ?_
        refine r_callSP2 dX10_weighs_275 s_X10_65 (c_blockAt κ _) (by decide) rfl ?_
        refine m_ald dX10_weighs_278 hA (by decide) rfl (by first | omega | (simp only [mlen]; omega)) (by first | omega | (simp only [mlen]; omega)) ?_
        try simp only [updm_app, Int.reduceEq, Nat.reduceEqDiff, and_true, true_and, false_and, and_false, if_true, if_false, reduceIte, e0]
        refine r_if_ge (tgt := 286) dX10_weighs_279 (by decide) (by first | omega | exact hR1 _ _ | exact hR _ _ | (simp only [updm_app, Int.reduceEq, Nat.reduceEqDiff, and_true, true_and, false_and, and_false, if_true, if_false, reduceIte]; first | omega | exact hR1 _ _)) (fun c_279 => ?_) (fun c_279 => ?_)
        · refine r_iconst dX10_weighs_286 ?_
          refine r_iadd dX10_weighs_287 ?_
          refine m_put dX10_weighs_288 f_X10_100 p_X10_100 (ff_14_13 _) hA mfp_13 rfl rfl ?_
          refine r_inc2 dX10_weighs_291 rfl ?_
          refine r_goto (tgt := 113) dX10_weighs_294 (by decide) ?_
          refine kk _ _ _ ⟨?_, ?_, ?_, ?_, ?_, ?_, ?_⟩
          · refine RG.up (RG.up hR1 ?_) ?_ <;> (try simp only [updm_app, Int.reduceEq, Nat.reduceEqDiff, and_true, true_and, false_and, and_false, if_true, if_false, reduceIte]) <;> omega
          · exact SB.upF (SB.upF hS (by decide)) (by decide)
          · intro j j0 j1
            rw [updm_k (by decide), updm_k (by decide)]
            exact hgt j j0 j1
          · try simp only [updm_app, Int.reduceEq, Nat.reduceEqDiff, and_true, true_and, false_and, and_false, if_true, if_false, reduceIte]
            exact hgv
          · intro j j0 j1
            rw [updm_k (by decide), updm_k (by decide)]
            exact hmt j j0 j1
          · rw [updm_at, show b - 1 + 1 = b by omega]
            try simp only [updm_app, Int.reduceEq, Nat.reduceEqDiff, and_true, true_and, false_and, and_false, if_true, if_false, reduceIte]
            rw [hsr, sR]
            first | (rw [hfR1 ⟨by first | assumption | omega, by first | assumption | exact hb1 (by omega)⟩]; omega) | (rw [hfR0 (fun z => by first | exact absurd z.1 (by omega) | exact absurd z.2 (hb0 (by omega)))]; omega)
          · rw [updm_ne (by decide), updm_at, show b - 1 + 1 = b by omega, hsl, sL]
            first | (rw [hfL1 ⟨by assumption, hb1 (by omega)⟩]; omega) | (rw [hfL0 (fun z => by first | exact absurd (by assumption) z.1 | exact absurd z.2 (hb0 (by omega)))]; omega)
        · refine r_iconst dX10_weighs_282 ?_
          refine r_goto (tgt := 287) dX10_weighs_283 (by decide) ?_
          refine r_iadd dX10_weighs_287 ?_
          refine m_put dX10_weighs_288 f_X10_100 p_X10_100 (ff_14_13 _) hA mfp_13 rfl rfl ?_
          refine r_inc2 dX10_weighs_291 rfl ?_
          refine r_goto (tgt := 113) dX10_weighs_294 (by decide) ?_
          refine kk _ _ _ ⟨?_, ?_, ?_, ?_, ?_, ?_, ?_⟩
          · refine RG.up (RG.up hR1 ?_) ?_ <;> (try simp only [updm_app, Int.reduceEq, Nat.reduceEqDiff, and_true, true_and, false_and, and_false, if_true, if_false, reduceIte]) <;> omega
          · exact SB.upF (SB.upF hS (by decide)) (by decide)
          · intro j j0 j1
            rw [updm_k (by decide), updm_k (by decide)]
            exact hgt j j0 j1
          · try simp only [updm_app, Int.reduceEq, Nat.reduceEqDiff, and_true, true_and, false_and, and_false, if_true, if_false, reduceIte]
            exact hgv
          · intro j j0 j1
            rw [updm_k (by decide), updm_k (by decide)]
            exact hmt j j0 j1
          · rw [updm_at, show b - 1 + 1 = b by omega]
            try simp only [updm_app, Int.reduceEq, Nat.reduceEqDiff, and_true, true_and, false_and, and_false, if_true, if_false, reduceIte]
            rw [hsr, sR]
            first | (rw [hfR1 ⟨by first | assumption | omega, by first | assumption | exact hb1 (by omega)⟩]; omega) | (rw [hfR0 (fun z => by first | exact absurd z.1 (by omega) | exact absurd z.2 (hb0 (by omega)))]; omega)
          · rw [updm_ne (by decide), updm_at, show b - 1 + 1 = b by omega, hsl, sL]
            first | (rw [hfL1 ⟨by assumption, hb1 (by omega)⟩]; omega) | (rw [hfL0 (fun z => by first | exact absurd (by assumption) z.1 | exact absurd z.2 (hb0 (by omega)))]; omega)
    · refine r_iconst dX10_weighs_246 ?_
      refine r_goto (tgt := 251) dX10_weighs_247 (by decide) ?_
      refine r_iadd dX10_weighs_251 ?_
      refine m_put dX10_weighs_252 f_X10_103 p_X10_103 (ff_14_14 _) hA mfp_14 rfl rfl ?_
      refine r_al0 dX10_weighs_255 ?_
      refine r_dup dX10_weighs_256 rfl ?_
      refine m_get dX10_weighs_257 f_X10_100 hA rfl ?_
      try simp only [updm_app, Int.reduceEq, Nat.reduceEqDiff, and_true, true_and, false_and, and_false, if_true, if_false, reduceIte, e0]
      refine r_al0 dX10_weighs_260 ?_
      refine m_get dX10_weighs_261 f_X10_31 hA rfl ?_
      refine r_il2 dX10_weighs_264 ?_
      refine m_zald dX10_weighs_265 hA (by decide) rfl (by first | omega | (simp only [mlen]; omega)) (by first | omega | (simp only [mlen]; omega)) ?_
      try simp only [updm_app, Int.reduceEq, Nat.reduceEqDiff, and_true, true_and, false_and, and_false, if_true, if_false, reduceIte, e0]
      refine r_if_eq (tgt := 286) dX10_weighs_266 (by decide) (by first | omega | exact hR1 _ _ | exact hR _ _ | (simp only [updm_app, Int.reduceEq, Nat.reduceEqDiff, and_true, true_and, false_and, and_false, if_true, if_false, reduceIte]; first | omega | exact hR1 _ _)) (fun c_266 => ?_) (fun c_266 => ?_)
      · refine r_iconst dX10_weighs_286 ?_
        refine r_iadd dX10_weighs_287 ?_
        refine m_put dX10_weighs_288 f_X10_100 p_X10_100 (ff_14_13 _) hA mfp_13 rfl rfl ?_
        refine r_inc2 dX10_weighs_291 rfl ?_
        refine r_goto (tgt := 113) dX10_weighs_294 (by decide) ?_
        refine kk _ _ _ ⟨?_, ?_, ?_, ?_, ?_, ?_, ?_⟩
        · refine RG.up (RG.up hR1 ?_) ?_ <;> (try simp only [updm_app, Int.reduceEq, Nat.reduceEqDiff, and_true, true_and, false_and, and_false, if_true, if_false, reduceIte]) <;> omega
        · exact SB.upF (SB.upF hS (by decide)) (by decide)
        · intro j j0 j1
          rw [updm_k (by decide), updm_k (by decide)]
          exact hgt j j0 j1
        · try simp only [updm_app, Int.reduceEq, Nat.reduceEqDiff, and_true, true_and, false_and, and_false, if_true, if_false, reduceIte]
          exact hgv
        · intro j j0 j1
          rw [updm_k (by decide), updm_k (by decide)]
          exact hmt j j0 j1
        · rw [updm_at, show b - 1 + 1 = b by omega]
          try simp only [updm_app, Int.reduceEq, Nat.reduceEqDiff, and_true, true_and, false_and, and_false, if_true, if_false, reduceIte]
          rw [hsr, sR]
          first | (rw [hfR1 ⟨by first | assumption | omega, by first | assumption | exact hb1 (by omega)⟩]; omega) | (rw [hfR0 (fun z => by first | exact absurd z.1 (by omega) | exact absurd z.2 (hb0 (by omega)))]; omega)
        · rw [updm_ne (by decide), updm_at, show b - 1 + 1 = b by omega, hsl, sL]
          first | (rw [hfL1 ⟨by assumption, hb1 (by omega)⟩]; omega) | (rw [hfL0 (fun z => by first | exact absurd (by assumption) z.1 | exact absurd z.2 (hb0 (by omega)))]; omega)
      · refine r_al0 dX10_weighs_269 ?_
        refine m_get dX10_weighs_270 f_X10_7 hA rfl ?_
        refine r_il2 dX10_weighs_273 ?_
        refine r_iconst dX10_weighs_274 ?_
        refine r_callSP2 dX10_weighs_275 s_X10_65 (c_blockAt κ _) (by decide) rfl ?_
        refine m_ald dX10_weighs_278 hA (by decide) rfl (by first | omega | (simp only [mlen]; omega)) (by first | omega | (simp only [mlen]; omega)) ?_
        try simp only [updm_app, Int.reduceEq, Nat.reduceEqDiff, and_true, true_and, false_and, and_false, if_true, if_false, reduceIte, e0]
        refine r_if_ge (tgt := 286) dX10_weighs_279 (by decide) (by first | omega | exact hR1 _ _ | exact hR _ _ | (simp only [updm_app, Int.reduceEq, Nat.reduceEqDiff, and_true, true_and, false_and, and_false, if_true, if_false, reduceIte]; first | omega | exact hR1 _ _)) (fun c_279 => ?_) (fun c_279 => ?_)
        · refine r_iconst dX10_weighs_286 ?_
          refine r_iadd dX10_weighs_287 ?_
          refine m_put dX10_weighs_288 f_X10_100 p_X10_100 (ff_14_13 _) hA mfp_13 rfl rfl ?_
          refine r_inc2 dX10_weighs_291 rfl ?_
          refine r_goto (tgt := 113) dX10_weighs_294 (by decide) ?_
          refine kk _ _ _ ⟨?_, ?_, ?_, ?_, ?_, ?_, ?_⟩
          · refine RG.up (RG.up hR1 ?_) ?_ <;> (try simp only [updm_app, Int.reduceEq, Nat.reduceEqDiff, and_true, true_and, false_and, and_false, if_true, if_false, reduceIte]) <;> omega
          · exact SB.upF (SB.upF hS (by decide)) (by decide)
          · intro j j0 j1
            rw [updm_k (by decide), updm_k (by decide)]
            exact hgt j j0 j1
          · try simp only [updm_app, Int.reduceEq, Nat.reduceEqDiff, and_true, true_and, false_and, and_false, if_true, if_false, reduceIte]
            exact hgv
          · intro j j0 j1
            rw [updm_k (by decide), updm_k (by decide)]
            exact hmt j j0 j1
          · rw [updm_at, show b - 1 + 1 = b by omega]
            try simp only [updm_app, Int.reduceEq, Nat.reduceEqDiff, and_true, true_and, false_and, and_false, if_true, if_false, reduceIte]
            rw [hsr, sR]
            first | (rw [hfR1 ⟨by first | assumption | omega, by first | assumption | exact hb1 (by omega)⟩]; omega) | (rw [hfR0 (fun z => by first | exact absurd z.1 (by omega) | exact absurd z.2 (hb0 (by omega)))]; omega)
          · rw [updm_ne (by decide), updm_at, show b - 1 + 1 = b by omega, hsl, sL]
            first | (rw [hfL1 ⟨by assumption, hb1 (by omega)⟩]; omega) | (rw [hfL0 (fun z => by first | exact absurd (by assumption) z.1 | exact absurd z.2 (hb0 (by omega)))]; omega)
        · refine r_iconst dX10_weighs_282 ?_
          refine r_goto (tgt := 287) dX10_weighs_283 (by decide) ?_
          refine r_iadd dX10_weighs_287 ?_
          refine m_put dX10_weighs_288 f_X10_100 p_X10_100 (ff_14_13 _) hA mfp_13 rfl rfl ?_
          refine r_inc2 dX10_weighs_291 rfl ?_
          refine r_goto (tgt := 113) dX10_weighs_294 (by decide) ?_
          refine kk _ _ _ ⟨?_, ?_, ?_, ?_, ?_, ?_, ?_⟩
          · refine RG.up (RG.up hR1 ?_) ?_ <;> (try simp only [updm_app, Int.reduceEq, Nat.reduceEqDiff, and_true, true_and, false_and, and_false, if_true, if_false, reduceIte]) <;> omega
          · exact SB.upF (SB.upF hS (by decide)) (by decide)
          · intro j j0 j1
            rw [updm_k (by decide), updm_k (by decide)]
            exact hgt j j0 j1
          · try simp only [updm_app, Int.reduceEq, Nat.reduceEqDiff, and_true, true_and, false_and, and_false, if_true, if_false, reduceIte]
            exact hgv
          · intro j j0 j1
            rw [updm_k (by decide), updm_k (by decide)]
            exact hmt j j0 j1
          · rw [updm_at, show b - 1 + 1 = b by omega]
            try simp only [updm_app, Int.reduceEq, Nat.reduceEqDiff, and_true, true_and, false_and, and_false, if_true, if_false, reduceIte]
            rw [hsr, sR]
            first | (rw [hfR1 ⟨by first | assumption | omega, by first | assumption | exact hb1 (by omega)⟩]; omega) | (rw [hfR0 (fun z => by first | exact absurd z.1 (by omega) | exact absurd z.2 (hb0 (by omega)))]; omega)
          · rw [updm_ne (by decide), updm_at, show b - 1 + 1 = b by omega, hsl, sL]
            first | (rw [hfL1 ⟨by assumption, hb1 (by omega)⟩]; omega) | (rw [hfL0 (fun z => by first | exact absurd (by assumption) z.1 | exact absurd z.2 (hb0 (by omega)))]; omega)
set_option maxRecDepth 100000 in
set_option maxHeartbeats 4000000 in
theorem l_w182 (κ : KP) {A : Nat → Nat} {M : MEM} (h : AH) (hA : MA A) (hR : RG M) {kr : Nat} (hk : kr ∈ mids ∧ kr ≠ 30) (ht : mty kr = .int) (hl : mlen kr = 6) (hkn : kr ∉ [11, 12]) (hW : WF (M 0)) (hv : ∀ c, 0 ≤ c → c < M 0 1 → -1 ≤ M kr c ∧ M kr c < M 0 3) {M1 : MEM} {b i : Int} {v4 : Option Value} (ri : rng i) (b0 : 0 ≤ b) (b1 : b < M 0 3) (hI : WI M kr M1 b b) (hG : QGr (M 0) b → i = sz (fP (M 0) (M kr) b) (M 0 3)) (kk : ∀ (M2 : MEM) (v3 v4 : Option Value), WI M kr M2 (b - 1) (b - 1) → WW κ mX10_weighs 3 0 0 (fun v h' => ∃ M', v = none ∧ h' = mset A M' h ∧ (fun M' => RG M' ∧ SB [11, 12] [13, 14, 15] M M' ∧ QW (M 0) (M kr) M') M') NoX 113 [some (.ref (A 30)), some (.ref (A kr)), some (.int (J (b - 1))), v3, v4] [] (mset A M2 h)) : WW κ mX10_weighs 3 0 0 (fun v h' => ∃ M', v = none ∧ h' = mset A M' h ∧ (fun M' => RG M' ∧ SB [11, 12] [13, 14, 15] M M' ∧ QW (M 0) (M kr) M') M') NoX 182 [some (.ref (A 30)), some (.ref (A kr)), some (.int (J b)), some (.int (J i)), v4] [] (mset A M1 h) := by
  obtain ⟨⟨y0, y1⟩, ⟨n0, n1⟩, ⟨q0, q1⟩, ⟨m0, m1⟩⟩ := hW.n
  obtain ⟨hR1, hS, hgt, hgv, hmt, hsr, hsl⟩ := hI
  have e0 : M1 0 = M 0 := hS.1 0 (by decide) (by decide)
  have hI : WI M kr M1 b b := ⟨hR1, hS, hgt, hgv, hmt, hsr, hsl⟩
  have bL := sz_01 (f := fL (M 0) (M kr)) (k := b + 1) (by omega) (fun _ => fL_01)
  have bR := sz_01 (f := fR (M 0) (M kr)) (k := b + 1) (by omega) (fun _ => fR_01)
  have bK := qk_bd (u := M kr) hW
  refine r_al0 dX10_weighs_182 ?_
  refine m_get dX10_weighs_183 f_X10_31 hA rfl ?_
  refine r_il2 dX10_weighs_186 ?_
  refine r_al0 dX10_weighs_187 ?_
  refine r_il2 dX10_weighs_188 ?_
  refine m_callP1 dX10_weighs_189 v_X10_86 hA (c_isGroup κ _ hA hR1 (by omega) (by omega)) (by decide) rfl ?_
  simp only [e0]
  refine r_ifT_eq (tgt := 199) dX10_weighs_192 (by decide) (fun c_192 => ?_) (fun c_192 => ?_)
  · refine r_al0 dX10_weighs_199 ?_
    refine m_get dX10_weighs_200 f_X10_28 hA rfl ?_
    refine r_il2 dX10_weighs_203 ?_
    refine m_ald dX10_weighs_204 hA (by decide) rfl (by first | omega | (simp only [mlen]; omega)) (by first | omega | (simp only [mlen]; omega)) ?_
    try simp only [updm_app, Int.reduceEq, Nat.reduceEqDiff, and_true, true_and, false_and, and_false, if_true, if_false, reduceIte, e0]
    refine r_al0 dX10_weighs_205 ?_
    refine m_get dX10_weighs_206 f_X10_7 hA rfl ?_
    refine r_il2 dX10_weighs_209 ?_
    refine r_iconst dX10_weighs_210 ?_
    refine r_callSP2 dX10_weighs_211 s_X10_65 (c_blockAt κ _) (by decide) rfl ?_
    refine m_ald dX10_weighs_214 hA (by decide) rfl (by first | omega | (simp only [mlen]; omega)) (by first | omega | (simp only [mlen]; omega)) ?_
    try simp only [updm_app, Int.reduceEq, Nat.reduceEqDiff, and_true, true_and, false_and, and_false, if_true, if_false, reduceIte, e0]
    refine r_icmp_lt (tgt := 222) dX10_weighs_215 (by decide) (by first | omega | exact hR1 _ _ | exact hR _ _) (by first | omega | exact hR1 _ _ | exact hR _ _) (fun c_215 => ?_) (fun c_215 => ?_)
    · refine r_iconst dX10_weighs_222 ?_
      refine m_zast dX10_weighs_223 hA (by decide) rfl (by first | omega | (simp only [mlen]; omega)) (by first | omega | (simp only [mlen]; omega)) (by first | omega | exact hR1 _ _ | exact hR _ _) ?_
      refine l_w224 κ h hA hR hk ht hl hkn hW hv b0 b1 ⟨?_, ?_, ?_, ?_, ?_, ?_, ?_⟩ kk
      · exact RG.up hR1 (by decide)
      · exact SB.upA hS (by decide) (by decide)
      · intro j j0 j1
        rw [updm_k (by decide)]
        exact hgt j j0 j1
      · rw [updm_k (by decide)]; exact hgv
      · intro j j0 j1
        rcases (show b < j ∨ j = b by omega) with z | z
        · rw [updm_ne (by omega)]; exact hmt j z j1
        · rw [z, updm_at]
          first
            | exact (bP_t ((qmet_eq hW b0 b1).mpr ⟨fun q => by first | exact absurd q (by assumption) | (rw [← hG q]; omega), fun q => by first | exact absurd (by assumption) q | (rw [← hgt b b0 b1]; omega)⟩)).symm
            | exact (bP_f (fun q => by have q2 := (qmet_eq hW b0 b1).mp q; first | (have q3 := q2.1 (by assumption); rw [← hG (by assumption)] at q3; omega) | (have q3 := q2.2 (by assumption); rw [← hgt b b0 b1] at q3; omega))).symm
      · rw [updm_k (by decide)]; exact hsr
      · rw [updm_k (by decide)]; exact hsl
    · refine r_iconst dX10_weighs_218 ?_
      refine r_goto (tgt := 223) dX10_weighs_219 (by decide) ?_
      refine m_zast dX10_weighs_223 hA (by decide) rfl (by first | omega | (simp only [mlen]; omega)) (by first | omega | (simp only [mlen]; omega)) (by first | omega | exact hR1 _ _ | exact hR _ _) ?_
      refine l_w224 κ h hA hR hk ht hl hkn hW hv b0 b1 ⟨?_, ?_, ?_, ?_, ?_, ?_, ?_⟩ kk
      · exact RG.up hR1 (by decide)
      · exact SB.upA hS (by decide) (by decide)
      · intro j j0 j1
        rw [updm_k (by decide)]
        exact hgt j j0 j1
      · rw [updm_k (by decide)]; exact hgv
      · intro j j0 j1
        rcases (show b < j ∨ j = b by omega) with z | z
        · rw [updm_ne (by omega)]; exact hmt j z j1
        · rw [z, updm_at]
          first
            | exact (bP_t ((qmet_eq hW b0 b1).mpr ⟨fun q => by first | exact absurd q (by assumption) | (rw [← hG q]; omega), fun q => by first | exact absurd (by assumption) q | (rw [← hgt b b0 b1]; omega)⟩)).symm
            | exact (bP_f (fun q => by have q2 := (qmet_eq hW b0 b1).mp q; first | (have q3 := q2.1 (by assumption); rw [← hG (by assumption)] at q3; omega) | (have q3 := q2.2 (by assumption); rw [← hgt b b0 b1] at q3; omega))).symm
      · rw [updm_k (by decide)]; exact hsr
      · rw [updm_k (by decide)]; exact hsl
  · refine r_il3 dX10_weighs_195 ?_
    refine r_goto (tgt := 205) dX10_weighs_196 (by decide) ?_
    refine r_al0 dX10_weighs_205 ?_
    refine m_get dX10_weighs_206 f_X10_7 hA rfl ?_
    refine r_il2 dX10_weighs_209 ?_
    refine r_iconst dX10_weighs_210 ?_
    refine r_callSP2 dX10_weighs_211 s_X10_65 (c_blockAt κ _) (by decide) rfl ?_
    refine m_ald dX10_weighs_214 hA (by decide) rfl (by first | omega | (simp only [mlen]; omega)) (by first | omega | (simp only [mlen]; omega)) ?_
    try simp only [updm_app, Int.reduceEq, Nat.reduceEqDiff, and_true, true_and, false_and, and_false, if_true, if_false, reduceIte, e0]
    refine r_icmp_lt (tgt := 222) dX10_weighs_215 (by decide) (by first | omega | exact hR1 _ _ | exact hR _ _) (by first | omega | exact hR1 _ _ | exact hR _ _) (fun c_215 => ?_) (fun c_215 => ?_)
    · refine r_iconst dX10_weighs_222 ?_
      refine m_zast dX10_weighs_223 hA (by decide) rfl (by first | omega | (simp only [mlen]; omega)) (by first | omega | (simp only [mlen]; omega)) (by first | omega | exact hR1 _ _ | exact hR _ _) ?_
      refine l_w224 κ h hA hR hk ht hl hkn hW hv b0 b1 ⟨?_, ?_, ?_, ?_, ?_, ?_, ?_⟩ kk
      · exact RG.up hR1 (by decide)
      · exact SB.upA hS (by decide) (by decide)
      · intro j j0 j1
        rw [updm_k (by decide)]
        exact hgt j j0 j1
      · rw [updm_k (by decide)]; exact hgv
      · intro j j0 j1
        rcases (show b < j ∨ j = b by omega) with z | z
        · rw [updm_ne (by omega)]; exact hmt j z j1
        · rw [z, updm_at]
          first
            | exact (bP_t ((qmet_eq hW b0 b1).mpr ⟨fun q => by first | exact absurd q (by assumption) | (rw [← hG q]; omega), fun q => by first | exact absurd (by assumption) q | (rw [← hgt b b0 b1]; omega)⟩)).symm
            | exact (bP_f (fun q => by have q2 := (qmet_eq hW b0 b1).mp q; first | (have q3 := q2.1 (by assumption); rw [← hG (by assumption)] at q3; omega) | (have q3 := q2.2 (by assumption); rw [← hgt b b0 b1] at q3; omega))).symm
      · rw [updm_k (by decide)]; exact hsr
      · rw [updm_k (by decide)]; exact hsl
    · refine r_iconst dX10_weighs_218 ?_
      refine r_goto (tgt := 223) dX10_weighs_219 (by decide) ?_
      refine m_zast dX10_weighs_223 hA (by decide) rfl (by first | omega | (simp only [mlen]; omega)) (by first | omega | (simp only [mlen]; omega)) (by first | omega | exact hR1 _ _ | exact hR _ _) ?_
      refine l_w224 κ h hA hR hk ht hl hkn hW hv b0 b1 ⟨?_, ?_, ?_, ?_, ?_, ?_, ?_⟩ kk
      · exact RG.up hR1 (by decide)
      · exact SB.upA hS (by decide) (by decide)
      · intro j j0 j1
        rw [updm_k (by decide)]
        exact hgt j j0 j1
      · rw [updm_k (by decide)]; exact hgv
      · intro j j0 j1
        rcases (show b < j ∨ j = b by omega) with z | z
        · rw [updm_ne (by omega)]; exact hmt j z j1
        · rw [z, updm_at]
          first
            | exact (bP_t ((qmet_eq hW b0 b1).mpr ⟨fun q => by first | exact absurd q (by assumption) | (rw [← hG q]; omega), fun q => by first | exact absurd (by assumption) q | (rw [← hgt b b0 b1]; omega)⟩)).symm
            | exact (bP_f (fun q => by have q2 := (qmet_eq hW b0 b1).mp q; first | (have q3 := q2.1 (by assumption); rw [← hG (by assumption)] at q3; omega) | (have q3 := q2.2 (by assumption); rw [← hgt b b0 b1] at q3; omega))).symm
      · rw [updm_k (by decide)]; exact hsr
      · rw [updm_k (by decide)]; exact hsl
set_option maxRecDepth 100000 in
set_option maxHeartbeats 4000000 in
theorem l_w124 (κ : KP) {A : Nat → Nat} {M : MEM} (h : AH) (hA : MA A) (hR : RG M) {kr : Nat} (hk : kr ∈ mids ∧ kr ≠ 30) (ht : mty kr = .int) (hl : mlen kr = 6) (hkn : kr ∉ [11, 12]) (hW : WF (M 0)) (hv : ∀ c, 0 ≤ c → c < M 0 1 → -1 ≤ M kr c ∧ M kr c < M 0 3) {M1 : MEM} {b : Int} (b0 : 0 ≤ b) (b1 : b < M 0 3) (hI : WI M kr M1 b b) (kk : ∀ (M2 : MEM) (v3 v4 : Option Value), WI M kr M2 (b - 1) (b - 1) → WW κ mX10_weighs 3 0 0 (fun v h' => ∃ M', v = none ∧ h' = mset A M' h ∧ (fun M' => RG M' ∧ SB [11, 12] [13, 14, 15] M M' ∧ QW (M 0) (M kr) M') M') NoX 113 [some (.ref (A 30)), some (.ref (A kr)), some (.int (J (b - 1))), v3, v4] [] (mset A M2 h)) : ∀ (f : Nat) (k i : Int), M 0 3 - k < (f : Int) → (b < k) → (k ≤ M 0 3) → (i = sz (fP (M 0) (M kr) b) k) → (¬ QGr (M 0) b → rng i) → WW κ mX10_weighs 3 0 0 (fun v h' => ∃ M', v = none ∧ h' = mset A M' h ∧ (fun M' => RG M' ∧ SB [11, 12] [13, 14, 15] M M' ∧ QW (M 0) (M kr) M') M') NoX 124 [some (.ref (A 30)), some (.ref (A kr)), some (.int (J b)), some (.int (J i)), some (.int (J k))] [] (mset A M1 h) := by
  intro f
  induction f with
  | zero =>
    intro k i hf k0 k1 hi hg
    exact absurd hf (by omega)
  | succ f ih =>
    intro k i hf k0 k1 hi hg
    obtain ⟨⟨y0, y1⟩, ⟨n0, n1⟩, ⟨q0, q1⟩, ⟨m0, m1⟩⟩ := hW.n
    have hI' := hI
    obtain ⟨hR1, hS, hgt, hgv, hmt, hsr, hsl⟩ := hI'
    have e0 : M1 0 = M 0 := hS.1 0 (by decide) (by decide)
    have bP9 := sz_01 (f := fP (M 0) (M kr) b) (k := k) (by omega) (fun _ => fP_01)
    have hb1 : ∀ k, b < k → k < M 0 3 → M1 12 k ≠ 0 → qmet (M 0) (M kr) k := by
      intro k k0 k1 z
      rw [hmt k k0 k1] at z
      exact Classical.byContradiction fun y => z (bP_f y)
    have hb0 : ∀ k, b < k → k < M 0 3 → M1 12 k = 0 → ¬ qmet (M 0) (M kr) k := by
      intro k k0 k1 z y
      rw [hmt k k0 k1, bP_t y] at z
      exact absurd z (by decide)
    refine r_al0 dX10_weighs_124 ?_
    refine r_il2 dX10_weighs_125 ?_
    refine m_callP1 dX10_weighs_126 v_X10_86 hA (c_isGroup κ _ hA hR1 (by omega) (by omega)) (by decide) rfl ?_
    simp only [e0]
    refine r_ifT_eq (tgt := 182) dX10_weighs_129 (by decide) (fun c_129 => ?_) (fun c_129 => ?_)
    · refine l_w182 κ h hA hR hk ht hl hkn hW hv (by omega) b0 b1 hI (fun q => by first | exact absurd q (by assumption) | (rw [hi, show k = M 0 3 by omega])) kk
    · refine r_il4 dX10_weighs_132 ?_
      refine r_al0 dX10_weighs_134 ?_
      refine m_get dX10_weighs_135 f_X10_7 hA rfl ?_
      refine r_iconst dX10_weighs_138 ?_
      refine m_ald dX10_weighs_139 hA (by decide) rfl (by first | omega | (simp only [mlen]; omega)) (by first | omega | (simp only [mlen]; omega)) ?_
      try simp only [updm_app, Int.reduceEq, Nat.reduceEqDiff, and_true, true_and, false_and, and_false, if_true, if_false, reduceIte, e0]
      refine r_icmp_ge (tgt := 182) dX10_weighs_140 (by decide) (by first | omega | exact hR1 _ _ | exact hR _ _) (by first | omega | exact hR1 _ _ | exact hR _ _) (fun c_140 => ?_) (fun c_140 => ?_)
      · refine l_w182 κ h hA hR hk ht hl hkn hW hv (by omega) b0 b1 hI (fun q => by first | exact absurd q (by assumption) | (rw [hi, show k = M 0 3 by omega])) kk
      · refine r_il3 dX10_weighs_143 ?_
        refine r_al0 dX10_weighs_144 ?_
        refine m_get dX10_weighs_145 f_X10_7 hA rfl ?_
        refine r_il4 dX10_weighs_148 ?_
        refine r_iconst dX10_weighs_150 ?_
        refine r_callSP2 dX10_weighs_151 s_X10_65 (c_blockAt κ _) (by decide) rfl ?_
        refine m_ald dX10_weighs_154 hA (by decide) rfl (by first | omega | (simp only [mlen]; omega)) (by first | omega | (simp only [mlen]; omega)) ?_
        try simp only [updm_app, Int.reduceEq, Nat.reduceEqDiff, and_true, true_and, false_and, and_false, if_true, if_false, reduceIte, e0]
        refine r_il2 dX10_weighs_155 ?_
        refine r_icmp_ne (tgt := 173) dX10_weighs_156 (by decide) (by first | omega | exact hR1 _ _ | exact hR _ _) (by first | omega | exact hR1 _ _ | exact hR _ _) (fun c_156 => ?_) (fun c_156 => ?_)
        · refine r_iconst dX10_weighs_173 ?_
          refine r_iadd dX10_weighs_174 ?_
          refine r_is3 dX10_weighs_175 rfl ?_
          refine r_inc4 dX10_weighs_176 rfl ?_
          refine r_goto (tgt := 124) dX10_weighs_179 (by decide) ?_
          refine ih (k + 1) _ (by omega) (by omega) (by omega) ?_ (fun _ => by omega)
          rw [sz_1 (by omega), hi]
          congr 1
          first | exact (bP_t ⟨by omega, hb1 _ (by omega) (by omega) (by assumption)⟩).symm | exact (bP_f (fun z => by first | exact absurd z.1 (by omega) | exact hb0 _ (by omega) (by omega) (by assumption) z.2)).symm
        · refine r_al0 dX10_weighs_159 ?_
          refine m_get dX10_weighs_160 f_X10_31 hA rfl ?_
          refine r_il4 dX10_weighs_163 ?_
          refine m_zald dX10_weighs_165 hA (by decide) rfl (by first | omega | (simp only [mlen]; omega)) (by first | omega | (simp only [mlen]; omega)) ?_
          try simp only [updm_app, Int.reduceEq, Nat.reduceEqDiff, and_true, true_and, false_and, and_false, if_true, if_false, reduceIte, e0]
          refine r_if_eq (tgt := 173) dX10_weighs_166 (by decide) (by first | omega | exact hR1 _ _ | exact hR _ _) (fun c_166 => ?_) (fun c_166 => ?_)
          · refine r_iconst dX10_weighs_173 ?_
            refine r_iadd dX10_weighs_174 ?_
            refine r_is3 dX10_weighs_175 rfl ?_
            refine r_inc4 dX10_weighs_176 rfl ?_
            refine r_goto (tgt := 124) dX10_weighs_179 (by decide) ?_
            refine ih (k + 1) _ (by omega) (by omega) (by omega) ?_ (fun _ => by omega)
            rw [sz_1 (by omega), hi]
            congr 1
            first | exact (bP_t ⟨by omega, hb1 _ (by omega) (by omega) (by assumption)⟩).symm | exact (bP_f (fun z => by first | exact absurd z.1 (by omega) | exact hb0 _ (by omega) (by omega) (by assumption) z.2)).symm
          · refine r_iconst dX10_weighs_169 ?_
            refine r_goto (tgt := 174) dX10_weighs_170 (by decide) ?_
            refine r_iadd dX10_weighs_174 ?_
            refine r_is3 dX10_weighs_175 rfl ?_
            refine r_inc4 dX10_weighs_176 rfl ?_
            refine r_goto (tgt := 124) dX10_weighs_179 (by decide) ?_
            refine ih (k + 1) _ (by omega) (by omega) (by omega) ?_ (fun _ => by omega)
            rw [sz_1 (by omega), hi]
            congr 1
            first | exact (bP_t ⟨by omega, hb1 _ (by omega) (by omega) (by assumption)⟩).symm | exact (bP_f (fun z => by first | exact absurd z.1 (by omega) | exact hb0 _ (by omega) (by omega) (by assumption) z.2)).symm
theorem fP_0 {g u : Int → Int} (hW : WF g) {b : Int} (b0 : 0 ≤ b) (b1 : b < g 3) : sz (fP g u b) (b + 1) = 0 := by
  have : sz (fP g u b) (b + 1) = sz (fun _ => 0) (b + 1) := sz_cong (fun k k0 k1 => bP_f (fun z => by
    have := (hW.b k0 (show k < g 3 by omega)).up
    omega))
  rw [this]
  have := sz_bd (f := fun _ => 0) (B := 0) (k := b + 1) (by omega) (fun i _ _ => ⟨Int.le_refl _, Int.le_refl _⟩)
  omega
set_option maxRecDepth 100000 in
set_option maxHeartbeats 4000000 in
theorem l_w113 (κ : KP) {A : Nat → Nat} {M : MEM} (h : AH) (hA : MA A) (hR : RG M) {kr : Nat} (hk : kr ∈ mids ∧ kr ≠ 30) (ht : mty kr = .int) (hl : mlen kr = 6) (hkn : kr ∉ [11, 12]) (hW : WF (M 0)) (hv : ∀ c, 0 ≤ c → c < M 0 1 → -1 ≤ M kr c ∧ M kr c < M 0 3) : ∀ (f : Nat) (M1 : MEM) (b : Int) (v3 v4 : Option Value), b + 1 < (f : Int) → (-1 ≤ b) → (b < M 0 3) → (WI M kr M1 b b) → WW κ mX10_weighs 3 0 0 (fun v h' => ∃ M', v = none ∧ h' = mset A M' h ∧ (fun M' => RG M' ∧ SB [11, 12] [13, 14, 15] M M' ∧ QW (M 0) (M kr) M') M') NoX 113 [some (.ref (A 30)), some (.ref (A kr)), some (.int (J b)), v3, v4] [] (mset A M1 h) := by
  intro f
  induction f with
  | zero =>
    intro M1 b v3 v4 hf b0 b1 hI
    exact absurd hf (by omega)
  | succ f ih =>
    intro M1 b v3 v4 hf b0 b1 hI
    obtain ⟨⟨y0, y1⟩, ⟨n0, n1⟩, ⟨q0, q1⟩, ⟨m0, m1⟩⟩ := hW.n
    have hI' := hI
    obtain ⟨hR1, hS, hgt, hgv, hmt, hsr, hsl⟩ := hI'
    refine r_il2 dX10_weighs_113 ?_
    refine r_if_lt (tgt := 297) dX10_weighs_114 (by decide) (by first | omega | exact hR1 _ _ | exact hR _ _) (fun c_114 => ?_) (fun c_114 => ?_)
    · refine r_ret dX10_weighs_297 rfl ⟨_, rfl, rfl, hR1, hS, ?_, ?_, ?_, hgv⟩
      · intro j j0 j1
        exact ⟨hgt j j0 j1, hmt j (by omega) j1⟩
      · rw [hsr, show b + 1 = 0 by omega, sz_0]; omega
      · rw [hsl, show b + 1 = 0 by omega, sz_0]; omega
    · refine r_iconst dX10_weighs_117 ?_
      refine r_is3 dX10_weighs_118 rfl ?_
      refine r_il2 dX10_weighs_119 ?_
      refine r_iconst dX10_weighs_120 ?_
      refine r_iadd dX10_weighs_121 ?_
      refine r_is4 dX10_weighs_122 rfl ?_
      exact l_w124 κ h hA hR hk ht hl hkn hW hv (by omega) b1 hI (fun M2 v3 v4 hI2 => ih M2 (b - 1) v3 v4 (by omega) (by omega) (by omega) hI2) 9 (b + 1) 0 (by omega) (by omega) (by omega) (fP_0 hW (by omega) b1).symm (fun _ => by decide)
