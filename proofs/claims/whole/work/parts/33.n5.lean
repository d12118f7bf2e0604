/-! ===== the account ===== -/
noncomputable def qalp (g : Int → Int) : Int := sz (fun c => g (4 + 4 * c + 1)) (g 1)
noncomputable def qunu (g u : Int → Int) : Int := sz (fun c => bP (u c < 0)) (g 1)
def R_account (g : Int → Int) (x t r : Int) : Prop := (¬ QIn x 0 9 ∧ t = 1) ∨ (QIn x 0 9 ∧ t = 0 ∧ ∃ u, QBest g u ∧ ((0 ≤ x ∧ x ≤ 2 ∧ r = g (1 + x)) ∨ (x = 3 ∧ r = qleaves g) ∨ (x = 4 ∧ r = qallr g) ∨ (x = 5 ∧ r = qroots g u) ∨ (x = 6 ∧ r = qleav g u) ∨ (x = 7 ∧ r = qgiv g u) ∨ (x = 8 ∧ r = qalp g) ∨ (x = 9 ∧ r = qunu g u)))
set_option maxRecDepth 100000 in
set_option maxHeartbeats 4000000 in
theorem l_allPoints (κ : KP) {A : Nat → Nat} {M : MEM} (h : AH) (hA : MA A) (hR : RG M) (hW : WF (M 0)) : ∀ (f : Nat) (k : Int), M 0 1 - k < (f : Int) → (0 ≤ k) → (k ≤ M 0 1) → WW κ mX10_allPoints 2 0 0 (fun w h' => w = some (.int (J (sz (fun c => M 0 (4 + 4 * c + 1)) (M 0 1)))) ∧ h' = mset A M h) NoX 4 [some (.ref (A 30)), some (.int (J (sz (fun c => M 0 (4 + 4 * c + 1)) k))), some (.int (J k))] [] (mset A M h) := by
  intro f
  induction f with
  | zero =>
    intro k hf k0 k1
    exact absurd hf (by omega)
  | succ f ih =>
    intro k hf k0 k1
    have hn := hW.n
    refine r_il2 dX10_allPoints_4 ?_
    refine r_al0 dX10_allPoints_5 ?_
    refine m_get dX10_allPoints_6 f_X10_7 hA rfl ?_
    refine r_iconst dX10_allPoints_9 ?_
    refine m_ald dX10_allPoints_10 hA (by decide) rfl (by first | omega | (simp only [mlen]; omega)) (by first | omega | (simp only [mlen]; omega)) ?_
    refine r_icmp_ge (tgt := 33) dX10_allPoints_11 (by decide) (by first | omega | exact hR _ _) (by first | omega | exact hR _ _) (fun c_11 => ?_) (fun c_11 => ?_)
    · refine r_il1 dX10_allPoints_33 ?_
      refine r_iret dX10_allPoints_34 (ty := .int) rfl rfl ⟨?_, rfl⟩
      rw [show k = M 0 1 by omega]
    · refine r_il1 dX10_allPoints_14 ?_
      refine r_al0 dX10_allPoints_15 ?_
      refine m_get dX10_allPoints_16 f_X10_7 hA rfl ?_
      refine r_il2 dX10_allPoints_19 ?_
      refine r_iconst dX10_allPoints_20 ?_
      refine r_callSP2 dX10_allPoints_21 s_X10_83 (c_creditAt κ _) (by decide) rfl ?_
      refine m_ald dX10_allPoints_24 hA (by decide) rfl (by first | omega | (simp only [mlen]; omega)) (by first | omega | (simp only [mlen]; omega)) ?_
      refine r_iadd dX10_allPoints_25 ?_
      refine r_is1 dX10_allPoints_26 rfl ?_
      refine r_inc2 dX10_allPoints_27 rfl ?_
      refine r_goto (tgt := 4) dX10_allPoints_30 (by decide) ?_
      have e := ih (k + 1) (by omega) (by omega) (by omega)
      rw [sz_1 k0] at e
      exact e
set_option maxRecDepth 100000 in
set_option maxHeartbeats 4000000 in
theorem c_allPoints (κ : KP) {A : Nat → Nat} {M : MEM} (h : AH) (hA : MA A) (hR : RG M) (hW : WF (M 0)) : PM κ mX10_allPoints 2 [.ref (A 30)] (mset A M h) (.int (J (sz (fun c => M 0 (4 + 4 * c + 1)) (M 0 1)))) := by
  refine mm_of (L := [some _, none, none]) (by decide +kernel) rfl rfl (Nat.le_of_ble_eq_true rfl) rfl ?_
  refine r_iconst dX10_allPoints_0 ?_
  refine r_is1 dX10_allPoints_1 rfl ?_
  refine r_iconst dX10_allPoints_2 ?_
  refine r_is2 dX10_allPoints_3 rfl ?_
  exact l_allPoints κ h hA hR hW 9 0 (by have := hW.n; omega) (by omega) (by have := hW.n; omega)
set_option maxRecDepth 100000 in
set_option maxHeartbeats 4000000 in
theorem l_unused (κ : KP) {A : Nat → Nat} {M : MEM} (h : AH) (hA : MA A) (hR : RG M) (hW : WF (M 0)) : ∀ (f : Nat) (k : Int), M 0 1 - k < (f : Int) → (0 ≤ k) → (k ≤ M 0 1) → WW κ mX10_unused 2 0 0 (fun w h' => w = some (.int (J (sz (fun c => bP (M 10 c < 0)) (M 0 1)))) ∧ h' = mset A M h) NoX 4 [some (.ref (A 30)), some (.int (J (sz (fun c => bP (M 10 c < 0)) k))), some (.int (J k))] [] (mset A M h) := by
  intro f
  induction f with
  | zero =>
    intro k hf k0 k1
    exact absurd hf (by omega)
  | succ f ih =>
    intro k hf k0 k1
    have hn := hW.n
    refine r_il2 dX10_unused_4 ?_
    refine r_al0 dX10_unused_5 ?_
    refine m_get dX10_unused_6 f_X10_7 hA rfl ?_
    refine r_iconst dX10_unused_9 ?_
    refine m_ald dX10_unused_10 hA (by decide) rfl (by first | omega | (simp only [mlen]; omega)) (by first | omega | (simp only [mlen]; omega)) ?_
    refine r_icmp_ge (tgt := 37) dX10_unused_11 (by decide) (by first | omega | exact hR _ _) (by first | omega | exact hR _ _) (fun c_11 => ?_) (fun c_11 => ?_)
    · refine r_il1 dX10_unused_37 ?_
      refine r_iret dX10_unused_38 (ty := .int) rfl rfl ⟨?_, rfl⟩
      rw [show k = M 0 1 by omega]
    · refine r_il1 dX10_unused_14 ?_
      refine r_al0 dX10_unused_15 ?_
      refine m_get dX10_unused_16 f_X10_25 hA rfl ?_
      refine r_il2 dX10_unused_19 ?_
      refine m_ald dX10_unused_20 hA (by decide) rfl (by first | omega | (simp only [mlen]; omega)) (by first | omega | (simp only [mlen]; omega)) ?_
      refine r_if_ge (tgt := 28) dX10_unused_21 (by decide) (by first | omega | exact hR _ _) (fun c_21 => ?_) (fun c_21 => ?_)
      · refine r_iconst dX10_unused_28 ?_
        refine r_iadd dX10_unused_29 ?_
        refine r_is1 dX10_unused_30 rfl ?_
        refine r_inc2 dX10_unused_31 rfl ?_
        refine r_goto (tgt := 4) dX10_unused_34 (by decide) ?_
        have e := ih (k + 1) (by omega) (by omega) (by omega)
        rw [sz_1 k0] at e
        first | (rw [bP_t (by first | assumption | omega)] at e; exact e) | (rw [bP_f (by first | assumption | omega)] at e; exact e)
      · refine r_iconst dX10_unused_24 ?_
        refine r_goto (tgt := 29) dX10_unused_25 (by decide) ?_
        refine r_iadd dX10_unused_29 ?_
        refine r_is1 dX10_unused_30 rfl ?_
        refine r_inc2 dX10_unused_31 rfl ?_
        refine r_goto (tgt := 4) dX10_unused_34 (by decide) ?_
        have e := ih (k + 1) (by omega) (by omega) (by omega)
        rw [sz_1 k0] at e
        first | (rw [bP_t (by first | assumption | omega)] at e; exact e) | (rw [bP_f (by first | assumption | omega)] at e; exact e)
set_option maxRecDepth 100000 in
set_option maxHeartbeats 4000000 in
theorem c_unused (κ : KP) {A : Nat → Nat} {M : MEM} (h : AH) (hA : MA A) (hR : RG M) (hW : WF (M 0)) : PM κ mX10_unused 2 [.ref (A 30)] (mset A M h) (.int (J (sz (fun c => bP (M 10 c < 0)) (M 0 1)))) := by
  refine mm_of (L := [some _, none, none]) (by decide +kernel) rfl rfl (Nat.le_of_ble_eq_true rfl) rfl ?_
  refine r_iconst dX10_unused_0 ?_
  refine r_is1 dX10_unused_1 rfl ?_
  refine r_iconst dX10_unused_2 ?_
  refine r_is2 dX10_unused_3 rfl ?_
  exact l_unused κ h hA hR hW 9 0 (by have := hW.n; omega) (by omega) (by have := hW.n; omega)
set_option maxRecDepth 100000 in
set_option maxHeartbeats 4000000 in
theorem l_allLeaves (κ : KP) {A : Nat → Nat} {M : MEM} (h : AH) (hA : MA A) (hR : RG M) (hW : WF (M 0)) : ∀ (f : Nat) (k : Int), M 0 3 - k < (f : Int) → (0 ≤ k) → (k ≤ M 0 3) → WW κ mX10_allLeaves 3 0 0 (fun w h' => w = some (.int (J (sz (fun k => bP (¬ QGr (M 0) k)) (M 0 3)))) ∧ h' = mset A M h) NoX 4 [some (.ref (A 30)), some (.int (J (sz (fun k => bP (¬ QGr (M 0) k)) k))), some (.int (J k))] [] (mset A M h) := by
  intro f
  induction f with
  | zero =>
    intro k hf k0 k1
    exact absurd hf (by omega)
  | succ f ih =>
    intro k hf k0 k1
    have hn := hW.n
    refine r_il2 dX10_allLeaves_4 ?_
    refine r_al0 dX10_allLeaves_5 ?_
    refine m_get dX10_allLeaves_6 f_X10_7 hA rfl ?_
    refine r_iconst dX10_allLeaves_9 ?_
    refine m_ald dX10_allLeaves_10 hA (by decide) rfl (by first | omega | (simp only [mlen]; omega)) (by first | omega | (simp only [mlen]; omega)) ?_
    refine r_icmp_ge (tgt := 36) dX10_allLeaves_11 (by decide) (by first | omega | exact hR _ _) (by first | omega | exact hR _ _) (fun c_11 => ?_) (fun c_11 => ?_)
    · refine r_il1 dX10_allLeaves_36 ?_
      refine r_iret dX10_allLeaves_37 (ty := .int) rfl rfl ⟨?_, rfl⟩
      rw [show k = M 0 3 by omega]
    · refine r_il1 dX10_allLeaves_14 ?_
      refine r_al0 dX10_allLeaves_15 ?_
      refine r_il2 dX10_allLeaves_16 ?_
      refine m_callP1 dX10_allLeaves_17 v_X10_86 hA (c_isGroup κ _ hA hR (by omega) (by omega)) (by decide) rfl ?_
      refine r_ifT_eq (tgt := 27) dX10_allLeaves_20 (by decide) (fun c_20 => ?_) (fun c_20 => ?_)
      · refine r_iconst dX10_allLeaves_27 ?_
        refine r_iadd dX10_allLeaves_28 ?_
        refine r_is1 dX10_allLeaves_29 rfl ?_
        refine r_inc2 dX10_allLeaves_30 rfl ?_
        refine r_goto (tgt := 4) dX10_allLeaves_33 (by decide) ?_
        have e := ih (k + 1) (by omega) (by omega) (by omega)
        rw [sz_1 k0] at e
        first | (rw [bP_t (by assumption)] at e; exact e) | (rw [bP_f (fun q => q (by assumption))] at e; exact e)
      · refine r_iconst dX10_allLeaves_23 ?_
        refine r_goto (tgt := 28) dX10_allLeaves_24 (by decide) ?_
        refine r_iadd dX10_allLeaves_28 ?_
        refine r_is1 dX10_allLeaves_29 rfl ?_
        refine r_inc2 dX10_allLeaves_30 rfl ?_
        refine r_goto (tgt := 4) dX10_allLeaves_33 (by decide) ?_
        have e := ih (k + 1) (by omega) (by omega) (by omega)
        rw [sz_1 k0] at e
        first | (rw [bP_t (by assumption)] at e; exact e) | (rw [bP_f (fun q => q (by assumption))] at e; exact e)
set_option maxRecDepth 100000 in
set_option maxHeartbeats 4000000 in
theorem c_allLeaves (κ : KP) {A : Nat → Nat} {M : MEM} (h : AH) (hA : MA A) (hR : RG M) (hW : WF (M 0)) : PM κ mX10_allLeaves 3 [.ref (A 30)] (mset A M h) (.int (J (sz (fun k => bP (¬ QGr (M 0) k)) (M 0 3)))) := by
  refine mm_of (L := [some _, none, none]) (by decide +kernel) rfl rfl (Nat.le_of_ble_eq_true rfl) rfl ?_
  refine r_iconst dX10_allLeaves_0 ?_
  refine r_is1 dX10_allLeaves_1 rfl ?_
  refine r_iconst dX10_allLeaves_2 ?_
  refine r_is2 dX10_allLeaves_3 rfl ?_
  exact l_allLeaves κ h hA hR hW 9 0 (by have := hW.n; omega) (by omega) (by have := hW.n; omega)
set_option maxRecDepth 100000 in
set_option maxHeartbeats 4000000 in
theorem c_account (κ : KP) {A : Nat → Nat} {M : MEM} (hA : MA A) (hR : RG M) (hC : CW (M 0)) (hK : QKn M) {x : Int} (rx : rng x) : RM κ mX10_account 7 A [.ref (A 30), .int (J x)] M (fun r M' => ∃ t, QFx M t M' ∧ R_account (M 0) x t r) := by
  intro h
  refine mm_of (L := [some _, some _]) (by decide +kernel) rfl rfl (Nat.le_of_ble_eq_true rfl) rfl ?_
  have hW := hC.1
  obtain ⟨⟨y0, y1⟩, ⟨n0, n1⟩, ⟨q0, q1⟩, ⟨m0, m1⟩⟩ := hW.n
  refine r_al0 dX10_account_0 ?_
  refine r_il1 dX10_account_1 ?_
  refine r_iconst dX10_account_2 ?_
  refine r_bipush dX10_account_3 (by decide) ?_
  refine r_callSP3 dX10_account_5 s_X10_61 (c_in κ _ (by first | omega | exact hR _ _) (by first | omega | exact hR _ _) (by first | omega | exact hR _ _)) (by decide) rfl ?_
  refine r_ifT_eq (tgt := 15) dX10_account_8 (by decide) (fun c_8 => ?_) (fun c_8 => ?_)
  · refine r_iconst dX10_account_15 ?_
    refine m_put dX10_account_16 f_X10_51 p_X10_51 (ff_14_7 _) hA mfp_7 rfl rfl ?_
    refine r_al0 dX10_account_19 ?_
    refine m_get dX10_account_20 f_X10_51 hA rfl ?_
    try simp only [updm_app, cpy_app, Int.reduceEq, Nat.reduceEqDiff, and_true, true_and, false_and, and_false, if_true, if_false, reduceIte]
    refine r_if_le (tgt := 28) dX10_account_23 (by decide) (by first | omega | decide | exact hR _ _ | exact hR1 _ _) (fun c_23 => ?_) (fun c_23 => ?_)
    · exact absurd c_23 (by decide)
    · refine r_iconst dX10_account_26 ?_
      exact r_iret dX10_account_27 (ty := .int) rfl rfl ⟨_, _, rfl, rfl, 1, QFx.thr hR hK (by decide), Or.inl ⟨by assumption, rfl⟩⟩
  · refine r_iconst dX10_account_11 ?_
    refine r_goto (tgt := 16) dX10_account_12 (by decide) ?_
    refine m_put dX10_account_16 f_X10_51 p_X10_51 (ff_14_7 _) hA mfp_7 rfl rfl ?_
    refine r_al0 dX10_account_19 ?_
    refine m_get dX10_account_20 f_X10_51 hA rfl ?_
    try simp only [updm_app, cpy_app, Int.reduceEq, Nat.reduceEqDiff, and_true, true_and, false_and, and_false, if_true, if_false, reduceIte]
    refine r_if_le (tgt := 28) dX10_account_23 (by decide) (by first | omega | decide | exact hR _ _ | exact hR1 _ _) (fun c_23 => ?_) (fun c_23 => ?_)
    · refine r_al0 dX10_account_28 ?_
      refine m_callU0 dX10_account_29 v_X10_150 hA (c_finds κ hA (RG.up hR (by decide)) (by rw [updm_k (by decide)]; exact hW) hK.thr) (by decide) rfl (fun M_29 h_29 => ?_)
      have e0 : M_29 0 = M 0 := h_29.e0.trans (updm_k (by decide))
      have hR1 := h_29.1
      have hf := h_29
      obtain ⟨-, -, -, hbest, hw1, hw2, hw3, hw4⟩ := h_29
      rw [updm_k (by decide)] at hbest hw2 hw3 hw4
      refine r_il1 dX10_account_32 ?_
      rcases (show (x < 0 ∨ 8 < x) ∨ x = 0 ∨ x = 1 ∨ x = 2 ∨ x = 3 ∨ x = 4 ∨ x = 5 ∨ x = 6 ∨ x = 7 ∨ x = 8 by omega) with hs | hs | hs | hs | hs | hs | hs | hs | hs | hs
      · refine r_tabOut (tgt := 123) dX10_account_33 (by omega) hs (by decide) ?_
        refine r_al0 dX10_account_123 ?_
        refine m_callP0 dX10_account_124 v_X10_252 hA (c_unused κ _ hA hR1 (by rw [e0]; exact hW)) (by decide) rfl ?_
        try rw [e0]
        first
          | exact r_iret dX10_account_127 (ty := .int) rfl rfl ⟨_, _, rfl, rfl, 0, QFx.fs2 hf, Or.inr ⟨by assumption, rfl, _, hbest, Or.inl ⟨by omega, by omega, by rw [e0]⟩⟩⟩
          | exact r_iret dX10_account_127 (ty := .int) rfl rfl ⟨_, _, rfl, rfl, 0, QFx.fs2 hf, Or.inr ⟨by assumption, rfl, _, hbest, Or.inr (Or.inl ⟨by omega, rfl⟩)⟩⟩
          | exact r_iret dX10_account_127 (ty := .int) rfl rfl ⟨_, _, rfl, rfl, 0, QFx.fs2 hf, Or.inr ⟨by assumption, rfl, _, hbest, Or.inr (Or.inr (Or.inl ⟨by omega, rfl⟩))⟩⟩
          | exact r_iret dX10_account_127 (ty := .int) rfl rfl ⟨_, _, rfl, rfl, 0, QFx.fs2 hf, Or.inr ⟨by assumption, rfl, _, hbest, Or.inr (Or.inr (Or.inr (Or.inl ⟨by omega, by omega⟩)))⟩⟩
          | exact r_iret dX10_account_127 (ty := .int) rfl rfl ⟨_, _, rfl, rfl, 0, QFx.fs2 hf, Or.inr ⟨by assumption, rfl, _, hbest, Or.inr (Or.inr (Or.inr (Or.inr (Or.inl ⟨by omega, by omega⟩))))⟩⟩
          | exact r_iret dX10_account_127 (ty := .int) rfl rfl ⟨_, _, rfl, rfl, 0, QFx.fs2 hf, Or.inr ⟨by assumption, rfl, _, hbest, Or.inr (Or.inr (Or.inr (Or.inr (Or.inr (Or.inl ⟨by omega, by omega⟩)))))⟩⟩
          | exact r_iret dX10_account_127 (ty := .int) rfl rfl ⟨_, _, rfl, rfl, 0, QFx.fs2 hf, Or.inr ⟨by assumption, rfl, _, hbest, Or.inr (Or.inr (Or.inr (Or.inr (Or.inr (Or.inr (Or.inl ⟨by omega, rfl⟩))))))⟩⟩
          | exact r_iret dX10_account_127 (ty := .int) rfl rfl ⟨_, _, rfl, rfl, 0, QFx.fs2 hf, Or.inr ⟨by assumption, rfl, _, hbest, Or.inr (Or.inr (Or.inr (Or.inr (Or.inr (Or.inr (Or.inr ⟨by unfold QIn at *; omega, rfl⟩))))))⟩⟩
      · refine r_tabIn (tgt := 84) dX10_account_33 0 hs (by decide) (by decide) rfl (by decide) ?_
        refine r_al0 dX10_account_84 ?_
        refine m_get dX10_account_85 f_X10_7 hA rfl ?_
        refine r_iconst dX10_account_88 ?_
        refine r_il1 dX10_account_89 ?_
        refine r_iadd dX10_account_90 ?_
        refine m_ald dX10_account_91 hA (by decide) rfl (by first | omega | (simp only [mlen]; omega)) (by first | omega | (simp only [mlen]; omega)) ?_
        try simp only [updm_app, cpy_app, Int.reduceEq, Nat.reduceEqDiff, and_true, true_and, false_and, and_false, if_true, if_false, reduceIte]
        first
          | exact r_iret dX10_account_92 (ty := .int) rfl rfl ⟨_, _, rfl, rfl, 0, QFx.fs2 hf, Or.inr ⟨by assumption, rfl, _, hbest, Or.inl ⟨by omega, by omega, by rw [e0]⟩⟩⟩
          | exact r_iret dX10_account_92 (ty := .int) rfl rfl ⟨_, _, rfl, rfl, 0, QFx.fs2 hf, Or.inr ⟨by assumption, rfl, _, hbest, Or.inr (Or.inl ⟨by omega, rfl⟩)⟩⟩
          | exact r_iret dX10_account_92 (ty := .int) rfl rfl ⟨_, _, rfl, rfl, 0, QFx.fs2 hf, Or.inr ⟨by assumption, rfl, _, hbest, Or.inr (Or.inr (Or.inl ⟨by omega, rfl⟩))⟩⟩
          | exact r_iret dX10_account_92 (ty := .int) rfl rfl ⟨_, _, rfl, rfl, 0, QFx.fs2 hf, Or.inr ⟨by assumption, rfl, _, hbest, Or.inr (Or.inr (Or.inr (Or.inl ⟨by omega, by omega⟩)))⟩⟩
          | exact r_iret dX10_account_92 (ty := .int) rfl rfl ⟨_, _, rfl, rfl, 0, QFx.fs2 hf, Or.inr ⟨by assumption, rfl, _, hbest, Or.inr (Or.inr (Or.inr (Or.inr (Or.inl ⟨by omega, by omega⟩))))⟩⟩
          | exact r_iret dX10_account_92 (ty := .int) rfl rfl ⟨_, _, rfl, rfl, 0, QFx.fs2 hf, Or.inr ⟨by assumption, rfl, _, hbest, Or.inr (Or.inr (Or.inr (Or.inr (Or.inr (Or.inl ⟨by omega, by omega⟩)))))⟩⟩
          | exact r_iret dX10_account_92 (ty := .int) rfl rfl ⟨_, _, rfl, rfl, 0, QFx.fs2 hf, Or.inr ⟨by assumption, rfl, _, hbest, Or.inr (Or.inr (Or.inr (Or.inr (Or.inr (Or.inr (Or.inl ⟨by omega, rfl⟩))))))⟩⟩
          | exact r_iret dX10_account_92 (ty := .int) rfl rfl ⟨_, _, rfl, rfl, 0, QFx.fs2 hf, Or.inr ⟨by assumption, rfl, _, hbest, Or.inr (Or.inr (Or.inr (Or.inr (Or.inr (Or.inr (Or.inr ⟨by unfold QIn at *; omega, rfl⟩))))))⟩⟩
      · refine r_tabIn (tgt := 84) dX10_account_33 1 hs (by decide) (by decide) rfl (by decide) ?_
        refine r_al0 dX10_account_84 ?_
        refine m_get dX10_account_85 f_X10_7 hA rfl ?_
        refine r_iconst dX10_account_88 ?_
        refine r_il1 dX10_account_89 ?_
        refine r_iadd dX10_account_90 ?_
        refine m_ald dX10_account_91 hA (by decide) rfl (by first | omega | (simp only [mlen]; omega)) (by first | omega | (simp only [mlen]; omega)) ?_
        try simp only [updm_app, cpy_app, Int.reduceEq, Nat.reduceEqDiff, and_true, true_and, false_and, and_false, if_true, if_false, reduceIte]
        first
          | exact r_iret dX10_account_92 (ty := .int) rfl rfl ⟨_, _, rfl, rfl, 0, QFx.fs2 hf, Or.inr ⟨by assumption, rfl, _, hbest, Or.inl ⟨by omega, by omega, by rw [e0]⟩⟩⟩
          | exact r_iret dX10_account_92 (ty := .int) rfl rfl ⟨_, _, rfl, rfl, 0, QFx.fs2 hf, Or.inr ⟨by assumption, rfl, _, hbest, Or.inr (Or.inl ⟨by omega, rfl⟩)⟩⟩
          | exact r_iret dX10_account_92 (ty := .int) rfl rfl ⟨_, _, rfl, rfl, 0, QFx.fs2 hf, Or.inr ⟨by assumption, rfl, _, hbest, Or.inr (Or.inr (Or.inl ⟨by omega, rfl⟩))⟩⟩
          | exact r_iret dX10_account_92 (ty := .int) rfl rfl ⟨_, _, rfl, rfl, 0, QFx.fs2 hf, Or.inr ⟨by assumption, rfl, _, hbest, Or.inr (Or.inr (Or.inr (Or.inl ⟨by omega, by omega⟩)))⟩⟩
          | exact r_iret dX10_account_92 (ty := .int) rfl rfl ⟨_, _, rfl, rfl, 0, QFx.fs2 hf, Or.inr ⟨by assumption, rfl, _, hbest, Or.inr (Or.inr (Or.inr (Or.inr (Or.inl ⟨by omega, by omega⟩))))⟩⟩
          | exact r_iret dX10_account_92 (ty := .int) rfl rfl ⟨_, _, rfl, rfl, 0, QFx.fs2 hf, Or.inr ⟨by assumption, rfl, _, hbest, Or.inr (Or.inr (Or.inr (Or.inr (Or.inr (Or.inl ⟨by omega, by omega⟩)))))⟩⟩
          | exact r_iret dX10_account_92 (ty := .int) rfl rfl ⟨_, _, rfl, rfl, 0, QFx.fs2 hf, Or.inr ⟨by assumption, rfl, _, hbest, Or.inr (Or.inr (Or.inr (Or.inr (Or.inr (Or.inr (Or.inl ⟨by omega, rfl⟩))))))⟩⟩
          | exact r_iret dX10_account_92 (ty := .int) rfl rfl ⟨_, _, rfl, rfl, 0, QFx.fs2 hf, Or.inr ⟨by assumption, rfl, _, hbest, Or.inr (Or.inr (Or.inr (Or.inr (Or.inr (Or.inr (Or.inr ⟨by unfold QIn at *; omega, rfl⟩))))))⟩⟩
      · refine r_tabIn (tgt := 84) dX10_account_33 2 hs (by decide) (by decide) rfl (by decide) ?_
        refine r_al0 dX10_account_84 ?_
        refine m_get dX10_account_85 f_X10_7 hA rfl ?_
        refine r_iconst dX10_account_88 ?_
        refine r_il1 dX10_account_89 ?_
        refine r_iadd dX10_account_90 ?_
        refine m_ald dX10_account_91 hA (by decide) rfl (by first | omega | (simp only [mlen]; omega)) (by first | omega | (simp only [mlen]; omega)) ?_
        try simp only [updm_app, cpy_app, Int.reduceEq, Nat.reduceEqDiff, and_true, true_and, false_and, and_false, if_true, if_false, reduceIte]
        first
          | exact r_iret dX10_account_92 (ty := .int) rfl rfl ⟨_, _, rfl, rfl, 0, QFx.fs2 hf, Or.inr ⟨by assumption, rfl, _, hbest, Or.inl ⟨by omega, by omega, by rw [e0]⟩⟩⟩
          | exact r_iret dX10_account_92 (ty := .int) rfl rfl ⟨_, _, rfl, rfl, 0, QFx.fs2 hf, Or.inr ⟨by assumption, rfl, _, hbest, Or.inr (Or.inl ⟨by omega, rfl⟩)⟩⟩
          | exact r_iret dX10_account_92 (ty := .int) rfl rfl ⟨_, _, rfl, rfl, 0, QFx.fs2 hf, Or.inr ⟨by assumption, rfl, _, hbest, Or.inr (Or.inr (Or.inl ⟨by omega, rfl⟩))⟩⟩
          | exact r_iret dX10_account_92 (ty := .int) rfl rfl ⟨_, _, rfl, rfl, 0, QFx.fs2 hf, Or.inr ⟨by assumption, rfl, _, hbest, Or.inr (Or.inr (Or.inr (Or.inl ⟨by omega, by omega⟩)))⟩⟩
          | exact r_iret dX10_account_92 (ty := .int) rfl rfl ⟨_, _, rfl, rfl, 0, QFx.fs2 hf, Or.inr ⟨by assumption, rfl, _, hbest, Or.inr (Or.inr (Or.inr (Or.inr (Or.inl ⟨by omega, by omega⟩))))⟩⟩
          | exact r_iret dX10_account_92 (ty := .int) rfl rfl ⟨_, _, rfl, rfl, 0, QFx.fs2 hf, Or.inr ⟨by assumption, rfl, _, hbest, Or.inr (Or.inr (Or.inr (Or.inr (Or.inr (Or.inl ⟨by omega, by omega⟩)))))⟩⟩
          | exact r_iret dX10_account_92 (ty := .int) rfl rfl ⟨_, _, rfl, rfl, 0, QFx.fs2 hf, Or.inr ⟨by assumption, rfl, _, hbest, Or.inr (Or.inr (Or.inr (Or.inr (Or.inr (Or.inr (Or.inl ⟨by omega, rfl⟩))))))⟩⟩
          | exact r_iret dX10_account_92 (ty := .int) rfl rfl ⟨_, _, rfl, rfl, 0, QFx.fs2 hf, Or.inr ⟨by assumption, rfl, _, hbest, Or.inr (Or.inr (Or.inr (Or.inr (Or.inr (Or.inr (Or.inr ⟨by unfold QIn at *; omega, rfl⟩))))))⟩⟩
      · refine r_tabIn (tgt := 93) dX10_account_33 3 hs (by decide) (by decide) rfl (by decide) ?_
        refine r_al0 dX10_account_93 ?_
        refine m_callP0 dX10_account_94 v_X10_246 hA (c_allLeaves κ _ hA hR1 (by rw [e0]; exact hW)) (by decide) rfl ?_
        try rw [e0]
        first
          | exact r_iret dX10_account_97 (ty := .int) rfl rfl ⟨_, _, rfl, rfl, 0, QFx.fs2 hf, Or.inr ⟨by assumption, rfl, _, hbest, Or.inl ⟨by omega, by omega, by rw [e0]⟩⟩⟩
          | exact r_iret dX10_account_97 (ty := .int) rfl rfl ⟨_, _, rfl, rfl, 0, QFx.fs2 hf, Or.inr ⟨by assumption, rfl, _, hbest, Or.inr (Or.inl ⟨by omega, rfl⟩)⟩⟩
          | exact r_iret dX10_account_97 (ty := .int) rfl rfl ⟨_, _, rfl, rfl, 0, QFx.fs2 hf, Or.inr ⟨by assumption, rfl, _, hbest, Or.inr (Or.inr (Or.inl ⟨by omega, rfl⟩))⟩⟩
          | exact r_iret dX10_account_97 (ty := .int) rfl rfl ⟨_, _, rfl, rfl, 0, QFx.fs2 hf, Or.inr ⟨by assumption, rfl, _, hbest, Or.inr (Or.inr (Or.inr (Or.inl ⟨by omega, by omega⟩)))⟩⟩
          | exact r_iret dX10_account_97 (ty := .int) rfl rfl ⟨_, _, rfl, rfl, 0, QFx.fs2 hf, Or.inr ⟨by assumption, rfl, _, hbest, Or.inr (Or.inr (Or.inr (Or.inr (Or.inl ⟨by omega, by omega⟩))))⟩⟩
          | exact r_iret dX10_account_97 (ty := .int) rfl rfl ⟨_, _, rfl, rfl, 0, QFx.fs2 hf, Or.inr ⟨by assumption, rfl, _, hbest, Or.inr (Or.inr (Or.inr (Or.inr (Or.inr (Or.inl ⟨by omega, by omega⟩)))))⟩⟩
          | exact r_iret dX10_account_97 (ty := .int) rfl rfl ⟨_, _, rfl, rfl, 0, QFx.fs2 hf, Or.inr ⟨by assumption, rfl, _, hbest, Or.inr (Or.inr (Or.inr (Or.inr (Or.inr (Or.inr (Or.inl ⟨by omega, rfl⟩))))))⟩⟩
          | exact r_iret dX10_account_97 (ty := .int) rfl rfl ⟨_, _, rfl, rfl, 0, QFx.fs2 hf, Or.inr ⟨by assumption, rfl, _, hbest, Or.inr (Or.inr (Or.inr (Or.inr (Or.inr (Or.inr (Or.inr ⟨by unfold QIn at *; omega, rfl⟩))))))⟩⟩
      · refine r_tabIn (tgt := 98) dX10_account_33 4 hs (by decide) (by decide) rfl (by decide) ?_
        refine r_al0 dX10_account_98 ?_
        refine m_callP0 dX10_account_99 v_X10_230 hA (c_allRoots κ _ hA hR1 (by rw [e0]; exact hW)) (by decide) rfl ?_
        try rw [e0]
        first
          | exact r_iret dX10_account_102 (ty := .int) rfl rfl ⟨_, _, rfl, rfl, 0, QFx.fs2 hf, Or.inr ⟨by assumption, rfl, _, hbest, Or.inl ⟨by omega, by omega, by rw [e0]⟩⟩⟩
          | exact r_iret dX10_account_102 (ty := .int) rfl rfl ⟨_, _, rfl, rfl, 0, QFx.fs2 hf, Or.inr ⟨by assumption, rfl, _, hbest, Or.inr (Or.inl ⟨by omega, rfl⟩)⟩⟩
          | exact r_iret dX10_account_102 (ty := .int) rfl rfl ⟨_, _, rfl, rfl, 0, QFx.fs2 hf, Or.inr ⟨by assumption, rfl, _, hbest, Or.inr (Or.inr (Or.inl ⟨by omega, rfl⟩))⟩⟩
          | exact r_iret dX10_account_102 (ty := .int) rfl rfl ⟨_, _, rfl, rfl, 0, QFx.fs2 hf, Or.inr ⟨by assumption, rfl, _, hbest, Or.inr (Or.inr (Or.inr (Or.inl ⟨by omega, by omega⟩)))⟩⟩
          | exact r_iret dX10_account_102 (ty := .int) rfl rfl ⟨_, _, rfl, rfl, 0, QFx.fs2 hf, Or.inr ⟨by assumption, rfl, _, hbest, Or.inr (Or.inr (Or.inr (Or.inr (Or.inl ⟨by omega, by omega⟩))))⟩⟩
          | exact r_iret dX10_account_102 (ty := .int) rfl rfl ⟨_, _, rfl, rfl, 0, QFx.fs2 hf, Or.inr ⟨by assumption, rfl, _, hbest, Or.inr (Or.inr (Or.inr (Or.inr (Or.inr (Or.inl ⟨by omega, by omega⟩)))))⟩⟩
          | exact r_iret dX10_account_102 (ty := .int) rfl rfl ⟨_, _, rfl, rfl, 0, QFx.fs2 hf, Or.inr ⟨by assumption, rfl, _, hbest, Or.inr (Or.inr (Or.inr (Or.inr (Or.inr (Or.inr (Or.inl ⟨by omega, rfl⟩))))))⟩⟩
          | exact r_iret dX10_account_102 (ty := .int) rfl rfl ⟨_, _, rfl, rfl, 0, QFx.fs2 hf, Or.inr ⟨by assumption, rfl, _, hbest, Or.inr (Or.inr (Or.inr (Or.inr (Or.inr (Or.inr (Or.inr ⟨by unfold QIn at *; omega, rfl⟩))))))⟩⟩
      · refine r_tabIn (tgt := 103) dX10_account_33 5 hs (by decide) (by decide) rfl (by decide) ?_
        refine r_al0 dX10_account_103 ?_
        refine m_get dX10_account_104 f_X10_100 hA rfl ?_
        try simp only [updm_app, cpy_app, Int.reduceEq, Nat.reduceEqDiff, and_true, true_and, false_and, and_false, if_true, if_false, reduceIte]
        first
          | exact r_iret dX10_account_107 (ty := .int) rfl rfl ⟨_, _, rfl, rfl, 0, QFx.fs2 hf, Or.inr ⟨by assumption, rfl, _, hbest, Or.inl ⟨by omega, by omega, by rw [e0]⟩⟩⟩
          | exact r_iret dX10_account_107 (ty := .int) rfl rfl ⟨_, _, rfl, rfl, 0, QFx.fs2 hf, Or.inr ⟨by assumption, rfl, _, hbest, Or.inr (Or.inl ⟨by omega, rfl⟩)⟩⟩
          | exact r_iret dX10_account_107 (ty := .int) rfl rfl ⟨_, _, rfl, rfl, 0, QFx.fs2 hf, Or.inr ⟨by assumption, rfl, _, hbest, Or.inr (Or.inr (Or.inl ⟨by omega, rfl⟩))⟩⟩
          | exact r_iret dX10_account_107 (ty := .int) rfl rfl ⟨_, _, rfl, rfl, 0, QFx.fs2 hf, Or.inr ⟨by assumption, rfl, _, hbest, Or.inr (Or.inr (Or.inr (Or.inl ⟨by omega, by omega⟩)))⟩⟩
          | exact r_iret dX10_account_107 (ty := .int) rfl rfl ⟨_, _, rfl, rfl, 0, QFx.fs2 hf, Or.inr ⟨by assumption, rfl, _, hbest, Or.inr (Or.inr (Or.inr (Or.inr (Or.inl ⟨by omega, by omega⟩))))⟩⟩
          | exact r_iret dX10_account_107 (ty := .int) rfl rfl ⟨_, _, rfl, rfl, 0, QFx.fs2 hf, Or.inr ⟨by assumption, rfl, _, hbest, Or.inr (Or.inr (Or.inr (Or.inr (Or.inr (Or.inl ⟨by omega, by omega⟩)))))⟩⟩
          | exact r_iret dX10_account_107 (ty := .int) rfl rfl ⟨_, _, rfl, rfl, 0, QFx.fs2 hf, Or.inr ⟨by assumption, rfl, _, hbest, Or.inr (Or.inr (Or.inr (Or.inr (Or.inr (Or.inr (Or.inl ⟨by omega, rfl⟩))))))⟩⟩
          | exact r_iret dX10_account_107 (ty := .int) rfl rfl ⟨_, _, rfl, rfl, 0, QFx.fs2 hf, Or.inr ⟨by assumption, rfl, _, hbest, Or.inr (Or.inr (Or.inr (Or.inr (Or.inr (Or.inr (Or.inr ⟨by unfold QIn at *; omega, rfl⟩))))))⟩⟩
      · refine r_tabIn (tgt := 108) dX10_account_33 6 hs (by decide) (by decide) rfl (by decide) ?_
        refine r_al0 dX10_account_108 ?_
        refine m_get dX10_account_109 f_X10_103 hA rfl ?_
        try simp only [updm_app, cpy_app, Int.reduceEq, Nat.reduceEqDiff, and_true, true_and, false_and, and_false, if_true, if_false, reduceIte]
        first
          | exact r_iret dX10_account_112 (ty := .int) rfl rfl ⟨_, _, rfl, rfl, 0, QFx.fs2 hf, Or.inr ⟨by assumption, rfl, _, hbest, Or.inl ⟨by omega, by omega, by rw [e0]⟩⟩⟩
          | exact r_iret dX10_account_112 (ty := .int) rfl rfl ⟨_, _, rfl, rfl, 0, QFx.fs2 hf, Or.inr ⟨by assumption, rfl, _, hbest, Or.inr (Or.inl ⟨by omega, rfl⟩)⟩⟩
          | exact r_iret dX10_account_112 (ty := .int) rfl rfl ⟨_, _, rfl, rfl, 0, QFx.fs2 hf, Or.inr ⟨by assumption, rfl, _, hbest, Or.inr (Or.inr (Or.inl ⟨by omega, rfl⟩))⟩⟩
          | exact r_iret dX10_account_112 (ty := .int) rfl rfl ⟨_, _, rfl, rfl, 0, QFx.fs2 hf, Or.inr ⟨by assumption, rfl, _, hbest, Or.inr (Or.inr (Or.inr (Or.inl ⟨by omega, by omega⟩)))⟩⟩
          | exact r_iret dX10_account_112 (ty := .int) rfl rfl ⟨_, _, rfl, rfl, 0, QFx.fs2 hf, Or.inr ⟨by assumption, rfl, _, hbest, Or.inr (Or.inr (Or.inr (Or.inr (Or.inl ⟨by omega, by omega⟩))))⟩⟩
          | exact r_iret dX10_account_112 (ty := .int) rfl rfl ⟨_, _, rfl, rfl, 0, QFx.fs2 hf, Or.inr ⟨by assumption, rfl, _, hbest, Or.inr (Or.inr (Or.inr (Or.inr (Or.inr (Or.inl ⟨by omega, by omega⟩)))))⟩⟩
          | exact r_iret dX10_account_112 (ty := .int) rfl rfl ⟨_, _, rfl, rfl, 0, QFx.fs2 hf, Or.inr ⟨by assumption, rfl, _, hbest, Or.inr (Or.inr (Or.inr (Or.inr (Or.inr (Or.inr (Or.inl ⟨by omega, rfl⟩))))))⟩⟩
          | exact r_iret dX10_account_112 (ty := .int) rfl rfl ⟨_, _, rfl, rfl, 0, QFx.fs2 hf, Or.inr ⟨by assumption, rfl, _, hbest, Or.inr (Or.inr (Or.inr (Or.inr (Or.inr (Or.inr (Or.inr ⟨by unfold QIn at *; omega, rfl⟩))))))⟩⟩
      · refine r_tabIn (tgt := 113) dX10_account_33 7 hs (by decide) (by decide) rfl (by decide) ?_
        refine r_al0 dX10_account_113 ?_
        refine m_get dX10_account_114 f_X10_97 hA rfl ?_
        try simp only [updm_app, cpy_app, Int.reduceEq, Nat.reduceEqDiff, and_true, true_and, false_and, and_false, if_true, if_false, reduceIte]
        first
          | exact r_iret dX10_account_117 (ty := .int) rfl rfl ⟨_, _, rfl, rfl, 0, QFx.fs2 hf, Or.inr ⟨by assumption, rfl, _, hbest, Or.inl ⟨by omega, by omega, by rw [e0]⟩⟩⟩
          | exact r_iret dX10_account_117 (ty := .int) rfl rfl ⟨_, _, rfl, rfl, 0, QFx.fs2 hf, Or.inr ⟨by assumption, rfl, _, hbest, Or.inr (Or.inl ⟨by omega, rfl⟩)⟩⟩
          | exact r_iret dX10_account_117 (ty := .int) rfl rfl ⟨_, _, rfl, rfl, 0, QFx.fs2 hf, Or.inr ⟨by assumption, rfl, _, hbest, Or.inr (Or.inr (Or.inl ⟨by omega, rfl⟩))⟩⟩
          | exact r_iret dX10_account_117 (ty := .int) rfl rfl ⟨_, _, rfl, rfl, 0, QFx.fs2 hf, Or.inr ⟨by assumption, rfl, _, hbest, Or.inr (Or.inr (Or.inr (Or.inl ⟨by omega, by omega⟩)))⟩⟩
          | exact r_iret dX10_account_117 (ty := .int) rfl rfl ⟨_, _, rfl, rfl, 0, QFx.fs2 hf, Or.inr ⟨by assumption, rfl, _, hbest, Or.inr (Or.inr (Or.inr (Or.inr (Or.inl ⟨by omega, by omega⟩))))⟩⟩
          | exact r_iret dX10_account_117 (ty := .int) rfl rfl ⟨_, _, rfl, rfl, 0, QFx.fs2 hf, Or.inr ⟨by assumption, rfl, _, hbest, Or.inr (Or.inr (Or.inr (Or.inr (Or.inr (Or.inl ⟨by omega, by omega⟩)))))⟩⟩
          | exact r_iret dX10_account_117 (ty := .int) rfl rfl ⟨_, _, rfl, rfl, 0, QFx.fs2 hf, Or.inr ⟨by assumption, rfl, _, hbest, Or.inr (Or.inr (Or.inr (Or.inr (Or.inr (Or.inr (Or.inl ⟨by omega, rfl⟩))))))⟩⟩
          | exact r_iret dX10_account_117 (ty := .int) rfl rfl ⟨_, _, rfl, rfl, 0, QFx.fs2 hf, Or.inr ⟨by assumption, rfl, _, hbest, Or.inr (Or.inr (Or.inr (Or.inr (Or.inr (Or.inr (Or.inr ⟨by unfold QIn at *; omega, rfl⟩))))))⟩⟩
      · refine r_tabIn (tgt := 118) dX10_account_33 8 hs (by decide) (by decide) rfl (by decide) ?_
        refine r_al0 dX10_account_118 ?_
        refine m_callP0 dX10_account_119 v_X10_249 hA (c_allPoints κ _ hA hR1 (by rw [e0]; exact hW)) (by decide) rfl ?_
        try rw [e0]
        first
          | exact r_iret dX10_account_122 (ty := .int) rfl rfl ⟨_, _, rfl, rfl, 0, QFx.fs2 hf, Or.inr ⟨by assumption, rfl, _, hbest, Or.inl ⟨by omega, by omega, by rw [e0]⟩⟩⟩
          | exact r_iret dX10_account_122 (ty := .int) rfl rfl ⟨_, _, rfl, rfl, 0, QFx.fs2 hf, Or.inr ⟨by assumption, rfl, _, hbest, Or.inr (Or.inl ⟨by omega, rfl⟩)⟩⟩
          | exact r_iret dX10_account_122 (ty := .int) rfl rfl ⟨_, _, rfl, rfl, 0, QFx.fs2 hf, Or.inr ⟨by assumption, rfl, _, hbest, Or.inr (Or.inr (Or.inl ⟨by omega, rfl⟩))⟩⟩
          | exact r_iret dX10_account_122 (ty := .int) rfl rfl ⟨_, _, rfl, rfl, 0, QFx.fs2 hf, Or.inr ⟨by assumption, rfl, _, hbest, Or.inr (Or.inr (Or.inr (Or.inl ⟨by omega, by omega⟩)))⟩⟩
          | exact r_iret dX10_account_122 (ty := .int) rfl rfl ⟨_, _, rfl, rfl, 0, QFx.fs2 hf, Or.inr ⟨by assumption, rfl, _, hbest, Or.inr (Or.inr (Or.inr (Or.inr (Or.inl ⟨by omega, by omega⟩))))⟩⟩
          | exact r_iret dX10_account_122 (ty := .int) rfl rfl ⟨_, _, rfl, rfl, 0, QFx.fs2 hf, Or.inr ⟨by assumption, rfl, _, hbest, Or.inr (Or.inr (Or.inr (Or.inr (Or.inr (Or.inl ⟨by omega, by omega⟩)))))⟩⟩
          | exact r_iret dX10_account_122 (ty := .int) rfl rfl ⟨_, _, rfl, rfl, 0, QFx.fs2 hf, Or.inr ⟨by assumption, rfl, _, hbest, Or.inr (Or.inr (Or.inr (Or.inr (Or.inr (Or.inr (Or.inl ⟨by omega, rfl⟩))))))⟩⟩
          | exact r_iret dX10_account_122 (ty := .int) rfl rfl ⟨_, _, rfl, rfl, 0, QFx.fs2 hf, Or.inr ⟨by assumption, rfl, _, hbest, Or.inr (Or.inr (Or.inr (Or.inr (Or.inr (Or.inr (Or.inr ⟨by unfold QIn at *; omega, rfl⟩))))))⟩⟩
    · exact absurd c_23 (by decide)
