noncomputable def qallr (g : Int → Int) : Int := sz (fun k => bP (g (60 + 12 * k + 1) < 0)) (g 3)
set_option maxRecDepth 100000 in
set_option maxHeartbeats 4000000 in
theorem l_allRoots (κ : KP) {A : Nat → Nat} {M : MEM} (h : AH) (hA : MA A) (hR : RG M) (hW : WF (M 0)) : ∀ (f : Nat) (k : Int), M 0 3 - k < (f : Int) → (0 ≤ k) → (k ≤ M 0 3) → WW κ mX10_allRoots 2 0 0 (fun w h' => w = some (.int (J (qallr (M 0)))) ∧ h' = mset A M h) NoX 4 [some (.ref (A 30)), some (.int (J (sz (fun k => bP (M 0 (60 + 12 * k + 1) < 0)) k))), some (.int (J k))] [] (mset A M h) := by
  intro f
  induction f with
  | zero =>
    intro k hf k0 k1
    exact absurd hf (by omega)
  | succ f ih =>
    intro k hf k0 k1
    have hn := hW.n
    refine r_il2 dX10_allRoots_4 ?_
    refine r_al0 dX10_allRoots_5 ?_
    refine m_get dX10_allRoots_6 f_X10_7 hA rfl ?_
    refine r_iconst dX10_allRoots_9 ?_
    refine m_ald dX10_allRoots_10 hA (by decide) rfl (by first | omega | (simp only [mlen]; omega)) (by first | omega | (simp only [mlen]; omega)) ?_
    refine r_icmp_ge (tgt := 41) dX10_allRoots_11 (by decide) (by first | omega | exact hR _ _) (by first | omega | exact hR _ _) (fun c_11 => ?_) (fun c_11 => ?_)
    · refine r_il1 dX10_allRoots_41 ?_
      refine r_iret dX10_allRoots_42 (ty := .int) rfl rfl ⟨?_, rfl⟩
      rw [show k = M 0 3 by omega]
      rfl
    · refine r_il1 dX10_allRoots_14 ?_
      refine r_al0 dX10_allRoots_15 ?_
      refine m_get dX10_allRoots_16 f_X10_7 hA rfl ?_
      refine r_il2 dX10_allRoots_19 ?_
      refine r_iconst dX10_allRoots_20 ?_
      refine r_callSP2 dX10_allRoots_21 s_X10_65 (c_blockAt κ _) (by decide) rfl ?_
      refine m_ald dX10_allRoots_24 hA (by decide) rfl (by first | omega | (simp only [mlen]; omega)) (by first | omega | (simp only [mlen]; omega)) ?_
      refine r_if_ge (tgt := 32) dX10_allRoots_25 (by decide) (by first | omega | exact hR _ _) (fun c_25 => ?_) (fun c_25 => ?_)
      · refine r_iconst dX10_allRoots_32 ?_
        refine r_iadd dX10_allRoots_33 ?_
        refine r_is1 dX10_allRoots_34 rfl ?_
        refine r_inc2 dX10_allRoots_35 rfl ?_
        refine r_goto (tgt := 4) dX10_allRoots_38 (by decide) ?_
        have e := ih (k + 1) (by omega) (by omega) (by omega)
        rw [sz_1 k0] at e
        first | (rw [bP_t (by assumption)] at e; exact e) | (rw [bP_f (by omega)] at e; exact e)
      · refine r_iconst dX10_allRoots_28 ?_
        refine r_goto (tgt := 33) dX10_allRoots_29 (by decide) ?_
        refine r_iadd dX10_allRoots_33 ?_
        refine r_is1 dX10_allRoots_34 rfl ?_
        refine r_inc2 dX10_allRoots_35 rfl ?_
        refine r_goto (tgt := 4) dX10_allRoots_38 (by decide) ?_
        have e := ih (k + 1) (by omega) (by omega) (by omega)
        rw [sz_1 k0] at e
        first | (rw [bP_t (by assumption)] at e; exact e) | (rw [bP_f (by omega)] at e; exact e)
set_option maxRecDepth 100000 in
set_option maxHeartbeats 4000000 in
theorem c_allRoots (κ : KP) {A : Nat → Nat} {M : MEM} (h : AH) (hA : MA A) (hR : RG M) (hW : WF (M 0)) : PM κ mX10_allRoots 2 [.ref (A 30)] (mset A M h) (.int (J (qallr (M 0)))) := by
  refine mm_of (L := [some _, none, none]) (by decide +kernel) rfl rfl (Nat.le_of_ble_eq_true rfl) rfl ?_
  refine r_iconst dX10_allRoots_0 ?_
  refine r_is1 dX10_allRoots_1 rfl ?_
  refine r_iconst dX10_allRoots_2 ?_
  refine r_is2 dX10_allRoots_3 rfl ?_
  exact l_allRoots κ h hA hR hW 9 0 (by have := hW.n; omega) (by omega) (by have := hW.n; omega)
def R_isComplete (g : Int → Int) (t r : Int) : Prop := t = 0 ∧ ∃ u, QBest g u ∧ r = bP (0 < qroots g u ∧ qroots g u = qallr g)
theorem qallr_bd {g : Int → Int} (hW : WF g) : 0 ≤ qallr g ∧ qallr g ≤ 8 := by
  have hn := hW.n
  have := sz_01 (f := fun k => bP (g (60 + 12 * k + 1) < 0)) (k := g 3) (by omega) (fun _ => bP_01 _)
  unfold qallr
  omega
set_option maxRecDepth 100000 in
set_option maxHeartbeats 4000000 in
theorem c_isComplete (κ : KP) {A : Nat → Nat} {M : MEM} (hA : MA A) (hR : RG M) (hC : CW (M 0)) (hK : QKn M) : RM κ mX10_isComplete 7 A [.ref (A 30)] M (fun r M' => ∃ t, QFx M t M' ∧ R_isComplete (M 0) t r) := by
  intro h
  refine mm_of (L := [some _]) (by decide +kernel) rfl rfl (Nat.le_of_ble_eq_true rfl) rfl ?_
  have hW := hC.1
  obtain ⟨⟨y0, y1⟩, ⟨n0, n1⟩, ⟨q0, q1⟩, ⟨m0, m1⟩⟩ := hW.n
  refine r_al0 dX10_isComplete_0 ?_
  refine r_iconst dX10_isComplete_1 ?_
  refine m_put dX10_isComplete_2 f_X10_51 p_X10_51 (ff_14_7 _) hA mfp_7 rfl rfl ?_
  refine r_al0 dX10_isComplete_5 ?_
  refine m_callU0 dX10_isComplete_6 v_X10_150 hA (c_finds κ hA (RG.up hR (by decide)) (by rw [updm_k (by decide)]; exact hW) hK.thr) (by decide) rfl (fun M_6 h_6 => ?_)
  have e0 : M_6 0 = M 0 := h_6.e0.trans (updm_k (by decide))
  have hR1 := h_6.1
  have hf := h_6
  obtain ⟨-, -, -, hbest, hw1, hw2, hw3, hw4⟩ := h_6
  rw [updm_k (by decide)] at hbest hw2
  refine r_al0 dX10_isComplete_9 ?_
  refine m_get dX10_isComplete_10 f_X10_100 hA rfl ?_
  try simp only [updm_app, cpy_app, Int.reduceEq, Nat.reduceEqDiff, and_true, true_and, false_and, and_false, if_true, if_false, reduceIte]
  refine r_if_le (tgt := 31) dX10_isComplete_13 (by decide) (by first | omega | exact hR1 _ _ | decide | (simp only [updm_app, Int.reduceEq, Nat.reduceEqDiff, and_true, true_and, false_and, and_false, if_true, if_false, reduceIte]; exact hR1 _ _)) (fun c_13 => ?_) (fun c_13 => ?_)
  · refine r_iconst dX10_isComplete_31 ?_
    first
      | exact r_iret dX10_isComplete_32 (ty := .boolean) rfl (by decide) ⟨_, _, rfl, rfl, 0, QFx.fs2 hf, rfl, _, hbest, (bP_t (by omega)).symm⟩
      | exact r_iret dX10_isComplete_32 (ty := .boolean) rfl (by decide) ⟨_, _, rfl, rfl, 0, QFx.fs2 hf, rfl, _, hbest, (bP_f (by omega)).symm⟩
  · refine r_al0 dX10_isComplete_16 ?_
    refine m_get dX10_isComplete_17 f_X10_100 hA rfl ?_
    try simp only [updm_app, cpy_app, Int.reduceEq, Nat.reduceEqDiff, and_true, true_and, false_and, and_false, if_true, if_false, reduceIte]
    refine r_al0 dX10_isComplete_20 ?_
    refine m_callP0 dX10_isComplete_21 v_X10_230 hA (c_allRoots κ _ hA hR1 (by rw [e0]; exact hW)) (by decide) rfl ?_
    simp only [e0]
    have hbd := qallr_bd hW
    refine r_icmp_ne (tgt := 31) dX10_isComplete_24 (by decide) (by first | omega | exact hR1 _ _ | decide | (simp only [updm_app, Int.reduceEq, Nat.reduceEqDiff, and_true, true_and, false_and, and_false, if_true, if_false, reduceIte]; exact hR1 _ _)) (by first | omega | exact hR1 _ _ | decide | (simp only [updm_app, Int.reduceEq, Nat.reduceEqDiff, and_true, true_and, false_and, and_false, if_true, if_false, reduceIte]; exact hR1 _ _)) (fun c_24 => ?_) (fun c_24 => ?_)
    · refine r_iconst dX10_isComplete_31 ?_
      first
        | exact r_iret dX10_isComplete_32 (ty := .boolean) rfl (by decide) ⟨_, _, rfl, rfl, 0, QFx.fs2 hf, rfl, _, hbest, (bP_t (by omega)).symm⟩
        | exact r_iret dX10_isComplete_32 (ty := .boolean) rfl (by decide) ⟨_, _, rfl, rfl, 0, QFx.fs2 hf, rfl, _, hbest, (bP_f (by omega)).symm⟩
    · refine r_iconst dX10_isComplete_27 ?_
      refine r_goto (tgt := 32) dX10_isComplete_28 (by decide) ?_
      first
        | exact r_iret dX10_isComplete_32 (ty := .boolean) rfl (by decide) ⟨_, _, rfl, rfl, 0, QFx.fs2 hf, rfl, _, hbest, (bP_t (by omega)).symm⟩
        | exact r_iret dX10_isComplete_32 (ty := .boolean) rfl (by decide) ⟨_, _, rfl, rfl, 0, QFx.fs2 hf, rfl, _, hbest, (bP_f (by omega)).symm⟩
def R_accepts (g : Int → Int) (b c t r : Int) : Prop := (¬ (QIn b 0 (g 3 - 1) ∧ QIn c 0 (g 1 - 1)) ∧ t = 1) ∨ ((QIn b 0 (g 3 - 1) ∧ QIn c 0 (g 1 - 1)) ∧ t = 0 ∧ r = bP (QTk g b c))
def R_letter (g : Int → Int) (b i t r : Int) : Prop := (¬ QIn b 0 (g 3 - 1) ∧ t = 1) ∨ (QIn b 0 (g 3 - 1) ∧ ¬ QIn i 0 (g (60 + 12 * b + 5) - 1) ∧ t = 2) ∨ (QIn b 0 (g 3 - 1) ∧ QIn i 0 (g (60 + 12 * b + 5) - 1) ∧ t = 0 ∧ r = g (60 + 12 * b + (6 + i)))
set_option maxRecDepth 100000 in
set_option maxHeartbeats 4000000 in
theorem c_accepts (κ : KP) {A : Nat → Nat} {M : MEM} (hA : MA A) (hR : RG M) (hC : CW (M 0)) (hK : QKn M) {b c : Int} (rb : rng b) (rc : rng c) : RM κ mX10_accepts 4 A [.ref (A 30), .int (J b), .int (J c)] M (fun r M' => ∃ t, QFx M t M' ∧ R_accepts (M 0) b c t r) := by
  intro h
  refine mm_of (L := [some _, some _, some _]) (by decide +kernel) rfl rfl (Nat.le_of_ble_eq_true rfl) rfl ?_
  have hW := hC.1
  obtain ⟨⟨y0, y1⟩, ⟨n0, n1⟩, ⟨q0, q1⟩, ⟨m0, m1⟩⟩ := hW.n
  refine r_al0 dX10_accepts_0 ?_
  refine r_al0 dX10_accepts_1 ?_
  refine r_il1 dX10_accepts_2 ?_
  refine m_callP1 dX10_accepts_3 v_X10_153 hA (c_isBlock κ _ hA hR (by omega) (by omega) (by omega)) (by decide) rfl ?_
  refine r_ifT_eq (tgt := 21) dX10_accepts_6 (by decide) (fun c_6 => ?_) (fun c_6 => ?_)
  · refine r_iconst dX10_accepts_21 ?_
    refine m_put dX10_accepts_22 f_X10_51 p_X10_51 (ff_14_7 _) hA mfp_7 rfl rfl ?_
    refine r_al0 dX10_accepts_25 ?_
    refine m_get dX10_accepts_26 f_X10_51 hA rfl ?_
    try simp only [updm_app, cpy_app, Int.reduceEq, Nat.reduceEqDiff, and_true, true_and, false_and, and_false, if_true, if_false, reduceIte]
    refine r_if_ne (tgt := 45) dX10_accepts_29 (by decide) (by first | omega | decide | exact hR _ _) (fun c_29 => ?_) (fun c_29 => ?_)
    · refine r_iconst dX10_accepts_45 ?_
      first
        | exact r_iret dX10_accepts_46 (ty := .boolean) rfl (by decide) ⟨_, _, rfl, rfl, 0, QFx.thr hR hK (by decide), Or.inr ⟨⟨by assumption, by assumption⟩, rfl, (bP_t (by assumption)).symm⟩⟩
        | exact r_iret dX10_accepts_46 (ty := .boolean) rfl (by decide) ⟨_, _, rfl, rfl, 0, QFx.thr hR hK (by decide), Or.inr ⟨⟨by assumption, by assumption⟩, rfl, (bP_f (by assumption)).symm⟩⟩
        | exact r_iret dX10_accepts_46 (ty := .boolean) rfl (by decide) ⟨_, _, rfl, rfl, 1, QFx.thr hR hK (by decide), Or.inl ⟨(fun z => by first | exact absurd z.1 (by assumption) | exact absurd z.2 (by assumption)), rfl⟩⟩
    · exact absurd c_29 (by decide)
  · refine r_al0 dX10_accepts_9 ?_
    refine r_il2 dX10_accepts_10 ?_
    refine m_callP1 dX10_accepts_11 v_X10_143 hA (c_isCredit κ _ hA hR (by omega) (by omega) (by omega)) (by decide) rfl ?_
    refine r_ifT_eq (tgt := 21) dX10_accepts_14 (by decide) (fun c_14 => ?_) (fun c_14 => ?_)
    · refine r_iconst dX10_accepts_21 ?_
      refine m_put dX10_accepts_22 f_X10_51 p_X10_51 (ff_14_7 _) hA mfp_7 rfl rfl ?_
      refine r_al0 dX10_accepts_25 ?_
      refine m_get dX10_accepts_26 f_X10_51 hA rfl ?_
      try simp only [updm_app, cpy_app, Int.reduceEq, Nat.reduceEqDiff, and_true, true_and, false_and, and_false, if_true, if_false, reduceIte]
      refine r_if_ne (tgt := 45) dX10_accepts_29 (by decide) (by first | omega | decide | exact hR _ _) (fun c_29 => ?_) (fun c_29 => ?_)
      · refine r_iconst dX10_accepts_45 ?_
        first
          | exact r_iret dX10_accepts_46 (ty := .boolean) rfl (by decide) ⟨_, _, rfl, rfl, 0, QFx.thr hR hK (by decide), Or.inr ⟨⟨by assumption, by assumption⟩, rfl, (bP_t (by assumption)).symm⟩⟩
          | exact r_iret dX10_accepts_46 (ty := .boolean) rfl (by decide) ⟨_, _, rfl, rfl, 0, QFx.thr hR hK (by decide), Or.inr ⟨⟨by assumption, by assumption⟩, rfl, (bP_f (by assumption)).symm⟩⟩
          | exact r_iret dX10_accepts_46 (ty := .boolean) rfl (by decide) ⟨_, _, rfl, rfl, 1, QFx.thr hR hK (by decide), Or.inl ⟨(fun z => by first | exact absurd z.1 (by assumption) | exact absurd z.2 (by assumption)), rfl⟩⟩
      · exact absurd c_29 (by decide)
    · refine r_iconst dX10_accepts_17 ?_
      refine r_goto (tgt := 22) dX10_accepts_18 (by decide) ?_
      refine m_put dX10_accepts_22 f_X10_51 p_X10_51 (ff_14_7 _) hA mfp_7 rfl rfl ?_
      refine r_al0 dX10_accepts_25 ?_
      refine m_get dX10_accepts_26 f_X10_51 hA rfl ?_
      try simp only [updm_app, cpy_app, Int.reduceEq, Nat.reduceEqDiff, and_true, true_and, false_and, and_false, if_true, if_false, reduceIte]
      refine r_if_ne (tgt := 45) dX10_accepts_29 (by decide) (by first | omega | decide | exact hR _ _) (fun c_29 => ?_) (fun c_29 => ?_)
      · exact absurd c_29 (by decide)
      · refine r_al0 dX10_accepts_32 ?_
        refine r_il1 dX10_accepts_33 ?_
        refine r_il2 dX10_accepts_34 ?_
        refine m_callP2 dX10_accepts_35 v_X10_106 hA (c_takes κ _ hA (RG.up hR (by decide)) (by rw [updm_k (by decide)]; exact hW) (by unfold QIn at *; omega) (by rw [updm_k (by decide)]; unfold QIn at *; omega) (by unfold QIn at *; omega) (by rw [updm_k (by decide)]; unfold QIn at *; omega)) (by decide) rfl ?_
        rw [updm_k (by decide)]
        refine r_ifT_eq (tgt := 45) dX10_accepts_38 (by decide) (fun c_38 => ?_) (fun c_38 => ?_)
        · refine r_iconst dX10_accepts_45 ?_
          first
            | exact r_iret dX10_accepts_46 (ty := .boolean) rfl (by decide) ⟨_, _, rfl, rfl, 0, QFx.thr hR hK (by decide), Or.inr ⟨⟨by assumption, by assumption⟩, rfl, (bP_t (by assumption)).symm⟩⟩
            | exact r_iret dX10_accepts_46 (ty := .boolean) rfl (by decide) ⟨_, _, rfl, rfl, 0, QFx.thr hR hK (by decide), Or.inr ⟨⟨by assumption, by assumption⟩, rfl, (bP_f (by assumption)).symm⟩⟩
            | exact r_iret dX10_accepts_46 (ty := .boolean) rfl (by decide) ⟨_, _, rfl, rfl, 1, QFx.thr hR hK (by decide), Or.inl ⟨(fun z => by first | exact absurd z.1 (by assumption) | exact absurd z.2 (by assumption)), rfl⟩⟩
        · refine r_iconst dX10_accepts_41 ?_
          refine r_goto (tgt := 46) dX10_accepts_42 (by decide) ?_
          first
            | exact r_iret dX10_accepts_46 (ty := .boolean) rfl (by decide) ⟨_, _, rfl, rfl, 0, QFx.thr hR hK (by decide), Or.inr ⟨⟨by assumption, by assumption⟩, rfl, (bP_t (by assumption)).symm⟩⟩
            | exact r_iret dX10_accepts_46 (ty := .boolean) rfl (by decide) ⟨_, _, rfl, rfl, 0, QFx.thr hR hK (by decide), Or.inr ⟨⟨by assumption, by assumption⟩, rfl, (bP_f (by assumption)).symm⟩⟩
            | exact r_iret dX10_accepts_46 (ty := .boolean) rfl (by decide) ⟨_, _, rfl, rfl, 1, QFx.thr hR hK (by decide), Or.inl ⟨(fun z => by first | exact absurd z.1 (by assumption) | exact absurd z.2 (by assumption)), rfl⟩⟩
theorem let_char {g : Int → Int} (hW : WF g) {b i : Int} (hb : QIn b 0 (g 3 - 1)) (hi : QIn i 0 (g (60 + 12 * b + 5) - 1)) : 0 ≤ g (60 + 12 * b + (6 + i)) ∧ g (60 + 12 * b + (6 + i)) < 65536 := by
  unfold QIn at hb hi
  have := (hW.b hb.1 (by omega)).2.2.2.2.2.2.2.2.2.2.2 i hi.1 (by omega)
  unfold QLow at this
  omega
set_option maxRecDepth 100000 in
set_option maxHeartbeats 4000000 in
theorem c_letter (κ : KP) {A : Nat → Nat} {M : MEM} (hA : MA A) (hR : RG M) (hC : CW (M 0)) (hK : QKn M) {b i : Int} (rb : rng b) (ri : rng i) : RM κ mX10_letter 4 A [.ref (A 30), .int (J b), .int (J i)] M (fun r M' => ∃ t, QFx M t M' ∧ R_letter (M 0) b i t r) := by
  intro h
  refine mm_of (L := [some _, some _, some _]) (by decide +kernel) rfl rfl (Nat.le_of_ble_eq_true rfl) rfl ?_
  have hW := hC.1
  obtain ⟨⟨y0, y1⟩, ⟨n0, n1⟩, ⟨q0, q1⟩, ⟨m0, m1⟩⟩ := hW.n
  refine r_al0 dX10_letter_0 ?_
  refine r_al0 dX10_letter_1 ?_
  refine r_il1 dX10_letter_2 ?_
  refine m_callP1 dX10_letter_3 v_X10_153 hA (c_isBlock κ _ hA hR (by omega) (by omega) (by omega)) (by decide) rfl ?_
  refine r_ifT_eq (tgt := 37) dX10_letter_6 (by decide) (fun c_6 => ?_) (fun c_6 => ?_)
  · refine r_iconst dX10_letter_37 ?_
    refine m_put dX10_letter_38 f_X10_51 p_X10_51 (ff_14_7 _) hA mfp_7 rfl rfl ?_
    refine r_al0 dX10_letter_41 ?_
    refine m_get dX10_letter_42 f_X10_51 hA rfl ?_
    try simp only [updm_app, cpy_app, Int.reduceEq, Nat.reduceEqDiff, and_true, true_and, false_and, and_false, if_true, if_false, reduceIte]
    refine r_if_le (tgt := 53) dX10_letter_45 (by decide) (by first | omega | decide | exact hR _ _ | (have hbb := hW.b (b := b) (by unfold QIn at *; omega) (by unfold QIn at *; omega); unfold WFb at hbb; omega)) (fun c_45 => ?_) (fun c_45 => ?_)
    · exact absurd c_45 (by decide)
    · refine r_bipush dX10_letter_48 (by decide) ?_
      refine r_goto (tgt := 66) dX10_letter_50 (by decide) ?_
      refine r_i2cJ dX10_letter_66 (by first | omega | exact let_char hW (by assumption) (by assumption)) ?_
      first
        | (have hch := let_char hW (by assumption) (by assumption); refine r_iret dX10_letter_67 (ty := .char) rfl (nar_C hch.1 hch.2).1 ⟨_, _, rfl, rfl, 0, QFx.thr hR hK (by decide), Or.inr (Or.inr ⟨by assumption, by assumption, rfl, rfl⟩)⟩)
        | exact r_iret dX10_letter_67 (ty := .char) rfl (by decide) ⟨_, _, rfl, rfl, 2, QFx.thr hR hK (by decide), Or.inr (Or.inl ⟨by assumption, by assumption, rfl⟩)⟩
        | exact r_iret dX10_letter_67 (ty := .char) rfl (by decide) ⟨_, _, rfl, rfl, 1, QFx.thr hR hK (by decide), Or.inl ⟨by assumption, rfl⟩⟩
  · refine r_il2 dX10_letter_9 ?_
    refine r_iconst dX10_letter_10 ?_
    refine r_al0 dX10_letter_11 ?_
    refine m_get dX10_letter_12 f_X10_7 hA rfl ?_
    refine r_il1 dX10_letter_15 ?_
    refine r_iconst dX10_letter_16 ?_
    refine r_callSP2 dX10_letter_17 s_X10_65 (c_blockAt κ _) (by decide) rfl ?_
    refine m_ald dX10_letter_20 hA (by decide) rfl (by first | (unfold QIn at *; omega) | (simp only [mlen]; unfold QIn at *; omega) | (have hbb := hW.b (b := b) (by unfold QIn at *; omega) (by unfold QIn at *; omega); unfold WFb at hbb; unfold QIn at *; simp only [mlen]; omega) | (have hbb := hW.b (b := b) (by unfold QIn at *; omega) (by unfold QIn at *; omega); unfold WFb at hbb; unfold QIn at *; omega)) (by first | (unfold QIn at *; omega) | (simp only [mlen]; unfold QIn at *; omega) | (have hbb := hW.b (b := b) (by unfold QIn at *; omega) (by unfold QIn at *; omega); unfold WFb at hbb; unfold QIn at *; simp only [mlen]; omega) | (have hbb := hW.b (b := b) (by unfold QIn at *; omega) (by unfold QIn at *; omega); unfold WFb at hbb; unfold QIn at *; omega)) ?_
    refine r_iconst dX10_letter_21 ?_
    refine r_isub dX10_letter_22 ?_
    refine r_callSP3 dX10_letter_23 s_X10_61 (c_in κ _ (by omega) (by omega) (by first | omega | (have hbb := hW.b (b := b) (by unfold QIn at *; omega) (by unfold QIn at *; omega); unfold WFb at hbb; omega))) (by decide) rfl ?_
    refine r_ifT_eq (tgt := 33) dX10_letter_26 (by decide) (fun c_26 => ?_) (fun c_26 => ?_)
    · refine r_iconst dX10_letter_33 ?_
      refine r_goto (tgt := 38) dX10_letter_34 (by decide) ?_
      refine m_put dX10_letter_38 f_X10_51 p_X10_51 (ff_14_7 _) hA mfp_7 rfl rfl ?_
      refine r_al0 dX10_letter_41 ?_
      refine m_get dX10_letter_42 f_X10_51 hA rfl ?_
      try simp only [updm_app, cpy_app, Int.reduceEq, Nat.reduceEqDiff, and_true, true_and, false_and, and_false, if_true, if_false, reduceIte]
      refine r_if_le (tgt := 53) dX10_letter_45 (by decide) (by first | omega | decide | exact hR _ _ | (have hbb := hW.b (b := b) (by unfold QIn at *; omega) (by unfold QIn at *; omega); unfold WFb at hbb; omega)) (fun c_45 => ?_) (fun c_45 => ?_)
      · exact absurd c_45 (by decide)
      · refine r_bipush dX10_letter_48 (by decide) ?_
        refine r_goto (tgt := 66) dX10_letter_50 (by decide) ?_
        refine r_i2cJ dX10_letter_66 (by first | omega | exact let_char hW (by assumption) (by assumption)) ?_
        first
          | (have hch := let_char hW (by assumption) (by assumption); refine r_iret dX10_letter_67 (ty := .char) rfl (nar_C hch.1 hch.2).1 ⟨_, _, rfl, rfl, 0, QFx.thr hR hK (by decide), Or.inr (Or.inr ⟨by assumption, by assumption, rfl, rfl⟩)⟩)
          | exact r_iret dX10_letter_67 (ty := .char) rfl (by decide) ⟨_, _, rfl, rfl, 2, QFx.thr hR hK (by decide), Or.inr (Or.inl ⟨by assumption, by assumption, rfl⟩)⟩
          | exact r_iret dX10_letter_67 (ty := .char) rfl (by decide) ⟨_, _, rfl, rfl, 1, QFx.thr hR hK (by decide), Or.inl ⟨by assumption, rfl⟩⟩
    · refine r_iconst dX10_letter_29 ?_
      refine r_goto (tgt := 38) dX10_letter_30 (by decide) ?_
      refine m_put dX10_letter_38 f_X10_51 p_X10_51 (ff_14_7 _) hA mfp_7 rfl rfl ?_
      refine r_al0 dX10_letter_41 ?_
      refine m_get dX10_letter_42 f_X10_51 hA rfl ?_
      try simp only [updm_app, cpy_app, Int.reduceEq, Nat.reduceEqDiff, and_true, true_and, false_and, and_false, if_true, if_false, reduceIte]
      refine r_if_le (tgt := 53) dX10_letter_45 (by decide) (by first | omega | decide | exact hR _ _ | (have hbb := hW.b (b := b) (by unfold QIn at *; omega) (by unfold QIn at *; omega); unfold WFb at hbb; omega)) (fun c_45 => ?_) (fun c_45 => ?_)
      · refine r_al0 dX10_letter_53 ?_
        refine m_get dX10_letter_54 f_X10_7 hA rfl ?_
        refine r_il1 dX10_letter_57 ?_
        refine r_bipush dX10_letter_58 (by decide) ?_
        refine r_il2 dX10_letter_60 ?_
        refine r_iadd dX10_letter_61 ?_
        refine r_callSP2 dX10_letter_62 s_X10_65 (c_blockAt κ _) (by decide) rfl ?_
        refine m_ald dX10_letter_65 hA (by decide) rfl (by first | (unfold QIn at *; omega) | (simp only [mlen]; unfold QIn at *; omega) | (have hbb := hW.b (b := b) (by unfold QIn at *; omega) (by unfold QIn at *; omega); unfold WFb at hbb; unfold QIn at *; simp only [mlen]; omega) | (have hbb := hW.b (b := b) (by unfold QIn at *; omega) (by unfold QIn at *; omega); unfold WFb at hbb; unfold QIn at *; omega)) (by first | (unfold QIn at *; omega) | (simp only [mlen]; unfold QIn at *; omega) | (have hbb := hW.b (b := b) (by unfold QIn at *; omega) (by unfold QIn at *; omega); unfold WFb at hbb; unfold QIn at *; simp only [mlen]; omega) | (have hbb := hW.b (b := b) (by unfold QIn at *; omega) (by unfold QIn at *; omega); unfold WFb at hbb; unfold QIn at *; omega)) ?_
        try simp only [updm_app, cpy_app, Int.reduceEq, Nat.reduceEqDiff, and_true, true_and, false_and, and_false, if_true, if_false, reduceIte]
        refine r_i2cJ dX10_letter_66 (by first | omega | exact let_char hW (by assumption) (by assumption)) ?_
        first
          | (have hch := let_char hW (by assumption) (by assumption); refine r_iret dX10_letter_67 (ty := .char) rfl (nar_C hch.1 hch.2).1 ⟨_, _, rfl, rfl, 0, QFx.thr hR hK (by decide), Or.inr (Or.inr ⟨by assumption, by assumption, rfl, rfl⟩)⟩)
          | exact r_iret dX10_letter_67 (ty := .char) rfl (by decide) ⟨_, _, rfl, rfl, 2, QFx.thr hR hK (by decide), Or.inr (Or.inl ⟨by assumption, by assumption, rfl⟩)⟩
          | exact r_iret dX10_letter_67 (ty := .char) rfl (by decide) ⟨_, _, rfl, rfl, 1, QFx.thr hR hK (by decide), Or.inl ⟨by assumption, rfl⟩⟩
      · exact absurd c_45 (by decide)
noncomputable def qpb (g : Int → Int) (b : Int) (k : Int) : Int := sz (fun k => bP (g (60 + 12 * k + 1) = b)) k
def R_part (g : Int → Int) (b i t r : Int) : Prop := (¬ QIn b 0 (g 3 - 1) ∧ t = 1) ∨ (QIn b 0 (g 3 - 1) ∧ ¬ (0 ≤ i ∧ i < qpb g b (g 3)) ∧ t = 2) ∨ (QIn b 0 (g 3 - 1) ∧ t = 0 ∧ 0 ≤ r ∧ r < g 3 ∧ g (60 + 12 * r + 1) = b ∧ qpb g b r = i)
theorem qpb_bd {g : Int → Int} {b k : Int} (k0 : 0 ≤ k) : 0 ≤ qpb g b k ∧ qpb g b k ≤ k := sz_01 k0 (fun _ => bP_01 _)
theorem qpb_1 {g : Int → Int} {b k : Int} (k0 : 0 ≤ k) : qpb g b (k + 1) = qpb g b k + bP (g (60 + 12 * k + 1) = b) := sz_1 k0
set_option maxRecDepth 100000 in
set_option maxHeartbeats 4000000 in
theorem l_part (κ : KP) {A : Nat → Nat} {M : MEM} (h : AH) (hA : MA A) (hR : RG M) (hC : CW (M 0)) (hK : QKn M) {b i : Int} (hB : QIn b 0 (M 0 3 - 1)) (ri : rng i) (i0 : 0 ≤ i) : ∀ (f : Nat) (k : Int), M 0 3 - k < (f : Int) → (0 ≤ k) → (k ≤ M 0 3) → (qpb (M 0) b k ≤ i) → WW κ mX10_part 4 0 0 (fun v h' => ∃ r M', v = some (.int (J r)) ∧ h' = mset A M' h ∧ (fun r M' => ∃ t, QFx M t M' ∧ R_part (M 0) b i t r) r M') NoX 36 [some (.ref (A 30)), some (.int (J b)), some (.int (J i)), some (.int (J (i - qpb (M 0) b k))), some (.int (J k))] [] (mset A (updm M 30 7 2) h) := by
  intro f
  induction f with
  | zero =>
    intro k hf k0 k1 hl
    exact absurd hf (by omega)
  | succ f ih =>
    intro k hf k0 k1 hl
    have hW := hC.1
    obtain ⟨⟨y0, y1⟩, ⟨n0, n1⟩, ⟨q0, q1⟩, ⟨m0, m1⟩⟩ := hW.n
    have hqb := qpb_bd (g := M 0) (b := b) k0
    refine r_il4 dX10_part_36 ?_
    refine r_al0 dX10_part_38 ?_
    refine m_get dX10_part_39 f_X10_7 hA rfl ?_
    refine r_iconst dX10_part_42 ?_
    refine m_ald dX10_part_43 hA (by decide) rfl (by first | omega | (simp only [mlen]; omega)) (by first | omega | (simp only [mlen]; omega)) ?_
    try simp only [updm_app, Int.reduceEq, Nat.reduceEqDiff, and_true, true_and, false_and, and_false, if_true, if_false, reduceIte]
    refine r_icmp_ge (tgt := 83) dX10_part_44 (by decide) (by first | omega | exact hR _ _ | decide | (unfold QIn at hB; omega)) (by first | omega | exact hR _ _ | decide | (unfold QIn at hB; omega)) (fun c_44 => ?_) (fun c_44 => ?_)
    · refine r_iconst dX10_part_83 ?_
      first
        | exact r_iret dX10_part_84 (ty := .int) rfl rfl ⟨_, _, rfl, rfl, 0, ⟨RG.up (RG.up hR (by decide)) (by decide), SB.upF (SB.upF SB.rf (by decide)) (by decide), updm_at, hK.thr.thr⟩, Or.inr (Or.inr ⟨hB, rfl, by omega, by omega, by assumption, by omega⟩)⟩
        | exact r_iret dX10_part_84 (ty := .int) rfl rfl ⟨_, _, rfl, rfl, 2, QFx.thr hR hK (by decide), Or.inr (Or.inl ⟨hB, (fun z => by have hz := z.2; rw [show M 0 3 = k by omega] at hz; omega), rfl⟩)⟩
    · refine r_al0 dX10_part_47 ?_
      refine m_get dX10_part_48 f_X10_7 hA rfl ?_
      refine r_il4 dX10_part_51 ?_
      refine r_iconst dX10_part_53 ?_
      refine r_callSP2 dX10_part_54 s_X10_65 (c_blockAt κ _) (by decide) rfl ?_
      refine m_ald dX10_part_57 hA (by decide) rfl (by first | omega | (simp only [mlen]; omega)) (by first | omega | (simp only [mlen]; omega)) ?_
      try simp only [updm_app, Int.reduceEq, Nat.reduceEqDiff, and_true, true_and, false_and, and_false, if_true, if_false, reduceIte]
      refine r_il1 dX10_part_58 ?_
      refine r_icmp_ne (tgt := 77) dX10_part_59 (by decide) (by first | omega | exact hR _ _ | decide | (unfold QIn at hB; omega)) (by first | omega | exact hR _ _ | decide | (unfold QIn at hB; omega)) (fun c_59 => ?_) (fun c_59 => ?_)
      · refine r_inc4 dX10_part_77 rfl ?_
        refine r_goto (tgt := 36) dX10_part_80 (by decide) ?_
        have e := ih (k + 1) (by omega) (by omega) (by omega) (by rw [qpb_1 k0]; first | (rw [bP_t (by assumption)]; omega) | (rw [bP_f (by assumption)]; omega))
        rw [qpb_1 k0] at e
        first | (rw [bP_t (by assumption), show i - (qpb (M 0) b k + 1) = i - qpb (M 0) b k + -1 by omega] at e; exact e) | (rw [bP_f (by assumption), show i - (qpb (M 0) b k + 0) = i - qpb (M 0) b k by omega] at e; exact e)
      · refine r_il3 dX10_part_62 ?_
        refine r_if_ne (tgt := 74) dX10_part_63 (by decide) (by first | omega | exact hR _ _ | decide | (unfold QIn at hB; omega)) (fun c_63 => ?_) (fun c_63 => ?_)
        · refine r_inc3 dX10_part_74 rfl ?_
          refine r_inc4 dX10_part_77 rfl ?_
          refine r_goto (tgt := 36) dX10_part_80 (by decide) ?_
          have e := ih (k + 1) (by omega) (by omega) (by omega) (by rw [qpb_1 k0]; first | (rw [bP_t (by assumption)]; omega) | (rw [bP_f (by assumption)]; omega))
          rw [qpb_1 k0] at e
          first | (rw [bP_t (by assumption), show i - (qpb (M 0) b k + 1) = i - qpb (M 0) b k + -1 by omega] at e; exact e) | (rw [bP_f (by assumption), show i - (qpb (M 0) b k + 0) = i - qpb (M 0) b k by omega] at e; exact e)
        · refine r_al0 dX10_part_66 ?_
          refine r_iconst dX10_part_67 ?_
          refine m_put dX10_part_68 f_X10_51 p_X10_51 (ff_14_7 _) hA mfp_7 rfl rfl ?_
          refine r_il4 dX10_part_71 ?_
          first
            | exact r_iret dX10_part_73 (ty := .int) rfl rfl ⟨_, _, rfl, rfl, 0, ⟨RG.up (RG.up hR (by decide)) (by decide), SB.upF (SB.upF SB.rf (by decide)) (by decide), updm_at, hK.thr.thr⟩, Or.inr (Or.inr ⟨hB, rfl, by omega, by omega, by assumption, by omega⟩)⟩
            | exact r_iret dX10_part_73 (ty := .int) rfl rfl ⟨_, _, rfl, rfl, 2, QFx.thr hR hK (by decide), Or.inr (Or.inl ⟨hB, (fun z => by have hz := z.2; rw [show M 0 3 = k by omega] at hz; omega), rfl⟩)⟩
set_option maxRecDepth 100000 in
set_option maxHeartbeats 4000000 in
theorem c_part (κ : KP) {A : Nat → Nat} {M : MEM} (hA : MA A) (hR : RG M) (hC : CW (M 0)) (hK : QKn M) {b i : Int} (rb : rng b) (ri : rng i) : RM κ mX10_part 4 A [.ref (A 30), .int (J b), .int (J i)] M (fun r M' => ∃ t, QFx M t M' ∧ R_part (M 0) b i t r) := by
  intro h
  refine mm_of (L := [some _, some _, some _, none, none]) (by decide +kernel) rfl rfl (Nat.le_of_ble_eq_true rfl) rfl ?_
  have hW := hC.1
  obtain ⟨⟨y0, y1⟩, ⟨n0, n1⟩, ⟨q0, q1⟩, ⟨m0, m1⟩⟩ := hW.n
  refine r_al0 dX10_part_0 ?_
  refine r_al0 dX10_part_1 ?_
  refine r_il1 dX10_part_2 ?_
  refine m_callP1 dX10_part_3 v_X10_153 hA (c_isBlock κ _ hA hR (by omega) (by omega) (by omega)) (by decide) rfl ?_
  refine r_ifT_eq (tgt := 13) dX10_part_6 (by decide) (fun c_6 => ?_) (fun c_6 => ?_)
  · refine r_iconst dX10_part_13 ?_
    refine m_put dX10_part_14 f_X10_51 p_X10_51 (ff_14_7 _) hA mfp_7 rfl rfl ?_
    refine r_al0 dX10_part_17 ?_
    refine m_get dX10_part_18 f_X10_51 hA rfl ?_
    try simp only [updm_app, cpy_app, Int.reduceEq, Nat.reduceEqDiff, and_true, true_and, false_and, and_false, if_true, if_false, reduceIte]
    refine r_iconst dX10_part_21 ?_
    refine r_icmp_eq (tgt := 29) dX10_part_22 (by decide) (by first | omega | decide | exact hR _ _) (by first | omega | decide | exact hR _ _) (fun c_22 => ?_) (fun c_22 => ?_)
    · refine r_iconst dX10_part_29 ?_
      first
        | exact r_iret dX10_part_30 (ty := .int) rfl rfl ⟨_, _, rfl, rfl, 1, QFx.thr hR hK (by decide), Or.inl ⟨by assumption, rfl⟩⟩
        | exact r_iret dX10_part_30 (ty := .int) rfl rfl ⟨_, _, rfl, rfl, 2, QFx.thr hR hK (by decide), Or.inr (Or.inl ⟨by assumption, (fun z => by omega), rfl⟩)⟩
    · exact absurd c_22 (by decide)
  · refine r_iconst dX10_part_9 ?_
    refine r_goto (tgt := 14) dX10_part_10 (by decide) ?_
    refine m_put dX10_part_14 f_X10_51 p_X10_51 (ff_14_7 _) hA mfp_7 rfl rfl ?_
    refine r_al0 dX10_part_17 ?_
    refine m_get dX10_part_18 f_X10_51 hA rfl ?_
    try simp only [updm_app, cpy_app, Int.reduceEq, Nat.reduceEqDiff, and_true, true_and, false_and, and_false, if_true, if_false, reduceIte]
    refine r_iconst dX10_part_21 ?_
    refine r_icmp_eq (tgt := 29) dX10_part_22 (by decide) (by first | omega | decide | exact hR _ _) (by first | omega | decide | exact hR _ _) (fun c_22 => ?_) (fun c_22 => ?_)
    · exact absurd c_22 (by decide)
    · refine r_il2 dX10_part_25 ?_
      refine r_if_ge (tgt := 31) dX10_part_26 (by decide) (by first | omega | decide | exact hR _ _) (fun c_26 => ?_) (fun c_26 => ?_)
      · refine r_il2 dX10_part_31 ?_
        refine r_is3 dX10_part_32 rfl ?_
        refine r_iconst dX10_part_33 ?_
        refine r_is4 dX10_part_34 rfl ?_
        have e := l_part κ h hA hR hC hK (b := b) (i := i) (by assumption) ri (by omega) 9 0 (by omega) (by omega) (by omega) (by show sz _ 0 ≤ i; rw [sz_0]; omega)
        rw [show qpb (M 0) b 0 = 0 from sz_0, show i - 0 = i by omega] at e
        exact e
      · refine r_iconst dX10_part_29 ?_
        first
          | exact r_iret dX10_part_30 (ty := .int) rfl rfl ⟨_, _, rfl, rfl, 1, QFx.thr hR hK (by decide), Or.inl ⟨by assumption, rfl⟩⟩
          | exact r_iret dX10_part_30 (ty := .int) rfl rfl ⟨_, _, rfl, rfl, 2, QFx.thr hR hK (by decide), Or.inr (Or.inl ⟨by assumption, (fun z => by omega), rfl⟩)⟩
