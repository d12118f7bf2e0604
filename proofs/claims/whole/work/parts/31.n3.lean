/-! ===== reads, on ===== -/
set_option maxRecDepth 100000 in
set_option maxHeartbeats 4000000 in
theorem l_parts (κ : KP) {A : Nat → Nat} {M : MEM} (h : AH) (hA : MA A) (hR : RG M) {b : Int} (rb : rng b) (m0 : 0 ≤ M 0 3) (m1 : M 0 3 ≤ 8) : ∀ (f : Nat) (k : Int), M 0 3 - k < (f : Int) → (0 ≤ k) → (k ≤ M 0 3) → WW κ mX10_parts 1 0 0 (fun w h' => w = some (.int (J (qpb (M 0) b (M 0 3)))) ∧ h' = mset A M h) NoX 6 [some (.ref (A 0)), some (.int (J 60)), some (.int (J (M 0 3))), some (.int (J b)), some (.int (J (qpb (M 0) b k))), some (.int (J k))] [] (mset A M h) := by
  intro f
  induction f with
  | zero =>
    intro k hf k0 k1
    exact absurd hf (by omega)
  | succ f ih =>
    intro k hf k0 k1
    have hqb := qpb_bd (g := M 0) (b := b) k0
    refine r_il5 dX10_parts_6 ?_
    refine r_il2 dX10_parts_8 ?_
    refine r_icmp_ge (tgt := 43) dX10_parts_9 (by decide) (by first | omega | exact hR _ _) (by first | omega | exact hR _ _) (fun c_9 => ?_) (fun c_9 => ?_)
    · refine r_il4 dX10_parts_43 ?_
      refine r_iret dX10_parts_45 (ty := .int) rfl rfl ⟨?_, rfl⟩
      rw [show k = M 0 3 by omega]
    · refine r_il4 dX10_parts_12 ?_
      refine r_al0 dX10_parts_14 ?_
      refine r_il1 dX10_parts_15 ?_
      refine r_bipush dX10_parts_16 (by decide) ?_
      refine r_il5 dX10_parts_18 ?_
      refine r_imul dX10_parts_20 ?_
      refine r_iadd dX10_parts_21 ?_
      refine r_iconst dX10_parts_22 ?_
      refine r_iadd dX10_parts_23 ?_
      refine m_ald dX10_parts_24 hA (by decide) rfl (by omega) (by simp only [mlen]; omega) ?_
      rw [show 60 + 12 * k + 1 = 60 + 12 * k + 1 from rfl]
      refine r_il3 dX10_parts_25 ?_
      refine r_icmp_ne (tgt := 33) dX10_parts_26 (by decide) (by first | omega | exact hR _ _) (by first | omega | exact hR _ _) (fun c_26 => ?_) (fun c_26 => ?_)
      · refine r_iconst dX10_parts_33 ?_
        refine r_iadd dX10_parts_34 ?_
        refine r_is4 dX10_parts_35 rfl ?_
        refine r_inc5 dX10_parts_37 rfl ?_
        refine r_goto (tgt := 6) dX10_parts_40 (by decide) ?_
        have e := ih (k + 1) (by omega) (by omega) (by omega)
        rw [qpb_1 k0] at e
        first | (rw [bP_t (by assumption)] at e; exact e) | (rw [bP_f (by assumption)] at e; exact e)
      · refine r_iconst dX10_parts_29 ?_
        refine r_goto (tgt := 34) dX10_parts_30 (by decide) ?_
        refine r_iadd dX10_parts_34 ?_
        refine r_is4 dX10_parts_35 rfl ?_
        refine r_inc5 dX10_parts_37 rfl ?_
        refine r_goto (tgt := 6) dX10_parts_40 (by decide) ?_
        have e := ih (k + 1) (by omega) (by omega) (by omega)
        rw [qpb_1 k0] at e
        first | (rw [bP_t (by assumption)] at e; exact e) | (rw [bP_f (by assumption)] at e; exact e)
set_option maxRecDepth 100000 in
set_option maxHeartbeats 4000000 in
theorem c_parts (κ : KP) {A : Nat → Nat} {M : MEM} (h : AH) (hA : MA A) (hR : RG M) {b x : Int} (rb : rng b) (hx : x = M 0 3) (m0 : 0 ≤ M 0 3) (m1 : M 0 3 ≤ 8) : PM κ mX10_parts 1 [.ref (A 0), .int (J 60), .int (J x), .int (J b)] (mset A M h) (.int (J (qpb (M 0) b (M 0 3)))) := by
  subst hx
  refine mm_of (L := [some _, some _, some _, some _, none, none]) (by decide +kernel) rfl rfl (Nat.le_of_ble_eq_true rfl) rfl ?_
  refine r_iconst dX10_parts_0 ?_
  refine r_is4 dX10_parts_1 rfl ?_
  refine r_iconst dX10_parts_3 ?_
  refine r_is5 dX10_parts_4 rfl ?_
  have e := l_parts κ h hA hR rb m0 m1 9 0 (by omega) (by omega) (by omega)
  rw [show qpb (M 0) b 0 = 0 from sz_0] at e
  exact e
def R_block (g : Int → Int) (b i t r : Int) : Prop := (¬ QIn b 0 (g 3 - 1) ∧ t = 1) ∨ (QIn b 0 (g 3 - 1) ∧ ¬ QIn i 0 7 ∧ t = 2) ∨ (QIn b 0 (g 3 - 1) ∧ t = 0 ∧ ((i = 0 ∧ r = g (60 + 12 * b + 0)) ∨ (i = 1 ∧ r = g (60 + 12 * b + 1)) ∨ (i = 2 ∧ QGr g b ∧ r = qpb g b (g 3)) ∨ (i = 2 ∧ ¬ QGr g b ∧ r = 0) ∨ (i = 7 ∧ r = g (60 + 12 * b + 11)) ∨ (3 ≤ i ∧ i ≤ 6 ∧ r = g (60 + 12 * b + (i - 1)))))
set_option maxRecDepth 100000 in
set_option maxHeartbeats 4000000 in
theorem c_block (κ : KP) {A : Nat → Nat} {M : MEM} (hA : MA A) (hR : RG M) (hC : CW (M 0)) (hK : QKn M) {b i : Int} (rb : rng b) (ri : rng i) : RM κ mX10_block 4 A [.ref (A 30), .int (J b), .int (J i)] M (fun r M' => ∃ t, QFx M t M' ∧ R_block (M 0) b i t r) := by
  intro h
  refine mm_of (L := [some _, some _, some _]) (by decide +kernel) rfl rfl (Nat.le_of_ble_eq_true rfl) rfl ?_
  have hW := hC.1
  obtain ⟨⟨y0, y1⟩, ⟨n0, n1⟩, ⟨q0, q1⟩, ⟨m0, m1⟩⟩ := hW.n
  refine r_al0 dX10_block_0 ?_
  refine r_al0 dX10_block_1 ?_
  refine r_il1 dX10_block_2 ?_
  refine m_callP1 dX10_block_3 v_X10_153 hA (c_isBlock κ _ hA hR (by omega) (by omega) (by omega)) (by decide) rfl ?_
  refine r_ifT_eq (tgt := 27) dX10_block_6 (by decide) (fun c_6 => ?_) (fun c_6 => ?_)
  · refine r_iconst dX10_block_27 ?_
    refine m_put dX10_block_28 f_X10_51 p_X10_51 (ff_14_7 _) hA mfp_7 rfl rfl ?_
    refine r_al0 dX10_block_31 ?_
    refine m_get dX10_block_32 f_X10_51 hA rfl ?_
    try simp only [updm_app, Int.reduceEq, Nat.reduceEqDiff, and_true, true_and, false_and, and_false, if_true, if_false, reduceIte]
    refine r_if_le (tgt := 40) dX10_block_35 (by decide) (by first | omega | decide | exact hR _ _) (fun c_35 => ?_) (fun c_35 => ?_)
    · exact absurd c_35 (by decide)
    · refine r_iconst dX10_block_38 ?_
      first
        | exact r_iret dX10_block_39 (ty := .int) rfl rfl ⟨_, _, rfl, rfl, 1, QFx.thr hR hK (by decide), Or.inl ⟨by assumption, rfl⟩⟩
        | exact r_iret dX10_block_39 (ty := .int) rfl rfl ⟨_, _, rfl, rfl, 2, QFx.thr hR hK (by decide), Or.inr (Or.inl ⟨by assumption, by assumption, rfl⟩)⟩
  · refine r_il2 dX10_block_9 ?_
    refine r_iconst dX10_block_10 ?_
    refine r_bipush dX10_block_11 (by decide) ?_
    refine r_callSP3 dX10_block_13 s_X10_61 (c_in κ _ (by first | omega | exact hR _ _) (by first | omega | exact hR _ _) (by first | omega | exact hR _ _)) (by decide) rfl ?_
    refine r_ifT_eq (tgt := 23) dX10_block_16 (by decide) (fun c_16 => ?_) (fun c_16 => ?_)
    · refine r_iconst dX10_block_23 ?_
      refine r_goto (tgt := 28) dX10_block_24 (by decide) ?_
      refine m_put dX10_block_28 f_X10_51 p_X10_51 (ff_14_7 _) hA mfp_7 rfl rfl ?_
      refine r_al0 dX10_block_31 ?_
      refine m_get dX10_block_32 f_X10_51 hA rfl ?_
      try simp only [updm_app, Int.reduceEq, Nat.reduceEqDiff, and_true, true_and, false_and, and_false, if_true, if_false, reduceIte]
      refine r_if_le (tgt := 40) dX10_block_35 (by decide) (by first | omega | decide | exact hR _ _) (fun c_35 => ?_) (fun c_35 => ?_)
      · exact absurd c_35 (by decide)
      · refine r_iconst dX10_block_38 ?_
        first
          | exact r_iret dX10_block_39 (ty := .int) rfl rfl ⟨_, _, rfl, rfl, 1, QFx.thr hR hK (by decide), Or.inl ⟨by assumption, rfl⟩⟩
          | exact r_iret dX10_block_39 (ty := .int) rfl rfl ⟨_, _, rfl, rfl, 2, QFx.thr hR hK (by decide), Or.inr (Or.inl ⟨by assumption, by assumption, rfl⟩)⟩
    · refine r_iconst dX10_block_19 ?_
      refine r_goto (tgt := 28) dX10_block_20 (by decide) ?_
      refine m_put dX10_block_28 f_X10_51 p_X10_51 (ff_14_7 _) hA mfp_7 rfl rfl ?_
      refine r_al0 dX10_block_31 ?_
      refine m_get dX10_block_32 f_X10_51 hA rfl ?_
      try simp only [updm_app, Int.reduceEq, Nat.reduceEqDiff, and_true, true_and, false_and, and_false, if_true, if_false, reduceIte]
      refine r_if_le (tgt := 40) dX10_block_35 (by decide) (by first | omega | decide | exact hR _ _) (fun c_35 => ?_) (fun c_35 => ?_)
      · refine r_il2 dX10_block_40 ?_
        rcases (show (i < 0 ∨ 7 < i) ∨ i = 0 ∨ i = 1 ∨ i = 2 ∨ i = 3 ∨ i = 4 ∨ i = 5 ∨ i = 6 ∨ i = 7 by omega) with hs | hs | hs | hs | hs | hs | hs | hs | hs
        · exact absurd hs (by (unfold QIn at *; omega))
        · refine r_tabIn (tgt := 88) dX10_block_41 0 hs (by decide) (by decide) rfl (by decide) ?_
          refine r_al0 dX10_block_88 ?_
          refine m_get dX10_block_89 f_X10_7 hA rfl ?_
          refine r_il1 dX10_block_92 ?_
          refine r_il2 dX10_block_93 ?_
          refine r_callSP2 dX10_block_94 s_X10_65 (c_blockAt κ _) (by decide) rfl ?_
          refine m_ald dX10_block_97 hA (by decide) rfl (by first | (unfold QIn at *; omega) | (simp only [mlen]; unfold QIn at *; omega)) (by first | (unfold QIn at *; omega) | (simp only [mlen]; unfold QIn at *; omega)) ?_
          try simp only [updm_app, Int.reduceEq, Nat.reduceEqDiff, and_true, true_and, false_and, and_false, if_true, if_false, reduceIte]
          first
            | exact r_iret dX10_block_98 (ty := .int) rfl rfl ⟨_, _, rfl, rfl, 0, QFx.thr hR hK (by decide), Or.inr (Or.inr ⟨by assumption, rfl, Or.inl ⟨by omega, by subst hs; rfl⟩⟩)⟩
            | exact r_iret dX10_block_98 (ty := .int) rfl rfl ⟨_, _, rfl, rfl, 0, QFx.thr hR hK (by decide), Or.inr (Or.inr ⟨by assumption, rfl, Or.inr (Or.inl ⟨by omega, by subst hs; rfl⟩)⟩)⟩
            | exact r_iret dX10_block_98 (ty := .int) rfl rfl ⟨_, _, rfl, rfl, 0, QFx.thr hR hK (by decide), Or.inr (Or.inr ⟨by assumption, rfl, Or.inr (Or.inr (Or.inl ⟨by omega, by assumption, rfl⟩))⟩)⟩
            | exact r_iret dX10_block_98 (ty := .int) rfl rfl ⟨_, _, rfl, rfl, 0, QFx.thr hR hK (by decide), Or.inr (Or.inr ⟨by assumption, rfl, Or.inr (Or.inr (Or.inr (Or.inl ⟨by omega, by assumption, rfl⟩)))⟩)⟩
            | exact r_iret dX10_block_98 (ty := .int) rfl rfl ⟨_, _, rfl, rfl, 0, QFx.thr hR hK (by decide), Or.inr (Or.inr ⟨by assumption, rfl, Or.inr (Or.inr (Or.inr (Or.inr (Or.inl ⟨by omega, rfl⟩))))⟩)⟩
            | exact r_iret dX10_block_98 (ty := .int) rfl rfl ⟨_, _, rfl, rfl, 0, QFx.thr hR hK (by decide), Or.inr (Or.inr ⟨by assumption, rfl, Or.inr (Or.inr (Or.inr (Or.inr (Or.inr ⟨by omega, by omega, rfl⟩))))⟩)⟩
        · refine r_tabIn (tgt := 88) dX10_block_41 1 hs (by decide) (by decide) rfl (by decide) ?_
          refine r_al0 dX10_block_88 ?_
          refine m_get dX10_block_89 f_X10_7 hA rfl ?_
          refine r_il1 dX10_block_92 ?_
          refine r_il2 dX10_block_93 ?_
          refine r_callSP2 dX10_block_94 s_X10_65 (c_blockAt κ _) (by decide) rfl ?_
          refine m_ald dX10_block_97 hA (by decide) rfl (by first | (unfold QIn at *; omega) | (simp only [mlen]; unfold QIn at *; omega)) (by first | (unfold QIn at *; omega) | (simp only [mlen]; unfold QIn at *; omega)) ?_
          try simp only [updm_app, Int.reduceEq, Nat.reduceEqDiff, and_true, true_and, false_and, and_false, if_true, if_false, reduceIte]
          first
            | exact r_iret dX10_block_98 (ty := .int) rfl rfl ⟨_, _, rfl, rfl, 0, QFx.thr hR hK (by decide), Or.inr (Or.inr ⟨by assumption, rfl, Or.inl ⟨by omega, by subst hs; rfl⟩⟩)⟩
            | exact r_iret dX10_block_98 (ty := .int) rfl rfl ⟨_, _, rfl, rfl, 0, QFx.thr hR hK (by decide), Or.inr (Or.inr ⟨by assumption, rfl, Or.inr (Or.inl ⟨by omega, by subst hs; rfl⟩)⟩)⟩
            | exact r_iret dX10_block_98 (ty := .int) rfl rfl ⟨_, _, rfl, rfl, 0, QFx.thr hR hK (by decide), Or.inr (Or.inr ⟨by assumption, rfl, Or.inr (Or.inr (Or.inl ⟨by omega, by assumption, rfl⟩))⟩)⟩
            | exact r_iret dX10_block_98 (ty := .int) rfl rfl ⟨_, _, rfl, rfl, 0, QFx.thr hR hK (by decide), Or.inr (Or.inr ⟨by assumption, rfl, Or.inr (Or.inr (Or.inr (Or.inl ⟨by omega, by assumption, rfl⟩)))⟩)⟩
            | exact r_iret dX10_block_98 (ty := .int) rfl rfl ⟨_, _, rfl, rfl, 0, QFx.thr hR hK (by decide), Or.inr (Or.inr ⟨by assumption, rfl, Or.inr (Or.inr (Or.inr (Or.inr (Or.inl ⟨by omega, rfl⟩))))⟩)⟩
            | exact r_iret dX10_block_98 (ty := .int) rfl rfl ⟨_, _, rfl, rfl, 0, QFx.thr hR hK (by decide), Or.inr (Or.inr ⟨by assumption, rfl, Or.inr (Or.inr (Or.inr (Or.inr (Or.inr ⟨by omega, by omega, rfl⟩))))⟩)⟩
        · refine r_tabIn (tgt := 99) dX10_block_41 2 hs (by decide) (by decide) rfl (by decide) ?_
          refine r_al0 dX10_block_99 ?_
          refine r_il1 dX10_block_100 ?_
          refine m_callP1 dX10_block_101 v_X10_86 hA (c_isGroup κ _ hA (RG.up hR (by decide)) (by unfold QIn at *; omega) (by unfold QIn at *; omega)) (by decide) rfl ?_
          rw [updm_k (by decide)]
          refine r_ifT_eq (tgt := 126) dX10_block_104 (by decide) (fun c_104 => ?_) (fun c_104 => ?_)
          · refine r_iconst dX10_block_126 ?_
            first
              | exact r_iret dX10_block_127 (ty := .int) rfl rfl ⟨_, _, rfl, rfl, 0, QFx.thr hR hK (by decide), Or.inr (Or.inr ⟨by assumption, rfl, Or.inl ⟨by omega, by subst hs; rfl⟩⟩)⟩
              | exact r_iret dX10_block_127 (ty := .int) rfl rfl ⟨_, _, rfl, rfl, 0, QFx.thr hR hK (by decide), Or.inr (Or.inr ⟨by assumption, rfl, Or.inr (Or.inl ⟨by omega, by subst hs; rfl⟩)⟩)⟩
              | exact r_iret dX10_block_127 (ty := .int) rfl rfl ⟨_, _, rfl, rfl, 0, QFx.thr hR hK (by decide), Or.inr (Or.inr ⟨by assumption, rfl, Or.inr (Or.inr (Or.inl ⟨by omega, by assumption, rfl⟩))⟩)⟩
              | exact r_iret dX10_block_127 (ty := .int) rfl rfl ⟨_, _, rfl, rfl, 0, QFx.thr hR hK (by decide), Or.inr (Or.inr ⟨by assumption, rfl, Or.inr (Or.inr (Or.inr (Or.inl ⟨by omega, by assumption, rfl⟩)))⟩)⟩
              | exact r_iret dX10_block_127 (ty := .int) rfl rfl ⟨_, _, rfl, rfl, 0, QFx.thr hR hK (by decide), Or.inr (Or.inr ⟨by assumption, rfl, Or.inr (Or.inr (Or.inr (Or.inr (Or.inl ⟨by omega, rfl⟩))))⟩)⟩
              | exact r_iret dX10_block_127 (ty := .int) rfl rfl ⟨_, _, rfl, rfl, 0, QFx.thr hR hK (by decide), Or.inr (Or.inr ⟨by assumption, rfl, Or.inr (Or.inr (Or.inr (Or.inr (Or.inr ⟨by omega, by omega, rfl⟩))))⟩)⟩
          · refine r_al0 dX10_block_107 ?_
            refine m_get dX10_block_108 f_X10_7 hA rfl ?_
            refine r_bipush dX10_block_111 (by decide) ?_
            refine r_al0 dX10_block_113 ?_
            refine m_get dX10_block_114 f_X10_7 hA rfl ?_
            refine r_iconst dX10_block_117 ?_
            refine m_ald dX10_block_118 hA (by decide) rfl (by first | (unfold QIn at *; omega) | (simp only [mlen]; unfold QIn at *; omega)) (by first | (unfold QIn at *; omega) | (simp only [mlen]; unfold QIn at *; omega)) ?_
            try simp only [updm_app, Int.reduceEq, Nat.reduceEqDiff, and_true, true_and, false_and, and_false, if_true, if_false, reduceIte]
            refine r_il1 dX10_block_119 ?_
            refine r_callSP4 dX10_block_120 s_X10_217 (c_parts κ _ (M := updm M 30 7 0) hA (RG.up hR (by decide)) (b := b) (x := M 0 3) rb (by rw [updm_k (by decide)]) (by rw [updm_k (by decide)]; omega) (by rw [updm_k (by decide)]; omega)) (by decide) rfl ?_
            rw [updm_k (by decide)]
            refine r_goto (tgt := 127) dX10_block_123 (by decide) ?_
            first
              | exact r_iret dX10_block_127 (ty := .int) rfl rfl ⟨_, _, rfl, rfl, 0, QFx.thr hR hK (by decide), Or.inr (Or.inr ⟨by assumption, rfl, Or.inl ⟨by omega, by subst hs; rfl⟩⟩)⟩
              | exact r_iret dX10_block_127 (ty := .int) rfl rfl ⟨_, _, rfl, rfl, 0, QFx.thr hR hK (by decide), Or.inr (Or.inr ⟨by assumption, rfl, Or.inr (Or.inl ⟨by omega, by subst hs; rfl⟩)⟩)⟩
              | exact r_iret dX10_block_127 (ty := .int) rfl rfl ⟨_, _, rfl, rfl, 0, QFx.thr hR hK (by decide), Or.inr (Or.inr ⟨by assumption, rfl, Or.inr (Or.inr (Or.inl ⟨by omega, by assumption, rfl⟩))⟩)⟩
              | exact r_iret dX10_block_127 (ty := .int) rfl rfl ⟨_, _, rfl, rfl, 0, QFx.thr hR hK (by decide), Or.inr (Or.inr ⟨by assumption, rfl, Or.inr (Or.inr (Or.inr (Or.inl ⟨by omega, by assumption, rfl⟩)))⟩)⟩
              | exact r_iret dX10_block_127 (ty := .int) rfl rfl ⟨_, _, rfl, rfl, 0, QFx.thr hR hK (by decide), Or.inr (Or.inr ⟨by assumption, rfl, Or.inr (Or.inr (Or.inr (Or.inr (Or.inl ⟨by omega, rfl⟩))))⟩)⟩
              | exact r_iret dX10_block_127 (ty := .int) rfl rfl ⟨_, _, rfl, rfl, 0, QFx.thr hR hK (by decide), Or.inr (Or.inr ⟨by assumption, rfl, Or.inr (Or.inr (Or.inr (Or.inr (Or.inr ⟨by omega, by omega, rfl⟩))))⟩)⟩
        · refine r_tabIn (tgt := 140) dX10_block_41 3 hs (by decide) (by decide) rfl (by decide) ?_
          refine r_al0 dX10_block_140 ?_
          refine m_get dX10_block_141 f_X10_7 hA rfl ?_
          refine r_il1 dX10_block_144 ?_
          refine r_il2 dX10_block_145 ?_
          refine r_iconst dX10_block_146 ?_
          refine r_isub dX10_block_147 ?_
          refine r_callSP2 dX10_block_148 s_X10_65 (c_blockAt κ _) (by decide) rfl ?_
          refine m_ald dX10_block_151 hA (by decide) rfl (by first | (unfold QIn at *; omega) | (simp only [mlen]; unfold QIn at *; omega)) (by first | (unfold QIn at *; omega) | (simp only [mlen]; unfold QIn at *; omega)) ?_
          try simp only [updm_app, Int.reduceEq, Nat.reduceEqDiff, and_true, true_and, false_and, and_false, if_true, if_false, reduceIte]
          first
            | exact r_iret dX10_block_152 (ty := .int) rfl rfl ⟨_, _, rfl, rfl, 0, QFx.thr hR hK (by decide), Or.inr (Or.inr ⟨by assumption, rfl, Or.inl ⟨by omega, by subst hs; rfl⟩⟩)⟩
            | exact r_iret dX10_block_152 (ty := .int) rfl rfl ⟨_, _, rfl, rfl, 0, QFx.thr hR hK (by decide), Or.inr (Or.inr ⟨by assumption, rfl, Or.inr (Or.inl ⟨by omega, by subst hs; rfl⟩)⟩)⟩
            | exact r_iret dX10_block_152 (ty := .int) rfl rfl ⟨_, _, rfl, rfl, 0, QFx.thr hR hK (by decide), Or.inr (Or.inr ⟨by assumption, rfl, Or.inr (Or.inr (Or.inl ⟨by omega, by assumption, rfl⟩))⟩)⟩
            | exact r_iret dX10_block_152 (ty := .int) rfl rfl ⟨_, _, rfl, rfl, 0, QFx.thr hR hK (by decide), Or.inr (Or.inr ⟨by assumption, rfl, Or.inr (Or.inr (Or.inr (Or.inl ⟨by omega, by assumption, rfl⟩)))⟩)⟩
            | exact r_iret dX10_block_152 (ty := .int) rfl rfl ⟨_, _, rfl, rfl, 0, QFx.thr hR hK (by decide), Or.inr (Or.inr ⟨by assumption, rfl, Or.inr (Or.inr (Or.inr (Or.inr (Or.inl ⟨by omega, rfl⟩))))⟩)⟩
            | exact r_iret dX10_block_152 (ty := .int) rfl rfl ⟨_, _, rfl, rfl, 0, QFx.thr hR hK (by decide), Or.inr (Or.inr ⟨by assumption, rfl, Or.inr (Or.inr (Or.inr (Or.inr (Or.inr ⟨by omega, by omega, rfl⟩))))⟩)⟩
        · refine r_tabIn (tgt := 140) dX10_block_41 4 hs (by decide) (by decide) rfl (by decide) ?_
          refine r_al0 dX10_block_140 ?_
          refine m_get dX10_block_141 f_X10_7 hA rfl ?_
          refine r_il1 dX10_block_144 ?_
          refine r_il2 dX10_block_145 ?_
          refine r_iconst dX10_block_146 ?_
          refine r_isub dX10_block_147 ?_
          refine r_callSP2 dX10_block_148 s_X10_65 (c_blockAt κ _) (by decide) rfl ?_
          refine m_ald dX10_block_151 hA (by decide) rfl (by first | (unfold QIn at *; omega) | (simp only [mlen]; unfold QIn at *; omega)) (by first | (unfold QIn at *; omega) | (simp only [mlen]; unfold QIn at *; omega)) ?_
          try simp only [updm_app, Int.reduceEq, Nat.reduceEqDiff, and_true, true_and, false_and, and_false, if_true, if_false, reduceIte]
          first
            | exact r_iret dX10_block_152 (ty := .int) rfl rfl ⟨_, _, rfl, rfl, 0, QFx.thr hR hK (by decide), Or.inr (Or.inr ⟨by assumption, rfl, Or.inl ⟨by omega, by subst hs; rfl⟩⟩)⟩
            | exact r_iret dX10_block_152 (ty := .int) rfl rfl ⟨_, _, rfl, rfl, 0, QFx.thr hR hK (by decide), Or.inr (Or.inr ⟨by assumption, rfl, Or.inr (Or.inl ⟨by omega, by subst hs; rfl⟩)⟩)⟩
            | exact r_iret dX10_block_152 (ty := .int) rfl rfl ⟨_, _, rfl, rfl, 0, QFx.thr hR hK (by decide), Or.inr (Or.inr ⟨by assumption, rfl, Or.inr (Or.inr (Or.inl ⟨by omega, by assumption, rfl⟩))⟩)⟩
            | exact r_iret dX10_block_152 (ty := .int) rfl rfl ⟨_, _, rfl, rfl, 0, QFx.thr hR hK (by decide), Or.inr (Or.inr ⟨by assumption, rfl, Or.inr (Or.inr (Or.inr (Or.inl ⟨by omega, by assumption, rfl⟩)))⟩)⟩
            | exact r_iret dX10_block_152 (ty := .int) rfl rfl ⟨_, _, rfl, rfl, 0, QFx.thr hR hK (by decide), Or.inr (Or.inr ⟨by assumption, rfl, Or.inr (Or.inr (Or.inr (Or.inr (Or.inl ⟨by omega, rfl⟩))))⟩)⟩
            | exact r_iret dX10_block_152 (ty := .int) rfl rfl ⟨_, _, rfl, rfl, 0, QFx.thr hR hK (by decide), Or.inr (Or.inr ⟨by assumption, rfl, Or.inr (Or.inr (Or.inr (Or.inr (Or.inr ⟨by omega, by omega, rfl⟩))))⟩)⟩
        · refine r_tabIn (tgt := 140) dX10_block_41 5 hs (by decide) (by decide) rfl (by decide) ?_
          refine r_al0 dX10_block_140 ?_
          refine m_get dX10_block_141 f_X10_7 hA rfl ?_
          refine r_il1 dX10_block_144 ?_
          refine r_il2 dX10_block_145 ?_
          refine r_iconst dX10_block_146 ?_
          refine r_isub dX10_block_147 ?_
          refine r_callSP2 dX10_block_148 s_X10_65 (c_blockAt κ _) (by decide) rfl ?_
          refine m_ald dX10_block_151 hA (by decide) rfl (by first | (unfold QIn at *; omega) | (simp only [mlen]; unfold QIn at *; omega)) (by first | (unfold QIn at *; omega) | (simp only [mlen]; unfold QIn at *; omega)) ?_
          try simp only [updm_app, Int.reduceEq, Nat.reduceEqDiff, and_true, true_and, false_and, and_false, if_true, if_false, reduceIte]
          first
            | exact r_iret dX10_block_152 (ty := .int) rfl rfl ⟨_, _, rfl, rfl, 0, QFx.thr hR hK (by decide), Or.inr (Or.inr ⟨by assumption, rfl, Or.inl ⟨by omega, by subst hs; rfl⟩⟩)⟩
            | exact r_iret dX10_block_152 (ty := .int) rfl rfl ⟨_, _, rfl, rfl, 0, QFx.thr hR hK (by decide), Or.inr (Or.inr ⟨by assumption, rfl, Or.inr (Or.inl ⟨by omega, by subst hs; rfl⟩)⟩)⟩
            | exact r_iret dX10_block_152 (ty := .int) rfl rfl ⟨_, _, rfl, rfl, 0, QFx.thr hR hK (by decide), Or.inr (Or.inr ⟨by assumption, rfl, Or.inr (Or.inr (Or.inl ⟨by omega, by assumption, rfl⟩))⟩)⟩
            | exact r_iret dX10_block_152 (ty := .int) rfl rfl ⟨_, _, rfl, rfl, 0, QFx.thr hR hK (by decide), Or.inr (Or.inr ⟨by assumption, rfl, Or.inr (Or.inr (Or.inr (Or.inl ⟨by omega, by assumption, rfl⟩)))⟩)⟩
            | exact r_iret dX10_block_152 (ty := .int) rfl rfl ⟨_, _, rfl, rfl, 0, QFx.thr hR hK (by decide), Or.inr (Or.inr ⟨by assumption, rfl, Or.inr (Or.inr (Or.inr (Or.inr (Or.inl ⟨by omega, rfl⟩))))⟩)⟩
            | exact r_iret dX10_block_152 (ty := .int) rfl rfl ⟨_, _, rfl, rfl, 0, QFx.thr hR hK (by decide), Or.inr (Or.inr ⟨by assumption, rfl, Or.inr (Or.inr (Or.inr (Or.inr (Or.inr ⟨by omega, by omega, rfl⟩))))⟩)⟩
        · refine r_tabIn (tgt := 140) dX10_block_41 6 hs (by decide) (by decide) rfl (by decide) ?_
          refine r_al0 dX10_block_140 ?_
          refine m_get dX10_block_141 f_X10_7 hA rfl ?_
          refine r_il1 dX10_block_144 ?_
          refine r_il2 dX10_block_145 ?_
          refine r_iconst dX10_block_146 ?_
          refine r_isub dX10_block_147 ?_
          refine r_callSP2 dX10_block_148 s_X10_65 (c_blockAt κ _) (by decide) rfl ?_
          refine m_ald dX10_block_151 hA (by decide) rfl (by first | (unfold QIn at *; omega) | (simp only [mlen]; unfold QIn at *; omega)) (by first | (unfold QIn at *; omega) | (simp only [mlen]; unfold QIn at *; omega)) ?_
          try simp only [updm_app, Int.reduceEq, Nat.reduceEqDiff, and_true, true_and, false_and, and_false, if_true, if_false, reduceIte]
          first
            | exact r_iret dX10_block_152 (ty := .int) rfl rfl ⟨_, _, rfl, rfl, 0, QFx.thr hR hK (by decide), Or.inr (Or.inr ⟨by assumption, rfl, Or.inl ⟨by omega, by subst hs; rfl⟩⟩)⟩
            | exact r_iret dX10_block_152 (ty := .int) rfl rfl ⟨_, _, rfl, rfl, 0, QFx.thr hR hK (by decide), Or.inr (Or.inr ⟨by assumption, rfl, Or.inr (Or.inl ⟨by omega, by subst hs; rfl⟩)⟩)⟩
            | exact r_iret dX10_block_152 (ty := .int) rfl rfl ⟨_, _, rfl, rfl, 0, QFx.thr hR hK (by decide), Or.inr (Or.inr ⟨by assumption, rfl, Or.inr (Or.inr (Or.inl ⟨by omega, by assumption, rfl⟩))⟩)⟩
            | exact r_iret dX10_block_152 (ty := .int) rfl rfl ⟨_, _, rfl, rfl, 0, QFx.thr hR hK (by decide), Or.inr (Or.inr ⟨by assumption, rfl, Or.inr (Or.inr (Or.inr (Or.inl ⟨by omega, by assumption, rfl⟩)))⟩)⟩
            | exact r_iret dX10_block_152 (ty := .int) rfl rfl ⟨_, _, rfl, rfl, 0, QFx.thr hR hK (by decide), Or.inr (Or.inr ⟨by assumption, rfl, Or.inr (Or.inr (Or.inr (Or.inr (Or.inl ⟨by omega, rfl⟩))))⟩)⟩
            | exact r_iret dX10_block_152 (ty := .int) rfl rfl ⟨_, _, rfl, rfl, 0, QFx.thr hR hK (by decide), Or.inr (Or.inr ⟨by assumption, rfl, Or.inr (Or.inr (Or.inr (Or.inr (Or.inr ⟨by omega, by omega, rfl⟩))))⟩)⟩
        · refine r_tabIn (tgt := 128) dX10_block_41 7 hs (by decide) (by decide) rfl (by decide) ?_
          refine r_al0 dX10_block_128 ?_
          refine m_get dX10_block_129 f_X10_7 hA rfl ?_
          refine r_il1 dX10_block_132 ?_
          refine r_bipush dX10_block_133 (by decide) ?_
          refine r_callSP2 dX10_block_135 s_X10_65 (c_blockAt κ _) (by decide) rfl ?_
          refine m_ald dX10_block_138 hA (by decide) rfl (by first | (unfold QIn at *; omega) | (simp only [mlen]; unfold QIn at *; omega)) (by first | (unfold QIn at *; omega) | (simp only [mlen]; unfold QIn at *; omega)) ?_
          try simp only [updm_app, Int.reduceEq, Nat.reduceEqDiff, and_true, true_and, false_and, and_false, if_true, if_false, reduceIte]
          first
            | exact r_iret dX10_block_139 (ty := .int) rfl rfl ⟨_, _, rfl, rfl, 0, QFx.thr hR hK (by decide), Or.inr (Or.inr ⟨by assumption, rfl, Or.inl ⟨by omega, by subst hs; rfl⟩⟩)⟩
            | exact r_iret dX10_block_139 (ty := .int) rfl rfl ⟨_, _, rfl, rfl, 0, QFx.thr hR hK (by decide), Or.inr (Or.inr ⟨by assumption, rfl, Or.inr (Or.inl ⟨by omega, by subst hs; rfl⟩)⟩)⟩
            | exact r_iret dX10_block_139 (ty := .int) rfl rfl ⟨_, _, rfl, rfl, 0, QFx.thr hR hK (by decide), Or.inr (Or.inr ⟨by assumption, rfl, Or.inr (Or.inr (Or.inl ⟨by omega, by assumption, rfl⟩))⟩)⟩
            | exact r_iret dX10_block_139 (ty := .int) rfl rfl ⟨_, _, rfl, rfl, 0, QFx.thr hR hK (by decide), Or.inr (Or.inr ⟨by assumption, rfl, Or.inr (Or.inr (Or.inr (Or.inl ⟨by omega, by assumption, rfl⟩)))⟩)⟩
            | exact r_iret dX10_block_139 (ty := .int) rfl rfl ⟨_, _, rfl, rfl, 0, QFx.thr hR hK (by decide), Or.inr (Or.inr ⟨by assumption, rfl, Or.inr (Or.inr (Or.inr (Or.inr (Or.inl ⟨by omega, rfl⟩))))⟩)⟩
            | exact r_iret dX10_block_139 (ty := .int) rfl rfl ⟨_, _, rfl, rfl, 0, QFx.thr hR hK (by decide), Or.inr (Or.inr ⟨by assumption, rfl, Or.inr (Or.inr (Or.inr (Or.inr (Or.inr ⟨by omega, by omega, rfl⟩))))⟩)⟩
      · exact absurd c_35 (by decide)
def QRo (g : Int → Int) (n : Int) : Prop := ∃ u, QBest g u ∧ n = qroots g u
theorem QRo.uniq {g : Int → Int} {n n' : Int} (hW : WF g) (h : QRo g n) (h' : QRo g n') : n = n' := by
  obtain ⟨u, h1, h2⟩ := h
  obtain ⟨v, h3, h4⟩ := h'
  rw [h2, h4]
  exact qroots_cong (FM.uniq hW h1 h3)
theorem QRo.bd {g : Int → Int} {n : Int} (hW : WF g) (h : QRo g n) : 0 ≤ n ∧ n ≤ 8 := by
  obtain ⟨u, h1, h2⟩ := h
  rw [h2]
  exact (qk_bd hW).1
theorem CW.may {g : Int → Int} {a b c e : Int} (h : CW g) (hn : g 1 ≤ 5) (hm : QMay g a b c e) : CW (gcm g a b c e) := by
  obtain ⟨h1, h2, h3, h4⟩ := hm
  unfold QIn at h2 h3 h4
  exact h.cm hn h1 (by omega) (fun _ => by omega) h3 h4
def QRw (M : MEM) (a b c e : Int) (r : Int) (M' : MEM) : Prop := RG M' ∧ SB [0, 9, 10, 11, 12] [7, 8, 13, 14, 15] M M' ∧ M' 0 = upz (gcm (M 0) a b c e) 1 (M 0 1) ∧ M' 30 7 = 0 ∧ M' 30 8 = 0 ∧ QRo (gcm (M 0) a b c e) r
set_option maxRecDepth 100000 in
set_option maxHeartbeats 4000000 in
theorem c_rootsWith (κ : KP) {A : Nat → Nat} {M : MEM} (hA : MA A) (hR : RG M) (hC : CW (M 0)) (hK : QKn M) {a b c e : Int} (ra : rng a) (rb : rng b) (rc : rng c) (re : rng e) : RM κ mX10_rootsWith 8 A [.ref (A 30), .int (J a), .int (J b), .int (J c), .int (J e)] M (fun r M' => (¬ QMay (M 0) a b c e ∧ XThr M 1 M') ∨ (QMay (M 0) a b c e ∧ M 0 1 = 6 ∧ XThr M 2 M') ∨ (QMay (M 0) a b c e ∧ M 0 1 ≠ 6 ∧ QRw M a b c e r M')) := by
  intro h
  refine mm_of (L := [some _, some _, some _, some _, some _, none]) (by decide +kernel) rfl rfl (Nat.le_of_ble_eq_true rfl) rfl ?_
  have hW := hC.1
  obtain ⟨⟨y0, y1⟩, ⟨n0, n1⟩, ⟨q0, q1⟩, ⟨m0, m1⟩⟩ := hW.n
  refine r_al0 dX10_rootsWith_0 ?_
  refine r_al0 dX10_rootsWith_1 ?_
  refine r_il1 dX10_rootsWith_2 ?_
  refine r_il2 dX10_rootsWith_3 ?_
  refine r_il3 dX10_rootsWith_4 ?_
  refine r_il4 dX10_rootsWith_5 ?_
  refine m_callP4 dX10_rootsWith_7 v_X10_129 hA (c_mayBe κ _ hA hR ra rb rc re) (by decide) rfl ?_
  refine r_ifT_ne (tgt := 17) dX10_rootsWith_10 (by decide) (fun c_10 => ?_) (fun c_10 => ?_)
  · refine r_al0 dX10_rootsWith_17 ?_
    refine m_get dX10_rootsWith_18 f_X10_7 hA rfl ?_
    refine r_iconst dX10_rootsWith_21 ?_
    refine m_ald dX10_rootsWith_22 hA (by decide) rfl (by first | omega | (simp only [mlen]; omega)) (by first | omega | (simp only [mlen]; omega)) ?_
    refine r_bipush dX10_rootsWith_23 (by decide) ?_
    refine r_icmp_ne (tgt := 32) dX10_rootsWith_25 (by decide) (by first | omega | decide | exact hR _ _) (by first | omega | decide | exact hR _ _) (fun c_25 => ?_) (fun c_25 => ?_)
    · refine r_iconst dX10_rootsWith_32 ?_
      refine m_put dX10_rootsWith_33 f_X10_51 p_X10_51 (ff_14_7 _) hA mfp_7 rfl rfl ?_
      refine r_al0 dX10_rootsWith_36 ?_
      refine m_get dX10_rootsWith_37 f_X10_51 hA rfl ?_
      try simp only [updm_app, cpy_app, Int.reduceEq, Nat.reduceEqDiff, and_true, true_and, false_and, and_false, if_true, if_false, reduceIte]
      refine r_if_le (tgt := 45) dX10_rootsWith_40 (by decide) (by first | omega | decide | exact hR _ _) (fun c_40 => ?_) (fun c_40 => ?_)
      · refine r_al0 dX10_rootsWith_45 ?_
        refine r_il1 dX10_rootsWith_46 ?_
        refine r_il2 dX10_rootsWith_47 ?_
        refine r_il3 dX10_rootsWith_48 ?_
        refine r_il4 dX10_rootsWith_49 ?_
        refine m_callR4 dX10_rootsWith_51 v_X10_139 hA (c_comes κ hA (RG.up hR (by decide)) (by rw [updm_k (by decide)]; omega) (by rw [updm_k (by decide)]; omega)) (by decide) rfl (fun r_51 M_51 h_51 => ?_)
        obtain ⟨rfl, rfl⟩ := h_51
        rw [updm_k (k' := 0) (by decide)]
        have hrg : ∀ i, rng (gcm (M 0) a b c e i) := FC.cm (fun i => hR 0 i) (by omega) ra rb rc re
        refine r_pop dX10_rootsWith_54 rfl ?_
        refine r_al0 dX10_rootsWith_55 ?_
        refine m_callR0 dX10_rootsWith_56 v_X10_171 hA (c_rootsNow κ hA (RG_setg (RG.up hR (by decide)) hrg) (hC.may (by omega) (by assumption)).1) (by decide) rfl (fun r_56 M_56 h_56 => ?_)
        obtain ⟨hRn, hSn, hkn, hqn⟩ := h_56
        have en : M_56 0 = gcm (M 0) a b c e := hSn.1 0 (by decide) (by decide)
        refine r_is5 dX10_rootsWith_59 rfl ?_
        refine r_al0 dX10_rootsWith_61 ?_
        refine m_get dX10_rootsWith_62 f_X10_7 hA rfl ?_
        refine r_iconst dX10_rootsWith_65 ?_
        refine r_dup2 dX10_rootsWith_66 rfl rfl ?_
        refine m_ald dX10_rootsWith_67 hA (by decide) rfl (by first | omega | (simp only [mlen]; omega)) (by first | omega | (simp only [mlen]; omega)) ?_
        try simp only [updm_app, cpy_app, Int.reduceEq, Nat.reduceEqDiff, and_true, true_and, false_and, and_false, if_true, if_false, reduceIte]
        refine r_iconst dX10_rootsWith_68 ?_
        refine r_isub dX10_rootsWith_69 ?_
        refine m_ast dX10_rootsWith_70 hA (by decide) rfl (by first | omega | (simp only [mlen]; omega)) (by first | omega | (simp only [mlen]; omega)) ?_
        refine r_il5 dX10_rootsWith_71 ?_
        refine r_iret dX10_rootsWith_73 (ty := .int) rfl rfl ⟨_, _, rfl, rfl, Or.inr (Or.inr ⟨by assumption, by omega, RG.up hRn (by rw [en, gcm_n (by omega)]; omega), ⟨fun k hk h3 => ?_, fun f hf => ?_⟩, ?_, ?_, ?_, hqn⟩)⟩
        · rw [updm_k (fun z => hk (by rw [z]; exact List.mem_cons_self)), hSn.1 k (fun z => hk (List.mem_cons_of_mem _ z)) h3, setg_k (fun z => hk (by rw [z]; exact List.mem_cons_self)), updm_k h3]
        · rw [updm_ne (by omega), hSn.2 f (fun z => hf (List.mem_cons_of_mem _ z)), setg_k (by decide), updm_ne (fun z => hf (by rw [z.2]; exact List.mem_cons_self))]
        · rw [updm_up, en, gcm_n (by omega), show M 0 1 + 1 - 1 = M 0 1 by omega]
        · rw [updm_ne (by omega), hSn.2 7 (by decide), setg_k (by decide), updm_at]
        · rw [updm_ne (by omega)]; exact hkn
      · exact absurd c_40 (by decide)
    · refine r_iconst dX10_rootsWith_28 ?_
      refine r_goto (tgt := 33) dX10_rootsWith_29 (by decide) ?_
      refine m_put dX10_rootsWith_33 f_X10_51 p_X10_51 (ff_14_7 _) hA mfp_7 rfl rfl ?_
      refine r_al0 dX10_rootsWith_36 ?_
      refine m_get dX10_rootsWith_37 f_X10_51 hA rfl ?_
      try simp only [updm_app, cpy_app, Int.reduceEq, Nat.reduceEqDiff, and_true, true_and, false_and, and_false, if_true, if_false, reduceIte]
      refine r_if_le (tgt := 45) dX10_rootsWith_40 (by decide) (by first | omega | decide | exact hR _ _) (fun c_40 => ?_) (fun c_40 => ?_)
      · exact absurd c_40 (by decide)
      · refine r_iconst dX10_rootsWith_43 ?_
        first
          | exact r_iret dX10_rootsWith_44 (ty := .int) rfl rfl ⟨_, _, rfl, rfl, Or.inl ⟨by assumption, rfl⟩⟩
          | exact r_iret dX10_rootsWith_44 (ty := .int) rfl rfl ⟨_, _, rfl, rfl, Or.inr (Or.inl ⟨by assumption, by omega, rfl⟩)⟩
  · refine r_iconst dX10_rootsWith_13 ?_
    refine r_goto (tgt := 33) dX10_rootsWith_14 (by decide) ?_
    refine m_put dX10_rootsWith_33 f_X10_51 p_X10_51 (ff_14_7 _) hA mfp_7 rfl rfl ?_
    refine r_al0 dX10_rootsWith_36 ?_
    refine m_get dX10_rootsWith_37 f_X10_51 hA rfl ?_
    try simp only [updm_app, cpy_app, Int.reduceEq, Nat.reduceEqDiff, and_true, true_and, false_and, and_false, if_true, if_false, reduceIte]
    refine r_if_le (tgt := 45) dX10_rootsWith_40 (by decide) (by first | omega | decide | exact hR _ _) (fun c_40 => ?_) (fun c_40 => ?_)
    · exact absurd c_40 (by decide)
    · refine r_iconst dX10_rootsWith_43 ?_
      first
        | exact r_iret dX10_rootsWith_44 (ty := .int) rfl rfl ⟨_, _, rfl, rfl, Or.inl ⟨by assumption, rfl⟩⟩
        | exact r_iret dX10_rootsWith_44 (ty := .int) rfl rfl ⟨_, _, rfl, rfl, Or.inr (Or.inl ⟨by assumption, by omega, rfl⟩)⟩
def R_lapses (g : Int → Int) (t r : Int) : Prop := ∃ had, QRo g had ∧ ((t = 0 ∧ g 0 < r ∧ r ≤ 60 ∧ (∃ n, QRo (upz g 0 r) n ∧ n < had) ∧ ∀ z, g 0 < z → z < r → ∃ n, QRo (upz g 0 z) n ∧ had ≤ n) ∨ (t = 1 ∧ ∀ z, g 0 < z → z ≤ 60 → ∃ n, QRo (upz g 0 z) n ∧ had ≤ n))
theorem WF.yr {g : Int → Int} {y : Int} (h : WF g) (hy : 0 ≤ y ∧ y ≤ 60) : WF (upz g 0 y) := by
  have e : ∀ i, i ≠ 0 → upz g 0 y i = g i := fun i hi => by unfold upz; rw [if_neg hi]
  have e0 : upz g 0 y 0 = y := by unfold upz; rw [if_pos rfl]
  have hn := h.n
  refine h.mod (fun i hi => e i (by omega)) (e 2 (by decide)) (e 3 (by decide)) (by rw [e0]; exact hy) (by rw [e 1 (by decide)]; exact hn.2.1) (fun c c0 c1 => ?_)
  rw [e 1 (by decide)] at c1
  have := h.c c0 c1
  unfold WFc at this ⊢
  rw [e _ (by omega), e _ (by omega), e _ (by omega), e _ (by omega)]
  exact this
theorem upz_upz {g : Int → Int} {i x y : Int} : upz (upz g i x) i y = upz g i y := by
  funext j
  unfold upz
  split <;> rfl
theorem upz_self {g : Int → Int} {i : Int} : upz g i (g i) = g := by
  funext j
  unfold upz
  split
  · rename_i e; rw [e]
  · rfl
set_option maxRecDepth 100000 in
set_option maxHeartbeats 4000000 in
theorem l_lapses (κ : KP) {A : Nat → Nat} {M : MEM} (h : AH) (hA : MA A) (hR : RG M) (hC : CW (M 0)) (hK : QKn M) {had : Int} (hhad : QRo (M 0) had) : ∀ (f : Nat) (M1 : MEM) (y : Int) (v3 : Option Value), 60 - y < (f : Int) → (M 0 0 ≤ y) → (y ≤ 60) → (RG M1) → (SB [0, 9, 10, 11, 12] [7, 8, 13, 14, 15] M M1) → (M1 30 7 = 0) → (M1 30 8 = 0) → (M1 0 = upz (M 0) 0 y) → (∀ z, M 0 0 < z → z ≤ y → ∃ n, QRo (upz (M 0) 0 z) n ∧ had ≤ n) → WW κ mX10_lapses 8 0 0 (fun v h' => ∃ r M', v = some (.int (J r)) ∧ h' = mset A M' h ∧ (fun r M' => ∃ t, QFx M t M' ∧ R_lapses (M 0) t r) r M') NoX 17 [some (.ref (A 30)), some (.int (J (M 0 0))), some (.int (J had)), v3] [] (mset A M1 h) := by
  intro f
  induction f with
  | zero =>
    intro M1 y v3 hf y0 y1 hR1 hS h7 h8 e0 hz
    exact absurd hf (by omega)
  | succ f ih =>
    intro M1 y v3 hf y0 y1 hR1 hS h7 h8 e0 hz
    have hW := hC.1
    obtain ⟨⟨y0, y1⟩, ⟨n0, n1⟩, ⟨q0, q1⟩, ⟨m0, m1⟩⟩ := hW.n
    have hhb := hhad.bd hW
    refine r_al0 dX10_lapses_17 ?_
    refine m_get dX10_lapses_18 f_X10_7 hA rfl ?_
    refine r_iconst dX10_lapses_21 ?_
    refine m_ald dX10_lapses_22 hA (by decide) rfl (by first | omega | (simp only [mlen]; omega)) (by first | omega | (simp only [mlen]; omega)) ?_
    have hyy : M1 0 0 = y := by rw [e0, upz_app, if_pos rfl]
    refine r_bipush dX10_lapses_23 (by decide) ?_
    refine r_icmp_ge (tgt := 62) dX10_lapses_25 (by decide) (by first | omega | exact hR1 _ _ | exact hRn _ _) (by first | omega | exact hR1 _ _ | exact hRn _ _) (fun c_25 => ?_) (fun c_25 => ?_)
    · refine r_al0 dX10_lapses_62 ?_
      refine m_get dX10_lapses_63 f_X10_7 hA rfl ?_
      refine r_iconst dX10_lapses_66 ?_
      refine r_il1 dX10_lapses_67 ?_
      refine m_ast dX10_lapses_68 hA (by decide) rfl (by first | omega | (simp only [mlen]; omega)) (by first | omega | (simp only [mlen]; omega)) ?_
      refine r_al0 dX10_lapses_69 ?_
      refine r_iconst dX10_lapses_70 ?_
      refine m_callR1 dX10_lapses_71 v_X10_57 hA (c_fails κ hA (RG.up hR1 (hR 0 0))) (by decide) rfl (fun r_71 M_71 h_71 => ?_)
      obtain ⟨rfl, rfl⟩ := h_71
      refine r_iret dX10_lapses_74 (ty := .int) rfl rfl ⟨_, _, rfl, rfl, 1, ⟨RG.up (RG.up hR1 (hR 0 0)) (by decide), ⟨fun k hk h3 => ?_, fun f hf => ?_⟩, updm_at, Or.inl ?_⟩, had, hhad, Or.inr ⟨rfl, fun z z0 z1 => hz z z0 ?_⟩⟩
      · rw [updm_k h3]
        by_cases z : k = 0
        · rw [z, updm_up, e0, upz_upz]
          exact upz_self
        · rw [updm_k z, hS.1 k (by intro y; rcases List.mem_cons.mp y with y | y; exact z y; exact hk (List.mem_cons_of_mem _ y)) h3]
      · rw [updm_ne (fun z => hf (by rw [z.2]; exact List.mem_cons_self)), updm_ne (by omega), hS.2 f hf]
      · rw [updm_ne (by omega), updm_ne (by omega)]; exact h8
      · have : upz (M 0) 0 y 0 = y := by rw [upz_app, if_pos rfl]
        omega
    · refine r_al0 dX10_lapses_28 ?_
      refine m_get dX10_lapses_29 f_X10_7 hA rfl ?_
      refine r_iconst dX10_lapses_32 ?_
      refine r_dup2 dX10_lapses_33 rfl rfl ?_
      refine m_ald dX10_lapses_34 hA (by decide) rfl (by first | omega | (simp only [mlen]; omega)) (by first | omega | (simp only [mlen]; omega)) ?_
      rw [e0]
      have hyy2 : upz (M 0) 0 y 0 = y := by rw [upz_app, if_pos rfl]
      refine r_iconst dX10_lapses_35 ?_
      refine r_iadd dX10_lapses_36 ?_
      refine m_ast dX10_lapses_37 hA (by decide) rfl (by first | omega | (simp only [mlen]; omega)) (by first | omega | (simp only [mlen]; omega)) ?_
      refine r_al0 dX10_lapses_38 ?_
      refine m_callR0 dX10_lapses_39 v_X10_171 hA (c_rootsNow κ hA (RG.up hR1 (by omega)) (by rw [updm_up, e0, upz_upz]; exact hC.1.yr (by omega))) (by decide) rfl (fun r_39 M_39 h_39 => ?_)
      obtain ⟨hRn, hSn, hkn, hqn⟩ := h_39
      have en : M_39 0 = upz (M 0) 0 (upz (M 0) 0 y 0 + 1) := by
        rw [hSn.1 0 (by decide) (by decide), updm_up, e0, upz_upz]
      rw [updm_up, e0, upz_upz] at hqn
      have hyq : upz (M 0) 0 y 0 = y := by rw [upz_app, if_pos rfl]
      rw [hyq] at en hqn
      have hnb := QRo.bd (hC.1.yr (by omega)) hqn
      refine r_il2 dX10_lapses_42 ?_
      refine r_icmp_ge (tgt := 17) dX10_lapses_43 (by decide) (by first | omega | exact hR1 _ _ | exact hRn _ _) (by first | omega | exact hR1 _ _ | exact hRn _ _) (fun c_43 => ?_) (fun c_43 => ?_)
      · refine ih M_39 (y + 1) _ (by omega) (by omega) (by omega) hRn ⟨fun k hk h3 => ?_, fun f hf => ?_⟩ ?_ hkn en (fun z z0 z1 => ?_)
        · rw [hSn.1 k (fun y => hk (List.mem_cons_of_mem _ y)) h3, updm_k (fun z => hk (by rw [z]; exact List.mem_cons_self)), hS.1 k hk h3]
        · rw [hSn.2 f (fun z => hf (List.mem_cons_of_mem _ z)), updm_ne (by omega), hS.2 f hf]
        · rw [hSn.2 7 (by decide), updm_ne (by omega)]; exact h7
        · rcases (show z ≤ y ∨ z = y + 1 by omega) with q | q
          · exact hz z z0 q
          · rw [q]; exact ⟨_, hqn, by omega⟩
      · refine r_al0 dX10_lapses_46 ?_
        refine m_get dX10_lapses_47 f_X10_7 hA rfl ?_
        refine r_iconst dX10_lapses_50 ?_
        refine m_ald dX10_lapses_51 hA (by decide) rfl (by first | omega | (simp only [mlen]; omega)) (by first | omega | (simp only [mlen]; omega)) ?_
        try simp only [updm_app, cpy_app, Int.reduceEq, Nat.reduceEqDiff, and_true, true_and, false_and, and_false, if_true, if_false, reduceIte]
        refine r_is3 dX10_lapses_52 rfl ?_
        refine r_al0 dX10_lapses_53 ?_
        refine m_get dX10_lapses_54 f_X10_7 hA rfl ?_
        refine r_iconst dX10_lapses_57 ?_
        refine r_il1 dX10_lapses_58 ?_
        refine m_ast dX10_lapses_59 hA (by decide) rfl (by first | omega | (simp only [mlen]; omega)) (by first | omega | (simp only [mlen]; omega)) ?_
        refine r_il3 dX10_lapses_60 ?_
        refine r_iret dX10_lapses_61 (ty := .int) rfl rfl ⟨_, _, rfl, rfl, 0, ⟨RG.up hRn (hR 0 0), ⟨fun k hk h3 => ?_, fun f hf => ?_⟩, ?_, Or.inl ?_⟩, had, hhad, Or.inl ⟨rfl, ?_, ?_, ⟨_, ?_, by assumption⟩, fun z z0 z1 => hz z z0 ?_⟩⟩
        · by_cases z : k = 0
          · rw [z, updm_up, en, upz_upz]
            exact upz_self
          · rw [updm_k z, hSn.1 k (fun y => hk (List.mem_cons_of_mem _ y)) h3, updm_k z, hS.1 k (by intro y; rcases List.mem_cons.mp y with y | y; exact z y; exact hk (List.mem_cons_of_mem _ y)) h3]
        · rw [updm_ne (by omega), hSn.2 f (fun z => hf (List.mem_cons_of_mem _ z)), updm_ne (by omega), hS.2 f hf]
        · rw [updm_ne (by omega), hSn.2 7 (by decide), updm_ne (by omega)]; exact h7
        · rw [updm_ne (by omega)]; exact hkn
        · rw [en, upz_app, if_pos rfl]; omega
        · rw [en, upz_app, if_pos rfl]; omega
        · rw [en, upz_app, if_pos rfl]; exact hqn
        · rw [en, upz_app, if_pos rfl] at z1; omega
set_option maxRecDepth 100000 in
set_option maxHeartbeats 4000000 in
theorem c_lapses (κ : KP) {A : Nat → Nat} {M : MEM} (hA : MA A) (hR : RG M) (hC : CW (M 0)) (hK : QKn M) : RM κ mX10_lapses 8 A [.ref (A 30)] M (fun r M' => ∃ t, QFx M t M' ∧ R_lapses (M 0) t r) := by
  intro h
  refine mm_of (L := [some _, none, none, none]) (by decide +kernel) rfl rfl (Nat.le_of_ble_eq_true rfl) rfl ?_
  have hW := hC.1
  obtain ⟨⟨y0, y1⟩, ⟨n0, n1⟩, ⟨q0, q1⟩, ⟨m0, m1⟩⟩ := hW.n
  refine r_al0 dX10_lapses_0 ?_
  refine r_iconst dX10_lapses_1 ?_
  refine m_put dX10_lapses_2 f_X10_51 p_X10_51 (ff_14_7 _) hA mfp_7 rfl rfl ?_
  refine r_al0 dX10_lapses_5 ?_
  refine m_get dX10_lapses_6 f_X10_7 hA rfl ?_
  refine r_iconst dX10_lapses_9 ?_
  refine m_ald dX10_lapses_10 hA (by decide) rfl (by first | omega | (simp only [mlen]; omega)) (by first | omega | (simp only [mlen]; omega)) ?_
  try simp only [updm_app, cpy_app, Int.reduceEq, Nat.reduceEqDiff, and_true, true_and, false_and, and_false, if_true, if_false, reduceIte]
  refine r_is1 dX10_lapses_11 rfl ?_
  refine r_al0 dX10_lapses_12 ?_
  refine m_callR0 dX10_lapses_13 v_X10_171 hA (c_rootsNow κ hA (RG.up hR (by decide)) (by rw [updm_k (by decide)]; exact hC.1)) (by decide) rfl (fun r_13 M_13 h_13 => ?_)
  obtain ⟨hRn, hSn, hkn, hqn⟩ := h_13
  rw [updm_k (k' := 0) (by decide)] at hqn
  refine r_is2 dX10_lapses_16 rfl ?_
  refine l_lapses κ h hA hR hC hK hqn 61 M_13 (M 0 0) _ (by omega) (by omega) (by omega) hRn (hSn.th.mono (by decide) (by decide)) ?_ hkn ?_ (fun z z0 z1 => by omega)
  · rw [hSn.2 7 (by decide), updm_at]
  · rw [hSn.1 0 (by decide) (by decide), updm_k (by decide)]; exact upz_self.symm
