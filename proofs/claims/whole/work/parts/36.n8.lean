/-! ===== layers, why ===== -/
def QFy (M : MEM) (t : Int) (M' : MEM) : Prop := RG M' ∧ SB [2, 9, 10, 11, 12, 25] [7, 8, 13, 14, 15, 26] M M' ∧ M' 30 7 = t ∧ QKn M'
theorem QFx.y {M M' : MEM} {t : Int} (h : QFx M t M') : QFy M t M' := ⟨h.1, h.2.1.mono (by decide) (by decide), h.2.2.1, h.2.2.2⟩
theorem QFy.fl {M M1 M' : MEM} {t : Int} (h : QFs (updm M 30 7 t) M1) (hr : RG M') (hs : SB [25] [26] M1 M') : QFy M t M' :=
  ⟨hr, (h.2.1.th.trans hs).mono (by decide) (by decide), by rw [hs.2 7 (by decide), h.2.1.2 7 (by decide), updm_at], LyF.kn ⟨hr, hs⟩ h.kn⟩
theorem QFy.t {M M' : MEM} {t t' : Int} (h : QFy M t M') (ht : rng t') : QFy M t' (updm M' 30 7 t') := ⟨RG.up h.1 ht, SB.upF h.2.1 (by decide), updm_at, h.2.2.2.thr⟩
def R_layers (g : Int → Int) (b t r : Int) : Prop := (¬ QIn b 0 (g 3 - 1) ∧ t = 1) ∨ (QIn b 0 (g 3 - 1) ∧ t = 0 ∧ ∃ u l, QBest g u ∧ QLy g u b l ∧ r = l.length)
def R_why (g : Int → Int) (b a x t r : Int) : Prop := (¬ QIn b 0 (g 3 - 1) ∧ t = 1) ∨ (QIn b 0 (g 3 - 1) ∧ ∃ u l, QBest g u ∧ QLy g u b l ∧ ((¬ QIn a 0 ((l.length : Int) - 1) ∧ t = 2) ∨ (QIn a 0 ((l.length : Int) - 1) ∧ ¬ QIn x 0 1 ∧ t = 3) ∨ (QIn a 0 ((l.length : Int) - 1) ∧ QIn x 0 1 ∧ t = 0 ∧ ∃ y z, l[a.toNat]? = some (y, z) ∧ r = if x = 0 then y else z)))
theorem LyR.len {g u : Int → Int} : ∀ {f : Nat} {b : Int} {l : List (Int × Int)}, LyR g u f b l → l.length ≤ f + 1
  | 0, _, _, h => h.elim
  | f + 1, b, l, h => by
    rcases h with ⟨a, k, l', x, y, z⟩ | ⟨a, ⟨e, -⟩ | ⟨c, -, -, -, -, e⟩⟩
    · have := y.len
      rw [z, List.length_cons]
      omega
    · rw [e]; simp
    · rw [e]; simp
theorem QLy.len {g u : Int → Int} {b : Int} {l : List (Int × Int)} (h : QLy g u b l) : l.length ≤ 5 := by
  rcases h with ⟨-, e⟩ | ⟨-, h⟩
  · rw [e]; simp
  · exact h.len
set_option maxRecDepth 100000 in
set_option maxHeartbeats 4000000 in
theorem c_layers (κ : KP) {A : Nat → Nat} {M : MEM} (hA : MA A) (hR : RG M) (hC : CW (M 0)) (hK : QKn M) {b : Int} (rb : rng b) : RM κ mX10_layers 8 A [.ref (A 30), .int (J b)] M (fun r M' => ∃ t, QFy M t M' ∧ R_layers (M 0) b t r) := by
  intro h
  refine mm_of (L := [some _, some _]) (by decide +kernel) rfl rfl (Nat.le_of_ble_eq_true rfl) rfl ?_
  have hW := hC.1
  obtain ⟨⟨y0, y1⟩, ⟨n0, n1⟩, ⟨q0, q1⟩, ⟨m0, m1⟩⟩ := hW.n
  refine r_al0 dX10_layers_0 ?_
  refine r_al0 dX10_layers_1 ?_
  refine r_il1 dX10_layers_2 ?_
  refine m_callP1 dX10_layers_3 v_X10_153 hA (c_isBlock κ _ hA hR (by omega) (by omega) (by omega)) (by decide) rfl ?_
  refine r_ifT_eq (tgt := 13) dX10_layers_6 (by decide) (fun c_6 => ?_) (fun c_6 => ?_)
  · refine r_iconst dX10_layers_13 ?_
    refine m_put dX10_layers_14 f_X10_51 p_X10_51 (ff_14_7 _) hA mfp_7 rfl rfl ?_
    refine r_al0 dX10_layers_17 ?_
    refine m_get dX10_layers_18 f_X10_51 hA rfl ?_
    try simp only [updm_app, cpy_app, Int.reduceEq, Nat.reduceEqDiff, and_true, true_and, false_and, and_false, if_true, if_false, reduceIte]
    refine r_if_le (tgt := 26) dX10_layers_21 (by decide) (by first | omega | decide | exact hR _ _) (fun c_21 => ?_) (fun c_21 => ?_)
    · exact absurd c_21 (by decide)
    · refine r_iconst dX10_layers_24 ?_
      exact r_iret dX10_layers_25 (ty := .int) rfl rfl ⟨_, _, rfl, rfl, 1, (QFx.thr hR hK (by decide)).y, Or.inl ⟨by assumption, rfl⟩⟩
  · refine r_iconst dX10_layers_9 ?_
    refine r_goto (tgt := 14) dX10_layers_10 (by decide) ?_
    refine m_put dX10_layers_14 f_X10_51 p_X10_51 (ff_14_7 _) hA mfp_7 rfl rfl ?_
    refine r_al0 dX10_layers_17 ?_
    refine m_get dX10_layers_18 f_X10_51 hA rfl ?_
    try simp only [updm_app, cpy_app, Int.reduceEq, Nat.reduceEqDiff, and_true, true_and, false_and, and_false, if_true, if_false, reduceIte]
    refine r_if_le (tgt := 26) dX10_layers_21 (by decide) (by first | omega | decide | exact hR _ _) (fun c_21 => ?_) (fun c_21 => ?_)
    · refine r_al0 dX10_layers_26 ?_
      refine r_il1 dX10_layers_27 ?_
      refine m_callU1 dX10_layers_28 v_X10_243 hA (c_findLayers κ hA (RG.up hR (by decide)) (by rw [updm_k (by decide)]; exact hW) hK.thr (b := b) (by unfold QIn at *; omega) (by rw [updm_k (by decide)]; unfold QIn at *; omega)) (by decide) rfl (fun M_28 h_28 => ?_)
      obtain ⟨M1, hfs, hR1, hS1, l, hly, hlen, hmem⟩ := h_28
      have hbest := hfs.2.2.2.1
      rw [updm_k (by decide)] at hbest hly
      have hl5 := hly.len
      refine r_al0 dX10_layers_31 ?_
      refine m_get dX10_layers_32 f_X10_233 hA rfl ?_
      try simp only [updm_app, cpy_app, Int.reduceEq, Nat.reduceEqDiff, and_true, true_and, false_and, and_false, if_true, if_false, reduceIte]
      exact r_iret dX10_layers_35 (ty := .int) rfl rfl ⟨_, _, rfl, rfl, 0, QFy.fl hfs hR1 hS1, Or.inr ⟨by assumption, rfl, _, l, hbest, hly, hlen⟩⟩
    · exact absurd c_21 (by decide)
set_option maxRecDepth 100000 in
set_option maxHeartbeats 4000000 in
theorem c_why (κ : KP) {A : Nat → Nat} {M : MEM} (hA : MA A) (hR : RG M) (hC : CW (M 0)) (hK : QKn M) {b a x : Int} (rb : rng b) (ra : rng a) (rx : rng x) : RM κ mX10_why 8 A [.ref (A 30), .int (J b), .int (J a), .int (J x)] M (fun r M' => ∃ t, QFy M t M' ∧ R_why (M 0) b a x t r) := by
  intro h
  refine mm_of (L := [some _, some _, some _, some _]) (by decide +kernel) rfl rfl (Nat.le_of_ble_eq_true rfl) rfl ?_
  have hW := hC.1
  obtain ⟨⟨y0, y1⟩, ⟨n0, n1⟩, ⟨q0, q1⟩, ⟨m0, m1⟩⟩ := hW.n
  refine r_al0 dX10_why_0 ?_
  refine r_al0 dX10_why_1 ?_
  refine r_il1 dX10_why_2 ?_
  refine m_callP1 dX10_why_3 v_X10_153 hA (c_isBlock κ _ hA hR (by omega) (by omega) (by omega)) (by decide) rfl ?_
  refine r_ifT_eq (tgt := 13) dX10_why_6 (by decide) (fun c_6 => ?_) (fun c_6 => ?_)
  · refine r_iconst dX10_why_13 ?_
    refine m_put dX10_why_14 f_X10_51 p_X10_51 (ff_14_7 _) hA mfp_7 rfl rfl ?_
    refine r_al0 dX10_why_17 ?_
    refine m_get dX10_why_18 f_X10_51 hA rfl ?_
    try simp only [updm_app, Int.reduceEq, Nat.reduceEqDiff, and_true, true_and, false_and, and_false, if_true, if_false, reduceIte]
    refine r_if_le (tgt := 26) dX10_why_21 (by decide) (by first | omega | decide | exact hR _ _ | exact hR1 _ _) (fun c_21 => ?_) (fun c_21 => ?_)
    · exact absurd c_21 (by decide)
    · refine r_iconst dX10_why_24 ?_
      exact r_iret dX10_why_25 (ty := .int) rfl rfl ⟨_, _, rfl, rfl, 1, (QFx.thr hR hK (by decide)).y, Or.inl ⟨by assumption, rfl⟩⟩
  · refine r_iconst dX10_why_9 ?_
    refine r_goto (tgt := 14) dX10_why_10 (by decide) ?_
    refine m_put dX10_why_14 f_X10_51 p_X10_51 (ff_14_7 _) hA mfp_7 rfl rfl ?_
    refine r_al0 dX10_why_17 ?_
    refine m_get dX10_why_18 f_X10_51 hA rfl ?_
    try simp only [updm_app, Int.reduceEq, Nat.reduceEqDiff, and_true, true_and, false_and, and_false, if_true, if_false, reduceIte]
    refine r_if_le (tgt := 26) dX10_why_21 (by decide) (by first | omega | decide | exact hR _ _ | exact hR1 _ _) (fun c_21 => ?_) (fun c_21 => ?_)
    · refine r_al0 dX10_why_26 ?_
      refine r_il1 dX10_why_27 ?_
      refine m_callU1 dX10_why_28 v_X10_243 hA (c_findLayers κ hA (RG.up hR (by decide)) (by rw [updm_k (by decide)]; exact hW) hK.thr (b := b) (by unfold QIn at *; omega) (by rw [updm_k (by decide)]; unfold QIn at *; omega)) (by decide) rfl (fun M_28 h_28 => ?_)
      obtain ⟨M1, hfs, hR1, hS1, l, hly, hlen, hmem⟩ := h_28
      have hbest := hfs.2.2.2.1
      rw [updm_k (by decide)] at hbest hly
      have hl5 := hly.len
      refine r_al0 dX10_why_31 ?_
      refine r_il2 dX10_why_32 ?_
      refine r_iconst dX10_why_33 ?_
      refine r_al0 dX10_why_34 ?_
      refine m_get dX10_why_35 f_X10_233 hA rfl ?_
      try simp only [updm_app, Int.reduceEq, Nat.reduceEqDiff, and_true, true_and, false_and, and_false, if_true, if_false, reduceIte]
      refine r_iconst dX10_why_38 ?_
      refine r_isub dX10_why_39 ?_
      refine r_callSP3 dX10_why_40 s_X10_61 (c_in κ _ (by omega) (by omega) (by first | omega | (rw [hlen]; omega))) (by decide) rfl ?_
      try rw [hlen]
      refine r_ifT_ne (tgt := 50) dX10_why_43 (by decide) (fun c_43 => ?_) (fun c_43 => ?_)
      · refine r_il3 dX10_why_50 ?_
        refine r_iconst dX10_why_51 ?_
        refine r_iconst dX10_why_52 ?_
        refine r_callSP3 dX10_why_53 s_X10_61 (c_in κ _ (by omega) (by omega) (by first | omega | (rw [hlen]; omega))) (by decide) rfl ?_
        try rw [hlen]
        refine r_ifT_eq (tgt := 63) dX10_why_56 (by decide) (fun c_56 => ?_) (fun c_56 => ?_)
        · refine r_iconst dX10_why_63 ?_
          refine m_put dX10_why_64 f_X10_51 p_X10_51 (ff_14_7 _) hA mfp_7 rfl rfl ?_
          refine r_al0 dX10_why_67 ?_
          refine m_get dX10_why_68 f_X10_51 hA rfl ?_
          try simp only [updm_app, Int.reduceEq, Nat.reduceEqDiff, and_true, true_and, false_and, and_false, if_true, if_false, reduceIte]
          refine r_if_le (tgt := 78) dX10_why_71 (by decide) (by first | omega | decide | exact hR _ _ | exact hR1 _ _) (fun c_71 => ?_) (fun c_71 => ?_)
          · exact absurd c_71 (by decide)
          · refine r_iconst dX10_why_74 ?_
            refine r_goto (tgt := 88) dX10_why_75 (by decide) ?_
            first
              | exact r_iret dX10_why_88 (ty := .int) rfl rfl ⟨_, _, rfl, rfl, 2, (QFy.fl hfs hR1 hS1).t (by decide), Or.inr ⟨by assumption, _, l, hbest, hly, Or.inl ⟨by assumption, rfl⟩⟩⟩
              | exact r_iret dX10_why_88 (ty := .int) rfl rfl ⟨_, _, rfl, rfl, 3, (QFy.fl hfs hR1 hS1).t (by decide), Or.inr ⟨by assumption, _, l, hbest, hly, Or.inr (Or.inl ⟨by assumption, by assumption, rfl⟩)⟩⟩
              | (have ha : a.toNat < l.length := by unfold QIn at *; omega
                 refine r_iret dX10_why_88 (ty := .int) rfl rfl ⟨_, _, rfl, rfl, 0, (QFy.fl hfs hR1 hS1).t (by decide), Or.inr ⟨by assumption, _, l, hbest, hly, Or.inr (Or.inr ⟨by assumption, by assumption, rfl, l[a.toNat].1, l[a.toNat].2, List.getElem?_eq_getElem ha, ?_⟩)⟩⟩
                 have hm := hmem a.toNat _ _ (List.getElem?_eq_getElem ha)
                 rw [show (0 : Int) + (a.toNat : Int) = a by unfold QIn at *; omega] at hm
                 rcases (show x = 0 ∨ x = 1 by unfold QIn at *; omega) with rfl | rfl
                 · rw [if_pos rfl, show 2 * a + 0 = 2 * a by omega]; exact hm.1
                 · rw [if_neg (by decide)]; exact hm.2)
        · refine r_iconst dX10_why_59 ?_
          refine r_goto (tgt := 64) dX10_why_60 (by decide) ?_
          refine m_put dX10_why_64 f_X10_51 p_X10_51 (ff_14_7 _) hA mfp_7 rfl rfl ?_
          refine r_al0 dX10_why_67 ?_
          refine m_get dX10_why_68 f_X10_51 hA rfl ?_
          try simp only [updm_app, Int.reduceEq, Nat.reduceEqDiff, and_true, true_and, false_and, and_false, if_true, if_false, reduceIte]
          refine r_if_le (tgt := 78) dX10_why_71 (by decide) (by first | omega | decide | exact hR _ _ | exact hR1 _ _) (fun c_71 => ?_) (fun c_71 => ?_)
          · refine r_al0 dX10_why_78 ?_
            refine m_get dX10_why_79 f_X10_48 hA rfl ?_
            refine r_iconst dX10_why_82 ?_
            refine r_il2 dX10_why_83 ?_
            refine r_imul dX10_why_84 ?_
            refine r_il3 dX10_why_85 ?_
            refine r_iadd dX10_why_86 ?_
            refine m_ald dX10_why_87 hA (by decide) rfl (by first | omega | (simp only [mlen]; omega) | (unfold QIn at *; omega) | (simp only [mlen]; unfold QIn at *; omega)) (by first | omega | (simp only [mlen]; omega) | (unfold QIn at *; omega) | (simp only [mlen]; unfold QIn at *; omega)) ?_
            try simp only [updm_app, Int.reduceEq, Nat.reduceEqDiff, and_true, true_and, false_and, and_false, if_true, if_false, reduceIte]
            first
              | exact r_iret dX10_why_88 (ty := .int) rfl rfl ⟨_, _, rfl, rfl, 2, (QFy.fl hfs hR1 hS1).t (by decide), Or.inr ⟨by assumption, _, l, hbest, hly, Or.inl ⟨by assumption, rfl⟩⟩⟩
              | exact r_iret dX10_why_88 (ty := .int) rfl rfl ⟨_, _, rfl, rfl, 3, (QFy.fl hfs hR1 hS1).t (by decide), Or.inr ⟨by assumption, _, l, hbest, hly, Or.inr (Or.inl ⟨by assumption, by assumption, rfl⟩)⟩⟩
              | (have ha : a.toNat < l.length := by unfold QIn at *; omega
                 refine r_iret dX10_why_88 (ty := .int) rfl rfl ⟨_, _, rfl, rfl, 0, (QFy.fl hfs hR1 hS1).t (by decide), Or.inr ⟨by assumption, _, l, hbest, hly, Or.inr (Or.inr ⟨by assumption, by assumption, rfl, l[a.toNat].1, l[a.toNat].2, List.getElem?_eq_getElem ha, ?_⟩)⟩⟩
                 have hm := hmem a.toNat _ _ (List.getElem?_eq_getElem ha)
                 rw [show (0 : Int) + (a.toNat : Int) = a by unfold QIn at *; omega] at hm
                 rcases (show x = 0 ∨ x = 1 by unfold QIn at *; omega) with rfl | rfl
                 · rw [if_pos rfl, show 2 * a + 0 = 2 * a by omega]; exact hm.1
                 · rw [if_neg (by decide)]; exact hm.2)
          · exact absurd c_71 (by decide)
      · refine r_iconst dX10_why_46 ?_
        refine r_goto (tgt := 64) dX10_why_47 (by decide) ?_
        refine m_put dX10_why_64 f_X10_51 p_X10_51 (ff_14_7 _) hA mfp_7 rfl rfl ?_
        refine r_al0 dX10_why_67 ?_
        refine m_get dX10_why_68 f_X10_51 hA rfl ?_
        try simp only [updm_app, Int.reduceEq, Nat.reduceEqDiff, and_true, true_and, false_and, and_false, if_true, if_false, reduceIte]
        refine r_if_le (tgt := 78) dX10_why_71 (by decide) (by first | omega | decide | exact hR _ _ | exact hR1 _ _) (fun c_71 => ?_) (fun c_71 => ?_)
        · exact absurd c_71 (by decide)
        · refine r_iconst dX10_why_74 ?_
          refine r_goto (tgt := 88) dX10_why_75 (by decide) ?_
          first
            | exact r_iret dX10_why_88 (ty := .int) rfl rfl ⟨_, _, rfl, rfl, 2, (QFy.fl hfs hR1 hS1).t (by decide), Or.inr ⟨by assumption, _, l, hbest, hly, Or.inl ⟨by assumption, rfl⟩⟩⟩
            | exact r_iret dX10_why_88 (ty := .int) rfl rfl ⟨_, _, rfl, rfl, 3, (QFy.fl hfs hR1 hS1).t (by decide), Or.inr ⟨by assumption, _, l, hbest, hly, Or.inr (Or.inl ⟨by assumption, by assumption, rfl⟩)⟩⟩
            | (have ha : a.toNat < l.length := by unfold QIn at *; omega
               refine r_iret dX10_why_88 (ty := .int) rfl rfl ⟨_, _, rfl, rfl, 0, (QFy.fl hfs hR1 hS1).t (by decide), Or.inr ⟨by assumption, _, l, hbest, hly, Or.inr (Or.inr ⟨by assumption, by assumption, rfl, l[a.toNat].1, l[a.toNat].2, List.getElem?_eq_getElem ha, ?_⟩)⟩⟩
               have hm := hmem a.toNat _ _ (List.getElem?_eq_getElem ha)
               rw [show (0 : Int) + (a.toNat : Int) = a by unfold QIn at *; omega] at hm
               rcases (show x = 0 ∨ x = 1 by unfold QIn at *; omega) with rfl | rfl
               · rw [if_pos rfl, show 2 * a + 0 = 2 * a by omega]; exact hm.1
               · rw [if_neg (by decide)]; exact hm.2)
    · exact absurd c_21 (by decide)
