/-! ===== the model: reads ===== -/
set_option maxRecDepth 100000 in
set_option maxHeartbeats 4000000 in
theorem c_expires (κ : KP) {A : Nat → Nat} {M : MEM} (hA : MA A) (hR : RG M) (hW : WF (M 0)) (p0 : 0 ≤ M 30 5) (p1 : M 30 5 ≤ 8) {c b : Int} (rc : rng c) (rb : rng b) : RM κ mX10_expires 4 A [.ref (A 30), .int (J c), .int (J b)] M (fun r M' => (¬ (QIn c 0 (M 0 1 - 1) ∧ QIn b 0 (M 0 3 - 1)) ∧ XThr M 1 M') ∨ ((QIn c 0 (M 0 1 - 1) ∧ QIn b 0 (M 0 3 - 1)) ∧ QGr (M 0) b ∧ XThr M 2 M') ∨ ((QIn c 0 (M 0 1 - 1) ∧ QIn b 0 (M 0 3 - 1)) ∧ ¬ QGr (M 0) b ∧ r = (if 60 < M 0 (4 + 4 * c + 3) + M 0 (60 + 12 * b + 3) then 60 else M 0 (4 + 4 * c + 3) + M 0 (60 + 12 * b + 3)) ∧ XThr M 0 M')) := by
  intro h
  refine mm_of (L := [some _, some _, some _, none]) (by decide +kernel) rfl rfl (Nat.le_of_ble_eq_true rfl) rfl ?_
  obtain ⟨⟨y0, y1⟩, ⟨n0, n1⟩, ⟨e0, e1⟩, ⟨m0, m1⟩⟩ := hW.n
  refine r_al0 dX10_expires_0 ?_
  refine r_al0 dX10_expires_1 ?_
  refine r_il1 dX10_expires_2 ?_
  refine m_callP1 dX10_expires_3 v_X10_143 hA (c_isCredit κ _ hA hR (by omega) (by omega) (by omega)) (by decide) rfl ?_
  refine r_ifT_eq (tgt := 33) dX10_expires_6 (by decide) (fun c_6 => ?_) (fun c_6 => ?_)
  · refine r_iconst dX10_expires_33 ?_
    refine m_put dX10_expires_34 f_X10_51 p_X10_51 (ff_14_7 _) hA mfp_7 rfl rfl ?_
    refine r_al0 dX10_expires_37 ?_
    refine m_get dX10_expires_38 f_X10_51 hA rfl ?_
    try simp only [updm_app, cpy_app, Int.reduceEq, Nat.reduceEqDiff, and_true, true_and, false_and, and_false, if_true, if_false, reduceIte]
    refine r_if_le (tgt := 46) dX10_expires_41 (by decide) (by first | omega | decide | exact hR _ _ | (unfold QIn at *; omega)) (fun c_41 => ?_) (fun c_41 => ?_)
    · exact absurd c_41 (by decide)
    · refine r_iconst dX10_expires_44 ?_
      first
        | (refine r_iret dX10_expires_45 (ty := .int) rfl rfl ⟨_, _, rfl, rfl, ?_⟩; first | exact Or.inl ⟨(fun z => by first | exact absurd z.1 (by assumption) | exact absurd z.2 (by assumption)), rfl⟩ | exact Or.inr (Or.inl ⟨⟨by assumption, by assumption⟩, by assumption, rfl⟩))
        | (refine r_iret dX10_expires_45 (ty := .int) rfl rfl ⟨_, _, rfl, rfl, Or.inr (Or.inr ⟨⟨by assumption, by assumption⟩, by assumption, ?_, rfl⟩)⟩; (split <;> omega))
  · refine r_al0 dX10_expires_9 ?_
    refine r_il2 dX10_expires_10 ?_
    refine m_callP1 dX10_expires_11 v_X10_153 hA (c_isBlock κ _ hA hR (by omega) (by omega) (by omega)) (by decide) rfl ?_
    refine r_ifT_eq (tgt := 33) dX10_expires_14 (by decide) (fun c_14 => ?_) (fun c_14 => ?_)
    · refine r_iconst dX10_expires_33 ?_
      refine m_put dX10_expires_34 f_X10_51 p_X10_51 (ff_14_7 _) hA mfp_7 rfl rfl ?_
      refine r_al0 dX10_expires_37 ?_
      refine m_get dX10_expires_38 f_X10_51 hA rfl ?_
      try simp only [updm_app, cpy_app, Int.reduceEq, Nat.reduceEqDiff, and_true, true_and, false_and, and_false, if_true, if_false, reduceIte]
      refine r_if_le (tgt := 46) dX10_expires_41 (by decide) (by first | omega | decide | exact hR _ _ | (unfold QIn at *; omega)) (fun c_41 => ?_) (fun c_41 => ?_)
      · exact absurd c_41 (by decide)
      · refine r_iconst dX10_expires_44 ?_
        first
          | (refine r_iret dX10_expires_45 (ty := .int) rfl rfl ⟨_, _, rfl, rfl, ?_⟩; first | exact Or.inl ⟨(fun z => by first | exact absurd z.1 (by assumption) | exact absurd z.2 (by assumption)), rfl⟩ | exact Or.inr (Or.inl ⟨⟨by assumption, by assumption⟩, by assumption, rfl⟩))
          | (refine r_iret dX10_expires_45 (ty := .int) rfl rfl ⟨_, _, rfl, rfl, Or.inr (Or.inr ⟨⟨by assumption, by assumption⟩, by assumption, ?_, rfl⟩)⟩; (split <;> omega))
    · refine r_al0 dX10_expires_17 ?_
      refine r_il2 dX10_expires_18 ?_
      refine m_callP1 dX10_expires_19 v_X10_86 hA (c_isGroup κ _ hA hR (by unfold QIn at *; omega) (by unfold QIn at *; omega)) (by decide) rfl ?_
      refine r_ifT_eq (tgt := 29) dX10_expires_22 (by decide) (fun c_22 => ?_) (fun c_22 => ?_)
      · refine r_iconst dX10_expires_29 ?_
        refine r_goto (tgt := 34) dX10_expires_30 (by decide) ?_
        refine m_put dX10_expires_34 f_X10_51 p_X10_51 (ff_14_7 _) hA mfp_7 rfl rfl ?_
        refine r_al0 dX10_expires_37 ?_
        refine m_get dX10_expires_38 f_X10_51 hA rfl ?_
        try simp only [updm_app, cpy_app, Int.reduceEq, Nat.reduceEqDiff, and_true, true_and, false_and, and_false, if_true, if_false, reduceIte]
        refine r_if_le (tgt := 46) dX10_expires_41 (by decide) (by first | omega | decide | exact hR _ _ | (unfold QIn at *; omega)) (fun c_41 => ?_) (fun c_41 => ?_)
        · refine r_al0 dX10_expires_46 ?_
          refine m_get dX10_expires_47 f_X10_7 hA rfl ?_
          refine r_il1 dX10_expires_50 ?_
          refine r_iconst dX10_expires_51 ?_
          refine r_callSP2 dX10_expires_52 s_X10_83 (c_creditAt κ _) (by decide) rfl ?_
          refine m_ald dX10_expires_55 hA (by decide) rfl (by first | omega | (unfold QIn at *; omega) | (simp only [mlen]; unfold QIn at *; omega) | (simp only [mlen]; omega)) (by first | omega | (unfold QIn at *; omega) | (simp only [mlen]; unfold QIn at *; omega) | (simp only [mlen]; omega)) ?_
          try simp only [updm_app, cpy_app, Int.reduceEq, Nat.reduceEqDiff, and_true, true_and, false_and, and_false, if_true, if_false, reduceIte]
          refine r_al0 dX10_expires_56 ?_
          refine m_get dX10_expires_57 f_X10_7 hA rfl ?_
          refine r_il2 dX10_expires_60 ?_
          refine r_iconst dX10_expires_61 ?_
          refine r_callSP2 dX10_expires_62 s_X10_65 (c_blockAt κ _) (by decide) rfl ?_
          refine m_ald dX10_expires_65 hA (by decide) rfl (by first | omega | (unfold QIn at *; omega) | (simp only [mlen]; unfold QIn at *; omega) | (simp only [mlen]; omega)) (by first | omega | (unfold QIn at *; omega) | (simp only [mlen]; unfold QIn at *; omega) | (simp only [mlen]; omega)) ?_
          try simp only [updm_app, cpy_app, Int.reduceEq, Nat.reduceEqDiff, and_true, true_and, false_and, and_false, if_true, if_false, reduceIte]
          refine r_iadd dX10_expires_66 ?_
          refine r_is3 dX10_expires_67 rfl ?_
          refine r_il3 dX10_expires_68 ?_
          refine r_bipush dX10_expires_69 (by decide) ?_
          have hc := hW.c (c := c) (by unfold QIn at *; omega) (by unfold QIn at *; omega)
          have hb := hW.b (b := b) (by unfold QIn at *; omega) (by unfold QIn at *; omega)
          unfold WFc at hc
          unfold WFb at hb
          refine r_icmp_le (tgt := 79) dX10_expires_71 (by decide) (by first | omega | decide | exact hR _ _ | (unfold QIn at *; omega)) (by first | omega | decide | exact hR _ _ | (unfold QIn at *; omega)) (fun c_71 => ?_) (fun c_71 => ?_)
          · refine r_il3 dX10_expires_79 ?_
            first
              | (refine r_iret dX10_expires_80 (ty := .int) rfl rfl ⟨_, _, rfl, rfl, ?_⟩; first | exact Or.inl ⟨(fun z => by first | exact absurd z.1 (by assumption) | exact absurd z.2 (by assumption)), rfl⟩ | exact Or.inr (Or.inl ⟨⟨by assumption, by assumption⟩, by assumption, rfl⟩))
              | (refine r_iret dX10_expires_80 (ty := .int) rfl rfl ⟨_, _, rfl, rfl, Or.inr (Or.inr ⟨⟨by assumption, by assumption⟩, by assumption, ?_, rfl⟩)⟩; (split <;> omega))
          · refine r_bipush dX10_expires_74 (by decide) ?_
            refine r_goto (tgt := 80) dX10_expires_76 (by decide) ?_
            first
              | (refine r_iret dX10_expires_80 (ty := .int) rfl rfl ⟨_, _, rfl, rfl, ?_⟩; first | exact Or.inl ⟨(fun z => by first | exact absurd z.1 (by assumption) | exact absurd z.2 (by assumption)), rfl⟩ | exact Or.inr (Or.inl ⟨⟨by assumption, by assumption⟩, by assumption, rfl⟩))
              | (refine r_iret dX10_expires_80 (ty := .int) rfl rfl ⟨_, _, rfl, rfl, Or.inr (Or.inr ⟨⟨by assumption, by assumption⟩, by assumption, ?_, rfl⟩)⟩; (split <;> omega))
        · exact absurd c_41 (by decide)
      · refine r_iconst dX10_expires_25 ?_
        refine r_goto (tgt := 34) dX10_expires_26 (by decide) ?_
        refine m_put dX10_expires_34 f_X10_51 p_X10_51 (ff_14_7 _) hA mfp_7 rfl rfl ?_
        refine r_al0 dX10_expires_37 ?_
        refine m_get dX10_expires_38 f_X10_51 hA rfl ?_
        try simp only [updm_app, cpy_app, Int.reduceEq, Nat.reduceEqDiff, and_true, true_and, false_and, and_false, if_true, if_false, reduceIte]
        refine r_if_le (tgt := 46) dX10_expires_41 (by decide) (by first | omega | decide | exact hR _ _ | (unfold QIn at *; omega)) (fun c_41 => ?_) (fun c_41 => ?_)
        · exact absurd c_41 (by decide)
        · refine r_iconst dX10_expires_44 ?_
          first
            | (refine r_iret dX10_expires_45 (ty := .int) rfl rfl ⟨_, _, rfl, rfl, ?_⟩; first | exact Or.inl ⟨(fun z => by first | exact absurd z.1 (by assumption) | exact absurd z.2 (by assumption)), rfl⟩ | exact Or.inr (Or.inl ⟨⟨by assumption, by assumption⟩, by assumption, rfl⟩))
            | (refine r_iret dX10_expires_45 (ty := .int) rfl rfl ⟨_, _, rfl, rfl, Or.inr (Or.inr ⟨⟨by assumption, by assumption⟩, by assumption, ?_, rfl⟩)⟩; (split <;> omega))
theorem eq_char {g : Int → Int} (hW : WF g) {e k : Int} (e0 : 0 ≤ e) (e1 : e < g 2) (k0 : 0 ≤ k) (k1 : k ≤ 3) : 0 ≤ g (28 + 4 * e + k) ∧ g (28 + 4 * e + k) < 65536 := by
  have h := hW.e e0 e1
  unfold WFe QCap QLow at h
  rcases (show k = 0 ∨ k = 1 ∨ k = 2 ∨ k = 3 by omega) with rfl | rfl | rfl | rfl <;> omega
set_option maxRecDepth 100000 in
set_option maxHeartbeats 4000000 in
theorem c_equivalent (κ : KP) {A : Nat → Nat} {M : MEM} (hA : MA A) (hR : RG M) (hW : WF (M 0)) (p0 : 0 ≤ M 30 5) (p1 : M 30 5 ≤ 8) {c k : Int} (rc : rng c) (rk : rng k) : RM κ mX10_equivalent 4 A [.ref (A 30), .int (J c), .int (J k)] M (fun r M' => (¬ QIn c 0 (M 0 2 - 1) ∧ XThr M 1 M') ∨ (QIn c 0 (M 0 2 - 1) ∧ ¬ QIn k 0 3 ∧ XThr M 2 M') ∨ (QIn c 0 (M 0 2 - 1) ∧ QIn k 0 3 ∧ r = M 0 (28 + 4 * c + k) ∧ XThr M 0 M')) := by
  intro h
  refine mm_of (L := [some _, some _, some _]) (by decide +kernel) rfl rfl (Nat.le_of_ble_eq_true rfl) rfl ?_
  obtain ⟨⟨y0, y1⟩, ⟨n0, n1⟩, ⟨e0, e1⟩, ⟨m0, m1⟩⟩ := hW.n
  refine r_al0 dX10_equivalent_0 ?_
  refine r_al0 dX10_equivalent_1 ?_
  refine r_il1 dX10_equivalent_2 ?_
  refine m_callP1 dX10_equivalent_3 v_X10_159 hA (c_isEqual κ _ hA hR (by omega) (by omega) (by omega)) (by decide) rfl ?_
  refine r_ifT_eq (tgt := 26) dX10_equivalent_6 (by decide) (fun c_6 => ?_) (fun c_6 => ?_)
  · refine r_iconst dX10_equivalent_26 ?_
    refine m_put dX10_equivalent_27 f_X10_51 p_X10_51 (ff_14_7 _) hA mfp_7 rfl rfl ?_
    refine r_al0 dX10_equivalent_30 ?_
    refine m_get dX10_equivalent_31 f_X10_51 hA rfl ?_
    try simp only [updm_app, cpy_app, Int.reduceEq, Nat.reduceEqDiff, and_true, true_and, false_and, and_false, if_true, if_false, reduceIte]
    refine r_if_le (tgt := 42) dX10_equivalent_34 (by decide) (by first | omega | decide | exact hR _ _ | (unfold QIn at *; omega)) (fun c_34 => ?_) (fun c_34 => ?_)
    · exact absurd c_34 (by decide)
    · refine r_bipush dX10_equivalent_37 (by decide) ?_
      refine r_goto (tgt := 52) dX10_equivalent_39 (by decide) ?_
      refine r_i2cJ dX10_equivalent_52 (by first | omega | exact eq_char hW (by unfold QIn at *; omega) (by unfold QIn at *; omega) (by unfold QIn at *; omega) (by unfold QIn at *; omega)) ?_
      first
        | (refine r_iret dX10_equivalent_53 (ty := .char) rfl (nar_C (by omega) (by omega)).1 ⟨_, _, rfl, rfl, ?_⟩; first | exact Or.inl ⟨by assumption, rfl⟩ | exact Or.inr (Or.inl ⟨by assumption, by assumption, rfl⟩))
        | (have hr := eq_char hW (e := c) (k := k) (by unfold QIn at *; omega) (by unfold QIn at *; omega) (by unfold QIn at *; omega) (by unfold QIn at *; omega); refine r_iret dX10_equivalent_53 (ty := .char) rfl (nar_C hr.1 hr.2).1 ⟨_, _, rfl, rfl, ?_⟩; exact Or.inr (Or.inr ⟨by assumption, by assumption, rfl, rfl⟩))
  · refine r_il2 dX10_equivalent_9 ?_
    refine r_iconst dX10_equivalent_10 ?_
    refine r_iconst dX10_equivalent_11 ?_
    refine r_callSP3 dX10_equivalent_12 s_X10_61 (c_in κ _ (by first | omega | exact hR _ _) (by first | omega | exact hR _ _) (by first | omega | exact hR _ _)) (by decide) rfl ?_
    refine r_ifT_eq (tgt := 22) dX10_equivalent_15 (by decide) (fun c_15 => ?_) (fun c_15 => ?_)
    · refine r_iconst dX10_equivalent_22 ?_
      refine r_goto (tgt := 27) dX10_equivalent_23 (by decide) ?_
      refine m_put dX10_equivalent_27 f_X10_51 p_X10_51 (ff_14_7 _) hA mfp_7 rfl rfl ?_
      refine r_al0 dX10_equivalent_30 ?_
      refine m_get dX10_equivalent_31 f_X10_51 hA rfl ?_
      try simp only [updm_app, cpy_app, Int.reduceEq, Nat.reduceEqDiff, and_true, true_and, false_and, and_false, if_true, if_false, reduceIte]
      refine r_if_le (tgt := 42) dX10_equivalent_34 (by decide) (by first | omega | decide | exact hR _ _ | (unfold QIn at *; omega)) (fun c_34 => ?_) (fun c_34 => ?_)
      · exact absurd c_34 (by decide)
      · refine r_bipush dX10_equivalent_37 (by decide) ?_
        refine r_goto (tgt := 52) dX10_equivalent_39 (by decide) ?_
        refine r_i2cJ dX10_equivalent_52 (by first | omega | exact eq_char hW (by unfold QIn at *; omega) (by unfold QIn at *; omega) (by unfold QIn at *; omega) (by unfold QIn at *; omega)) ?_
        first
          | (refine r_iret dX10_equivalent_53 (ty := .char) rfl (nar_C (by omega) (by omega)).1 ⟨_, _, rfl, rfl, ?_⟩; first | exact Or.inl ⟨by assumption, rfl⟩ | exact Or.inr (Or.inl ⟨by assumption, by assumption, rfl⟩))
          | (have hr := eq_char hW (e := c) (k := k) (by unfold QIn at *; omega) (by unfold QIn at *; omega) (by unfold QIn at *; omega) (by unfold QIn at *; omega); refine r_iret dX10_equivalent_53 (ty := .char) rfl (nar_C hr.1 hr.2).1 ⟨_, _, rfl, rfl, ?_⟩; exact Or.inr (Or.inr ⟨by assumption, by assumption, rfl, rfl⟩))
    · refine r_iconst dX10_equivalent_18 ?_
      refine r_goto (tgt := 27) dX10_equivalent_19 (by decide) ?_
      refine m_put dX10_equivalent_27 f_X10_51 p_X10_51 (ff_14_7 _) hA mfp_7 rfl rfl ?_
      refine r_al0 dX10_equivalent_30 ?_
      refine m_get dX10_equivalent_31 f_X10_51 hA rfl ?_
      try simp only [updm_app, cpy_app, Int.reduceEq, Nat.reduceEqDiff, and_true, true_and, false_and, and_false, if_true, if_false, reduceIte]
      refine r_if_le (tgt := 42) dX10_equivalent_34 (by decide) (by first | omega | decide | exact hR _ _ | (unfold QIn at *; omega)) (fun c_34 => ?_) (fun c_34 => ?_)
      · refine r_al0 dX10_equivalent_42 ?_
        refine m_get dX10_equivalent_43 f_X10_7 hA rfl ?_
        refine r_il1 dX10_equivalent_46 ?_
        refine r_il2 dX10_equivalent_47 ?_
        refine r_callSP2 dX10_equivalent_48 s_X10_156 (c_equalAt κ _) (by decide) rfl ?_
        refine m_ald dX10_equivalent_51 hA (by decide) rfl (by first | omega | (unfold QIn at *; omega) | (simp only [mlen]; unfold QIn at *; omega) | (simp only [mlen]; omega)) (by first | omega | (unfold QIn at *; omega) | (simp only [mlen]; unfold QIn at *; omega) | (simp only [mlen]; omega)) ?_
        try simp only [updm_app, cpy_app, Int.reduceEq, Nat.reduceEqDiff, and_true, true_and, false_and, and_false, if_true, if_false, reduceIte]
        refine r_i2cJ dX10_equivalent_52 (by first | omega | exact eq_char hW (by unfold QIn at *; omega) (by unfold QIn at *; omega) (by unfold QIn at *; omega) (by unfold QIn at *; omega)) ?_
        first
          | (refine r_iret dX10_equivalent_53 (ty := .char) rfl (nar_C (by omega) (by omega)).1 ⟨_, _, rfl, rfl, ?_⟩; first | exact Or.inl ⟨by assumption, rfl⟩ | exact Or.inr (Or.inl ⟨by assumption, by assumption, rfl⟩))
          | (have hr := eq_char hW (e := c) (k := k) (by unfold QIn at *; omega) (by unfold QIn at *; omega) (by unfold QIn at *; omega) (by unfold QIn at *; omega); refine r_iret dX10_equivalent_53 (ty := .char) rfl (nar_C hr.1 hr.2).1 ⟨_, _, rfl, rfl, ?_⟩; exact Or.inr (Or.inr ⟨by assumption, by assumption, rfl, rfl⟩))
      · exact absurd c_34 (by decide)
def QEqv (a b c e : Int) : Prop := QCap a ∧ (b = 32 ∨ (QCap b ∧ b ≠ a)) ∧ QLow c ∧ (e = 32 ∨ (QLow e ∧ e ≠ c))
set_option maxRecDepth 100000 in
set_option maxHeartbeats 4000000 in
theorem l_addEq (κ : KP) {A : Nat → Nat} {M : MEM} (h : AH) (hA : MA A) (hR : RG M) (hW : WF (M 0)) (p0 : 0 ≤ M 30 5) (p1 : M 30 5 ≤ 8) {a b c e : Int} (ra : rng a) (rb : rng b) (rc : rng c) (re : rng e) {z : Bool} (hz : z = true ↔ QEqv a b c e) : WW κ mX10_addEquivalence 4 0 0 (fun v h' => ∃ r M', v = some (.int (J r)) ∧ h' = mset A M' h ∧ (fun r M' => (¬ QEqv a b c e ∧ XThr M 1 M') ∨ (QEqv a b c e ∧ M 0 2 = 8 ∧ XThr M 2 M') ∨ (QEqv a b c e ∧ M 0 2 ≠ 8 ∧ r = M 0 2 ∧ QNew M (geq (M 0) a b c e) M')) r M') NoX 60 [some (.ref (A 30)), some (.int (J a)), some (.int (J b)), some (.int (J c)), some (.int (J e)), some (.int (J (bI z))), none] [] (mset A M h) := by
  obtain ⟨⟨y0, y1⟩, ⟨n0, n1⟩, ⟨q0, q1⟩, ⟨m0, m1⟩⟩ := hW.n
  refine r_al0 dX10_addEquivalence_60 ?_
  refine r_il5 dX10_addEquivalence_61 ?_
  refine r_ifB_ne (tgt := 70) dX10_addEquivalence_63 (by decide) (fun c_63 => ?_) (fun c_63 => ?_)
  · refine r_al0 dX10_addEquivalence_70 ?_
    refine m_get dX10_addEquivalence_71 f_X10_7 hA rfl ?_
    refine r_iconst dX10_addEquivalence_74 ?_
    refine m_ald dX10_addEquivalence_75 hA (by decide) rfl (by first | omega | (rw [e0_99]; omega) | (simp only [mlen]; rw [e0_99]; omega) | (simp only [mlen]; omega)) (by first | omega | (rw [e0_99]; omega) | (simp only [mlen]; rw [e0_99]; omega) | (simp only [mlen]; omega)) ?_
    refine r_bipush dX10_addEquivalence_76 (by decide) ?_
    refine r_icmp_ne (tgt := 85) dX10_addEquivalence_78 (by decide) (by first | omega | decide) (by first | omega | decide) (fun c_78 => ?_) (fun c_78 => ?_)
    · refine r_iconst dX10_addEquivalence_85 ?_
      refine m_put dX10_addEquivalence_86 f_X10_51 p_X10_51 (ff_14_7 _) hA mfp_7 rfl rfl ?_
      refine r_al0 dX10_addEquivalence_89 ?_
      refine m_get dX10_addEquivalence_90 f_X10_51 hA rfl ?_
      try simp only [updm_app, cpy_app, Int.reduceEq, Nat.reduceEqDiff, and_true, true_and, false_and, and_false, if_true, if_false, reduceIte]
      refine r_if_le (tgt := 98) dX10_addEquivalence_93 (by decide) (by first | omega | decide) (fun c_93 => ?_) (fun c_93 => ?_)
      · refine r_al0 dX10_addEquivalence_98 ?_
        refine m_callU0 dX10_addEquivalence_99 v_X10_136 hA (c_changes κ hA (hR.up (by decide)) (by simp only [updm_app, Int.reduceEq, Nat.reduceEqDiff, and_false, if_false, reduceIte]; omega) (by simp only [updm_app, Int.reduceEq, Nat.reduceEqDiff, and_false, if_false, reduceIte]; omega)) (by decide) rfl (fun M_99 h_99 => ?_)
        have e0_99 : M_99 0 = M 0 := (h_99.at.2.1 0 (by decide) (by decide)).trans (updm_k (by decide))
        have hR_99 := h_99.at.1
        refine r_al0 dX10_addEquivalence_102 ?_
        refine m_get dX10_addEquivalence_103 f_X10_7 hA rfl ?_
        refine r_iconst dX10_addEquivalence_106 ?_
        refine m_ald dX10_addEquivalence_107 hA (by decide) rfl (by first | omega | (rw [e0_99]; omega) | (simp only [mlen]; rw [e0_99]; omega) | (simp only [mlen]; omega)) (by first | omega | (rw [e0_99]; omega) | (simp only [mlen]; rw [e0_99]; omega) | (simp only [mlen]; omega)) ?_
        try simp only [updm_app, cpy_app, Int.reduceEq, Nat.reduceEqDiff, and_true, true_and, false_and, and_false, if_true, if_false, reduceIte]
        refine r_is6 dX10_addEquivalence_108 rfl ?_
        refine r_al0 dX10_addEquivalence_110 ?_
        refine m_get dX10_addEquivalence_111 f_X10_7 hA rfl ?_
        refine r_iconst dX10_addEquivalence_114 ?_
        refine r_dup2 dX10_addEquivalence_115 rfl rfl ?_
        refine m_ald dX10_addEquivalence_116 hA (by decide) rfl (by first | omega | (rw [e0_99]; omega) | (simp only [mlen]; rw [e0_99]; omega) | (simp only [mlen]; omega)) (by first | omega | (rw [e0_99]; omega) | (simp only [mlen]; rw [e0_99]; omega) | (simp only [mlen]; omega)) ?_
        try simp only [updm_app, cpy_app, Int.reduceEq, Nat.reduceEqDiff, and_true, true_and, false_and, and_false, if_true, if_false, reduceIte]
        refine r_iconst dX10_addEquivalence_117 ?_
        refine r_iadd dX10_addEquivalence_118 ?_
        refine m_ast dX10_addEquivalence_119 hA (by decide) rfl (by first | omega | (rw [e0_99]; omega) | (simp only [mlen]; rw [e0_99]; omega) | (simp only [mlen]; omega)) (by first | omega | (rw [e0_99]; omega) | (simp only [mlen]; rw [e0_99]; omega) | (simp only [mlen]; omega)) ?_
        refine r_al0 dX10_addEquivalence_120 ?_
        refine m_get dX10_addEquivalence_121 f_X10_7 hA rfl ?_
        refine r_il6 dX10_addEquivalence_124 ?_
        refine r_iconst dX10_addEquivalence_126 ?_
        refine r_callSP2 dX10_addEquivalence_127 s_X10_156 (c_equalAt κ _) (by decide) rfl ?_
        refine r_il1 dX10_addEquivalence_130 ?_
        refine m_ast dX10_addEquivalence_131 hA (by decide) rfl (by first | omega | (rw [e0_99]; omega) | (simp only [mlen]; rw [e0_99]; omega) | (simp only [mlen]; omega)) (by first | omega | (rw [e0_99]; omega) | (simp only [mlen]; rw [e0_99]; omega) | (simp only [mlen]; omega)) ?_
        refine r_al0 dX10_addEquivalence_132 ?_
        refine m_get dX10_addEquivalence_133 f_X10_7 hA rfl ?_
        refine r_il6 dX10_addEquivalence_136 ?_
        refine r_iconst dX10_addEquivalence_138 ?_
        refine r_callSP2 dX10_addEquivalence_139 s_X10_156 (c_equalAt κ _) (by decide) rfl ?_
        refine r_il2 dX10_addEquivalence_142 ?_
        refine m_ast dX10_addEquivalence_143 hA (by decide) rfl (by first | omega | (rw [e0_99]; omega) | (simp only [mlen]; rw [e0_99]; omega) | (simp only [mlen]; omega)) (by first | omega | (rw [e0_99]; omega) | (simp only [mlen]; rw [e0_99]; omega) | (simp only [mlen]; omega)) ?_
        refine r_al0 dX10_addEquivalence_144 ?_
        refine m_get dX10_addEquivalence_145 f_X10_7 hA rfl ?_
        refine r_il6 dX10_addEquivalence_148 ?_
        refine r_iconst dX10_addEquivalence_150 ?_
        refine r_callSP2 dX10_addEquivalence_151 s_X10_156 (c_equalAt κ _) (by decide) rfl ?_
        refine r_il3 dX10_addEquivalence_154 ?_
        refine m_ast dX10_addEquivalence_155 hA (by decide) rfl (by first | omega | (rw [e0_99]; omega) | (simp only [mlen]; rw [e0_99]; omega) | (simp only [mlen]; omega)) (by first | omega | (rw [e0_99]; omega) | (simp only [mlen]; rw [e0_99]; omega) | (simp only [mlen]; omega)) ?_
        refine r_al0 dX10_addEquivalence_156 ?_
        refine m_get dX10_addEquivalence_157 f_X10_7 hA rfl ?_
        refine r_il6 dX10_addEquivalence_160 ?_
        refine r_iconst dX10_addEquivalence_162 ?_
        refine r_callSP2 dX10_addEquivalence_163 s_X10_156 (c_equalAt κ _) (by decide) rfl ?_
        refine r_il4 dX10_addEquivalence_166 ?_
        refine m_ast dX10_addEquivalence_168 hA (by decide) rfl (by first | omega | (rw [e0_99]; omega) | (simp only [mlen]; rw [e0_99]; omega) | (simp only [mlen]; omega)) (by first | omega | (rw [e0_99]; omega) | (simp only [mlen]; rw [e0_99]; omega) | (simp only [mlen]; omega)) ?_
        refine r_il6 dX10_addEquivalence_169 ?_
        refine r_iret dX10_addEquivalence_171 (ty := .int) rfl rfl ⟨_, _, rfl, rfl, Or.inr (Or.inr ⟨hz.mp (by assumption), by omega, by rw [e0_99], M_99, h_99, ?_⟩)⟩
        rw [upd0 (M := M_99), setg_up, setg_up, setg_up, setg_up, e0_99]
        rfl
      · exact absurd c_93 (by decide)
    · refine r_iconst dX10_addEquivalence_81 ?_
      refine r_goto (tgt := 86) dX10_addEquivalence_82 (by decide) ?_
      refine m_put dX10_addEquivalence_86 f_X10_51 p_X10_51 (ff_14_7 _) hA mfp_7 rfl rfl ?_
      refine r_al0 dX10_addEquivalence_89 ?_
      refine m_get dX10_addEquivalence_90 f_X10_51 hA rfl ?_
      try simp only [updm_app, cpy_app, Int.reduceEq, Nat.reduceEqDiff, and_true, true_and, false_and, and_false, if_true, if_false, reduceIte]
      refine r_if_le (tgt := 98) dX10_addEquivalence_93 (by decide) (by first | omega | decide) (fun c_93 => ?_) (fun c_93 => ?_)
      · exact absurd c_93 (by decide)
      · refine r_iconst dX10_addEquivalence_96 ?_
        refine r_iret dX10_addEquivalence_97 (ty := .int) rfl rfl ⟨_, _, rfl, rfl, ?_⟩
        first | exact Or.inl ⟨(fun q => absurd (hz.mpr q) (by first | assumption | (intro q2; simp_all))), rfl⟩ | exact Or.inr (Or.inl ⟨hz.mp (by assumption), by omega, rfl⟩)
  · refine r_iconst dX10_addEquivalence_66 ?_
    refine r_goto (tgt := 86) dX10_addEquivalence_67 (by decide) ?_
    refine m_put dX10_addEquivalence_86 f_X10_51 p_X10_51 (ff_14_7 _) hA mfp_7 rfl rfl ?_
    refine r_al0 dX10_addEquivalence_89 ?_
    refine m_get dX10_addEquivalence_90 f_X10_51 hA rfl ?_
    try simp only [updm_app, cpy_app, Int.reduceEq, Nat.reduceEqDiff, and_true, true_and, false_and, and_false, if_true, if_false, reduceIte]
    refine r_if_le (tgt := 98) dX10_addEquivalence_93 (by decide) (by first | omega | decide) (fun c_93 => ?_) (fun c_93 => ?_)
    · exact absurd c_93 (by decide)
    · refine r_iconst dX10_addEquivalence_96 ?_
      refine r_iret dX10_addEquivalence_97 (ty := .int) rfl rfl ⟨_, _, rfl, rfl, ?_⟩
      first | exact Or.inl ⟨(fun q => absurd (hz.mpr q) (by first | assumption | (intro q2; simp_all))), rfl⟩ | exact Or.inr (Or.inl ⟨hz.mp (by assumption), by omega, rfl⟩)
set_option maxRecDepth 100000 in
set_option maxHeartbeats 4000000 in
theorem c_addEquivalence (κ : KP) {A : Nat → Nat} {M : MEM} (hA : MA A) (hR : RG M) (hW : WF (M 0)) (p0 : 0 ≤ M 30 5) (p1 : M 30 5 ≤ 8) {a b c e : Int} (ra : rng a) (rb : rng b) (rc : rng c) (re : rng e) : RM κ mX10_addEquivalence 4 A [.ref (A 30), .int (J a), .int (J b), .int (J c), .int (J e)] M (fun r M' => (¬ QEqv a b c e ∧ XThr M 1 M') ∨ (QEqv a b c e ∧ M 0 2 = 8 ∧ XThr M 2 M') ∨ (QEqv a b c e ∧ M 0 2 ≠ 8 ∧ r = M 0 2 ∧ QNew M (geq (M 0) a b c e) M')) := by
  intro h
  refine mm_of (L := [some _, some _, some _, some _, some _, none, none]) (by decide +kernel) rfl rfl (Nat.le_of_ble_eq_true rfl) rfl ?_
  refine r_il1 dX10_addEquivalence_0 ?_
  refine r_callSP1 dX10_addEquivalence_1 s_X10_126 (c_isCapital κ _ (by omega)) (by decide) rfl ?_
  refine r_ifT_eq (tgt := 57) dX10_addEquivalence_4 (by decide) (fun c_4 => ?_) (fun c_4 => ?_)
  · refine r_iconst dX10_addEquivalence_57 ?_
    refine r_is5 dX10_addEquivalence_58 rfl ?_
    first
      | exact l_addEq κ h hA hR hW p0 p1 ra rb rc re (z := true) ⟨fun _ => by (unfold QEqv; first | exact ⟨by assumption, by first | exact Or.inl (by assumption) | exact Or.inr ⟨by assumption, by assumption⟩, by assumption, by first | exact Or.inl (by assumption) | exact Or.inr ⟨by assumption, by assumption⟩⟩ | (intro ⟨h1, h2, h3, h4⟩; first | contradiction | (rcases h2 with h2 | h2 <;> first | contradiction | exact absurd h2.1 (by assumption) | exact absurd (by assumption) h2.2 | omega) | (rcases h4 with h4 | h4 <;> first | contradiction | exact absurd h4.1 (by assumption) | exact absurd (by assumption) h4.2 | omega))), fun _ => rfl⟩
      | exact l_addEq κ h hA hR hW p0 p1 ra rb rc re (z := false) ⟨(fun q => by cases q), (fun q => absurd q (by (unfold QEqv; first | exact ⟨by assumption, by first | exact Or.inl (by assumption) | exact Or.inr ⟨by assumption, by assumption⟩, by assumption, by first | exact Or.inl (by assumption) | exact Or.inr ⟨by assumption, by assumption⟩⟩ | (intro ⟨h1, h2, h3, h4⟩; first | contradiction | (rcases h2 with h2 | h2 <;> first | contradiction | exact absurd h2.1 (by assumption) | exact absurd (by assumption) h2.2 | omega) | (rcases h4 with h4 | h4 <;> first | contradiction | exact absurd h4.1 (by assumption) | exact absurd (by assumption) h4.2 | omega)))))⟩
  · refine r_il2 dX10_addEquivalence_7 ?_
    refine r_bipush dX10_addEquivalence_8 (by decide) ?_
    refine r_icmp_eq (tgt := 25) dX10_addEquivalence_10 (by decide) (by first | omega | decide) (by first | omega | decide) (fun c_10 => ?_) (fun c_10 => ?_)
    · refine r_il3 dX10_addEquivalence_25 ?_
      refine r_callSP1 dX10_addEquivalence_26 s_X10_123 (c_isLow κ _ (by omega)) (by decide) rfl ?_
      refine r_ifT_eq (tgt := 57) dX10_addEquivalence_29 (by decide) (fun c_29 => ?_) (fun c_29 => ?_)
      · refine r_iconst dX10_addEquivalence_57 ?_
        refine r_is5 dX10_addEquivalence_58 rfl ?_
        first
          | exact l_addEq κ h hA hR hW p0 p1 ra rb rc re (z := true) ⟨fun _ => by (unfold QEqv; first | exact ⟨by assumption, by first | exact Or.inl (by assumption) | exact Or.inr ⟨by assumption, by assumption⟩, by assumption, by first | exact Or.inl (by assumption) | exact Or.inr ⟨by assumption, by assumption⟩⟩ | (intro ⟨h1, h2, h3, h4⟩; first | contradiction | (rcases h2 with h2 | h2 <;> first | contradiction | exact absurd h2.1 (by assumption) | exact absurd (by assumption) h2.2 | omega) | (rcases h4 with h4 | h4 <;> first | contradiction | exact absurd h4.1 (by assumption) | exact absurd (by assumption) h4.2 | omega))), fun _ => rfl⟩
          | exact l_addEq κ h hA hR hW p0 p1 ra rb rc re (z := false) ⟨(fun q => by cases q), (fun q => absurd q (by (unfold QEqv; first | exact ⟨by assumption, by first | exact Or.inl (by assumption) | exact Or.inr ⟨by assumption, by assumption⟩, by assumption, by first | exact Or.inl (by assumption) | exact Or.inr ⟨by assumption, by assumption⟩⟩ | (intro ⟨h1, h2, h3, h4⟩; first | contradiction | (rcases h2 with h2 | h2 <;> first | contradiction | exact absurd h2.1 (by assumption) | exact absurd (by assumption) h2.2 | omega) | (rcases h4 with h4 | h4 <;> first | contradiction | exact absurd h4.1 (by assumption) | exact absurd (by assumption) h4.2 | omega)))))⟩
      · refine r_il4 dX10_addEquivalence_32 ?_
        refine r_bipush dX10_addEquivalence_34 (by decide) ?_
        refine r_icmp_eq (tgt := 53) dX10_addEquivalence_36 (by decide) (by first | omega | decide) (by first | omega | decide) (fun c_36 => ?_) (fun c_36 => ?_)
        · refine r_iconst dX10_addEquivalence_53 ?_
          refine r_goto (tgt := 58) dX10_addEquivalence_54 (by decide) ?_
          refine r_is5 dX10_addEquivalence_58 rfl ?_
          first
            | exact l_addEq κ h hA hR hW p0 p1 ra rb rc re (z := true) ⟨fun _ => by (unfold QEqv; first | exact ⟨by assumption, by first | exact Or.inl (by assumption) | exact Or.inr ⟨by assumption, by assumption⟩, by assumption, by first | exact Or.inl (by assumption) | exact Or.inr ⟨by assumption, by assumption⟩⟩ | (intro ⟨h1, h2, h3, h4⟩; first | contradiction | (rcases h2 with h2 | h2 <;> first | contradiction | exact absurd h2.1 (by assumption) | exact absurd (by assumption) h2.2 | omega) | (rcases h4 with h4 | h4 <;> first | contradiction | exact absurd h4.1 (by assumption) | exact absurd (by assumption) h4.2 | omega))), fun _ => rfl⟩
            | exact l_addEq κ h hA hR hW p0 p1 ra rb rc re (z := false) ⟨(fun q => by cases q), (fun q => absurd q (by (unfold QEqv; first | exact ⟨by assumption, by first | exact Or.inl (by assumption) | exact Or.inr ⟨by assumption, by assumption⟩, by assumption, by first | exact Or.inl (by assumption) | exact Or.inr ⟨by assumption, by assumption⟩⟩ | (intro ⟨h1, h2, h3, h4⟩; first | contradiction | (rcases h2 with h2 | h2 <;> first | contradiction | exact absurd h2.1 (by assumption) | exact absurd (by assumption) h2.2 | omega) | (rcases h4 with h4 | h4 <;> first | contradiction | exact absurd h4.1 (by assumption) | exact absurd (by assumption) h4.2 | omega)))))⟩
        · refine r_il4 dX10_addEquivalence_39 ?_
          refine r_callSP1 dX10_addEquivalence_41 s_X10_123 (c_isLow κ _ (by omega)) (by decide) rfl ?_
          refine r_ifT_eq (tgt := 57) dX10_addEquivalence_44 (by decide) (fun c_44 => ?_) (fun c_44 => ?_)
          · refine r_iconst dX10_addEquivalence_57 ?_
            refine r_is5 dX10_addEquivalence_58 rfl ?_
            first
              | exact l_addEq κ h hA hR hW p0 p1 ra rb rc re (z := true) ⟨fun _ => by (unfold QEqv; first | exact ⟨by assumption, by first | exact Or.inl (by assumption) | exact Or.inr ⟨by assumption, by assumption⟩, by assumption, by first | exact Or.inl (by assumption) | exact Or.inr ⟨by assumption, by assumption⟩⟩ | (intro ⟨h1, h2, h3, h4⟩; first | contradiction | (rcases h2 with h2 | h2 <;> first | contradiction | exact absurd h2.1 (by assumption) | exact absurd (by assumption) h2.2 | omega) | (rcases h4 with h4 | h4 <;> first | contradiction | exact absurd h4.1 (by assumption) | exact absurd (by assumption) h4.2 | omega))), fun _ => rfl⟩
              | exact l_addEq κ h hA hR hW p0 p1 ra rb rc re (z := false) ⟨(fun q => by cases q), (fun q => absurd q (by (unfold QEqv; first | exact ⟨by assumption, by first | exact Or.inl (by assumption) | exact Or.inr ⟨by assumption, by assumption⟩, by assumption, by first | exact Or.inl (by assumption) | exact Or.inr ⟨by assumption, by assumption⟩⟩ | (intro ⟨h1, h2, h3, h4⟩; first | contradiction | (rcases h2 with h2 | h2 <;> first | contradiction | exact absurd h2.1 (by assumption) | exact absurd (by assumption) h2.2 | omega) | (rcases h4 with h4 | h4 <;> first | contradiction | exact absurd h4.1 (by assumption) | exact absurd (by assumption) h4.2 | omega)))))⟩
          · refine r_il4 dX10_addEquivalence_47 ?_
            refine r_il3 dX10_addEquivalence_49 ?_
            refine r_icmp_eq (tgt := 57) dX10_addEquivalence_50 (by decide) (by first | omega | decide) (by first | omega | decide) (fun c_50 => ?_) (fun c_50 => ?_)
            · refine r_iconst dX10_addEquivalence_57 ?_
              refine r_is5 dX10_addEquivalence_58 rfl ?_
              first
                | exact l_addEq κ h hA hR hW p0 p1 ra rb rc re (z := true) ⟨fun _ => by (unfold QEqv; first | exact ⟨by assumption, by first | exact Or.inl (by assumption) | exact Or.inr ⟨by assumption, by assumption⟩, by assumption, by first | exact Or.inl (by assumption) | exact Or.inr ⟨by assumption, by assumption⟩⟩ | (intro ⟨h1, h2, h3, h4⟩; first | contradiction | (rcases h2 with h2 | h2 <;> first | contradiction | exact absurd h2.1 (by assumption) | exact absurd (by assumption) h2.2 | omega) | (rcases h4 with h4 | h4 <;> first | contradiction | exact absurd h4.1 (by assumption) | exact absurd (by assumption) h4.2 | omega))), fun _ => rfl⟩
                | exact l_addEq κ h hA hR hW p0 p1 ra rb rc re (z := false) ⟨(fun q => by cases q), (fun q => absurd q (by (unfold QEqv; first | exact ⟨by assumption, by first | exact Or.inl (by assumption) | exact Or.inr ⟨by assumption, by assumption⟩, by assumption, by first | exact Or.inl (by assumption) | exact Or.inr ⟨by assumption, by assumption⟩⟩ | (intro ⟨h1, h2, h3, h4⟩; first | contradiction | (rcases h2 with h2 | h2 <;> first | contradiction | exact absurd h2.1 (by assumption) | exact absurd (by assumption) h2.2 | omega) | (rcases h4 with h4 | h4 <;> first | contradiction | exact absurd h4.1 (by assumption) | exact absurd (by assumption) h4.2 | omega)))))⟩
            · refine r_iconst dX10_addEquivalence_53 ?_
              refine r_goto (tgt := 58) dX10_addEquivalence_54 (by decide) ?_
              refine r_is5 dX10_addEquivalence_58 rfl ?_
              first
                | exact l_addEq κ h hA hR hW p0 p1 ra rb rc re (z := true) ⟨fun _ => by (unfold QEqv; first | exact ⟨by assumption, by first | exact Or.inl (by assumption) | exact Or.inr ⟨by assumption, by assumption⟩, by assumption, by first | exact Or.inl (by assumption) | exact Or.inr ⟨by assumption, by assumption⟩⟩ | (intro ⟨h1, h2, h3, h4⟩; first | contradiction | (rcases h2 with h2 | h2 <;> first | contradiction | exact absurd h2.1 (by assumption) | exact absurd (by assumption) h2.2 | omega) | (rcases h4 with h4 | h4 <;> first | contradiction | exact absurd h4.1 (by assumption) | exact absurd (by assumption) h4.2 | omega))), fun _ => rfl⟩
                | exact l_addEq κ h hA hR hW p0 p1 ra rb rc re (z := false) ⟨(fun q => by cases q), (fun q => absurd q (by (unfold QEqv; first | exact ⟨by assumption, by first | exact Or.inl (by assumption) | exact Or.inr ⟨by assumption, by assumption⟩, by assumption, by first | exact Or.inl (by assumption) | exact Or.inr ⟨by assumption, by assumption⟩⟩ | (intro ⟨h1, h2, h3, h4⟩; first | contradiction | (rcases h2 with h2 | h2 <;> first | contradiction | exact absurd h2.1 (by assumption) | exact absurd (by assumption) h2.2 | omega) | (rcases h4 with h4 | h4 <;> first | contradiction | exact absurd h4.1 (by assumption) | exact absurd (by assumption) h4.2 | omega)))))⟩
    · refine r_il2 dX10_addEquivalence_13 ?_
      refine r_callSP1 dX10_addEquivalence_14 s_X10_126 (c_isCapital κ _ (by omega)) (by decide) rfl ?_
      refine r_ifT_eq (tgt := 57) dX10_addEquivalence_17 (by decide) (fun c_17 => ?_) (fun c_17 => ?_)
      · refine r_iconst dX10_addEquivalence_57 ?_
        refine r_is5 dX10_addEquivalence_58 rfl ?_
        first
          | exact l_addEq κ h hA hR hW p0 p1 ra rb rc re (z := true) ⟨fun _ => by (unfold QEqv; first | exact ⟨by assumption, by first | exact Or.inl (by assumption) | exact Or.inr ⟨by assumption, by assumption⟩, by assumption, by first | exact Or.inl (by assumption) | exact Or.inr ⟨by assumption, by assumption⟩⟩ | (intro ⟨h1, h2, h3, h4⟩; first | contradiction | (rcases h2 with h2 | h2 <;> first | contradiction | exact absurd h2.1 (by assumption) | exact absurd (by assumption) h2.2 | omega) | (rcases h4 with h4 | h4 <;> first | contradiction | exact absurd h4.1 (by assumption) | exact absurd (by assumption) h4.2 | omega))), fun _ => rfl⟩
          | exact l_addEq κ h hA hR hW p0 p1 ra rb rc re (z := false) ⟨(fun q => by cases q), (fun q => absurd q (by (unfold QEqv; first | exact ⟨by assumption, by first | exact Or.inl (by assumption) | exact Or.inr ⟨by assumption, by assumption⟩, by assumption, by first | exact Or.inl (by assumption) | exact Or.inr ⟨by assumption, by assumption⟩⟩ | (intro ⟨h1, h2, h3, h4⟩; first | contradiction | (rcases h2 with h2 | h2 <;> first | contradiction | exact absurd h2.1 (by assumption) | exact absurd (by assumption) h2.2 | omega) | (rcases h4 with h4 | h4 <;> first | contradiction | exact absurd h4.1 (by assumption) | exact absurd (by assumption) h4.2 | omega)))))⟩
      · refine r_il2 dX10_addEquivalence_20 ?_
        refine r_il1 dX10_addEquivalence_21 ?_
        refine r_icmp_eq (tgt := 57) dX10_addEquivalence_22 (by decide) (by first | omega | decide) (by first | omega | decide) (fun c_22 => ?_) (fun c_22 => ?_)
        · refine r_iconst dX10_addEquivalence_57 ?_
          refine r_is5 dX10_addEquivalence_58 rfl ?_
          first
            | exact l_addEq κ h hA hR hW p0 p1 ra rb rc re (z := true) ⟨fun _ => by (unfold QEqv; first | exact ⟨by assumption, by first | exact Or.inl (by assumption) | exact Or.inr ⟨by assumption, by assumption⟩, by assumption, by first | exact Or.inl (by assumption) | exact Or.inr ⟨by assumption, by assumption⟩⟩ | (intro ⟨h1, h2, h3, h4⟩; first | contradiction | (rcases h2 with h2 | h2 <;> first | contradiction | exact absurd h2.1 (by assumption) | exact absurd (by assumption) h2.2 | omega) | (rcases h4 with h4 | h4 <;> first | contradiction | exact absurd h4.1 (by assumption) | exact absurd (by assumption) h4.2 | omega))), fun _ => rfl⟩
            | exact l_addEq κ h hA hR hW p0 p1 ra rb rc re (z := false) ⟨(fun q => by cases q), (fun q => absurd q (by (unfold QEqv; first | exact ⟨by assumption, by first | exact Or.inl (by assumption) | exact Or.inr ⟨by assumption, by assumption⟩, by assumption, by first | exact Or.inl (by assumption) | exact Or.inr ⟨by assumption, by assumption⟩⟩ | (intro ⟨h1, h2, h3, h4⟩; first | contradiction | (rcases h2 with h2 | h2 <;> first | contradiction | exact absurd h2.1 (by assumption) | exact absurd (by assumption) h2.2 | omega) | (rcases h4 with h4 | h4 <;> first | contradiction | exact absurd h4.1 (by assumption) | exact absurd (by assumption) h4.2 | omega)))))⟩
        · refine r_il3 dX10_addEquivalence_25 ?_
          refine r_callSP1 dX10_addEquivalence_26 s_X10_123 (c_isLow κ _ (by omega)) (by decide) rfl ?_
          refine r_ifT_eq (tgt := 57) dX10_addEquivalence_29 (by decide) (fun c_29 => ?_) (fun c_29 => ?_)
          · refine r_iconst dX10_addEquivalence_57 ?_
            refine r_is5 dX10_addEquivalence_58 rfl ?_
            first
              | exact l_addEq κ h hA hR hW p0 p1 ra rb rc re (z := true) ⟨fun _ => by (unfold QEqv; first | exact ⟨by assumption, by first | exact Or.inl (by assumption) | exact Or.inr ⟨by assumption, by assumption⟩, by assumption, by first | exact Or.inl (by assumption) | exact Or.inr ⟨by assumption, by assumption⟩⟩ | (intro ⟨h1, h2, h3, h4⟩; first | contradiction | (rcases h2 with h2 | h2 <;> first | contradiction | exact absurd h2.1 (by assumption) | exact absurd (by assumption) h2.2 | omega) | (rcases h4 with h4 | h4 <;> first | contradiction | exact absurd h4.1 (by assumption) | exact absurd (by assumption) h4.2 | omega))), fun _ => rfl⟩
              | exact l_addEq κ h hA hR hW p0 p1 ra rb rc re (z := false) ⟨(fun q => by cases q), (fun q => absurd q (by (unfold QEqv; first | exact ⟨by assumption, by first | exact Or.inl (by assumption) | exact Or.inr ⟨by assumption, by assumption⟩, by assumption, by first | exact Or.inl (by assumption) | exact Or.inr ⟨by assumption, by assumption⟩⟩ | (intro ⟨h1, h2, h3, h4⟩; first | contradiction | (rcases h2 with h2 | h2 <;> first | contradiction | exact absurd h2.1 (by assumption) | exact absurd (by assumption) h2.2 | omega) | (rcases h4 with h4 | h4 <;> first | contradiction | exact absurd h4.1 (by assumption) | exact absurd (by assumption) h4.2 | omega)))))⟩
          · refine r_il4 dX10_addEquivalence_32 ?_
            refine r_bipush dX10_addEquivalence_34 (by decide) ?_
            refine r_icmp_eq (tgt := 53) dX10_addEquivalence_36 (by decide) (by first | omega | decide) (by first | omega | decide) (fun c_36 => ?_) (fun c_36 => ?_)
            · refine r_iconst dX10_addEquivalence_53 ?_
              refine r_goto (tgt := 58) dX10_addEquivalence_54 (by decide) ?_
              refine r_is5 dX10_addEquivalence_58 rfl ?_
              first
                | exact l_addEq κ h hA hR hW p0 p1 ra rb rc re (z := true) ⟨fun _ => by (unfold QEqv; first | exact ⟨by assumption, by first | exact Or.inl (by assumption) | exact Or.inr ⟨by assumption, by assumption⟩, by assumption, by first | exact Or.inl (by assumption) | exact Or.inr ⟨by assumption, by assumption⟩⟩ | (intro ⟨h1, h2, h3, h4⟩; first | contradiction | (rcases h2 with h2 | h2 <;> first | contradiction | exact absurd h2.1 (by assumption) | exact absurd (by assumption) h2.2 | omega) | (rcases h4 with h4 | h4 <;> first | contradiction | exact absurd h4.1 (by assumption) | exact absurd (by assumption) h4.2 | omega))), fun _ => rfl⟩
                | exact l_addEq κ h hA hR hW p0 p1 ra rb rc re (z := false) ⟨(fun q => by cases q), (fun q => absurd q (by (unfold QEqv; first | exact ⟨by assumption, by first | exact Or.inl (by assumption) | exact Or.inr ⟨by assumption, by assumption⟩, by assumption, by first | exact Or.inl (by assumption) | exact Or.inr ⟨by assumption, by assumption⟩⟩ | (intro ⟨h1, h2, h3, h4⟩; first | contradiction | (rcases h2 with h2 | h2 <;> first | contradiction | exact absurd h2.1 (by assumption) | exact absurd (by assumption) h2.2 | omega) | (rcases h4 with h4 | h4 <;> first | contradiction | exact absurd h4.1 (by assumption) | exact absurd (by assumption) h4.2 | omega)))))⟩
            · refine r_il4 dX10_addEquivalence_39 ?_
              refine r_callSP1 dX10_addEquivalence_41 s_X10_123 (c_isLow κ _ (by omega)) (by decide) rfl ?_
              refine r_ifT_eq (tgt := 57) dX10_addEquivalence_44 (by decide) (fun c_44 => ?_) (fun c_44 => ?_)
              · refine r_iconst dX10_addEquivalence_57 ?_
                refine r_is5 dX10_addEquivalence_58 rfl ?_
                first
                  | exact l_addEq κ h hA hR hW p0 p1 ra rb rc re (z := true) ⟨fun _ => by (unfold QEqv; first | exact ⟨by assumption, by first | exact Or.inl (by assumption) | exact Or.inr ⟨by assumption, by assumption⟩, by assumption, by first | exact Or.inl (by assumption) | exact Or.inr ⟨by assumption, by assumption⟩⟩ | (intro ⟨h1, h2, h3, h4⟩; first | contradiction | (rcases h2 with h2 | h2 <;> first | contradiction | exact absurd h2.1 (by assumption) | exact absurd (by assumption) h2.2 | omega) | (rcases h4 with h4 | h4 <;> first | contradiction | exact absurd h4.1 (by assumption) | exact absurd (by assumption) h4.2 | omega))), fun _ => rfl⟩
                  | exact l_addEq κ h hA hR hW p0 p1 ra rb rc re (z := false) ⟨(fun q => by cases q), (fun q => absurd q (by (unfold QEqv; first | exact ⟨by assumption, by first | exact Or.inl (by assumption) | exact Or.inr ⟨by assumption, by assumption⟩, by assumption, by first | exact Or.inl (by assumption) | exact Or.inr ⟨by assumption, by assumption⟩⟩ | (intro ⟨h1, h2, h3, h4⟩; first | contradiction | (rcases h2 with h2 | h2 <;> first | contradiction | exact absurd h2.1 (by assumption) | exact absurd (by assumption) h2.2 | omega) | (rcases h4 with h4 | h4 <;> first | contradiction | exact absurd h4.1 (by assumption) | exact absurd (by assumption) h4.2 | omega)))))⟩
              · refine r_il4 dX10_addEquivalence_47 ?_
                refine r_il3 dX10_addEquivalence_49 ?_
                refine r_icmp_eq (tgt := 57) dX10_addEquivalence_50 (by decide) (by first | omega | decide) (by first | omega | decide) (fun c_50 => ?_) (fun c_50 => ?_)
                · refine r_iconst dX10_addEquivalence_57 ?_
                  refine r_is5 dX10_addEquivalence_58 rfl ?_
                  first
                    | exact l_addEq κ h hA hR hW p0 p1 ra rb rc re (z := true) ⟨fun _ => by (unfold QEqv; first | exact ⟨by assumption, by first | exact Or.inl (by assumption) | exact Or.inr ⟨by assumption, by assumption⟩, by assumption, by first | exact Or.inl (by assumption) | exact Or.inr ⟨by assumption, by assumption⟩⟩ | (intro ⟨h1, h2, h3, h4⟩; first | contradiction | (rcases h2 with h2 | h2 <;> first | contradiction | exact absurd h2.1 (by assumption) | exact absurd (by assumption) h2.2 | omega) | (rcases h4 with h4 | h4 <;> first | contradiction | exact absurd h4.1 (by assumption) | exact absurd (by assumption) h4.2 | omega))), fun _ => rfl⟩
                    | exact l_addEq κ h hA hR hW p0 p1 ra rb rc re (z := false) ⟨(fun q => by cases q), (fun q => absurd q (by (unfold QEqv; first | exact ⟨by assumption, by first | exact Or.inl (by assumption) | exact Or.inr ⟨by assumption, by assumption⟩, by assumption, by first | exact Or.inl (by assumption) | exact Or.inr ⟨by assumption, by assumption⟩⟩ | (intro ⟨h1, h2, h3, h4⟩; first | contradiction | (rcases h2 with h2 | h2 <;> first | contradiction | exact absurd h2.1 (by assumption) | exact absurd (by assumption) h2.2 | omega) | (rcases h4 with h4 | h4 <;> first | contradiction | exact absurd h4.1 (by assumption) | exact absurd (by assumption) h4.2 | omega)))))⟩
                · refine r_iconst dX10_addEquivalence_53 ?_
                  refine r_goto (tgt := 58) dX10_addEquivalence_54 (by decide) ?_
                  refine r_is5 dX10_addEquivalence_58 rfl ?_
                  first
                    | exact l_addEq κ h hA hR hW p0 p1 ra rb rc re (z := true) ⟨fun _ => by (unfold QEqv; first | exact ⟨by assumption, by first | exact Or.inl (by assumption) | exact Or.inr ⟨by assumption, by assumption⟩, by assumption, by first | exact Or.inl (by assumption) | exact Or.inr ⟨by assumption, by assumption⟩⟩ | (intro ⟨h1, h2, h3, h4⟩; first | contradiction | (rcases h2 with h2 | h2 <;> first | contradiction | exact absurd h2.1 (by assumption) | exact absurd (by assumption) h2.2 | omega) | (rcases h4 with h4 | h4 <;> first | contradiction | exact absurd h4.1 (by assumption) | exact absurd (by assumption) h4.2 | omega))), fun _ => rfl⟩
                    | exact l_addEq κ h hA hR hW p0 p1 ra rb rc re (z := false) ⟨(fun q => by cases q), (fun q => absurd q (by (unfold QEqv; first | exact ⟨by assumption, by first | exact Or.inl (by assumption) | exact Or.inr ⟨by assumption, by assumption⟩, by assumption, by first | exact Or.inl (by assumption) | exact Or.inr ⟨by assumption, by assumption⟩⟩ | (intro ⟨h1, h2, h3, h4⟩; first | contradiction | (rcases h2 with h2 | h2 <;> first | contradiction | exact absurd h2.1 (by assumption) | exact absurd (by assumption) h2.2 | omega) | (rcases h4 with h4 | h4 <;> first | contradiction | exact absurd h4.1 (by assumption) | exact absurd (by assumption) h4.2 | omega)))))⟩
set_option maxRecDepth 100000 in
set_option maxHeartbeats 4000000 in
theorem c_append (κ : KP) {A : Nat → Nat} {M : MEM} (hA : MA A) (hR : RG M) {c : Int} (rc : rng c) (l0 : 0 ≤ M 30 17) (l1 : M 30 17 ≤ 50) : UM κ mX10_append 2 A [.ref (A 30), .int (J c)] M (fun M' => (M 30 17 = 50 ∧ XThr M 1 M') ∨ (M 30 17 ≠ 50 ∧ M' = updm (updm (updm M 30 7 0) 16 (M 30 17) c) 30 17 (M 30 17 + 1))) := by
  intro h
  refine mm_of (L := [some _, some _]) (by decide +kernel) rfl rfl (Nat.le_of_ble_eq_true rfl) rfl ?_
  refine r_al0 dX10_append_0 ?_
  refine r_al0 dX10_append_1 ?_
  refine m_get dX10_append_2 f_X10_178 hA rfl ?_
  refine r_bipush dX10_append_5 (by decide) ?_
  refine r_icmp_ne (tgt := 14) dX10_append_7 (by decide) (by first | omega | decide | exact hR _ _ | (unfold QIn at *; omega)) (by first | omega | decide | exact hR _ _ | (unfold QIn at *; omega)) (fun c_7 => ?_) (fun c_7 => ?_)
  · refine r_iconst dX10_append_14 ?_
    refine m_put dX10_append_15 f_X10_51 p_X10_51 (ff_14_7 _) hA mfp_7 rfl rfl ?_
    refine r_al0 dX10_append_18 ?_
    refine m_get dX10_append_19 f_X10_51 hA rfl ?_
    try simp only [updm_app, cpy_app, Int.reduceEq, Nat.reduceEqDiff, and_true, true_and, false_and, and_false, if_true, if_false, reduceIte]
    refine r_if_ne (tgt := 45) dX10_append_22 (by decide) (by first | omega | decide | exact hR _ _ | (unfold QIn at *; omega)) (fun c_22 => ?_) (fun c_22 => ?_)
    · exact absurd c_22 (by decide)
    · refine r_al0 dX10_append_25 ?_
      refine m_get dX10_append_26 f_X10_35 hA rfl ?_
      refine r_al0 dX10_append_29 ?_
      refine m_get dX10_append_30 f_X10_178 hA rfl ?_
      try simp only [updm_app, cpy_app, Int.reduceEq, Nat.reduceEqDiff, and_true, true_and, false_and, and_false, if_true, if_false, reduceIte]
      refine r_il1 dX10_append_33 ?_
      refine m_ast dX10_append_34 hA (by decide) rfl (by first | omega | (unfold QIn at *; omega) | (simp only [mlen]; unfold QIn at *; omega) | (simp only [mlen]; omega)) (by first | omega | (unfold QIn at *; omega) | (simp only [mlen]; unfold QIn at *; omega) | (simp only [mlen]; omega)) ?_
      refine r_al0 dX10_append_35 ?_
      refine r_dup dX10_append_36 rfl ?_
      refine m_get dX10_append_37 f_X10_178 hA rfl ?_
      try simp only [updm_app, cpy_app, Int.reduceEq, Nat.reduceEqDiff, and_true, true_and, false_and, and_false, if_true, if_false, reduceIte]
      refine r_iconst dX10_append_40 ?_
      refine r_iadd dX10_append_41 ?_
      refine m_put dX10_append_42 f_X10_178 p_X10_178 (ff_14_17 _) hA mfp_17 rfl rfl ?_
      refine r_ret dX10_append_45 rfl ⟨_, rfl, rfl, ?_⟩
      first | exact Or.inl ⟨by omega, rfl⟩ | exact Or.inr ⟨by omega, rfl⟩
  · refine r_iconst dX10_append_10 ?_
    refine r_goto (tgt := 15) dX10_append_11 (by decide) ?_
    refine m_put dX10_append_15 f_X10_51 p_X10_51 (ff_14_7 _) hA mfp_7 rfl rfl ?_
    refine r_al0 dX10_append_18 ?_
    refine m_get dX10_append_19 f_X10_51 hA rfl ?_
    try simp only [updm_app, cpy_app, Int.reduceEq, Nat.reduceEqDiff, and_true, true_and, false_and, and_false, if_true, if_false, reduceIte]
    refine r_if_ne (tgt := 45) dX10_append_22 (by decide) (by first | omega | decide | exact hR _ _ | (unfold QIn at *; omega)) (fun c_22 => ?_) (fun c_22 => ?_)
    · refine r_ret dX10_append_45 rfl ⟨_, rfl, rfl, ?_⟩
      first | exact Or.inl ⟨by omega, rfl⟩ | exact Or.inr ⟨by omega, rfl⟩
    · exact absurd c_22 (by decide)
set_option maxRecDepth 100000 in
set_option maxHeartbeats 4000000 in
theorem c_refusal (κ : KP) {A : Nat → Nat} {M : MEM} (hA : MA A) (hR : RG M)  : RM κ mX10_refusal 2 A [.ref (A 30)] M (fun r M' => r = M 30 6 ∧ XThr M (if M 30 6 = 0 then 1 else 0) M') := by
  intro h
  refine mm_of (L := [some _]) (by decide +kernel) rfl rfl (Nat.le_of_ble_eq_true rfl) rfl ?_
  refine r_al0 dX10_refusal_0 ?_
  refine r_al0 dX10_refusal_1 ?_
  refine m_get dX10_refusal_2 f_X10_54 hA rfl ?_
  refine r_if_ne (tgt := 12) dX10_refusal_5 (by decide) (by first | omega | decide | exact hR _ _ | (unfold QIn at *; omega)) (fun c_5 => ?_) (fun c_5 => ?_)
  · refine r_iconst dX10_refusal_12 ?_
    refine m_put dX10_refusal_13 f_X10_51 p_X10_51 (ff_14_7 _) hA mfp_7 rfl rfl ?_
    refine r_al0 dX10_refusal_16 ?_
    refine m_get dX10_refusal_17 f_X10_54 hA rfl ?_
    try simp only [updm_app, cpy_app, Int.reduceEq, Nat.reduceEqDiff, and_true, true_and, false_and, and_false, if_true, if_false, reduceIte]
    refine r_iret dX10_refusal_20 (ty := .int) rfl rfl ⟨_, _, rfl, rfl, ?_⟩
    exact ⟨rfl, by unfold XThr; first | rw [if_pos (by assumption)] | rw [if_neg (by assumption)]⟩
  · refine r_iconst dX10_refusal_8 ?_
    refine r_goto (tgt := 13) dX10_refusal_9 (by decide) ?_
    refine m_put dX10_refusal_13 f_X10_51 p_X10_51 (ff_14_7 _) hA mfp_7 rfl rfl ?_
    refine r_al0 dX10_refusal_16 ?_
    refine m_get dX10_refusal_17 f_X10_54 hA rfl ?_
    try simp only [updm_app, cpy_app, Int.reduceEq, Nat.reduceEqDiff, and_true, true_and, false_and, and_false, if_true, if_false, reduceIte]
    refine r_iret dX10_refusal_20 (ty := .int) rfl rfl ⟨_, _, rfl, rfl, ?_⟩
    exact ⟨rfl, by unfold XThr; first | rw [if_pos (by assumption)] | rw [if_neg (by assumption)]⟩
set_option maxRecDepth 100000 in
set_option maxHeartbeats 4000000 in
theorem c_faultPosition (κ : KP) {A : Nat → Nat} {M : MEM} (hA : MA A) (hR : RG M)  : RM κ mX10_faultPosition 2 A [.ref (A 30)] M (fun r M' => r = M 30 20 ∧ XThr M 0 M') := by
  intro h
  refine mm_of (L := [some _]) (by decide +kernel) rfl rfl (Nat.le_of_ble_eq_true rfl) rfl ?_
  refine r_al0 dX10_faultPosition_0 ?_
  refine r_iconst dX10_faultPosition_1 ?_
  refine m_put dX10_faultPosition_2 f_X10_51 p_X10_51 (ff_14_7 _) hA mfp_7 rfl rfl ?_
  refine r_al0 dX10_faultPosition_5 ?_
  refine m_get dX10_faultPosition_6 f_X10_38 hA rfl ?_
  try simp only [updm_app, cpy_app, Int.reduceEq, Nat.reduceEqDiff, and_true, true_and, false_and, and_false, if_true, if_false, reduceIte]
  refine r_iret dX10_faultPosition_9 (ty := .int) rfl rfl ⟨_, _, rfl, rfl, ?_⟩
  exact ⟨rfl, rfl⟩
set_option maxRecDepth 100000 in
set_option maxHeartbeats 4000000 in
theorem c_year (κ : KP) {A : Nat → Nat} {M : MEM} (hA : MA A) (hR : RG M)  : RM κ mX10_year 2 A [.ref (A 30)] M (fun r M' => r = M 0 0 ∧ XThr M 0 M') := by
  intro h
  refine mm_of (L := [some _]) (by decide +kernel) rfl rfl (Nat.le_of_ble_eq_true rfl) rfl ?_
  refine r_al0 dX10_year_0 ?_
  refine r_iconst dX10_year_1 ?_
  refine m_put dX10_year_2 f_X10_51 p_X10_51 (ff_14_7 _) hA mfp_7 rfl rfl ?_
  refine r_al0 dX10_year_5 ?_
  refine m_get dX10_year_6 f_X10_7 hA rfl ?_
  refine r_iconst dX10_year_9 ?_
  refine m_ald dX10_year_10 hA (by decide) rfl (by first | omega | (simp only [mlen]; omega)) (by first | omega | (simp only [mlen]; omega)) ?_
  try simp only [updm_app, cpy_app, Int.reduceEq, Nat.reduceEqDiff, and_true, true_and, false_and, and_false, if_true, if_false, reduceIte]
  refine r_iret dX10_year_11 (ty := .int) rfl rfl ⟨_, _, rfl, rfl, ?_⟩
  exact ⟨rfl, rfl⟩
