/-! ===== readProgram ===== -/
def QRd (M : MEM) (r : Int) (M' : MEM) : Prop := ∃ R M2, PTop (M 16) (M 30 17) 51 0 [] [] R ∧ RG M2 ∧ SB [21, 24] [7, 17, 18, 19, 20, 22, 23] M M2 ∧ M2 30 7 = 0 ∧ M2 30 17 = 0 ∧
  ((∃ e, R = .inl e ∧ M2 30 20 = e ∧ M' = updm M2 30 7 1) ∨ ∃ l no, R = .inr l ∧ M2 30 20 = -1 ∧ l.length ≤ 25 ∧ M2 30 22 = l.length ∧ TRw M2 l ∧ QRf (M2 21) l.length no ∧ ((0 < no ∧ M' = updm (updm M2 30 6 no) 30 7 2) ∨
    (no = 0 ∧ r = l.length ∧ ∃ M4, QCh M2 M4 ∧ M' = setg M4 (gps (M 0) (M2 21) l.length 96))))
set_option maxRecDepth 100000 in
set_option maxHeartbeats 4000000 in
theorem l_rp9 (κ : KP) {A : Nat → Nat} {M : MEM} (h : AH) (hA : MA A) (hR : RG M) (p0 : 0 ≤ M 30 5) (p1 : M 30 5 ≤ 8) {M2 : MEM} {r9 : Int} {R : Sum Int (List (Int → Int))} (x1 : RG M2) (x2 : SB [21, 24] [18, 19, 22, 23] (updm M 30 7 0) M2) (x3 : PTop (M 16) (M 30 17) 51 0 [] [] R) (x4 : (∃ e, R = .inl e ∧ r9 = 0 ∧ M2 30 18 = e) ∨ ∃ l', R = .inr l' ∧ r9 = 1 ∧ M2 30 22 = l'.length ∧ l'.length ≤ 25 ∧ TRw M2 l') : WW κ mX10_readProgram 5 0 0 (fun v h' => ∃ r M', v = some (.int (J r)) ∧ h' = mset A M' h ∧ QRd M r M') NoX 9 [some (.ref (A 30)), none, none, none] [.int (J r9)] (mset A M2 h) := by
  have hS0 := (x2.th).mono (ks2 := [21, 24]) (fs2 := [7, 17, 18, 19, 20, 22, 23]) (by decide) (by decide)
  have z7 : M2 30 7 = 0 := (x2.2 7 (by decide)).trans updm_at
  have hR18 := x1 30 18
  refine r_is1 dX10_readProgram_9 rfl ?_
  refine r_al0 dX10_readProgram_10 ?_
  refine r_il1 dX10_readProgram_11 ?_
  rcases x4 with ⟨e, rfl, rfl, y3⟩ | ⟨l, rfl, rfl, y3, y4, y5⟩
  · refine r_if_eq (tgt := 19) dX10_readProgram_12 (by decide) (by decide) (fun c => ?_) (fun c => absurd rfl c)
    refine r_al0 dX10_readProgram_19 ?_
    refine m_get dX10_readProgram_20 f_X10_181 hA rfl ?_
    refine m_put dX10_readProgram_23 f_X10_38 p_X10_38 (ff_14_20 _) hA mfp_20 rfl rfl ?_
    refine r_al0 dX10_readProgram_26 ?_
    refine r_iconst dX10_readProgram_27 ?_
    refine m_put dX10_readProgram_28 f_X10_178 p_X10_178 (ff_14_17 _) hA mfp_17 rfl rfl ?_
    refine r_il1 dX10_readProgram_31 ?_
    refine r_if_ne (tgt := 41) dX10_readProgram_32 (by decide) (by decide) (fun c => absurd rfl c) (fun c => ?_)
    refine r_al0 dX10_readProgram_35 ?_
    refine r_iconst dX10_readProgram_36 ?_
    refine m_callR1 dX10_readProgram_37 v_X10_57 hA (c_fails κ hA (RG.up (RG.up x1 hR18) (by decide))) (by decide) rfl (fun r M5 h5 => ?_)
    obtain ⟨rfl, rfl⟩ := h5
    exact r_iret dX10_readProgram_40 (ty := .int) rfl rfl ⟨_, _, rfl, rfl, _, _, x3, RG.up (RG.up x1 hR18) (by decide), SB.upF (SB.upF hS0 (by decide)) (by decide), by rw [updm_ne (by decide), updm_ne (by decide)]; exact z7, updm_at, Or.inl ⟨e, rfl, by rw [updm_ne (by decide), updm_at]; exact y3, rfl⟩⟩
  · refine r_if_eq (tgt := 19) dX10_readProgram_12 (by decide) (by decide) (fun c => absurd c (by decide)) (fun c => ?_)
    refine r_iconst dX10_readProgram_15 ?_
    refine r_goto (tgt := 23) dX10_readProgram_16 (by decide) ?_
    refine m_put dX10_readProgram_23 f_X10_38 p_X10_38 (ff_14_20 _) hA mfp_20 rfl rfl ?_
    refine r_al0 dX10_readProgram_26 ?_
    refine r_iconst dX10_readProgram_27 ?_
    refine m_put dX10_readProgram_28 f_X10_178 p_X10_178 (ff_14_17 _) hA mfp_17 rfl rfl ?_
    have hR3 : RG (updm (updm M2 30 20 (-1)) 30 17 0) := RG.up (RG.up x1 (by decide)) (by decide)
    have hS3 : SB [21, 24] [7, 17, 18, 19, 20, 22, 23] M (updm (updm M2 30 20 (-1)) 30 17 0) := SB.upF (SB.upF hS0 (by decide)) (by decide)
    have w7 : (updm (updm M2 30 20 (-1)) 30 17 0) 30 7 = 0 := by rw [updm_ne (by decide), updm_ne (by decide)]; exact z7
    have w17 : (updm (updm M2 30 20 (-1)) 30 17 0) 30 17 = 0 := updm_at
    have w20 : (updm (updm M2 30 20 (-1)) 30 17 0) 30 20 = -1 := by rw [updm_ne (by decide), updm_at]
    have w22 : (updm (updm M2 30 20 (-1)) 30 17 0) 30 22 = l.length := by rw [updm_ne (by decide), updm_ne (by decide)]; exact y3
    have wT : TRw (updm (updm M2 30 20 (-1)) 30 17 0) l := by unfold TRw; rw [updm_k (by decide), updm_k (by decide)]; exact y5
    revert hR3 hS3 w7 w17 w20 w22 wT
    generalize updm (updm M2 30 20 (-1)) 30 17 0 = M3
    intro hR3 hS3 w7 w17 w20 w22 wT
    have e0 : M3 0 = M 0 := hS3.1 0 (by decide) (by decide)
    have e5 : M3 30 5 = M 30 5 := hS3.2 5 (by decide)
    refine r_il1 dX10_readProgram_31 ?_
    refine r_if_ne (tgt := 41) dX10_readProgram_32 (by decide) (by decide) (fun c => ?_) (fun c => absurd c (by decide))
    refine r_al0 dX10_readProgram_41 ?_
    refine m_callR0 dX10_readProgram_42 v_X10_224 hA (c_refusedBy κ hA hR3 (by rw [w22]; omega) (by rw [w22]; omega)) (by decide) rfl (fun no M5 h5 => ?_)
    obtain ⟨e6, hq⟩ := h5
    rw [e6]
    rw [w22] at hq
    have hno : 0 ≤ no ∧ no ≤ 5 := by rcases hq with ⟨-, q⟩ | ⟨-, -, q⟩ | ⟨-, -, -, q⟩ | ⟨-, -, -, q⟩ <;> omega
    refine r_is2 dX10_readProgram_45 rfl ?_
    refine r_il2 dX10_readProgram_46 ?_
    refine r_if_le (tgt := 57) dX10_readProgram_47 (by decide) (by omega) (fun c => ?_) (fun c => ?_)
    · have hz : no = 0 := by omega
      have h8 : (l.length : Int) ≤ 8 := by rcases hq with ⟨-, q⟩ | ⟨-, -, q⟩ | ⟨-, q, -, -⟩ | ⟨-, -, -, q⟩ <;> omega
      refine r_al0 dX10_readProgram_57 ?_
      refine m_callU0 dX10_readProgram_58 v_X10_136 hA (c_changes κ hA hR3 (by rw [e5]; exact p0) (by rw [e5]; exact p1)) (by decide) rfl (fun M4 h4 => ?_)
      have k0 : M4 0 = M3 0 := h4.at.2.1 0 (by decide) (by decide)
      have k21 : M4 21 = M3 21 := h4.at.2.1 21 (by decide) (by decide)
      have k22 : M4 30 22 = M3 30 22 := h4.at.2.2 22 (by decide) (by decide)
      refine r_al0 dX10_readProgram_61 ?_
      refine m_get dX10_readProgram_62 f_X10_7 hA rfl ?_
      refine r_iconst dX10_readProgram_65 ?_
      refine r_al0 dX10_readProgram_66 ?_
      refine m_get dX10_readProgram_67 f_X10_190 hA rfl ?_
      refine m_ast dX10_readProgram_70 hA (by decide) rfl (by decide) (by decide) ?_
      refine r_iconst dX10_readProgram_71 ?_
      refine r_is3 dX10_readProgram_72 rfl ?_
      rw [upd0, gps_0 (t := M4 21)]
      refine ww_postR (fun r M' q => ?_) (l_readP κ h hA h4.at.1 (by rw [k22, w22]; omega) (by rw [k22, w22]; exact h8) 97 0 (by omega) (by omega) (by omega))
      obtain ⟨rfl, rfl⟩ := q
      exact ⟨_, M3, x3, hR3, hS3, w7, w17, Or.inr ⟨l, no, rfl, w20, y4, w22, wT, hq, Or.inr ⟨hz, by rw [k22, w22], M4, h4, by rw [k0, e0, k21, k22, w22]⟩⟩⟩
    · refine r_al0 dX10_readProgram_50 ?_
      refine r_iconst dX10_readProgram_51 ?_
      refine r_il2 dX10_readProgram_52 ?_
      refine m_callR2 dX10_readProgram_53 v_X10_133 hA (c_refuses κ hA hR3 (by omega)) (by decide) rfl (fun r M5 h5 => ?_)
      obtain ⟨rfl, rfl⟩ := h5
      exact r_iret dX10_readProgram_56 (ty := .int) rfl rfl ⟨_, _, rfl, rfl, _, M3, x3, hR3, hS3, w7, w17, Or.inr ⟨l, no, rfl, w20, y4, w22, wT, hq, Or.inl ⟨by omega, rfl⟩⟩⟩
set_option maxRecDepth 100000 in
set_option maxHeartbeats 4000000 in
theorem c_readProgram (κ : KP) {A : Nat → Nat} {M : MEM} (hA : MA A) (hR : RG M) (n0 : 0 ≤ M 30 17) (n1 : M 30 17 ≤ 50) (p0 : 0 ≤ M 30 5) (p1 : M 30 5 ≤ 8) : RM κ mX10_readProgram 5 A [.ref (A 30)] M (QRd M) := by
  intro h
  refine mm_of (L := [some _, none, none, none]) (by decide +kernel) rfl rfl (Nat.le_of_ble_eq_true rfl) rfl ?_
  refine r_al0 dX10_readProgram_0 ?_
  refine r_iconst dX10_readProgram_1 ?_
  refine m_put dX10_readProgram_2 f_X10_51 p_X10_51 (ff_14_7 _) hA mfp_7 rfl rfl ?_
  refine r_al0 dX10_readProgram_5 ?_
  refine m_callR0 dX10_readProgram_6 v_X10_221 hA (c_isText κ hA (RG.up hR (by decide)) (by rw [updm_ne (by decide)]; exact n0) (by rw [updm_ne (by decide)]; exact n1)) (by decide) rfl (fun r_6 M_6 h_6 => ?_)
  obtain ⟨x1, x2, R, x3, x4⟩ := h_6
  rw [updm_ne (show ¬ (30 = 30 ∧ (17 : Int) = 7) by decide), updm_k (k' := 16) (by decide)] at x3
  have h18 := x1 30 18
  have hr9 : r_6 = 0 ∨ r_6 = 1 := by rcases x4 with ⟨e, -, q, -⟩ | ⟨l, -, q, -⟩ <;> omega
  exact l_rp9 κ h hA hR p0 p1 x1 x2 x3 x4
