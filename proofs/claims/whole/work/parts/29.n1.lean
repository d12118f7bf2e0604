/-! ===== reads: the state behind one; t the exception ===== -/
def QFx (M : MEM) (t : Int) (M' : MEM) : Prop := RG M' ∧ SB [2, 9, 10, 11, 12] [7, 8, 13, 14, 15] M M' ∧ M' 30 7 = t ∧ QKn M'
theorem QW.thr {g u : Int → Int} {M : MEM} {t : Int} (h : QW g u M) : QW g u (updm M 30 7 t) := by
  obtain ⟨h1, h2, h3, h4⟩ := h
  refine ⟨fun b b0 b1 => ?_, ?_, ?_, ?_⟩
  · rw [updm_k (by decide), updm_k (by decide)]
    exact h1 b b0 b1
  · rw [updm_ne (by decide)]; exact h2
  · rw [updm_ne (by decide)]; exact h3
  · rw [updm_ne (by decide)]; exact h4
theorem QKn.thr {M : MEM} {t : Int} (h : QKn M) : QKn (updm M 30 7 t) := by
  unfold QKn
  rw [updm_ne (by decide), updm_k (by decide), updm_k (by decide)]
  rcases h with h | ⟨h1, h2, h3⟩
  · exact Or.inl h
  · exact Or.inr ⟨h1, h2, h3.thr⟩
theorem QFx.thr {M : MEM} {t : Int} (hR : RG M) (hK : QKn M) (ht : rng t) : QFx M t (updm M 30 7 t) := ⟨RG.up hR ht, SB.upF SB.rf (by decide), updm_at, hK.thr⟩
theorem QFs.kn {M M1 : MEM} (h : QFs M M1) : QKn M1 := by
  have e0 : M1 0 = M 0 := h.2.1.1 0 (by decide) (by decide)
  exact Or.inr ⟨h.2.2.1, by rw [e0]; exact h.2.2.2.1, by rw [e0]; exact h.2.2.2.2⟩
theorem QFx.fs {M M1 : MEM} {t : Int} (h : QFs M M1) (ht : rng t) : QFx M t (updm M1 30 7 t) := ⟨RG.up h.1 ht, SB.upF (h.2.1.mono (by decide) (by decide)) (by decide), updm_at, h.kn.thr⟩
theorem QFx.fs2 {M M1 : MEM} {t : Int} (h : QFs (updm M 30 7 t) M1) : QFx M t M1 :=
  ⟨h.1, ((SB.upF SB.rf (by decide) : SB [] [7] M (updm M 30 7 t)).trans h.2.1).mono (by decide) (by decide), by rw [h.2.1.2 7 (by decide), updm_at], h.kn⟩
theorem QFs.e0 {M M1 : MEM} (h : QFs M M1) : M1 0 = M 0 := h.2.1.1 0 (by decide) (by decide)
theorem QFx.e0 {M M1 : MEM} {t : Int} (h : QFx M t M1) : M1 0 = M 0 := h.2.1.1 0 (by decide) (by decide)
theorem QAga.no {g : Int → Int} {e r : Int} (h : QAga g e r) : 0 ≤ r ∧ r ≤ 2 := by
  rcases h with ⟨-, q⟩ | ⟨-, -, q⟩ | ⟨-, -, q⟩ <;> omega
theorem QAga.z {g : Int → Int} {e r : Int} (h : QAga g e r) (hr : r ≤ 0) : QAga g e 0 := by
  have := h.no
  rw [show r = 0 by omega] at h
  exact h
theorem QAga.uniq {g : Int → Int} {e r r' : Int} (h : QAga g e r) (h' : QAga g e r') : r = r' := by
  rcases h with ⟨a, q⟩ | ⟨a, b, q⟩ | ⟨a, b, q⟩ <;> rcases h' with ⟨a', q'⟩ | ⟨a', b', q'⟩ | ⟨a', b', q'⟩ <;> first | omega | exact absurd a' a | exact absurd a a'
theorem QAga.nz {g : Int → Int} {e r : Int} (h : QAga g e r) (hr : 0 < r) : ¬ QAga g e 0 := fun q => by
  have := h.uniq q
  omega
theorem gcm_out {g : Int → Int} {a b c e i : Int} (h : 0 ≤ g 1 ∧ g 1 ≤ 5) (hi : i < 0 ∨ 28 ≤ i) : gcm g a b c e i = g i := by
  unfold gcm upz
  rw [if_neg (by omega), if_neg (by omega), if_neg (by omega), if_neg (by omega), if_neg (by omega)]
theorem ggo_out {g : Int → Int} {c i : Int} (hc : 0 ≤ c) (h : g 1 ≤ 6) (hi : i < 0 ∨ 28 ≤ i) : ggo g c i = g i := by
  unfold ggo
  rw [if_neg (by omega), if_neg (by omega)]
theorem QFin.out {g : Int → Int} {e P gr y r : Int} {g' : Int → Int} (h : QFin g e P gr y r g') (hn : 0 ≤ g 1 ∧ g 1 ≤ 5) (h2 : g (28 + 4 * e + 3) ≠ 32 → g 1 ≤ 4) {i : Int} (hi : i < 0 ∨ 28 ≤ i) : g' i = g i := by
  rcases h with ⟨a1, -, rfl⟩ | ⟨a1, -, rfl⟩
  · exact gcm_out hn hi
  · have := h2 a1
    rw [gcm_out (by rw [gcm_n (by omega)]; omega) hi, gcm_out hn hi]
theorem QAp.out {g : Int → Int} {e r : Int} {g' : Int → Int} (hn : 0 ≤ g 1 ∧ g 1 ≤ 6) (e0 : 0 ≤ e) (hag : QAga g e 0) (hf : QAp g e r g') {i : Int} (hi : i < 0 ∨ 28 ≤ i) : g' i = g i := by
  obtain ⟨-, a3⟩ : QAg g e ∧ QAgn g e ≤ 6 := by
    rcases hag with ⟨-, z⟩ | ⟨-, -, z⟩ | ⟨z1, z2, -⟩
    · omega
    · omega
    · exact ⟨z1, z2⟩
  obtain ⟨c, hc, c0, hf⟩ := hf
  have c1 := (hc.rg hn.1).2
  have n1' := ggo_n (g := g) c0
  unfold QAgn at a3
  rcases hf with ⟨b1, hf⟩ | ⟨b1, d, hd, d0, hf⟩
  · rw [ggo_hi hn.2 (by omega)] at b1
    rw [if_pos b1] at a3
    rw [hf.out (by omega) (by rw [ggo_hi hn.2 (by omega)]; intro z; rw [if_neg z] at a3; omega) hi, ggo_out c0 hn.2 hi]
  · rw [ggo_hi hn.2 (by omega)] at b1
    rw [if_neg b1] at a3
    have d1 := (hd.rg (by omega)).2
    have n2' := ggo_n (g := ggo g c) d0
    rw [hf.out (by omega) (by rw [ggo_hi (by omega) (by omega), ggo_hi hn.2 (by omega)]; intro z; rw [if_neg z] at a3; omega) hi, ggo_out d0 (by omega) hi, ggo_out c0 hn.2 hi]
/-- how many roots an equivalence would bring; -1: it is refused -/
def QRb (g : Int → Int) (e n : Int) : Prop := (¬ QAga g e 0 ∧ n = -1) ∨ (QAga g e 0 ∧ ∃ r' g' u, QAp g e r' g' ∧ QBest g' u ∧ n = qroots g' u)
theorem WFe.d {g : Int → Int} {e : Int} (h : WFe g e) : g (28 + 4 * e + 0) ≠ g (28 + 4 * e + 1) ∧ g (28 + 4 * e + 0) ≠ 32 := by
  unfold WFe QCap at h
  omega
set_option maxRecDepth 100000 in
set_option maxHeartbeats 4000000 in
theorem c_apply (κ : KP) {A : Nat → Nat} {M : MEM} (hA : MA A) (hR : RG M) (hC : CW (M 0)) (hK : QKn M) (p0 : 0 ≤ M 30 5) (p1 : M 30 5 ≤ 8) {e : Int} (re : rng e) : RM κ mX10_apply 4 A [.ref (A 30), .int (J e)] M (fun r M' => (¬ QIn e 0 (M 0 2 - 1) ∧ XThr M 1 M') ∨ (QIn e 0 (M 0 2 - 1) ∧ ∃ no, QAga (M 0) e no ∧ 0 < no ∧ XRef M 2 no M') ∨ (QIn e 0 (M 0 2 - 1) ∧ QAga (M 0) e 0 ∧ ∃ g', QAp (M 0) e r g' ∧ QNew M g' M')) := by
  intro h
  refine mm_of (L := [some _, some _, none]) (by decide +kernel) rfl rfl (Nat.le_of_ble_eq_true rfl) rfl ?_
  have hW := hC.1
  obtain ⟨⟨y0, y1⟩, ⟨n0, n1⟩, ⟨q0, q1⟩, ⟨m0, m1⟩⟩ := hW.n
  refine r_al0 dX10_apply_0 ?_
  refine r_al0 dX10_apply_1 ?_
  refine r_il1 dX10_apply_2 ?_
  refine m_callP1 dX10_apply_3 v_X10_159 hA (c_isEqual κ _ hA hR (by omega) (by omega) (by omega)) (by decide) rfl ?_
  refine r_ifT_eq (tgt := 13) dX10_apply_6 (by decide) (fun c_6 => ?_) (fun c_6 => ?_)
  · refine r_iconst dX10_apply_13 ?_
    refine m_put dX10_apply_14 f_X10_51 p_X10_51 (ff_14_7 _) hA mfp_7 rfl rfl ?_
    refine r_al0 dX10_apply_17 ?_
    refine m_get dX10_apply_18 f_X10_51 hA rfl ?_
    try simp only [updm_app, cpy_app, Int.reduceEq, Nat.reduceEqDiff, and_true, true_and, false_and, and_false, if_true, if_false, reduceIte]
    refine r_if_le (tgt := 26) dX10_apply_21 (by decide) (by first | omega | decide) (fun c_21 => ?_) (fun c_21 => ?_)
    · exact absurd c_21 (by decide)
    · refine r_iconst dX10_apply_24 ?_
      exact r_iret dX10_apply_25 (ty := .int) rfl rfl ⟨_, _, rfl, rfl, Or.inl ⟨by assumption, rfl⟩⟩
  · refine r_iconst dX10_apply_9 ?_
    refine r_goto (tgt := 14) dX10_apply_10 (by decide) ?_
    refine m_put dX10_apply_14 f_X10_51 p_X10_51 (ff_14_7 _) hA mfp_7 rfl rfl ?_
    refine r_al0 dX10_apply_17 ?_
    refine m_get dX10_apply_18 f_X10_51 hA rfl ?_
    try simp only [updm_app, cpy_app, Int.reduceEq, Nat.reduceEqDiff, and_true, true_and, false_and, and_false, if_true, if_false, reduceIte]
    refine r_if_le (tgt := 26) dX10_apply_21 (by decide) (by first | omega | decide) (fun c_21 => ?_) (fun c_21 => ?_)
    · refine r_al0 dX10_apply_26 ?_
      refine r_il1 dX10_apply_27 ?_
      refine m_callR1 dX10_apply_28 v_X10_165 hA (c_against κ hA (hR.up (by decide)) (e := e) (by unfold QIn at *; omega) (by unfold QIn at *; omega) n0 n1) (by decide) rfl (fun r_28 M_28 h_28 => ?_)
      obtain ⟨hx1, hag⟩ := h_28
      obtain rfl := hx1
      rw [updm_k (by decide)] at hag
      have hno := hag.no
      refine r_is2 dX10_apply_31 rfl ?_
      refine r_il2 dX10_apply_32 ?_
      refine r_if_le (tgt := 43) dX10_apply_33 (by decide) (by first | omega | decide) (fun c_33 => ?_) (fun c_33 => ?_)
      · refine r_al0 dX10_apply_43 ?_
        refine m_callU0 dX10_apply_44 v_X10_136 hA (c_changes κ hA (hR.up (by decide)) (by simp only [updm_app, Int.reduceEq, Nat.reduceEqDiff, and_false, if_false, reduceIte]; omega) (by simp only [updm_app, Int.reduceEq, Nat.reduceEqDiff, and_false, if_false, reduceIte]; omega)) (by decide) rfl (fun M_44 h_44 => ?_)
        have e0_44 : M_44 0 = M 0 := (h_44.at.2.1 0 (by decide) (by decide)).trans (updm_k (by decide))
        have hR_44 := h_44.at.1
        refine r_al0 dX10_apply_47 ?_
        refine r_il1 dX10_apply_48 ?_
        refine m_callR1 dX10_apply_49 v_X10_168 hA (c_applies κ hA hR_44 (by rw [e0_44]; exact hW.FC (fun i => hR 0 i)) (e := e) (by unfold QIn at *; omega) (by unfold QIn at *; omega) (by rw [e0_44]; exact (hW.e (by unfold QIn at *; omega) (by unfold QIn at *; omega)).d.1) (by rw [e0_44]; exact (hW.e (by unfold QIn at *; omega) (by unfold QIn at *; omega)).d.2) (by rw [e0_44]; exact hag.z (by omega))) (by decide) rfl (fun r_49 M_49 h_49 => ?_)
        rw [e0_44] at h_49
        obtain ⟨g2, hg2, hap⟩ := h_49
        exact r_iret dX10_apply_52 (ty := .int) rfl rfl ⟨_, _, rfl, rfl, Or.inr (Or.inr ⟨by assumption, hag.z (by omega), g2, hap, M_44, h_44, hg2⟩)⟩
      · refine r_al0 dX10_apply_36 ?_
        refine r_iconst dX10_apply_37 ?_
        refine r_il2 dX10_apply_38 ?_
        refine m_callR2 dX10_apply_39 v_X10_133 hA (c_refuses κ hA (hR.up (by decide)) (by omega)) (by decide) rfl (fun r_39 M_39 h_39 => ?_)
        obtain ⟨rfl, rfl⟩ := h_39
        exact r_iret dX10_apply_42 (ty := .int) rfl rfl ⟨_, _, rfl, rfl, Or.inr (Or.inl ⟨by assumption, _, hag, by omega, rfl⟩)⟩
    · exact absurd c_21 (by decide)
theorem QFin.rng {g : Int → Int} {e P gr y r : Int} {g' : Int → Int} (h : QFin g e P gr y r g') (hg : ∀ i, rng (g i)) (hn : 0 ≤ g 1 ∧ g 1 ≤ 5) (h2 : g (28 + 4 * e + 3) ≠ 32 → g 1 ≤ 4) (hP : 0 ≤ P ∧ P ≤ 24) (hgr : 0 ≤ gr ∧ gr ≤ 20) (hy : 0 ≤ y ∧ y ≤ 60) : ∀ i, rng (g' i) := by
  rcases h with ⟨a1, -, rfl⟩ | ⟨a1, -, rfl⟩
  · exact FC.cm hg hn (hg _) (by omega) (by omega) (by omega)
  · have := h2 a1
    exact FC.cm (FC.cm hg hn (hg _) (by omega) (by omega) (by omega)) (by rw [gcm_n (by omega)]; omega) (hg _) (by omega) (by omega) (by omega)
theorem g2_rng {M : MEM} (hR : RG M) {e r : Int} {g' : Int → Int} (h : CW (M 0)) (e0 : 0 ≤ e) (e1 : e < M 0 2) (hag : QAga (M 0) e 0) (hf : QAp (M 0) e r g') : ∀ i, rng (g' i) := by
  have hr0 : ∀ i, rng (M 0 i) := fun i => hR 0 i
  revert hf hag e1 h hr0
  generalize M 0 = g
  intro h e1 hag hf hr0
  obtain ⟨⟨y0, y1⟩, ⟨n0, n1⟩, ⟨q0, q1⟩, ⟨m0, m1⟩⟩ := h.1.n
  have he := h.1.e e0 e1
  unfold WFe at he
  obtain ⟨-, a3⟩ : QAg g e ∧ QAgn g e ≤ 6 := by
    rcases hag with ⟨-, z⟩ | ⟨-, -, z⟩ | ⟨z1, z2, -⟩
    · omega
    · omega
    · exact ⟨z1, z2⟩
  obtain ⟨c, hc, c0, hf⟩ := hf
  obtain ⟨c1, fp, fg, fy⟩ := hc.facts c0 h he.1
  have h1 := h.go c0 c1
  have hr1 := ((h.1.FC hr0).go c0 c1).1
  have n1' := ggo_n (g := g) c0
  have m20 := mn_le (a := g (4 + 4 * c + 2)) (b := 20)
  have m60 := mn_le (a := g (4 + 4 * c + 3)) (b := 60)
  have p20 := mn_nn (a := g (4 + 4 * c + 2)) (b := 20) fg.1 (by decide)
  have p60 := mn_nn (a := g (4 + 4 * c + 3)) (b := 60) fy.1 (by decide)
  unfold QAgn at a3
  rcases hf with ⟨b1, hf⟩ | ⟨b1, d, hd, d0, hf⟩
  · rw [ggo_hi n1 (by omega)] at b1
    rw [if_pos b1] at a3
    exact hf.rng hr1 (by omega) (by rw [ggo_hi n1 (by omega)]; intro z; rw [if_neg z] at a3; omega) (by omega) (by omega) (by omega)
  · rw [ggo_hi n1 (by omega)] at b1 hd
    rw [if_neg b1] at a3
    have hcap : QCap (g (28 + 4 * e + 1)) := by rcases he.2.1 with q | q; exact absurd q b1; exact q
    obtain ⟨d1, fp2, fg2, fy2⟩ := hd.facts d0 h1 hcap
    have hr2 := ((h1.1.FC hr1).go d0 d1).1
    have n2' := ggo_n (g := ggo g c) d0
    have m20' := mn_le (a := ggo g c (4 + 4 * d + 2)) (b := mn (g (4 + 4 * c + 2)) 20)
    have m60' := mn_le (a := ggo g c (4 + 4 * d + 3)) (b := mn (g (4 + 4 * c + 3)) 60)
    have p20' := mn_nn (a := ggo g c (4 + 4 * d + 2)) (b := mn (g (4 + 4 * c + 2)) 20) fg2.1 p20
    have p60' := mn_nn (a := ggo g c (4 + 4 * d + 3)) (b := mn (g (4 + 4 * c + 3)) 60) fy2.1 p60
    exact hf.rng hr2 (by omega) (by rw [ggo_hi (by omega) (by omega), ggo_hi n1 (by omega)]; intro z; rw [if_neg z] at a3; omega) (by omega) (by omega) (by omega)
set_option maxRecDepth 100000 in
set_option maxHeartbeats 4000000 in
theorem c_rootsThen (κ : KP) {A : Nat → Nat} {M : MEM} (hA : MA A) (hR : RG M) (hC : CW (M 0)) {e : Int} (e0 : 0 ≤ e) (e1 : e < M 0 2) (hag : QAga (M 0) e 0) : RM κ mX10_rootsThen 8 A [.ref (A 30), .int (J e)] M (fun r M' => RG M' ∧ SB [2, 9, 10, 11, 12] [8, 13, 14, 15] M M' ∧ M' 30 8 = 0 ∧ ∃ r2 g2 u, QAp (M 0) e r2 g2 ∧ QBest g2 u ∧ r = qroots g2 u) := by
  intro h
  refine mm_of (L := [some _, some _, none]) (by decide +kernel) rfl rfl (Nat.le_of_ble_eq_true rfl) rfl ?_
  have hW := hC.1
  obtain ⟨⟨y0, y1⟩, ⟨n0, n1⟩, ⟨q0, q1⟩, ⟨m0, m1⟩⟩ := hW.n
  have ec : cpy M 0 0 2 0 156 0 = M 0 := cpy_kf (by decide)
  refine r_al0 dX10_rootsThen_0 ?_
  refine m_get dX10_rootsThen_1 f_X10_7 hA rfl ?_
  refine r_iconst dX10_rootsThen_4 ?_
  refine r_al0 dX10_rootsThen_5 ?_
  refine m_get dX10_rootsThen_6 f_X10_16 hA rfl ?_
  refine r_iconst dX10_rootsThen_9 ?_
  refine m_copies 0 2 dX10_rootsThen_10 s_X10_76 hA (by decide) (by decide) rfl rfl (by decide) (by omega) (by simp only [mlen]; omega) (by omega) (by simp only [mlen]; omega) (by simp only [mlen]; omega) (by simp only [mlen]; omega) (by decide) rfl ?_
  refine r_al0 dX10_rootsThen_13 ?_
  refine r_il1 dX10_rootsThen_14 ?_
  refine m_callR1 dX10_rootsThen_15 v_X10_168 hA (c_applies κ hA (RG_cpy hR) (by rw [ec]; exact hW.FC (fun i => hR 0 i)) e0 (by omega) (by rw [ec]; exact (hW.e e0 e1).d.1) (by rw [ec]; exact (hW.e e0 e1).d.2) (by rw [ec]; exact hag)) (by decide) rfl (fun r_15 M_15 h_15 => ?_)
  rw [ec] at h_15
  obtain ⟨g2, hg2, hap⟩ := h_15
  obtain rfl := hg2
  have hC2 := hC.ap e0 e1 hag hap
  have hrg : ∀ i, rng (g2 i) := g2_rng hR hC e0 e1 hag hap
  refine r_pop dX10_rootsThen_18 rfl ?_
  refine r_al0 dX10_rootsThen_19 ?_
  refine m_callR0 dX10_rootsThen_20 v_X10_171 hA (c_rootsNow κ hA (RG_setg (RG_cpy hR) hrg) hC2.1) (by decide) rfl (fun r_20 M_20 h_20 => ?_)
  obtain ⟨hRn, hSn, hkn, u, hbu, hru⟩ := h_20
  rw [setg_0] at hbu hru
  refine r_is2 dX10_rootsThen_23 rfl ?_
  refine r_al0 dX10_rootsThen_24 ?_
  refine m_get dX10_rootsThen_25 f_X10_16 hA rfl ?_
  refine r_iconst dX10_rootsThen_28 ?_
  refine r_al0 dX10_rootsThen_29 ?_
  refine m_get dX10_rootsThen_30 f_X10_7 hA rfl ?_
  refine r_iconst dX10_rootsThen_33 ?_
  refine m_copies 2 0 dX10_rootsThen_34 s_X10_76 hA (by decide) (by decide) rfl rfl (by decide) (by omega) (by simp only [mlen]; omega) (by omega) (by simp only [mlen]; omega) (by simp only [mlen]; omega) (by simp only [mlen]; omega) (by decide) rfl ?_
  refine r_il2 dX10_rootsThen_37 ?_
  refine r_iret dX10_rootsThen_38 (ty := .int) rfl rfl ⟨_, _, rfl, rfl, RG_cpy hRn, ⟨fun k hk h3 => ?_, fun f hf => ?_⟩, ?_, _, g2, u, hap, hbu, hru⟩
  · by_cases z : k = 0
    · subst z
      funext i
      by_cases y : 0 ≤ i ∧ i < 0 + 156
      · rw [cpy_in (by omega), hSn.1 2 (by decide) (by decide), setg_k (by decide), cpy_in (by omega)]
        congr 1
        omega
      · rw [cpy_out (by omega), hSn.1 0 (by decide) (by decide), setg_0]
        exact hap.out ⟨n0, n1⟩ e0 hag (by omega)
    · rw [cpy_kf (by omega), hSn.1 k (fun y => hk (List.mem_cons_of_mem _ y)) h3, setg_k z, cpy_kf (fun y => hk (by rw [y]; exact List.mem_cons_self))]
  · rw [cpy_kf (by decide), hSn.2 f hf, setg_k (by decide), cpy_kf (by decide)]
  · rw [cpy_kf (by decide)]; exact hkn
def R_rootsBy (g : Int → Int) (e t r : Int) : Prop := (¬ QIn e 0 (g 2 - 1) ∧ t = 1) ∨ (QIn e 0 (g 2 - 1) ∧ ¬ QAga g e 0 ∧ t = 2) ∨ (QIn e 0 (g 2 - 1) ∧ t = 0 ∧ QAga g e 0 ∧ QRb g e r)
theorem SB.th {M M1 : MEM} {ks : List Nat} {fs : List Int} {t : Int} (h : SB ks fs (updm M 30 7 t) M1) : SB ks (7 :: fs) M M1 := ((SB.upF SB.rf (by decide) : SB [] [7] M (updm M 30 7 t)).trans h).mono (fun k hk => hk) (fun f hf => hf)
set_option maxRecDepth 100000 in
set_option maxHeartbeats 4000000 in
theorem c_rootsBy (κ : KP) {A : Nat → Nat} {M : MEM} (hA : MA A) (hR : RG M) (hC : CW (M 0)) (hK : QKn M) {e : Int} (re : rng e) : RM κ mX10_rootsBy 9 A [.ref (A 30), .int (J e)] M (fun r M' => ∃ t, QFx M t M' ∧ R_rootsBy (M 0) e t r) := by
  intro h
  refine mm_of (L := [some _, some _]) (by decide +kernel) rfl rfl (Nat.le_of_ble_eq_true rfl) rfl ?_
  have hW := hC.1
  obtain ⟨⟨y0, y1⟩, ⟨n0, n1⟩, ⟨q0, q1⟩, ⟨m0, m1⟩⟩ := hW.n
  refine r_al0 dX10_rootsBy_0 ?_
  refine r_al0 dX10_rootsBy_1 ?_
  refine r_il1 dX10_rootsBy_2 ?_
  refine m_callP1 dX10_rootsBy_3 v_X10_159 hA (c_isEqual κ _ hA hR (by omega) (by omega) (by omega)) (by decide) rfl ?_
  refine r_ifT_eq (tgt := 25) dX10_rootsBy_6 (by decide) (fun c_6 => ?_) (fun c_6 => ?_)
  · refine r_iconst dX10_rootsBy_25 ?_
    refine m_put dX10_rootsBy_26 f_X10_51 p_X10_51 (ff_14_7 _) hA mfp_7 rfl rfl ?_
    refine r_al0 dX10_rootsBy_29 ?_
    refine m_get dX10_rootsBy_30 f_X10_51 hA rfl ?_
    try simp only [updm_app, cpy_app, Int.reduceEq, Nat.reduceEqDiff, and_true, true_and, false_and, and_false, if_true, if_false, reduceIte]
    refine r_if_le (tgt := 40) dX10_rootsBy_33 (by decide) (by first | omega | decide) (fun c_33 => ?_) (fun c_33 => ?_)
    · exact absurd c_33 (by decide)
    · refine r_iconst dX10_rootsBy_36 ?_
      refine r_goto (tgt := 45) dX10_rootsBy_37 (by decide) ?_
      first
        | exact r_iret dX10_rootsBy_45 (ty := .int) rfl rfl ⟨_, _, rfl, rfl, 0, ⟨hRt, hSt.th.mono (by decide) (by decide), by rw [hSt.2 7 (by decide), updm_at], Or.inl hkt⟩, Or.inr (Or.inr ⟨by assumption, rfl, hag.z (by omega), Or.inr ⟨hag.z (by omega), r2, g2, u, hap, hbu, hru⟩⟩)⟩
        | exact r_iret dX10_rootsBy_45 (ty := .int) rfl rfl ⟨_, _, rfl, rfl, 2, QFx.thr hR hK (by decide), Or.inr (Or.inl ⟨by assumption, hag.nz (by omega), rfl⟩)⟩
        | exact r_iret dX10_rootsBy_45 (ty := .int) rfl rfl ⟨_, _, rfl, rfl, 1, QFx.thr hR hK (by decide), Or.inl ⟨by assumption, rfl⟩⟩
  · refine r_al0 dX10_rootsBy_9 ?_
    refine r_il1 dX10_rootsBy_10 ?_
    refine m_callR1 dX10_rootsBy_11 v_X10_165 hA (c_against κ hA hR (e := e) (by unfold QIn at *; omega) (by unfold QIn at *; omega) n0 n1) (by decide) rfl (fun r_11 M_11 h_11 => ?_)
    obtain ⟨hx1, hag⟩ := h_11
    obtain rfl := hx1.symm
    have hno := hag.no
    refine r_if_le (tgt := 21) dX10_rootsBy_14 (by decide) (by first | omega | decide) (fun c_14 => ?_) (fun c_14 => ?_)
    · refine r_iconst dX10_rootsBy_21 ?_
      refine r_goto (tgt := 26) dX10_rootsBy_22 (by decide) ?_
      refine m_put dX10_rootsBy_26 f_X10_51 p_X10_51 (ff_14_7 _) hA mfp_7 rfl rfl ?_
      refine r_al0 dX10_rootsBy_29 ?_
      refine m_get dX10_rootsBy_30 f_X10_51 hA rfl ?_
      try simp only [updm_app, cpy_app, Int.reduceEq, Nat.reduceEqDiff, and_true, true_and, false_and, and_false, if_true, if_false, reduceIte]
      refine r_if_le (tgt := 40) dX10_rootsBy_33 (by decide) (by first | omega | decide) (fun c_33 => ?_) (fun c_33 => ?_)
      · refine r_al0 dX10_rootsBy_40 ?_
        refine r_il1 dX10_rootsBy_41 ?_
        refine m_callR1 dX10_rootsBy_42 v_X10_175 hA (c_rootsThen κ hA (hR.up (by decide)) (by rw [updm_k (by decide)]; exact hC) (e := e) (by unfold QIn at *; omega) (by rw [updm_k (by decide)]; unfold QIn at *; omega) (by rw [updm_k (by decide)]; exact hag.z (by omega))) (by decide) rfl (fun r_42 M_42 h_42 => ?_)
        obtain ⟨hRt, hSt, hkt, r2, g2, u, hap, hbu, hru⟩ := h_42
        rw [updm_k (by decide)] at hap
        first
          | exact r_iret dX10_rootsBy_45 (ty := .int) rfl rfl ⟨_, _, rfl, rfl, 0, ⟨hRt, hSt.th.mono (by decide) (by decide), by rw [hSt.2 7 (by decide), updm_at], Or.inl hkt⟩, Or.inr (Or.inr ⟨by assumption, rfl, hag.z (by omega), Or.inr ⟨hag.z (by omega), r2, g2, u, hap, hbu, hru⟩⟩)⟩
          | exact r_iret dX10_rootsBy_45 (ty := .int) rfl rfl ⟨_, _, rfl, rfl, 2, QFx.thr hR hK (by decide), Or.inr (Or.inl ⟨by assumption, hag.nz (by omega), rfl⟩)⟩
          | exact r_iret dX10_rootsBy_45 (ty := .int) rfl rfl ⟨_, _, rfl, rfl, 1, QFx.thr hR hK (by decide), Or.inl ⟨by assumption, rfl⟩⟩
      · exact absurd c_33 (by decide)
    · refine r_iconst dX10_rootsBy_17 ?_
      refine r_goto (tgt := 26) dX10_rootsBy_18 (by decide) ?_
      refine m_put dX10_rootsBy_26 f_X10_51 p_X10_51 (ff_14_7 _) hA mfp_7 rfl rfl ?_
      refine r_al0 dX10_rootsBy_29 ?_
      refine m_get dX10_rootsBy_30 f_X10_51 hA rfl ?_
      try simp only [updm_app, cpy_app, Int.reduceEq, Nat.reduceEqDiff, and_true, true_and, false_and, and_false, if_true, if_false, reduceIte]
      refine r_if_le (tgt := 40) dX10_rootsBy_33 (by decide) (by first | omega | decide) (fun c_33 => ?_) (fun c_33 => ?_)
      · exact absurd c_33 (by decide)
      · refine r_iconst dX10_rootsBy_36 ?_
        refine r_goto (tgt := 45) dX10_rootsBy_37 (by decide) ?_
        first
          | exact r_iret dX10_rootsBy_45 (ty := .int) rfl rfl ⟨_, _, rfl, rfl, 0, ⟨hRt, hSt.th.mono (by decide) (by decide), by rw [hSt.2 7 (by decide), updm_at], Or.inl hkt⟩, Or.inr (Or.inr ⟨by assumption, rfl, hag.z (by omega), Or.inr ⟨hag.z (by omega), r2, g2, u, hap, hbu, hru⟩⟩)⟩
          | exact r_iret dX10_rootsBy_45 (ty := .int) rfl rfl ⟨_, _, rfl, rfl, 2, QFx.thr hR hK (by decide), Or.inr (Or.inl ⟨by assumption, hag.nz (by omega), rfl⟩)⟩
          | exact r_iret dX10_rootsBy_45 (ty := .int) rfl rfl ⟨_, _, rfl, rfl, 1, QFx.thr hR hK (by decide), Or.inl ⟨by assumption, rfl⟩⟩
def R_isMet (g : Int → Int) (b t r : Int) : Prop := (¬ QIn b 0 (g 3 - 1) ∧ t = 1) ∨ (QIn b 0 (g 3 - 1) ∧ t = 0 ∧ ∃ u, QBest g u ∧ r = bP (qmet g u b))
def R_lacks (g : Int → Int) (b t r : Int) : Prop := (¬ QIn b 0 (g 3 - 1) ∧ t = 1) ∨ (QIn b 0 (g 3 - 1) ∧ QGr g b ∧ t = 2) ∨ (QIn b 0 (g 3 - 1) ∧ ¬ QGr g b ∧ t = 0 ∧ ∃ u, QBest g u ∧ ((qmet g u b ∧ r = 0) ∨ (¬ qmet g u b ∧ r = g (60 + 12 * b + 2) - qgets g u b)))
theorem bP_ne {P : Prop} (h : bP P ≠ 0) : P := Classical.byContradiction fun q => h (bP_f q)
theorem bP_z {P : Prop} (h : bP P = 0) : ¬ P := fun q => by rw [bP_t q] at h; exact absurd h (by decide)
theorem QFs.fsx {M M1 : MEM} {t : Int} (h : QFs M M1) (ht : rng t) : QFx M t (updm M1 30 7 t) := QFx.fs h ht
set_option maxRecDepth 100000 in
set_option maxHeartbeats 4000000 in
theorem c_isMet (κ : KP) {A : Nat → Nat} {M : MEM} (hA : MA A) (hR : RG M) (hC : CW (M 0)) (hK : QKn M) {b : Int} (rb : rng b) : RM κ mX10_isMet 7 A [.ref (A 30), .int (J b)] M (fun r M' => ∃ t, QFx M t M' ∧ R_isMet (M 0) b t r) := by
  intro h
  refine mm_of (L := [some _, some _]) (by decide +kernel) rfl rfl (Nat.le_of_ble_eq_true rfl) rfl ?_
  have hW := hC.1
  obtain ⟨⟨y0, y1⟩, ⟨n0, n1⟩, ⟨q0, q1⟩, ⟨m0, m1⟩⟩ := hW.n
  refine r_al0 dX10_isMet_0 ?_
  refine m_callU0 dX10_isMet_1 v_X10_150 hA (c_finds κ hA hR hW hK) (by decide) rfl (fun M_1 h_1 => ?_)
  have e0 := h_1.e0
  have hR1 := h_1.1
  have hf := h_1
  obtain ⟨-, -, -, hbest, hw1, hw2, hw3, hw4⟩ := h_1
  refine r_al0 dX10_isMet_4 ?_
  refine r_al0 dX10_isMet_5 ?_
  refine r_il1 dX10_isMet_6 ?_
  refine m_callP1 dX10_isMet_7 v_X10_153 hA (c_isBlock κ _ hA hR1 (by omega) (by rw [e0]; omega) (by rw [e0]; omega)) (by decide) rfl ?_
  simp only [e0]
  refine r_ifT_eq (tgt := 17) dX10_isMet_10 (by decide) (fun c_10 => ?_) (fun c_10 => ?_)
  · refine r_iconst dX10_isMet_17 ?_
    refine m_put dX10_isMet_18 f_X10_51 p_X10_51 (ff_14_7 _) hA mfp_7 rfl rfl ?_
    refine r_al0 dX10_isMet_21 ?_
    refine m_get dX10_isMet_22 f_X10_51 hA rfl ?_
    try simp only [updm_app, Int.reduceEq, Nat.reduceEqDiff, and_true, true_and, false_and, and_false, if_true, if_false, reduceIte, e0]
    refine r_if_ne (tgt := 41) dX10_isMet_25 (by decide) (by first | omega | exact hR1 _ _ | decide | (simp only [updm_app, Int.reduceEq, Nat.reduceEqDiff, and_true, true_and, false_and, and_false, if_true, if_false, reduceIte]; exact hR1 _ _)) (fun c_25 => ?_) (fun c_25 => ?_)
    · refine r_iconst dX10_isMet_41 ?_
      first
        | exact r_iret dX10_isMet_42 (ty := .boolean) rfl (by decide) ⟨_, _, rfl, rfl, 1, hf.fsx (by decide), Or.inl ⟨by assumption, rfl⟩⟩
        | (have hmm := (hw1 b (by unfold QIn at *; omega) (by unfold QIn at *; omega)).2
           first
             | exact r_iret dX10_isMet_42 (ty := .boolean) rfl (by decide) ⟨_, _, rfl, rfl, 0, hf.fsx (by decide), Or.inr ⟨by assumption, rfl, _, hbest, (bP_t (bP_ne (by rw [← hmm]; assumption))).symm⟩⟩
             | exact r_iret dX10_isMet_42 (ty := .boolean) rfl (by decide) ⟨_, _, rfl, rfl, 0, hf.fsx (by decide), Or.inr ⟨by assumption, rfl, _, hbest, (bP_f (bP_z (by rw [← hmm]; assumption))).symm⟩⟩)
    · exact absurd c_25 (by decide)
  · refine r_iconst dX10_isMet_13 ?_
    refine r_goto (tgt := 18) dX10_isMet_14 (by decide) ?_
    refine m_put dX10_isMet_18 f_X10_51 p_X10_51 (ff_14_7 _) hA mfp_7 rfl rfl ?_
    refine r_al0 dX10_isMet_21 ?_
    refine m_get dX10_isMet_22 f_X10_51 hA rfl ?_
    try simp only [updm_app, Int.reduceEq, Nat.reduceEqDiff, and_true, true_and, false_and, and_false, if_true, if_false, reduceIte, e0]
    refine r_if_ne (tgt := 41) dX10_isMet_25 (by decide) (by first | omega | exact hR1 _ _ | decide | (simp only [updm_app, Int.reduceEq, Nat.reduceEqDiff, and_true, true_and, false_and, and_false, if_true, if_false, reduceIte]; exact hR1 _ _)) (fun c_25 => ?_) (fun c_25 => ?_)
    · exact absurd c_25 (by decide)
    · refine r_al0 dX10_isMet_28 ?_
      refine m_get dX10_isMet_29 f_X10_31 hA rfl ?_
      refine r_il1 dX10_isMet_32 ?_
      refine m_zald dX10_isMet_33 hA (by decide) rfl (by first | (unfold QIn at *; omega) | (simp only [mlen]; unfold QIn at *; omega)) (by first | (unfold QIn at *; omega) | (simp only [mlen]; unfold QIn at *; omega)) ?_
      try simp only [updm_app, Int.reduceEq, Nat.reduceEqDiff, and_true, true_and, false_and, and_false, if_true, if_false, reduceIte, e0]
      refine r_if_eq (tgt := 41) dX10_isMet_34 (by decide) (by first | omega | exact hR1 _ _ | decide | (simp only [updm_app, Int.reduceEq, Nat.reduceEqDiff, and_true, true_and, false_and, and_false, if_true, if_false, reduceIte]; exact hR1 _ _)) (fun c_34 => ?_) (fun c_34 => ?_)
      · refine r_iconst dX10_isMet_41 ?_
        first
          | exact r_iret dX10_isMet_42 (ty := .boolean) rfl (by decide) ⟨_, _, rfl, rfl, 1, hf.fsx (by decide), Or.inl ⟨by assumption, rfl⟩⟩
          | (have hmm := (hw1 b (by unfold QIn at *; omega) (by unfold QIn at *; omega)).2
             first
               | exact r_iret dX10_isMet_42 (ty := .boolean) rfl (by decide) ⟨_, _, rfl, rfl, 0, hf.fsx (by decide), Or.inr ⟨by assumption, rfl, _, hbest, (bP_t (bP_ne (by rw [← hmm]; assumption))).symm⟩⟩
               | exact r_iret dX10_isMet_42 (ty := .boolean) rfl (by decide) ⟨_, _, rfl, rfl, 0, hf.fsx (by decide), Or.inr ⟨by assumption, rfl, _, hbest, (bP_f (bP_z (by rw [← hmm]; assumption))).symm⟩⟩)
      · refine r_iconst dX10_isMet_37 ?_
        refine r_goto (tgt := 42) dX10_isMet_38 (by decide) ?_
        first
          | exact r_iret dX10_isMet_42 (ty := .boolean) rfl (by decide) ⟨_, _, rfl, rfl, 1, hf.fsx (by decide), Or.inl ⟨by assumption, rfl⟩⟩
          | (have hmm := (hw1 b (by unfold QIn at *; omega) (by unfold QIn at *; omega)).2
             first
               | exact r_iret dX10_isMet_42 (ty := .boolean) rfl (by decide) ⟨_, _, rfl, rfl, 0, hf.fsx (by decide), Or.inr ⟨by assumption, rfl, _, hbest, (bP_t (bP_ne (by rw [← hmm]; assumption))).symm⟩⟩
               | exact r_iret dX10_isMet_42 (ty := .boolean) rfl (by decide) ⟨_, _, rfl, rfl, 0, hf.fsx (by decide), Or.inr ⟨by assumption, rfl, _, hbest, (bP_f (bP_z (by rw [← hmm]; assumption))).symm⟩⟩)
set_option maxRecDepth 100000 in
set_option maxHeartbeats 4000000 in
theorem c_lacks (κ : KP) {A : Nat → Nat} {M : MEM} (hA : MA A) (hR : RG M) (hC : CW (M 0)) (hK : QKn M) {b : Int} (rb : rng b) : RM κ mX10_lacks 7 A [.ref (A 30), .int (J b)] M (fun r M' => ∃ t, QFx M t M' ∧ R_lacks (M 0) b t r) := by
  intro h
  refine mm_of (L := [some _, some _]) (by decide +kernel) rfl rfl (Nat.le_of_ble_eq_true rfl) rfl ?_
  have hW := hC.1
  obtain ⟨⟨y0, y1⟩, ⟨n0, n1⟩, ⟨q0, q1⟩, ⟨m0, m1⟩⟩ := hW.n
  refine r_al0 dX10_lacks_0 ?_
  refine m_callU0 dX10_lacks_1 v_X10_150 hA (c_finds κ hA hR hW hK) (by decide) rfl (fun M_1 h_1 => ?_)
  have e0 := h_1.e0
  have hR1 := h_1.1
  have hf := h_1
  obtain ⟨-, -, -, hbest, hw1, hw2, hw3, hw4⟩ := h_1
  refine r_al0 dX10_lacks_4 ?_
  refine r_al0 dX10_lacks_5 ?_
  refine r_il1 dX10_lacks_6 ?_
  refine m_callP1 dX10_lacks_7 v_X10_153 hA (c_isBlock κ _ hA hR1 (by omega) (by rw [e0]; omega) (by rw [e0]; omega)) (by decide) rfl ?_
  simp only [e0]
  refine r_ifT_eq (tgt := 29) dX10_lacks_10 (by decide) (fun c_10 => ?_) (fun c_10 => ?_)
  · refine r_iconst dX10_lacks_29 ?_
    refine m_put dX10_lacks_30 f_X10_51 p_X10_51 (ff_14_7 _) hA mfp_7 rfl rfl ?_
    refine r_al0 dX10_lacks_33 ?_
    refine m_get dX10_lacks_34 f_X10_51 hA rfl ?_
    try simp only [updm_app, Int.reduceEq, Nat.reduceEqDiff, and_true, true_and, false_and, and_false, if_true, if_false, reduceIte, e0]
    refine r_if_gt (tgt := 49) dX10_lacks_37 (by decide) (by first | omega | exact hR1 _ _ | decide | (simp only [updm_app, Int.reduceEq, Nat.reduceEqDiff, and_true, true_and, false_and, and_false, if_true, if_false, reduceIte]; exact hR1 _ _)) (fun c_37 => ?_) (fun c_37 => ?_)
    · refine r_iconst dX10_lacks_49 ?_
      refine r_goto (tgt := 70) dX10_lacks_50 (by decide) ?_
      first
        | exact r_iret dX10_lacks_70 (ty := .int) rfl rfl ⟨_, _, rfl, rfl, 1, hf.fsx (by decide), Or.inl ⟨by assumption, rfl⟩⟩
        | exact r_iret dX10_lacks_70 (ty := .int) rfl rfl ⟨_, _, rfl, rfl, 2, hf.fsx (by decide), Or.inr (Or.inl ⟨by assumption, by assumption, rfl⟩)⟩
        | (have hmm := hw1 b (by unfold QIn at *; omega) (by unfold QIn at *; omega)
           first
             | exact r_iret dX10_lacks_70 (ty := .int) rfl rfl ⟨_, _, rfl, rfl, 0, hf.fsx (by decide), Or.inr (Or.inr ⟨by assumption, by assumption, rfl, _, hbest, Or.inl ⟨bP_ne (by rw [← hmm.2]; assumption), rfl⟩⟩)⟩
             | exact r_iret dX10_lacks_70 (ty := .int) rfl rfl ⟨_, _, rfl, rfl, 0, hf.fsx (by decide), Or.inr (Or.inr ⟨by assumption, by assumption, rfl, _, hbest, Or.inr ⟨bP_z (by rw [← hmm.2]; assumption), by rw [← hmm.1]⟩⟩)⟩)
    · exact absurd c_37 (by decide)
  · refine r_al0 dX10_lacks_13 ?_
    refine r_il1 dX10_lacks_14 ?_
    refine m_callP1 dX10_lacks_15 v_X10_86 hA (c_isGroup κ _ hA hR1 (by unfold QIn at *; omega) (by unfold QIn at *; omega)) (by decide) rfl ?_
    simp only [e0]
    refine r_ifT_eq (tgt := 25) dX10_lacks_18 (by decide) (fun c_18 => ?_) (fun c_18 => ?_)
    · refine r_iconst dX10_lacks_25 ?_
      refine r_goto (tgt := 30) dX10_lacks_26 (by decide) ?_
      refine m_put dX10_lacks_30 f_X10_51 p_X10_51 (ff_14_7 _) hA mfp_7 rfl rfl ?_
      refine r_al0 dX10_lacks_33 ?_
      refine m_get dX10_lacks_34 f_X10_51 hA rfl ?_
      try simp only [updm_app, Int.reduceEq, Nat.reduceEqDiff, and_true, true_and, false_and, and_false, if_true, if_false, reduceIte, e0]
      refine r_if_gt (tgt := 49) dX10_lacks_37 (by decide) (by first | omega | exact hR1 _ _ | decide | (simp only [updm_app, Int.reduceEq, Nat.reduceEqDiff, and_true, true_and, false_and, and_false, if_true, if_false, reduceIte]; exact hR1 _ _)) (fun c_37 => ?_) (fun c_37 => ?_)
      · exact absurd c_37 (by decide)
      · refine r_al0 dX10_lacks_40 ?_
        refine m_get dX10_lacks_41 f_X10_31 hA rfl ?_
        refine r_il1 dX10_lacks_44 ?_
        refine m_zald dX10_lacks_45 hA (by decide) rfl (by first | (unfold QIn at *; omega) | (simp only [mlen]; unfold QIn at *; omega)) (by first | (unfold QIn at *; omega) | (simp only [mlen]; unfold QIn at *; omega)) ?_
        try simp only [updm_app, Int.reduceEq, Nat.reduceEqDiff, and_true, true_and, false_and, and_false, if_true, if_false, reduceIte, e0]
        refine r_if_eq (tgt := 53) dX10_lacks_46 (by decide) (by first | omega | exact hR1 _ _ | decide | (simp only [updm_app, Int.reduceEq, Nat.reduceEqDiff, and_true, true_and, false_and, and_false, if_true, if_false, reduceIte]; exact hR1 _ _)) (fun c_46 => ?_) (fun c_46 => ?_)
        · refine r_al0 dX10_lacks_53 ?_
          refine m_get dX10_lacks_54 f_X10_7 hA rfl ?_
          refine r_il1 dX10_lacks_57 ?_
          refine r_iconst dX10_lacks_58 ?_
          refine r_callSP2 dX10_lacks_59 s_X10_65 (c_blockAt κ _) (by decide) rfl ?_
          refine m_ald dX10_lacks_62 hA (by decide) rfl (by first | (unfold QIn at *; omega) | (simp only [mlen]; unfold QIn at *; omega)) (by first | (unfold QIn at *; omega) | (simp only [mlen]; unfold QIn at *; omega)) ?_
          try simp only [updm_app, Int.reduceEq, Nat.reduceEqDiff, and_true, true_and, false_and, and_false, if_true, if_false, reduceIte, e0]
          refine r_al0 dX10_lacks_63 ?_
          refine m_get dX10_lacks_64 f_X10_28 hA rfl ?_
          refine r_il1 dX10_lacks_67 ?_
          refine m_ald dX10_lacks_68 hA (by decide) rfl (by first | (unfold QIn at *; omega) | (simp only [mlen]; unfold QIn at *; omega)) (by first | (unfold QIn at *; omega) | (simp only [mlen]; unfold QIn at *; omega)) ?_
          try simp only [updm_app, Int.reduceEq, Nat.reduceEqDiff, and_true, true_and, false_and, and_false, if_true, if_false, reduceIte, e0]
          refine r_isub dX10_lacks_69 ?_
          first
            | exact r_iret dX10_lacks_70 (ty := .int) rfl rfl ⟨_, _, rfl, rfl, 1, hf.fsx (by decide), Or.inl ⟨by assumption, rfl⟩⟩
            | exact r_iret dX10_lacks_70 (ty := .int) rfl rfl ⟨_, _, rfl, rfl, 2, hf.fsx (by decide), Or.inr (Or.inl ⟨by assumption, by assumption, rfl⟩)⟩
            | (have hmm := hw1 b (by unfold QIn at *; omega) (by unfold QIn at *; omega)
               first
                 | exact r_iret dX10_lacks_70 (ty := .int) rfl rfl ⟨_, _, rfl, rfl, 0, hf.fsx (by decide), Or.inr (Or.inr ⟨by assumption, by assumption, rfl, _, hbest, Or.inl ⟨bP_ne (by rw [← hmm.2]; assumption), rfl⟩⟩)⟩
                 | exact r_iret dX10_lacks_70 (ty := .int) rfl rfl ⟨_, _, rfl, rfl, 0, hf.fsx (by decide), Or.inr (Or.inr ⟨by assumption, by assumption, rfl, _, hbest, Or.inr ⟨bP_z (by rw [← hmm.2]; assumption), by rw [← hmm.1]⟩⟩)⟩)
        · refine r_iconst dX10_lacks_49 ?_
          refine r_goto (tgt := 70) dX10_lacks_50 (by decide) ?_
          first
            | exact r_iret dX10_lacks_70 (ty := .int) rfl rfl ⟨_, _, rfl, rfl, 1, hf.fsx (by decide), Or.inl ⟨by assumption, rfl⟩⟩
            | exact r_iret dX10_lacks_70 (ty := .int) rfl rfl ⟨_, _, rfl, rfl, 2, hf.fsx (by decide), Or.inr (Or.inl ⟨by assumption, by assumption, rfl⟩)⟩
            | (have hmm := hw1 b (by unfold QIn at *; omega) (by unfold QIn at *; omega)
               first
                 | exact r_iret dX10_lacks_70 (ty := .int) rfl rfl ⟨_, _, rfl, rfl, 0, hf.fsx (by decide), Or.inr (Or.inr ⟨by assumption, by assumption, rfl, _, hbest, Or.inl ⟨bP_ne (by rw [← hmm.2]; assumption), rfl⟩⟩)⟩
                 | exact r_iret dX10_lacks_70 (ty := .int) rfl rfl ⟨_, _, rfl, rfl, 0, hf.fsx (by decide), Or.inr (Or.inr ⟨by assumption, by assumption, rfl, _, hbest, Or.inr ⟨bP_z (by rw [← hmm.2]; assumption), by rw [← hmm.1]⟩⟩)⟩)
    · refine r_iconst dX10_lacks_21 ?_
      refine r_goto (tgt := 30) dX10_lacks_22 (by decide) ?_
      refine m_put dX10_lacks_30 f_X10_51 p_X10_51 (ff_14_7 _) hA mfp_7 rfl rfl ?_
      refine r_al0 dX10_lacks_33 ?_
      refine m_get dX10_lacks_34 f_X10_51 hA rfl ?_
      try simp only [updm_app, Int.reduceEq, Nat.reduceEqDiff, and_true, true_and, false_and, and_false, if_true, if_false, reduceIte, e0]
      refine r_if_gt (tgt := 49) dX10_lacks_37 (by decide) (by first | omega | exact hR1 _ _ | decide | (simp only [updm_app, Int.reduceEq, Nat.reduceEqDiff, and_true, true_and, false_and, and_false, if_true, if_false, reduceIte]; exact hR1 _ _)) (fun c_37 => ?_) (fun c_37 => ?_)
      · refine r_iconst dX10_lacks_49 ?_
        refine r_goto (tgt := 70) dX10_lacks_50 (by decide) ?_
        first
          | exact r_iret dX10_lacks_70 (ty := .int) rfl rfl ⟨_, _, rfl, rfl, 1, hf.fsx (by decide), Or.inl ⟨by assumption, rfl⟩⟩
          | exact r_iret dX10_lacks_70 (ty := .int) rfl rfl ⟨_, _, rfl, rfl, 2, hf.fsx (by decide), Or.inr (Or.inl ⟨by assumption, by assumption, rfl⟩)⟩
          | (have hmm := hw1 b (by unfold QIn at *; omega) (by unfold QIn at *; omega)
             first
               | exact r_iret dX10_lacks_70 (ty := .int) rfl rfl ⟨_, _, rfl, rfl, 0, hf.fsx (by decide), Or.inr (Or.inr ⟨by assumption, by assumption, rfl, _, hbest, Or.inl ⟨bP_ne (by rw [← hmm.2]; assumption), rfl⟩⟩)⟩
               | exact r_iret dX10_lacks_70 (ty := .int) rfl rfl ⟨_, _, rfl, rfl, 0, hf.fsx (by decide), Or.inr (Or.inr ⟨by assumption, by assumption, rfl, _, hbest, Or.inr ⟨bP_z (by rw [← hmm.2]; assumption), by rw [← hmm.1]⟩⟩)⟩)
      · exact absurd c_37 (by decide)
