/-! ===== after; the blocks that accept; last years ===== -/
def x4 (a b c d : Int) : Int → Int := fun w => if w = 0 then a else if w = 1 then b else if w = 2 then c else d
theorem QTk_iff {g : Int → Int} (hW : WF g) {b c : Int} (b0 : 0 ≤ b) (b1 : b < g 3) : QTk g b c ↔ RTk (rwg g b) (crg g c) (g 0) := by
  unfold QTk RTk QOld
  constructor
  · rintro ⟨h1, h2, h3, h4⟩
    exact ⟨h2, h3, by simp only [rwg, crg]; omega⟩
  · rintro ⟨h1, h2, h3⟩
    refine ⟨fun z => ?_, h1, h2, by simp only [rwg, crg] at h3; omega⟩
    have := (hW.gr b0 b1).mp z
    obtain ⟨k, k0, k1, -⟩ := h1
    simp only [rwg] at k1
    omega
set_option maxRecDepth 100000 in
set_option maxHeartbeats 4000000 in
theorem l_after (κ : KP) (h : AH) {q cr eq p nc ea : Nat} {g : Int → Int} (hC : CW g) (nn : (nc : Int) = g 1) {e r1 r2 hi lo : Int} (e0 : 0 ≤ e) (e9 : e < g 2) (hag : QAga g e 0) (h1 : QRc g (g (28 + 4 * e + 0)) (g 1) r1) (h2 : QRc g (g (28 + 4 * e + 1)) (g 1) r2) (hh : (0 ≤ r2 ∧ ((hi = r1 ∧ lo = r2) ∨ (hi = r2 ∧ lo = r1)) ∧ lo < hi) ∨ (r2 < 0 ∧ hi = r1 ∧ lo = -1)) (hi0 : 0 ≤ hi) (hi1 : hi < nc) (hlo : -1 ≤ lo) (hl : lo < hi) (hn2 : (nc : Int) - (if g (28 + 4 * e + 1) = 32 then 1 else 2) + (if g (28 + 4 * e + 3) = 32 then 1 else 2) ≤ 6) {y9 : Int} (hO0 : ObF h q 7 [.int (J y9), .ref cr, .ref eq, .ref p]) {fc : Int → Option Nat} (hA0 : ArF h cr (.object RX2) nc (rv fc)) (hb0 : ∀ c : Int, 0 ≤ c → c < nc → ∃ a, fc c = some a ∧ CrR h a (crg g c)) (hx0 : EqR h ea (eqg g e)) : ∀ (f : Nat) (i P G Y : Int) (qq : Nat) (gq : Int → Int) (hx9 : AH) (k n : Nat), i + 1 < (f : Int) → -1 ≤ i → i < nc → AfI g hi lo i gq P G Y → (0 ≤ P ∧ P ≤ 24 * (6 - 1 - i)) → (0 ≤ G ∧ G ≤ 20) → (0 ≤ Y ∧ Y ≤ 60) → Ext h hx9 → DeskAt κ hx9 qq gq → 2 * (i + 1) + 8 ≤ (k : Int) → 12 * (i + 1) + 40 ≤ (n : Int) → WW κ mX3_after 5 k n (fun v h' => ∃ q' r g', v = some (.ref q') ∧ Exn q' h h' ∧ QAp g e r g' ∧ DeskAt κ h' q' g') NoX 30 [some (.ref q), some (.ref ea), some (.int (J (bs (fun i => sgl r1 i || sgl r2 i)))), some (.ref qq), some (.int (J P)), some (.int (J G)), some (.int (J Y)), some (.int (J i))] [] hx9 := by
  have hW := hC.1
  have n1 := hW.n.2.1
  have n0 := hW.n.1
  have k1 := h1.rg (by omega)
  have k2 := h2.rg (by omega)
  have hwe := hW.e e0 e9
  unfold WFe QLow QCap at hwe
  have hF : ∀ i : Int, 0 ≤ i → ((sgl r1 i || sgl r2 i) = true ↔ (i = hi ∨ i = lo)) := fun i i0 => by
    rw [Bool.or_eq_true, sgl_i, sgl_i]
    omega
  intro f
  induction f with
  | zero =>
    intro i P G Y qq gq hx9 k n hf i0
    exact absurd hf (by omega)
  | succ f ih =>
    intro i P G Y qq gq hx9 k n hf i0 i1 hI hP hG hY hx hD hk hn
    have hO := hx _ _ hO0
    have hA := hx _ _ hA0
    have hbc : ∀ c : Int, 0 ≤ c → c < nc → ∃ a, fc c = some a ∧ CrR hx9 a (crg g c) := fun c a b => (hb0 c a b).imp fun _ z => ⟨z.1, hx _ _ z.2⟩
    have he := hx _ _ hx0
    obtain ⟨cq, eq9, pq, nq, ne9, nb9, hD9⟩ := id hD
    have hOq := hD9.1
    have nq1 := hD9.2.2.2.2.1
    have hn9 := hI.n hi0 (by omega) hl
    refine r_il7 dX3_after_30 ?_
    refine r_if_lt (tgt := 106) dX3_after_32 (by decide) (by (first | omega | (have hw := hW.c (c := i) (by omega) (by omega); unfold WFc at hw; omega) | (split <;> omega))) (fun c_32 => ?_) (fun c_32 => ?_)
    · obtain ⟨r9, g9, hQ, hq1, hg⟩ := after_ok hC e0 e9 hag h1 h2 hh ((show i = -1 by omega) ▸ hI)
      rw [nn] at hn2
      refine r_al1 dX3_after_106 ?_
      refine r_callVP0 dX3_after_107 v_X3_48 he (c_comingN κ hx9 he (by simp only [eqg]; omega)) (by decide) rfl ?_
      refine r_iconst dX3_after_110 ?_
      by_cases c_3 : eqg g e 3 = 32
      · refine r_icmp_ne (tgt := 118) dX3_after_111 (by decide) (by split <;> omega) (by decide) (fun z => absurd (if_pos c_3) z) (fun _ => ?_)
        have c_3b : g (28 + 4 * e + 3) = 32 := c_3
        rw [if_pos c_3b] at hn2
        refine r_iconst dX3_after_114 ?_
        refine r_goto (tgt := 122) dX3_after_115 (by decide) ?_
        refine r_is7 dX3_after_122 rfl ?_
        refine r_al3 dX3_after_124 ?_
        refine r_new dX3_after_125 n_X3_27 (by omega) (by omega) (fun a9 ha9 => ?_)
        refine r_dup dX3_after_128 rfl ?_
        refine r_al1 dX3_after_129 ?_
        refine r_getfield dX3_after_130 f_X3_72 (upo ha9 he) rfl ?_
        refine r_il4 dX3_after_133 ?_
        refine r_il7 dX3_after_135 ?_
        refine r_isub dX3_after_137 ?_
        refine r_il5 dX3_after_138 ?_
        refine r_il6 dX3_after_140 ?_
        refine r_init dX3_after_142 i_X3_76 (c_crInit κ _ (by simp only [eqg]; omega) (by simp only [eqg]; omega) upA_same) (by decide) rfl rfl rfl ?_
        rw [upA_upA]
        have cr9 : CrR (upA hx9 a9 (false, .inr (6, [.int (J (eqg g e 2)), .int (J (P - 0)), .int (J G), .int (J Y)]))) a9 (x4 (eqg g e 2) (P - 0) G Y) := upA_same
        have y1 : Ext hx9 (upA hx9 a9 (false, .inr (6, [.int (J (eqg g e 2)), .int (J (P - 0)), .int (J G), .int (J Y)]))) := Ext.up ha9
        generalize upA hx9 a9 (false, .inr (6, [.int (J (eqg g e 2)), .int (J (P - 0)), .int (J G), .int (J Y)])) = hy1 at cr9 y1 ⊢
        refine r_callV (As := [.ref a9]) dX3_after_145 v_X3_79 (y1 _ _ hOq) (c_withCredit κ hy1 (hD9.fx y1.fx) cr9 (by omega)) (by decide) rfl rfl (cat_le rfl) (by omega) (by omega) (fun v hy2 hq2 => ?_) (fun _ _ hx => hx.elim)
        obtain ⟨q2, rfl, y2n, hD2⟩ := hq2
        have y2 := y2n.1
        have he2 := y2 _ _ (y1 _ _ he)
        refine r_as3 dX3_after_148 rfl ?_
        refine r_al1 dX3_after_149 ?_
        refine r_callVP0 dX3_after_150 v_X3_48 he2 (c_comingN κ hy2 he2 (by simp only [eqg]; omega)) (by decide) rfl ?_
        refine r_iconst dX3_after_153 ?_
        refine r_icmp_ne (tgt := 159) dX3_after_154 (by decide) (by split <;> omega) (by decide) (fun z => absurd (if_pos c_3) z) (fun _ => ?_)
        refine r_al3 dX3_after_157 ?_
        exact r_aret dX3_after_158 rfl ⟨q2, r9, g9, rfl, Exn.tr (hx.trans y1) y2n, hQ, hD2.ge (hg.elim (fun z => z.2) (fun z => absurd c_3 z.1))⟩
      · refine r_icmp_ne (tgt := 118) dX3_after_111 (by decide) (by split <;> omega) (by decide) (fun _ => ?_) (fun z => absurd ((if_neg c_3).symm.trans z) (by decide))
        have c_3b : ¬ g (28 + 4 * e + 3) = 32 := c_3
        rw [if_neg c_3b] at hn2
        refine r_il4 dX3_after_118 ?_
        refine r_iconst dX3_after_120 ?_
        refine r_idiv dX3_after_121 (by omega) ?_
        refine r_is7 dX3_after_122 rfl ?_
        refine r_al3 dX3_after_124 ?_
        refine r_new dX3_after_125 n_X3_27 (by omega) (by omega) (fun a9 ha9 => ?_)
        refine r_dup dX3_after_128 rfl ?_
        refine r_al1 dX3_after_129 ?_
        refine r_getfield dX3_after_130 f_X3_72 (upo ha9 he) rfl ?_
        refine r_il4 dX3_after_133 ?_
        refine r_il7 dX3_after_135 ?_
        refine r_isub dX3_after_137 ?_
        refine r_il5 dX3_after_138 ?_
        refine r_il6 dX3_after_140 ?_
        refine r_init dX3_after_142 i_X3_76 (c_crInit κ _ (by simp only [eqg]; omega) (by simp only [eqg]; omega) upA_same) (by decide) rfl rfl rfl ?_
        rw [upA_upA]
        have cr9 : CrR (upA hx9 a9 (false, .inr (6, [.int (J (eqg g e 2)), .int (J (P - P / 2)), .int (J G), .int (J Y)]))) a9 (x4 (eqg g e 2) (P - P / 2) G Y) := upA_same
        have y1 : Ext hx9 (upA hx9 a9 (false, .inr (6, [.int (J (eqg g e 2)), .int (J (P - P / 2)), .int (J G), .int (J Y)]))) := Ext.up ha9
        generalize upA hx9 a9 (false, .inr (6, [.int (J (eqg g e 2)), .int (J (P - P / 2)), .int (J G), .int (J Y)])) = hy1 at cr9 y1 ⊢
        refine r_callV (As := [.ref a9]) dX3_after_145 v_X3_79 (y1 _ _ hOq) (c_withCredit κ hy1 (hD9.fx y1.fx) cr9 (by omega)) (by decide) rfl rfl (cat_le rfl) (by omega) (by omega) (fun v hy2 hq2 => ?_) (fun _ _ hx => hx.elim)
        obtain ⟨q2, rfl, y2n, hD2⟩ := hq2
        have y2 := y2n.1
        have he2 := y2 _ _ (y1 _ _ he)
        refine r_as3 dX3_after_148 rfl ?_
        refine r_al1 dX3_after_149 ?_
        refine r_callVP0 dX3_after_150 v_X3_48 he2 (c_comingN κ hy2 he2 (by simp only [eqg]; omega)) (by decide) rfl ?_
        refine r_iconst dX3_after_153 ?_
        refine r_icmp_ne (tgt := 159) dX3_after_154 (by decide) (by split <;> omega) (by decide) (fun _ => ?_) (fun z => absurd ((if_neg c_3).symm.trans z) (by decide))
        obtain ⟨cq2, eq2, pq2, nq2, ne2, nb2, hD22⟩ := id hD2
        refine r_al3 dX3_after_159 ?_
        refine r_new dX3_after_160 n_X3_27 (by omega) (by omega) (fun a8 ha8 => ?_)
        refine r_dup dX3_after_163 rfl ?_
        refine r_al1 dX3_after_164 ?_
        refine r_getfield dX3_after_165 f_X3_83 (upo ha8 he2) rfl ?_
        refine r_il7 dX3_after_168 ?_
        refine r_il5 dX3_after_170 ?_
        refine r_il6 dX3_after_172 ?_
        refine r_init dX3_after_174 i_X3_76 (c_crInit κ _ (by simp only [eqg]; omega) (by simp only [eqg]; omega) upA_same) (by decide) rfl rfl rfl ?_
        rw [upA_upA]
        have cr8 : CrR (upA hy2 a8 (false, .inr (6, [.int (J (eqg g e 3)), .int (J (P / 2)), .int (J G), .int (J Y)]))) a8 (x4 (eqg g e 3) (P / 2) G Y) := upA_same
        have y3 : Ext hy2 (upA hy2 a8 (false, .inr (6, [.int (J (eqg g e 3)), .int (J (P / 2)), .int (J G), .int (J Y)]))) := Ext.up ha8
        generalize upA hy2 a8 (false, .inr (6, [.int (J (eqg g e 3)), .int (J (P / 2)), .int (J G), .int (J Y)])) = hy3 at cr8 y3 ⊢
        have q21 : gcm gq (x4 (eqg g e 2) (P - P / 2) G Y 0) (x4 (eqg g e 2) (P - P / 2) G Y 1) (x4 (eqg g e 2) (P - P / 2) G Y 2) (x4 (eqg g e 2) (P - P / 2) G Y 3) 1 = gq 1 + 1 := gcm_n (by omega)
        have nq2e := hD22.2.2.2.2.1
        refine r_callV (As := [.ref a8]) dX3_after_177 v_X3_79 (y3 _ _ hD22.1) (c_withCredit κ hy3 (hD22.fx y3.fx) cr8 (by omega)) (by decide) rfl rfl (cat_le rfl) (by omega) (by omega) (fun v hy4 hq4 => ?_) (fun _ _ hx => hx.elim)
        obtain ⟨q4, rfl, y4n, hD4⟩ := hq4
        exact r_aret dX3_after_180 rfl ⟨q4, r9, g9, rfl, Exn.tr (hx.trans (y1.trans (y2.trans y3))) y4n, hQ, hD4.ge (hg.elim (fun z => absurd z.1 c_3) (fun z => z.2))⟩
    · refine r_il2 dX3_after_35 ?_
      refine r_il7 dX3_after_36 ?_
      refine r_callSNP2 dX3_after_38 s_X3_51 (c_isInSet κ hx9 (f := (fun i => sgl r1 i || sgl r2 i)) (by omega) (by omega)) (by decide) rfl ?_
      refine r_ifB_eq (tgt := 100) dX3_after_41 (by decide) (fun c_41 => ?_) (fun c_41 => ?_)
      · have hq := hF i (by omega)
        rw [c_41] at hq
        refine r_inc7 dX3_after_100 rfl ?_
        refine r_goto (tgt := 30) dX3_after_103 (by decide) ?_
        first | (exact ih (i - 1) P G Y qq gq hx9 k n (by omega) (by omega) (by omega) (hI.skip (fun z => absurd (hq.mpr (Or.inl z)) (by decide)) (fun z => absurd (hq.mpr (Or.inr z)) (by decide))) (by omega) hG hY hx hD (by omega) (by omega)) | (exact ih (i - 1) _ _ _ q' _ h99 (k - 2) (n - 12) (by omega) (by omega) (by omega) (hI.take hl (by omega) hq) (by have hw := hW.c (c := i) (by omega) (by omega); unfold WFc at hw; omega) (by have hw := hW.c (c := i) (by omega) (by omega); unfold WFc at hw; omega) (by have hw := hW.c (c := i) (by omega) (by omega); unfold WFc at hw; omega) (hx.trans hy.1) hD' (by omega) (by omega))
      · have hq := (hF i (by omega)).mp c_41
        refine r_il4 dX3_after_44 ?_
        refine r_al0 dX3_after_46 ?_
        refine r_getfield dX3_after_47 f_X3_15 (by assumption) rfl ?_
        refine r_il7 dX3_after_50 ?_
        obtain ⟨a_52, ha_52, hc_52⟩ := hbc i (by omega) (by omega)
        have hd_52 := hc_52
        simp only [CrR, crg] at hd_52
        refine r_aaF dX3_after_52 hA (by decide) ha_52 (by omega) (by omega) (by omega) ?_
        refine r_getfield dX3_after_53 f_X3_55 (by assumption) rfl ?_
        refine r_iadd dX3_after_56 ?_
        refine r_is4 dX3_after_57 rfl ?_
        refine r_il5 dX3_after_59 ?_
        refine r_al0 dX3_after_61 ?_
        refine r_getfield dX3_after_62 f_X3_15 (by assumption) rfl ?_
        refine r_il7 dX3_after_65 ?_
        obtain ⟨a_67, ha_67, hc_67⟩ := hbc i (by omega) (by omega)
        have hd_67 := hc_67
        simp only [CrR, crg] at hd_67
        refine r_aaF dX3_after_67 hA (by decide) ha_67 (by omega) (by omega) (by omega) ?_
        refine r_getfield dX3_after_68 f_X3_58 (by assumption) rfl ?_
        have hw := hW.c (c := i) (by omega) (by omega)
        unfold WFc at hw
        refine r_min dX3_after_71 s_X3_61 (by omega) (by omega) (by decide) rfl ?_
        refine r_is5 dX3_after_74 rfl ?_
        refine r_il6 dX3_after_76 ?_
        refine r_al0 dX3_after_78 ?_
        refine r_getfield dX3_after_79 f_X3_15 (by assumption) rfl ?_
        refine r_il7 dX3_after_82 ?_
        obtain ⟨a_84, ha_84, hc_84⟩ := hbc i (by omega) (by omega)
        have hd_84 := hc_84
        simp only [CrR, crg] at hd_84
        refine r_aaF dX3_after_84 hA (by decide) ha_84 (by omega) (by omega) (by omega) ?_
        refine r_getfield dX3_after_85 f_X3_67 (by assumption) rfl ?_
        have hw := hW.c (c := i) (by omega) (by omega)
        unfold WFc at hw
        refine r_min dX3_after_88 s_X3_61 (by omega) (by omega) (by decide) rfl ?_
        refine r_is6 dX3_after_91 rfl ?_
        refine r_al3 dX3_after_93 ?_
        refine r_il7 dX3_after_94 ?_
        refine r_callV (As := [.int (J i)]) dX3_after_96 v_X3_68 hOq (c_without κ hx9 hD9 (by omega) (by omega) (by omega)) (by decide) rfl rfl (cat_le rfl) (by omega) (by omega) (fun v h99 hq => ?_) (fun _ _ hx => hx.elim)
        obtain ⟨q', rfl, hy, hD'⟩ := hq
        refine r_as3 dX3_after_99 rfl ?_
        refine r_inc7 dX3_after_100 rfl ?_
        refine r_goto (tgt := 30) dX3_after_103 (by decide) ?_
        first | (exact ih (i - 1) P G Y qq gq hx9 k n (by omega) (by omega) (by omega) (hI.skip (fun z => absurd (hq.mpr (Or.inl z)) (by decide)) (fun z => absurd (hq.mpr (Or.inr z)) (by decide))) (by omega) hG hY hx hD (by omega) (by omega)) | (exact ih (i - 1) _ _ _ q' _ h99 (k - 2) (n - 12) (by omega) (by omega) (by omega) (hI.take hl (by omega) hq) (by have hw := hW.c (c := i) (by omega) (by omega); unfold WFc at hw; omega) (by have hw := hW.c (c := i) (by omega) (by omega); unfold WFc at hw; omega) (by have hw := hW.c (c := i) (by omega) (by omega); unfold WFc at hw; omega) (hx.trans hy.1) hD' (by omega) (by omega))
set_option maxRecDepth 100000 in
set_option maxHeartbeats 4000000 in
theorem c_after (κ : KP) (h : AH) {q cr eq p nc ne nb : Nat} {g : Int → Int} (H : DkV κ h q g cr eq p nc ne nb) (hC : CW g) {e : Int} {ea : Nat} (e0 : 0 ≤ e) (e9 : e < g 2) (hx : EqR h ea (eqg g e)) (hag : QAga g e 0) : MM κ mX3_after 5 20 112 [.ref q, .ref ea] h (fun v h' => ∃ q' r g', v = some (.ref q') ∧ Exn q' h h' ∧ QAp g e r g' ∧ DeskAt κ h' q' g') NoX := by
  refine mm_of (L := [some _, some _, none, none, none, none, none, none]) (by decide +kernel) rfl rfl (Nat.le_of_ble_eq_true rfl) rfl ?_
  have H0 := H; obtain ⟨hO, hCr, hE, hP, e1, e2, e3⟩ := H
  obtain ⟨fc, hA, hbc⟩ := id hCr
  have hW := hC.1
  have hwe := hW.e e0 e9
  have hwe0 := hwe
  unfold WFe QLow QCap at hwe
  have n1 := hW.n.2.1
  have n0 := hW.n.1
  obtain ⟨hag1, hag2⟩ : QAg g e ∧ QAgn g e ≤ 6 := by
    rcases hag with ⟨_, z⟩ | ⟨_, _, z⟩ | ⟨a, b, _⟩
    · cases z
    · cases z
    · exact ⟨a, b⟩
  refine r_al0 dX3_after_0 ?_
  refine r_al1 dX3_after_1 ?_
  refine r_callVQ1 dX3_after_2 v_X3_34 hO (c_going κ h H0 hW hx (by simp only [eqg]; omega) (by simp only [eqg]; omega)) (by decide) rfl (fun r_2 rr_2 h_2 => ?_)
  obtain ⟨r1, r2, q1, q2, rfl⟩ := h_2
  rw [e1] at q1 q2
  refine r_is2 dX3_after_5 rfl ?_
  refine r_al0 dX3_after_6 ?_
  refine r_as3 dX3_after_7 rfl ?_
  refine r_iconst dX3_after_8 ?_
  refine r_is4 dX3_after_9 rfl ?_
  refine r_bipush dX3_after_11 (by decide) ?_
  refine r_is5 dX3_after_13 rfl ?_
  refine r_al0 dX3_after_15 ?_
  refine r_getfield dX3_after_16 f_X3_9 (by first | exact hO | exact hA) rfl ?_
  refine r_is6 dX3_after_19 rfl ?_
  refine r_al0 dX3_after_21 ?_
  refine r_getfield dX3_after_22 f_X3_15 (by first | exact hO | exact hA) rfl ?_
  refine r_alenF dX3_after_25 (by first | exact hO | exact hA) (by decide) (rfl) ?_
  refine r_iconst dX3_after_26 ?_
  refine r_isub dX3_after_27 ?_
  refine r_is7 dX3_after_28 rfl ?_
  have k1 := q1.rg (by omega)
  have k2 := q2.rg (by omega)
  have r10 : 0 ≤ r1 := q1.pos hag1.1
  have hd := hwe0.d
  have hn2 : (nc : Int) - (if g (28 + 4 * e + 1) = 32 then 1 else 2) + (if g (28 + 4 * e + 3) = 32 then 1 else 2) ≤ 6 := by
    unfold QAgn at hag2
    split at hag2 <;> split at hag2 <;> (repeat' split) <;> first | omega | contradiction
  have hne : 0 ≤ r2 → r2 ≠ r1 := fun z2 z => by
    rcases q1 with ⟨z1, -⟩ | ⟨-, -, m1, -⟩
    · omega
    · rcases q2 with ⟨z2, -⟩ | ⟨-, -, m2, -⟩
      · omega
      · rw [z] at m2
        exact hd.1 (m1.1.symm.trans m2.1)
  obtain ⟨hi, lo, hh, hi0, hi1, hlo, hl⟩ : ∃ hi lo : Int, ((0 ≤ r2 ∧ ((hi = r1 ∧ lo = r2) ∨ (hi = r2 ∧ lo = r1)) ∧ lo < hi) ∨ (r2 < 0 ∧ hi = r1 ∧ lo = -1)) ∧ 0 ≤ hi ∧ hi < nc ∧ -1 ≤ lo ∧ lo < hi := by
    by_cases z : r2 < 0
    · exact ⟨r1, -1, Or.inr ⟨z, rfl, rfl⟩, by omega, by omega, by omega, by omega⟩
    · have := hne (by omega)
      by_cases w : r1 < r2
      · exact ⟨r2, r1, Or.inl ⟨by omega, Or.inr ⟨rfl, rfl⟩, w⟩, by omega, by omega, by omega, by omega⟩
      · exact ⟨r1, r2, Or.inl ⟨by omega, Or.inl ⟨rfl, rfl⟩, by omega⟩, by omega, by omega, by omega, by omega⟩
  exact l_after κ h hC e1 e0 e9 hag q1 q2 hh hi0 hi1 hlo hl hn2 hO hA hbc hx (nc + 1) _ 0 20 (g 0) q g h 20 112 (by omega) (by omega) (by omega) (Or.inl ⟨by omega, rfl, rfl, rfl, rfl⟩) (by omega) (by omega) (by omega) Ext.rf ⟨_, _, _, _, _, _, H0⟩ (by omega) (by omega)
