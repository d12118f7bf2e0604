/-! ===== acceptingSet, hasLastYear ===== -/
set_option maxRecDepth 100000 in
set_option maxHeartbeats 4000000 in
theorem l_accSet (κ : KP) (h : AH) {q cr eq p nb ca : Nat} {g : Int → Int} {c : Int} (hn : nb ≤ 8) (hO : ObF h q 7 [.int (J (g 0)), .ref cr, .ref eq, .ref p]) {bl : Nat} {w1 w2 w3 w4 : Value} (hOp : ObF h p 10 [.ref bl, w1, w2, w3, w4]) {f9 : Int → Option Nat} (hA : ArF h bl (.object RX1) nb (rv f9)) (hbl : ∀ b : Int, 0 ≤ b → b < nb → ∃ a, f9 b = some a ∧ BlR κ h a (rwg g b)) (hW : WF g) (e3 : (nb : Int) = g 3) (hx : CrR h ca (crg g c)) (hwc : WFc g c) : ∀ (f : Nat) (b : Int), (nb : Int) - b < (f : Int) → (0 ≤ b) → (b ≤ nb) → WW κ mX3_acceptingSet 7 0 0 (fun w h' => w = some (.int (J (bs (bk (fun b => QTk g b c) nb)))) ∧ h' = h) NoX 4 [some (.ref q), some (.ref ca), some (.int (J (bs (bk (fun b => QTk g b c) b)))), some (.int (J b))] [] h := by
  intro f
  induction f with
  | zero =>
    intro b hf b0 b1
    exact absurd hf (by omega)
  | succ f ih =>
    intro b hf b0 b1
    have hn0 := hW.n
    have hw := hwc
    unfold WFc QLow QCap at hw
    refine r_il3 dX3_acceptingSet_4 ?_
    refine r_al0 dX3_acceptingSet_5 ?_
    refine r_getfield dX3_acceptingSet_6 f_X3_23 (by first | exact hO | exact hOp | assumption) rfl ?_
    refine r_getfield dX3_acceptingSet_9 f_X3_86 (by first | exact hO | exact hOp | assumption) rfl ?_
    refine r_alenF dX3_acceptingSet_12 hA (by decide) rfl ?_
    refine r_icmp_ge (tgt := 48) dX3_acceptingSet_13 (by decide) (by (first | omega | (have hr := hW.rw e3 b b0 (by omega); simp only [RwB, rwg] at hr; omega))) (by (first | omega | (have hr := hW.rw e3 b b0 (by omega); simp only [RwB, rwg] at hr; omega))) (fun c_13 => ?_) (fun c_13 => ?_)
    · refine r_il2 dX3_acceptingSet_48 ?_
      rw [show b = (nb : Int) by omega]
      exact r_iret dX3_acceptingSet_49 (ty := .int) rfl rfl ⟨rfl, rfl⟩
    · refine r_al0 dX3_acceptingSet_16 ?_
      refine r_getfield dX3_acceptingSet_17 f_X3_23 (by first | exact hO | exact hOp | assumption) rfl ?_
      refine r_getfield dX3_acceptingSet_20 f_X3_86 (by first | exact hO | exact hOp | assumption) rfl ?_
      refine r_il3 dX3_acceptingSet_23 ?_
      obtain ⟨a_24, ha_24, hb_24⟩ := hbl b (by omega) (by omega)
      obtain ⟨q_24, s_24, hO_24, hS_24⟩ := id hb_24
      refine r_aaF dX3_acceptingSet_24 hA (by decide) ha_24 (by omega) (by omega) (by omega) ?_
      refine r_al1 dX3_acceptingSet_25 ?_
      refine r_al0 dX3_acceptingSet_26 ?_
      refine r_getfield dX3_acceptingSet_27 f_X3_9 (by first | exact hO | exact hOp | assumption) rfl ?_
      refine r_callVP2 dX3_acceptingSet_30 v_X3_92 hO_24 (c_btakes κ h hb_24 hx (by simp only [crg]; omega) (by simp only [crg]; omega) (by simp only [crg]; omega) (by have hr := hW.rw e3 b b0 (by omega); simp only [RwB, rwg] at hr ⊢; omega) (by omega) (by have hr := hW.rw e3 b b0 (by omega); simp only [RwB, rwg, crg] at hr ⊢; omega)) (by decide) rfl ?_
      rw [← tb_congr (QTk_iff hW b0 (by omega))]
      refine r_ifT_eq (tgt := 42) dX3_acceptingSet_33 (by decide) (fun c_33 => ?_) (fun c_33 => ?_)
      · refine r_inc3 dX3_acceptingSet_42 rfl ?_
        refine r_goto (tgt := 4) dX3_acceptingSet_45 (by decide) ?_
        first | (rw [← bk_t (S := (fun b => QTk g b c)) b0 c_33]; exact ih (b + 1) (by omega) (by omega) (by omega)) | (rw [← bk_f (S := (fun b => QTk g b c)) c_33]; exact ih (b + 1) (by omega) (by omega) (by omega))
      · refine r_il2 dX3_acceptingSet_36 ?_
        refine r_iconst dX3_acceptingSet_37 ?_
        refine r_il3 dX3_acceptingSet_38 ?_
        refine r_ishl dX3_acceptingSet_39 ?_
        refine r_ior dX3_acceptingSet_40 ?_
        rw [bs_or b0 (by omega)]
        refine r_is2 dX3_acceptingSet_41 rfl ?_
        refine r_inc3 dX3_acceptingSet_42 rfl ?_
        refine r_goto (tgt := 4) dX3_acceptingSet_45 (by decide) ?_
        first | (rw [← bk_t (S := (fun b => QTk g b c)) b0 c_33]; exact ih (b + 1) (by omega) (by omega) (by omega)) | (rw [← bk_f (S := (fun b => QTk g b c)) c_33]; exact ih (b + 1) (by omega) (by omega) (by omega))
set_option maxRecDepth 100000 in
set_option maxHeartbeats 4000000 in
theorem c_accSet (κ : KP) (h : AH) {q cr eq p nc ne nb : Nat} {g : Int → Int} (H : DkV κ h q g cr eq p nc ne nb) (hW : WF g) {ca : Nat} {c : Int} (hx : CrR h ca (crg g c)) (hwc : WFc g c) : PM κ mX3_acceptingSet 7 [.ref q, .ref ca] h (.int (J (bs (qacc g c (g 3))))) := by
  refine mm_of (L := [some _, some _, none, none]) (by decide +kernel) rfl rfl (Nat.le_of_ble_eq_true rfl) rfl ?_
  have H0 := H; obtain ⟨hO, hC, hE, hP, e1, e2, e3⟩ := H
  obtain ⟨bl, lv, ms, mr, N, lf, fm, fr, hV⟩ := id hP
  have hOp := hV.1
  obtain ⟨f9, hA, hbl⟩ := hV.2.1
  have hn0 := hW.n
  refine r_iconst dX3_acceptingSet_0 ?_
  refine r_is2 dX3_acceptingSet_1 rfl ?_
  refine r_iconst dX3_acceptingSet_2 ?_
  refine r_is3 dX3_acceptingSet_3 rfl ?_
  have e0 := l_accSet κ h (by omega) hO hOp hA hbl hW e3 hx hwc (nb + 1) 0 (by omega) (by omega) (by omega)
  rw [bk_0, e3] at e0
  exact e0
def LYr (g : Int → Int) (y c b : Int) : Prop := QHas g b (g (4 + 4 * c + 0)) ∧ g (4 + 4 * c + 3) + g (60 + 12 * b + 3) = y
set_option maxRecDepth 100000 in
set_option maxHeartbeats 4000000 in
theorem l_hlyB (κ : KP) (h : AH) {q cr eq p nb nc : Nat} {g : Int → Int} {y : Int} (ry : rng y) (hn6 : nc ≤ 6) (e1 : (nc : Int) = g 1) {fc : Int → Option Nat} (hAc : ArF h cr (.object RX2) nc (rv fc)) (hbc : ∀ c : Int, 0 ≤ c → c < nc → ∃ a, fc c = some a ∧ CrR h a (crg g c)) (hn : nb ≤ 8) (hO : ObF h q 7 [.int (J (g 0)), .ref cr, .ref eq, .ref p]) {bl : Nat} {w1 w2 w3 w4 : Value} (hOp : ObF h p 10 [.ref bl, w1, w2, w3, w4]) {f9 : Int → Option Nat} (hA : ArF h bl (.object RX1) nb (rv f9)) (hbl : ∀ b : Int, 0 ≤ b → b < nb → ∃ a, f9 b = some a ∧ BlR κ h a (rwg g b)) (hW : WF g) (e3 : (nb : Int) = g 3) {i : Int} (i0 : 0 ≤ i) (i1 : i < nc) (K : (∀ x : Int, 0 ≤ x → x < nb → ¬ LYr g y i x) → WW κ mX3_hasLastYear 7 0 0 (fun w h' => w = some (.int (J (bI (tb (∃ c b, 0 ≤ c ∧ c < g 1 ∧ 0 ≤ b ∧ b < g 3 ∧ LYr g y c b))))) ∧ h' = h) NoX 76 [some (.ref q), some (.int (J y)), some (.int (J i)), some (.int (J (nb : Int)))] [] h) : ∀ (f : Nat) (b : Int), (nb : Int) - b < (f : Int) → (0 ≤ b) → (b ≤ nb) → (∀ x : Int, 0 ≤ x → x < b → ¬ LYr g y i x) → WW κ mX3_hasLastYear 7 0 0 (fun w h' => w = some (.int (J (bI (tb (∃ c b, 0 ≤ c ∧ c < g 1 ∧ 0 ≤ b ∧ b < g 3 ∧ LYr g y c b))))) ∧ h' = h) NoX 13 [some (.ref q), some (.int (J y)), some (.int (J i)), some (.int (J b))] [] h := by
  intro f
  induction f with
  | zero =>
    intro b hf b0 b1 hno
    exact absurd hf (by omega)
  | succ f ih =>
    intro b hf b0 b1 hno
    have hn0 := hW.n
    have hw := hW.c i0 (by omega)
    unfold WFc QLow QCap at hw
    refine r_il3 dX3_hasLastYear_13 ?_
    refine r_al0 dX3_hasLastYear_14 ?_
    refine r_getfield dX3_hasLastYear_15 f_X3_23 (by first | exact hO | exact hOp | assumption) rfl ?_
    refine r_getfield dX3_hasLastYear_18 f_X3_86 (by first | exact hO | exact hOp | assumption) rfl ?_
    refine r_alenF dX3_hasLastYear_21 hA (by decide) rfl ?_
    refine r_icmp_ge (tgt := 76) dX3_hasLastYear_22 (by decide) (by (first | omega | (simp only [crg, rwg]; have hr := hW.rw e3 b b0 (by omega); simp only [RwB, rwg] at hr; omega))) (by (first | omega | (simp only [crg, rwg]; have hr := hW.rw e3 b b0 (by omega); simp only [RwB, rwg] at hr; omega))) (fun c_22 => ?_) (fun c_22 => ?_)
    · have eb : b = (nb : Int) := by omega
      rw [eb] at hno ⊢
      exact K hno
    · refine r_al0 dX3_hasLastYear_25 ?_
      refine r_getfield dX3_hasLastYear_26 f_X3_23 (by first | exact hO | exact hOp | assumption) rfl ?_
      refine r_getfield dX3_hasLastYear_29 f_X3_86 (by first | exact hO | exact hOp | assumption) rfl ?_
      refine r_il3 dX3_hasLastYear_32 ?_
      obtain ⟨a_33, ha_33, hb_33⟩ := hbl b (by omega) (by omega)
      obtain ⟨q_33, s_33, hO_33, hS_33⟩ := id hb_33
      refine r_aaF dX3_hasLastYear_33 hA (by decide) ha_33 (by omega) (by omega) (by omega) ?_
      refine r_al0 dX3_hasLastYear_34 ?_
      refine r_getfield dX3_hasLastYear_35 f_X3_15 (by first | exact hO | exact hOp | assumption) rfl ?_
      refine r_il2 dX3_hasLastYear_38 ?_
      obtain ⟨a_39, ha_39, hc_39⟩ := hbc i (by omega) (by omega)
      have hd_39 := hc_39
      simp only [CrR, crg] at hd_39
      refine r_aaF dX3_hasLastYear_39 hAc (by decide) ha_39 (by omega) (by omega) (by omega) ?_
      refine r_callVP1 dX3_hasLastYear_40 v_X3_98 hO_33 (c_names κ h hb_33 hc_39 (by simp only [crg]; omega) (by simp only [crg]; omega)) (by decide) rfl ?_
      refine r_ifT_eq (tgt := 70) dX3_hasLastYear_43 (by decide) (fun c_43 => ?_) (fun c_43 => ?_)
      · refine r_inc3 dX3_hasLastYear_70 rfl ?_
        refine r_goto (tgt := 13) dX3_hasLastYear_73 (by decide) ?_
        refine ih (b + 1) (by omega) (by omega) (by omega) (fun x x0 x1 hx => ?_)
        rcases (show x < b ∨ x = b by omega) with z | z
        · exact hno x x0 z hx
        · rw [z] at hx; first | exact c_43 hx.1 | exact c_65 hx.2
      · refine r_al0 dX3_hasLastYear_46 ?_
        refine r_getfield dX3_hasLastYear_47 f_X3_23 (by first | exact hO | exact hOp | assumption) rfl ?_
        refine r_getfield dX3_hasLastYear_50 f_X3_86 (by first | exact hO | exact hOp | assumption) rfl ?_
        refine r_il3 dX3_hasLastYear_53 ?_
        obtain ⟨a_54, ha_54, hb_54⟩ := hbl b (by omega) (by omega)
        obtain ⟨q_54, s_54, hO_54, hS_54⟩ := id hb_54
        refine r_aaF dX3_hasLastYear_54 hA (by decide) ha_54 (by omega) (by omega) (by omega) ?_
        refine r_al0 dX3_hasLastYear_55 ?_
        refine r_getfield dX3_hasLastYear_56 f_X3_15 (by first | exact hO | exact hOp | assumption) rfl ?_
        refine r_il2 dX3_hasLastYear_59 ?_
        obtain ⟨a_60, ha_60, hc_60⟩ := hbc i (by omega) (by omega)
        have hd_60 := hc_60
        simp only [CrR, crg] at hd_60
        refine r_aaF dX3_hasLastYear_60 hAc (by decide) ha_60 (by omega) (by omega) (by omega) ?_
        refine r_callVP1 dX3_hasLastYear_61 v_X3_102 hO_54 (c_lastY κ h hb_54 hc_60) (by decide) rfl ?_
        refine r_il1 dX3_hasLastYear_64 ?_
        refine r_icmp_ne (tgt := 70) dX3_hasLastYear_65 (by decide) (by (first | omega | (simp only [crg, rwg]; have hr := hW.rw e3 b b0 (by omega); simp only [RwB, rwg] at hr; omega))) (by (first | omega | (simp only [crg, rwg]; have hr := hW.rw e3 b b0 (by omega); simp only [RwB, rwg] at hr; omega))) (fun c_65 => ?_) (fun c_65 => ?_)
        · refine r_inc3 dX3_hasLastYear_70 rfl ?_
          refine r_goto (tgt := 13) dX3_hasLastYear_73 (by decide) ?_
          refine ih (b + 1) (by omega) (by omega) (by omega) (fun x x0 x1 hx => ?_)
          rcases (show x < b ∨ x = b by omega) with z | z
          · exact hno x x0 z hx
          · rw [z] at hx; first | exact c_43 hx.1 | exact c_65 hx.2
        · refine r_iconst dX3_hasLastYear_68 ?_
          exact r_iret dX3_hasLastYear_69 (ty := .boolean) rfl (by decide) ⟨ret_t ⟨i, b, i0, by omega, b0, by omega, c_43, c_65⟩, rfl⟩
set_option maxRecDepth 100000 in
set_option maxHeartbeats 4000000 in
theorem l_hlyA (κ : KP) (h : AH) {q cr eq p nb nc : Nat} {g : Int → Int} {y : Int} (ry : rng y) (hn6 : nc ≤ 6) (e1 : (nc : Int) = g 1) {fc : Int → Option Nat} (hAc : ArF h cr (.object RX2) nc (rv fc)) (hbc : ∀ c : Int, 0 ≤ c → c < nc → ∃ a, fc c = some a ∧ CrR h a (crg g c)) (hn : nb ≤ 8) (hO : ObF h q 7 [.int (J (g 0)), .ref cr, .ref eq, .ref p]) {bl : Nat} {w1 w2 w3 w4 : Value} (hOp : ObF h p 10 [.ref bl, w1, w2, w3, w4]) {f9 : Int → Option Nat} (hA : ArF h bl (.object RX1) nb (rv f9)) (hbl : ∀ b : Int, 0 ≤ b → b < nb → ∃ a, f9 b = some a ∧ BlR κ h a (rwg g b)) (hW : WF g) (e3 : (nb : Int) = g 3) : ∀ (f : Nat) (i : Int), (nc : Int) - i < (f : Int) → (0 ≤ i) → (i ≤ nc) → (∀ z x : Int, 0 ≤ z → z < i → 0 ≤ x → x < nb → ¬ LYr g y z x) → WW κ mX3_hasLastYear 7 0 0 (fun w h' => w = some (.int (J (bI (tb (∃ c b, 0 ≤ c ∧ c < g 1 ∧ 0 ≤ b ∧ b < g 3 ∧ LYr g y c b))))) ∧ h' = h) NoX 2 [some (.ref q), some (.int (J y)), some (.int (J i)), none] [] h := by
  intro f
  induction f with
  | zero =>
    intro i hf i0 i1 hno
    exact absurd hf (by omega)
  | succ f ih =>
    intro i hf i0 i1 hno
    refine r_il2 dX3_hasLastYear_2 ?_
    refine r_al0 dX3_hasLastYear_3 ?_
    refine r_getfield dX3_hasLastYear_4 f_X3_15 (by first | exact hO | exact hOp | assumption) rfl ?_
    refine r_alenF dX3_hasLastYear_7 hAc (by decide) rfl ?_
    refine r_icmp_ge (tgt := 82) dX3_hasLastYear_8 (by decide) (by (omega)) (by (omega)) (fun c_8 => ?_) (fun c_8 => ?_)
    · refine r_iconst dX3_hasLastYear_82 ?_
      exact r_iret dX3_hasLastYear_83 (ty := .boolean) rfl (by decide) ⟨ret_f (fun ⟨z, x, z0, z1, x0, x1, hx⟩ => hno z x z0 (by omega) x0 (by omega) hx), rfl⟩
    · refine r_iconst dX3_hasLastYear_11 ?_
      refine r_is3 dX3_hasLastYear_12 rfl ?_
      refine l_hlyB κ h ry hn6 e1 hAc hbc hn hO hOp hA hbl hW e3 i0 (by omega) (fun hz => ?_) (nb + 1) 0 (by omega) (by omega) (by omega) (fun x x0 x1 => by omega)
      refine r_inc2 dX3_hasLastYear_76 rfl ?_
      refine r_goto (tgt := 2) dX3_hasLastYear_79 (by decide) ?_
      refine ww_ls (L' := [some _, some _, some _, none]) ⟨Or.inr rfl, Or.inr rfl, Or.inr rfl, Or.inl rfl, trivial⟩ ?_
      refine ih (i + 1) (by omega) (by omega) (by omega) (fun z x z0 z1 x0 x1 hx => ?_)
      rcases (show z < i ∨ z = i by omega) with u | u
      · exact hno z x z0 u x0 x1 hx
      · rw [u] at hx; exact hz x x0 x1 hx
set_option maxRecDepth 100000 in
set_option maxHeartbeats 4000000 in
theorem c_hasLY (κ : KP) (h : AH) {q cr eq p nc ne nb : Nat} {g : Int → Int} (H : DkV κ h q g cr eq p nc ne nb) (hW : WF g) {y : Int} (ry : rng y) : PM κ mX3_hasLastYear 7 [.ref q, .int (J y)] h (.int (J (bI (tb (∃ c b, 0 ≤ c ∧ c < g 1 ∧ 0 ≤ b ∧ b < g 3 ∧ LYr g y c b))))) := by
  refine mm_of (L := [some _, some _, none, none]) (by decide +kernel) rfl rfl (Nat.le_of_ble_eq_true rfl) rfl ?_
  have H0 := H; obtain ⟨hO, hC, hE, hP, e1, e2, e3⟩ := H
  obtain ⟨fc, hAc, hbc⟩ := id hC
  obtain ⟨bl, lv, ms, mr, N, lf, fm, fr, hV⟩ := id hP
  have hOp := hV.1
  obtain ⟨f9, hA, hbl⟩ := hV.2.1
  have hn0 := hW.n
  refine r_iconst dX3_hasLastYear_0 ?_
  refine r_is2 dX3_hasLastYear_1 rfl ?_
  exact l_hlyA κ h ry (by omega) e1 hAc hbc (by omega) hO hOp hA hbl hW e3 (nc + 1) 0 (by omega) (by omega) (by omega) (fun z x z0 z1 => by omega)
