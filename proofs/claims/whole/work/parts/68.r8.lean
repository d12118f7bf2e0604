/-! ===== the layers ===== -/
/-- the heap holds the desk that the best use is of: what walks read -/
theorem UKU.view {κ : KP} {H : AH} {g : Int → Int} {S : CST} {u q : Nat} {U : Int → Int} (h : UKU κ H g S u q U) : WF g ∧ ∃ (cr eq p nc ne nb bl : Nat) (fc fb : Int → Option Nat) (w1 w2 w3 w4 : Value), (ObF H q 7 [.int (J (g 0)), .ref cr, .ref eq, .ref p] ∧ ArF H cr (.object RX2) nc (rv fc) ∧ (∀ c : Int, 0 ≤ c → c < nc → ∃ a, fc c = some a ∧ CrR H a (crg g c)) ∧ (nc : Int) = g 1 ∧ (nb : Int) = g 3) ∧ ObF H p 10 [.ref bl, w1, w2, w3, w4] ∧ ArF H bl (.object RX1) nb (rv fb) ∧ ∀ b : Int, 0 ≤ b → b < nb → ∃ a, fb b = some a ∧ BlR κ H a (rwg g b) := by
  obtain ⟨a, hW, cr, eq, p, nc, ne, nb, bl, lv, ms, mr, N, lf, fm, fr, hD, hV, -⟩ := h
  obtain ⟨hO, hC, hE, hP, e1, e2, e3⟩ := id hD
  obtain ⟨fc, hAc, hbc⟩ := id hC
  obtain ⟨fb, hAb, hbb⟩ := id hV.2.1
  exact ⟨hW, cr, eq, p, nc, ne, nb, bl, fc, fb, _, _, _, _, ⟨hO, hAc, hbc, e1, e3⟩, hV.1, hAb, hbb⟩
/-- the layers laid so far -/
def LyC (S : CST) (p : Int) (l : List (Int × Int)) : Prop := ∀ (i : Nat) (x y : Int), l[i]? = some (x, y) → S 20 (p + i) = x ∧ S 21 (p + i) = y
theorem LyC.nil {S : CST} {p : Int} : LyC S p [] := fun i x y h => by simp at h
theorem LyC.cons {S : CST} {p a b : Int} {l : List (Int × Int)} (h1 : S 20 p = a) (h2 : S 21 p = b) (h : LyC S (p + 1) l) : LyC S p ((a, b) :: l) := by
  intro i x y hi
  cases i with
  | zero =>
    simp at hi
    rw [← hi.1, ← hi.2]
    simp [h1, h2]
  | succ i =>
    simp at hi
    have := h i x y hi
    rw [show p + ((i + 1 : Nat) : Int) = p + 1 + i by omega]
    exact this
set_option maxRecDepth 100000 in
set_option maxHeartbeats 4000000 in
theorem c_lay (κ : KP) {B : Nat → Nat} {S : CST} (h : AH) (hB : BA B) {a b p : Int} (hp : S 5 2 = p) (p0 : 0 ≤ p) (p1 : p ≤ 4) : MM κ mX8_add 1 0 0 [.ref (B 5), .int (J a), .int (J b)] (cset B S h) (fun v h' => v = none ∧ h' = cset B (updm (updm (updm S 20 p a) 21 p b) 5 2 (p + 1)) h) NoX := by
  refine mm_of (L := [some _, some _, some _]) (by decide +kernel) rfl rfl (Nat.le_of_ble_eq_true rfl) rfl ?_
  subst hp
  refine r_al0 dX8_add_0 ?_
  refine b_get dX8_add_1 f_X8_18 hB (by decide) (k9 := 5) rfl rfl ?_
  refine r_iconst dX8_add_4 ?_
  refine r_icmp_ge (tgt := 38) dX8_add_5 (by decide) (by (omega)) (by (omega)) (fun c_5 => ?_) (fun c_5 => ?_)
  · exact absurd c_5 (by omega)
  · refine r_al0 dX8_add_8 ?_
    refine b_get dX8_add_9 f_X8_11 hB (by decide) (k9 := 5) rfl rfl ?_
    refine r_al0 dX8_add_12 ?_
    refine b_get dX8_add_13 f_X8_18 hB (by decide) (k9 := 5) rfl rfl ?_
    refine r_il1 dX8_add_16 ?_
    refine b_ast (k9 := 20) dX8_add_17 hB (by decide) (fun _ => rfl) (by omega) (by omega) (by omega) ?_
    refine r_al0 dX8_add_18 ?_
    refine b_get dX8_add_19 f_X8_15 hB (by decide) (k9 := 5) rfl rfl ?_
    refine r_al0 dX8_add_22 ?_
    refine b_get dX8_add_23 f_X8_18 hB (by decide) (k9 := 5) rfl rfl ?_
    refine r_il2 dX8_add_26 ?_
    rw [updm_k (by decide)]
    refine b_ast (k9 := 21) dX8_add_27 hB (by decide) (fun _ => rfl) (by omega) (by omega) (by omega) ?_
    refine r_al0 dX8_add_28 ?_
    refine r_dup dX8_add_29 rfl ?_
    refine b_get dX8_add_30 f_X8_18 hB (by decide) (k9 := 5) rfl rfl ?_
    rw [updm_k (by decide), updm_k (by decide)]
    refine r_iconst dX8_add_33 ?_
    refine r_iadd dX8_add_34 ?_
    refine b_put (k9 := 5) (i9 := 2) dX8_add_35 f_X8_18 p_X8_18 (ff_12_2 _) hB (by decide) rfl rfl rfl rfl rfl ?_
    exact r_ret dX8_add_38 rfl ⟨rfl, rfl⟩
set_option maxRecDepth 100000 in
set_option maxHeartbeats 4000000 in
theorem c_kindOf (κ : KP) (h : AH) {g U : Int → Int} (hW : WF g) {b c : Int} (b0 : 0 ≤ b) (b1 : b < g 3) (c0 : 0 ≤ c) (c1 : c < g 1) (hU : U c = -1 ∨ (0 ≤ U c ∧ U c < g 3)) {ab ac : Nat} (hb : BlR κ h ab (rwg g b)) (hc : CrR h ac (crg g c)) : PM κ mX8_kindOf 2 [.ref ab, .ref ac, .int (J (g 0)), .int (J (U c))] h (.int (J (QLk g U b c))) := by
  refine mm_of (L := [some _, some _, some _, some _]) (by decide +kernel) rfl rfl (Nat.le_of_ble_eq_true rfl) rfl ?_
  have hw := hW.c c0 c1
  unfold WFc at hw
  have hr := hW.b b0 b1
  unfold WFb at hr
  have n0 := hW.n
  obtain ⟨q9, s9, hO, hS⟩ := id hb
  simp only [rwg] at hO
  have hd := hc
  unfold CrR at hd
  simp only [crg] at hd
  refine r_al1 dX8_kindOf_0 ?_
  refine r_getfield dX8_kindOf_1 f_X8_91 (by assumption) rfl ?_
  refine r_al0 dX8_kindOf_4 ?_
  refine r_getfield dX8_kindOf_5 f_X8_96 (by assumption) rfl ?_
  refine r_icmp_ge (tgt := 13) dX8_kindOf_8 (by decide) (by (first | omega)) (by (first | omega)) (fun c_8 => ?_) (fun c_8 => ?_)
  · refine r_il2 dX8_kindOf_13 ?_
    refine r_al0 dX8_kindOf_14 ?_
    refine r_al1 dX8_kindOf_15 ?_
    refine r_callVP1 dX8_kindOf_16 v_X8_99 hO (c_lastY κ h hb hc) (by decide) rfl ?_
    simp only [rwg, crg]
    refine r_icmp_le (tgt := 24) dX8_kindOf_19 (by decide) (by (first | omega)) (by (first | omega)) (fun c_19 => ?_) (fun c_19 => ?_)
    · refine r_il3 dX8_kindOf_24 ?_
      refine r_iconst dX8_kindOf_25 ?_
      refine r_icmp_ne (tgt := 34) dX8_kindOf_26 (by decide) (by (first | omega)) (by (first | omega)) (fun c_26 => ?_) (fun c_26 => ?_)
      · refine r_iconst dX8_kindOf_34 ?_
        refine r_iret dX8_kindOf_35 (ty := .int) rfl rfl ⟨?_, rfl⟩
        unfold QLk
        rw [if_neg (by omega), if_neg (by rw [tb_t]; unfold QOld; omega)]
        first | rw [if_pos (by omega)] | rw [if_neg (by omega)]
      · refine r_bipush dX8_kindOf_29 (by decide) ?_
        refine r_goto (tgt := 35) dX8_kindOf_31 (by decide) ?_
        refine r_iret dX8_kindOf_35 (ty := .int) rfl rfl ⟨?_, rfl⟩
        unfold QLk
        rw [if_neg (by omega), if_neg (by rw [tb_t]; unfold QOld; omega)]
        first | rw [if_pos (by omega)] | rw [if_neg (by omega)]
    · refine r_iconst dX8_kindOf_22 ?_
      refine r_iret dX8_kindOf_23 (ty := .int) rfl rfl ⟨?_, rfl⟩
      unfold QLk
      rw [if_neg (by omega), if_pos (tb_t.mpr (show QOld g b c by unfold QOld; omega))]
  · refine r_iconst dX8_kindOf_11 ?_
    refine r_iret dX8_kindOf_12 (ty := .int) rfl rfl ⟨?_, rfl⟩
    unfold QLk
    rw [if_pos (by omega)]
set_option maxRecDepth 100000 in
set_option maxHeartbeats 4000000 in
theorem l_fup (κ : KP) {B : Nat → Nat} {S : CST} {u q : Nat} {g U : Int → Int} (h : AH) (hB : BA B) (hu : u = 3 ∨ u = 4) (hK : UKU κ (cset B S h) g S u q U) (hW : WF g) {bl nb : Nat} {fb : Int → Option Nat} (hAb : ArF (cset B S h) bl (.object RX1) nb (rv fb)) (hbb : ∀ b : Int, 0 ≤ b → b < nb → ∃ a, fb b = some a ∧ BlR κ (cset B S h) a (rwg g b)) (e3 : (nb : Int) = g 3) {b : Int} (rb : rng b) (hex : ∃ k, QFu g U b k) : ∀ (f : Nat) (k : Int), (nb : Int) - k < (f : Int) → 0 ≤ k → k ≤ nb → (∀ j, 0 ≤ j → j < k → g (60 + 12 * j + 1) = b → qmet g U j) → WW κ mX8_firstUnmetPart 4 0 0 (fun w h' => ∃ r, w = some (.int (J r)) ∧ rng r ∧ QFu g U b r ∧ h' = cset B S h) NoX 2 [some (.ref bl), some (.ref (B u)), some (.int (J b)), some (.int (J k))] [] (cset B S h) := by
  have n0 := hW.n
  intro f
  induction f with
  | zero =>
    intro k hf k0 k1
    exact absurd hf (by omega)
  | succ f ih =>
    intro k hf k0 k1 hno
    refine r_il3 dX8_firstUnmetPart_2 ?_
    refine r_al0 dX8_firstUnmetPart_3 ?_
    refine r_alenF dX8_firstUnmetPart_4 hAb (by decide) rfl ?_
    refine r_icmp_ge (tgt := 34) dX8_firstUnmetPart_5 (by decide) (by (first | omega | assumption | (have hr := hW.b k0 (by omega); unfold WFb at hr; omega))) (by (first | omega | assumption | (have hr := hW.b k0 (by omega); unfold WFb at hr; omega))) (fun c_5 => ?_) (fun c_5 => ?_)
    · refine r_iconst dX8_firstUnmetPart_34 ?_
      obtain ⟨k9, y0, y1, y2, y3, -⟩ := hex
      exact absurd (hno k9 y0 (by omega) y2) y3
    · refine r_al0 dX8_firstUnmetPart_8 ?_
      refine r_il3 dX8_firstUnmetPart_9 ?_
      obtain ⟨a_10, ha_10, hb_10⟩ := hbb k (by omega) (by omega)
      obtain ⟨-, s_10, hO_10, -⟩ := id hb_10
      simp only [rwg] at hO_10
      refine r_aaF dX8_firstUnmetPart_10 hAb (by decide) ha_10 (by omega) (by omega) (by omega) ?_
      refine r_getfield dX8_firstUnmetPart_11 f_X8_103 (by assumption) rfl ?_
      refine r_il2 dX8_firstUnmetPart_14 ?_
      refine r_icmp_ne (tgt := 28) dX8_firstUnmetPart_15 (by decide) (by (first | omega | assumption | (have hr := hW.b k0 (by omega); unfold WFb at hr; omega))) (by (first | omega | assumption | (have hr := hW.b k0 (by omega); unfold WFb at hr; omega))) (fun c_15 => ?_) (fun c_15 => ?_)
      · refine r_inc3 dX8_firstUnmetPart_28 rfl ?_
        refine r_goto (tgt := 2) dX8_firstUnmetPart_31 (by decide) ?_
        refine ih (k + 1) (by omega) (by omega) (by omega) (fun j j0 j1 hj => ?_)
        rcases (show j < k ∨ j = k by omega) with z | z
        · exact hno j j0 z hj
        · rw [z] at hj ⊢; first | exact c_23 | exact absurd hj c_15
      · refine r_al1 dX8_firstUnmetPart_18 ?_
        refine r_il3 dX8_firstUnmetPart_19 ?_
        refine r_callVP1 dX8_firstUnmetPart_20 v_X8_34 (cs_obj hB (ub hu) (bc_u hu)) (k_meets κ h hB hu hK k0 (by omega)) (by decide) rfl ?_
        refine r_ifT_ne (tgt := 28) dX8_firstUnmetPart_23 (by decide) (fun c_23 => ?_) (fun c_23 => ?_)
        · refine r_inc3 dX8_firstUnmetPart_28 rfl ?_
          refine r_goto (tgt := 2) dX8_firstUnmetPart_31 (by decide) ?_
          refine ih (k + 1) (by omega) (by omega) (by omega) (fun j j0 j1 hj => ?_)
          rcases (show j < k ∨ j = k by omega) with z | z
          · exact hno j j0 z hj
          · rw [z] at hj ⊢; first | exact c_23 | exact absurd hj c_15
        · refine r_il3 dX8_firstUnmetPart_26 ?_
          exact r_iret dX8_firstUnmetPart_27 (ty := .int) rfl rfl ⟨_, rfl, by omega, ⟨k0, by omega, c_15, c_23, hno⟩, rfl⟩
set_option maxRecDepth 100000 in
set_option maxHeartbeats 4000000 in
theorem c_fup (κ : KP) {B : Nat → Nat} {S : CST} {u q : Nat} {g U : Int → Int} (h : AH) (hB : BA B) (hu : u = 3 ∨ u = 4) (hK : UKU κ (cset B S h) g S u q U) (hW : WF g) {bl nb : Nat} {fb : Int → Option Nat} (hAb : ArF (cset B S h) bl (.object RX1) nb (rv fb)) (hbb : ∀ b : Int, 0 ≤ b → b < nb → ∃ a, fb b = some a ∧ BlR κ (cset B S h) a (rwg g b)) (e3 : (nb : Int) = g 3) {b : Int} (rb : rng b) (hex : ∃ k, QFu g U b k) : MM κ mX8_firstUnmetPart 4 0 0 [.ref bl, .ref (B u), .int (J b)] (cset B S h) (fun w h' => ∃ r, w = some (.int (J r)) ∧ rng r ∧ QFu g U b r ∧ h' = cset B S h) NoX := by
  refine mm_of (L := [some _, some _, some _, none]) (by decide +kernel) rfl rfl (Nat.le_of_ble_eq_true rfl) rfl ?_
  refine r_iconst dX8_firstUnmetPart_0 ?_
  refine r_is3 dX8_firstUnmetPart_1 rfl ?_
  exact l_fup κ h hB hu hK hW hAb hbb e3 rb hex (nb + 1) 0 (by omega) (by omega) (by omega) (fun j j0 j1 => by omega)
/-- what is laid from place p on, for the block b -/
def LyP (g U : Int → Int) (S : CST) (b p : Int) (S' : CST) : Prop := SK [5, 20, 21] S S' ∧ ∃ l, LyR g U (4 - p).toNat b l ∧ S' 5 2 = p + l.length ∧ LyC S' p l ∧ ∀ j, j < p → S' 20 j = S 20 j ∧ S' 21 j = S 21 j
theorem hu3 {u : Nat} (hu : u = 3 ∨ u = 4) : u ∉ [5, 20, 21] ∧ 4 * u + 3 ∉ [5, 20, 21] := by rcases hu with rfl | rfl <;> decide
theorem LyR.leafA {g u : Int → Int} {b p : Int} (hp : p ≤ 3) (hG : ¬ QGr g b) (hno : ∀ c, 0 ≤ c → c < g 1 → ¬ QLc g u b c) : LyR g u (4 - p).toNat b [(2, g (60 + 12 * b + 2) - qgets g u b)] := LyR.leaf1 hp hG hno
set_option maxRecDepth 100000 in
set_option maxHeartbeats 4000000 in
theorem l_addLeaf (κ : KP) {B : Nat → Nat} {S : CST} {u q : Nat} {g U : Int → Int} (h : AH) (hB : BA B) (hu : u = 3 ∨ u = 4) (hK : UKU κ (cset B S h) g S u q U) (hW : WF g) {cr eq pq nc : Nat} {fc : Int → Option Nat} (hO : ObF (cset B S h) q 7 [.int (J (g 0)), .ref cr, .ref eq, .ref pq]) (hAc : ArF (cset B S h) cr (.object RX2) nc (rv fc)) (hbc : ∀ c : Int, 0 ≤ c → c < nc → ∃ a, fc c = some a ∧ CrR (cset B S h) a (crg g c)) (e1 : (nc : Int) = g 1) {b p : Int} {ab : Nat} (b0 : 0 ≤ b) (b1 : b < g 3) (hb : BlR κ (cset B S h) ab (rwg g b)) (hG : ¬ QGr g b) (hp0 : 0 ≤ p) (hp3 : p ≤ 3) {S1 : CST} (x1 : SK [5, 20, 21] S S1) (x2 : S1 5 2 = p + 1) (x3 : S1 20 p = 2) (x4 : S1 21 p = g (60 + 12 * b + 2) - qgets g U b) (x5 : ∀ j, j < p → S1 20 j = S 20 j ∧ S1 21 j = S 21 j) : ∀ (f : Nat) (c : Int), (nc : Int) - c < (f : Int) → 0 ≤ c → c ≤ nc → (∀ j, 0 ≤ j → j < c → ¬ QLc g U b j) → WW κ mX8_addLeaf 8 0 0 (fun v h' => v = none ∧ ∃ S' : CST, h' = cset B S' h ∧ LyP g U S b p S') NoX 47 [some (.ref (B 5)), some (.ref q), some (.ref (B u)), some (.int (J b)), some (.ref ab), some (.int (J c))] [] (cset B S1 h) := by
  have n0 := hW.n
  have hK1 := hK.fx (cfxF (S' := S1) hB) (x1 u (hu3 hu).1) (x1 _ (hu3 hu).2)
  have hbf := hb.fx (cfxF (S' := S1) hB)
  obtain ⟨q9, s9, hOb, hSb⟩ := id hbf
  have hQ := hK.best.2.1
  have hO1 := cfx (S' := S1) hB hO
  intro f
  induction f with
  | zero =>
    intro c hf c0 c1
    exact absurd hf (by omega)
  | succ f ih =>
    intro c hf c0 c1 hno
    refine r_il5 dX8_addLeaf_47 ?_
    refine r_al1 dX8_addLeaf_49 ?_
    refine r_getfield dX8_addLeaf_50 f_X8_73 (by first | assumption | (refine cfx hB ?_; assumption)) rfl ?_
    refine r_alenF dX8_addLeaf_53 (cfx hB hAc) (by decide) rfl ?_
    refine r_icmp_ge (tgt := 117) dX8_addLeaf_54 (by decide) (by (first | omega)) (by (first | omega)) (fun c_54 => ?_) (fun c_54 => ?_)
    · refine r_ret dX8_addLeaf_117 rfl ⟨rfl, S1, rfl, x1, _, LyR.leaf1 hp3 hG (fun j j0 j1 => hno j j0 (by omega)), ?_, LyC.cons x3 x4 LyC.nil, x5⟩
      rw [x2]
      rfl
    · refine r_al4 dX8_addLeaf_57 ?_
      refine r_al1 dX8_addLeaf_59 ?_
      refine r_getfield dX8_addLeaf_60 f_X8_73 (by first | assumption | (refine cfx hB ?_; assumption)) rfl ?_
      refine r_il5 dX8_addLeaf_63 ?_
      have hw := hW.c c0 (by omega)
      unfold WFc QLow QCap at hw
      have hq := hQ c c0 (by omega)
      obtain ⟨a_65, ha_65, hc0_65⟩ := hbc c (by omega) (by omega)
      have hc_65 := cfx (S' := S1) hB hc0_65
      refine r_aaF dX8_addLeaf_65 (cfx hB hAc) (by decide) ha_65 (by omega) (by omega) (by omega) ?_
      refine r_callVP1 dX8_addLeaf_66 v_X8_77 hOb (c_names κ _ hbf hc_65 (by simp only [crg]; omega) (by simp only [crg]; omega)) (by decide) rfl ?_
      refine r_ifT_eq (tgt := 111) dX8_addLeaf_69 (by decide) (fun c_69 => ?_) (fun c_69 => ?_)
      · refine r_inc5 dX8_addLeaf_111 rfl ?_
        refine r_goto (tgt := 47) dX8_addLeaf_114 (by decide) ?_
        refine ih (c + 1) (by omega) (by omega) (by omega) (fun j j0 j1 hj => ?_)
        rcases (show j < c ∨ j = c by omega) with z | z
        · exact hno j j0 z hj
        · rw [z] at hj; first | exact c_69 hj.2 | exact hj.1 c_79
      · refine r_al2 dX8_addLeaf_72 ?_
        refine r_il5 dX8_addLeaf_73 ?_
        refine r_callVP1 dX8_addLeaf_75 v_X8_81 (cs_obj hB (ub hu) (bc_u hu)) (k_takerOf κ h hB hu hK1 c0 (by omega)) (by decide) rfl ?_
        refine r_il3 dX8_addLeaf_78 ?_
        refine r_icmp_eq (tgt := 111) dX8_addLeaf_79 (by decide) (by (first | omega)) (by (first | omega)) (fun c_79 => ?_) (fun c_79 => ?_)
        · refine r_inc5 dX8_addLeaf_111 rfl ?_
          refine r_goto (tgt := 47) dX8_addLeaf_114 (by decide) ?_
          refine ih (c + 1) (by omega) (by omega) (by omega) (fun j j0 j1 hj => ?_)
          rcases (show j < c ∨ j = c by omega) with z | z
          · exact hno j j0 z hj
          · rw [z] at hj; first | exact c_69 hj.2 | exact hj.1 c_79
        · refine r_al0 dX8_addLeaf_82 ?_
          refine r_al4 dX8_addLeaf_83 ?_
          refine r_al1 dX8_addLeaf_85 ?_
          refine r_getfield dX8_addLeaf_86 f_X8_73 (by first | assumption | (refine cfx hB ?_; assumption)) rfl ?_
          refine r_il5 dX8_addLeaf_89 ?_
          obtain ⟨a_91, ha_91, hc0_91⟩ := hbc c (by omega) (by omega)
          have hc_91 := cfx (S' := S1) hB hc0_91
          refine r_aaF dX8_addLeaf_91 (cfx hB hAc) (by decide) ha_91 (by omega) (by omega) (by omega) ?_
          refine r_al1 dX8_addLeaf_92 ?_
          refine r_getfield dX8_addLeaf_93 f_X8_84 (by first | assumption | (refine cfx hB ?_; assumption)) rfl ?_
          refine r_al2 dX8_addLeaf_96 ?_
          refine r_il5 dX8_addLeaf_97 ?_
          refine r_callVP1 dX8_addLeaf_99 v_X8_81 (cs_obj hB (ub hu) (bc_u hu)) (k_takerOf κ h hB hu hK1 c0 (by omega)) (by decide) rfl ?_
          refine r_callSP4 dX8_addLeaf_102 s_X8_87 (c_kindOf κ _ hW b0 b1 c0 (by omega) (hq.imp id (fun z => ⟨z.1, z.2.1⟩)) hbf hc_91) (by decide) rfl ?_
          refine r_il5 dX8_addLeaf_105 ?_
          refine r_callV (As := [.int (J (QLk g U b c)), .int (J c)]) dX8_addLeaf_107 v_X8_58 (cs_obj hB (k9 := 5) (by decide) rfl) (c_lay κ h hB x2 (by omega) (by omega)) (by decide) rfl rfl (cat_le rfl) (Nat.zero_le _) (Nat.zero_le _) (fun v h9 hq9 => ?_) (fun _ _ hx => hx.elim)
          obtain ⟨rfl, rfl⟩ := hq9
          have hlc : QLc g U b c := ⟨c_79, c_69⟩
          refine r_ret dX8_addLeaf_110 rfl ⟨rfl, _, rfl, ((x1.up (by decide)).up (by decide)).up (by decide), _, LyR.leaf2 hp3 hG c0 (by omega) hlc hno, ?_, LyC.cons ?_ ?_ (LyC.cons ?_ ?_ LyC.nil), fun j hj => ?_⟩
          · rw [updm_at]; simp only [List.length_cons, List.length_nil]; omega
          · rw [updm_k (by decide), updm_k (by decide), updm_ne (by omega)]; exact x3
          · rw [updm_k (by decide), updm_ne (by omega), updm_k (by decide)]; exact x4
          · rw [updm_k (by decide), updm_k (by decide), updm_at]
          · rw [updm_k (by decide), updm_at]
          · rw [updm_k (by decide), updm_k (by decide), updm_ne (by omega), updm_k (by decide), updm_ne (by omega), updm_k (by decide)]
            exact x5 j hj
set_option maxRecDepth 100000 in
set_option maxHeartbeats 4000000 in
theorem c_addLeaf (κ : KP) {B : Nat → Nat} {S : CST} {u q : Nat} {g U : Int → Int} (h : AH) (hB : BA B) (hu : u = 3 ∨ u = 4) (hK : UKU κ (cset B S h) g S u q U) {b p : Int} (b0 : 0 ≤ b) (b1 : b < g 3) (hG : ¬ QGr g b) (hp0 : 0 ≤ p) (hp3 : p ≤ 3) (hp : S 5 2 = p) : MM κ mX8_addLeaf 8 0 0 [.ref (B 5), .ref q, .ref (B u), .int (J b)] (cset B S h) (fun v h' => v = none ∧ ∃ S' : CST, h' = cset B S' h ∧ LyP g U S b p S') NoX := by
  refine mm_of (L := [some _, some _, some _, some _, none, none]) (by decide +kernel) rfl rfl (Nat.le_of_ble_eq_true rfl) rfl ?_
  obtain ⟨hW, cr, eq, pq, nc, ne, nb, bl, fc, fb, w1, w2, w3, w4, ⟨hO, hAc, hbc, e1, e3⟩, hOp, hAb, hbb⟩ := hK.view
  have n0 := hW.n
  obtain ⟨ab, hab, hb⟩ := hbb b b0 (by omega)
  obtain ⟨q9, s9, hOb, hSb⟩ := id hb
  have hOc := hOb
  simp only [rwg] at hOc
  refine r_il3 dX8_addLeaf_0 ?_
  refine r_if_lt (tgt := 16) dX8_addLeaf_1 (by decide) (by (first | omega)) (fun c_1 => ?_) (fun c_1 => ?_)
  · exact absurd c_1 (by omega)
  · refine r_il3 dX8_addLeaf_4 ?_
    refine r_al1 dX8_addLeaf_5 ?_
    refine r_getfield dX8_addLeaf_6 f_X8_22 (by first | assumption | (refine cfx hB ?_; assumption)) rfl ?_
    refine r_getfield dX8_addLeaf_9 f_X8_28 (by first | assumption | (refine cfx hB ?_; assumption)) rfl ?_
    refine r_alenF dX8_addLeaf_12 hAb (by decide) rfl ?_
    refine r_icmp_lt (tgt := 17) dX8_addLeaf_13 (by decide) (by (first | omega)) (by (first | omega)) (fun c_13 => ?_) (fun c_13 => ?_)
    · refine r_al1 dX8_addLeaf_17 ?_
      refine r_getfield dX8_addLeaf_18 f_X8_22 (by first | assumption | (refine cfx hB ?_; assumption)) rfl ?_
      refine r_getfield dX8_addLeaf_21 f_X8_28 (by first | assumption | (refine cfx hB ?_; assumption)) rfl ?_
      refine r_il3 dX8_addLeaf_24 ?_
      refine r_aaF dX8_addLeaf_25 hAb (by decide) hab (by omega) (by omega) (by omega) ?_
      refine r_as4 dX8_addLeaf_26 rfl ?_
      refine r_al0 dX8_addLeaf_28 ?_
      refine r_iconst dX8_addLeaf_29 ?_
      refine r_al4 dX8_addLeaf_30 ?_
      refine r_getfield dX8_addLeaf_32 f_X8_66 (by first | assumption | (refine cfx hB ?_; assumption)) rfl ?_
      refine r_al2 dX8_addLeaf_35 ?_
      refine r_il3 dX8_addLeaf_36 ?_
      refine r_callVP1 dX8_addLeaf_37 v_X8_69 (cs_obj hB (ub hu) (bc_u hu)) (k_ptWithin κ h hB hu hK b0 b1) (by decide) rfl ?_
      rw [pts_leaf hW hG b0 b1]
      refine r_isub dX8_addLeaf_40 ?_
      refine r_callV (As := [.int (J 2), .int (J (g (60 + 12 * b + 2) - qgets g U b))]) dX8_addLeaf_41 v_X8_58 (cs_obj hB (k9 := 5) (by decide) rfl) (c_lay κ h hB hp (by omega) (by omega)) (by decide) rfl rfl (cat_le rfl) (Nat.zero_le _) (Nat.zero_le _) (fun v h9 hq9 => ?_) (fun _ _ hx => hx.elim)
      obtain ⟨rfl, rfl⟩ := hq9
      refine r_iconst dX8_addLeaf_44 ?_
      refine r_is5 dX8_addLeaf_45 rfl ?_
      exact l_addLeaf κ h hB hu hK hW hO hAc hbc e1 b0 b1 hb hG hp0 hp3 (((SK.rf.up (by decide)).up (by decide)).up (by decide)) updm_at (by rw [updm_k (by decide), updm_k (by decide), updm_at]) (by rw [updm_k (by decide), updm_at]) (fun j hj => by rw [updm_k (by decide), updm_k (by decide), updm_ne (by omega), updm_k (by decide), updm_ne (by omega), updm_k (by decide)]; exact ⟨rfl, rfl⟩) (nc + 1) 0 (by omega) (by omega) (by omega) (fun j j0 j1 => by omega)
    · exact absurd c_13 (by omega)
theorem QFu.ex {g u : Int → Int} {b : Int} (h : ∃ k, 0 ≤ k ∧ k < g 3 ∧ g (60 + 12 * k + 1) = b ∧ ¬ qmet g u k) : ∃ k, QFu g u b k := by
  obtain ⟨k, k0, k1, k2, k3⟩ := h
  obtain ⟨n, rfl⟩ : ∃ n : Nat, k = n := ⟨k.toNat, by omega⟩
  induction n using Nat.strongRecOn with
  | _ n ih =>
    by_cases q : ∃ j : Nat, j < n ∧ g (60 + 12 * (j : Int) + 1) = b ∧ ¬ qmet g u j
    · obtain ⟨j, j0, j1, j2⟩ := q
      exact ih j j0 (by omega) (by omega) j1 j2
    · refine ⟨n, k0, k1, k2, k3, fun j j0 j1 hj => Classical.byContradiction fun z => q ⟨j.toNat, by omega, ?_, ?_⟩⟩
      · rw [show ((j.toNat : Nat) : Int) = j by omega]; exact hj
      · rw [show ((j.toNat : Nat) : Int) = j by omega]; exact z
set_option maxRecDepth 100000 in
set_option maxHeartbeats 4000000 in
theorem l_follow (κ : KP) {B : Nat → Nat} {S : CST} {u q : Nat} {g U : Int → Int} (h : AH) (hB : BA B) (hu : u = 3 ∨ u = 4) (hK : UKU κ (cset B S h) g S u q U) {cr eq pq nc nb bl : Nat} {fb : Int → Option Nat} {y0 : Int} (hW : WF g) (hAb : ArF (cset B S h) bl (.object RX1) nb (rv fb)) (hbb : ∀ b : Int, 0 ≤ b → b < nb → ∃ a, fb b = some a ∧ BlR κ (cset B S h) a (rwg g b)) (e3 : (nb : Int) = g 3) : ∀ (f : Nat) (p b : Int) (S1 : CST), 4 - p < (f : Int) → 0 ≤ p → 0 ≤ b → b < g 3 → p ≤ g (60 + 12 * b + 11) → SK [5, 20, 21] S S1 → S1 5 2 = p → WW κ mX8_follow 10 0 0 (fun v h' => v = none ∧ ∃ S' : CST, h' = cset B S' h ∧ ((qmet g U b ∧ S' = S1) ∨ (¬ qmet g U b ∧ LyP g U S1 b p S'))) NoX 20 [some (.ref (B 5)), some (.ref q), some (.ref (B u)), some (.int (J y0)), some (.ref bl), some (.int (J b)), some (.int (J p))] [] (cset B S1 h) := by
  have n0 := hW.n
  intro f
  induction f with
  | zero =>
    intro p b S1 hf p0 b0 b1 ho
    have hr := hW.b b0 b1
    unfold WFb at hr
    exact absurd hf (by omega)
  | succ f ih =>
    intro p b S1 hf p0 b0 b1 ho x1 x2
    have hr := hW.b b0 b1
    unfold WFb at hr
    have hK1 := hK.fx (cfxF (S' := S1) hB) (x1 u (hu3 hu).1) (x1 _ (hu3 hu).2)
    have hAb1 := cfx (S' := S1) hB hAb
    have hbb1 : ∀ b : Int, 0 ≤ b → b < nb → ∃ a, fb b = some a ∧ BlR κ (cset B S1 h) a (rwg g b) := fun b x y => (hbb b x y).imp fun _ z => ⟨z.1, z.2.fx (cfxF hB)⟩
    obtain ⟨ab, hab, hb⟩ := hbb1 b b0 (by omega)
    obtain ⟨q9, s9, hOb, hSb⟩ := id hb
    have hgr := hW.gr b0 b1
    have hbl1 : BlsAt κ (cset B S1 h) bl nb (rwg g) := ⟨fb, hAb1, hbb1⟩
    refine r_il6 dX8_follow_20 ?_
    refine r_iconst dX8_follow_22 ?_
    refine r_icmp_ge (tgt := 101) dX8_follow_23 (by decide) (by (first | omega)) (by (first | omega)) (fun c_23 => ?_) (fun c_23 => ?_)
    · exact absurd c_23 (by omega)
    · refine r_il5 dX8_follow_26 ?_
      refine r_if_lt (tgt := 101) dX8_follow_28 (by decide) (by (first | omega)) (fun c_28 => ?_) (fun c_28 => ?_)
      · exact absurd c_28 (by omega)
      · refine r_il5 dX8_follow_31 ?_
        refine r_al4 dX8_follow_33 ?_
        refine r_alenF dX8_follow_35 hAb1 (by decide) rfl ?_
        refine r_icmp_ge (tgt := 101) dX8_follow_36 (by decide) (by (first | omega)) (by (first | omega)) (fun c_36 => ?_) (fun c_36 => ?_)
        · exact absurd c_36 (by omega)
        · refine r_al2 dX8_follow_39 ?_
          refine r_il5 dX8_follow_40 ?_
          refine r_callVP1 dX8_follow_42 v_X8_34 (cs_obj hB (ub hu) (bc_u hu)) (k_meets κ h hB hu hK1 b0 b1) (by decide) rfl ?_
          refine r_ifT_eq (tgt := 49) dX8_follow_45 (by decide) (fun c_45 => ?_) (fun c_45 => ?_)
          · refine r_al4 dX8_follow_49 ?_
            refine r_il5 dX8_follow_51 ?_
            refine r_aaF dX8_follow_53 hAb1 (by decide) hab (by omega) (by omega) (by omega) ?_
            refine r_callVP0 dX8_follow_54 v_X8_40 hOb (c_isGr κ _ hb) (by decide) rfl ?_
            refine r_ifT_ne (tgt := 69) dX8_follow_57 (by decide) (fun c_57 => ?_) (fun c_57 => ?_)
            · refine r_al0 dX8_follow_69 ?_
              refine r_iconst dX8_follow_70 ?_
              refine r_al4 dX8_follow_71 ?_
              refine r_il5 dX8_follow_73 ?_
              refine r_al2 dX8_follow_75 ?_
              refine r_callVP0 dX8_follow_76 v_X8_50 (cs_obj hB (ub hu) (bc_u hu)) (k_metSet κ h hB hu hK1) (by decide) rfl ?_
              have hRw := hW.rw e3
              refine r_callSP3 dX8_follow_79 s_X8_54 (c_metParts κ _ (by omega) hbl1 hRw (by omega)) (by decide) rfl ?_
              have eS : sz (fun k => bP (rwg g k 1 = b ∧ bk (qmet g U) (g 3) k = true)) nb = (sz (fP g U b) (g 3)) := by
                rw [e3]
                exact sz_cong fun k k0 k1 => bP_cong (and_congr_right fun _ => ⟨fun z => (bk_i.mp z).2.2, fun z => bk_i.mpr ⟨k0, k1, z⟩⟩)
              rw [eS]
              refine r_callV (As := [.int (J 1), .int (J (sz (fP g U b) (g 3)))]) dX8_follow_82 v_X8_58 (cs_obj hB (k9 := 5) (by decide) rfl) (c_lay κ h hB x2 (by omega) (by omega)) (by decide) rfl rfl (cat_le rfl) (Nat.zero_le _) (Nat.zero_le _) (fun v h9 hq9 => ?_) (fun _ _ hx => hx.elim)
              obtain ⟨rfl, rfl⟩ := hq9
              have z1 : SK [5, 20, 21] S (updm (updm (updm S1 20 p 1) 21 p (sz (fP g U b) (g 3))) 5 2 (p + 1)) := ((x1.up (by decide)).up (by decide)).up (by decide)
              have z2 : (updm (updm (updm S1 20 p 1) 21 p (sz (fP g U b) (g 3))) 5 2 (p + 1)) 5 2 = p + 1 := updm_at
              have z3 : (updm (updm (updm S1 20 p 1) 21 p (sz (fP g U b) (g 3))) 5 2 (p + 1)) 20 p = 1 := by rw [updm_k (by decide), updm_k (by decide), updm_at]
              have z4 : (updm (updm (updm S1 20 p 1) 21 p (sz (fP g U b) (g 3))) 5 2 (p + 1)) 21 p = (sz (fP g U b) (g 3)) := by rw [updm_k (by decide), updm_at]
              have z5 : ∀ j, j < p → (updm (updm (updm S1 20 p 1) 21 p (sz (fP g U b) (g 3))) 5 2 (p + 1)) 20 j = S1 20 j ∧ (updm (updm (updm S1 20 p 1) 21 p (sz (fP g U b) (g 3))) 5 2 (p + 1)) 21 j = S1 21 j := fun j hj => by rw [updm_k (by decide), updm_k (by decide), updm_ne (by omega), updm_k (by decide), updm_ne (by omega), updm_k (by decide)]; exact ⟨rfl, rfl⟩
              have z6 : SK [5, 20, 21] S1 (updm (updm (updm S1 20 p 1) 21 p (sz (fP g U b) (g 3))) 5 2 (p + 1)) := ((SK.rf.up (by decide)).up (by decide)).up (by decide)
              generalize updm (updm (updm S1 20 p 1) 21 p (sz (fP g U b) (g 3))) 5 2 (p + 1) = S2 at z1 z2 z3 z4 z5 z6 ⊢
              have hK2 := hK.fx (cfxF (S' := S2) hB) (z1 u (hu3 hu).1) (z1 _ (hu3 hu).2)
              have hbb2 : ∀ b : Int, 0 ≤ b → b < nb → ∃ a, fb b = some a ∧ BlR κ (cset B S2 h) a (rwg g b) := fun b x y => (hbb b x y).imp fun _ z => ⟨z.1, z.2.fx (cfxF hB)⟩
              have hg9 : QGr g b := hgr.mpr c_57
              have hex := QFu.ex (unmet_part hW b0 b1 hg9 c_45)
              refine r_al4 dX8_follow_85 ?_
              refine r_al2 dX8_follow_87 ?_
              refine r_il5 dX8_follow_88 ?_
              refine r_callS (As := [.ref bl, .ref (B u), .int (J b)]) dX8_follow_90 s_X8_62 (c_fup κ h hB hu hK2 hW (cfx hB hAb) hbb2 e3 (by omega) hex) (by decide) rfl rfl (cat_le rfl) (Nat.zero_le _) (Nat.zero_le _) (fun v h9 hq9 => ?_) (fun _ _ hx => hx.elim)
              obtain ⟨k, rfl, rk, hk, rfl⟩ := hq9
              refine r_is5 dX8_follow_93 rfl ?_
              refine r_inc6 dX8_follow_95 rfl ?_
              refine r_goto (tgt := 20) dX8_follow_98 (by decide) ?_
              have hk1 := hW.b hk.1 hk.2.1
              unfold WFb at hk1
              have hop := (hk1.2.2.2.2.2.2.2.2.2.1 (by rw [hk.2.2.1]; exact b0)).2
              rw [hk.2.2.1] at hop
              refine ww_post (fun v h9 hq9 => ?_) (fun _ _ hx => hx) (ih (p + 1) k S2 (by omega) (by omega) hk.1 hk.2.1 (by omega) z1 z2)
              obtain ⟨rfl, S', rfl, hy⟩ := hq9
              refine ⟨rfl, S', rfl, Or.inr ⟨c_45, ?_⟩⟩
              rcases hy with ⟨hm, -⟩ | ⟨-, y1, l, y2, y3, y4, y5⟩
              · exact absurd hm hk.2.2.2.1
              · refine ⟨z6.same y1, (1, (sz (fP g U b) (g 3))) :: l, ?_, ?_, LyC.cons ?_ ?_ y4, fun j hj => ?_⟩
                · rw [show (4 - p).toNat = (4 - (p + 1)).toNat + 1 by omega]
                  exact Or.inl ⟨hg9, k, l, hk, y2, rfl⟩
                · rw [y3, List.length_cons]
                  omega
                · rw [(y5 p (by omega)).1, z3]
                · rw [(y5 p (by omega)).2, z4]
                · rw [(y5 j (by omega)).1, (y5 j (by omega)).2]
                  exact z5 j hj
            · refine r_al0 dX8_follow_60 ?_
              refine r_al1 dX8_follow_61 ?_
              refine r_al2 dX8_follow_62 ?_
              refine r_il5 dX8_follow_63 ?_
              refine r_callV (As := [.ref q, .ref (B u), .int (J b)]) dX8_follow_65 v_X8_46 (cs_obj hB (k9 := 5) (by decide) rfl) (c_addLeaf κ h hB hu hK1 b0 b1 (fun z => c_57 (hgr.mp z)) p0 (by omega) x2) (by decide) rfl rfl (cat_le rfl) (Nat.zero_le _) (Nat.zero_le _) (fun v h9 hq9 => ?_) (fun _ _ hx => hx.elim)
              obtain ⟨rfl, S3, rfl, hy⟩ := hq9
              exact r_ret dX8_follow_68 rfl ⟨rfl, S3, rfl, Or.inr ⟨c_45, hy⟩⟩
          · exact r_ret dX8_follow_48 rfl ⟨rfl, S1, rfl, Or.inl ⟨c_45, rfl⟩⟩
set_option maxRecDepth 100000 in
set_option maxHeartbeats 4000000 in
theorem c_follow (κ : KP) {B : Nat → Nat} {S : CST} {u q : Nat} {g U : Int → Int} (h : AH) (hB : BA B) (hu : u = 3 ∨ u = 4) (hK : UKU κ (cset B S h) g S u q U) {b : Int} (b0 : 0 ≤ b) (b1 : b < g 3) : MM κ mX8_follow 10 0 0 [.ref (B 5), .ref q, .ref (B u), .int (J b)] (cset B S h) (fun v h' => v = none ∧ ∃ S' : CST, h' = cset B S' h ∧ SK [5, 20, 21] S S' ∧ ∃ l, QLy g U b l ∧ S' 5 2 = l.length ∧ LyC S' 0 l) NoX := by
  refine mm_of (L := [some _, some _, some _, some _, none, none, none]) (by decide +kernel) rfl rfl (Nat.le_of_ble_eq_true rfl) rfl ?_
  obtain ⟨hW, cr, eq, pq, nc, ne, nb, bl, fc, fb, w1, w2, w3, w4, ⟨hO, hAc, hbc, e1, e3⟩, hOp, hAb, hbb⟩ := hK.view
  have n0 := hW.n
  have hr := hW.b b0 b1
  unfold WFb at hr
  refine r_al1 dX8_follow_0 ?_
  refine r_getfield dX8_follow_1 f_X8_22 (by first | assumption | (refine cfx hB ?_; assumption)) rfl ?_
  refine r_getfield dX8_follow_4 f_X8_28 (by first | assumption | (refine cfx hB ?_; assumption)) rfl ?_
  refine r_as4 dX8_follow_7 rfl ?_
  refine r_al0 dX8_follow_9 ?_
  refine r_iconst dX8_follow_10 ?_
  refine b_put (k9 := 5) (i9 := 2) dX8_follow_11 f_X8_18 p_X8_18 (ff_12_2 _) hB (by decide) rfl rfl rfl rfl rfl ?_
  refine r_il3 dX8_follow_14 ?_
  refine r_is5 dX8_follow_15 rfl ?_
  refine r_iconst dX8_follow_17 ?_
  refine r_is6 dX8_follow_18 rfl ?_
  refine ww_post (fun v h9 hq9 => ?_) (fun _ _ hx => hx) (l_follow (cr := 0) (eq := 0) (pq := 0) (nc := 0) κ h hB hu hK hW hAb hbb e3 5 0 b (updm S 5 2 0) (by omega) (by omega) b0 b1 (by omega) (SK.rf.up (by decide)) updm_at)
  obtain ⟨rfl, S', rfl, hy⟩ := hq9
  refine ⟨rfl, S', rfl, ?_⟩
  rcases hy with ⟨hm, rfl⟩ | ⟨hm, y1, l, y2, y3, y4, y5⟩
  · exact ⟨SK.rf.up (by decide), [], Or.inl ⟨hm, rfl⟩, updm_at, LyC.nil⟩
  · exact ⟨(SK.rf.up (by decide)).same y1, l, Or.inr ⟨hm, y2⟩, by rw [y3]; omega, y4⟩
