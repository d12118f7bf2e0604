/-! ===== the program's methods that read ===== -/
abbrev rwg (g : Int → Int) : Int → Int → Int := fun b w => g (60 + 12 * b + w)
theorem WF.rw {g : Int → Int} (hW : WF g) {n : Nat} (hn : (n : Int) = g 3) : ∀ b : Int, 0 ≤ b → b < n → RwB (rwg g b) b := by
  intro b b0 b1
  have h := hW.b b0 (by omega)
  unfold WFb at h
  refine ⟨⟨h.2.1.1, h.2.1.2⟩, ?_, ?_, ?_, h.2.2.2.2.2.1, h.2.2.2.2.2.2.1⟩ <;> constructor <;> simp only [rwg] <;> omega
theorem WF.gr {g : Int → Int} (hW : WF g) {b : Int} (b0 : 0 ≤ b) (b1 : b < g 3) : QGr g b ↔ g (60 + 12 * b + 5) = 0 := by
  have h := hW.b b0 b1
  unfold WFb at h
  unfold QGr
  have q1 := h.2.2.2.2.2.2.2.1
  have q2 := h.2.2.2.2.2.2.2.2.1
  rcases h.1 with e | e
  · have := (q2 e).2.2
    omega
  · have := (q1 e).2.2.2.1
    omega
noncomputable def cnt (R : Int → Int → Int) (b k : Int) : Int := sz (fun j => bP (R j 1 = b)) k
theorem cnt_bd {R : Int → Int → Int} {b k : Int} (k0 : 0 ≤ k) : 0 ≤ cnt R b k ∧ cnt R b k ≤ k := sz_01 k0 (fun _ => bP_01 _)
theorem cnt_1 {R : Int → Int → Int} {b k : Int} (k0 : 0 ≤ k) : cnt R b (k + 1) = cnt R b k + bP (R k 1 = b) := sz_1 k0
def RgA (R : Int → Int → Int) (n : Int) : Prop := ∀ b, 0 ≤ b → b < n → RRg (R b)
def MtA (R : Int → Int → Int) (n : Int) : Prop := ∀ b, 0 ≤ b → b < n → R b 5 = 0 → R b 2 ≤ cnt R b n
noncomputable def lvs (R : Int → Int → Int) (n : Int) : Int := sz (fun b => bP (R b 5 ≠ 0)) n
/-- for which reason blocks are no program; 0: they are one -/
def QRR (R : Int → Int → Int) (n r : Int) : Prop := (¬ RgA R n ∧ r = 3) ∨ (RgA R n ∧ (8 < n ∨ 4 < lvs R n) ∧ r = 4) ∨ (RgA R n ∧ ¬ (8 < n ∨ 4 < lvs R n) ∧ MtA R n ∧ r = 0) ∨ (RgA R n ∧ ¬ (8 < n ∨ 4 < lvs R n) ∧ ¬ MtA R n ∧ r = 5)
set_option maxRecDepth 100000 in
set_option maxHeartbeats 4000000 in
theorem l_rsn2 (κ : KP) {h0 : AH} (h : AH) {bl n : Nat} {R : Int → Int → Int} (hn : n ≤ 8) {f9 : Int → Option Nat} (hA : ArF h bl (.object RX1) n (rv f9)) (hbl : ∀ b : Int, 0 ≤ b → b < n → ∃ a, f9 b = some a ∧ BlR κ h a (R b)) (hR : ∀ b : Int, 0 ≤ b → b < n → RwB (R b) b) (hE : Ext h0 h) (hg : RgA R n) (hl : ¬ (8 < (n : Int) ∨ 4 < lvs R n)) (k9 n9 : Nat) : ∀ (f : Nat) (i : Int), (n : Int) - i < (f : Int) → (0 ≤ i) → (i ≤ n) → (∀ b, 0 ≤ b → b < i → R b 5 = 0 → R b 2 ≤ cnt R b n) → WW κ mX6_reasonAgainst 4 k9 n9 (fun v h' => ∃ r, v = some (.int (J r)) ∧ QRR R n r ∧ Ext h0 h') NoX 45 [some (.ref bl), some (.int (J i))] [] h := by
  intro f
  induction f with
  | zero =>
    intro i hf i0 i1 hM
    exact absurd hf (by omega)
  | succ f ih =>
    intro i hf i0 i1 hM
    refine r_il1 dX6_reasonAgainst_45 ?_
    refine r_al0 dX6_reasonAgainst_46 ?_
    refine r_alenF dX6_reasonAgainst_47 hA (by decide) rfl ?_
    refine r_icmp_ge (tgt := 82) dX6_reasonAgainst_48 (by decide) (by (first | omega | assumption | (have hr := hR i i0 (by omega); unfold RwB at hr; omega) | (have hp := cnt_bd (R := R) (b := i) (k := (n : Int)) (by omega); unfold cnt at hp; omega) | (have hq := sz_01 (k := (n : Int)) (by omega) (fun i => bP_01 (R i 5 ≠ 0)); omega))) (by (first | omega | assumption | (have hr := hR i i0 (by omega); unfold RwB at hr; omega) | (have hp := cnt_bd (R := R) (b := i) (k := (n : Int)) (by omega); unfold cnt at hp; omega) | (have hq := sz_01 (k := (n : Int)) (by omega) (fun i => bP_01 (R i 5 ≠ 0)); omega))) (fun c_48 => ?_) (fun c_48 => ?_)
    · refine r_iconst dX6_reasonAgainst_82 ?_
      exact r_iret dX6_reasonAgainst_83 (ty := .int) rfl rfl ⟨_, rfl, Or.inr (Or.inr (Or.inl ⟨hg, hl, fun b b0 b1 hb => hM b b0 (by omega) hb, rfl⟩)), hE⟩
    · refine r_al0 dX6_reasonAgainst_51 ?_
      refine r_il1 dX6_reasonAgainst_52 ?_
      obtain ⟨a_53, ha_53, hb_53⟩ := hbl i (by omega) (by omega)
      obtain ⟨q_53, s_53, hO_53, hS_53⟩ := id hb_53
      refine r_aaF dX6_reasonAgainst_53 hA (by decide) ha_53 (by omega) (by omega) (by omega) ?_
      refine r_callVP0 dX6_reasonAgainst_54 v_X6_59 hO_53 (c_isGr κ h hb_53) (by decide) rfl ?_
      refine r_ifT_eq (tgt := 76) dX6_reasonAgainst_57 (by decide) (fun c_57 => ?_) (fun c_57 => ?_)
      · refine r_inc1 dX6_reasonAgainst_76 rfl ?_
        refine r_goto (tgt := 45) dX6_reasonAgainst_79 (by decide) ?_
        refine ih (i + 1) (by omega) (by omega) (by omega) (fun b b0 b1 hb => ?_)
        rcases (show b < i ∨ b = i by omega) with q | q
        · exact hM b b0 q hb
        · rw [q] at hb ⊢; first | exact absurd hb c_57 | exact c_71
      · refine r_al0 dX6_reasonAgainst_60 ?_
        refine r_il1 dX6_reasonAgainst_61 ?_
        obtain ⟨a_62, ha_62, hb_62⟩ := hbl i (by omega) (by omega)
        obtain ⟨q_62, s_62, hO_62, hS_62⟩ := id hb_62
        refine r_aaF dX6_reasonAgainst_62 hA (by decide) ha_62 (by omega) (by omega) (by omega) ?_
        refine r_getfield dX6_reasonAgainst_63 f_X6_62 (by assumption) rfl ?_
        refine r_al0 dX6_reasonAgainst_66 ?_
        refine r_il1 dX6_reasonAgainst_67 ?_
        refine r_callSP2 dX6_reasonAgainst_68 s_X6_65 (c_partsIn κ h (by omega) ⟨f9, hA, hbl⟩ hR (by omega)) (by decide) rfl ?_
        refine r_icmp_le (tgt := 76) dX6_reasonAgainst_71 (by decide) (by (first | omega | assumption | (have hr := hR i i0 (by omega); unfold RwB at hr; omega) | (have hp := cnt_bd (R := R) (b := i) (k := (n : Int)) (by omega); unfold cnt at hp; omega) | (have hq := sz_01 (k := (n : Int)) (by omega) (fun i => bP_01 (R i 5 ≠ 0)); omega))) (by (first | omega | assumption | (have hr := hR i i0 (by omega); unfold RwB at hr; omega) | (have hp := cnt_bd (R := R) (b := i) (k := (n : Int)) (by omega); unfold cnt at hp; omega) | (have hq := sz_01 (k := (n : Int)) (by omega) (fun i => bP_01 (R i 5 ≠ 0)); omega))) (fun c_71 => ?_) (fun c_71 => ?_)
        · refine r_inc1 dX6_reasonAgainst_76 rfl ?_
          refine r_goto (tgt := 45) dX6_reasonAgainst_79 (by decide) ?_
          refine ih (i + 1) (by omega) (by omega) (by omega) (fun b b0 b1 hb => ?_)
          rcases (show b < i ∨ b = i by omega) with q | q
          · exact hM b b0 q hb
          · rw [q] at hb ⊢; first | exact absurd hb c_57 | exact c_71
        · refine r_iconst dX6_reasonAgainst_74 ?_
          exact r_iret dX6_reasonAgainst_75 (ty := .int) rfl rfl ⟨_, rfl, Or.inr (Or.inr (Or.inr ⟨hg, hl, fun z => absurd (z i i0 (by omega) c_57) (by unfold cnt; omega), rfl⟩)), hE⟩
set_option maxRecDepth 100000 in
set_option maxHeartbeats 4000000 in
theorem l_rsn1 (κ : KP) (h : AH) {bl n : Nat} {R : Int → Int → Int} (hn : n ≤ 50) {f9 : Int → Option Nat} (hA : ArF h bl (.object RX1) n (rv f9)) (hbl : ∀ b : Int, 0 ≤ b → b < n → ∃ a, f9 b = some a ∧ BlR κ h a (R b)) (hR : ∀ b : Int, 0 ≤ b → b < n → RwB (R b) b) : ∀ (f : Nat) (i : Int), (n : Int) - i < (f : Int) → (0 ≤ i) → (i ≤ n) → (∀ b, 0 ≤ b → b < i → RRg (R b)) → WW κ mX6_reasonAgainst 4 1 50 (fun v h' => ∃ r, v = some (.int (J r)) ∧ QRR R n r ∧ Ext h h') NoX 2 [some (.ref bl), some (.int (J i))] [] h := by
  intro f
  induction f with
  | zero =>
    intro i hf i0 i1 hM
    exact absurd hf (by omega)
  | succ f ih =>
    intro i hf i0 i1 hM
    refine r_il1 dX6_reasonAgainst_2 ?_
    refine r_al0 dX6_reasonAgainst_3 ?_
    refine r_alenF dX6_reasonAgainst_4 (by assumption) (by decide) (rfl) ?_
    refine r_icmp_ge (tgt := 25) dX6_reasonAgainst_5 (by decide) (by (first | omega | assumption | (have hr := hR i i0 (by omega); unfold RwB at hr; omega) | (have hp := cnt_bd (R := R) (b := i) (k := (n : Int)) (by omega); unfold cnt at hp; omega) | (have hq := sz_01 (k := (n : Int)) (by omega) (fun i => bP_01 (R i 5 ≠ 0)); omega))) (by (first | omega | assumption | (have hr := hR i i0 (by omega); unfold RwB at hr; omega) | (have hp := cnt_bd (R := R) (b := i) (k := (n : Int)) (by omega); unfold cnt at hp; omega) | (have hq := sz_01 (k := (n : Int)) (by omega) (fun i => bP_01 (R i 5 ≠ 0)); omega))) (fun c_5 => ?_) (fun c_5 => ?_)
    · have hg : RgA R n := fun b b0 b1 => hM b b0 (by omega)
      refine r_al0 dX6_reasonAgainst_25 ?_
      refine r_alenF dX6_reasonAgainst_26 (by assumption) (by decide) (rfl) ?_
      refine r_bipush dX6_reasonAgainst_27 (by decide) ?_
      refine r_icmp_gt (tgt := 41) dX6_reasonAgainst_29 (by decide) (by (first | omega | assumption | (have hr := hR i i0 (by omega); unfold RwB at hr; omega) | (have hp := cnt_bd (R := R) (b := i) (k := (n : Int)) (by omega); unfold cnt at hp; omega) | (have hq := sz_01 (k := (n : Int)) (by omega) (fun i => bP_01 (R i 5 ≠ 0)); omega))) (by (first | omega | assumption | (have hr := hR i i0 (by omega); unfold RwB at hr; omega) | (have hp := cnt_bd (R := R) (b := i) (k := (n : Int)) (by omega); unfold cnt at hp; omega) | (have hq := sz_01 (k := (n : Int)) (by omega) (fun i => bP_01 (R i 5 ≠ 0)); omega))) (fun c_29 => ?_) (fun c_29 => ?_)
      · refine r_iconst dX6_reasonAgainst_41 ?_
        exact r_iret dX6_reasonAgainst_42 (ty := .int) rfl rfl ⟨_, rfl, Or.inr (Or.inl ⟨hg, by unfold lvs; omega, rfl⟩), by first | exact Ext.rf | exact hx9⟩
      · refine r_al0 dX6_reasonAgainst_32 ?_
        refine r_callS (As := [.ref bl]) dX6_reasonAgainst_33 s_X6_15 (c_leavesOf κ h (by omega) ⟨f9, hA, hbl⟩ hR) (by decide) rfl rfl (cat_le rfl) (by decide) (by decide) (fun v h9 hq => ?_) (fun _ _ hx => hx.elim)
        obtain ⟨lv, N, lf, rfl, l0, rfl, hL⟩ := hq
        have hN := hL.2.2.2
        have hx9 : Ext h (upA h lv (false, .inl (.int, N, iv lf))) := Ext.up l0
        refine r_alenF dX6_reasonAgainst_36 upA_same (by decide) rfl ?_
        refine r_iconst dX6_reasonAgainst_37 ?_
        refine r_icmp_le (tgt := 43) dX6_reasonAgainst_38 (by decide) (by (first | omega | assumption | (have hr := hR i i0 (by omega); unfold RwB at hr; omega) | (have hp := cnt_bd (R := R) (b := i) (k := (n : Int)) (by omega); unfold cnt at hp; omega) | (have hq := sz_01 (k := (n : Int)) (by omega) (fun i => bP_01 (R i 5 ≠ 0)); omega))) (by (first | omega | assumption | (have hr := hR i i0 (by omega); unfold RwB at hr; omega) | (have hp := cnt_bd (R := R) (b := i) (k := (n : Int)) (by omega); unfold cnt at hp; omega) | (have hq := sz_01 (k := (n : Int)) (by omega) (fun i => bP_01 (R i 5 ≠ 0)); omega))) (fun c_38 => ?_) (fun c_38 => ?_)
        · refine r_iconst dX6_reasonAgainst_43 ?_
          refine r_is1 dX6_reasonAgainst_44 rfl ?_
          exact l_rsn2 κ _ (by omega) (upo l0 hA) (fun b b0 b1 => (hbl b b0 b1).imp fun a x => ⟨x.1, x.2.fx hx9.fx⟩) hR hx9 hg (by unfold lvs; omega) _ _ (n + 1) 0 (by omega) (by omega) (by omega) (fun b b0 b1 => by omega)
        · refine r_iconst dX6_reasonAgainst_41 ?_
          exact r_iret dX6_reasonAgainst_42 (ty := .int) rfl rfl ⟨_, rfl, Or.inr (Or.inl ⟨hg, by unfold lvs; omega, rfl⟩), by first | exact Ext.rf | exact hx9⟩
    · refine r_al0 dX6_reasonAgainst_8 ?_
      refine r_il1 dX6_reasonAgainst_9 ?_
      obtain ⟨a_10, ha_10, hb_10⟩ := hbl i (by omega) (by omega)
      obtain ⟨q_10, s_10, hO_10, hS_10⟩ := id hb_10
      refine r_aaF dX6_reasonAgainst_10 hA (by decide) ha_10 (by omega) (by omega) (by omega) ?_
      refine r_callVP0 dX6_reasonAgainst_11 v_X6_53 hO_10 (c_inRg κ h hb_10 (by have hr := hR i i0 (by omega); unfold RwB at hr; omega) (by have hr := hR i i0 (by omega); unfold RwB at hr; omega) (by have hr := hR i i0 (by omega); unfold RwB at hr; omega)) (by decide) rfl ?_
      refine r_ifT_ne (tgt := 19) dX6_reasonAgainst_14 (by decide) (fun c_14 => ?_) (fun c_14 => ?_)
      · refine r_inc1 dX6_reasonAgainst_19 rfl ?_
        refine r_goto (tgt := 2) dX6_reasonAgainst_22 (by decide) ?_
        refine ih (i + 1) (by omega) (by omega) (by omega) (fun b b0 b1 => ?_)
        rcases (show b < i ∨ b = i by omega) with q | q
        · exact hM b b0 q
        · rw [q]; exact c_14
      · refine r_iconst dX6_reasonAgainst_17 ?_
        exact r_iret dX6_reasonAgainst_18 (ty := .int) rfl rfl ⟨_, rfl, Or.inl ⟨fun z => c_14 (z i i0 (by omega)), rfl⟩, Ext.rf⟩
set_option maxRecDepth 100000 in
set_option maxHeartbeats 4000000 in
theorem c_reason (κ : KP) (h : AH) {bl n : Nat} {R : Int → Int → Int} (hn : n ≤ 50) (hB : BlsAt κ h bl n R) (hR : ∀ b : Int, 0 ≤ b → b < n → RwB (R b) b) : MM κ mX6_reasonAgainst 4 1 50 [.ref bl] h (fun v h' => ∃ r, v = some (.int (J r)) ∧ QRR R n r ∧ Ext h h') NoX := by
  refine mm_of (L := [some _, none]) (by decide +kernel) rfl rfl (Nat.le_of_ble_eq_true rfl) rfl ?_
  obtain ⟨f9, hA, hbl⟩ := id hB
  refine r_iconst dX6_reasonAgainst_0 ?_
  refine r_is1 dX6_reasonAgainst_1 rfl ?_
  exact l_rsn1 κ h hn hA hbl hR (n + 1) 0 (by omega) (by omega) (by omega) (fun b b0 b1 => by omega)
set_option maxRecDepth 100000 in
set_option maxHeartbeats 4000000 in
theorem c_partCount (κ : KP) (h : AH) {p n : Nat} {R : Int → Int → Int} {bl lv ms mr N : Nat} {lf fm fr : Int → Int} (hn : n ≤ 8) (hV : PrV κ h p n R bl lv ms mr N lf fm fr) (hR : ∀ b : Int, 0 ≤ b → b < n → RwB (R b) b) {b : Int} (rb : rng b) : PM κ mX6_partCount 2 [.ref p, .int (J b)] h (.int (J (cnt R b n))) := by
  refine mm_of (L := [some _, some _]) (by decide +kernel) rfl rfl (Nat.le_of_ble_eq_true rfl) rfl ?_
  have hV0 := hV; obtain ⟨hO, hB, hlv, hL, hN, hms, hmr, hS⟩ := hV
  refine r_al0 dX6_partCount_0 ?_
  refine r_getfield dX6_partCount_1 f_X6_9 (by assumption) rfl ?_
  refine r_il1 dX6_partCount_4 ?_
  refine r_callSP2 dX6_partCount_5 s_X6_65 (c_partsIn κ h (by omega) hB hR rb) (by decide) rfl ?_
  refine r_iret dX6_partCount_8 (ty := .int) rfl (rfl) ?_
  exact ⟨rfl, rfl⟩
set_option maxRecDepth 100000 in
set_option maxHeartbeats 4000000 in
theorem c_rootCount (κ : KP) (h : AH) {p n : Nat} {R : Int → Int → Int} {bl lv ms mr N : Nat} {lf fm fr : Int → Int} (hn : n ≤ 8) (hV : PrV κ h p n R bl lv ms mr N lf fm fr) (hR : ∀ b : Int, 0 ≤ b → b < n → RwB (R b) b) : PM κ mX6_rootCount 2 [.ref p] h (.int (J (cnt R (-1) n))) := by
  refine mm_of (L := [some _]) (by decide +kernel) rfl rfl (Nat.le_of_ble_eq_true rfl) rfl ?_
  have hV0 := hV; obtain ⟨hO, hB, hlv, hL, hN, hms, hmr, hS⟩ := hV
  refine r_al0 dX6_rootCount_0 ?_
  refine r_getfield dX6_rootCount_1 f_X6_27 (by assumption) rfl ?_
  refine r_callSP1 dX6_rootCount_4 s_X6_47 (c_bitCount κ h) (by decide) rfl ?_
  refine r_iret dX6_rootCount_7 (ty := .int) rfl rfl ⟨?_, rfl⟩
  rw [cn_n (n := n) (by omega) (by omega) (fun i hi => (bk_i.mp hi).2.1)]
  refine congrArg (fun z => some (Value.int (J z))) (sz_cong fun i i0 i1 => ?_)
  show bI (bk _ _ _) = bP _
  refine congrArg bI (tb_congr ⟨fun q => q.2.2, fun q => ⟨i0, i1, q⟩⟩)
set_option maxRecDepth 100000 in
set_option maxHeartbeats 4000000 in
theorem c_metSetFor (κ : KP) (h : AH) {p n : Nat} {R : Int → Int → Int} {bl lv ms mr N : Nat} {lf fm fr : Int → Int} (hn : n ≤ 8) (hV : PrV κ h p n R bl lv ms mr N lf fm fr) (hR : ∀ b : Int, 0 ≤ b → b < n → RwB (R b) b) {y : Int} (y0 : 0 ≤ y) (y1 : y < (2 ^ N : Nat)) : PM κ mX6_metSetFor 1 [.ref p, .int (J y)] h (.int (J (fm y))) := by
  refine mm_of (L := [some _, some _]) (by decide +kernel) rfl rfl (Nat.le_of_ble_eq_true rfl) rfl ?_
  have hV0 := hV; obtain ⟨hO, hB, hlv, hL, hN, hms, hmr, hS⟩ := hV
  have h2 := two4 hN
  refine r_il1 dX6_metSetFor_0 ?_
  refine r_if_lt (tgt := 22) dX6_metSetFor_1 (by decide) (by (first | omega)) (fun c_1 => ?_) (fun c_1 => ?_)
  · exact absurd c_1 (by omega)
  · refine r_il1 dX6_metSetFor_4 ?_
    refine r_al0 dX6_metSetFor_5 ?_
    refine r_getfield dX6_metSetFor_6 f_X6_37 (by first | exact hO | exact hms) rfl ?_
    refine r_alenF dX6_metSetFor_9 (by first | exact hO | exact hms) (by decide) (rfl) ?_
    refine r_icmp_ge (tgt := 22) dX6_metSetFor_10 (by decide) (by (first | omega)) (by (first | omega)) (fun c_10 => ?_) (fun c_10 => ?_)
    · exact absurd c_10 (by omega)
    · refine r_al0 dX6_metSetFor_13 ?_
      refine r_getfield dX6_metSetFor_14 f_X6_37 (by first | exact hO | exact hms) rfl ?_
      refine r_il1 dX6_metSetFor_17 ?_
      refine r_iaJ dX6_metSetFor_18 hms (by omega) (by omega) (by omega) ?_
      refine r_goto (tgt := 23) dX6_metSetFor_19 (by decide) ?_
      exact r_iret dX6_metSetFor_23 (ty := .int) rfl rfl ⟨rfl, rfl⟩
set_option maxRecDepth 100000 in
set_option maxHeartbeats 4000000 in
theorem c_metRootsFor (κ : KP) (h : AH) {p n : Nat} {R : Int → Int → Int} {bl lv ms mr N : Nat} {lf fm fr : Int → Int} (hn : n ≤ 8) (hV : PrV κ h p n R bl lv ms mr N lf fm fr) (hR : ∀ b : Int, 0 ≤ b → b < n → RwB (R b) b) {y : Int} (y0 : 0 ≤ y) (y1 : y < (2 ^ N : Nat)) : PM κ mX6_metRootsFor 1 [.ref p, .int (J y)] h (.int (J (fr y))) := by
  refine mm_of (L := [some _, some _]) (by decide +kernel) rfl rfl (Nat.le_of_ble_eq_true rfl) rfl ?_
  have hV0 := hV; obtain ⟨hO, hB, hlv, hL, hN, hms, hmr, hS⟩ := hV
  have h2 := two4 hN
  refine r_il1 dX6_metRootsFor_0 ?_
  refine r_if_lt (tgt := 22) dX6_metRootsFor_1 (by decide) (by (first | omega)) (fun c_1 => ?_) (fun c_1 => ?_)
  · exact absurd c_1 (by omega)
  · refine r_il1 dX6_metRootsFor_4 ?_
    refine r_al0 dX6_metRootsFor_5 ?_
    refine r_getfield dX6_metRootsFor_6 f_X6_40 (by first | exact hO | exact hmr) rfl ?_
    refine r_alenF dX6_metRootsFor_9 (by first | exact hO | exact hmr) (by decide) (rfl) ?_
    refine r_icmp_ge (tgt := 22) dX6_metRootsFor_10 (by decide) (by (first | omega)) (by (first | omega)) (fun c_10 => ?_) (fun c_10 => ?_)
    · exact absurd c_10 (by omega)
    · refine r_al0 dX6_metRootsFor_13 ?_
      refine r_getfield dX6_metRootsFor_14 f_X6_40 (by first | exact hO | exact hmr) rfl ?_
      refine r_il1 dX6_metRootsFor_17 ?_
      refine r_iaJ dX6_metRootsFor_18 hmr (by omega) (by omega) (by omega) ?_
      refine r_goto (tgt := 23) dX6_metRootsFor_19 (by decide) ?_
      exact r_iret dX6_metRootsFor_23 (ty := .int) rfl rfl ⟨rfl, rfl⟩
set_option maxRecDepth 100000 in
set_option maxHeartbeats 4000000 in
theorem l_partOf (κ : KP) (h : AH) {bl n : Nat} {R : Int → Int → Int} (hn : n ≤ 50) {f9 : Int → Option Nat} (hA : ArF h bl (.object RX1) n (rv f9)) (hbl : ∀ b : Int, 0 ≤ b → b < n → ∃ a, f9 b = some a ∧ BlR κ h a (R b)) (hR : ∀ b : Int, 0 ≤ b → b < n → RwB (R b) b) {p : Nat} {w1 w2 w3 w4 : Value} (hO : ObF h p 10 [.ref bl, w1, w2, w3, w4]) {b x : Int} (rb : rng b) (rx : rng x) : ∀ (f : Nat) (i : Int), (n : Int) - i < (f : Int) → (0 ≤ i) → (i ≤ n) → (0 ≤ x → cnt R b i ≤ x) → WW κ mX6_partOf 1 0 0 (fun w h' => ∃ r, w = some (.int (J r)) ∧ rng r ∧ ((r = -1 ∧ ¬ (0 ≤ x ∧ x < cnt R b n)) ∨ (0 ≤ r ∧ r < n ∧ R r 1 = b ∧ cnt R b r = x)) ∧ h' = h) NoX 5 [some (.ref p), some (.int (J b)), some (.int (J x)), some (.int (J (cnt R b i))), some (.int (J i))] [] h := by
  intro f
  induction f with
  | zero =>
    intro i hf i0 i1 hI
    exact absurd hf (by omega)
  | succ f ih =>
    intro i hf i0 i1 hI
    refine r_il4 dX6_partOf_5 ?_
    refine r_al0 dX6_partOf_7 ?_
    refine r_getfield dX6_partOf_8 f_X6_9 hO rfl ?_
    refine r_alenF dX6_partOf_11 hA (by decide) rfl ?_
    refine r_icmp_ge (tgt := 46) dX6_partOf_12 (by decide) (by (first | omega | assumption | (have hp := cnt_bd (R := R) (b := b) i0; omega) | (have hr := hR i i0 (by omega); unfold RwB at hr; omega))) (by (first | omega | assumption | (have hp := cnt_bd (R := R) (b := b) i0; omega) | (have hr := hR i i0 (by omega); unfold RwB at hr; omega))) (fun c_12 => ?_) (fun c_12 => ?_)
    · refine r_iconst dX6_partOf_46 ?_
      refine r_iret dX6_partOf_47 (ty := .int) rfl rfl ⟨_, rfl, by omega, ?_, rfl⟩
      have e : i = n := by omega
      rw [e] at hI
      exact Or.inl ⟨rfl, fun q => by have := hI q.1; omega⟩
    · refine r_al0 dX6_partOf_15 ?_
      refine r_getfield dX6_partOf_16 f_X6_9 hO rfl ?_
      refine r_il4 dX6_partOf_19 ?_
      obtain ⟨a_21, ha_21, hb_21⟩ := hbl i (by omega) (by omega)
      obtain ⟨q_21, s_21, hO_21, hS_21⟩ := id hb_21
      refine r_aaF dX6_partOf_21 hA (by decide) ha_21 (by omega) (by omega) (by omega) ?_
      refine r_getfield dX6_partOf_22 f_X6_69 (by assumption) rfl ?_
      refine r_il1 dX6_partOf_25 ?_
      refine r_icmp_ne (tgt := 40) dX6_partOf_26 (by decide) (by (first | omega | assumption | (have hp := cnt_bd (R := R) (b := b) i0; omega) | (have hr := hR i i0 (by omega); unfold RwB at hr; omega))) (by (first | omega | assumption | (have hp := cnt_bd (R := R) (b := b) i0; omega) | (have hr := hR i i0 (by omega); unfold RwB at hr; omega))) (fun c_26 => ?_) (fun c_26 => ?_)
      · refine r_inc4 dX6_partOf_40 rfl ?_
        refine r_goto (tgt := 5) dX6_partOf_43 (by decide) ?_
        have e9 := cnt_1 (R := R) (b := b) i0
        first | rw [bP_t c_26] at e9 | (rw [bP_f c_26, Int.add_zero] at e9)
        rw [← e9]
        exact ih (i + 1) (by omega) (by omega) (by omega) (fun q => by have := hI q; omega)
      · refine r_il3 dX6_partOf_29 ?_
        refine r_il2 dX6_partOf_30 ?_
        refine r_icmp_ne (tgt := 37) dX6_partOf_31 (by decide) (by (first | omega | assumption | (have hp := cnt_bd (R := R) (b := b) i0; omega) | (have hr := hR i i0 (by omega); unfold RwB at hr; omega))) (by (first | omega | assumption | (have hp := cnt_bd (R := R) (b := b) i0; omega) | (have hr := hR i i0 (by omega); unfold RwB at hr; omega))) (fun c_31 => ?_) (fun c_31 => ?_)
        · refine r_inc3 dX6_partOf_37 rfl ?_
          refine r_inc4 dX6_partOf_40 rfl ?_
          refine r_goto (tgt := 5) dX6_partOf_43 (by decide) ?_
          have e9 := cnt_1 (R := R) (b := b) i0
          first | rw [bP_t c_26] at e9 | (rw [bP_f c_26, Int.add_zero] at e9)
          rw [← e9]
          exact ih (i + 1) (by omega) (by omega) (by omega) (fun q => by have := hI q; omega)
        · refine r_il4 dX6_partOf_34 ?_
          refine r_iret dX6_partOf_36 (ty := .int) rfl rfl ⟨_, rfl, by omega, ?_, rfl⟩
          exact Or.inr ⟨i0, by omega, c_26, c_31⟩
set_option maxRecDepth 100000 in
set_option maxHeartbeats 4000000 in
theorem c_partOf (κ : KP) (h : AH) {p n : Nat} {R : Int → Int → Int} {bl lv ms mr N : Nat} {lf fm fr : Int → Int} (hn : n ≤ 8) (hV : PrV κ h p n R bl lv ms mr N lf fm fr) (hR : ∀ b : Int, 0 ≤ b → b < n → RwB (R b) b) {b x : Int} (rb : rng b) (rx : rng x) : QM κ mX6_partOf 1 [.ref p, .int (J b), .int (J x)] h (fun r => (r = -1 ∧ ¬ (0 ≤ x ∧ x < cnt R b n)) ∨ (0 ≤ r ∧ r < n ∧ R r 1 = b ∧ cnt R b r = x)) := by
  refine mm_of (L := [some _, some _, some _, none, none]) (by decide +kernel) rfl rfl (Nat.le_of_ble_eq_true rfl) rfl ?_
  have hV0 := hV; obtain ⟨hO, hB, hlv, hL, hN, hms, hmr, hS⟩ := hV
  obtain ⟨f9, hA, hbl⟩ := id hB
  refine r_iconst dX6_partOf_0 ?_
  refine r_is3 dX6_partOf_1 rfl ?_
  refine r_iconst dX6_partOf_2 ?_
  refine r_is4 dX6_partOf_3 rfl ?_
  exact l_partOf κ h (by omega) hA hbl hR hO rb rx (n + 1) 0 (by omega) (by omega) (by omega) (fun q => q)
theorem QWt_iff {g : Int → Int} {a b c : Int} (h : a = b) : QWt g a c ↔ QWt g b c := by rw [h]
set_option maxRecDepth 100000 in
set_option maxHeartbeats 4000000 in
theorem l_within (κ : KP) (h : AH) {bl n : Nat} {g : Int → Int} (hW : WF g) (hn3 : (n : Int) = g 3) (hn : n ≤ 8) {f9 : Int → Option Nat} (hA : ArF h bl (.object RX1) n (rv f9)) (hbl : ∀ b : Int, 0 ≤ b → b < n → ∃ a, f9 b = some a ∧ BlR κ h a (rwg g b)) (hR : ∀ b : Int, 0 ≤ b → b < n → RwB (rwg g b) b) {p : Nat} {w1 w2 w3 w4 : Value} (hO : ObF h p 10 [.ref bl, w1, w2, w3, w4]) {k9 o : Int} (o0 : 0 ≤ o) (o1 : o < n) : ∀ (f : Nat) (i : Int) (s : Int), 4 - s < (f : Int) → (0 ≤ s) → (s ≤ 4) → (-1 ≤ i) → (i < n) → (0 ≤ i → g (60 + 12 * i + 11) ≤ 3 - s) → (QWt g i o ↔ QWt g k9 o) → WW κ mX6_isWithin 1 0 0 (fun w h' => w = some (.int (J (bI (tb (QWt g k9 o))))) ∧ h' = h) NoX 5 [some (.ref p), some (.int (J k9)), some (.int (J o)), some (.int (J i)), some (.int (J s))] [] h := by
  intro f
  induction f with
  | zero =>
    intro i s hf s0 s1 i0 i1 hD hQ
    exact absurd hf (by omega)
  | succ f ih =>
    intro i s hf s0 s1 i0 i1 hD hQ
    refine r_il4 dX6_isWithin_5 ?_
    refine r_iconst dX6_isWithin_7 ?_
    refine r_icmp_gt (tgt := 47) dX6_isWithin_8 (by decide) (by (first | omega | assumption)) (by (first | omega | assumption)) (fun c_8 => ?_) (fun c_8 => ?_)
    · refine r_iconst dX6_isWithin_47 ?_
      have hi : i < 0 := by
        by_cases q : i < 0
        · exact q
        · have hb := hW.b (b := i) (by omega) (by omega)
          have := hD (by omega)
          unfold WFb at hb
          omega
      refine r_iret dX6_isWithin_48 (ty := .boolean) rfl (by decide) ⟨?_, rfl⟩
      exact ret_f (fun q => QWt.neg hi o0 (hQ.mpr q))
    · refine r_il3 dX6_isWithin_11 ?_
      refine r_if_lt (tgt := 47) dX6_isWithin_12 (by decide) (by (first | omega | assumption)) (fun c_12 => ?_) (fun c_12 => ?_)
      · refine r_iconst dX6_isWithin_47 ?_
        have hi : i < 0 := by
          by_cases q : i < 0
          · exact q
          · have hb := hW.b (b := i) (by omega) (by omega)
            have := hD (by omega)
            unfold WFb at hb
            omega
        refine r_iret dX6_isWithin_48 (ty := .boolean) rfl (by decide) ⟨?_, rfl⟩
        exact ret_f (fun q => QWt.neg hi o0 (hQ.mpr q))
      · refine r_il3 dX6_isWithin_15 ?_
        refine r_al0 dX6_isWithin_16 ?_
        refine r_getfield dX6_isWithin_17 f_X6_9 hO rfl ?_
        refine r_alenF dX6_isWithin_20 hA (by decide) rfl ?_
        refine r_icmp_ge (tgt := 47) dX6_isWithin_21 (by decide) (by (first | omega | assumption)) (by (first | omega | assumption)) (fun c_21 => ?_) (fun c_21 => ?_)
        · refine r_iconst dX6_isWithin_47 ?_
          have hi : i < 0 := by
            by_cases q : i < 0
            · exact q
            · have hb := hW.b (b := i) (by omega) (by omega)
              have := hD (by omega)
              unfold WFb at hb
              omega
          refine r_iret dX6_isWithin_48 (ty := .boolean) rfl (by decide) ⟨?_, rfl⟩
          exact ret_f (fun q => QWt.neg hi o0 (hQ.mpr q))
        · refine r_il3 dX6_isWithin_24 ?_
          refine r_il2 dX6_isWithin_25 ?_
          refine r_icmp_ne (tgt := 31) dX6_isWithin_26 (by decide) (by (first | omega | assumption)) (by (first | omega | assumption)) (fun c_26 => ?_) (fun c_26 => ?_)
          · have hp : -1 ≤ g (60 + 12 * i + 1) ∧ (0 ≤ g (60 + 12 * i + 1) → g (60 + 12 * g (60 + 12 * i + 1) + 11) ≤ 3 - (s + 1)) := by
              have hb := hW.b (b := i) (by omega) (by omega)
              have hd := hD (by omega)
              unfold WFb at hb
              exact ⟨hb.2.1.1, fun q => by have := (hb.2.2.2.2.2.2.2.2.2.1 q).2; omega⟩
            have hp3 : g (60 + 12 * i + 1) < n := by
              have hb := hW.b (b := i) (by omega) (by omega)
              unfold WFb at hb
              have := hb.2.1.2
              omega
            refine r_al0 dX6_isWithin_31 ?_
            refine r_getfield dX6_isWithin_32 f_X6_9 hO rfl ?_
            refine r_il3 dX6_isWithin_35 ?_
            obtain ⟨a_36, ha_36, hb_36⟩ := hbl i (by omega) (by omega)
            obtain ⟨q_36, s_36, hO_36, hS_36⟩ := id hb_36
            refine r_aaF dX6_isWithin_36 hA (by decide) ha_36 (by omega) (by omega) (by omega) ?_
            refine r_getfield dX6_isWithin_37 f_X6_69 (by assumption) rfl ?_
            refine r_is3 dX6_isWithin_40 rfl ?_
            refine r_inc4 dX6_isWithin_41 rfl ?_
            refine r_goto (tgt := 5) dX6_isWithin_44 (by decide) ?_
            exact ih _ (s + 1) (by omega) (by omega) (by omega) hp.1 (by omega) (fun q => hp.2 q) ((QWt.step (by omega) c_26).symm.trans hQ)
          · refine r_iconst dX6_isWithin_29 ?_
            refine r_iret dX6_isWithin_30 (ty := .boolean) rfl (by decide) ⟨?_, rfl⟩
            exact ret_t (hQ.mp (c_26 ▸ QWt.rf))
set_option maxRecDepth 100000 in
set_option maxHeartbeats 4000000 in
theorem c_pwithin (κ : KP) (h : AH) {p n : Nat} {g : Int → Int} (hW : WF g) (hn3 : (n : Int) = g 3) {bl lv ms mr N : Nat} {lf fm fr : Int → Int} (hn : n ≤ 8) (hV : PrV κ h p n (rwg g) bl lv ms mr N lf fm fr) {k o : Int} (k0 : -1 ≤ k) (k1 : k < n) (o0 : 0 ≤ o) (o1 : o < n) : PM κ mX6_isWithin 1 [.ref p, .int (J k), .int (J o)] h (.int (J (bI (tb (QWt g k o))))) := by
  refine mm_of (L := [some _, some _, some _, none, none]) (by decide +kernel) rfl rfl (Nat.le_of_ble_eq_true rfl) rfl ?_
  have hV0 := hV; obtain ⟨hO, hB, hlv, hL, hN, hms, hmr, hS⟩ := hV
  obtain ⟨f9, hA, hbl⟩ := id hB
  refine r_il1 dX6_isWithin_0 ?_
  refine r_is3 dX6_isWithin_1 rfl ?_
  refine r_iconst dX6_isWithin_2 ?_
  refine r_is4 dX6_isWithin_3 rfl ?_
  exact l_within κ h hW hn3 hn hA hbl (hW.rw hn3) hO o0 o1 5 k 0 (by omega) (by omega) (by omega) k0 k1 (fun q => by have hb := hW.b q (by omega); unfold WFb at hb; omega) Iff.rfl
