/-! ===== the best use as an object ===== -/
abbrev ufields (B : Nat → Nat) (S : CST) (u : Nat) : List Value := [va_rf (rz (S u 0)), .int (J (S u 1)), .int (J (S u 2)), .ref (B (4 * u + 0)), .ref (B (4 * u + 1)), .ref (B (4 * u + 2)), .ref (B (4 * u + 3)), .int (J (S u 7)), .int (J (S u 8)), .int (J (S u 9))]
theorem ub {u : Nat} (hu : u = 3 ∨ u = 4) : u ∈ bids := by rcases hu with rfl | rfl <;> decide
theorem bc_u {B : Nat → Nat} {S : CST} {u : Nat} (hu : u = 3 ∨ u = 4) : bcell B S u = (true, .inr (4, ufields B S u)) := by rcases hu with rfl | rfl <;> rfl
theorem ub0 {u : Nat} (hu : u = 3 ∨ u = 4) : 4 * u + 0 ∈ bids := by rcases hu with rfl | rfl <;> decide
theorem bc_0 {B : Nat → Nat} {S : CST} {u : Nat} (hu : u = 3 ∨ u = 4) : bcell B S (4 * u + 0) = (true, .inl (.int, 6, iv (S (4 * u + 0)))) := by rcases hu with rfl | rfl <;> rfl
theorem ub1 {u : Nat} (hu : u = 3 ∨ u = 4) : 4 * u + 1 ∈ bids := by rcases hu with rfl | rfl <;> decide
theorem bc_1 {B : Nat → Nat} {S : CST} {u : Nat} (hu : u = 3 ∨ u = 4) : bcell B S (4 * u + 1) = (true, .inl (.int, 6, iv (S (4 * u + 1)))) := by rcases hu with rfl | rfl <;> rfl
theorem ub2 {u : Nat} (hu : u = 3 ∨ u = 4) : 4 * u + 2 ∈ bids := by rcases hu with rfl | rfl <;> decide
theorem bc_2 {B : Nat → Nat} {S : CST} {u : Nat} (hu : u = 3 ∨ u = 4) : bcell B S (4 * u + 2) = (true, .inl (.int, 4, iv (S (4 * u + 2)))) := by rcases hu with rfl | rfl <;> rfl
theorem ub3 {u : Nat} (hu : u = 3 ∨ u = 4) : 4 * u + 3 ∈ bids := by rcases hu with rfl | rfl <;> decide
theorem bc_3 {B : Nat → Nat} {S : CST} {u : Nat} (hu : u = 3 ∨ u = 4) : bcell B S (4 * u + 3) = (true, .inl (.int, 6, iv (S (4 * u + 3)))) := by rcases hu with rfl | rfl <;> rfl
theorem bp_1 {B : Nat → Nat} {S : CST} {u : Nat} {v : Int} (hu : u = 3 ∨ u = 4) : bcell B (updm S u 1 v) u = (true, .inr (4, (ufields B S u).set 1 (.int (J v)))) := by rcases hu with rfl | rfl <;> rfl
theorem bp_2 {B : Nat → Nat} {S : CST} {u : Nat} {v : Int} (hu : u = 3 ∨ u = 4) : bcell B (updm S u 2 v) u = (true, .inr (4, (ufields B S u).set 2 (.int (J v)))) := by rcases hu with rfl | rfl <;> rfl
theorem bp_7 {B : Nat → Nat} {S : CST} {u : Nat} {v : Int} (hu : u = 3 ∨ u = 4) : bcell B (updm S u 7 v) u = (true, .inr (4, (ufields B S u).set 7 (.int (J v)))) := by rcases hu with rfl | rfl <;> rfl
theorem bp_8 {B : Nat → Nat} {S : CST} {u : Nat} {v : Int} (hu : u = 3 ∨ u = 4) : bcell B (updm S u 8 v) u = (true, .inr (4, (ufields B S u).set 8 (.int (J v)))) := by rcases hu with rfl | rfl <;> rfl
theorem bp_9 {B : Nat → Nat} {S : CST} {u : Nat} {v : Int} (hu : u = 3 ∨ u = 4) : bcell B (updm S u 9 v) u = (true, .inr (4, (ufields B S u).set 9 (.int (J v)))) := by rcases hu with rfl | rfl <;> rfl
theorem bp_0 {B : Nat → Nat} {S : CST} {u q : Nat} (hu : u = 3 ∨ u = 4) : bcell B (updm S u 0 (q : Int)) u = (true, .inr (4, (ufields B S u).set 0 (.ref q))) := by
  rw [bc_u hu]
  unfold ufields
  simp only [List.set_cons_zero, updm_app, true_and, if_true, rz_c]
  rfl
theorem u_desk {κ : KP} {mi : MI} {d k n : Nat} {Q : Option Value → AH → Prop} {E : String → AH → Prop} {pc : Nat} {L : List (Option Value)} {st : List Value} {B : Nat → Nat} {S : CST} {h : AH} {u q idx : Nat} (hd : decode mi.2.1 pc = .ok (.getfield idx, 3)) (hf : FL mi.1.cls idx 4 0) (hB : BA B) (hu : u = 3 ∨ u = 4) (hs : S u 0 = (q : Int)) (kk : WW κ mi d k n Q E (pc + 3) L (.ref q :: st) (cset B S h)) : WW κ mi d k n Q E pc L (.ref (B u) :: st) (cset B S h) :=
  b_get hd hf hB (ub hu) (bc_u hu) (v := .ref q) (by
    show some (va_rf (rz (S u 0))) = _
    rw [hs, rz_c]
    rfl) kk
set_option maxRecDepth 100000 in
set_option maxHeartbeats 4000000 in
theorem l_lvFor (κ : KP) {B : Nat → Nat} {S0 S : CST} (h : AH) (hB : BA B) {u q cr eq p nc ne nb bl lv ms mr N : Nat} {g lf fm fr : Int → Int} (hu : u = 3 ∨ u = 4) (hW : WF g) (hD : DkV κ (cset B S0 h) q g cr eq p nc ne nb) (hV : PrV κ (cset B S0 h) p nb (rwg g) bl lv ms mr N lf fm fr) (s0 : S u 0 = (q : Int)) (s1 : S u 1 = (nc : Int)) (s2 : S u 2 = (N : Int)) {ca : Nat} {c : Int} (hx : CrR (cset B S h) ca (crg g c)) (hwc : WFc g c) : ∀ (f : Nat) (l : Int), (N : Int) - l < (f : Int) → 0 ≤ l → l ≤ N → WW κ mX0_leavesFor 7 0 0 (fun w h' => w = some (.int (J (bs (bk (fun l => QTk g (lf l) c) N)))) ∧ h' = cset B S h) NoX 4 [some (.ref (B u)), some (.ref ca), some (.int (J (bs (bk (fun l => QTk g (lf l) c) l)))), some (.int (J l))] [] (cset B S h) := by
  have hDf := hD.fx (cfxF (S' := S) hB)
  have hVf := hV.fx (cfxF (S' := S) hB)
  obtain ⟨hO, hC, hE, hP, e1, e2, e3⟩ := id hD
  obtain ⟨hOp, hBl, hlv, hL, hN, hms, hmr, hS⟩ := id hV
  obtain ⟨fc, hAc, hbc⟩ := id hC
  obtain ⟨fb, hAb, hbb⟩ := id hBl
  have n0 := hW.n
  have hw := hwc
  unfold WFc QLow QCap at hw
  intro f
  induction f with
  | zero =>
    intro l hf l0 l1
    exact absurd hf (by omega)
  | succ f ih =>
    intro l hf l0 l1
    refine r_il3 dX0_leavesFor_4 ?_
    refine r_al0 dX0_leavesFor_5 ?_
    refine b_get dX0_leavesFor_6 f_X0_15 hB (ub hu) (bc_u hu) rfl ?_
    refine r_icmp_ge (tgt := 61) dX0_leavesFor_9 (by decide) (by (first | omega | assumption)) (by (first | omega | assumption)) (fun c_9 => ?_) (fun c_9 => ?_)
    · refine r_il2 dX0_leavesFor_61 ?_
      rw [show l = (N : Int) by omega]
      exact r_iret dX0_leavesFor_62 (ty := .int) rfl rfl ⟨rfl, rfl⟩
    · refine r_al0 dX0_leavesFor_12 ?_
      refine u_desk dX0_leavesFor_13 f_X0_40 hB hu (by assumption) ?_
      refine r_getfield dX0_leavesFor_16 f_X0_56 (by first | exact cfx hB hO | exact cfx hB hOp | exact cfx hB hlv | exact cfx hB hAc | exact cfx hB hAb | (refine cfx hB ?_; assumption) | assumption) rfl ?_
      refine r_getfield dX0_leavesFor_19 f_X0_107 (by first | exact cfx hB hO | exact cfx hB hOp | exact cfx hB hlv | exact cfx hB hAc | exact cfx hB hAb | (refine cfx hB ?_; assumption) | assumption) rfl ?_
      refine r_al0 dX0_leavesFor_22 ?_
      refine u_desk dX0_leavesFor_23 f_X0_40 hB hu (by assumption) ?_
      refine r_getfield dX0_leavesFor_26 f_X0_56 (by first | exact cfx hB hO | exact cfx hB hOp | exact cfx hB hlv | exact cfx hB hAc | exact cfx hB hAb | (refine cfx hB ?_; assumption) | assumption) rfl ?_
      refine r_getfield dX0_leavesFor_29 f_X0_60 (by first | exact cfx hB hO | exact cfx hB hOp | exact cfx hB hlv | exact cfx hB hAc | exact cfx hB hAb | (refine cfx hB ?_; assumption) | assumption) rfl ?_
      refine r_il3 dX0_leavesFor_32 ?_
      refine r_iaJ dX0_leavesFor_33 (cfx hB hlv) (by omega) (by omega) (by omega) ?_
      have hl := (hL.1 l l0 (by omega)).1
      obtain ⟨a_34, ha_34, hb_34⟩ := hbb (lf l) hl.1 hl.2
      have hbf := BlR.fx (cfxF (S' := S) hB) hb_34
      obtain ⟨-, s_34, hO_34, -⟩ := id hbf
      refine r_aaF dX0_leavesFor_34 (cfx hB hAb) (by decide) ha_34 (by omega) (by omega) (by omega) ?_
      refine r_al1 dX0_leavesFor_35 ?_
      refine r_al0 dX0_leavesFor_36 ?_
      refine u_desk dX0_leavesFor_37 f_X0_40 hB hu (by assumption) ?_
      refine r_getfield dX0_leavesFor_40 f_X0_111 (by first | exact cfx hB hO | exact cfx hB hOp | exact cfx hB hlv | exact cfx hB hAc | exact cfx hB hAb | (refine cfx hB ?_; assumption) | assumption) rfl ?_
      refine r_callVP2 dX0_leavesFor_43 v_X0_114 hO_34 (c_btakes κ _ hbf hx (by simp only [crg]; omega) (by simp only [crg]; omega) (by simp only [crg]; omega) (by have hr := hW.rw e3 (lf l) hl.1 hl.2; simp only [RwB, rwg] at hr ⊢; omega) (by omega) (by have hr := hW.rw e3 (lf l) hl.1 hl.2; simp only [RwB, rwg, crg] at hr ⊢; omega)) (by decide) rfl ?_
      rw [← tb_congr (QTk_iff hW hl.1 (by omega))]
      refine r_ifT_eq (tgt := 55) dX0_leavesFor_46 (by decide) (fun c_46 => ?_) (fun c_46 => ?_)
      · refine r_inc3 dX0_leavesFor_55 rfl ?_
        refine r_goto (tgt := 4) dX0_leavesFor_58 (by decide) ?_
        first | (rw [← bk_t (S := (fun l => QTk g (lf l) c)) l0 c_46]; exact ih (l + 1) (by omega) (by omega) (by omega)) | (rw [← bk_f (S := (fun l => QTk g (lf l) c)) c_46]; exact ih (l + 1) (by omega) (by omega) (by omega))
      · refine r_il2 dX0_leavesFor_49 ?_
        refine r_iconst dX0_leavesFor_50 ?_
        refine r_il3 dX0_leavesFor_51 ?_
        refine r_ishl dX0_leavesFor_52 ?_
        refine r_ior dX0_leavesFor_53 ?_
        rw [bs_or l0 (by omega)]
        refine r_is2 dX0_leavesFor_54 rfl ?_
        refine r_inc3 dX0_leavesFor_55 rfl ?_
        refine r_goto (tgt := 4) dX0_leavesFor_58 (by decide) ?_
        first | (rw [← bk_t (S := (fun l => QTk g (lf l) c)) l0 c_46]; exact ih (l + 1) (by omega) (by omega) (by omega)) | (rw [← bk_f (S := (fun l => QTk g (lf l) c)) c_46]; exact ih (l + 1) (by omega) (by omega) (by omega))
set_option maxRecDepth 100000 in
set_option maxHeartbeats 4000000 in
theorem c_lvFor (κ : KP) {B : Nat → Nat} {S0 S : CST} (h : AH) (hB : BA B) {u q cr eq p nc ne nb bl lv ms mr N : Nat} {g lf fm fr : Int → Int} (hu : u = 3 ∨ u = 4) (hW : WF g) (hD : DkV κ (cset B S0 h) q g cr eq p nc ne nb) (hV : PrV κ (cset B S0 h) p nb (rwg g) bl lv ms mr N lf fm fr) (s0 : S u 0 = (q : Int)) (s1 : S u 1 = (nc : Int)) (s2 : S u 2 = (N : Int)) {ca : Nat} {c : Int} (hx : CrR (cset B S h) ca (crg g c)) (hwc : WFc g c) : PM κ mX0_leavesFor 7 [.ref (B u), .ref ca] (cset B S h) (.int (J (bs (bk (fun l => QTk g (lf l) c) N)))) := by
  refine mm_of (L := [some _, some _, none, none]) (by decide +kernel) rfl rfl (Nat.le_of_ble_eq_true rfl) rfl ?_
  have hDf := hD.fx (cfxF (S' := S) hB)
  have hVf := hV.fx (cfxF (S' := S) hB)
  obtain ⟨hO, hC, hE, hP, e1, e2, e3⟩ := id hD
  obtain ⟨hOp, hBl, hlv, hL, hN, hms, hmr, hS⟩ := id hV
  obtain ⟨fc, hAc, hbc⟩ := id hC
  obtain ⟨fb, hAb, hbb⟩ := id hBl
  have n0 := hW.n
  refine r_iconst dX0_leavesFor_0 ?_
  refine r_is2 dX0_leavesFor_1 rfl ?_
  refine r_iconst dX0_leavesFor_2 ?_
  refine r_is3 dX0_leavesFor_3 rfl ?_
  have e0 := l_lvFor κ h hB hu hW hD hV s0 s1 s2 hx hwc (N + 1) 0 (by omega) (by omega) (by omega)
  rw [bk_0] at e0
  exact e0
set_option maxRecDepth 100000 in
set_option maxHeartbeats 4000000 in
theorem c_takerOf (κ : KP) {B : Nat → Nat} {S0 S : CST} (h : AH) (hB : BA B) {u q cr eq p nc ne nb bl lv ms mr N : Nat} {g lf fm fr : Int → Int} (hu : u = 3 ∨ u = 4) (hW : WF g) (hD : DkV κ (cset B S0 h) q g cr eq p nc ne nb) (hV : PrV κ (cset B S0 h) p nb (rwg g) bl lv ms mr N lf fm fr) (s0 : S u 0 = (q : Int)) (s1 : S u 1 = (nc : Int)) (s2 : S u 2 = (N : Int)) (ht : ∀ c, 0 ≤ c → c < g 1 → S (4 * u + 3) c = -1 ∨ (0 ≤ S (4 * u + 3) c ∧ S (4 * u + 3) c < N)) {c : Int} (c0 : 0 ≤ c) (c1 : c < nc) : PM κ mX0_takerOf 1 [.ref (B u), .int (J c)] (cset B S h) (.int (J ((ublk lf (S (4 * u + 3))) c))) := by
  refine mm_of (L := [some _, some _, none]) (by decide +kernel) rfl rfl (Nat.le_of_ble_eq_true rfl) rfl ?_
  have hDf := hD.fx (cfxF (S' := S) hB)
  have hVf := hV.fx (cfxF (S' := S) hB)
  obtain ⟨hO, hC, hE, hP, e1, e2, e3⟩ := id hD
  obtain ⟨hOp, hBl, hlv, hL, hN, hms, hmr, hS⟩ := id hV
  obtain ⟨fc, hAc, hbc⟩ := id hC
  obtain ⟨fb, hAb, hbb⟩ := id hBl
  have n0 := hW.n
  refine r_il1 dX0_takerOf_0 ?_
  refine r_if_lt (tgt := 12) dX0_takerOf_1 (by decide) (by (first | omega | (have h9 := ht c c0 (by omega); omega))) (fun c_1 => ?_) (fun c_1 => ?_)
  · exact absurd c_1 (by omega)
  · refine r_il1 dX0_takerOf_4 ?_
    refine r_al0 dX0_takerOf_5 ?_
    refine b_get dX0_takerOf_6 f_X0_9 hB (ub hu) (bc_u hu) rfl ?_
    refine r_icmp_lt (tgt := 14) dX0_takerOf_9 (by decide) (by (first | omega | (have h9 := ht c c0 (by omega); omega))) (by (first | omega | (have h9 := ht c c0 (by omega); omega))) (fun c_9 => ?_) (fun c_9 => ?_)
    · refine r_al0 dX0_takerOf_14 ?_
      refine b_get dX0_takerOf_15 f_X0_28 hB (ub hu) (bc_u hu) rfl ?_
      refine r_il1 dX0_takerOf_18 ?_
      refine b_ald dX0_takerOf_19 hB (ub3 hu) (bc_3 hu) (by omega) (by omega) (by omega) ?_
      refine r_is2 dX0_takerOf_20 rfl ?_
      have h9 := ht c c0 (by omega)
      refine r_il2 dX0_takerOf_21 ?_
      refine r_if_lt (tgt := 48) dX0_takerOf_22 (by decide) (by (first | omega | (have h9 := ht c c0 (by omega); omega))) (fun c_22 => ?_) (fun c_22 => ?_)
      · refine r_iconst dX0_takerOf_48 ?_
        refine r_iret dX0_takerOf_49 (ty := .int) rfl rfl ⟨?_, rfl⟩
        unfold ublk
        first | rw [if_pos (by omega)] | rw [if_neg (by omega)]
      · refine r_il2 dX0_takerOf_25 ?_
        refine r_al0 dX0_takerOf_26 ?_
        refine b_get dX0_takerOf_27 f_X0_15 hB (ub hu) (bc_u hu) rfl ?_
        refine r_icmp_ge (tgt := 48) dX0_takerOf_30 (by decide) (by (first | omega | (have h9 := ht c c0 (by omega); omega))) (by (first | omega | (have h9 := ht c c0 (by omega); omega))) (fun c_30 => ?_) (fun c_30 => ?_)
        · refine r_iconst dX0_takerOf_48 ?_
          refine r_iret dX0_takerOf_49 (ty := .int) rfl rfl ⟨?_, rfl⟩
          unfold ublk
          first | rw [if_pos (by omega)] | rw [if_neg (by omega)]
        · refine r_al0 dX0_takerOf_33 ?_
          refine u_desk dX0_takerOf_34 f_X0_40 hB hu (by assumption) ?_
          refine r_getfield dX0_takerOf_37 f_X0_56 (by first | exact cfx hB hO | exact cfx hB hOp | exact cfx hB hlv | exact cfx hB hAc | exact cfx hB hAb | (refine cfx hB ?_; assumption) | assumption) rfl ?_
          refine r_getfield dX0_takerOf_40 f_X0_60 (by first | exact cfx hB hO | exact cfx hB hOp | exact cfx hB hlv | exact cfx hB hAc | exact cfx hB hAb | (refine cfx hB ?_; assumption) | assumption) rfl ?_
          refine r_il2 dX0_takerOf_43 ?_
          refine r_iaJ dX0_takerOf_44 (cfx hB hlv) (by omega) (by omega) (by omega) ?_
          refine r_goto (tgt := 49) dX0_takerOf_45 (by decide) ?_
          refine r_iret dX0_takerOf_49 (ty := .int) rfl rfl ⟨?_, rfl⟩
          unfold ublk
          first | rw [if_pos (by omega)] | rw [if_neg (by omega)]
    · exact absurd c_9 (by omega)
set_option maxRecDepth 100000 in
set_option maxHeartbeats 4000000 in
theorem c_metSet (κ : KP) {B : Nat → Nat} {S0 S : CST} (h : AH) (hB : BA B) {u q cr eq p nc ne nb bl lv ms mr N : Nat} {g lf fm fr : Int → Int} (hu : u = 3 ∨ u = 4) (hW : WF g) (hD : DkV κ (cset B S0 h) q g cr eq p nc ne nb) (hV : PrV κ (cset B S0 h) p nb (rwg g) bl lv ms mr N lf fm fr) (s0 : S u 0 = (q : Int)) (s1 : S u 1 = (nc : Int)) (s2 : S u 2 = (N : Int)) (s9 : 0 ≤ S u 8 ∧ S u 8 < (2 ^ N : Nat)) : PM κ mX0_metSet 2 [.ref (B u)] (cset B S h) (.int (J (fm (S u 8)))) := by
  refine mm_of (L := [some _]) (by decide +kernel) rfl rfl (Nat.le_of_ble_eq_true rfl) rfl ?_
  have hDf := hD.fx (cfxF (S' := S) hB)
  have hVf := hV.fx (cfxF (S' := S) hB)
  obtain ⟨hO, hC, hE, hP, e1, e2, e3⟩ := id hD
  obtain ⟨hOp, hBl, hlv, hL, hN, hms, hmr, hS⟩ := id hV
  obtain ⟨fc, hAc, hbc⟩ := id hC
  obtain ⟨fb, hAb, hbb⟩ := id hBl
  have n0 := hW.n
  refine r_al0 dX0_metSet_0 ?_
  refine u_desk dX0_metSet_1 f_X0_40 hB hu (by assumption) ?_
  refine r_getfield dX0_metSet_4 f_X0_56 (by first | exact cfx hB hO | exact cfx hB hOp | exact cfx hB hlv | exact cfx hB hAc | exact cfx hB hAb | (refine cfx hB ?_; assumption) | assumption) rfl ?_
  refine r_al0 dX0_metSet_7 ?_
  refine b_get dX0_metSet_8 f_X0_34 hB (ub hu) (bc_u hu) rfl ?_
  refine r_callVP1 dX0_metSet_11 v_X0_81 (cfx hB hOp) (c_metSetFor κ _ (by omega) hVf (hW.rw e3) s9.1 s9.2) (by decide) rfl ?_
  refine r_iret dX0_metSet_14 (ty := .int) rfl (rfl) ?_
  exact ⟨rfl, rfl⟩
set_option maxRecDepth 100000 in
set_option maxHeartbeats 4000000 in
theorem c_rootsMet (κ : KP) {B : Nat → Nat} {S0 S : CST} (h : AH) (hB : BA B) {u q cr eq p nc ne nb bl lv ms mr N : Nat} {g lf fm fr : Int → Int} (hu : u = 3 ∨ u = 4) (hW : WF g) (hD : DkV κ (cset B S0 h) q g cr eq p nc ne nb) (hV : PrV κ (cset B S0 h) p nb (rwg g) bl lv ms mr N lf fm fr) (s0 : S u 0 = (q : Int)) (s1 : S u 1 = (nc : Int)) (s2 : S u 2 = (N : Int)) (s9 : 0 ≤ S u 8 ∧ S u 8 < (2 ^ N : Nat)) : PM κ mX0_rootsMet 2 [.ref (B u)] (cset B S h) (.int (J (fr (S u 8)))) := by
  refine mm_of (L := [some _]) (by decide +kernel) rfl rfl (Nat.le_of_ble_eq_true rfl) rfl ?_
  have hDf := hD.fx (cfxF (S' := S) hB)
  have hVf := hV.fx (cfxF (S' := S) hB)
  obtain ⟨hO, hC, hE, hP, e1, e2, e3⟩ := id hD
  obtain ⟨hOp, hBl, hlv, hL, hN, hms, hmr, hS⟩ := id hV
  obtain ⟨fc, hAc, hbc⟩ := id hC
  obtain ⟨fb, hAb, hbb⟩ := id hBl
  have n0 := hW.n
  refine r_al0 dX0_rootsMet_0 ?_
  refine u_desk dX0_rootsMet_1 f_X0_40 hB hu (by assumption) ?_
  refine r_getfield dX0_rootsMet_4 f_X0_56 (by first | exact cfx hB hO | exact cfx hB hOp | exact cfx hB hlv | exact cfx hB hAc | exact cfx hB hAb | (refine cfx hB ?_; assumption) | assumption) rfl ?_
  refine r_al0 dX0_rootsMet_7 ?_
  refine b_get dX0_rootsMet_8 f_X0_34 hB (ub hu) (bc_u hu) rfl ?_
  refine r_callVP1 dX0_rootsMet_11 v_X0_96 (cfx hB hOp) (c_metRootsFor κ _ (by omega) hVf (hW.rw e3) s9.1 s9.2) (by decide) rfl ?_
  refine r_iret dX0_rootsMet_14 (ty := .int) rfl (rfl) ?_
  exact ⟨rfl, rfl⟩
set_option maxRecDepth 100000 in
set_option maxHeartbeats 4000000 in
theorem c_meets (κ : KP) {B : Nat → Nat} {S0 S : CST} (h : AH) (hB : BA B) {u q cr eq p nc ne nb bl lv ms mr N : Nat} {g lf fm fr : Int → Int} (hu : u = 3 ∨ u = 4) (hW : WF g) (hD : DkV κ (cset B S0 h) q g cr eq p nc ne nb) (hV : PrV κ (cset B S0 h) p nb (rwg g) bl lv ms mr N lf fm fr) (s0 : S u 0 = (q : Int)) (s1 : S u 1 = (nc : Int)) (s2 : S u 2 = (N : Int)) (s9 : 0 ≤ S u 8 ∧ S u 8 < (2 ^ N : Nat)) {F : Int → Bool} (hF : fm (S u 8) = bs F) {b : Int} (b0 : 0 ≤ b) (b1 : b < 8) : PM κ mX0_meets 3 [.ref (B u), .int (J b)] (cset B S h) (.int (J (bI (F b)))) := by
  refine mm_of (L := [some _, some _]) (by decide +kernel) rfl rfl (Nat.le_of_ble_eq_true rfl) rfl ?_
  have hDf := hD.fx (cfxF (S' := S) hB)
  have hVf := hV.fx (cfxF (S' := S) hB)
  obtain ⟨hO, hC, hE, hP, e1, e2, e3⟩ := id hD
  obtain ⟨hOp, hBl, hlv, hL, hN, hms, hmr, hS⟩ := id hV
  obtain ⟨fc, hAc, hbc⟩ := id hC
  obtain ⟨fb, hAb, hbb⟩ := id hBl
  have n0 := hW.n
  refine r_al0 dX0_meets_0 ?_
  refine r_callVP0 dX0_meets_1 v_X0_73 (cs_obj hB (ub hu) (bc_u hu)) (c_metSet κ h hB hu hW hD hV s0 s1 s2 s9) (by decide) rfl ?_
  rw [hF]
  refine r_il1 dX0_meets_4 ?_
  refine r_callSNP2 dX0_meets_5 s_X0_77 (c_isInSet κ _ b0 b1) (by decide) rfl ?_
  refine r_iret dX0_meets_8 (ty := .boolean) rfl (nar_B _) ?_
  exact ⟨rfl, rfl⟩
set_option maxRecDepth 100000 in
set_option maxHeartbeats 4000000 in
theorem c_leavesMet (κ : KP) {B : Nat → Nat} {S0 S : CST} (h : AH) (hB : BA B) {u q cr eq p nc ne nb bl lv ms mr N : Nat} {g lf fm fr : Int → Int} (hu : u = 3 ∨ u = 4) (hW : WF g) (hD : DkV κ (cset B S0 h) q g cr eq p nc ne nb) (hV : PrV κ (cset B S0 h) p nb (rwg g) bl lv ms mr N lf fm fr) (s0 : S u 0 = (q : Int)) (s1 : S u 1 = (nc : Int)) (s2 : S u 2 = (N : Int)) {P : Int → Bool} (s8 : S u 8 = bs P) : PM κ mX0_leavesMet 2 [.ref (B u)] (cset B S h) (.int (J (cn P))) := by
  refine mm_of (L := [some _]) (by decide +kernel) rfl rfl (Nat.le_of_ble_eq_true rfl) rfl ?_
  have hDf := hD.fx (cfxF (S' := S) hB)
  have hVf := hV.fx (cfxF (S' := S) hB)
  obtain ⟨hO, hC, hE, hP, e1, e2, e3⟩ := id hD
  obtain ⟨hOp, hBl, hlv, hL, hN, hms, hmr, hS⟩ := id hV
  obtain ⟨fc, hAc, hbc⟩ := id hC
  obtain ⟨fb, hAb, hbb⟩ := id hBl
  have n0 := hW.n
  refine r_al0 dX0_leavesMet_0 ?_
  refine b_get dX0_leavesMet_1 f_X0_34 hB (ub hu) (bc_u hu) rfl ?_
  rw [s8]
  refine r_callSP1 dX0_leavesMet_4 s_X0_99 (c_bitCount κ _) (by decide) rfl ?_
  refine r_iret dX0_leavesMet_7 (ty := .int) rfl (rfl) ?_
  exact ⟨rfl, rfl⟩
set_option maxRecDepth 100000 in
set_option maxHeartbeats 4000000 in
theorem c_ptGiven (κ : KP) {B : Nat → Nat} {S0 S : CST} (h : AH) (hB : BA B) {u q cr eq p nc ne nb bl lv ms mr N : Nat} {g lf fm fr : Int → Int} (hu : u = 3 ∨ u = 4) (hW : WF g) (hD : DkV κ (cset B S0 h) q g cr eq p nc ne nb) (hV : PrV κ (cset B S0 h) p nb (rwg g) bl lv ms mr N lf fm fr) (s0 : S u 0 = (q : Int)) (s1 : S u 1 = (nc : Int)) (s2 : S u 2 = (N : Int))  : PM κ mX0_pointsGiven 1 [.ref (B u)] (cset B S h) (.int (J (S u 9))) := by
  refine mm_of (L := [some _]) (by decide +kernel) rfl rfl (Nat.le_of_ble_eq_true rfl) rfl ?_
  have hDf := hD.fx (cfxF (S' := S) hB)
  have hVf := hV.fx (cfxF (S' := S) hB)
  obtain ⟨hO, hC, hE, hP, e1, e2, e3⟩ := id hD
  obtain ⟨hOp, hBl, hlv, hL, hN, hms, hmr, hS⟩ := id hV
  obtain ⟨fc, hAc, hbc⟩ := id hC
  obtain ⟨fb, hAb, hbb⟩ := id hBl
  have n0 := hW.n
  refine r_al0 dX0_pointsGiven_0 ?_
  refine b_get dX0_pointsGiven_1 f_X0_37 hB (ub hu) (bc_u hu) rfl ?_
  refine r_iret dX0_pointsGiven_4 (ty := .int) rfl (rfl) ?_
  exact ⟨rfl, rfl⟩
set_option maxRecDepth 100000 in
set_option maxHeartbeats 4000000 in
theorem l_crLeft (κ : KP) {B : Nat → Nat} {S0 S : CST} (h : AH) (hB : BA B) {u q cr eq p nc ne nb bl lv ms mr N : Nat} {g lf fm fr : Int → Int} (hu : u = 3 ∨ u = 4) (hW : WF g) (hD : DkV κ (cset B S0 h) q g cr eq p nc ne nb) (hV : PrV κ (cset B S0 h) p nb (rwg g) bl lv ms mr N lf fm fr) (s0 : S u 0 = (q : Int)) (s1 : S u 1 = (nc : Int)) (s2 : S u 2 = (N : Int)) (ht : ∀ c, 0 ≤ c → c < g 1 → S (4 * u + 3) c = -1 ∨ (0 ≤ S (4 * u + 3) c ∧ S (4 * u + 3) c < N))  : ∀ (f : Nat) (c : Int), (nc : Int) - c < (f : Int) → 0 ≤ c → c ≤ nc → WW κ mX0_creditsLeft 2 0 0 (fun w h' => w = some (.int (J (sz (fun c => bP ((ublk lf (S (4 * u + 3))) c < 0)) nc))) ∧ h' = cset B S h) NoX 4 [some (.ref (B u)), some (.int (J (sz (fun c => bP ((ublk lf (S (4 * u + 3))) c < 0)) c))), some (.int (J c))] [] (cset B S h) := by
  have hDf := hD.fx (cfxF (S' := S) hB)
  have hVf := hV.fx (cfxF (S' := S) hB)
  obtain ⟨hO, hC, hE, hP, e1, e2, e3⟩ := id hD
  obtain ⟨hOp, hBl, hlv, hL, hN, hms, hmr, hS⟩ := id hV
  obtain ⟨fc, hAc, hbc⟩ := id hC
  obtain ⟨fb, hAb, hbb⟩ := id hBl
  have n0 := hW.n
  intro f
  induction f with
  | zero =>
    intro c hf c0 c1
    exact absurd hf (by omega)
  | succ f ih =>
    intro c hf c0 c1
    refine r_il2 dX0_creditsLeft_4 ?_
    refine r_al0 dX0_creditsLeft_5 ?_
    refine b_get dX0_creditsLeft_6 f_X0_9 hB (ub hu) (bc_u hu) rfl ?_
    refine r_icmp_ge (tgt := 30) dX0_creditsLeft_9 (by decide) (by (first | omega | (have hp := sz_01 (k := c) c0 (fun i => bP_01 ((ublk lf (S (4 * u + 3))) i < 0)); omega))) (by (first | omega | (have hp := sz_01 (k := c) c0 (fun i => bP_01 ((ublk lf (S (4 * u + 3))) i < 0)); omega))) (fun c_9 => ?_) (fun c_9 => ?_)
    · refine r_il1 dX0_creditsLeft_30 ?_
      rw [show c = (nc : Int) by omega]
      exact r_iret dX0_creditsLeft_31 (ty := .int) rfl rfl ⟨rfl, rfl⟩
    · refine r_al0 dX0_creditsLeft_12 ?_
      refine r_il2 dX0_creditsLeft_13 ?_
      refine r_callVP1 dX0_creditsLeft_14 v_X0_85 (cs_obj hB (ub hu) (bc_u hu)) (c_takerOf κ h hB hu hW hD hV s0 s1 s2 ht c0 (by omega)) (by decide) rfl ?_
      have ut : ublk lf (S (4 * u + 3)) c = -1 ∨ (0 ≤ ublk lf (S (4 * u + 3)) c ∧ ublk lf (S (4 * u + 3)) c < nb) := by
        unfold ublk
        have h9 := ht c c0 (by omega)
        split
        · exact Or.inl rfl
        · have := (hL.1 (S (4 * u + 3) c) (by omega) (by omega)).1
          exact Or.inr this
      refine r_iconst dX0_creditsLeft_17 ?_
      refine r_icmp_ne (tgt := 24) dX0_creditsLeft_18 (by decide) (by (first | omega | (have hp := sz_01 (k := c) c0 (fun i => bP_01 ((ublk lf (S (4 * u + 3))) i < 0)); omega))) (by (first | omega | (have hp := sz_01 (k := c) c0 (fun i => bP_01 ((ublk lf (S (4 * u + 3))) i < 0)); omega))) (fun c_18 => ?_) (fun c_18 => ?_)
      · refine r_inc2 dX0_creditsLeft_24 rfl ?_
        refine r_goto (tgt := 4) dX0_creditsLeft_27 (by decide) ?_
        have e9 : sz (fun c => bP ((ublk lf (S (4 * u + 3))) c < 0)) (c + 1) = sz (fun c => bP ((ublk lf (S (4 * u + 3))) c < 0)) c + bP ((ublk lf (S (4 * u + 3))) c < 0) := sz_1 c0
        first | rw [bP_t (by omega)] at e9 | (rw [bP_f (by omega), Int.add_zero] at e9)
        rw [← e9]
        exact ih (c + 1) (by omega) (by omega) (by omega)
      · refine r_inc1 dX0_creditsLeft_21 rfl ?_
        refine r_inc2 dX0_creditsLeft_24 rfl ?_
        refine r_goto (tgt := 4) dX0_creditsLeft_27 (by decide) ?_
        have e9 : sz (fun c => bP ((ublk lf (S (4 * u + 3))) c < 0)) (c + 1) = sz (fun c => bP ((ublk lf (S (4 * u + 3))) c < 0)) c + bP ((ublk lf (S (4 * u + 3))) c < 0) := sz_1 c0
        first | rw [bP_t (by omega)] at e9 | (rw [bP_f (by omega), Int.add_zero] at e9)
        rw [← e9]
        exact ih (c + 1) (by omega) (by omega) (by omega)
set_option maxRecDepth 100000 in
set_option maxHeartbeats 4000000 in
theorem c_crLeft (κ : KP) {B : Nat → Nat} {S0 S : CST} (h : AH) (hB : BA B) {u q cr eq p nc ne nb bl lv ms mr N : Nat} {g lf fm fr : Int → Int} (hu : u = 3 ∨ u = 4) (hW : WF g) (hD : DkV κ (cset B S0 h) q g cr eq p nc ne nb) (hV : PrV κ (cset B S0 h) p nb (rwg g) bl lv ms mr N lf fm fr) (s0 : S u 0 = (q : Int)) (s1 : S u 1 = (nc : Int)) (s2 : S u 2 = (N : Int)) (ht : ∀ c, 0 ≤ c → c < g 1 → S (4 * u + 3) c = -1 ∨ (0 ≤ S (4 * u + 3) c ∧ S (4 * u + 3) c < N))  : PM κ mX0_creditsLeft 2 [.ref (B u)] (cset B S h) (.int (J (sz (fun c => bP ((ublk lf (S (4 * u + 3))) c < 0)) nc))) := by
  refine mm_of (L := [some _, none, none]) (by decide +kernel) rfl rfl (Nat.le_of_ble_eq_true rfl) rfl ?_
  have hDf := hD.fx (cfxF (S' := S) hB)
  have hVf := hV.fx (cfxF (S' := S) hB)
  obtain ⟨hO, hC, hE, hP, e1, e2, e3⟩ := id hD
  obtain ⟨hOp, hBl, hlv, hL, hN, hms, hmr, hS⟩ := id hV
  obtain ⟨fc, hAc, hbc⟩ := id hC
  obtain ⟨fb, hAb, hbb⟩ := id hBl
  have n0 := hW.n
  refine r_iconst dX0_creditsLeft_0 ?_
  refine r_is1 dX0_creditsLeft_1 rfl ?_
  refine r_iconst dX0_creditsLeft_2 ?_
  refine r_is2 dX0_creditsLeft_3 rfl ?_
  exact l_crLeft κ h hB hu hW hD hV s0 s1 s2 ht  (nc + 1) 0 (by omega) (by omega) (by omega)
set_option maxRecDepth 100000 in
set_option maxHeartbeats 4000000 in
theorem l_wGrades (κ : KP) {B : Nat → Nat} {S0 S : CST} (h : AH) (hB : BA B) {u q cr eq p nc ne nb bl lv ms mr N : Nat} {g lf fm fr : Int → Int} (hu : u = 3 ∨ u = 4) (hW : WF g) (hD : DkV κ (cset B S0 h) q g cr eq p nc ne nb) (hV : PrV κ (cset B S0 h) p nb (rwg g) bl lv ms mr N lf fm fr) (s0 : S u 0 = (q : Int)) (s1 : S u 1 = (nc : Int)) (s2 : S u 2 = (N : Int)) (ht : ∀ c, 0 ≤ c → c < g 1 → S (4 * u + 3) c = -1 ∨ (0 ≤ S (4 * u + 3) c ∧ S (4 * u + 3) c < N))  : ∀ (f : Nat) (c : Int), (nc : Int) - c < (f : Int) → 0 ≤ c → c ≤ nc → WW κ mX0_weightedGrades 2 0 0 (fun w h' => w = some (.int (J (sz (fun c => if (ublk lf (S (4 * u + 3))) c < 0 then 0 else g (4 + 4 * c + 2) * g (4 + 4 * c + 1)) nc))) ∧ h' = cset B S h) NoX 4 [some (.ref (B u)), some (.int (J (sz (fun c => if (ublk lf (S (4 * u + 3))) c < 0 then 0 else g (4 + 4 * c + 2) * g (4 + 4 * c + 1)) c))), some (.int (J c))] [] (cset B S h) := by
  have hDf := hD.fx (cfxF (S' := S) hB)
  have hVf := hV.fx (cfxF (S' := S) hB)
  obtain ⟨hO, hC, hE, hP, e1, e2, e3⟩ := id hD
  obtain ⟨hOp, hBl, hlv, hL, hN, hms, hmr, hS⟩ := id hV
  obtain ⟨fc, hAc, hbc⟩ := id hC
  obtain ⟨fb, hAb, hbb⟩ := id hBl
  have n0 := hW.n
  intro f
  induction f with
  | zero =>
    intro c hf c0 c1
    exact absurd hf (by omega)
  | succ f ih =>
    intro c hf c0 c1
    refine r_il2 dX0_weightedGrades_4 ?_
    refine r_al0 dX0_weightedGrades_5 ?_
    refine b_get dX0_weightedGrades_6 f_X0_9 hB (ub hu) (bc_u hu) rfl ?_
    refine r_icmp_ge (tgt := 55) dX0_weightedGrades_9 (by decide) (by (first | omega)) (by (first | omega)) (fun c_9 => ?_) (fun c_9 => ?_)
    · refine r_il1 dX0_weightedGrades_55 ?_
      rw [show c = (nc : Int) by omega]
      exact r_iret dX0_weightedGrades_56 (ty := .int) rfl rfl ⟨rfl, rfl⟩
    · refine r_al0 dX0_weightedGrades_12 ?_
      refine r_il2 dX0_weightedGrades_13 ?_
      refine r_callVP1 dX0_weightedGrades_14 v_X0_85 (cs_obj hB (ub hu) (bc_u hu)) (c_takerOf κ h hB hu hW hD hV s0 s1 s2 ht c0 (by omega)) (by decide) rfl ?_
      have ut : ublk lf (S (4 * u + 3)) c = -1 ∨ (0 ≤ ublk lf (S (4 * u + 3)) c ∧ ublk lf (S (4 * u + 3)) c < nb) := by
        unfold ublk
        have h9 := ht c c0 (by omega)
        split
        · exact Or.inl rfl
        · have := (hL.1 (S (4 * u + 3) c) (by omega) (by omega)).1
          exact Or.inr this
      refine r_iconst dX0_weightedGrades_17 ?_
      refine r_icmp_eq (tgt := 49) dX0_weightedGrades_18 (by decide) (by (first | omega)) (by (first | omega)) (fun c_18 => ?_) (fun c_18 => ?_)
      · refine r_inc2 dX0_weightedGrades_49 rfl ?_
        refine r_goto (tgt := 4) dX0_weightedGrades_52 (by decide) ?_
        have e9 : sz (fun c => if (ublk lf (S (4 * u + 3))) c < 0 then 0 else g (4 + 4 * c + 2) * g (4 + 4 * c + 1)) (c + 1) = sz (fun c => if (ublk lf (S (4 * u + 3))) c < 0 then 0 else g (4 + 4 * c + 2) * g (4 + 4 * c + 1)) c + _ := sz_1 c0
        first | rw [if_pos (by omega), Int.add_zero] at e9 | rw [if_neg (by omega)] at e9
        rw [← e9]
        exact ih (c + 1) (by omega) (by omega) (by omega)
      · refine r_il1 dX0_weightedGrades_21 ?_
        refine r_al0 dX0_weightedGrades_22 ?_
        refine u_desk dX0_weightedGrades_23 f_X0_40 hB hu (by assumption) ?_
        refine r_getfield dX0_weightedGrades_26 f_X0_44 (by first | exact cfx hB hO | exact cfx hB hOp | exact cfx hB hlv | exact cfx hB hAc | exact cfx hB hAb | (refine cfx hB ?_; assumption) | assumption) rfl ?_
        refine r_il2 dX0_weightedGrades_29 ?_
        obtain ⟨a_30, ha_30, hc0_30⟩ := hbc c (by omega) (by omega)
        have hc_30 := cfx (S' := S) hB hc0_30
        have hd_30 := hc_30
        simp only [crg] at hd_30
        refine r_aaF dX0_weightedGrades_30 (cfx hB hAc) (by decide) ha_30 (by omega) (by omega) (by omega) ?_
        refine r_getfield dX0_weightedGrades_31 f_X0_104 (by first | exact cfx hB hO | exact cfx hB hOp | exact cfx hB hlv | exact cfx hB hAc | exact cfx hB hAb | (refine cfx hB ?_; assumption) | assumption) rfl ?_
        refine r_al0 dX0_weightedGrades_34 ?_
        refine u_desk dX0_weightedGrades_35 f_X0_40 hB hu (by assumption) ?_
        refine r_getfield dX0_weightedGrades_38 f_X0_44 (by first | exact cfx hB hO | exact cfx hB hOp | exact cfx hB hlv | exact cfx hB hAc | exact cfx hB hAb | (refine cfx hB ?_; assumption) | assumption) rfl ?_
        refine r_il2 dX0_weightedGrades_41 ?_
        obtain ⟨a_42, ha_42, hc0_42⟩ := hbc c (by omega) (by omega)
        have hc_42 := cfx (S' := S) hB hc0_42
        have hd_42 := hc_42
        simp only [crg] at hd_42
        refine r_aaF dX0_weightedGrades_42 (cfx hB hAc) (by decide) ha_42 (by omega) (by omega) (by omega) ?_
        refine r_getfield dX0_weightedGrades_43 f_X0_91 (by first | exact cfx hB hO | exact cfx hB hOp | exact cfx hB hlv | exact cfx hB hAc | exact cfx hB hAb | (refine cfx hB ?_; assumption) | assumption) rfl ?_
        refine r_imul dX0_weightedGrades_46 ?_
        refine r_iadd dX0_weightedGrades_47 ?_
        refine r_is1 dX0_weightedGrades_48 rfl ?_
        refine r_inc2 dX0_weightedGrades_49 rfl ?_
        refine r_goto (tgt := 4) dX0_weightedGrades_52 (by decide) ?_
        have e9 : sz (fun c => if (ublk lf (S (4 * u + 3))) c < 0 then 0 else g (4 + 4 * c + 2) * g (4 + 4 * c + 1)) (c + 1) = sz (fun c => if (ublk lf (S (4 * u + 3))) c < 0 then 0 else g (4 + 4 * c + 2) * g (4 + 4 * c + 1)) c + _ := sz_1 c0
        first | rw [if_pos (by omega), Int.add_zero] at e9 | rw [if_neg (by omega)] at e9
        rw [← e9]
        exact ih (c + 1) (by omega) (by omega) (by omega)
set_option maxRecDepth 100000 in
set_option maxHeartbeats 4000000 in
theorem c_wGrades (κ : KP) {B : Nat → Nat} {S0 S : CST} (h : AH) (hB : BA B) {u q cr eq p nc ne nb bl lv ms mr N : Nat} {g lf fm fr : Int → Int} (hu : u = 3 ∨ u = 4) (hW : WF g) (hD : DkV κ (cset B S0 h) q g cr eq p nc ne nb) (hV : PrV κ (cset B S0 h) p nb (rwg g) bl lv ms mr N lf fm fr) (s0 : S u 0 = (q : Int)) (s1 : S u 1 = (nc : Int)) (s2 : S u 2 = (N : Int)) (ht : ∀ c, 0 ≤ c → c < g 1 → S (4 * u + 3) c = -1 ∨ (0 ≤ S (4 * u + 3) c ∧ S (4 * u + 3) c < N))  : PM κ mX0_weightedGrades 2 [.ref (B u)] (cset B S h) (.int (J (sz (fun c => if (ublk lf (S (4 * u + 3))) c < 0 then 0 else g (4 + 4 * c + 2) * g (4 + 4 * c + 1)) nc))) := by
  refine mm_of (L := [some _, none, none]) (by decide +kernel) rfl rfl (Nat.le_of_ble_eq_true rfl) rfl ?_
  have hDf := hD.fx (cfxF (S' := S) hB)
  have hVf := hV.fx (cfxF (S' := S) hB)
  obtain ⟨hO, hC, hE, hP, e1, e2, e3⟩ := id hD
  obtain ⟨hOp, hBl, hlv, hL, hN, hms, hmr, hS⟩ := id hV
  obtain ⟨fc, hAc, hbc⟩ := id hC
  obtain ⟨fb, hAb, hbb⟩ := id hBl
  have n0 := hW.n
  refine r_iconst dX0_weightedGrades_0 ?_
  refine r_is1 dX0_weightedGrades_1 rfl ?_
  refine r_iconst dX0_weightedGrades_2 ?_
  refine r_is2 dX0_weightedGrades_3 rfl ?_
  exact l_wGrades κ h hB hu hW hD hV s0 s1 s2 ht  (nc + 1) 0 (by omega) (by omega) (by omega)
set_option maxRecDepth 100000 in
set_option maxHeartbeats 4000000 in
theorem l_ptWithin (κ : KP) {B : Nat → Nat} {S0 S : CST} (h : AH) (hB : BA B) {u q cr eq p nc ne nb bl lv ms mr N : Nat} {g lf fm fr : Int → Int} (hu : u = 3 ∨ u = 4) (hW : WF g) (hD : DkV κ (cset B S0 h) q g cr eq p nc ne nb) (hV : PrV κ (cset B S0 h) p nb (rwg g) bl lv ms mr N lf fm fr) (s0 : S u 0 = (q : Int)) (s1 : S u 1 = (nc : Int)) (s2 : S u 2 = (N : Int)) (ht : ∀ c, 0 ≤ c → c < g 1 → S (4 * u + 3) c = -1 ∨ (0 ≤ S (4 * u + 3) c ∧ S (4 * u + 3) c < N)) {b : Int} (b0 : 0 ≤ b) (b1 : b < nb) : ∀ (f : Nat) (c : Int), (nc : Int) - c < (f : Int) → 0 ≤ c → c ≤ nc → WW κ mX0_pointsWithin 2 0 0 (fun w h' => w = some (.int (J (sz (fun c => if tb (QWt g ((ublk lf (S (4 * u + 3))) c) b) = true then g (4 + 4 * c + 1) else 0) nc))) ∧ h' = cset B S h) NoX 4 [some (.ref (B u)), some (.int (J b)), some (.int (J (sz (fun c => if tb (QWt g ((ublk lf (S (4 * u + 3))) c) b) = true then g (4 + 4 * c + 1) else 0) c))), some (.int (J c))] [] (cset B S h) := by
  have hDf := hD.fx (cfxF (S' := S) hB)
  have hVf := hV.fx (cfxF (S' := S) hB)
  obtain ⟨hO, hC, hE, hP, e1, e2, e3⟩ := id hD
  obtain ⟨hOp, hBl, hlv, hL, hN, hms, hmr, hS⟩ := id hV
  obtain ⟨fc, hAc, hbc⟩ := id hC
  obtain ⟨fb, hAb, hbb⟩ := id hBl
  have n0 := hW.n
  intro f
  induction f with
  | zero =>
    intro c hf c0 c1
    exact absurd hf (by omega)
  | succ f ih =>
    intro c hf c0 c1
    refine r_il3 dX0_pointsWithin_4 ?_
    refine r_al0 dX0_pointsWithin_5 ?_
    refine b_get dX0_pointsWithin_6 f_X0_9 hB (ub hu) (bc_u hu) rfl ?_
    refine r_icmp_ge (tgt := 52) dX0_pointsWithin_9 (by decide) (by (first | omega)) (by (first | omega)) (fun c_9 => ?_) (fun c_9 => ?_)
    · refine r_il2 dX0_pointsWithin_52 ?_
      rw [show c = (nc : Int) by omega]
      exact r_iret dX0_pointsWithin_53 (ty := .int) rfl rfl ⟨rfl, rfl⟩
    · refine r_al0 dX0_pointsWithin_12 ?_
      refine u_desk dX0_pointsWithin_13 f_X0_40 hB hu (by assumption) ?_
      refine r_getfield dX0_pointsWithin_16 f_X0_56 (by first | exact cfx hB hO | exact cfx hB hOp | exact cfx hB hlv | exact cfx hB hAc | exact cfx hB hAb | (refine cfx hB ?_; assumption) | assumption) rfl ?_
      refine r_al0 dX0_pointsWithin_19 ?_
      refine r_il3 dX0_pointsWithin_20 ?_
      refine r_callVP1 dX0_pointsWithin_21 v_X0_85 (cs_obj hB (ub hu) (bc_u hu)) (c_takerOf κ h hB hu hW hD hV s0 s1 s2 ht c0 (by omega)) (by decide) rfl ?_
      have ut : ublk lf (S (4 * u + 3)) c = -1 ∨ (0 ≤ ublk lf (S (4 * u + 3)) c ∧ ublk lf (S (4 * u + 3)) c < nb) := by
        unfold ublk
        have h9 := ht c c0 (by omega)
        split
        · exact Or.inl rfl
        · have := (hL.1 (S (4 * u + 3) c) (by omega) (by omega)).1
          exact Or.inr this
      refine r_il1 dX0_pointsWithin_24 ?_
      refine r_callVP2 dX0_pointsWithin_25 v_X0_88 (cfx hB hOp) (c_pwithin κ _ hW e3 (by omega) hVf (by omega) (by omega) b0 b1) (by decide) rfl ?_
      refine r_ifT_eq (tgt := 46) dX0_pointsWithin_28 (by decide) (fun c_28 => ?_) (fun c_28 => ?_)
      · refine r_inc3 dX0_pointsWithin_46 rfl ?_
        refine r_goto (tgt := 4) dX0_pointsWithin_49 (by decide) ?_
        have e9 : sz (fun c => if tb (QWt g ((ublk lf (S (4 * u + 3))) c) b) = true then g (4 + 4 * c + 1) else 0) (c + 1) = sz (fun c => if tb (QWt g ((ublk lf (S (4 * u + 3))) c) b) = true then g (4 + 4 * c + 1) else 0) c + _ := sz_1 c0
        first | rw [if_pos (tb_t.mpr c_28)] at e9 | rw [if_neg (by rw [tb_f.mpr c_28]; decide), Int.add_zero] at e9
        rw [← e9]
        exact ih (c + 1) (by omega) (by omega) (by omega)
      · refine r_il2 dX0_pointsWithin_31 ?_
        refine r_al0 dX0_pointsWithin_32 ?_
        refine u_desk dX0_pointsWithin_33 f_X0_40 hB hu (by assumption) ?_
        refine r_getfield dX0_pointsWithin_36 f_X0_44 (by first | exact cfx hB hO | exact cfx hB hOp | exact cfx hB hlv | exact cfx hB hAc | exact cfx hB hAb | (refine cfx hB ?_; assumption) | assumption) rfl ?_
        refine r_il3 dX0_pointsWithin_39 ?_
        obtain ⟨a_40, ha_40, hc0_40⟩ := hbc c (by omega) (by omega)
        have hc_40 := cfx (S' := S) hB hc0_40
        have hd_40 := hc_40
        simp only [crg] at hd_40
        refine r_aaF dX0_pointsWithin_40 (cfx hB hAc) (by decide) ha_40 (by omega) (by omega) (by omega) ?_
        refine r_getfield dX0_pointsWithin_41 f_X0_91 (by first | exact cfx hB hO | exact cfx hB hOp | exact cfx hB hlv | exact cfx hB hAc | exact cfx hB hAb | (refine cfx hB ?_; assumption) | assumption) rfl ?_
        refine r_iadd dX0_pointsWithin_44 ?_
        refine r_is2 dX0_pointsWithin_45 rfl ?_
        refine r_inc3 dX0_pointsWithin_46 rfl ?_
        refine r_goto (tgt := 4) dX0_pointsWithin_49 (by decide) ?_
        have e9 : sz (fun c => if tb (QWt g ((ublk lf (S (4 * u + 3))) c) b) = true then g (4 + 4 * c + 1) else 0) (c + 1) = sz (fun c => if tb (QWt g ((ublk lf (S (4 * u + 3))) c) b) = true then g (4 + 4 * c + 1) else 0) c + _ := sz_1 c0
        first | rw [if_pos (tb_t.mpr c_28)] at e9 | rw [if_neg (by rw [tb_f.mpr c_28]; decide), Int.add_zero] at e9
        rw [← e9]
        exact ih (c + 1) (by omega) (by omega) (by omega)
set_option maxRecDepth 100000 in
set_option maxHeartbeats 4000000 in
theorem c_ptWithin (κ : KP) {B : Nat → Nat} {S0 S : CST} (h : AH) (hB : BA B) {u q cr eq p nc ne nb bl lv ms mr N : Nat} {g lf fm fr : Int → Int} (hu : u = 3 ∨ u = 4) (hW : WF g) (hD : DkV κ (cset B S0 h) q g cr eq p nc ne nb) (hV : PrV κ (cset B S0 h) p nb (rwg g) bl lv ms mr N lf fm fr) (s0 : S u 0 = (q : Int)) (s1 : S u 1 = (nc : Int)) (s2 : S u 2 = (N : Int)) (ht : ∀ c, 0 ≤ c → c < g 1 → S (4 * u + 3) c = -1 ∨ (0 ≤ S (4 * u + 3) c ∧ S (4 * u + 3) c < N)) {b : Int} (b0 : 0 ≤ b) (b1 : b < nb) : PM κ mX0_pointsWithin 2 [.ref (B u), .int (J b)] (cset B S h) (.int (J (sz (fun c => if tb (QWt g ((ublk lf (S (4 * u + 3))) c) b) = true then g (4 + 4 * c + 1) else 0) nc))) := by
  refine mm_of (L := [some _, some _, none, none]) (by decide +kernel) rfl rfl (Nat.le_of_ble_eq_true rfl) rfl ?_
  have hDf := hD.fx (cfxF (S' := S) hB)
  have hVf := hV.fx (cfxF (S' := S) hB)
  obtain ⟨hO, hC, hE, hP, e1, e2, e3⟩ := id hD
  obtain ⟨hOp, hBl, hlv, hL, hN, hms, hmr, hS⟩ := id hV
  obtain ⟨fc, hAc, hbc⟩ := id hC
  obtain ⟨fb, hAb, hbb⟩ := id hBl
  have n0 := hW.n
  refine r_iconst dX0_pointsWithin_0 ?_
  refine r_is2 dX0_pointsWithin_1 rfl ?_
  refine r_iconst dX0_pointsWithin_2 ?_
  refine r_is3 dX0_pointsWithin_3 rfl ?_
  exact l_ptWithin κ h hB hu hW hD hV s0 s1 s2 ht b0 b1 (nc + 1) 0 (by omega) (by omega) (by omega)
