/-! ===== the questions that try no desk ===== -/
set_option maxRecDepth 100000 in
set_option maxHeartbeats 4000000 in
theorem x_foreign (κ : KP) (h : AH) {c : Int} (rc : rng c) : PM κ mX9_isForeignLetter 1 [.int (J c)] h (.int (J (bI (tb (QCap c))))) := by
  refine mm_of (L := [some _]) (by decide +kernel) rfl rfl (Nat.le_of_ble_eq_true rfl) rfl ?_
  refine r_il0 dX9_isForeignLetter_0 ?_
  refine r_bipush dX9_isForeignLetter_1 (by decide) ?_
  refine r_icmp_lt (tgt := 16) dX9_isForeignLetter_3 (by decide) (by (first | assumption | decide)) (by (first | assumption | decide)) (fun c_3 => ?_) (fun c_3 => ?_)
  · refine r_iconst dX9_isForeignLetter_16 ?_
    refine r_iret dX9_isForeignLetter_17 (ty := .boolean) rfl (by first | exact nar_B _ | decide) ?_
    first | exact ⟨rfl, rfl⟩ | exact ⟨ret_t (by unfold QCap; omega), rfl⟩ | exact ⟨ret_f (by unfold QCap; omega), rfl⟩
  · refine r_il0 dX9_isForeignLetter_6 ?_
    refine r_bipush dX9_isForeignLetter_7 (by decide) ?_
    refine r_icmp_gt (tgt := 16) dX9_isForeignLetter_9 (by decide) (by (first | assumption | decide)) (by (first | assumption | decide)) (fun c_9 => ?_) (fun c_9 => ?_)
    · refine r_iconst dX9_isForeignLetter_16 ?_
      refine r_iret dX9_isForeignLetter_17 (ty := .boolean) rfl (by first | exact nar_B _ | decide) ?_
      first | exact ⟨rfl, rfl⟩ | exact ⟨ret_t (by unfold QCap; omega), rfl⟩ | exact ⟨ret_f (by unfold QCap; omega), rfl⟩
    · refine r_iconst dX9_isForeignLetter_12 ?_
      refine r_goto (tgt := 17) dX9_isForeignLetter_13 (by decide) ?_
      refine r_iret dX9_isForeignLetter_17 (ty := .boolean) rfl (by first | exact nar_B _ | decide) ?_
      first | exact ⟨rfl, rfl⟩ | exact ⟨ret_t (by unfold QCap; omega), rfl⟩ | exact ⟨ret_f (by unfold QCap; omega), rfl⟩
set_option maxRecDepth 100000 in
set_option maxHeartbeats 4000000 in
theorem x_own (κ : KP) (h : AH) {c : Int} (rc : rng c) : PM κ mX9_isOwnLetter 1 [.int (J c)] h (.int (J (bI (tb (QLow c))))) := by
  refine mm_of (L := [some _]) (by decide +kernel) rfl rfl (Nat.le_of_ble_eq_true rfl) rfl ?_
  refine r_il0 dX9_isOwnLetter_0 ?_
  refine r_bipush dX9_isOwnLetter_1 (by decide) ?_
  refine r_icmp_lt (tgt := 16) dX9_isOwnLetter_3 (by decide) (by (first | assumption | decide)) (by (first | assumption | decide)) (fun c_3 => ?_) (fun c_3 => ?_)
  · refine r_iconst dX9_isOwnLetter_16 ?_
    refine r_iret dX9_isOwnLetter_17 (ty := .boolean) rfl (by first | exact nar_B _ | decide) ?_
    first | exact ⟨rfl, rfl⟩ | exact ⟨ret_t (by unfold QLow; omega), rfl⟩ | exact ⟨ret_f (by unfold QLow; omega), rfl⟩
  · refine r_il0 dX9_isOwnLetter_6 ?_
    refine r_bipush dX9_isOwnLetter_7 (by decide) ?_
    refine r_icmp_gt (tgt := 16) dX9_isOwnLetter_9 (by decide) (by (first | assumption | decide)) (by (first | assumption | decide)) (fun c_9 => ?_) (fun c_9 => ?_)
    · refine r_iconst dX9_isOwnLetter_16 ?_
      refine r_iret dX9_isOwnLetter_17 (ty := .boolean) rfl (by first | exact nar_B _ | decide) ?_
      first | exact ⟨rfl, rfl⟩ | exact ⟨ret_t (by unfold QLow; omega), rfl⟩ | exact ⟨ret_f (by unfold QLow; omega), rfl⟩
    · refine r_iconst dX9_isOwnLetter_12 ?_
      refine r_goto (tgt := 17) dX9_isOwnLetter_13 (by decide) ?_
      refine r_iret dX9_isOwnLetter_17 (ty := .boolean) rfl (by first | exact nar_B _ | decide) ?_
      first | exact ⟨rfl, rfl⟩ | exact ⟨ret_t (by unfold QLow; omega), rfl⟩ | exact ⟨ret_f (by unfold QLow; omega), rfl⟩
set_option maxRecDepth 100000 in
set_option maxHeartbeats 4000000 in
theorem x_areF (κ : KP) (h : AH) {a b : Int} (ra : rng a) (rb : rng b) : PM κ mX9_areForeignLetters 2 [.int (J a), .int (J b)] h (.int (J (bI (tb (QCap a ∧ (b = 32 ∨ (QCap b ∧ b ≠ a))))))) := by
  refine mm_of (L := [some _, some _]) (by decide +kernel) rfl rfl (Nat.le_of_ble_eq_true rfl) rfl ?_
  refine r_il0 dX9_areForeignLetters_0 ?_
  refine r_callSP1 dX9_areForeignLetters_1 s_X9_340 (x_foreign κ h ra) (by decide) rfl ?_
  refine r_ifT_eq (tgt := 29) dX9_areForeignLetters_4 (by decide) (fun c_4 => ?_) (fun c_4 => ?_)
  · refine r_iconst dX9_areForeignLetters_29 ?_
    refine r_iret dX9_areForeignLetters_30 (ty := .boolean) rfl (by first | exact nar_B _ | decide) ?_
    first | exact ⟨rfl, rfl⟩ | exact ⟨ret_t (by unfold QCap at *; omega), rfl⟩ | exact ⟨ret_f (by unfold QCap at *; omega), rfl⟩
  · refine r_il1 dX9_areForeignLetters_7 ?_
    refine r_bipush dX9_areForeignLetters_8 (by decide) ?_
    refine r_icmp_eq (tgt := 20) dX9_areForeignLetters_10 (by decide) (by (first | assumption | decide)) (by (first | assumption | decide)) (fun c_10 => ?_) (fun c_10 => ?_)
    · refine r_il0 dX9_areForeignLetters_20 ?_
      refine r_il1 dX9_areForeignLetters_21 ?_
      refine r_icmp_eq (tgt := 29) dX9_areForeignLetters_22 (by decide) (by (first | assumption | decide)) (by (first | assumption | decide)) (fun c_22 => ?_) (fun c_22 => ?_)
      · refine r_iconst dX9_areForeignLetters_29 ?_
        refine r_iret dX9_areForeignLetters_30 (ty := .boolean) rfl (by first | exact nar_B _ | decide) ?_
        first | exact ⟨rfl, rfl⟩ | exact ⟨ret_t (by unfold QCap at *; omega), rfl⟩ | exact ⟨ret_f (by unfold QCap at *; omega), rfl⟩
      · refine r_iconst dX9_areForeignLetters_25 ?_
        refine r_goto (tgt := 30) dX9_areForeignLetters_26 (by decide) ?_
        refine r_iret dX9_areForeignLetters_30 (ty := .boolean) rfl (by first | exact nar_B _ | decide) ?_
        first | exact ⟨rfl, rfl⟩ | exact ⟨ret_t (by unfold QCap at *; omega), rfl⟩ | exact ⟨ret_f (by unfold QCap at *; omega), rfl⟩
    · refine r_il1 dX9_areForeignLetters_13 ?_
      refine r_callSP1 dX9_areForeignLetters_14 s_X9_340 (x_foreign κ h rb) (by decide) rfl ?_
      refine r_ifT_eq (tgt := 29) dX9_areForeignLetters_17 (by decide) (fun c_17 => ?_) (fun c_17 => ?_)
      · refine r_iconst dX9_areForeignLetters_29 ?_
        refine r_iret dX9_areForeignLetters_30 (ty := .boolean) rfl (by first | exact nar_B _ | decide) ?_
        first | exact ⟨rfl, rfl⟩ | exact ⟨ret_t (by unfold QCap at *; omega), rfl⟩ | exact ⟨ret_f (by unfold QCap at *; omega), rfl⟩
      · refine r_il0 dX9_areForeignLetters_20 ?_
        refine r_il1 dX9_areForeignLetters_21 ?_
        refine r_icmp_eq (tgt := 29) dX9_areForeignLetters_22 (by decide) (by (first | assumption | decide)) (by (first | assumption | decide)) (fun c_22 => ?_) (fun c_22 => ?_)
        · refine r_iconst dX9_areForeignLetters_29 ?_
          refine r_iret dX9_areForeignLetters_30 (ty := .boolean) rfl (by first | exact nar_B _ | decide) ?_
          first | exact ⟨rfl, rfl⟩ | exact ⟨ret_t (by unfold QCap at *; omega), rfl⟩ | exact ⟨ret_f (by unfold QCap at *; omega), rfl⟩
        · refine r_iconst dX9_areForeignLetters_25 ?_
          refine r_goto (tgt := 30) dX9_areForeignLetters_26 (by decide) ?_
          refine r_iret dX9_areForeignLetters_30 (ty := .boolean) rfl (by first | exact nar_B _ | decide) ?_
          first | exact ⟨rfl, rfl⟩ | exact ⟨ret_t (by unfold QCap at *; omega), rfl⟩ | exact ⟨ret_f (by unfold QCap at *; omega), rfl⟩
set_option maxRecDepth 100000 in
set_option maxHeartbeats 4000000 in
theorem x_areO (κ : KP) (h : AH) {a b : Int} (ra : rng a) (rb : rng b) : PM κ mX9_areOwnLetters 2 [.int (J a), .int (J b)] h (.int (J (bI (tb (QLow a ∧ (b = 32 ∨ (QLow b ∧ b ≠ a))))))) := by
  refine mm_of (L := [some _, some _]) (by decide +kernel) rfl rfl (Nat.le_of_ble_eq_true rfl) rfl ?_
  refine r_il0 dX9_areOwnLetters_0 ?_
  refine r_callSP1 dX9_areOwnLetters_1 s_X9_344 (x_own κ h ra) (by decide) rfl ?_
  refine r_ifT_eq (tgt := 29) dX9_areOwnLetters_4 (by decide) (fun c_4 => ?_) (fun c_4 => ?_)
  · refine r_iconst dX9_areOwnLetters_29 ?_
    refine r_iret dX9_areOwnLetters_30 (ty := .boolean) rfl (by first | exact nar_B _ | decide) ?_
    first | exact ⟨rfl, rfl⟩ | exact ⟨ret_t (by unfold QLow at *; omega), rfl⟩ | exact ⟨ret_f (by unfold QLow at *; omega), rfl⟩
  · refine r_il1 dX9_areOwnLetters_7 ?_
    refine r_bipush dX9_areOwnLetters_8 (by decide) ?_
    refine r_icmp_eq (tgt := 20) dX9_areOwnLetters_10 (by decide) (by (first | assumption | decide)) (by (first | assumption | decide)) (fun c_10 => ?_) (fun c_10 => ?_)
    · refine r_il0 dX9_areOwnLetters_20 ?_
      refine r_il1 dX9_areOwnLetters_21 ?_
      refine r_icmp_eq (tgt := 29) dX9_areOwnLetters_22 (by decide) (by (first | assumption | decide)) (by (first | assumption | decide)) (fun c_22 => ?_) (fun c_22 => ?_)
      · refine r_iconst dX9_areOwnLetters_29 ?_
        refine r_iret dX9_areOwnLetters_30 (ty := .boolean) rfl (by first | exact nar_B _ | decide) ?_
        first | exact ⟨rfl, rfl⟩ | exact ⟨ret_t (by unfold QLow at *; omega), rfl⟩ | exact ⟨ret_f (by unfold QLow at *; omega), rfl⟩
      · refine r_iconst dX9_areOwnLetters_25 ?_
        refine r_goto (tgt := 30) dX9_areOwnLetters_26 (by decide) ?_
        refine r_iret dX9_areOwnLetters_30 (ty := .boolean) rfl (by first | exact nar_B _ | decide) ?_
        first | exact ⟨rfl, rfl⟩ | exact ⟨ret_t (by unfold QLow at *; omega), rfl⟩ | exact ⟨ret_f (by unfold QLow at *; omega), rfl⟩
    · refine r_il1 dX9_areOwnLetters_13 ?_
      refine r_callSP1 dX9_areOwnLetters_14 s_X9_344 (x_own κ h rb) (by decide) rfl ?_
      refine r_ifT_eq (tgt := 29) dX9_areOwnLetters_17 (by decide) (fun c_17 => ?_) (fun c_17 => ?_)
      · refine r_iconst dX9_areOwnLetters_29 ?_
        refine r_iret dX9_areOwnLetters_30 (ty := .boolean) rfl (by first | exact nar_B _ | decide) ?_
        first | exact ⟨rfl, rfl⟩ | exact ⟨ret_t (by unfold QLow at *; omega), rfl⟩ | exact ⟨ret_f (by unfold QLow at *; omega), rfl⟩
      · refine r_il0 dX9_areOwnLetters_20 ?_
        refine r_il1 dX9_areOwnLetters_21 ?_
        refine r_icmp_eq (tgt := 29) dX9_areOwnLetters_22 (by decide) (by (first | assumption | decide)) (by (first | assumption | decide)) (fun c_22 => ?_) (fun c_22 => ?_)
        · refine r_iconst dX9_areOwnLetters_29 ?_
          refine r_iret dX9_areOwnLetters_30 (ty := .boolean) rfl (by first | exact nar_B _ | decide) ?_
          first | exact ⟨rfl, rfl⟩ | exact ⟨ret_t (by unfold QLow at *; omega), rfl⟩ | exact ⟨ret_f (by unfold QLow at *; omega), rfl⟩
        · refine r_iconst dX9_areOwnLetters_25 ?_
          refine r_goto (tgt := 30) dX9_areOwnLetters_26 (by decide) ?_
          refine r_iret dX9_areOwnLetters_30 (ty := .boolean) rfl (by first | exact nar_B _ | decide) ?_
          first | exact ⟨rfl, rfl⟩ | exact ⟨ret_t (by unfold QLow at *; omega), rfl⟩ | exact ⟨ret_f (by unfold QLow at *; omega), rfl⟩
set_option maxRecDepth 100000 in
set_option maxHeartbeats 4000000 in
theorem x_hasCredit (κ : KP) {B : Nat → Nat} {S : CST} {Γ : Nat → Int → Int} {q : Nat} (h : AH) (hB : BA B) (hI : ClS κ (cset B S h) S Γ q) {c : Int} (rc : rng c) : PM κ mX9_hasCredit 1 [.ref (B 0), .int (J c)] (cset B S h) (.int (J (bI (tb (QIn c 0 (Γ q 1 - 1)))))) := by
  refine mm_of (L := [some _, some _]) (by decide +kernel) rfl rfl (Nat.le_of_ble_eq_true rfl) rfl ?_
  obtain ⟨h05, hD, hW, hG, hU⟩ := id hI
  obtain ⟨cr, eq, p, nc, ne, nb, hO, hC, hE, hP, e1, e2, e3⟩ := id hD
  have hDV : DkV κ (cset B S h) q (Γ q) cr eq p nc ne nb := ⟨hO, hC, hE, hP, e1, e2, e3⟩
  obtain ⟨fc, hAc, hbc⟩ := id hC
  obtain ⟨fe, hAe, hbe⟩ := id hE
  obtain ⟨bl, lv, ms, mr, N, lf, fm, fr, hV⟩ := id hP
  have hOp := hV.1
  have hAl := hV.2.2.1
  obtain ⟨fb, hAb, hbb⟩ := id hV.2.1
  have n0 := hW.n
  have hRw := hW.rw e3
  refine r_il1 dX9_hasCredit_0 ?_
  refine r_if_lt (tgt := 20) dX9_hasCredit_1 (by decide) (by (first | omega)) (fun c_1 => ?_) (fun c_1 => ?_)
  · refine r_iconst dX9_hasCredit_20 ?_
    refine r_iret dX9_hasCredit_21 (ty := .boolean) rfl (by first | exact nar_B _ | decide) ?_
    first | exact ⟨rfl, rfl⟩ | exact ⟨ret_t (by unfold QIn; omega), rfl⟩ | exact ⟨ret_f (by unfold QIn; omega), rfl⟩
  · refine r_il1 dX9_hasCredit_4 ?_
    refine r_al0 dX9_hasCredit_5 ?_
    refine b_getR dX9_hasCredit_6 f_X9_39 hB (by decide) rfl rfl (by first | exact h05 | exact h05u) ?_
    refine r_getfield dX9_hasCredit_9 f_X9_79 (by first | assumption | exact cfx hB hO | exact cfx hB hOp | exact cfx hB hAc | exact cfx hB hAb | exact cfx hB hAe) rfl ?_
    refine r_alenF dX9_hasCredit_12 (by first | assumption | exact cfx hB hO | exact cfx hB hOp | exact cfx hB hAc | exact cfx hB hAb | exact cfx hB hAe) (by decide) (rfl) ?_
    refine r_icmp_ge (tgt := 20) dX9_hasCredit_13 (by decide) (by (first | omega)) (by (first | omega)) (fun c_13 => ?_) (fun c_13 => ?_)
    · refine r_iconst dX9_hasCredit_20 ?_
      refine r_iret dX9_hasCredit_21 (ty := .boolean) rfl (by first | exact nar_B _ | decide) ?_
      first | exact ⟨rfl, rfl⟩ | exact ⟨ret_t (by unfold QIn; omega), rfl⟩ | exact ⟨ret_f (by unfold QIn; omega), rfl⟩
    · refine r_iconst dX9_hasCredit_16 ?_
      refine r_goto (tgt := 21) dX9_hasCredit_17 (by decide) ?_
      refine r_iret dX9_hasCredit_21 (ty := .boolean) rfl (by first | exact nar_B _ | decide) ?_
      first | exact ⟨rfl, rfl⟩ | exact ⟨ret_t (by unfold QIn; omega), rfl⟩ | exact ⟨ret_f (by unfold QIn; omega), rfl⟩
set_option maxRecDepth 100000 in
set_option maxHeartbeats 4000000 in
theorem x_hasEq (κ : KP) {B : Nat → Nat} {S : CST} {Γ : Nat → Int → Int} {q : Nat} (h : AH) (hB : BA B) (hI : ClS κ (cset B S h) S Γ q) {c : Int} (rc : rng c) : PM κ mX9_hasEquivalence 1 [.ref (B 0), .int (J c)] (cset B S h) (.int (J (bI (tb (QIn c 0 (Γ q 2 - 1)))))) := by
  refine mm_of (L := [some _, some _]) (by decide +kernel) rfl rfl (Nat.le_of_ble_eq_true rfl) rfl ?_
  obtain ⟨h05, hD, hW, hG, hU⟩ := id hI
  obtain ⟨cr, eq, p, nc, ne, nb, hO, hC, hE, hP, e1, e2, e3⟩ := id hD
  have hDV : DkV κ (cset B S h) q (Γ q) cr eq p nc ne nb := ⟨hO, hC, hE, hP, e1, e2, e3⟩
  obtain ⟨fc, hAc, hbc⟩ := id hC
  obtain ⟨fe, hAe, hbe⟩ := id hE
  obtain ⟨bl, lv, ms, mr, N, lf, fm, fr, hV⟩ := id hP
  have hOp := hV.1
  have hAl := hV.2.2.1
  obtain ⟨fb, hAb, hbb⟩ := id hV.2.1
  have n0 := hW.n
  have hRw := hW.rw e3
  refine r_il1 dX9_hasEquivalence_0 ?_
  refine r_if_lt (tgt := 20) dX9_hasEquivalence_1 (by decide) (by (first | omega)) (fun c_1 => ?_) (fun c_1 => ?_)
  · refine r_iconst dX9_hasEquivalence_20 ?_
    refine r_iret dX9_hasEquivalence_21 (ty := .boolean) rfl (by first | exact nar_B _ | decide) ?_
    first | exact ⟨rfl, rfl⟩ | exact ⟨ret_t (by unfold QIn; omega), rfl⟩ | exact ⟨ret_f (by unfold QIn; omega), rfl⟩
  · refine r_il1 dX9_hasEquivalence_4 ?_
    refine r_al0 dX9_hasEquivalence_5 ?_
    refine b_getR dX9_hasEquivalence_6 f_X9_39 hB (by decide) rfl rfl (by first | exact h05 | exact h05u) ?_
    refine r_getfield dX9_hasEquivalence_9 f_X9_166 (by first | assumption | exact cfx hB hO | exact cfx hB hOp | exact cfx hB hAc | exact cfx hB hAb | exact cfx hB hAe) rfl ?_
    refine r_alenF dX9_hasEquivalence_12 (by first | assumption | exact cfx hB hO | exact cfx hB hOp | exact cfx hB hAc | exact cfx hB hAb | exact cfx hB hAe) (by decide) (rfl) ?_
    refine r_icmp_ge (tgt := 20) dX9_hasEquivalence_13 (by decide) (by (first | omega)) (by (first | omega)) (fun c_13 => ?_) (fun c_13 => ?_)
    · refine r_iconst dX9_hasEquivalence_20 ?_
      refine r_iret dX9_hasEquivalence_21 (ty := .boolean) rfl (by first | exact nar_B _ | decide) ?_
      first | exact ⟨rfl, rfl⟩ | exact ⟨ret_t (by unfold QIn; omega), rfl⟩ | exact ⟨ret_f (by unfold QIn; omega), rfl⟩
    · refine r_iconst dX9_hasEquivalence_16 ?_
      refine r_goto (tgt := 21) dX9_hasEquivalence_17 (by decide) ?_
      refine r_iret dX9_hasEquivalence_21 (ty := .boolean) rfl (by first | exact nar_B _ | decide) ?_
      first | exact ⟨rfl, rfl⟩ | exact ⟨ret_t (by unfold QIn; omega), rfl⟩ | exact ⟨ret_f (by unfold QIn; omega), rfl⟩
set_option maxRecDepth 100000 in
set_option maxHeartbeats 4000000 in
theorem x_hasBlock (κ : KP) {B : Nat → Nat} {S : CST} {Γ : Nat → Int → Int} {q : Nat} (h : AH) (hB : BA B) (hI : ClS κ (cset B S h) S Γ q) {c : Int} (rc : rng c) : PM κ mX9_hasBlock 1 [.ref (B 0), .int (J c)] (cset B S h) (.int (J (bI (tb (QIn c 0 (Γ q 3 - 1)))))) := by
  refine mm_of (L := [some _, some _]) (by decide +kernel) rfl rfl (Nat.le_of_ble_eq_true rfl) rfl ?_
  obtain ⟨h05, hD, hW, hG, hU⟩ := id hI
  obtain ⟨cr, eq, p, nc, ne, nb, hO, hC, hE, hP, e1, e2, e3⟩ := id hD
  have hDV : DkV κ (cset B S h) q (Γ q) cr eq p nc ne nb := ⟨hO, hC, hE, hP, e1, e2, e3⟩
  obtain ⟨fc, hAc, hbc⟩ := id hC
  obtain ⟨fe, hAe, hbe⟩ := id hE
  obtain ⟨bl, lv, ms, mr, N, lf, fm, fr, hV⟩ := id hP
  have hOp := hV.1
  have hAl := hV.2.2.1
  obtain ⟨fb, hAb, hbb⟩ := id hV.2.1
  have n0 := hW.n
  have hRw := hW.rw e3
  refine r_il1 dX9_hasBlock_0 ?_
  refine r_if_lt (tgt := 23) dX9_hasBlock_1 (by decide) (by (first | omega)) (fun c_1 => ?_) (fun c_1 => ?_)
  · refine r_iconst dX9_hasBlock_23 ?_
    refine r_iret dX9_hasBlock_24 (ty := .boolean) rfl (by first | exact nar_B _ | decide) ?_
    first | exact ⟨rfl, rfl⟩ | exact ⟨ret_t (by unfold QIn; omega), rfl⟩ | exact ⟨ret_f (by unfold QIn; omega), rfl⟩
  · refine r_il1 dX9_hasBlock_4 ?_
    refine r_al0 dX9_hasBlock_5 ?_
    refine b_getR dX9_hasBlock_6 f_X9_39 hB (by decide) rfl rfl (by first | exact h05 | exact h05u) ?_
    refine r_getfield dX9_hasBlock_9 f_X9_135 (by first | assumption | exact cfx hB hO | exact cfx hB hOp | exact cfx hB hAc | exact cfx hB hAb | exact cfx hB hAe) rfl ?_
    refine r_getfield dX9_hasBlock_12 f_X9_139 (by first | assumption | exact cfx hB hO | exact cfx hB hOp | exact cfx hB hAc | exact cfx hB hAb | exact cfx hB hAe) rfl ?_
    refine r_alenF dX9_hasBlock_15 (by first | assumption | exact cfx hB hO | exact cfx hB hOp | exact cfx hB hAc | exact cfx hB hAb | exact cfx hB hAe) (by decide) (rfl) ?_
    refine r_icmp_ge (tgt := 23) dX9_hasBlock_16 (by decide) (by (first | omega)) (by (first | omega)) (fun c_16 => ?_) (fun c_16 => ?_)
    · refine r_iconst dX9_hasBlock_23 ?_
      refine r_iret dX9_hasBlock_24 (ty := .boolean) rfl (by first | exact nar_B _ | decide) ?_
      first | exact ⟨rfl, rfl⟩ | exact ⟨ret_t (by unfold QIn; omega), rfl⟩ | exact ⟨ret_f (by unfold QIn; omega), rfl⟩
    · refine r_iconst dX9_hasBlock_19 ?_
      refine r_goto (tgt := 24) dX9_hasBlock_20 (by decide) ?_
      refine r_iret dX9_hasBlock_24 (ty := .boolean) rfl (by first | exact nar_B _ | decide) ?_
      first | exact ⟨rfl, rfl⟩ | exact ⟨ret_t (by unfold QIn; omega), rfl⟩ | exact ⟨ret_f (by unfold QIn; omega), rfl⟩
set_option maxRecDepth 100000 in
set_option maxHeartbeats 4000000 in
theorem x_inRange (κ : KP) {B : Nat → Nat} {S : CST} {Γ : Nat → Int → Int} {q : Nat} (h : AH) (hB : BA B) (hI : ClS κ (cset B S h) S Γ q) {a b c e : Int} (ra : rng a) (rb : rng b) (rc : rng c) (re : rng e) : PM κ mX9_isInRange 2 [.ref (B 0), .int (J a), .int (J b), .int (J c), .int (J e)] (cset B S h) (.int (J (bI (tb (QMay (Γ q) a b c e))))) := by
  refine mm_of (L := [some _, some _, some _, some _, some _]) (by decide +kernel) rfl rfl (Nat.le_of_ble_eq_true rfl) rfl ?_
  obtain ⟨h05, hD, hW, hG, hU⟩ := id hI
  obtain ⟨cr, eq, p, nc, ne, nb, hO, hC, hE, hP, e1, e2, e3⟩ := id hD
  have hDV : DkV κ (cset B S h) q (Γ q) cr eq p nc ne nb := ⟨hO, hC, hE, hP, e1, e2, e3⟩
  obtain ⟨fc, hAc, hbc⟩ := id hC
  obtain ⟨fe, hAe, hbe⟩ := id hE
  obtain ⟨bl, lv, ms, mr, N, lf, fm, fr, hV⟩ := id hP
  have hOp := hV.1
  have hAl := hV.2.2.1
  obtain ⟨fb, hAb, hbb⟩ := id hV.2.1
  have n0 := hW.n
  have hRw := hW.rw e3
  refine r_il1 dX9_isInRange_0 ?_
  refine r_callSP1 dX9_isInRange_1 s_X9_340 (x_foreign κ _ ra) (by decide) rfl ?_
  refine r_ifT_ne (tgt := 14) dX9_isInRange_4 (by decide) (fun c_4 => ?_) (fun c_4 => ?_)
  · refine r_il2 dX9_isInRange_14 ?_
    refine r_iconst dX9_isInRange_15 ?_
    refine r_icmp_lt (tgt := 56) dX9_isInRange_16 (by decide) (by (first | assumption | omega)) (by (first | assumption | omega)) (fun c_16 => ?_) (fun c_16 => ?_)
    · refine r_iconst dX9_isInRange_56 ?_
      refine r_iret dX9_isInRange_57 (ty := .boolean) rfl (by first | exact nar_B _ | decide) ?_
      first | exact ⟨rfl, rfl⟩ | exact ⟨ret_t (by unfold QMay QIn; first | omega | (refine ⟨?_, ?_, ?_, ?_⟩ <;> first | omega | exact Or.inr (by assumption) | exact Or.inl (by assumption)) | (rintro ⟨z, -⟩; rcases z with z | z <;> contradiction)), rfl⟩ | exact ⟨ret_f (by unfold QMay QIn; first | omega | (refine ⟨?_, ?_, ?_, ?_⟩ <;> first | omega | exact Or.inr (by assumption) | exact Or.inl (by assumption)) | (rintro ⟨z, -⟩; rcases z with z | z <;> contradiction)), rfl⟩
    · refine r_il2 dX9_isInRange_19 ?_
      refine r_bipush dX9_isInRange_20 (by decide) ?_
      refine r_icmp_gt (tgt := 56) dX9_isInRange_22 (by decide) (by (first | assumption | omega)) (by (first | assumption | omega)) (fun c_22 => ?_) (fun c_22 => ?_)
      · refine r_iconst dX9_isInRange_56 ?_
        refine r_iret dX9_isInRange_57 (ty := .boolean) rfl (by first | exact nar_B _ | decide) ?_
        first | exact ⟨rfl, rfl⟩ | exact ⟨ret_t (by unfold QMay QIn; first | omega | (refine ⟨?_, ?_, ?_, ?_⟩ <;> first | omega | exact Or.inr (by assumption) | exact Or.inl (by assumption)) | (rintro ⟨z, -⟩; rcases z with z | z <;> contradiction)), rfl⟩ | exact ⟨ret_f (by unfold QMay QIn; first | omega | (refine ⟨?_, ?_, ?_, ?_⟩ <;> first | omega | exact Or.inr (by assumption) | exact Or.inl (by assumption)) | (rintro ⟨z, -⟩; rcases z with z | z <;> contradiction)), rfl⟩
      · refine r_il3 dX9_isInRange_25 ?_
        refine r_if_lt (tgt := 56) dX9_isInRange_26 (by decide) (by (first | assumption | omega)) (fun c_26 => ?_) (fun c_26 => ?_)
        · refine r_iconst dX9_isInRange_56 ?_
          refine r_iret dX9_isInRange_57 (ty := .boolean) rfl (by first | exact nar_B _ | decide) ?_
          first | exact ⟨rfl, rfl⟩ | exact ⟨ret_t (by unfold QMay QIn; first | omega | (refine ⟨?_, ?_, ?_, ?_⟩ <;> first | omega | exact Or.inr (by assumption) | exact Or.inl (by assumption)) | (rintro ⟨z, -⟩; rcases z with z | z <;> contradiction)), rfl⟩ | exact ⟨ret_f (by unfold QMay QIn; first | omega | (refine ⟨?_, ?_, ?_, ?_⟩ <;> first | omega | exact Or.inr (by assumption) | exact Or.inl (by assumption)) | (rintro ⟨z, -⟩; rcases z with z | z <;> contradiction)), rfl⟩
        · refine r_il3 dX9_isInRange_29 ?_
          refine r_bipush dX9_isInRange_30 (by decide) ?_
          refine r_icmp_gt (tgt := 56) dX9_isInRange_32 (by decide) (by (first | assumption | omega)) (by (first | assumption | omega)) (fun c_32 => ?_) (fun c_32 => ?_)
          · refine r_iconst dX9_isInRange_56 ?_
            refine r_iret dX9_isInRange_57 (ty := .boolean) rfl (by first | exact nar_B _ | decide) ?_
            first | exact ⟨rfl, rfl⟩ | exact ⟨ret_t (by unfold QMay QIn; first | omega | (refine ⟨?_, ?_, ?_, ?_⟩ <;> first | omega | exact Or.inr (by assumption) | exact Or.inl (by assumption)) | (rintro ⟨z, -⟩; rcases z with z | z <;> contradiction)), rfl⟩ | exact ⟨ret_f (by unfold QMay QIn; first | omega | (refine ⟨?_, ?_, ?_, ?_⟩ <;> first | omega | exact Or.inr (by assumption) | exact Or.inl (by assumption)) | (rintro ⟨z, -⟩; rcases z with z | z <;> contradiction)), rfl⟩
          · refine r_il4 dX9_isInRange_35 ?_
            refine r_if_lt (tgt := 56) dX9_isInRange_37 (by decide) (by (first | assumption | omega)) (fun c_37 => ?_) (fun c_37 => ?_)
            · refine r_iconst dX9_isInRange_56 ?_
              refine r_iret dX9_isInRange_57 (ty := .boolean) rfl (by first | exact nar_B _ | decide) ?_
              first | exact ⟨rfl, rfl⟩ | exact ⟨ret_t (by unfold QMay QIn; first | omega | (refine ⟨?_, ?_, ?_, ?_⟩ <;> first | omega | exact Or.inr (by assumption) | exact Or.inl (by assumption)) | (rintro ⟨z, -⟩; rcases z with z | z <;> contradiction)), rfl⟩ | exact ⟨ret_f (by unfold QMay QIn; first | omega | (refine ⟨?_, ?_, ?_, ?_⟩ <;> first | omega | exact Or.inr (by assumption) | exact Or.inl (by assumption)) | (rintro ⟨z, -⟩; rcases z with z | z <;> contradiction)), rfl⟩
            · refine r_il4 dX9_isInRange_40 ?_
              refine r_al0 dX9_isInRange_42 ?_
              refine b_getR dX9_isInRange_43 f_X9_39 hB (by decide) rfl rfl (by first | exact h05 | exact h05u) ?_
              refine r_getfield dX9_isInRange_46 f_X9_264 (by first | assumption | exact cfx hB hO | exact cfx hB hOp | exact cfx hB hAc | exact cfx hB hAb | exact cfx hB hAe) rfl ?_
              refine r_icmp_gt (tgt := 56) dX9_isInRange_49 (by decide) (by (first | assumption | omega)) (by (first | assumption | omega)) (fun c_49 => ?_) (fun c_49 => ?_)
              · refine r_iconst dX9_isInRange_56 ?_
                refine r_iret dX9_isInRange_57 (ty := .boolean) rfl (by first | exact nar_B _ | decide) ?_
                first | exact ⟨rfl, rfl⟩ | exact ⟨ret_t (by unfold QMay QIn; first | omega | (refine ⟨?_, ?_, ?_, ?_⟩ <;> first | omega | exact Or.inr (by assumption) | exact Or.inl (by assumption)) | (rintro ⟨z, -⟩; rcases z with z | z <;> contradiction)), rfl⟩ | exact ⟨ret_f (by unfold QMay QIn; first | omega | (refine ⟨?_, ?_, ?_, ?_⟩ <;> first | omega | exact Or.inr (by assumption) | exact Or.inl (by assumption)) | (rintro ⟨z, -⟩; rcases z with z | z <;> contradiction)), rfl⟩
              · refine r_iconst dX9_isInRange_52 ?_
                refine r_goto (tgt := 57) dX9_isInRange_53 (by decide) ?_
                refine r_iret dX9_isInRange_57 (ty := .boolean) rfl (by first | exact nar_B _ | decide) ?_
                first | exact ⟨rfl, rfl⟩ | exact ⟨ret_t (by unfold QMay QIn; first | omega | (refine ⟨?_, ?_, ?_, ?_⟩ <;> first | omega | exact Or.inr (by assumption) | exact Or.inl (by assumption)) | (rintro ⟨z, -⟩; rcases z with z | z <;> contradiction)), rfl⟩ | exact ⟨ret_f (by unfold QMay QIn; first | omega | (refine ⟨?_, ?_, ?_, ?_⟩ <;> first | omega | exact Or.inr (by assumption) | exact Or.inl (by assumption)) | (rintro ⟨z, -⟩; rcases z with z | z <;> contradiction)), rfl⟩
  · refine r_il1 dX9_isInRange_7 ?_
    refine r_callSP1 dX9_isInRange_8 s_X9_344 (x_own κ _ ra) (by decide) rfl ?_
    refine r_ifT_eq (tgt := 56) dX9_isInRange_11 (by decide) (fun c_11 => ?_) (fun c_11 => ?_)
    · refine r_iconst dX9_isInRange_56 ?_
      refine r_iret dX9_isInRange_57 (ty := .boolean) rfl (by first | exact nar_B _ | decide) ?_
      first | exact ⟨rfl, rfl⟩ | exact ⟨ret_t (by unfold QMay QIn; first | omega | (refine ⟨?_, ?_, ?_, ?_⟩ <;> first | omega | exact Or.inr (by assumption) | exact Or.inl (by assumption)) | (rintro ⟨z, -⟩; rcases z with z | z <;> contradiction)), rfl⟩ | exact ⟨ret_f (by unfold QMay QIn; first | omega | (refine ⟨?_, ?_, ?_, ?_⟩ <;> first | omega | exact Or.inr (by assumption) | exact Or.inl (by assumption)) | (rintro ⟨z, -⟩; rcases z with z | z <;> contradiction)), rfl⟩
    · refine r_il2 dX9_isInRange_14 ?_
      refine r_iconst dX9_isInRange_15 ?_
      refine r_icmp_lt (tgt := 56) dX9_isInRange_16 (by decide) (by (first | assumption | omega)) (by (first | assumption | omega)) (fun c_16 => ?_) (fun c_16 => ?_)
      · refine r_iconst dX9_isInRange_56 ?_
        refine r_iret dX9_isInRange_57 (ty := .boolean) rfl (by first | exact nar_B _ | decide) ?_
        first | exact ⟨rfl, rfl⟩ | exact ⟨ret_t (by unfold QMay QIn; first | omega | (refine ⟨?_, ?_, ?_, ?_⟩ <;> first | omega | exact Or.inr (by assumption) | exact Or.inl (by assumption)) | (rintro ⟨z, -⟩; rcases z with z | z <;> contradiction)), rfl⟩ | exact ⟨ret_f (by unfold QMay QIn; first | omega | (refine ⟨?_, ?_, ?_, ?_⟩ <;> first | omega | exact Or.inr (by assumption) | exact Or.inl (by assumption)) | (rintro ⟨z, -⟩; rcases z with z | z <;> contradiction)), rfl⟩
      · refine r_il2 dX9_isInRange_19 ?_
        refine r_bipush dX9_isInRange_20 (by decide) ?_
        refine r_icmp_gt (tgt := 56) dX9_isInRange_22 (by decide) (by (first | assumption | omega)) (by (first | assumption | omega)) (fun c_22 => ?_) (fun c_22 => ?_)
        · refine r_iconst dX9_isInRange_56 ?_
          refine r_iret dX9_isInRange_57 (ty := .boolean) rfl (by first | exact nar_B _ | decide) ?_
          first | exact ⟨rfl, rfl⟩ | exact ⟨ret_t (by unfold QMay QIn; first | omega | (refine ⟨?_, ?_, ?_, ?_⟩ <;> first | omega | exact Or.inr (by assumption) | exact Or.inl (by assumption)) | (rintro ⟨z, -⟩; rcases z with z | z <;> contradiction)), rfl⟩ | exact ⟨ret_f (by unfold QMay QIn; first | omega | (refine ⟨?_, ?_, ?_, ?_⟩ <;> first | omega | exact Or.inr (by assumption) | exact Or.inl (by assumption)) | (rintro ⟨z, -⟩; rcases z with z | z <;> contradiction)), rfl⟩
        · refine r_il3 dX9_isInRange_25 ?_
          refine r_if_lt (tgt := 56) dX9_isInRange_26 (by decide) (by (first | assumption | omega)) (fun c_26 => ?_) (fun c_26 => ?_)
          · refine r_iconst dX9_isInRange_56 ?_
            refine r_iret dX9_isInRange_57 (ty := .boolean) rfl (by first | exact nar_B _ | decide) ?_
            first | exact ⟨rfl, rfl⟩ | exact ⟨ret_t (by unfold QMay QIn; first | omega | (refine ⟨?_, ?_, ?_, ?_⟩ <;> first | omega | exact Or.inr (by assumption) | exact Or.inl (by assumption)) | (rintro ⟨z, -⟩; rcases z with z | z <;> contradiction)), rfl⟩ | exact ⟨ret_f (by unfold QMay QIn; first | omega | (refine ⟨?_, ?_, ?_, ?_⟩ <;> first | omega | exact Or.inr (by assumption) | exact Or.inl (by assumption)) | (rintro ⟨z, -⟩; rcases z with z | z <;> contradiction)), rfl⟩
          · refine r_il3 dX9_isInRange_29 ?_
            refine r_bipush dX9_isInRange_30 (by decide) ?_
            refine r_icmp_gt (tgt := 56) dX9_isInRange_32 (by decide) (by (first | assumption | omega)) (by (first | assumption | omega)) (fun c_32 => ?_) (fun c_32 => ?_)
            · refine r_iconst dX9_isInRange_56 ?_
              refine r_iret dX9_isInRange_57 (ty := .boolean) rfl (by first | exact nar_B _ | decide) ?_
              first | exact ⟨rfl, rfl⟩ | exact ⟨ret_t (by unfold QMay QIn; first | omega | (refine ⟨?_, ?_, ?_, ?_⟩ <;> first | omega | exact Or.inr (by assumption) | exact Or.inl (by assumption)) | (rintro ⟨z, -⟩; rcases z with z | z <;> contradiction)), rfl⟩ | exact ⟨ret_f (by unfold QMay QIn; first | omega | (refine ⟨?_, ?_, ?_, ?_⟩ <;> first | omega | exact Or.inr (by assumption) | exact Or.inl (by assumption)) | (rintro ⟨z, -⟩; rcases z with z | z <;> contradiction)), rfl⟩
            · refine r_il4 dX9_isInRange_35 ?_
              refine r_if_lt (tgt := 56) dX9_isInRange_37 (by decide) (by (first | assumption | omega)) (fun c_37 => ?_) (fun c_37 => ?_)
              · refine r_iconst dX9_isInRange_56 ?_
                refine r_iret dX9_isInRange_57 (ty := .boolean) rfl (by first | exact nar_B _ | decide) ?_
                first | exact ⟨rfl, rfl⟩ | exact ⟨ret_t (by unfold QMay QIn; first | omega | (refine ⟨?_, ?_, ?_, ?_⟩ <;> first | omega | exact Or.inr (by assumption) | exact Or.inl (by assumption)) | (rintro ⟨z, -⟩; rcases z with z | z <;> contradiction)), rfl⟩ | exact ⟨ret_f (by unfold QMay QIn; first | omega | (refine ⟨?_, ?_, ?_, ?_⟩ <;> first | omega | exact Or.inr (by assumption) | exact Or.inl (by assumption)) | (rintro ⟨z, -⟩; rcases z with z | z <;> contradiction)), rfl⟩
              · refine r_il4 dX9_isInRange_40 ?_
                refine r_al0 dX9_isInRange_42 ?_
                refine b_getR dX9_isInRange_43 f_X9_39 hB (by decide) rfl rfl (by first | exact h05 | exact h05u) ?_
                refine r_getfield dX9_isInRange_46 f_X9_264 (by first | assumption | exact cfx hB hO | exact cfx hB hOp | exact cfx hB hAc | exact cfx hB hAb | exact cfx hB hAe) rfl ?_
                refine r_icmp_gt (tgt := 56) dX9_isInRange_49 (by decide) (by (first | assumption | omega)) (by (first | assumption | omega)) (fun c_49 => ?_) (fun c_49 => ?_)
                · refine r_iconst dX9_isInRange_56 ?_
                  refine r_iret dX9_isInRange_57 (ty := .boolean) rfl (by first | exact nar_B _ | decide) ?_
                  first | exact ⟨rfl, rfl⟩ | exact ⟨ret_t (by unfold QMay QIn; first | omega | (refine ⟨?_, ?_, ?_, ?_⟩ <;> first | omega | exact Or.inr (by assumption) | exact Or.inl (by assumption)) | (rintro ⟨z, -⟩; rcases z with z | z <;> contradiction)), rfl⟩ | exact ⟨ret_f (by unfold QMay QIn; first | omega | (refine ⟨?_, ?_, ?_, ?_⟩ <;> first | omega | exact Or.inr (by assumption) | exact Or.inl (by assumption)) | (rintro ⟨z, -⟩; rcases z with z | z <;> contradiction)), rfl⟩
                · refine r_iconst dX9_isInRange_52 ?_
                  refine r_goto (tgt := 57) dX9_isInRange_53 (by decide) ?_
                  refine r_iret dX9_isInRange_57 (ty := .boolean) rfl (by first | exact nar_B _ | decide) ?_
                  first | exact ⟨rfl, rfl⟩ | exact ⟨ret_t (by unfold QMay QIn; first | omega | (refine ⟨?_, ?_, ?_, ?_⟩ <;> first | omega | exact Or.inr (by assumption) | exact Or.inl (by assumption)) | (rintro ⟨z, -⟩; rcases z with z | z <;> contradiction)), rfl⟩ | exact ⟨ret_f (by unfold QMay QIn; first | omega | (refine ⟨?_, ?_, ?_, ?_⟩ <;> first | omega | exact Or.inr (by assumption) | exact Or.inl (by assumption)) | (rintro ⟨z, -⟩; rcases z with z | z <;> contradiction)), rfl⟩
set_option maxRecDepth 100000 in
set_option maxHeartbeats 4000000 in
theorem x_bestUse (κ : KP) {B : Nat → Nat} {S : CST} {Γ : Nat → Int → Int} {q : Nat} (h : AH) (hB : BA B) (hI : ClS κ (cset B S h) S Γ q) : MM κ mX9_bestUse 21 0 0 [.ref (B 0)] (cset B S h) (fun v h' => v = some (.ref (B 3)) ∧ ∃ S' : CST, h' = cset B S' h ∧ SK [3, 12, 13, 14, 15] S S' ∧ ∃ U, UKU κ (cset B S' h) (Γ q) S' 3 q U) NoX := by
  refine mm_of (L := [some _]) (by decide +kernel) rfl rfl (Nat.le_of_ble_eq_true rfl) rfl ?_
  obtain ⟨h05, hD, hW, hG, hU⟩ := id hI
  obtain ⟨q3, hU3⟩ := hU 3 (Or.inl rfl)
  refine r_al0 dX9_bestUse_0 ?_
  refine b_get dX9_bestUse_1 f_X9_48 hB (by decide) (k9 := 0) rfl rfl ?_
  refine r_al0 dX9_bestUse_4 ?_
  refine b_getR dX9_bestUse_5 f_X9_39 hB (by decide) rfl rfl (h05) ?_
  refine r_callV (As := [.ref q]) dX9_bestUse_8 v_X9_347 (cs_obj hB (k9 := 3) (by decide) rfl) (c_find κ h hB (u := 3) (Or.inl rfl) hW hD hU3 (fun z => by rw [z])) (by decide) rfl rfl (cat_le rfl) (Nat.zero_le _) (Nat.zero_le _) (fun v h9 hq9 => ?_) (fun _ _ hx => hx.elim)
  obtain ⟨rfl, S9, rfl, x9, hK⟩ := hq9
  refine r_al0 dX9_bestUse_11 ?_
  refine b_get dX9_bestUse_12 f_X9_48 hB (by decide) (k9 := 0) rfl rfl ?_
  exact r_aret dX9_bestUse_15 rfl ⟨rfl, S9, rfl, x9, hK.u⟩
theorem least {α : Type} {T : α → Prop} (f : α → Nat) : ∀ (n : Nat) (u : α), T u → f u ≤ n → ∃ u, T u ∧ ∀ v, T v → f u ≤ f v
  | 0, u, h, hn => ⟨u, h, fun v _ => by omega⟩
  | n + 1, u, h, hn => by
    by_cases q : ∃ v, T v ∧ f v < f u
    · obtain ⟨v, hv, hl⟩ := q
      exact least f n v hv (by omega)
    · exact ⟨u, h, fun v hv => Nat.le_of_not_lt fun z => q ⟨v, hv, z⟩⟩
theorem LX_least {T : (Int → Int) → Prop} : ∀ n : Nat, (∃ u, T u) → ∃ u, T u ∧ ∀ v, T v → ¬ LX n v u
  | 0, ⟨u, h⟩ => ⟨u, h, fun v _ ⟨c, c0, c1, _⟩ => by omega⟩
  | n + 1, h => by
    obtain ⟨u0, h0, h1⟩ := LX_least n h
    obtain ⟨u, ⟨a, b⟩, c⟩ := least (T := fun u => T u ∧ ∀ v, T v → ¬ LX n v u) (fun u => (rk (u n)).toNat) _ u0 ⟨h0, h1⟩ (Nat.le_refl _)
    refine ⟨u, a, fun v hv ⟨j, j0, j1, j2, j3⟩ => ?_⟩
    rcases (show j < n ∨ j = n by omega) with z | z
    · exact b v hv ⟨j, j0, z, j2, j3⟩
    · rw [z] at j2 j3
      have h9 := c v ⟨hv, fun w hw hx => b w hw (hx.eqR j2)⟩
      have r1 : 0 ≤ rk (v n) := by
        unfold rk
        split <;> omega
      omega
theorem qkey_bd {g u : Int → Int} (hW : WF g) : qkey g u ≤ 88000 := by
  have hn := hW.n
  have h1 := sz_01 (f := fR g u) (k := g 3) (by omega) (fun _ => bP_01 _)
  have h2 := sz_01 (f := fL g u) (k := g 3) (by omega) (fun _ => bP_01 _)
  have h3 := (qpt_bd hW (p := fun c => 0 ≤ u c) (k := g 1) (by omega) (Int.le_refl _)).1
  unfold qkey qroots qleav qgiv
  omega
theorem QBest_ex {g : Int → Int} (hW : WF g) : ∃ u, QBest g u := by
  have hn := hW.n
  obtain ⟨u0, a, b⟩ := least (T := QV g) (fun u => (100000 - qkey g u).toNat) _ (fun _ => -1) none_QV (Nat.le_refl _)
  obtain ⟨u, ⟨c, d⟩, e⟩ := LX_least (T := fun u => QV g u ∧ qkey g u = qkey g u0) (g 1).toNat ⟨u0, a, rfl⟩
  refine ⟨u, trivial, c, fun v hv _ => ?_⟩
  have k1 := b v hv
  have k2 := qkey_bd (u := v) hW
  have k3 := qkey_bd (u := u0) hW
  have k4 : qkey g v ≤ qkey g u0 := by omega
  refine ⟨by omega, fun hx => ?_⟩
  by_cases q : qkey g v = qkey g u0
  · exact absurd (by rw [show (((g 1).toNat : Nat) : Int) = g 1 by omega]; exact hx) (e v ⟨hv, q⟩)
  · omega
theorem ClS.best {κ : KP} {B : Nat → Nat} {S : CST} {h : AH} {Γ : Nat → Int → Int} {q : Nat} (hI : ClS κ (cset B S h) S Γ q) : ∃ U, QBest (Γ q) U := QBest_ex hI.2.2.1
theorem leaf_np {g : Int → Int} (hW : WF g) {b : Int} (hb : ¬ QGr g b) (b0 : 0 ≤ b) : qpb g b (g 3) = 0 := sz_none fun k k0 k1 => bP_f fun z => by
  have hw := hW.b k0 k1
  unfold WFb at hw
  have := (hw.2.2.2.2.2.2.2.2.2.1 (by omega)).1
  rw [z] at this
  exact hb this
theorem R_blk2 {g : Int → Int} (hW : WF g) {b i : Int} (b0 : 0 ≤ b) (hs : i = 2) : (i = 0 ∧ qpb g b (g 3) = g (60 + 12 * b + 0)) ∨ (i = 1 ∧ qpb g b (g 3) = g (60 + 12 * b + 1)) ∨ (i = 2 ∧ QGr g b ∧ qpb g b (g 3) = qpb g b (g 3)) ∨ (i = 2 ∧ ¬ QGr g b ∧ qpb g b (g 3) = 0) ∨ (i = 7 ∧ qpb g b (g 3) = g (60 + 12 * b + 11)) ∨ (3 ≤ i ∧ i ≤ 6 ∧ qpb g b (g 3) = g (60 + 12 * b + (i - 1))) := by
  by_cases z : QGr g b
  · exact Or.inr (Or.inr (Or.inl ⟨hs, z, rfl⟩))
  · exact Or.inr (Or.inr (Or.inr (Or.inl ⟨hs, z, leaf_np hW z b0⟩)))
theorem part_no {g : Int → Int} {nb : Nat} {b i : Int} (e3 : (nb : Int) = g 3) (h : ¬ (0 ≤ i ∧ i < cnt (rwg g) b nb)) : ¬ (0 ≤ i ∧ i < qpb g b (g 3)) := by
  rw [← e3]
  exact h
theorem part_yes {g : Int → Int} {nb : Nat} {b i r : Int} (e3 : (nb : Int) = g 3) (h : 0 ≤ r ∧ r < nb ∧ rwg g r 1 = b ∧ cnt (rwg g) b r = i) : 0 ≤ r ∧ r < g 3 ∧ g (60 + 12 * r + 1) = b ∧ qpb g b r = i := by
  rw [← e3]
  exact h
theorem lacks_R {m : Prop} {need got : Int} (h : m ↔ need ≤ got) : (m ∧ max 0 (need - got) = 0) ∨ (¬ m ∧ max 0 (need - got) = need - got) := by
  rw [h]
  omega
theorem why_R {S : CST} {l : List (Int × Int)} (h : LyC S 0 l) {a x r : Int} (a0 : 0 ≤ a) (a1 : a < l.length) (hr : (x = 0 ∧ r = S 20 a) ∨ (x = 1 ∧ r = S 21 a)) : QIn a 0 ((l.length : Int) - 1) ∧ QIn x 0 1 ∧ (0 : Int) = 0 ∧ ∃ y z, l[a.toNat]? = some (y, z) ∧ r = if x = 0 then y else z := by
  have hlt : a.toNat < l.length := by omega
  obtain ⟨h1, h2⟩ := h a.toNat (l[a.toNat]).1 (l[a.toNat]).2 (List.getElem?_eq_getElem hlt)
  rw [show (0 : Int) + (a.toNat : Int) = a by omega] at h1 h2
  refine ⟨⟨a0, by omega⟩, by unfold QIn; omega, rfl, _, _, List.getElem?_eq_getElem hlt, ?_⟩
  rcases hr with ⟨rfl, rfl⟩ | ⟨rfl, rfl⟩
  · rw [if_pos rfl, h1]
    rfl
  · rw [if_neg (by decide), h2]
    rfl
theorem lett_rg {g : Int → Int} (hW : WF g) {b i : Int} (b0 : 0 ≤ b) (b1 : b < g 3) (i0 : 0 ≤ i) (i1 : i < g (60 + 12 * b + 5)) : 0 ≤ g (60 + 12 * b + (6 + i)) ∧ g (60 + 12 * b + (6 + i)) < 128 := by
  have hw := hW.b b0 b1
  unfold WFb QLow at hw
  have := hw.2.2.2.2.2.2.2.2.2.2.2 i i0 i1
  omega
def R_code (g : Int → Int) (c t r : Int) : Prop := (¬ QIn c 0 (g 1 - 1) ∧ t = 1) ∨ (QIn c 0 (g 1 - 1) ∧ t = 0 ∧ r = g (4 + 4 * c + 0))
def R_expires (g : Int → Int) (c b t r : Int) : Prop := (¬ (QIn c 0 (g 1 - 1) ∧ QIn b 0 (g 3 - 1)) ∧ t = 1) ∨ ((QIn c 0 (g 1 - 1) ∧ QIn b 0 (g 3 - 1)) ∧ QGr g b ∧ t = 2) ∨ ((QIn c 0 (g 1 - 1) ∧ QIn b 0 (g 3 - 1)) ∧ ¬ QGr g b ∧ t = 0 ∧ r = (if 60 < g (4 + 4 * c + 3) + g (60 + 12 * b + 3) then 60 else g (4 + 4 * c + 3) + g (60 + 12 * b + 3)))
def R_equiv (g : Int → Int) (c k t r : Int) : Prop := (¬ QIn c 0 (g 2 - 1) ∧ t = 1) ∨ (QIn c 0 (g 2 - 1) ∧ ¬ QIn k 0 3 ∧ t = 2) ∨ (QIn c 0 (g 2 - 1) ∧ QIn k 0 3 ∧ t = 0 ∧ r = g (28 + 4 * c + k))
theorem cnt_qpb {g : Int → Int} {nb : Nat} (e3 : (nb : Int) = g 3) (b : Int) : cnt (rwg g) b nb = qpb g b (g 3) := by
  rw [← e3]
  rfl
theorem cnt_root {g : Int → Int} {nb : Nat} (hW : WF g) (e3 : (nb : Int) = g 3) : cnt (rwg g) (-1) nb = qallr g := by
  unfold cnt qallr
  rw [e3]
  exact sz_cong fun k k0 k1 => bP_cong (by
    have hw := hW.b k0 k1
    unfold WFb at hw
    show g (60 + 12 * k + 1) = -1 ↔ _
    omega)
theorem N_leaves {g lf : Int → Int} {nb N : Nat} (hW : WF g) (e3 : (nb : Int) = g 3) (hL : LFs (rwg g) nb N lf) : (N : Int) = qleaves g := by
  rw [hL.2.2.2, e3]
  exact sz_cong fun b b0 b1 => bP_cong (not_congr (hW.gr b0 b1)).symm
theorem RP.lay {κ : KP} {B : Nat → Nat} {S S1 S' : CST} {h : AH} {Γ : Nat → Int → Int} {q : Nat} {U : Int → Int} (hB : BA B) (hI : ClS κ (cset B S h) S Γ q) (x : SK [3, 12, 13, 14, 15] S S1) (hK : UKU κ (cset B S1 h) (Γ q) S1 3 q U) (y : SK [5, 20, 21] S1 S') : RP κ B S h Γ q (cset B S' h) :=
  RP.use (u := 3) hB hI (Or.inl rfl) ((x.trans y).mono (by decide)) (hK.fx (cfxF hB) (y 3 (by decide)) (y 15 (by decide))).k
theorem qroots_bd {g U : Int → Int} (hW : WF g) : 0 ≤ qroots g U ∧ qroots g U ≤ 8 := by
  have hn := hW.n
  have := sz_01 (f := fR g U) (k := g 3) (by omega) (fun _ => bP_01 _)
  unfold qroots
  omega
theorem lacks_eq {g U : Int → Int} (hW : WF g) {b : Int} (hb : ¬ QGr g b) (b0 : 0 ≤ b) (b1 : b < g 3) : max 0 (g (60 + 12 * b + 2) - sz (qpts g U b) (g 3)) = max 0 (g (60 + 12 * b + 2) - qgets g U b) ∧ (qmet g U b ↔ g (60 + 12 * b + 2) ≤ qgets g U b) := by
  rw [pts_leaf hW hb b0 b1, qmet_eq hW b0 b1]
  exact ⟨rfl, fun z => z.2 hb, fun z => ⟨fun y => absurd y hb, fun _ => z⟩⟩
set_option maxRecDepth 100000 in
set_option maxHeartbeats 4000000 in
theorem x_year (κ : KP) {B : Nat → Nat} {S : CST} {Γ : Nat → Int → Int} {q : Nat} (h : AH) (hB : BA B) (hI : ClS κ (cset B S h) S Γ q)  : MM κ mX9_year 1 1 6 [.ref (B 0)] (cset B S h) (RD κ B S h Γ q (fun t r => t = 0 ∧ r = Γ q 0)) (RE κ B S h Γ q (fun t r => t = 0 ∧ r = Γ q 0) []) := by
  refine mm_of (L := [some _]) (by decide +kernel) rfl rfl (Nat.le_of_ble_eq_true rfl) rfl ?_
  obtain ⟨h05, hD, hW, hG, hU⟩ := id hI
  obtain ⟨cr, eq, p, nc, ne, nb, hO, hC, hE, hP, e1, e2, e3⟩ := id hD
  have hDV : DkV κ (cset B S h) q (Γ q) cr eq p nc ne nb := ⟨hO, hC, hE, hP, e1, e2, e3⟩
  obtain ⟨fc, hAc, hbc⟩ := id hC
  obtain ⟨fe, hAe, hbe⟩ := id hE
  obtain ⟨bl, lv, ms, mr, N, lf, fm, fr, hV⟩ := id hP
  have hOp := hV.1
  have hAl := hV.2.2.1
  obtain ⟨fb, hAb, hbb⟩ := id hV.2.1
  have n0 := hW.n
  have hRw := hW.rw e3
  refine r_al0 dX9_year_0 ?_
  refine b_getR dX9_year_1 f_X9_39 hB (by decide) rfl rfl (by first | exact h05 | exact h05u) ?_
  refine r_getfield dX9_year_4 f_X9_264 (by first | assumption | exact cfx hB hO | exact cfx hB hOp | exact cfx hB hAc | exact cfx hB hAb | exact cfx hB hAe) rfl ?_
  exact r_iret dX9_year_7 (ty := .int) rfl (rfl) ⟨_, rfl, ⟨rfl, rfl⟩, (RP.id hI)⟩
set_option maxRecDepth 100000 in
set_option maxHeartbeats 4000000 in
theorem x_fault (κ : KP) {B : Nat → Nat} {S : CST} {Γ : Nat → Int → Int} {q : Nat} (h : AH) (hB : BA B) (hI : ClS κ (cset B S h) S Γ q)  : MM κ mX9_faultPosition 1 1 6 [.ref (B 0)] (cset B S h) (RD κ B S h Γ q (fun t r => t = 0 ∧ r = S 0 7)) (RE κ B S h Γ q (fun t r => t = 0 ∧ r = S 0 7) []) := by
  refine mm_of (L := [some _]) (by decide +kernel) rfl rfl (Nat.le_of_ble_eq_true rfl) rfl ?_
  obtain ⟨h05, hD, hW, hG, hU⟩ := id hI
  obtain ⟨cr, eq, p, nc, ne, nb, hO, hC, hE, hP, e1, e2, e3⟩ := id hD
  have hDV : DkV κ (cset B S h) q (Γ q) cr eq p nc ne nb := ⟨hO, hC, hE, hP, e1, e2, e3⟩
  obtain ⟨fc, hAc, hbc⟩ := id hC
  obtain ⟨fe, hAe, hbe⟩ := id hE
  obtain ⟨bl, lv, ms, mr, N, lf, fm, fr, hV⟩ := id hP
  have hOp := hV.1
  have hAl := hV.2.2.1
  obtain ⟨fb, hAb, hbb⟩ := id hV.2.1
  have n0 := hW.n
  have hRw := hW.rw e3
  refine r_al0 dX9_faultPosition_0 ?_
  refine b_get dX9_faultPosition_1 f_X9_65 hB (by decide) (k9 := 0) rfl rfl ?_
  exact r_iret dX9_faultPosition_4 (ty := .int) rfl (rfl) ⟨_, rfl, ⟨rfl, rfl⟩, (RP.id hI)⟩
set_option maxRecDepth 100000 in
set_option maxHeartbeats 4000000 in
theorem x_refusal (κ : KP) {B : Nat → Nat} {S : CST} {Γ : Nat → Int → Int} {q : Nat} (h : AH) (hB : BA B) (hI : ClS κ (cset B S h) S Γ q) (r8 : rng (S 0 8)) : MM κ mX9_refusal 6 1 6 [.ref (B 0)] (cset B S h) (RD κ B S h Γ q (fun t r => (S 0 8 = 0 ∧ t = 1) ∨ (S 0 8 ≠ 0 ∧ t = 0 ∧ r = S 0 8))) (RE κ B S h Γ q (fun t r => (S 0 8 = 0 ∧ t = 1) ∨ (S 0 8 ≠ 0 ∧ t = 0 ∧ r = S 0 8)) [ENS]) := by
  refine mm_of (L := [some _]) (by decide +kernel) rfl rfl (Nat.le_of_ble_eq_true rfl) rfl ?_
  obtain ⟨h05, hD, hW, hG, hU⟩ := id hI
  obtain ⟨cr, eq, p, nc, ne, nb, hO, hC, hE, hP, e1, e2, e3⟩ := id hD
  have hDV : DkV κ (cset B S h) q (Γ q) cr eq p nc ne nb := ⟨hO, hC, hE, hP, e1, e2, e3⟩
  obtain ⟨fc, hAc, hbc⟩ := id hC
  obtain ⟨fe, hAe, hbe⟩ := id hE
  obtain ⟨bl, lv, ms, mr, N, lf, fm, fr, hV⟩ := id hP
  have hOp := hV.1
  have hAl := hV.2.2.1
  obtain ⟨fb, hAb, hbb⟩ := id hV.2.1
  have n0 := hW.n
  have hRw := hW.rw e3
  refine r_al0 dX9_refusal_0 ?_
  refine b_get dX9_refusal_1 f_X9_69 hB (by decide) (k9 := 0) rfl rfl ?_
  refine r_if_ne (tgt := 15) dX9_refusal_4 (by decide) (by (first | assumption | omega)) (fun c_4 => ?_) (fun c_4 => ?_)
  · refine r_al0 dX9_refusal_15 ?_
    refine b_get dX9_refusal_16 f_X9_69 hB (by decide) (k9 := 0) rfl rfl ?_
    exact r_iret dX9_refusal_19 (ty := .int) rfl (rfl) ⟨_, rfl, (Or.inr ⟨c_4, rfl, rfl⟩), (RP.id hI)⟩
  · exact r_throw rfl (by decide) th_X9_refusal_7 (by decide) (by decide) (by decide) ⟨0, 0, rfl, (Or.inl ⟨c_4, rfl⟩), (RP.id hI)⟩
set_option maxRecDepth 100000 in
set_option maxHeartbeats 4000000 in
theorem x_credit (κ : KP) {B : Nat → Nat} {S : CST} {Γ : Nat → Int → Int} {q : Nat} (h : AH) (hB : BA B) (hI : ClS κ (cset B S h) S Γ q) {c x : Int} (rc : rng c) (rx : rng x) : MM κ mX9_credit 22 1 6 [.ref (B 0), .int (J c), .int (J x)] (cset B S h) (RD κ B S h Γ q (R_credit (Γ q) c x)) (RE κ B S h Γ q (R_credit (Γ q) c x) [EIO, EIA]) := by
  refine mm_of (L := [some _, some _, some _, none]) (by decide +kernel) rfl rfl (Nat.le_of_ble_eq_true rfl) rfl ?_
  obtain ⟨h05, hD, hW, hG, hU⟩ := id hI
  obtain ⟨cr, eq, p, nc, ne, nb, hO, hC, hE, hP, e1, e2, e3⟩ := id hD
  have hDV : DkV κ (cset B S h) q (Γ q) cr eq p nc ne nb := ⟨hO, hC, hE, hP, e1, e2, e3⟩
  obtain ⟨fc, hAc, hbc⟩ := id hC
  obtain ⟨fe, hAe, hbe⟩ := id hE
  obtain ⟨bl, lv, ms, mr, N, lf, fm, fr, hV⟩ := id hP
  have hOp := hV.1
  have hAl := hV.2.2.1
  obtain ⟨fb, hAb, hbb⟩ := id hV.2.1
  have n0 := hW.n
  have hRw := hW.rw e3
  refine r_al0 dX9_credit_0 ?_
  refine r_il1 dX9_credit_1 ?_
  refine r_callVP1 dX9_credit_2 v_X9_96 (cs_obj hB (k9 := 0) (by decide) rfl) (x_hasCredit κ h hB hI (by omega)) (by decide) rfl ?_
  refine r_ifT_ne (tgt := 16) dX9_credit_5 (by decide) (fun c_5 => ?_) (fun c_5 => ?_)
  · have h59 : 0 ≤ c ∧ c ≤ Γ q 1 - 1 := c_5
    refine r_al0 dX9_credit_16 ?_
    refine b_getR dX9_credit_17 f_X9_39 hB (by decide) rfl rfl (by first | exact h05 | exact h05u) ?_
    refine r_getfield dX9_credit_20 f_X9_79 (by first | assumption | exact cfx hB hO | exact cfx hB hOp | exact cfx hB hAc | exact cfx hB hAb | exact cfx hB hAe) rfl ?_
    refine r_il1 dX9_credit_23 ?_
    obtain ⟨a_24, ha_24, hc_24⟩ := hbc c (by omega) (by omega)
    have hd_24 := hc_24
    unfold CrR at hd_24
    simp only [crg] at hd_24
    refine r_aaF dX9_credit_24 (by first | exact hAc | exact cfx hB hAc) (by decide) ha_24 (by omega) (by omega) (by omega) ?_
    refine r_as3 dX9_credit_25 rfl ?_
    refine r_il2 dX9_credit_26 ?_
    rcases (show (x < 0 ∨ 4 < x) ∨ x = 0 ∨ x = 1 ∨ x = 2 ∨ x = 3 ∨ x = 4 by omega) with hs | hs | hs | hs | hs | hs
    · refine r_tabOut (tgt := 93) dX9_credit_27 (rx) hs (by decide) ?_
      exact r_throw rfl (by decide) th_X9_credit_93 (by decide) (by decide) (by decide) ⟨1, 0, rfl, (Or.inr (Or.inl ⟨c_5, (by unfold QIn; omega), rfl⟩)), (RP.id hI)⟩
    · refine r_tabIn (tgt := 60) dX9_credit_27 0 hs (by decide) (by decide) rfl (by decide) ?_
      refine r_al3 dX9_credit_60 ?_
      refine r_getfield dX9_credit_61 f_X9_107 (by first | assumption | exact cfx hB hO | exact cfx hB hOp | exact cfx hB hAc | exact cfx hB hAb | exact cfx hB hAe) rfl ?_
      exact r_iret dX9_credit_64 (ty := .int) rfl (rfl) ⟨_, rfl, (Or.inr (Or.inr ⟨c_5, rfl, Or.inl ⟨by omega, by omega, by rw [hs]; rfl⟩⟩)), (RP.id hI)⟩
    · refine r_tabIn (tgt := 65) dX9_credit_27 1 hs (by decide) (by decide) rfl (by decide) ?_
      refine r_al3 dX9_credit_65 ?_
      refine r_getfield dX9_credit_66 f_X9_110 (by first | assumption | exact cfx hB hO | exact cfx hB hOp | exact cfx hB hAc | exact cfx hB hAb | exact cfx hB hAe) rfl ?_
      exact r_iret dX9_credit_69 (ty := .int) rfl (rfl) ⟨_, rfl, (Or.inr (Or.inr ⟨c_5, rfl, Or.inl ⟨by omega, by omega, by rw [hs]; rfl⟩⟩)), (RP.id hI)⟩
    · refine r_tabIn (tgt := 70) dX9_credit_27 2 hs (by decide) (by decide) rfl (by decide) ?_
      refine r_al3 dX9_credit_70 ?_
      refine r_getfield dX9_credit_71 f_X9_113 (by first | assumption | exact cfx hB hO | exact cfx hB hOp | exact cfx hB hAc | exact cfx hB hAb | exact cfx hB hAe) rfl ?_
      exact r_iret dX9_credit_74 (ty := .int) rfl (rfl) ⟨_, rfl, (Or.inr (Or.inr ⟨c_5, rfl, Or.inl ⟨by omega, by omega, by rw [hs]; rfl⟩⟩)), (RP.id hI)⟩
    · refine r_tabIn (tgt := 75) dX9_credit_27 3 hs (by decide) (by decide) rfl (by decide) ?_
      refine r_al0 dX9_credit_75 ?_
      refine r_callV (As := []) dX9_credit_76 v_X9_116 (cs_obj hB (k9 := 0) (by decide) rfl) (x_bestUse κ h hB hI) (by decide) rfl rfl (cat_le rfl) (Nat.zero_le _) (Nat.zero_le _) (fun v h9 hq9 => ?_) (fun _ _ hx => hx.elim)
      obtain ⟨rfl, S9, rfl, x9, U, hK⟩ := hq9
      have hQb := hK.best
      have h05u : S9 0 5 = (q : Int) := by rw [x9 0 (by decide)]; exact h05
      have hR9 := RP.use (u := 3) hB hI (Or.inl rfl) (x9.mono (by decide)) hK.k
      refine r_il1 dX9_credit_79 ?_
      refine r_callVP1 dX9_credit_80 v_X9_120 (cs_obj hB (k9 := 3) (by decide) rfl) (k_takerOf κ h hB (Or.inl rfl) hK (by omega) (by omega)) (by decide) rfl ?_
      exact r_iret dX9_credit_83 (ty := .int) rfl (rfl) ⟨_, rfl, (Or.inr (Or.inr ⟨c_5, rfl, Or.inr (Or.inl ⟨hs, U, hQb, rfl⟩)⟩)), hR9⟩
    · refine r_tabIn (tgt := 84) dX9_credit_27 4 hs (by decide) (by decide) rfl (by decide) ?_
      refine r_al0 dX9_credit_84 ?_
      refine b_getR dX9_credit_85 f_X9_39 hB (by decide) rfl rfl (by first | exact h05 | exact h05u) ?_
      refine r_al3 dX9_credit_88 ?_
      refine r_callVP1 dX9_credit_89 v_X9_124 hO (c_accSet κ _ hDV hW hc_24 (hW.c (by omega) (by omega))) (by decide) rfl ?_
      exact r_iret dX9_credit_92 (ty := .int) rfl (rfl) ⟨_, rfl, (Or.inr (Or.inr ⟨c_5, rfl, Or.inr (Or.inr ⟨hs, rfl⟩)⟩)), (RP.id hI)⟩
  · exact r_throw rfl (by decide) th_X9_credit_8 (by decide) (by decide) (by decide) ⟨0, 0, rfl, (Or.inl ⟨c_5, rfl⟩), (RP.id hI)⟩
set_option maxRecDepth 100000 in
set_option maxHeartbeats 4000000 in
theorem x_code (κ : KP) {B : Nat → Nat} {S : CST} {Γ : Nat → Int → Int} {q : Nat} (h : AH) (hB : BA B) (hI : ClS κ (cset B S h) S Γ q) {c : Int} (rc : rng c) : MM κ mX9_code 6 1 6 [.ref (B 0), .int (J c)] (cset B S h) (RD κ B S h Γ q (R_code (Γ q) c)) (RE κ B S h Γ q (R_code (Γ q) c) [EIO]) := by
  refine mm_of (L := [some _, some _]) (by decide +kernel) rfl rfl (Nat.le_of_ble_eq_true rfl) rfl ?_
  obtain ⟨h05, hD, hW, hG, hU⟩ := id hI
  obtain ⟨cr, eq, p, nc, ne, nb, hO, hC, hE, hP, e1, e2, e3⟩ := id hD
  have hDV : DkV κ (cset B S h) q (Γ q) cr eq p nc ne nb := ⟨hO, hC, hE, hP, e1, e2, e3⟩
  obtain ⟨fc, hAc, hbc⟩ := id hC
  obtain ⟨fe, hAe, hbe⟩ := id hE
  obtain ⟨bl, lv, ms, mr, N, lf, fm, fr, hV⟩ := id hP
  have hOp := hV.1
  have hAl := hV.2.2.1
  obtain ⟨fb, hAb, hbb⟩ := id hV.2.1
  have n0 := hW.n
  have hRw := hW.rw e3
  refine r_al0 dX9_code_0 ?_
  refine r_il1 dX9_code_1 ?_
  refine r_callVP1 dX9_code_2 v_X9_96 (cs_obj hB (k9 := 0) (by decide) rfl) (x_hasCredit κ h hB hI (by omega)) (by decide) rfl ?_
  refine r_ifT_ne (tgt := 16) dX9_code_5 (by decide) (fun c_5 => ?_) (fun c_5 => ?_)
  · have h59 : 0 ≤ c ∧ c ≤ Γ q 1 - 1 := c_5
    have hw := hW.c (c := c) (by omega) (by omega)
    unfold WFc QLow QCap at hw
    refine r_al0 dX9_code_16 ?_
    refine b_getR dX9_code_17 f_X9_39 hB (by decide) rfl rfl (by first | exact h05 | exact h05u) ?_
    refine r_getfield dX9_code_20 f_X9_79 (by first | assumption | exact cfx hB hO | exact cfx hB hOp | exact cfx hB hAc | exact cfx hB hAb | exact cfx hB hAe) rfl ?_
    refine r_il1 dX9_code_23 ?_
    obtain ⟨a_24, ha_24, hc_24⟩ := hbc c (by omega) (by omega)
    have hd_24 := hc_24
    unfold CrR at hd_24
    simp only [crg] at hd_24
    refine r_aaF dX9_code_24 (by first | exact hAc | exact cfx hB hAc) (by decide) ha_24 (by omega) (by omega) (by omega) ?_
    refine r_getfield dX9_code_25 f_X9_128 (by first | assumption | exact cfx hB hO | exact cfx hB hOp | exact cfx hB hAc | exact cfx hB hAb | exact cfx hB hAe) rfl ?_
    exact r_iret dX9_code_28 (ty := .char) rfl (nar_c (by omega) (by omega)) ⟨_, rfl, (Or.inr ⟨c_5, rfl, rfl⟩), (RP.id hI)⟩
  · exact r_throw rfl (by decide) th_X9_code_8 (by decide) (by decide) (by decide) ⟨0, 0, rfl, (Or.inl ⟨c_5, rfl⟩), (RP.id hI)⟩
set_option maxRecDepth 100000 in
set_option maxHeartbeats 4000000 in
theorem x_expires (κ : KP) {B : Nat → Nat} {S : CST} {Γ : Nat → Int → Int} {q : Nat} (h : AH) (hB : BA B) (hI : ClS κ (cset B S h) S Γ q) {c b : Int} (rc : rng c) (rb : rng b) : MM κ mX9_expires 6 1 6 [.ref (B 0), .int (J c), .int (J b)] (cset B S h) (RD κ B S h Γ q (R_expires (Γ q) c b)) (RE κ B S h Γ q (R_expires (Γ q) c b) [EIO, EIS]) := by
  refine mm_of (L := [some _, some _, some _, none]) (by decide +kernel) rfl rfl (Nat.le_of_ble_eq_true rfl) rfl ?_
  obtain ⟨h05, hD, hW, hG, hU⟩ := id hI
  obtain ⟨cr, eq, p, nc, ne, nb, hO, hC, hE, hP, e1, e2, e3⟩ := id hD
  have hDV : DkV κ (cset B S h) q (Γ q) cr eq p nc ne nb := ⟨hO, hC, hE, hP, e1, e2, e3⟩
  obtain ⟨fc, hAc, hbc⟩ := id hC
  obtain ⟨fe, hAe, hbe⟩ := id hE
  obtain ⟨bl, lv, ms, mr, N, lf, fm, fr, hV⟩ := id hP
  have hOp := hV.1
  have hAl := hV.2.2.1
  obtain ⟨fb, hAb, hbb⟩ := id hV.2.1
  have n0 := hW.n
  have hRw := hW.rw e3
  refine r_al0 dX9_expires_0 ?_
  refine r_il1 dX9_expires_1 ?_
  refine r_callVP1 dX9_expires_2 v_X9_96 (cs_obj hB (k9 := 0) (by decide) rfl) (x_hasCredit κ h hB hI (by omega)) (by decide) rfl ?_
  refine r_ifT_eq (tgt := 16) dX9_expires_5 (by decide) (fun c_5 => ?_) (fun c_5 => ?_)
  · exact r_throw rfl (by decide) th_X9_expires_16 (by decide) (by decide) (by decide) ⟨0, 0, rfl, (Or.inl ⟨(fun z => by first | exact c_5 z.1 | exact c_13 z.2), rfl⟩), (RP.id hI)⟩
  · refine r_al0 dX9_expires_8 ?_
    refine r_il2 dX9_expires_9 ?_
    refine r_callVP1 dX9_expires_10 v_X9_132 (cs_obj hB (k9 := 0) (by decide) rfl) (x_hasBlock κ h hB hI (by omega)) (by decide) rfl ?_
    refine r_ifT_ne (tgt := 24) dX9_expires_13 (by decide) (fun c_13 => ?_) (fun c_13 => ?_)
    · have h59 : 0 ≤ c ∧ c ≤ Γ q 1 - 1 := c_5
      have h69 : 0 ≤ b ∧ b ≤ Γ q 3 - 1 := c_13
      have hw := hW.c (c := c) (by omega) (by omega)
      unfold WFc at hw
      have hw2 := hW.b (b := b) (by omega) (by omega)
      unfold WFb at hw2
      have hgr := hW.gr (b := b) (by omega) (by omega)
      refine r_al0 dX9_expires_24 ?_
      refine b_getR dX9_expires_25 f_X9_39 hB (by decide) rfl rfl (by first | exact h05 | exact h05u) ?_
      refine r_getfield dX9_expires_28 f_X9_135 (by first | assumption | exact cfx hB hO | exact cfx hB hOp | exact cfx hB hAc | exact cfx hB hAb | exact cfx hB hAe) rfl ?_
      refine r_getfield dX9_expires_31 f_X9_139 (by first | assumption | exact cfx hB hO | exact cfx hB hOp | exact cfx hB hAc | exact cfx hB hAb | exact cfx hB hAe) rfl ?_
      refine r_il2 dX9_expires_34 ?_
      obtain ⟨a_35, ha_35, hb_35⟩ := hbb b (by omega) (by omega)
      obtain ⟨q_35, s_35, hO_35, hS_35⟩ := id hb_35
      simp only [rwg] at hO_35
      refine r_aaF dX9_expires_35 (by first | exact hAb | exact cfx hB hAb) (by decide) ha_35 (by omega) (by omega) (by omega) ?_
      refine r_as3 dX9_expires_36 rfl ?_
      refine r_al3 dX9_expires_37 ?_
      refine r_callVP0 dX9_expires_38 v_X9_143 hO_35 (c_isGr κ _ hb_35) (by decide) rfl ?_
      refine r_ifT_eq (tgt := 52) dX9_expires_41 (by decide) (fun c_41 => ?_) (fun c_41 => ?_)
      · refine r_bipush dX9_expires_52 (by decide) ?_
        refine r_al3 dX9_expires_54 ?_
        refine r_al0 dX9_expires_55 ?_
        refine b_getR dX9_expires_56 f_X9_39 hB (by decide) rfl rfl (by first | exact h05 | exact h05u) ?_
        refine r_getfield dX9_expires_59 f_X9_79 (by first | assumption | exact cfx hB hO | exact cfx hB hOp | exact cfx hB hAc | exact cfx hB hAb | exact cfx hB hAe) rfl ?_
        refine r_il1 dX9_expires_62 ?_
        obtain ⟨a_63, ha_63, hc_63⟩ := hbc c (by omega) (by omega)
        have hd_63 := hc_63
        unfold CrR at hd_63
        simp only [crg] at hd_63
        refine r_aaF dX9_expires_63 (by first | exact hAc | exact cfx hB hAc) (by decide) ha_63 (by omega) (by omega) (by omega) ?_
        refine r_callVP1 dX9_expires_64 v_X9_150 hO_35 (c_lastY κ _ hb_35 hc_63) (by decide) rfl ?_
        simp only [crg, rwg]
        refine r_min dX9_expires_67 s_X9_153 (by decide) (by omega) (by decide) rfl ?_
        exact r_iret dX9_expires_70 (ty := .int) rfl (rfl) ⟨_, rfl, (Or.inr (Or.inr ⟨⟨c_5, c_13⟩, fun z => c_41 (hgr.mp z), rfl, by split <;> omega⟩)), (RP.id hI)⟩
      · exact r_throw rfl (by decide) th_X9_expires_44 (by decide) (by decide) (by decide) ⟨1, 0, rfl, (Or.inr (Or.inl ⟨⟨c_5, c_13⟩, hgr.mpr c_41, rfl⟩)), (RP.id hI)⟩
    · exact r_throw rfl (by decide) th_X9_expires_16 (by decide) (by decide) (by decide) ⟨0, 0, rfl, (Or.inl ⟨(fun z => by first | exact c_5 z.1 | exact c_13 z.2), rfl⟩), (RP.id hI)⟩
set_option maxRecDepth 100000 in
set_option maxHeartbeats 4000000 in
theorem x_equiv (κ : KP) {B : Nat → Nat} {S : CST} {Γ : Nat → Int → Int} {q : Nat} (h : AH) (hB : BA B) (hI : ClS κ (cset B S h) S Γ q) {c k : Int} (rc : rng c) (rk : rng k) : MM κ mX9_equivalent 6 1 6 [.ref (B 0), .int (J c), .int (J k)] (cset B S h) (RD κ B S h Γ q (R_equiv (Γ q) c k)) (RE κ B S h Γ q (R_equiv (Γ q) c k) [EIO, EIA]) := by
  refine mm_of (L := [some _, some _, some _, none]) (by decide +kernel) rfl rfl (Nat.le_of_ble_eq_true rfl) rfl ?_
  obtain ⟨h05, hD, hW, hG, hU⟩ := id hI
  obtain ⟨cr, eq, p, nc, ne, nb, hO, hC, hE, hP, e1, e2, e3⟩ := id hD
  have hDV : DkV κ (cset B S h) q (Γ q) cr eq p nc ne nb := ⟨hO, hC, hE, hP, e1, e2, e3⟩
  obtain ⟨fc, hAc, hbc⟩ := id hC
  obtain ⟨fe, hAe, hbe⟩ := id hE
  obtain ⟨bl, lv, ms, mr, N, lf, fm, fr, hV⟩ := id hP
  have hOp := hV.1
  have hAl := hV.2.2.1
  obtain ⟨fb, hAb, hbb⟩ := id hV.2.1
  have n0 := hW.n
  have hRw := hW.rw e3
  refine r_al0 dX9_equivalent_0 ?_
  refine r_il1 dX9_equivalent_1 ?_
  refine r_callVP1 dX9_equivalent_2 v_X9_177 (cs_obj hB (k9 := 0) (by decide) rfl) (x_hasEq κ h hB hI (by omega)) (by decide) rfl ?_
  refine r_ifT_ne (tgt := 16) dX9_equivalent_5 (by decide) (fun c_5 => ?_) (fun c_5 => ?_)
  · have h59 : 0 ≤ c ∧ c ≤ Γ q 2 - 1 := c_5
    have hw := hW.e (c := c) (by omega) (by omega)
    unfold WFe QLow QCap at hw
    refine r_al0 dX9_equivalent_16 ?_
    refine b_getR dX9_equivalent_17 f_X9_39 hB (by decide) rfl rfl (by first | exact h05 | exact h05u) ?_
    refine r_getfield dX9_equivalent_20 f_X9_166 (by first | assumption | exact cfx hB hO | exact cfx hB hOp | exact cfx hB hAc | exact cfx hB hAb | exact cfx hB hAe) rfl ?_
    refine r_il1 dX9_equivalent_23 ?_
    obtain ⟨a_24, ha_24, hc_24⟩ := hbe c (by omega) (by omega)
    have hd_24 := hc_24
    unfold EqR at hd_24
    simp only [eqg] at hd_24
    refine r_aaF dX9_equivalent_24 (by first | exact hAe | exact cfx hB hAe) (by decide) ha_24 (by omega) (by omega) (by omega) ?_
    refine r_as3 dX9_equivalent_25 rfl ?_
    refine r_il2 dX9_equivalent_26 ?_
    rcases (show (k < 0 ∨ 3 < k) ∨ k = 0 ∨ k = 1 ∨ k = 2 ∨ k = 3 by omega) with hs | hs | hs | hs | hs
    · refine r_tabOut (tgt := 76) dX9_equivalent_27 (rk) hs (by decide) ?_
      exact r_throw rfl (by decide) th_X9_equivalent_76 (by decide) (by decide) (by decide) ⟨1, 0, rfl, (Or.inr (Or.inl ⟨c_5, (by unfold QIn; omega), rfl⟩)), (RP.id hI)⟩
    · refine r_tabIn (tgt := 56) dX9_equivalent_27 0 hs (by decide) (by decide) rfl (by decide) ?_
      refine r_al3 dX9_equivalent_56 ?_
      refine r_getfield dX9_equivalent_57 f_X9_180 (by first | assumption | exact cfx hB hO | exact cfx hB hOp | exact cfx hB hAc | exact cfx hB hAb | exact cfx hB hAe) rfl ?_
      exact r_iret dX9_equivalent_60 (ty := .char) rfl (nar_c (by omega) (by omega)) ⟨_, rfl, (Or.inr (Or.inr ⟨c_5, by unfold QIn; omega, rfl, by rw [hs]⟩)), (RP.id hI)⟩
    · refine r_tabIn (tgt := 61) dX9_equivalent_27 1 hs (by decide) (by decide) rfl (by decide) ?_
      refine r_al3 dX9_equivalent_61 ?_
      refine r_getfield dX9_equivalent_62 f_X9_183 (by first | assumption | exact cfx hB hO | exact cfx hB hOp | exact cfx hB hAc | exact cfx hB hAb | exact cfx hB hAe) rfl ?_
      exact r_iret dX9_equivalent_65 (ty := .char) rfl (nar_c (by omega) (by omega)) ⟨_, rfl, (Or.inr (Or.inr ⟨c_5, by unfold QIn; omega, rfl, by rw [hs]⟩)), (RP.id hI)⟩
    · refine r_tabIn (tgt := 66) dX9_equivalent_27 2 hs (by decide) (by decide) rfl (by decide) ?_
      refine r_al3 dX9_equivalent_66 ?_
      refine r_getfield dX9_equivalent_67 f_X9_186 (by first | assumption | exact cfx hB hO | exact cfx hB hOp | exact cfx hB hAc | exact cfx hB hAb | exact cfx hB hAe) rfl ?_
      exact r_iret dX9_equivalent_70 (ty := .char) rfl (nar_c (by omega) (by omega)) ⟨_, rfl, (Or.inr (Or.inr ⟨c_5, by unfold QIn; omega, rfl, by rw [hs]⟩)), (RP.id hI)⟩
    · refine r_tabIn (tgt := 71) dX9_equivalent_27 3 hs (by decide) (by decide) rfl (by decide) ?_
      refine r_al3 dX9_equivalent_71 ?_
      refine r_getfield dX9_equivalent_72 f_X9_189 (by first | assumption | exact cfx hB hO | exact cfx hB hOp | exact cfx hB hAc | exact cfx hB hAb | exact cfx hB hAe) rfl ?_
      exact r_iret dX9_equivalent_75 (ty := .char) rfl (nar_c (by omega) (by omega)) ⟨_, rfl, (Or.inr (Or.inr ⟨c_5, by unfold QIn; omega, rfl, by rw [hs]⟩)), (RP.id hI)⟩
  · exact r_throw rfl (by decide) th_X9_equivalent_8 (by decide) (by decide) (by decide) ⟨0, 0, rfl, (Or.inl ⟨c_5, rfl⟩), (RP.id hI)⟩
set_option maxRecDepth 100000 in
set_option maxHeartbeats 4000000 in
theorem x_block (κ : KP) {B : Nat → Nat} {S : CST} {Γ : Nat → Int → Int} {q : Nat} (h : AH) (hB : BA B) (hI : ClS κ (cset B S h) S Γ q) {b i : Int} (rb : rng b) (ri : rng i) : MM κ mX9_block 6 1 6 [.ref (B 0), .int (J b), .int (J i)] (cset B S h) (RD κ B S h Γ q (R_block (Γ q) b i)) (RE κ B S h Γ q (R_block (Γ q) b i) [EIO, EIA]) := by
  refine mm_of (L := [some _, some _, some _, none]) (by decide +kernel) rfl rfl (Nat.le_of_ble_eq_true rfl) rfl ?_
  obtain ⟨h05, hD, hW, hG, hU⟩ := id hI
  obtain ⟨cr, eq, p, nc, ne, nb, hO, hC, hE, hP, e1, e2, e3⟩ := id hD
  have hDV : DkV κ (cset B S h) q (Γ q) cr eq p nc ne nb := ⟨hO, hC, hE, hP, e1, e2, e3⟩
  obtain ⟨fc, hAc, hbc⟩ := id hC
  obtain ⟨fe, hAe, hbe⟩ := id hE
  obtain ⟨bl, lv, ms, mr, N, lf, fm, fr, hV⟩ := id hP
  have hOp := hV.1
  have hAl := hV.2.2.1
  obtain ⟨fb, hAb, hbb⟩ := id hV.2.1
  have n0 := hW.n
  have hRw := hW.rw e3
  refine r_al0 dX9_block_0 ?_
  refine r_il1 dX9_block_1 ?_
  refine r_callVP1 dX9_block_2 v_X9_132 (cs_obj hB (k9 := 0) (by decide) rfl) (x_hasBlock κ h hB hI (by omega)) (by decide) rfl ?_
  refine r_ifT_ne (tgt := 16) dX9_block_5 (by decide) (fun c_5 => ?_) (fun c_5 => ?_)
  · have h59 : 0 ≤ b ∧ b ≤ Γ q 3 - 1 := c_5
    have hgr := hW.gr (b := b) (by omega) (by omega)
    have hw := hW.b (b := b) (by omega) (by omega)
    unfold WFb at hw
    refine r_al0 dX9_block_16 ?_
    refine b_getR dX9_block_17 f_X9_39 hB (by decide) rfl rfl (by first | exact h05 | exact h05u) ?_
    refine r_getfield dX9_block_20 f_X9_135 (by first | assumption | exact cfx hB hO | exact cfx hB hOp | exact cfx hB hAc | exact cfx hB hAb | exact cfx hB hAe) rfl ?_
    refine r_getfield dX9_block_23 f_X9_139 (by first | assumption | exact cfx hB hO | exact cfx hB hOp | exact cfx hB hAc | exact cfx hB hAb | exact cfx hB hAe) rfl ?_
    refine r_il1 dX9_block_26 ?_
    obtain ⟨a_27, ha_27, hb_27⟩ := hbb b (by omega) (by omega)
    obtain ⟨q_27, s_27, hO_27, hS_27⟩ := id hb_27
    simp only [rwg] at hO_27
    refine r_aaF dX9_block_27 (by first | exact hAb | exact cfx hB hAb) (by decide) ha_27 (by omega) (by omega) (by omega) ?_
    refine r_as3 dX9_block_28 rfl ?_
    refine r_il2 dX9_block_29 ?_
    rcases (show (i < 0 ∨ 7 < i) ∨ i = 0 ∨ i = 1 ∨ i = 2 ∨ i = 3 ∨ i = 4 ∨ i = 5 ∨ i = 6 ∨ i = 7 by omega) with hs | hs | hs | hs | hs | hs | hs | hs | hs
    · refine r_tabOut (tgt := 134) dX9_block_30 (ri) hs (by decide) ?_
      exact r_throw rfl (by decide) th_X9_block_134 (by decide) (by decide) (by decide) ⟨1, 0, rfl, (Or.inr (Or.inl ⟨c_5, (by unfold QIn; omega), rfl⟩)), (RP.id hI)⟩
    · refine r_tabIn (tgt := 76) dX9_block_30 0 hs (by decide) (by decide) rfl (by decide) ?_
      refine r_al3 dX9_block_76 ?_
      refine r_callVP0 dX9_block_77 v_X9_143 hO_27 (c_isGr κ _ hb_27) (by decide) rfl ?_
      refine r_ifT_eq (tgt := 87) dX9_block_80 (by decide) (fun c_80 => ?_) (fun c_80 => ?_)
      · refine r_iconst dX9_block_87 ?_
        exact r_iret dX9_block_88 (ty := .int) rfl (rfl) ⟨_, rfl, (Or.inr (Or.inr ⟨c_5, rfl, Or.inl ⟨hs, by first | exact (hgr.mpr c_80).symm | exact hw.1.elim (fun z => z.symm) (fun z => absurd (hgr.mp z) c_80)⟩⟩)), (RP.id hI)⟩
      · refine r_iconst dX9_block_83 ?_
        refine r_goto (tgt := 88) dX9_block_84 (by decide) ?_
        exact r_iret dX9_block_88 (ty := .int) rfl (rfl) ⟨_, rfl, (Or.inr (Or.inr ⟨c_5, rfl, Or.inl ⟨hs, by first | exact (hgr.mpr c_80).symm | exact hw.1.elim (fun z => z.symm) (fun z => absurd (hgr.mp z) c_80)⟩⟩)), (RP.id hI)⟩
    · refine r_tabIn (tgt := 89) dX9_block_30 1 hs (by decide) (by decide) rfl (by decide) ?_
      refine r_al3 dX9_block_89 ?_
      refine r_getfield dX9_block_90 f_X9_230 (by first | assumption | exact cfx hB hO | exact cfx hB hOp | exact cfx hB hAc | exact cfx hB hAb | exact cfx hB hAe) rfl ?_
      exact r_iret dX9_block_93 (ty := .int) rfl (rfl) ⟨_, rfl, (Or.inr (Or.inr ⟨c_5, rfl, Or.inr (Or.inl ⟨hs, rfl⟩)⟩)), (RP.id hI)⟩
    · refine r_tabIn (tgt := 94) dX9_block_30 2 hs (by decide) (by decide) rfl (by decide) ?_
      refine r_al0 dX9_block_94 ?_
      refine b_getR dX9_block_95 f_X9_39 hB (by decide) rfl rfl (by first | exact h05 | exact h05u) ?_
      refine r_getfield dX9_block_98 f_X9_135 (by first | assumption | exact cfx hB hO | exact cfx hB hOp | exact cfx hB hAc | exact cfx hB hAb | exact cfx hB hAe) rfl ?_
      refine r_il1 dX9_block_101 ?_
      refine r_callVP1 dX9_block_102 v_X9_233 hOp (c_partCount κ _ (by omega) hV hRw rb) (by decide) rfl ?_
      rw [cnt_qpb e3]
      exact r_iret dX9_block_105 (ty := .int) rfl (rfl) ⟨_, rfl, (Or.inr (Or.inr ⟨c_5, rfl, R_blk2 hW (by omega) hs⟩)), (RP.id hI)⟩
    · refine r_tabIn (tgt := 106) dX9_block_30 3 hs (by decide) (by decide) rfl (by decide) ?_
      refine r_al3 dX9_block_106 ?_
      refine r_getfield dX9_block_107 f_X9_236 (by first | assumption | exact cfx hB hO | exact cfx hB hOp | exact cfx hB hAc | exact cfx hB hAb | exact cfx hB hAe) rfl ?_
      exact r_iret dX9_block_110 (ty := .int) rfl (rfl) ⟨_, rfl, (Or.inr (Or.inr ⟨c_5, rfl, Or.inr (Or.inr (Or.inr (Or.inr (Or.inr ⟨by omega, by omega, by rw [hs]; rfl⟩))))⟩)), (RP.id hI)⟩
    · refine r_tabIn (tgt := 111) dX9_block_30 4 hs (by decide) (by decide) rfl (by decide) ?_
      refine r_al3 dX9_block_111 ?_
      refine r_getfield dX9_block_112 f_X9_239 (by first | assumption | exact cfx hB hO | exact cfx hB hOp | exact cfx hB hAc | exact cfx hB hAb | exact cfx hB hAe) rfl ?_
      exact r_iret dX9_block_115 (ty := .int) rfl (rfl) ⟨_, rfl, (Or.inr (Or.inr ⟨c_5, rfl, Or.inr (Or.inr (Or.inr (Or.inr (Or.inr ⟨by omega, by omega, by rw [hs]; rfl⟩))))⟩)), (RP.id hI)⟩
    · refine r_tabIn (tgt := 116) dX9_block_30 5 hs (by decide) (by decide) rfl (by decide) ?_
      refine r_al3 dX9_block_116 ?_
      refine r_getfield dX9_block_117 f_X9_242 (by first | assumption | exact cfx hB hO | exact cfx hB hOp | exact cfx hB hAc | exact cfx hB hAb | exact cfx hB hAe) rfl ?_
      exact r_iret dX9_block_120 (ty := .int) rfl (rfl) ⟨_, rfl, (Or.inr (Or.inr ⟨c_5, rfl, Or.inr (Or.inr (Or.inr (Or.inr (Or.inr ⟨by omega, by omega, by rw [hs]; rfl⟩))))⟩)), (RP.id hI)⟩
    · refine r_tabIn (tgt := 121) dX9_block_30 6 hs (by decide) (by decide) rfl (by decide) ?_
      refine r_al3 dX9_block_121 ?_
      refine r_getfield dX9_block_122 f_X9_245 (by first | assumption | exact cfx hB hO | exact cfx hB hOp | exact cfx hB hAc | exact cfx hB hAb | exact cfx hB hAe) rfl ?_
      refine r_sP0 dX9_block_125 v_X9_249 hS_27 (c_slen κ _ hS_27) (by decide) rfl ?_
      exact r_iret dX9_block_128 (ty := .int) rfl (rfl) ⟨_, rfl, (Or.inr (Or.inr ⟨c_5, rfl, Or.inr (Or.inr (Or.inr (Or.inr (Or.inr ⟨by omega, by omega, by rw [hs]; exact Int.toNat_of_nonneg hw.2.2.2.2.2.1.1⟩))))⟩)), (RP.id hI)⟩
    · refine r_tabIn (tgt := 129) dX9_block_30 7 hs (by decide) (by decide) rfl (by decide) ?_
      refine r_al3 dX9_block_129 ?_
      refine r_getfield dX9_block_130 f_X9_254 (by first | assumption | exact cfx hB hO | exact cfx hB hOp | exact cfx hB hAc | exact cfx hB hAb | exact cfx hB hAe) rfl ?_
      exact r_iret dX9_block_133 (ty := .int) rfl (rfl) ⟨_, rfl, (Or.inr (Or.inr ⟨c_5, rfl, Or.inr (Or.inr (Or.inr (Or.inr (Or.inl ⟨hs, rfl⟩))))⟩)), (RP.id hI)⟩
  · exact r_throw rfl (by decide) th_X9_block_8 (by decide) (by decide) (by decide) ⟨0, 0, rfl, (Or.inl ⟨c_5, rfl⟩), (RP.id hI)⟩
set_option maxRecDepth 100000 in
set_option maxHeartbeats 4000000 in
theorem x_part (κ : KP) {B : Nat → Nat} {S : CST} {Γ : Nat → Int → Int} {q : Nat} (h : AH) (hB : BA B) (hI : ClS κ (cset B S h) S Γ q) {b i : Int} (rb : rng b) (ri : rng i) : MM κ mX9_part 6 1 6 [.ref (B 0), .int (J b), .int (J i)] (cset B S h) (RD κ B S h Γ q (R_part (Γ q) b i)) (RE κ B S h Γ q (R_part (Γ q) b i) [EIO, ENS]) := by
  refine mm_of (L := [some _, some _, some _, none]) (by decide +kernel) rfl rfl (Nat.le_of_ble_eq_true rfl) rfl ?_
  obtain ⟨h05, hD, hW, hG, hU⟩ := id hI
  obtain ⟨cr, eq, p, nc, ne, nb, hO, hC, hE, hP, e1, e2, e3⟩ := id hD
  have hDV : DkV κ (cset B S h) q (Γ q) cr eq p nc ne nb := ⟨hO, hC, hE, hP, e1, e2, e3⟩
  obtain ⟨fc, hAc, hbc⟩ := id hC
  obtain ⟨fe, hAe, hbe⟩ := id hE
  obtain ⟨bl, lv, ms, mr, N, lf, fm, fr, hV⟩ := id hP
  have hOp := hV.1
  have hAl := hV.2.2.1
  obtain ⟨fb, hAb, hbb⟩ := id hV.2.1
  have n0 := hW.n
  have hRw := hW.rw e3
  refine r_al0 dX9_part_0 ?_
  refine r_il1 dX9_part_1 ?_
  refine r_callVP1 dX9_part_2 v_X9_132 (cs_obj hB (k9 := 0) (by decide) rfl) (x_hasBlock κ h hB hI (by omega)) (by decide) rfl ?_
  refine r_ifT_ne (tgt := 16) dX9_part_5 (by decide) (fun c_5 => ?_) (fun c_5 => ?_)
  · have h59 : 0 ≤ b ∧ b ≤ Γ q 3 - 1 := c_5
    refine r_al0 dX9_part_16 ?_
    refine b_getR dX9_part_17 f_X9_39 hB (by decide) rfl rfl (by first | exact h05 | exact h05u) ?_
    refine r_getfield dX9_part_20 f_X9_135 (by first | assumption | exact cfx hB hO | exact cfx hB hOp | exact cfx hB hAc | exact cfx hB hAb | exact cfx hB hAe) rfl ?_
    refine r_il1 dX9_part_23 ?_
    refine r_il2 dX9_part_24 ?_
    refine r_callVQ2 dX9_part_25 v_X9_257 hOp (c_partOf κ _ (by omega) hV hRw rb ri) (by decide) rfl (fun r_25 rr_25 hr_25 => ?_)
    refine r_is3 dX9_part_28 rfl ?_
    refine r_il3 dX9_part_29 ?_
    refine r_iconst dX9_part_30 ?_
    refine r_icmp_ne (tgt := 42) dX9_part_31 (by decide) (by (first | assumption | omega)) (by (first | assumption | omega)) (fun c_31 => ?_) (fun c_31 => ?_)
    · refine r_il3 dX9_part_42 ?_
      exact r_iret dX9_part_43 (ty := .int) rfl (rfl) ⟨_, rfl, (Or.inr (Or.inr ⟨c_5, rfl, part_yes e3 (hr_25.elim (fun z => absurd z.1 c_31) id)⟩)), (RP.id hI)⟩
    · exact r_throw rfl (by decide) th_X9_part_34 (by decide) (by decide) (by decide) ⟨1, 0, rfl, (by first | exact Or.inr (Or.inl ⟨c_5, part_no e3 (hr_25.elim (fun z => z.2) (fun z => by omega)), rfl⟩)), (RP.id hI)⟩
  · exact r_throw rfl (by decide) th_X9_part_8 (by decide) (by decide) (by decide) ⟨0, 0, rfl, (Or.inl ⟨c_5, rfl⟩), (RP.id hI)⟩
set_option maxRecDepth 100000 in
set_option maxHeartbeats 4000000 in
theorem x_letter (κ : KP) {B : Nat → Nat} {S : CST} {Γ : Nat → Int → Int} {q : Nat} (h : AH) (hB : BA B) (hI : ClS κ (cset B S h) S Γ q) {b i : Int} (rb : rng b) (ri : rng i) : MM κ mX9_letter 6 1 6 [.ref (B 0), .int (J b), .int (J i)] (cset B S h) (RD κ B S h Γ q (R_letter (Γ q) b i)) (RE κ B S h Γ q (R_letter (Γ q) b i) [EIO, ENS]) := by
  refine mm_of (L := [some _, some _, some _, none]) (by decide +kernel) rfl rfl (Nat.le_of_ble_eq_true rfl) rfl ?_
  obtain ⟨h05, hD, hW, hG, hU⟩ := id hI
  obtain ⟨cr, eq, p, nc, ne, nb, hO, hC, hE, hP, e1, e2, e3⟩ := id hD
  have hDV : DkV κ (cset B S h) q (Γ q) cr eq p nc ne nb := ⟨hO, hC, hE, hP, e1, e2, e3⟩
  obtain ⟨fc, hAc, hbc⟩ := id hC
  obtain ⟨fe, hAe, hbe⟩ := id hE
  obtain ⟨bl, lv, ms, mr, N, lf, fm, fr, hV⟩ := id hP
  have hOp := hV.1
  have hAl := hV.2.2.1
  obtain ⟨fb, hAb, hbb⟩ := id hV.2.1
  have n0 := hW.n
  have hRw := hW.rw e3
  refine r_al0 dX9_letter_0 ?_
  refine r_il1 dX9_letter_1 ?_
  refine r_callVP1 dX9_letter_2 v_X9_132 (cs_obj hB (k9 := 0) (by decide) rfl) (x_hasBlock κ h hB hI (by omega)) (by decide) rfl ?_
  refine r_ifT_ne (tgt := 16) dX9_letter_5 (by decide) (fun c_5 => ?_) (fun c_5 => ?_)
  · have h59 : 0 ≤ b ∧ b ≤ Γ q 3 - 1 := c_5
    have hw := hW.b (b := b) (by omega) (by omega)
    unfold WFb at hw
    have hl5 : (((Γ q) (60 + 12 * b + 5)).toNat : Int) = (Γ q) (60 + 12 * b + 5) := Int.toNat_of_nonneg hw.2.2.2.2.2.1.1
    refine r_al0 dX9_letter_16 ?_
    refine b_getR dX9_letter_17 f_X9_39 hB (by decide) rfl rfl (by first | exact h05 | exact h05u) ?_
    refine r_getfield dX9_letter_20 f_X9_135 (by first | assumption | exact cfx hB hO | exact cfx hB hOp | exact cfx hB hAc | exact cfx hB hAb | exact cfx hB hAe) rfl ?_
    refine r_getfield dX9_letter_23 f_X9_139 (by first | assumption | exact cfx hB hO | exact cfx hB hOp | exact cfx hB hAc | exact cfx hB hAb | exact cfx hB hAe) rfl ?_
    refine r_il1 dX9_letter_26 ?_
    obtain ⟨a_27, ha_27, hb_27⟩ := hbb b (by omega) (by omega)
    obtain ⟨q_27, s_27, hO_27, hS_27⟩ := id hb_27
    simp only [rwg] at hO_27
    refine r_aaF dX9_letter_27 (by first | exact hAb | exact cfx hB hAb) (by decide) ha_27 (by omega) (by omega) (by omega) ?_
    simp only [rwg] at hS_27
    refine r_getfield dX9_letter_28 f_X9_245 (by first | assumption | exact cfx hB hO | exact cfx hB hOp | exact cfx hB hAc | exact cfx hB hAb | exact cfx hB hAe) rfl ?_
    refine r_as3 dX9_letter_31 rfl ?_
    refine r_il2 dX9_letter_32 ?_
    refine r_if_lt (tgt := 44) dX9_letter_33 (by decide) (by (first | assumption | omega)) (fun c_33 => ?_) (fun c_33 => ?_)
    · exact r_throw rfl (by decide) th_X9_letter_44 (by decide) (by decide) (by decide) ⟨1, 0, rfl, (Or.inr (Or.inl ⟨c_5, (by unfold QIn; omega), rfl⟩)), (RP.id hI)⟩
    · refine r_il2 dX9_letter_36 ?_
      refine r_al3 dX9_letter_37 ?_
      refine r_sP0 dX9_letter_38 v_X9_249 hS_27 (c_slen κ _ hS_27) (by decide) rfl ?_
      refine r_icmp_lt (tgt := 52) dX9_letter_41 (by decide) (by (first | assumption | omega)) (by (first | assumption | omega)) (fun c_41 => ?_) (fun c_41 => ?_)
      · have hlt := lett_rg hW (b := b) (by omega) (by omega) (i := i) (by omega) (by omega)
        refine r_al3 dX9_letter_52 ?_
        refine r_il2 dX9_letter_53 ?_
        refine r_sP1 dX9_letter_54 v_X9_260 hS_27 (c_sca κ _ hS_27 (by omega) (by omega)) (by decide) rfl ?_
        exact r_iret dX9_letter_57 (ty := .char) rfl (nar_c hlt.1 hlt.2) ⟨_, rfl, (Or.inr (Or.inr ⟨c_5, by unfold QIn; omega, rfl, rfl⟩)), (RP.id hI)⟩
      · exact r_throw rfl (by decide) th_X9_letter_44 (by decide) (by decide) (by decide) ⟨1, 0, rfl, (Or.inr (Or.inl ⟨c_5, (by unfold QIn; omega), rfl⟩)), (RP.id hI)⟩
  · exact r_throw rfl (by decide) th_X9_letter_8 (by decide) (by decide) (by decide) ⟨0, 0, rfl, (Or.inl ⟨c_5, rfl⟩), (RP.id hI)⟩
set_option maxRecDepth 100000 in
set_option maxHeartbeats 4000000 in
theorem x_accepts (κ : KP) {B : Nat → Nat} {S : CST} {Γ : Nat → Int → Int} {q : Nat} (h : AH) (hB : BA B) (hI : ClS κ (cset B S h) S Γ q) {b c : Int} (rb : rng b) (rc : rng c) : MM κ mX9_accepts 7 1 6 [.ref (B 0), .int (J b), .int (J c)] (cset B S h) (RD κ B S h Γ q (R_accepts (Γ q) b c)) (RE κ B S h Γ q (R_accepts (Γ q) b c) [EIO]) := by
  refine mm_of (L := [some _, some _, some _]) (by decide +kernel) rfl rfl (Nat.le_of_ble_eq_true rfl) rfl ?_
  obtain ⟨h05, hD, hW, hG, hU⟩ := id hI
  obtain ⟨cr, eq, p, nc, ne, nb, hO, hC, hE, hP, e1, e2, e3⟩ := id hD
  have hDV : DkV κ (cset B S h) q (Γ q) cr eq p nc ne nb := ⟨hO, hC, hE, hP, e1, e2, e3⟩
  obtain ⟨fc, hAc, hbc⟩ := id hC
  obtain ⟨fe, hAe, hbe⟩ := id hE
  obtain ⟨bl, lv, ms, mr, N, lf, fm, fr, hV⟩ := id hP
  have hOp := hV.1
  have hAl := hV.2.2.1
  obtain ⟨fb, hAb, hbb⟩ := id hV.2.1
  have n0 := hW.n
  have hRw := hW.rw e3
  refine r_al0 dX9_accepts_0 ?_
  refine r_il1 dX9_accepts_1 ?_
  refine r_callVP1 dX9_accepts_2 v_X9_132 (cs_obj hB (k9 := 0) (by decide) rfl) (x_hasBlock κ h hB hI (by omega)) (by decide) rfl ?_
  refine r_ifT_eq (tgt := 16) dX9_accepts_5 (by decide) (fun c_5 => ?_) (fun c_5 => ?_)
  · exact r_throw rfl (by decide) th_X9_accepts_16 (by decide) (by decide) (by decide) ⟨0, 0, rfl, (Or.inl ⟨(fun z => by first | exact c_5 z.1 | exact c_13 z.2), rfl⟩), (RP.id hI)⟩
  · refine r_al0 dX9_accepts_8 ?_
    refine r_il2 dX9_accepts_9 ?_
    refine r_callVP1 dX9_accepts_10 v_X9_96 (cs_obj hB (k9 := 0) (by decide) rfl) (x_hasCredit κ h hB hI (by omega)) (by decide) rfl ?_
    refine r_ifT_ne (tgt := 24) dX9_accepts_13 (by decide) (fun c_13 => ?_) (fun c_13 => ?_)
    · have h59 : 0 ≤ b ∧ b ≤ Γ q 3 - 1 := c_5
      have h69 : 0 ≤ c ∧ c ≤ Γ q 1 - 1 := c_13
      have hw := hW.c (c := c) (by omega) (by omega)
      unfold WFc QLow QCap at hw
      have hw2 := hW.b (b := b) (by omega) (by omega)
      unfold WFb at hw2
      refine r_al0 dX9_accepts_24 ?_
      refine b_getR dX9_accepts_25 f_X9_39 hB (by decide) rfl rfl (by first | exact h05 | exact h05u) ?_
      refine r_getfield dX9_accepts_28 f_X9_135 (by first | assumption | exact cfx hB hO | exact cfx hB hOp | exact cfx hB hAc | exact cfx hB hAb | exact cfx hB hAe) rfl ?_
      refine r_getfield dX9_accepts_31 f_X9_139 (by first | assumption | exact cfx hB hO | exact cfx hB hOp | exact cfx hB hAc | exact cfx hB hAb | exact cfx hB hAe) rfl ?_
      refine r_il1 dX9_accepts_34 ?_
      obtain ⟨a_35, ha_35, hb_35⟩ := hbb b (by omega) (by omega)
      obtain ⟨q_35, s_35, hO_35, hS_35⟩ := id hb_35
      simp only [rwg] at hO_35
      refine r_aaF dX9_accepts_35 (by first | exact hAb | exact cfx hB hAb) (by decide) ha_35 (by omega) (by omega) (by omega) ?_
      refine r_al0 dX9_accepts_36 ?_
      refine b_getR dX9_accepts_37 f_X9_39 hB (by decide) rfl rfl (by first | exact h05 | exact h05u) ?_
      refine r_getfield dX9_accepts_40 f_X9_79 (by first | assumption | exact cfx hB hO | exact cfx hB hOp | exact cfx hB hAc | exact cfx hB hAb | exact cfx hB hAe) rfl ?_
      refine r_il2 dX9_accepts_43 ?_
      obtain ⟨a_44, ha_44, hc_44⟩ := hbc c (by omega) (by omega)
      have hd_44 := hc_44
      unfold CrR at hd_44
      simp only [crg] at hd_44
      refine r_aaF dX9_accepts_44 (by first | exact hAc | exact cfx hB hAc) (by decide) ha_44 (by omega) (by omega) (by omega) ?_
      refine r_al0 dX9_accepts_45 ?_
      refine b_getR dX9_accepts_46 f_X9_39 hB (by decide) rfl rfl (by first | exact h05 | exact h05u) ?_
      refine r_getfield dX9_accepts_49 f_X9_264 (by first | assumption | exact cfx hB hO | exact cfx hB hOp | exact cfx hB hAc | exact cfx hB hAb | exact cfx hB hAe) rfl ?_
      refine r_callVP2 dX9_accepts_52 v_X9_265 hO_35 (c_btakes κ _ hb_35 hc_44 (by simp only [crg]; omega) (by simp only [crg]; omega) (by simp only [crg]; omega) (by simp only [rwg]; omega) (by omega) (by simp only [crg, rwg]; omega)) (by decide) rfl ?_
      rw [← tb_congr (QTk_iff hW (b := b) (c := c) (by omega) (by omega))]
      exact r_iret dX9_accepts_55 (ty := .boolean) rfl (nar_B _) ⟨_, rfl, (Or.inr ⟨⟨c_5, c_13⟩, rfl, rfl⟩), (RP.id hI)⟩
    · exact r_throw rfl (by decide) th_X9_accepts_16 (by decide) (by decide) (by decide) ⟨0, 0, rfl, (Or.inl ⟨(fun z => by first | exact c_5 z.1 | exact c_13 z.2), rfl⟩), (RP.id hI)⟩
set_option maxRecDepth 100000 in
set_option maxHeartbeats 4000000 in
theorem x_isMet (κ : KP) {B : Nat → Nat} {S : CST} {Γ : Nat → Int → Int} {q : Nat} (h : AH) (hB : BA B) (hI : ClS κ (cset B S h) S Γ q) {b : Int} (rb : rng b) : MM κ mX9_isMet 22 1 6 [.ref (B 0), .int (J b)] (cset B S h) (RD κ B S h Γ q (R_isMet (Γ q) b)) (RE κ B S h Γ q (R_isMet (Γ q) b) [EIO]) := by
  refine mm_of (L := [some _, some _]) (by decide +kernel) rfl rfl (Nat.le_of_ble_eq_true rfl) rfl ?_
  obtain ⟨h05, hD, hW, hG, hU⟩ := id hI
  obtain ⟨cr, eq, p, nc, ne, nb, hO, hC, hE, hP, e1, e2, e3⟩ := id hD
  have hDV : DkV κ (cset B S h) q (Γ q) cr eq p nc ne nb := ⟨hO, hC, hE, hP, e1, e2, e3⟩
  obtain ⟨fc, hAc, hbc⟩ := id hC
  obtain ⟨fe, hAe, hbe⟩ := id hE
  obtain ⟨bl, lv, ms, mr, N, lf, fm, fr, hV⟩ := id hP
  have hOp := hV.1
  have hAl := hV.2.2.1
  obtain ⟨fb, hAb, hbb⟩ := id hV.2.1
  have n0 := hW.n
  have hRw := hW.rw e3
  refine r_al0 dX9_isMet_0 ?_
  refine r_il1 dX9_isMet_1 ?_
  refine r_callVP1 dX9_isMet_2 v_X9_132 (cs_obj hB (k9 := 0) (by decide) rfl) (x_hasBlock κ h hB hI (by omega)) (by decide) rfl ?_
  refine r_ifT_ne (tgt := 16) dX9_isMet_5 (by decide) (fun c_5 => ?_) (fun c_5 => ?_)
  · have h59 : 0 ≤ b ∧ b ≤ Γ q 3 - 1 := c_5
    refine r_al0 dX9_isMet_16 ?_
    refine r_callV (As := []) dX9_isMet_17 v_X9_116 (cs_obj hB (k9 := 0) (by decide) rfl) (x_bestUse κ h hB hI) (by decide) rfl rfl (cat_le rfl) (Nat.zero_le _) (Nat.zero_le _) (fun v h9 hq9 => ?_) (fun _ _ hx => hx.elim)
    obtain ⟨rfl, S9, rfl, x9, U, hK⟩ := hq9
    have hQb := hK.best
    have h05u : S9 0 5 = (q : Int) := by rw [x9 0 (by decide)]; exact h05
    have hR9 := RP.use (u := 3) hB hI (Or.inl rfl) (x9.mono (by decide)) hK.k
    refine r_il1 dX9_isMet_20 ?_
    refine r_callVP1 dX9_isMet_21 v_X9_269 (cs_obj hB (k9 := 3) (by decide) rfl) (k_meets κ h hB (Or.inl rfl) hK (by omega) (by omega)) (by decide) rfl ?_
    exact r_iret dX9_isMet_24 (ty := .boolean) rfl (nar_B _) ⟨_, rfl, (Or.inr ⟨c_5, rfl, U, hQb, rfl⟩), hR9⟩
  · exact r_throw rfl (by decide) th_X9_isMet_8 (by decide) (by decide) (by decide) ⟨0, 0, rfl, (Or.inl ⟨c_5, rfl⟩), (RP.id hI)⟩
set_option maxRecDepth 100000 in
set_option maxHeartbeats 4000000 in
theorem x_points (κ : KP) {B : Nat → Nat} {S : CST} {Γ : Nat → Int → Int} {q : Nat} (h : AH) (hB : BA B) (hI : ClS κ (cset B S h) S Γ q) {b : Int} (rb : rng b) : MM κ mX9_points 22 1 6 [.ref (B 0), .int (J b)] (cset B S h) (RD κ B S h Γ q (R_points (Γ q) b)) (RE κ B S h Γ q (R_points (Γ q) b) [EIO]) := by
  refine mm_of (L := [some _, some _]) (by decide +kernel) rfl rfl (Nat.le_of_ble_eq_true rfl) rfl ?_
  obtain ⟨h05, hD, hW, hG, hU⟩ := id hI
  obtain ⟨cr, eq, p, nc, ne, nb, hO, hC, hE, hP, e1, e2, e3⟩ := id hD
  have hDV : DkV κ (cset B S h) q (Γ q) cr eq p nc ne nb := ⟨hO, hC, hE, hP, e1, e2, e3⟩
  obtain ⟨fc, hAc, hbc⟩ := id hC
  obtain ⟨fe, hAe, hbe⟩ := id hE
  obtain ⟨bl, lv, ms, mr, N, lf, fm, fr, hV⟩ := id hP
  have hOp := hV.1
  have hAl := hV.2.2.1
  obtain ⟨fb, hAb, hbb⟩ := id hV.2.1
  have n0 := hW.n
  have hRw := hW.rw e3
  refine r_al0 dX9_points_0 ?_
  refine r_il1 dX9_points_1 ?_
  refine r_callVP1 dX9_points_2 v_X9_132 (cs_obj hB (k9 := 0) (by decide) rfl) (x_hasBlock κ h hB hI (by omega)) (by decide) rfl ?_
  refine r_ifT_ne (tgt := 16) dX9_points_5 (by decide) (fun c_5 => ?_) (fun c_5 => ?_)
  · have h59 : 0 ≤ b ∧ b ≤ Γ q 3 - 1 := c_5
    refine r_al0 dX9_points_16 ?_
    refine r_callV (As := []) dX9_points_17 v_X9_116 (cs_obj hB (k9 := 0) (by decide) rfl) (x_bestUse κ h hB hI) (by decide) rfl rfl (cat_le rfl) (Nat.zero_le _) (Nat.zero_le _) (fun v h9 hq9 => ?_) (fun _ _ hx => hx.elim)
    obtain ⟨rfl, S9, rfl, x9, U, hK⟩ := hq9
    have hQb := hK.best
    have h05u : S9 0 5 = (q : Int) := by rw [x9 0 (by decide)]; exact h05
    have hR9 := RP.use (u := 3) hB hI (Or.inl rfl) (x9.mono (by decide)) hK.k
    refine r_il1 dX9_points_20 ?_
    refine r_callVP1 dX9_points_21 v_X9_272 (cs_obj hB (k9 := 3) (by decide) rfl) (k_ptWithin κ h hB (Or.inl rfl) hK (by omega) (by omega)) (by decide) rfl ?_
    exact r_iret dX9_points_24 (ty := .int) rfl (rfl) ⟨_, rfl, (Or.inr ⟨c_5, rfl, U, hQb, rfl⟩), hR9⟩
  · exact r_throw rfl (by decide) th_X9_points_8 (by decide) (by decide) (by decide) ⟨0, 0, rfl, (Or.inl ⟨c_5, rfl⟩), (RP.id hI)⟩
set_option maxRecDepth 100000 in
set_option maxHeartbeats 4000000 in
theorem x_lacks (κ : KP) {B : Nat → Nat} {S : CST} {Γ : Nat → Int → Int} {q : Nat} (h : AH) (hB : BA B) (hI : ClS κ (cset B S h) S Γ q) {b : Int} (rb : rng b) : MM κ mX9_lacks 22 1 6 [.ref (B 0), .int (J b)] (cset B S h) (RD κ B S h Γ q (R_lacks (Γ q) b)) (RE κ B S h Γ q (R_lacks (Γ q) b) [EIO, EIS]) := by
  refine mm_of (L := [some _, some _, none]) (by decide +kernel) rfl rfl (Nat.le_of_ble_eq_true rfl) rfl ?_
  obtain ⟨h05, hD, hW, hG, hU⟩ := id hI
  obtain ⟨cr, eq, p, nc, ne, nb, hO, hC, hE, hP, e1, e2, e3⟩ := id hD
  have hDV : DkV κ (cset B S h) q (Γ q) cr eq p nc ne nb := ⟨hO, hC, hE, hP, e1, e2, e3⟩
  obtain ⟨fc, hAc, hbc⟩ := id hC
  obtain ⟨fe, hAe, hbe⟩ := id hE
  obtain ⟨bl, lv, ms, mr, N, lf, fm, fr, hV⟩ := id hP
  have hOp := hV.1
  have hAl := hV.2.2.1
  obtain ⟨fb, hAb, hbb⟩ := id hV.2.1
  have n0 := hW.n
  have hRw := hW.rw e3
  refine r_al0 dX9_lacks_0 ?_
  refine r_il1 dX9_lacks_1 ?_
  refine r_callVP1 dX9_lacks_2 v_X9_132 (cs_obj hB (k9 := 0) (by decide) rfl) (x_hasBlock κ h hB hI (by omega)) (by decide) rfl ?_
  refine r_ifT_ne (tgt := 16) dX9_lacks_5 (by decide) (fun c_5 => ?_) (fun c_5 => ?_)
  · have h59 : 0 ≤ b ∧ b ≤ Γ q 3 - 1 := c_5
    have hgr := hW.gr (b := b) (by omega) (by omega)
    have hw := hW.b (b := b) (by omega) (by omega)
    unfold WFb at hw
    refine r_al0 dX9_lacks_16 ?_
    refine b_getR dX9_lacks_17 f_X9_39 hB (by decide) rfl rfl (by first | exact h05 | exact h05u) ?_
    refine r_getfield dX9_lacks_20 f_X9_135 (by first | assumption | exact cfx hB hO | exact cfx hB hOp | exact cfx hB hAc | exact cfx hB hAb | exact cfx hB hAe) rfl ?_
    refine r_getfield dX9_lacks_23 f_X9_139 (by first | assumption | exact cfx hB hO | exact cfx hB hOp | exact cfx hB hAc | exact cfx hB hAb | exact cfx hB hAe) rfl ?_
    refine r_il1 dX9_lacks_26 ?_
    obtain ⟨a_27, ha_27, hb_27⟩ := hbb b (by omega) (by omega)
    obtain ⟨q_27, s_27, hO_27, hS_27⟩ := id hb_27
    simp only [rwg] at hO_27
    refine r_aaF dX9_lacks_27 (by first | exact hAb | exact cfx hB hAb) (by decide) ha_27 (by omega) (by omega) (by omega) ?_
    refine r_as2 dX9_lacks_28 rfl ?_
    refine r_al2 dX9_lacks_29 ?_
    refine r_callVP0 dX9_lacks_30 v_X9_143 hO_27 (c_isGr κ _ hb_27) (by decide) rfl ?_
    refine r_ifT_eq (tgt := 44) dX9_lacks_33 (by decide) (fun c_33 => ?_) (fun c_33 => ?_)
    · refine r_iconst dX9_lacks_44 ?_
      refine r_al2 dX9_lacks_45 ?_
      refine r_getfield dX9_lacks_46 f_X9_236 (by first | assumption | exact cfx hB hO | exact cfx hB hOp | exact cfx hB hAc | exact cfx hB hAb | exact cfx hB hAe) rfl ?_
      refine r_al0 dX9_lacks_49 ?_
      refine r_callV (As := []) dX9_lacks_50 v_X9_116 (cs_obj hB (k9 := 0) (by decide) rfl) (x_bestUse κ h hB hI) (by decide) rfl rfl (cat_le rfl) (Nat.zero_le _) (Nat.zero_le _) (fun v h9 hq9 => ?_) (fun _ _ hx => hx.elim)
      obtain ⟨rfl, S9, rfl, x9, U, hK⟩ := hq9
      have hQb := hK.best
      have h05u : S9 0 5 = (q : Int) := by rw [x9 0 (by decide)]; exact h05
      have hR9 := RP.use (u := 3) hB hI (Or.inl rfl) (x9.mono (by decide)) hK.k
      refine r_il1 dX9_lacks_53 ?_
      refine r_callVP1 dX9_lacks_54 v_X9_272 (cs_obj hB (k9 := 3) (by decide) rfl) (k_ptWithin κ h hB (Or.inl rfl) hK (by omega) (by omega)) (by decide) rfl ?_
      have hng : ¬ QGr (Γ q) b := fun z => c_33 (hgr.mp z)
      rw [pts_leaf hW hng (by omega) (by omega)]
      have hgb := qgets_bd (u := U) (k := b) hW
      have hmt := (lacks_eq (U := U) hW hng (by omega) (by omega)).2
      refine r_isub dX9_lacks_57 ?_
      refine r_max dX9_lacks_58 s_X9_275 (by decide) (by omega) (by decide) rfl ?_
      exact r_iret dX9_lacks_61 (ty := .int) rfl (rfl) ⟨_, rfl, (Or.inr (Or.inr ⟨c_5, hng, rfl, U, hQb, lacks_R hmt⟩)), hR9⟩
    · exact r_throw rfl (by decide) th_X9_lacks_36 (by decide) (by decide) (by decide) ⟨1, 0, rfl, (Or.inr (Or.inl ⟨c_5, hgr.mpr c_33, rfl⟩)), (RP.id hI)⟩
  · exact r_throw rfl (by decide) th_X9_lacks_8 (by decide) (by decide) (by decide) ⟨0, 0, rfl, (Or.inl ⟨c_5, rfl⟩), (RP.id hI)⟩
set_option maxRecDepth 100000 in
set_option maxHeartbeats 4000000 in
theorem x_isComplete (κ : KP) {B : Nat → Nat} {S : CST} {Γ : Nat → Int → Int} {q : Nat} (h : AH) (hB : BA B) (hI : ClS κ (cset B S h) S Γ q)  : MM κ mX9_isComplete 22 1 6 [.ref (B 0)] (cset B S h) (RD κ B S h Γ q (R_isComplete (Γ q))) (RE κ B S h Γ q (R_isComplete (Γ q)) []) := by
  refine mm_of (L := [some _, none]) (by decide +kernel) rfl rfl (Nat.le_of_ble_eq_true rfl) rfl ?_
  obtain ⟨h05, hD, hW, hG, hU⟩ := id hI
  obtain ⟨cr, eq, p, nc, ne, nb, hO, hC, hE, hP, e1, e2, e3⟩ := id hD
  have hDV : DkV κ (cset B S h) q (Γ q) cr eq p nc ne nb := ⟨hO, hC, hE, hP, e1, e2, e3⟩
  obtain ⟨fc, hAc, hbc⟩ := id hC
  obtain ⟨fe, hAe, hbe⟩ := id hE
  obtain ⟨bl, lv, ms, mr, N, lf, fm, fr, hV⟩ := id hP
  have hOp := hV.1
  have hAl := hV.2.2.1
  obtain ⟨fb, hAb, hbb⟩ := id hV.2.1
  have n0 := hW.n
  have hRw := hW.rw e3
  refine r_al0 dX9_isComplete_0 ?_
  refine b_getR dX9_isComplete_1 f_X9_39 hB (by decide) rfl rfl (by first | exact h05 | exact h05u) ?_
  refine r_getfield dX9_isComplete_4 f_X9_135 (by first | assumption | exact cfx hB hO | exact cfx hB hOp | exact cfx hB hAc | exact cfx hB hAb | exact cfx hB hAe) rfl ?_
  refine r_callVP0 dX9_isComplete_7 v_X9_278 hOp (c_rootCount κ _ (by omega) hV hRw) (by decide) rfl ?_
  rw [cnt_root hW e3]
  have hab := qallr_bd hW
  refine r_is1 dX9_isComplete_10 rfl ?_
  refine r_il1 dX9_isComplete_11 ?_
  refine r_if_le (tgt := 30) dX9_isComplete_12 (by decide) (by (first | assumption | omega)) (fun c_12 => ?_) (fun c_12 => ?_)
  · refine r_iconst dX9_isComplete_30 ?_
    first | exact r_iret dX9_isComplete_31 (ty := .boolean) rfl (by decide) ⟨_, rfl, ⟨rfl, U, hQb, (bP_t (by omega)).symm⟩, hR9⟩ | exact r_iret dX9_isComplete_31 (ty := .boolean) rfl (by decide) ⟨_, rfl, ⟨rfl, U, hQb, (bP_f (by omega)).symm⟩, hR9⟩ | (obtain ⟨U, hQb⟩ := hI.best; exact r_iret dX9_isComplete_31 (ty := .boolean) rfl (by decide) ⟨_, rfl, ⟨rfl, U, hQb, (bP_f (by omega)).symm⟩, (RP.id hI)⟩)
  · refine r_al0 dX9_isComplete_15 ?_
    refine r_callV (As := []) dX9_isComplete_16 v_X9_116 (cs_obj hB (k9 := 0) (by decide) rfl) (x_bestUse κ h hB hI) (by decide) rfl rfl (cat_le rfl) (Nat.zero_le _) (Nat.zero_le _) (fun v h9 hq9 => ?_) (fun _ _ hx => hx.elim)
    obtain ⟨rfl, S9, rfl, x9, U, hK⟩ := hq9
    have hQb := hK.best
    have h05u : S9 0 5 = (q : Int) := by rw [x9 0 (by decide)]; exact h05
    have hR9 := RP.use (u := 3) hB hI (Or.inl rfl) (x9.mono (by decide)) hK.k
    refine r_callVP0 dX9_isComplete_19 v_X9_281 (cs_obj hB (k9 := 3) (by decide) rfl) (k_rootsMet κ h hB (Or.inl rfl) hK) (by decide) rfl ?_
    have hrb := qroots_bd (U := U) hW
    refine r_il1 dX9_isComplete_22 ?_
    refine r_icmp_ne (tgt := 30) dX9_isComplete_23 (by decide) (by (first | assumption | omega)) (by (first | assumption | omega)) (fun c_23 => ?_) (fun c_23 => ?_)
    · refine r_iconst dX9_isComplete_30 ?_
      first | exact r_iret dX9_isComplete_31 (ty := .boolean) rfl (by decide) ⟨_, rfl, ⟨rfl, U, hQb, (bP_t (by omega)).symm⟩, hR9⟩ | exact r_iret dX9_isComplete_31 (ty := .boolean) rfl (by decide) ⟨_, rfl, ⟨rfl, U, hQb, (bP_f (by omega)).symm⟩, hR9⟩ | (obtain ⟨U, hQb⟩ := hI.best; exact r_iret dX9_isComplete_31 (ty := .boolean) rfl (by decide) ⟨_, rfl, ⟨rfl, U, hQb, (bP_f (by omega)).symm⟩, (RP.id hI)⟩)
    · refine r_iconst dX9_isComplete_26 ?_
      refine r_goto (tgt := 31) dX9_isComplete_27 (by decide) ?_
      first | exact r_iret dX9_isComplete_31 (ty := .boolean) rfl (by decide) ⟨_, rfl, ⟨rfl, U, hQb, (bP_t (by omega)).symm⟩, hR9⟩ | exact r_iret dX9_isComplete_31 (ty := .boolean) rfl (by decide) ⟨_, rfl, ⟨rfl, U, hQb, (bP_f (by omega)).symm⟩, hR9⟩ | (obtain ⟨U, hQb⟩ := hI.best; exact r_iret dX9_isComplete_31 (ty := .boolean) rfl (by decide) ⟨_, rfl, ⟨rfl, U, hQb, (bP_f (by omega)).symm⟩, (RP.id hI)⟩)
set_option maxRecDepth 100000 in
set_option maxHeartbeats 4000000 in
theorem x_layers (κ : KP) {B : Nat → Nat} {S : CST} {Γ : Nat → Int → Int} {q : Nat} (h : AH) (hB : BA B) (hI : ClS κ (cset B S h) S Γ q) {b : Int} (rb : rng b) : MM κ mX9_layers 22 1 6 [.ref (B 0), .int (J b)] (cset B S h) (RD κ B S h Γ q (R_layers (Γ q) b)) (RE κ B S h Γ q (R_layers (Γ q) b) [EIO]) := by
  refine mm_of (L := [some _, some _]) (by decide +kernel) rfl rfl (Nat.le_of_ble_eq_true rfl) rfl ?_
  obtain ⟨h05, hD, hW, hG, hU⟩ := id hI
  obtain ⟨cr, eq, p, nc, ne, nb, hO, hC, hE, hP, e1, e2, e3⟩ := id hD
  have hDV : DkV κ (cset B S h) q (Γ q) cr eq p nc ne nb := ⟨hO, hC, hE, hP, e1, e2, e3⟩
  obtain ⟨fc, hAc, hbc⟩ := id hC
  obtain ⟨fe, hAe, hbe⟩ := id hE
  obtain ⟨bl, lv, ms, mr, N, lf, fm, fr, hV⟩ := id hP
  have hOp := hV.1
  have hAl := hV.2.2.1
  obtain ⟨fb, hAb, hbb⟩ := id hV.2.1
  have n0 := hW.n
  have hRw := hW.rw e3
  refine r_al0 dX9_layers_0 ?_
  refine r_il1 dX9_layers_1 ?_
  refine r_callVP1 dX9_layers_2 v_X9_132 (cs_obj hB (k9 := 0) (by decide) rfl) (x_hasBlock κ h hB hI (by omega)) (by decide) rfl ?_
  refine r_ifT_ne (tgt := 16) dX9_layers_5 (by decide) (fun c_5 => ?_) (fun c_5 => ?_)
  · have h59 : 0 ≤ b ∧ b ≤ Γ q 3 - 1 := c_5
    refine r_al0 dX9_layers_16 ?_
    refine b_get dX9_layers_17 f_X9_58 hB (by decide) (k9 := 0) rfl rfl ?_
    refine r_al0 dX9_layers_20 ?_
    refine b_getR dX9_layers_21 f_X9_39 hB (by decide) rfl rfl (by first | exact h05 | exact h05u) ?_
    refine r_al0 dX9_layers_24 ?_
    refine r_callV (As := []) dX9_layers_25 v_X9_116 (cs_obj hB (k9 := 0) (by decide) rfl) (x_bestUse κ h hB hI) (by decide) rfl rfl (cat_le rfl) (Nat.zero_le _) (Nat.zero_le _) (fun v h9 hq9 => ?_) (fun _ _ hx => hx.elim)
    obtain ⟨rfl, S9, rfl, x9, U, hK⟩ := hq9
    have hQb := hK.best
    have h05u : S9 0 5 = (q : Int) := by rw [x9 0 (by decide)]; exact h05
    have hR9 := RP.use (u := 3) hB hI (Or.inl rfl) (x9.mono (by decide)) hK.k
    refine r_il1 dX9_layers_28 ?_
    refine r_callV (As := [.ref q, .ref (B 3), .int (J b)]) dX9_layers_29 v_X9_294 (cs_obj hB (k9 := 5) (by decide) rfl) (c_follow κ h hB (Or.inl rfl) hK (by omega) (by omega)) (by decide) rfl rfl (cat_le rfl) (Nat.zero_le _) (Nat.zero_le _) (fun v h9 hq9 => ?_) (fun _ _ hx => hx.elim)
    obtain ⟨rfl, S8, rfl, y9, l, hl, hl2, hlC⟩ := hq9
    have hll := hl.len
    have hR8 := RP.lay hB hI x9 hK y9
    refine r_al0 dX9_layers_32 ?_
    refine b_get dX9_layers_33 f_X9_58 hB (by decide) (k9 := 0) rfl rfl ?_
    refine b_get dX9_layers_36 f_X9_298 hB (by decide) (k9 := 5) rfl rfl ?_
    exact r_iret dX9_layers_39 (ty := .int) rfl (rfl) ⟨_, rfl, (Or.inr ⟨c_5, rfl, U, l, hQb, hl, hl2⟩), hR8⟩
  · exact r_throw rfl (by decide) th_X9_layers_8 (by decide) (by decide) (by decide) ⟨0, 0, rfl, (Or.inl ⟨c_5, rfl⟩), (RP.id hI)⟩
set_option maxRecDepth 100000 in
set_option maxHeartbeats 4000000 in
theorem x_why (κ : KP) {B : Nat → Nat} {S : CST} {Γ : Nat → Int → Int} {q : Nat} (h : AH) (hB : BA B) (hI : ClS κ (cset B S h) S Γ q) {b a x : Int} (rb : rng b) (ra : rng a) (rx : rng x) : MM κ mX9_why 22 1 6 [.ref (B 0), .int (J b), .int (J a), .int (J x)] (cset B S h) (RD κ B S h Γ q (R_why (Γ q) b a x)) (RE κ B S h Γ q (R_why (Γ q) b a x) [EIO, ENS, EIA]) := by
  refine mm_of (L := [some _, some _, some _, some _]) (by decide +kernel) rfl rfl (Nat.le_of_ble_eq_true rfl) rfl ?_
  obtain ⟨h05, hD, hW, hG, hU⟩ := id hI
  obtain ⟨cr, eq, p, nc, ne, nb, hO, hC, hE, hP, e1, e2, e3⟩ := id hD
  have hDV : DkV κ (cset B S h) q (Γ q) cr eq p nc ne nb := ⟨hO, hC, hE, hP, e1, e2, e3⟩
  obtain ⟨fc, hAc, hbc⟩ := id hC
  obtain ⟨fe, hAe, hbe⟩ := id hE
  obtain ⟨bl, lv, ms, mr, N, lf, fm, fr, hV⟩ := id hP
  have hOp := hV.1
  have hAl := hV.2.2.1
  obtain ⟨fb, hAb, hbb⟩ := id hV.2.1
  have n0 := hW.n
  have hRw := hW.rw e3
  refine r_al0 dX9_why_0 ?_
  refine r_il1 dX9_why_1 ?_
  refine r_callVP1 dX9_why_2 v_X9_132 (cs_obj hB (k9 := 0) (by decide) rfl) (x_hasBlock κ h hB hI (by omega)) (by decide) rfl ?_
  refine r_ifT_ne (tgt := 16) dX9_why_5 (by decide) (fun c_5 => ?_) (fun c_5 => ?_)
  · have h59 : 0 ≤ b ∧ b ≤ Γ q 3 - 1 := c_5
    refine r_al0 dX9_why_16 ?_
    refine b_get dX9_why_17 f_X9_58 hB (by decide) (k9 := 0) rfl rfl ?_
    refine r_al0 dX9_why_20 ?_
    refine b_getR dX9_why_21 f_X9_39 hB (by decide) rfl rfl (by first | exact h05 | exact h05u) ?_
    refine r_al0 dX9_why_24 ?_
    refine r_callV (As := []) dX9_why_25 v_X9_116 (cs_obj hB (k9 := 0) (by decide) rfl) (x_bestUse κ h hB hI) (by decide) rfl rfl (cat_le rfl) (Nat.zero_le _) (Nat.zero_le _) (fun v h9 hq9 => ?_) (fun _ _ hx => hx.elim)
    obtain ⟨rfl, S9, rfl, x9, U, hK⟩ := hq9
    have hQb := hK.best
    have h05u : S9 0 5 = (q : Int) := by rw [x9 0 (by decide)]; exact h05
    have hR9 := RP.use (u := 3) hB hI (Or.inl rfl) (x9.mono (by decide)) hK.k
    refine r_il1 dX9_why_28 ?_
    refine r_callV (As := [.ref q, .ref (B 3), .int (J b)]) dX9_why_29 v_X9_294 (cs_obj hB (k9 := 5) (by decide) rfl) (c_follow κ h hB (Or.inl rfl) hK (by omega) (by omega)) (by decide) rfl rfl (cat_le rfl) (Nat.zero_le _) (Nat.zero_le _) (fun v h9 hq9 => ?_) (fun _ _ hx => hx.elim)
    obtain ⟨rfl, S8, rfl, y9, l, hl, hl2, hlC⟩ := hq9
    have hll := hl.len
    have hR8 := RP.lay hB hI x9 hK y9
    refine r_il2 dX9_why_32 ?_
    refine r_if_lt (tgt := 47) dX9_why_33 (by decide) (by (first | assumption | omega | (rw [hl2]; omega))) (fun c_33 => ?_) (fun c_33 => ?_)
    · exact r_throw rfl (by decide) th_X9_why_47 (by decide) (by decide) (by decide) ⟨1, 0, rfl, (Or.inr ⟨c_5, U, l, hQb, hl, Or.inl ⟨(by unfold QIn; omega), rfl⟩⟩), hR8⟩
    · refine r_il2 dX9_why_36 ?_
      refine r_al0 dX9_why_37 ?_
      refine b_get dX9_why_38 f_X9_58 hB (by decide) (k9 := 0) rfl rfl ?_
      refine b_get dX9_why_41 f_X9_298 hB (by decide) (k9 := 5) rfl rfl ?_
      refine r_icmp_lt (tgt := 55) dX9_why_44 (by decide) (by (first | assumption | omega | (rw [hl2]; omega))) (by (first | assumption | omega | (rw [hl2]; omega))) (fun c_44 => ?_) (fun c_44 => ?_)
      · refine r_il3 dX9_why_55 ?_
        refine r_if_eq (tgt := 72) dX9_why_56 (by decide) (by (first | assumption | omega | (rw [hl2]; omega))) (fun c_56 => ?_) (fun c_56 => ?_)
        · refine r_il3 dX9_why_72 ?_
          refine r_if_ne (tgt := 88) dX9_why_73 (by decide) (by (first | assumption | omega | (rw [hl2]; omega))) (fun c_73 => ?_) (fun c_73 => ?_)
          · refine r_al0 dX9_why_88 ?_
            refine b_get dX9_why_89 f_X9_58 hB (by decide) (k9 := 0) rfl rfl ?_
            refine b_get dX9_why_92 f_X9_305 hB (by decide) (k9 := 5) rfl rfl ?_
            refine r_il2 dX9_why_95 ?_
            refine b_ald (k9 := 21) dX9_why_96 hB (by decide) rfl (by omega) (by omega) (by omega) ?_
            exact r_iret dX9_why_97 (ty := .int) rfl (rfl) ⟨_, rfl, (Or.inr ⟨c_5, U, l, hQb, hl, Or.inr (Or.inr (why_R hlC (by omega) (by omega) (by first | exact Or.inl ⟨by omega, rfl⟩ | exact Or.inr ⟨by omega, rfl⟩)))⟩), hR8⟩
          · refine r_al0 dX9_why_76 ?_
            refine b_get dX9_why_77 f_X9_58 hB (by decide) (k9 := 0) rfl rfl ?_
            refine b_get dX9_why_80 f_X9_301 hB (by decide) (k9 := 5) rfl rfl ?_
            refine r_il2 dX9_why_83 ?_
            refine b_ald (k9 := 20) dX9_why_84 hB (by decide) rfl (by omega) (by omega) (by omega) ?_
            refine r_goto (tgt := 97) dX9_why_85 (by decide) ?_
            exact r_iret dX9_why_97 (ty := .int) rfl (rfl) ⟨_, rfl, (Or.inr ⟨c_5, U, l, hQb, hl, Or.inr (Or.inr (why_R hlC (by omega) (by omega) (by first | exact Or.inl ⟨by omega, rfl⟩ | exact Or.inr ⟨by omega, rfl⟩)))⟩), hR8⟩
        · refine r_il3 dX9_why_59 ?_
          refine r_iconst dX9_why_60 ?_
          refine r_icmp_eq (tgt := 72) dX9_why_61 (by decide) (by (first | assumption | omega | (rw [hl2]; omega))) (by (first | assumption | omega | (rw [hl2]; omega))) (fun c_61 => ?_) (fun c_61 => ?_)
          · refine r_il3 dX9_why_72 ?_
            refine r_if_ne (tgt := 88) dX9_why_73 (by decide) (by (first | assumption | omega | (rw [hl2]; omega))) (fun c_73 => ?_) (fun c_73 => ?_)
            · refine r_al0 dX9_why_88 ?_
              refine b_get dX9_why_89 f_X9_58 hB (by decide) (k9 := 0) rfl rfl ?_
              refine b_get dX9_why_92 f_X9_305 hB (by decide) (k9 := 5) rfl rfl ?_
              refine r_il2 dX9_why_95 ?_
              refine b_ald (k9 := 21) dX9_why_96 hB (by decide) rfl (by omega) (by omega) (by omega) ?_
              exact r_iret dX9_why_97 (ty := .int) rfl (rfl) ⟨_, rfl, (Or.inr ⟨c_5, U, l, hQb, hl, Or.inr (Or.inr (why_R hlC (by omega) (by omega) (by first | exact Or.inl ⟨by omega, rfl⟩ | exact Or.inr ⟨by omega, rfl⟩)))⟩), hR8⟩
            · refine r_al0 dX9_why_76 ?_
              refine b_get dX9_why_77 f_X9_58 hB (by decide) (k9 := 0) rfl rfl ?_
              refine b_get dX9_why_80 f_X9_301 hB (by decide) (k9 := 5) rfl rfl ?_
              refine r_il2 dX9_why_83 ?_
              refine b_ald (k9 := 20) dX9_why_84 hB (by decide) rfl (by omega) (by omega) (by omega) ?_
              refine r_goto (tgt := 97) dX9_why_85 (by decide) ?_
              exact r_iret dX9_why_97 (ty := .int) rfl (rfl) ⟨_, rfl, (Or.inr ⟨c_5, U, l, hQb, hl, Or.inr (Or.inr (why_R hlC (by omega) (by omega) (by first | exact Or.inl ⟨by omega, rfl⟩ | exact Or.inr ⟨by omega, rfl⟩)))⟩), hR8⟩
          · exact r_throw rfl (by decide) th_X9_why_64 (by decide) (by decide) (by decide) ⟨2, 0, rfl, (Or.inr ⟨c_5, U, l, hQb, hl, Or.inr (Or.inl ⟨(by unfold QIn; omega), (by unfold QIn; omega), rfl⟩)⟩), hR8⟩
      · exact r_throw rfl (by decide) th_X9_why_47 (by decide) (by decide) (by decide) ⟨1, 0, rfl, (Or.inr ⟨c_5, U, l, hQb, hl, Or.inl ⟨(by unfold QIn; omega), rfl⟩⟩), hR8⟩
  · exact r_throw rfl (by decide) th_X9_why_8 (by decide) (by decide) (by decide) ⟨0, 0, rfl, (Or.inl ⟨c_5, rfl⟩), (RP.id hI)⟩
set_option maxRecDepth 100000 in
set_option maxHeartbeats 4000000 in
theorem x_account (κ : KP) {B : Nat → Nat} {S : CST} {Γ : Nat → Int → Int} {q : Nat} (h : AH) (hB : BA B) (hI : ClS κ (cset B S h) S Γ q) {x : Int} (rx : rng x) : MM κ mX9_account 22 1 6 [.ref (B 0), .int (J x)] (cset B S h) (RD κ B S h Γ q (R_account (Γ q) x)) (RE κ B S h Γ q (R_account (Γ q) x) [EIA]) := by
  refine mm_of (L := [some _, some _]) (by decide +kernel) rfl rfl (Nat.le_of_ble_eq_true rfl) rfl ?_
  obtain ⟨h05, hD, hW, hG, hU⟩ := id hI
  obtain ⟨cr, eq, p, nc, ne, nb, hO, hC, hE, hP, e1, e2, e3⟩ := id hD
  have hDV : DkV κ (cset B S h) q (Γ q) cr eq p nc ne nb := ⟨hO, hC, hE, hP, e1, e2, e3⟩
  obtain ⟨fc, hAc, hbc⟩ := id hC
  obtain ⟨fe, hAe, hbe⟩ := id hE
  obtain ⟨bl, lv, ms, mr, N, lf, fm, fr, hV⟩ := id hP
  have hOp := hV.1
  have hAl := hV.2.2.1
  obtain ⟨fb, hAb, hbb⟩ := id hV.2.1
  have n0 := hW.n
  have hRw := hW.rw e3
  refine r_il1 dX9_account_0 ?_
  rcases (show (x < 0 ∨ 9 < x) ∨ x = 0 ∨ x = 1 ∨ x = 2 ∨ x = 3 ∨ x = 4 ∨ x = 5 ∨ x = 6 ∨ x = 7 ∨ x = 8 ∨ x = 9 by omega) with hs | hs | hs | hs | hs | hs | hs | hs | hs | hs | hs
  · refine r_tabOut (tgt := 149) dX9_account_1 (rx) hs (by decide) ?_
    exact r_throw rfl (by decide) th_X9_account_149 (by decide) (by decide) (by decide) ⟨0, 0, rfl, (Or.inl ⟨(by unfold QIn; omega), rfl⟩), (RP.id hI)⟩
  · refine r_tabIn (tgt := 56) dX9_account_1 0 hs (by decide) (by decide) rfl (by decide) ?_
    refine r_al0 dX9_account_56 ?_
    refine b_getR dX9_account_57 f_X9_39 hB (by decide) rfl rfl (by first | exact h05 | exact h05u) ?_
    refine r_getfield dX9_account_60 f_X9_79 (by first | assumption | exact cfx hB hO | exact cfx hB hOp | exact cfx hB hAc | exact cfx hB hAb | exact cfx hB hAe) rfl ?_
    refine r_alenF dX9_account_63 (by first | assumption | exact cfx hB hO | exact cfx hB hOp | exact cfx hB hAc | exact cfx hB hAb | exact cfx hB hAe) (by decide) (rfl) ?_
    obtain ⟨U, hQb⟩ := hI.best
    exact r_iret dX9_account_64 (ty := .int) rfl rfl ⟨_, rfl, (Or.inr ⟨by unfold QIn; omega, rfl, U, hQb, Or.inl ⟨by omega, by omega, by rw [hs]; exact e1⟩⟩), (RP.id hI)⟩
  · refine r_tabIn (tgt := 65) dX9_account_1 1 hs (by decide) (by decide) rfl (by decide) ?_
    refine r_al0 dX9_account_65 ?_
    refine b_getR dX9_account_66 f_X9_39 hB (by decide) rfl rfl (by first | exact h05 | exact h05u) ?_
    refine r_getfield dX9_account_69 f_X9_166 (by first | assumption | exact cfx hB hO | exact cfx hB hOp | exact cfx hB hAc | exact cfx hB hAb | exact cfx hB hAe) rfl ?_
    refine r_alenF dX9_account_72 (by first | assumption | exact cfx hB hO | exact cfx hB hOp | exact cfx hB hAc | exact cfx hB hAb | exact cfx hB hAe) (by decide) (rfl) ?_
    obtain ⟨U, hQb⟩ := hI.best
    exact r_iret dX9_account_73 (ty := .int) rfl rfl ⟨_, rfl, (Or.inr ⟨by unfold QIn; omega, rfl, U, hQb, Or.inl ⟨by omega, by omega, by rw [hs]; exact e2⟩⟩), (RP.id hI)⟩
  · refine r_tabIn (tgt := 74) dX9_account_1 2 hs (by decide) (by decide) rfl (by decide) ?_
    refine r_al0 dX9_account_74 ?_
    refine b_getR dX9_account_75 f_X9_39 hB (by decide) rfl rfl (by first | exact h05 | exact h05u) ?_
    refine r_getfield dX9_account_78 f_X9_135 (by first | assumption | exact cfx hB hO | exact cfx hB hOp | exact cfx hB hAc | exact cfx hB hAb | exact cfx hB hAe) rfl ?_
    refine r_getfield dX9_account_81 f_X9_139 (by first | assumption | exact cfx hB hO | exact cfx hB hOp | exact cfx hB hAc | exact cfx hB hAb | exact cfx hB hAe) rfl ?_
    refine r_alenF dX9_account_84 (by first | assumption | exact cfx hB hO | exact cfx hB hOp | exact cfx hB hAc | exact cfx hB hAb | exact cfx hB hAe) (by decide) (rfl) ?_
    obtain ⟨U, hQb⟩ := hI.best
    exact r_iret dX9_account_85 (ty := .int) rfl rfl ⟨_, rfl, (Or.inr ⟨by unfold QIn; omega, rfl, U, hQb, Or.inl ⟨by omega, by omega, by rw [hs]; exact e3⟩⟩), (RP.id hI)⟩
  · refine r_tabIn (tgt := 86) dX9_account_1 3 hs (by decide) (by decide) rfl (by decide) ?_
    refine r_al0 dX9_account_86 ?_
    refine b_getR dX9_account_87 f_X9_39 hB (by decide) rfl rfl (by first | exact h05 | exact h05u) ?_
    refine r_getfield dX9_account_90 f_X9_135 (by first | assumption | exact cfx hB hO | exact cfx hB hOp | exact cfx hB hAc | exact cfx hB hAb | exact cfx hB hAe) rfl ?_
    refine r_getfield dX9_account_93 f_X9_308 (by first | assumption | exact cfx hB hO | exact cfx hB hOp | exact cfx hB hAc | exact cfx hB hAb | exact cfx hB hAe) rfl ?_
    refine r_alenF dX9_account_96 (by first | assumption | exact cfx hB hO | exact cfx hB hOp | exact cfx hB hAc | exact cfx hB hAb | exact cfx hB hAe) (by decide) (rfl) ?_
    obtain ⟨U, hQb⟩ := hI.best
    exact r_iret dX9_account_97 (ty := .int) rfl rfl ⟨_, rfl, (Or.inr ⟨by unfold QIn; omega, rfl, U, hQb, Or.inr (Or.inl ⟨hs, N_leaves hW e3 hV.2.2.2.1⟩)⟩), (RP.id hI)⟩
  · refine r_tabIn (tgt := 98) dX9_account_1 4 hs (by decide) (by decide) rfl (by decide) ?_
    refine r_al0 dX9_account_98 ?_
    refine b_getR dX9_account_99 f_X9_39 hB (by decide) rfl rfl (by first | exact h05 | exact h05u) ?_
    refine r_getfield dX9_account_102 f_X9_135 (by first | assumption | exact cfx hB hO | exact cfx hB hOp | exact cfx hB hAc | exact cfx hB hAb | exact cfx hB hAe) rfl ?_
    refine r_callVP0 dX9_account_105 v_X9_278 hOp (c_rootCount κ _ (by omega) hV hRw) (by decide) rfl ?_
    rw [cnt_root hW e3]
    obtain ⟨U, hQb⟩ := hI.best
    exact r_iret dX9_account_108 (ty := .int) rfl rfl ⟨_, rfl, (Or.inr ⟨by unfold QIn; omega, rfl, U, hQb, Or.inr (Or.inr (Or.inl ⟨hs, rfl⟩))⟩), (RP.id hI)⟩
  · refine r_tabIn (tgt := 109) dX9_account_1 5 hs (by decide) (by decide) rfl (by decide) ?_
    refine r_al0 dX9_account_109 ?_
    refine r_callV (As := []) dX9_account_110 v_X9_116 (cs_obj hB (k9 := 0) (by decide) rfl) (x_bestUse κ h hB hI) (by decide) rfl rfl (cat_le rfl) (Nat.zero_le _) (Nat.zero_le _) (fun v h9 hq9 => ?_) (fun _ _ hx => hx.elim)
    obtain ⟨rfl, S9, rfl, x9, U, hK⟩ := hq9
    have hQb := hK.best
    have h05u : S9 0 5 = (q : Int) := by rw [x9 0 (by decide)]; exact h05
    have hR9 := RP.use (u := 3) hB hI (Or.inl rfl) (x9.mono (by decide)) hK.k
    refine r_callVP0 dX9_account_113 v_X9_281 (cs_obj hB (k9 := 3) (by decide) rfl) (k_rootsMet κ h hB (Or.inl rfl) hK) (by decide) rfl ?_
    have _ := hQb
    exact r_iret dX9_account_116 (ty := .int) rfl rfl ⟨_, rfl, (Or.inr ⟨by unfold QIn; omega, rfl, U, hQb, Or.inr (Or.inr (Or.inr (Or.inl ⟨hs, rfl⟩)))⟩), hR9⟩
  · refine r_tabIn (tgt := 117) dX9_account_1 6 hs (by decide) (by decide) rfl (by decide) ?_
    refine r_al0 dX9_account_117 ?_
    refine r_callV (As := []) dX9_account_118 v_X9_116 (cs_obj hB (k9 := 0) (by decide) rfl) (x_bestUse κ h hB hI) (by decide) rfl rfl (cat_le rfl) (Nat.zero_le _) (Nat.zero_le _) (fun v h9 hq9 => ?_) (fun _ _ hx => hx.elim)
    obtain ⟨rfl, S9, rfl, x9, U, hK⟩ := hq9
    have hQb := hK.best
    have h05u : S9 0 5 = (q : Int) := by rw [x9 0 (by decide)]; exact h05
    have hR9 := RP.use (u := 3) hB hI (Or.inl rfl) (x9.mono (by decide)) hK.k
    refine r_callVP0 dX9_account_121 v_X9_311 (cs_obj hB (k9 := 3) (by decide) rfl) (k_leavesMet κ h hB (Or.inl rfl) hK) (by decide) rfl ?_
    have _ := hQb
    exact r_iret dX9_account_124 (ty := .int) rfl rfl ⟨_, rfl, (Or.inr ⟨by unfold QIn; omega, rfl, U, hQb, Or.inr (Or.inr (Or.inr (Or.inr (Or.inl ⟨hs, rfl⟩))))⟩), hR9⟩
  · refine r_tabIn (tgt := 125) dX9_account_1 7 hs (by decide) (by decide) rfl (by decide) ?_
    refine r_al0 dX9_account_125 ?_
    refine r_callV (As := []) dX9_account_126 v_X9_116 (cs_obj hB (k9 := 0) (by decide) rfl) (x_bestUse κ h hB hI) (by decide) rfl rfl (cat_le rfl) (Nat.zero_le _) (Nat.zero_le _) (fun v h9 hq9 => ?_) (fun _ _ hx => hx.elim)
    obtain ⟨rfl, S9, rfl, x9, U, hK⟩ := hq9
    have hQb := hK.best
    have h05u : S9 0 5 = (q : Int) := by rw [x9 0 (by decide)]; exact h05
    have hR9 := RP.use (u := 3) hB hI (Or.inl rfl) (x9.mono (by decide)) hK.k
    refine r_callVP0 dX9_account_129 v_X9_314 (cs_obj hB (k9 := 3) (by decide) rfl) (k_ptGiven κ h hB (Or.inl rfl) hK) (by decide) rfl ?_
    have _ := hQb
    exact r_iret dX9_account_132 (ty := .int) rfl rfl ⟨_, rfl, (Or.inr ⟨by unfold QIn; omega, rfl, U, hQb, Or.inr (Or.inr (Or.inr (Or.inr (Or.inr (Or.inl ⟨hs, rfl⟩)))))⟩), hR9⟩
  · refine r_tabIn (tgt := 133) dX9_account_1 8 hs (by decide) (by decide) rfl (by decide) ?_
    refine r_al0 dX9_account_133 ?_
    refine b_getR dX9_account_134 f_X9_39 hB (by decide) rfl rfl (by first | exact h05 | exact h05u) ?_
    refine r_callVP0 dX9_account_137 v_X9_317 hO (c_ptAll κ _ hDV hW) (by decide) rfl ?_
    obtain ⟨U, hQb⟩ := hI.best
    exact r_iret dX9_account_140 (ty := .int) rfl rfl ⟨_, rfl, (Or.inr ⟨by unfold QIn; omega, rfl, U, hQb, Or.inr (Or.inr (Or.inr (Or.inr (Or.inr (Or.inr (Or.inl ⟨hs, rfl⟩))))))⟩), (RP.id hI)⟩
  · refine r_tabIn (tgt := 141) dX9_account_1 9 hs (by decide) (by decide) rfl (by decide) ?_
    refine r_al0 dX9_account_141 ?_
    refine r_callV (As := []) dX9_account_142 v_X9_116 (cs_obj hB (k9 := 0) (by decide) rfl) (x_bestUse κ h hB hI) (by decide) rfl rfl (cat_le rfl) (Nat.zero_le _) (Nat.zero_le _) (fun v h9 hq9 => ?_) (fun _ _ hx => hx.elim)
    obtain ⟨rfl, S9, rfl, x9, U, hK⟩ := hq9
    have hQb := hK.best
    have h05u : S9 0 5 = (q : Int) := by rw [x9 0 (by decide)]; exact h05
    have hR9 := RP.use (u := 3) hB hI (Or.inl rfl) (x9.mono (by decide)) hK.k
    refine r_callVP0 dX9_account_145 v_X9_320 (cs_obj hB (k9 := 3) (by decide) rfl) (k_crLeft κ h hB (Or.inl rfl) hK) (by decide) rfl ?_
    have _ := hQb
    exact r_iret dX9_account_148 (ty := .int) rfl rfl ⟨_, rfl, (Or.inr ⟨by unfold QIn; omega, rfl, U, hQb, Or.inr (Or.inr (Or.inr (Or.inr (Or.inr (Or.inr (Or.inr ⟨hs, rfl⟩))))))⟩), hR9⟩
