/-! ===== blocks, credits, equivalences as objects ===== -/
def BlR (κ : KP) (h : AH) (a : Nat) (r : Int → Int) : Prop := (0 ≤ r 5 ∧ r 5 ≤ 5) ∧ ∃ s : Nat, ObF h a 5 [.ref s, .int (J (r 1)), .int (J (r 11)), .int (J (r 2)), .int (J (r 3)), .int (J (r 4))] ∧ StrAt κ h s (r 5).toNat (fun i => r (6 + i))
theorem BlR.fx {κ : KP} {h h' : AH} {a : Nat} {r : Int → Int} (x : Fx h h') (H : BlR κ h a r) : BlR κ h' a r := by
  obtain ⟨h1, s, h2, h3⟩ := H
  exact ⟨h1, s, x _ _ h2, h3.fx x⟩
theorem BlR.cong {κ : KP} {h : AH} {a : Nat} {r r' : Int → Int} (e : ∀ i : Int, 0 ≤ i → i < 12 → r i = r' i) (H : BlR κ h a r) : BlR κ h a r' := by
  obtain ⟨h1, s, h2, h3⟩ := H
  rw [e 5 (by decide) (by decide)] at h1
  rw [e 1 (by decide) (by decide), e 2 (by decide) (by decide), e 3 (by decide) (by decide), e 4 (by decide) (by decide), e 11 (by decide) (by decide)] at h2
  rw [e 5 (by decide) (by decide)] at h3
  exact ⟨h1, s, h2, h3.cong (fun i a c => e _ (by omega) (by omega))⟩
abbrev CrR (h : AH) (a : Nat) (x : Int → Int) : Prop := ObF h a 6 [.int (J (x 0)), .int (J (x 1)), .int (J (x 2)), .int (J (x 3))]
abbrev EqR (h : AH) (a : Nat) (x : Int → Int) : Prop := ObF h a 8 [.int (J (x 0)), .int (J (x 1)), .int (J (x 2)), .int (J (x 3))]
def RHas (r : Int → Int) (c : Int) : Prop := ∃ k : Int, 0 ≤ k ∧ k < r 5 ∧ r (6 + k) = c
def RTk (r x : Int → Int) (y : Int) : Prop := RHas r (x 0) ∧ r 4 ≤ x 2 ∧ y ≤ x 3 + r 3
def RRg (r : Int → Int) : Prop := r 5 = 0 ∨ (1 ≤ r 2 ∧ r 2 ≤ 30 ∧ 0 ≤ r 3 ∧ r 3 ≤ 60 ∧ 10 ≤ r 4 ∧ r 4 ≤ 20)
theorem fit_c {z : Int} (h0 : 0 ≤ z) (h1 : z < 128) : fits .char (.int (J z)) = true := by
  have : ∀ n : Fin 128, fits .char (.int (J (n : Nat))) = true := by decide +kernel
  have := this ⟨z.toNat, by omega⟩
  simpa [Int.toNat_of_nonneg h0] using this
set_option maxRecDepth 100000 in
set_option maxHeartbeats 4000000 in
theorem c_isGr (κ : KP) (h : AH) {a : Nat} {r : Int → Int} (H : BlR κ h a r) : PM κ mX1_isGroup 2 [.ref a] h (.int (J (bI (tb (r 5 = 0))))) := by
  refine mm_of (L := [some _]) (by decide +kernel) rfl rfl (Nat.le_of_ble_eq_true rfl) rfl ?_
  have hB := H.1; obtain ⟨-, s, hO, hS⟩ := H
  refine r_al0 dX1_isGroup_0 ?_
  refine r_getfield dX1_isGroup_1 f_X1_9 (by assumption) rfl ?_
  refine r_sP0 dX1_isGroup_4 v_X1_31 hS (c_isEmpty κ h hS) (by decide) rfl ?_
  refine r_iret dX1_isGroup_7 (ty := .boolean) rfl (nar_B _) ⟨?_, rfl⟩
  rw [tb_congr (show (r 5).toNat = 0 ↔ r 5 = 0 by omega)]
set_option maxRecDepth 100000 in
set_option maxHeartbeats 4000000 in
theorem c_names (κ : KP) (h : AH) {a c : Nat} {r x : Int → Int} (H : BlR κ h a r) (hC : CrR h c x) (x0 : 0 ≤ x 0) (x1 : x 0 < 128) : PM κ mX1_names 5 [.ref a, .ref c] h (.int (J (bI (tb (RHas r (x 0)))))) := by
  refine mm_of (L := [some _, some _]) (by decide +kernel) rfl rfl (Nat.le_of_ble_eq_true rfl) rfl ?_
  have hB := H.1; obtain ⟨-, s, hO, hS⟩ := H
  refine r_al0 dX1_names_0 ?_
  refine r_getfield dX1_names_1 f_X1_9 (by assumption) rfl ?_
  refine r_al1 dX1_names_4 ?_
  refine r_getfield dX1_names_5 f_X1_37 (by assumption) rfl ?_
  refine r_sQ1 dX1_names_8 v_X1_43 hS (c_ixOf κ h hS x0 x1) (by decide) rfl (fun r_8 rr_8 h_8 => ?_)
  refine r_if_lt (tgt := 18) dX1_names_11 (by decide) (by (assumption)) (fun c_11 => ?_) (fun c_11 => ?_)
  · refine r_iconst dX1_names_18 ?_
    refine r_iret dX1_names_19 (ty := .boolean) rfl (by first | exact nar_B _ | decide) ?_
    first | exact ⟨rfl, rfl⟩ | exact ⟨ret_t (by have e : RHas r (x 0) ↔ 0 ≤ r_8 := (h_8.trans ⟨fun ⟨j, a, b, c⟩ => ⟨j, a, by omega, c⟩, fun ⟨j, a, b, c⟩ => ⟨j, a, by omega, c⟩⟩).symm; rw [e]; omega), rfl⟩ | exact ⟨ret_f (by have e : RHas r (x 0) ↔ 0 ≤ r_8 := (h_8.trans ⟨fun ⟨j, a, b, c⟩ => ⟨j, a, by omega, c⟩, fun ⟨j, a, b, c⟩ => ⟨j, a, by omega, c⟩⟩).symm; rw [e]; omega), rfl⟩
  · refine r_iconst dX1_names_14 ?_
    refine r_goto (tgt := 19) dX1_names_15 (by decide) ?_
    refine r_iret dX1_names_19 (ty := .boolean) rfl (by first | exact nar_B _ | decide) ?_
    first | exact ⟨rfl, rfl⟩ | exact ⟨ret_t (by have e : RHas r (x 0) ↔ 0 ≤ r_8 := (h_8.trans ⟨fun ⟨j, a, b, c⟩ => ⟨j, a, by omega, c⟩, fun ⟨j, a, b, c⟩ => ⟨j, a, by omega, c⟩⟩).symm; rw [e]; omega), rfl⟩ | exact ⟨ret_f (by have e : RHas r (x 0) ↔ 0 ≤ r_8 := (h_8.trans ⟨fun ⟨j, a, b, c⟩ => ⟨j, a, by omega, c⟩, fun ⟨j, a, b, c⟩ => ⟨j, a, by omega, c⟩⟩).symm; rw [e]; omega), rfl⟩
set_option maxRecDepth 100000 in
set_option maxHeartbeats 4000000 in
theorem c_lastY (κ : KP) (h : AH) {a c : Nat} {r x : Int → Int} (H : BlR κ h a r) (hC : CrR h c x) : PM κ mX1_lastYearFor 1 [.ref a, .ref c] h (.int (J (x 3 + r 3))) := by
  refine mm_of (L := [some _, some _]) (by decide +kernel) rfl rfl (Nat.le_of_ble_eq_true rfl) rfl ?_
  have hB := H.1; obtain ⟨-, s, hO, hS⟩ := H
  refine r_al1 dX1_lastYearFor_0 ?_
  refine r_getfield dX1_lastYearFor_1 f_X1_47 (by assumption) rfl ?_
  refine r_al0 dX1_lastYearFor_4 ?_
  refine r_getfield dX1_lastYearFor_5 f_X1_25 (by assumption) rfl ?_
  refine r_iadd dX1_lastYearFor_8 ?_
  refine r_iret dX1_lastYearFor_9 (ty := .int) rfl (rfl) ?_
  exact ⟨rfl, rfl⟩
set_option maxRecDepth 100000 in
set_option maxHeartbeats 4000000 in
theorem c_btakes (κ : KP) (h : AH) {a c : Nat} {r x : Int → Int} {y : Int} (H : BlR κ h a r) (hC : CrR h c x) (x0 : 0 ≤ x 0) (x1 : x 0 < 128) (r1 : rng (x 2)) (r2 : rng (r 4)) (r3 : rng y) (r4 : rng (x 3 + r 3)) : PM κ mX1_takes 6 [.ref a, .ref c, .int (J y)] h (.int (J (bI (tb (RTk r x y))))) := by
  refine mm_of (L := [some _, some _, some _]) (by decide +kernel) rfl rfl (Nat.le_of_ble_eq_true rfl) rfl ?_
  have H0 := H; have hB := H.1; obtain ⟨-, s, hO, hS⟩ := H
  refine r_al0 dX1_takes_0 ?_
  refine r_al1 dX1_takes_1 ?_
  refine r_callVP1 dX1_takes_2 v_X1_50 hO (c_names κ h H0 hC x0 x1) (by decide) rfl ?_
  refine r_ifT_eq (tgt := 32) dX1_takes_5 (by decide) (fun c_5 => ?_) (fun c_5 => ?_)
  · refine r_iconst dX1_takes_32 ?_
    refine r_iret dX1_takes_33 (ty := .boolean) rfl (by first | exact nar_B _ | decide) ?_
    first | exact ⟨rfl, rfl⟩ | exact ⟨ret_t (by first | exact ⟨c_5, by omega, by omega⟩ | exact (fun q => absurd q.1 (by assumption)) | exact (fun q => absurd q.2.1 (by omega)) | exact (fun q => absurd q.2.2 (by omega))), rfl⟩ | exact ⟨ret_f (by first | exact ⟨c_5, by omega, by omega⟩ | exact (fun q => absurd q.1 (by assumption)) | exact (fun q => absurd q.2.1 (by omega)) | exact (fun q => absurd q.2.2 (by omega))), rfl⟩
  · refine r_al1 dX1_takes_8 ?_
    refine r_getfield dX1_takes_9 f_X1_54 (by assumption) rfl ?_
    refine r_al0 dX1_takes_12 ?_
    refine r_getfield dX1_takes_13 f_X1_28 (by assumption) rfl ?_
    refine r_icmp_lt (tgt := 32) dX1_takes_16 (by decide) (by (assumption)) (by (assumption)) (fun c_16 => ?_) (fun c_16 => ?_)
    · refine r_iconst dX1_takes_32 ?_
      refine r_iret dX1_takes_33 (ty := .boolean) rfl (by first | exact nar_B _ | decide) ?_
      first | exact ⟨rfl, rfl⟩ | exact ⟨ret_t (by first | exact ⟨c_5, by omega, by omega⟩ | exact (fun q => absurd q.1 (by assumption)) | exact (fun q => absurd q.2.1 (by omega)) | exact (fun q => absurd q.2.2 (by omega))), rfl⟩ | exact ⟨ret_f (by first | exact ⟨c_5, by omega, by omega⟩ | exact (fun q => absurd q.1 (by assumption)) | exact (fun q => absurd q.2.1 (by omega)) | exact (fun q => absurd q.2.2 (by omega))), rfl⟩
    · refine r_il2 dX1_takes_19 ?_
      refine r_al0 dX1_takes_20 ?_
      refine r_al1 dX1_takes_21 ?_
      refine r_callVP1 dX1_takes_22 v_X1_57 hO (c_lastY κ h H0 hC) (by decide) rfl ?_
      refine r_icmp_gt (tgt := 32) dX1_takes_25 (by decide) (by (assumption)) (by (assumption)) (fun c_25 => ?_) (fun c_25 => ?_)
      · refine r_iconst dX1_takes_32 ?_
        refine r_iret dX1_takes_33 (ty := .boolean) rfl (by first | exact nar_B _ | decide) ?_
        first | exact ⟨rfl, rfl⟩ | exact ⟨ret_t (by first | exact ⟨c_5, by omega, by omega⟩ | exact (fun q => absurd q.1 (by assumption)) | exact (fun q => absurd q.2.1 (by omega)) | exact (fun q => absurd q.2.2 (by omega))), rfl⟩ | exact ⟨ret_f (by first | exact ⟨c_5, by omega, by omega⟩ | exact (fun q => absurd q.1 (by assumption)) | exact (fun q => absurd q.2.1 (by omega)) | exact (fun q => absurd q.2.2 (by omega))), rfl⟩
      · refine r_iconst dX1_takes_28 ?_
        refine r_goto (tgt := 33) dX1_takes_29 (by decide) ?_
        refine r_iret dX1_takes_33 (ty := .boolean) rfl (by first | exact nar_B _ | decide) ?_
        first | exact ⟨rfl, rfl⟩ | exact ⟨ret_t (by first | exact ⟨c_5, by omega, by omega⟩ | exact (fun q => absurd q.1 (by assumption)) | exact (fun q => absurd q.2.1 (by omega)) | exact (fun q => absurd q.2.2 (by omega))), rfl⟩ | exact ⟨ret_f (by first | exact ⟨c_5, by omega, by omega⟩ | exact (fun q => absurd q.1 (by assumption)) | exact (fun q => absurd q.2.1 (by omega)) | exact (fun q => absurd q.2.2 (by omega))), rfl⟩
set_option maxRecDepth 100000 in
set_option maxHeartbeats 4000000 in
theorem c_inRg (κ : KP) (h : AH) {a : Nat} {r : Int → Int} (H : BlR κ h a r) (r1 : rng (r 2)) (r2 : rng (r 3)) (r3 : rng (r 4)) : PM κ mX1_isInRange 3 [.ref a] h (.int (J (bI (tb (RRg r))))) := by
  refine mm_of (L := [some _]) (by decide +kernel) rfl rfl (Nat.le_of_ble_eq_true rfl) rfl ?_
  have H0 := H; have hB := H.1; obtain ⟨-, s, hO, hS⟩ := H
  refine r_al0 dX1_isInRange_0 ?_
  refine r_callVP0 dX1_isInRange_1 v_X1_61 hO (c_isGr κ h H0) (by decide) rfl ?_
  refine r_ifT_ne (tgt := 58) dX1_isInRange_4 (by decide) (fun c_4 => ?_) (fun c_4 => ?_)
  · refine r_iconst dX1_isInRange_58 ?_
    refine r_goto (tgt := 63) dX1_isInRange_59 (by decide) ?_
    refine r_iret dX1_isInRange_63 (ty := .boolean) rfl (by first | exact nar_B _ | decide) ?_
    first | exact ⟨rfl, rfl⟩ | exact ⟨ret_t (by (first | exact Or.inl c_4 | exact Or.inr ⟨by omega, by omega, by omega, by omega, by omega, by omega⟩ | exact (fun q => q.elim c_4 (fun q => by omega)))), rfl⟩ | exact ⟨ret_f (by (first | exact Or.inl c_4 | exact Or.inr ⟨by omega, by omega, by omega, by omega, by omega, by omega⟩ | exact (fun q => q.elim c_4 (fun q => by omega)))), rfl⟩
  · refine r_al0 dX1_isInRange_7 ?_
    refine r_getfield dX1_isInRange_8 f_X1_22 (by assumption) rfl ?_
    refine r_iconst dX1_isInRange_11 ?_
    refine r_icmp_lt (tgt := 62) dX1_isInRange_12 (by decide) (by (first | assumption | decide)) (by (first | assumption | decide)) (fun c_12 => ?_) (fun c_12 => ?_)
    · refine r_iconst dX1_isInRange_62 ?_
      refine r_iret dX1_isInRange_63 (ty := .boolean) rfl (by first | exact nar_B _ | decide) ?_
      first | exact ⟨rfl, rfl⟩ | exact ⟨ret_t (by (first | exact Or.inl c_4 | exact Or.inr ⟨by omega, by omega, by omega, by omega, by omega, by omega⟩ | exact (fun q => q.elim c_4 (fun q => by omega)))), rfl⟩ | exact ⟨ret_f (by (first | exact Or.inl c_4 | exact Or.inr ⟨by omega, by omega, by omega, by omega, by omega, by omega⟩ | exact (fun q => q.elim c_4 (fun q => by omega)))), rfl⟩
    · refine r_al0 dX1_isInRange_15 ?_
      refine r_getfield dX1_isInRange_16 f_X1_22 (by assumption) rfl ?_
      refine r_bipush dX1_isInRange_19 (by decide) ?_
      refine r_icmp_gt (tgt := 62) dX1_isInRange_21 (by decide) (by (first | assumption | decide)) (by (first | assumption | decide)) (fun c_21 => ?_) (fun c_21 => ?_)
      · refine r_iconst dX1_isInRange_62 ?_
        refine r_iret dX1_isInRange_63 (ty := .boolean) rfl (by first | exact nar_B _ | decide) ?_
        first | exact ⟨rfl, rfl⟩ | exact ⟨ret_t (by (first | exact Or.inl c_4 | exact Or.inr ⟨by omega, by omega, by omega, by omega, by omega, by omega⟩ | exact (fun q => q.elim c_4 (fun q => by omega)))), rfl⟩ | exact ⟨ret_f (by (first | exact Or.inl c_4 | exact Or.inr ⟨by omega, by omega, by omega, by omega, by omega, by omega⟩ | exact (fun q => q.elim c_4 (fun q => by omega)))), rfl⟩
      · refine r_al0 dX1_isInRange_24 ?_
        refine r_getfield dX1_isInRange_25 f_X1_25 (by assumption) rfl ?_
        refine r_if_lt (tgt := 62) dX1_isInRange_28 (by decide) (by (first | assumption | decide)) (fun c_28 => ?_) (fun c_28 => ?_)
        · refine r_iconst dX1_isInRange_62 ?_
          refine r_iret dX1_isInRange_63 (ty := .boolean) rfl (by first | exact nar_B _ | decide) ?_
          first | exact ⟨rfl, rfl⟩ | exact ⟨ret_t (by (first | exact Or.inl c_4 | exact Or.inr ⟨by omega, by omega, by omega, by omega, by omega, by omega⟩ | exact (fun q => q.elim c_4 (fun q => by omega)))), rfl⟩ | exact ⟨ret_f (by (first | exact Or.inl c_4 | exact Or.inr ⟨by omega, by omega, by omega, by omega, by omega, by omega⟩ | exact (fun q => q.elim c_4 (fun q => by omega)))), rfl⟩
        · refine r_al0 dX1_isInRange_31 ?_
          refine r_getfield dX1_isInRange_32 f_X1_25 (by assumption) rfl ?_
          refine r_bipush dX1_isInRange_35 (by decide) ?_
          refine r_icmp_gt (tgt := 62) dX1_isInRange_37 (by decide) (by (first | assumption | decide)) (by (first | assumption | decide)) (fun c_37 => ?_) (fun c_37 => ?_)
          · refine r_iconst dX1_isInRange_62 ?_
            refine r_iret dX1_isInRange_63 (ty := .boolean) rfl (by first | exact nar_B _ | decide) ?_
            first | exact ⟨rfl, rfl⟩ | exact ⟨ret_t (by (first | exact Or.inl c_4 | exact Or.inr ⟨by omega, by omega, by omega, by omega, by omega, by omega⟩ | exact (fun q => q.elim c_4 (fun q => by omega)))), rfl⟩ | exact ⟨ret_f (by (first | exact Or.inl c_4 | exact Or.inr ⟨by omega, by omega, by omega, by omega, by omega, by omega⟩ | exact (fun q => q.elim c_4 (fun q => by omega)))), rfl⟩
          · refine r_al0 dX1_isInRange_40 ?_
            refine r_getfield dX1_isInRange_41 f_X1_28 (by assumption) rfl ?_
            refine r_bipush dX1_isInRange_44 (by decide) ?_
            refine r_icmp_lt (tgt := 62) dX1_isInRange_46 (by decide) (by (first | assumption | decide)) (by (first | assumption | decide)) (fun c_46 => ?_) (fun c_46 => ?_)
            · refine r_iconst dX1_isInRange_62 ?_
              refine r_iret dX1_isInRange_63 (ty := .boolean) rfl (by first | exact nar_B _ | decide) ?_
              first | exact ⟨rfl, rfl⟩ | exact ⟨ret_t (by (first | exact Or.inl c_4 | exact Or.inr ⟨by omega, by omega, by omega, by omega, by omega, by omega⟩ | exact (fun q => q.elim c_4 (fun q => by omega)))), rfl⟩ | exact ⟨ret_f (by (first | exact Or.inl c_4 | exact Or.inr ⟨by omega, by omega, by omega, by omega, by omega, by omega⟩ | exact (fun q => q.elim c_4 (fun q => by omega)))), rfl⟩
            · refine r_al0 dX1_isInRange_49 ?_
              refine r_getfield dX1_isInRange_50 f_X1_28 (by assumption) rfl ?_
              refine r_bipush dX1_isInRange_53 (by decide) ?_
              refine r_icmp_gt (tgt := 62) dX1_isInRange_55 (by decide) (by (first | assumption | decide)) (by (first | assumption | decide)) (fun c_55 => ?_) (fun c_55 => ?_)
              · refine r_iconst dX1_isInRange_62 ?_
                refine r_iret dX1_isInRange_63 (ty := .boolean) rfl (by first | exact nar_B _ | decide) ?_
                first | exact ⟨rfl, rfl⟩ | exact ⟨ret_t (by (first | exact Or.inl c_4 | exact Or.inr ⟨by omega, by omega, by omega, by omega, by omega, by omega⟩ | exact (fun q => q.elim c_4 (fun q => by omega)))), rfl⟩ | exact ⟨ret_f (by (first | exact Or.inl c_4 | exact Or.inr ⟨by omega, by omega, by omega, by omega, by omega, by omega⟩ | exact (fun q => q.elim c_4 (fun q => by omega)))), rfl⟩
              · refine r_iconst dX1_isInRange_58 ?_
                refine r_goto (tgt := 63) dX1_isInRange_59 (by decide) ?_
                refine r_iret dX1_isInRange_63 (ty := .boolean) rfl (by first | exact nar_B _ | decide) ?_
                first | exact ⟨rfl, rfl⟩ | exact ⟨ret_t (by (first | exact Or.inl c_4 | exact Or.inr ⟨by omega, by omega, by omega, by omega, by omega, by omega⟩ | exact (fun q => q.elim c_4 (fun q => by omega)))), rfl⟩ | exact ⟨ret_f (by (first | exact Or.inl c_4 | exact Or.inr ⟨by omega, by omega, by omega, by omega, by omega, by omega⟩ | exact (fun q => q.elim c_4 (fun q => by omega)))), rfl⟩
set_option maxRecDepth 100000 in
set_option maxHeartbeats 4000000 in
theorem c_goingN (κ : KP) (h : AH) {a : Nat} {x : Int → Int} (H : EqR h a x) (r1 : rng (x 1)) : PM κ mX4_goingCount 1 [.ref a] h (.int (J (if x 1 = 32 then 1 else 2))) := by
  refine mm_of (L := [some _]) (by decide +kernel) rfl rfl (Nat.le_of_ble_eq_true rfl) rfl ?_
  refine r_al0 dX4_goingCount_0 ?_
  refine r_getfield dX4_goingCount_1 f_X4_15 (by assumption) rfl ?_
  refine r_bipush dX4_goingCount_4 (by decide) ?_
  refine r_icmp_ne (tgt := 13) dX4_goingCount_6 (by decide) (by (first | assumption | decide)) (by (first | assumption | decide)) (fun c_6 => ?_) (fun c_6 => ?_)
  · refine r_iconst dX4_goingCount_13 ?_
    refine r_iret dX4_goingCount_14 (ty := .int) rfl rfl ⟨?_, rfl⟩
    first | rw [if_pos c_6] | rw [if_neg c_6]
  · refine r_iconst dX4_goingCount_9 ?_
    refine r_goto (tgt := 14) dX4_goingCount_10 (by decide) ?_
    refine r_iret dX4_goingCount_14 (ty := .int) rfl rfl ⟨?_, rfl⟩
    first | rw [if_pos c_6] | rw [if_neg c_6]
set_option maxRecDepth 100000 in
set_option maxHeartbeats 4000000 in
theorem c_comingN (κ : KP) (h : AH) {a : Nat} {x : Int → Int} (H : EqR h a x) (r1 : rng (x 3)) : PM κ mX4_comingCount 1 [.ref a] h (.int (J (if x 3 = 32 then 1 else 2))) := by
  refine mm_of (L := [some _]) (by decide +kernel) rfl rfl (Nat.le_of_ble_eq_true rfl) rfl ?_
  refine r_al0 dX4_comingCount_0 ?_
  refine r_getfield dX4_comingCount_1 f_X4_21 (by assumption) rfl ?_
  refine r_bipush dX4_comingCount_4 (by decide) ?_
  refine r_icmp_ne (tgt := 13) dX4_comingCount_6 (by decide) (by (first | assumption | decide)) (by (first | assumption | decide)) (fun c_6 => ?_) (fun c_6 => ?_)
  · refine r_iconst dX4_comingCount_13 ?_
    refine r_iret dX4_comingCount_14 (ty := .int) rfl rfl ⟨?_, rfl⟩
    first | rw [if_pos c_6] | rw [if_neg c_6]
  · refine r_iconst dX4_comingCount_9 ?_
    refine r_goto (tgt := 14) dX4_comingCount_10 (by decide) ?_
    refine r_iret dX4_comingCount_14 (ty := .int) rfl rfl ⟨?_, rfl⟩
    first | rw [if_pos c_6] | rw [if_neg c_6]
set_option maxRecDepth 100000 in
set_option maxHeartbeats 4000000 in
theorem c_crInit (κ : KP) (h : AH) {a : Nat} {x0 x1 x2 x3 : Int} (c00 : 0 ≤ x0) (c01 : x0 < 128) {w0 w1 w2 w3 : Value} (ha : h a = some (true, .inr (6, [w0, w1, w2, w3]))) : MM κ mX2_init 2 0 0 (.ref a :: [.int (J x0), .int (J x1), .int (J x2), .int (J x3)]) h (fun v h' => v = none ∧ h' = upA h a (true, .inr (6, [.int (J x0), .int (J x1), .int (J x2), .int (J x3)]))) NoX := by
  refine mm_of (L := [some _, some _, some _, some _, some _]) (by decide +kernel) rfl rfl (Nat.le_of_ble_eq_true rfl) rfl ?_
  refine ww_heq (upA_self ha).symm ?_
  refine r_al0 dX2_init_0 ?_
  refine r_objInit dX2_init_1 o_X2_1 oI oC (by decide) (cat_le rfl) ?_
  refine r_al0 dX2_init_4 ?_
  refine r_il1 dX2_init_5 ?_
  refine r_putfield dX2_init_6 f_X2_7 p_X2_7 ff_6_0 upA_same (nar_c c00 c01) (fit_c c00 c01) (Nat.le_of_ble_eq_true rfl) rfl ?_
  rw [upA_upA]
  refine r_al0 dX2_init_9 ?_
  refine r_il2 dX2_init_10 ?_
  refine r_putfield dX2_init_11 f_X2_13 p_X2_13 ff_6_1 upA_same rfl rfl (Nat.le_of_ble_eq_true rfl) rfl ?_
  rw [upA_upA]
  refine r_al0 dX2_init_14 ?_
  refine r_il3 dX2_init_15 ?_
  refine r_putfield dX2_init_16 f_X2_17 p_X2_17 ff_6_2 upA_same rfl rfl (Nat.le_of_ble_eq_true rfl) rfl ?_
  rw [upA_upA]
  refine r_al0 dX2_init_19 ?_
  refine r_il4 dX2_init_20 ?_
  refine r_putfield dX2_init_22 f_X2_20 p_X2_20 ff_6_3 upA_same rfl rfl (Nat.le_of_ble_eq_true rfl) rfl ?_
  rw [upA_upA]
  exact r_ret dX2_init_25 rfl ⟨rfl, rfl⟩
set_option maxRecDepth 100000 in
set_option maxHeartbeats 4000000 in
theorem c_eqInit (κ : KP) (h : AH) {a : Nat} {x0 x1 x2 x3 : Int} (c00 : 0 ≤ x0) (c01 : x0 < 128) (c10 : 0 ≤ x1) (c11 : x1 < 128) (c20 : 0 ≤ x2) (c21 : x2 < 128) (c30 : 0 ≤ x3) (c31 : x3 < 128) {w0 w1 w2 w3 : Value} (ha : h a = some (true, .inr (8, [w0, w1, w2, w3]))) : MM κ mX4_init 2 0 0 (.ref a :: [.int (J x0), .int (J x1), .int (J x2), .int (J x3)]) h (fun v h' => v = none ∧ h' = upA h a (true, .inr (8, [.int (J x0), .int (J x1), .int (J x2), .int (J x3)]))) NoX := by
  refine mm_of (L := [some _, some _, some _, some _, some _]) (by decide +kernel) rfl rfl (Nat.le_of_ble_eq_true rfl) rfl ?_
  refine ww_heq (upA_self ha).symm ?_
  refine r_al0 dX4_init_0 ?_
  refine r_objInit dX4_init_1 o_X4_3 oI oC (by decide) (cat_le rfl) ?_
  refine r_al0 dX4_init_4 ?_
  refine r_il1 dX4_init_5 ?_
  refine r_putfield dX4_init_6 f_X4_9 p_X4_9 ff_8_0 upA_same (nar_c c00 c01) (fit_c c00 c01) (Nat.le_of_ble_eq_true rfl) rfl ?_
  rw [upA_upA]
  refine r_al0 dX4_init_9 ?_
  refine r_il2 dX4_init_10 ?_
  refine r_putfield dX4_init_11 f_X4_15 p_X4_15 ff_8_1 upA_same (nar_c c10 c11) (fit_c c10 c11) (Nat.le_of_ble_eq_true rfl) rfl ?_
  rw [upA_upA]
  refine r_al0 dX4_init_14 ?_
  refine r_il3 dX4_init_15 ?_
  refine r_putfield dX4_init_16 f_X4_18 p_X4_18 ff_8_2 upA_same (nar_c c20 c21) (fit_c c20 c21) (Nat.le_of_ble_eq_true rfl) rfl ?_
  rw [upA_upA]
  refine r_al0 dX4_init_19 ?_
  refine r_il4 dX4_init_20 ?_
  refine r_putfield dX4_init_22 f_X4_21 p_X4_21 ff_8_3 upA_same (nar_c c30 c31) (fit_c c30 c31) (Nat.le_of_ble_eq_true rfl) rfl ?_
  rw [upA_upA]
  exact r_ret dX4_init_25 rfl ⟨rfl, rfl⟩
set_option maxRecDepth 100000 in
set_option maxHeartbeats 4000000 in
theorem c_dkInit (κ : KP) (h : AH) {a : Nat} {y : Int} {b c e : Nat} {w0 w1 w2 w3 : Value} (ha : h a = some (true, .inr (7, [w0, w1, w2, w3]))) : MM κ mX3_init 2 0 0 (.ref a :: [.int (J y), .ref b, .ref c, .ref e]) h (fun v h' => v = none ∧ h' = upA h a (true, .inr (7, [.int (J y), .ref b, .ref c, .ref e]))) NoX := by
  refine mm_of (L := [some _, some _, some _, some _, some _]) (by decide +kernel) rfl rfl (Nat.le_of_ble_eq_true rfl) rfl ?_
  refine ww_heq (upA_self ha).symm ?_
  refine r_al0 dX3_init_0 ?_
  refine r_objInit dX3_init_1 o_X3_3 oI oC (by decide) (cat_le rfl) ?_
  refine r_al0 dX3_init_4 ?_
  refine r_il1 dX3_init_5 ?_
  refine r_putfield dX3_init_6 f_X3_9 p_X3_9 ff_7_0 upA_same rfl rfl (Nat.le_of_ble_eq_true rfl) rfl ?_
  rw [upA_upA]
  refine r_al0 dX3_init_9 ?_
  refine r_al2 dX3_init_10 ?_
  refine r_putfield dX3_init_11 f_X3_15 p_X3_15 ff_7_1 upA_same rfl rfl (Nat.le_of_ble_eq_true rfl) rfl ?_
  rw [upA_upA]
  refine r_al0 dX3_init_14 ?_
  refine r_al3 dX3_init_15 ?_
  refine r_putfield dX3_init_16 f_X3_19 p_X3_19 ff_7_2 upA_same rfl rfl (Nat.le_of_ble_eq_true rfl) rfl ?_
  rw [upA_upA]
  refine r_al0 dX3_init_19 ?_
  refine r_al4 dX3_init_20 ?_
  refine r_putfield dX3_init_22 f_X3_23 p_X3_23 ff_7_3 upA_same rfl rfl (Nat.le_of_ble_eq_true rfl) rfl ?_
  rw [upA_upA]
  exact r_ret dX3_init_25 rfl ⟨rfl, rfl⟩
set_option maxRecDepth 100000 in
set_option maxHeartbeats 4000000 in
theorem c_blInit (κ : KP) (h : AH) {a : Nat} {s : Nat} {x1 x2 x3 x4 x5 : Int} {w0 w1 w2 w3 w4 w5 : Value} (ha : h a = some (true, .inr (5, [w0, w1, w2, w3, w4, w5]))) : MM κ mX1_init 2 0 0 (.ref a :: [.ref s, .int (J x1), .int (J x2), .int (J x3), .int (J x4), .int (J x5)]) h (fun v h' => v = none ∧ h' = upA h a (true, .inr (5, [.ref s, .int (J x1), .int (J x2), .int (J x3), .int (J x4), .int (J x5)]))) NoX := by
  refine mm_of (L := [some _, some _, some _, some _, some _, some _, some _]) (by decide +kernel) rfl rfl (Nat.le_of_ble_eq_true rfl) rfl ?_
  refine ww_heq (upA_self ha).symm ?_
  refine r_al0 dX1_init_0 ?_
  refine r_objInit dX1_init_1 o_X1_3 oI oC (by decide) (cat_le rfl) ?_
  refine r_al0 dX1_init_4 ?_
  refine r_al1 dX1_init_5 ?_
  refine r_putfield dX1_init_6 f_X1_9 p_X1_9 ff_5_0 upA_same rfl rfl (Nat.le_of_ble_eq_true rfl) rfl ?_
  rw [upA_upA]
  refine r_al0 dX1_init_9 ?_
  refine r_il2 dX1_init_10 ?_
  refine r_putfield dX1_init_11 f_X1_15 p_X1_15 ff_5_1 upA_same rfl rfl (Nat.le_of_ble_eq_true rfl) rfl ?_
  rw [upA_upA]
  refine r_al0 dX1_init_14 ?_
  refine r_il3 dX1_init_15 ?_
  refine r_putfield dX1_init_16 f_X1_19 p_X1_19 ff_5_2 upA_same rfl rfl (Nat.le_of_ble_eq_true rfl) rfl ?_
  rw [upA_upA]
  refine r_al0 dX1_init_19 ?_
  refine r_il4 dX1_init_20 ?_
  refine r_putfield dX1_init_22 f_X1_22 p_X1_22 ff_5_3 upA_same rfl rfl (Nat.le_of_ble_eq_true rfl) rfl ?_
  rw [upA_upA]
  refine r_al0 dX1_init_25 ?_
  refine r_il5 dX1_init_26 ?_
  refine r_putfield dX1_init_28 f_X1_25 p_X1_25 ff_5_4 upA_same rfl rfl (Nat.le_of_ble_eq_true rfl) rfl ?_
  rw [upA_upA]
  refine r_al0 dX1_init_31 ?_
  refine r_il6 dX1_init_32 ?_
  refine r_putfield dX1_init_34 f_X1_28 p_X1_28 ff_5_5 upA_same rfl rfl (Nat.le_of_ble_eq_true rfl) rfl ?_
  rw [upA_upA]
  exact r_ret dX1_init_37 rfl ⟨rfl, rfl⟩
section NEWO
variable {κ : KP} {mi : MI} {d k n : Nat} {Q : Option Value → AH → Prop} {E : String → AH → Prop} {pc : Nat} {L : List (Option Value)} {h : AH} {mi' : MI} {d' idx nA : Nat} {rest As : List Value} {c : HC} {a : Nat}
/-- the constructor of an object that this method made, which then stays as it is -/
theorem r_init {x} (hd : decode mi.2.1 pc = .ok (.invokespecial idx, 3)) (hv : CI mi.1.cls idx mi' nA) (hM : MM κ mi' d' 0 0 (.ref a :: As) h (fun v h' => v = none ∧ h' = upA h a (true, x)) NoX) (hd' : d' + 1 ≤ d) (hA : As.length = nA) (hcat : (catS rest).ble 8 = true) {st : List Value} (hst : st = As.reverse ++ .ref a :: rest) (kk : WW κ mi d k n Q E (pc + 3) L rest (upA h a (false, x))) : WW κ mi d k n Q E pc L st h :=
  r_callI (As := As) hd hv hM hd' hA hst (cat_le hcat) (Nat.zero_le _) (Nat.zero_le _) (fun v h' hq => by obtain ⟨rfl, rfl⟩ := hq; exact ww_frz1 upA_same (by rw [upA_upA]; exact kk))
end NEWO
