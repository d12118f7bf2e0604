/-! ===== the class's changes ===== -/
theorem bd_5 {B : Nat → Nat} {S : CST} {q : Nat} : bcell B (updm S 0 5 (q : Int)) 0 = (true, .inr (13, [Value.ref (B 1), .ref (B 2), .ref (B 3), .ref (B 4), .ref (B 5), va_rf (rz (S 0 5)), va_rf (rz (S 0 6)), .int (J (S 0 7)), .int (J (S 0 8))].set 5 (.ref q))) := by
  show (true, Sum.inr (13, [Value.ref (B 1), .ref (B 2), .ref (B 3), .ref (B 4), .ref (B 5), va_rf (rz (updm S 0 5 (q : Int) 0 5)), va_rf (rz (S 0 6)), .int (J (S 0 7)), .int (J (S 0 8))])) = _
  rw [updm_at, rz_c]
  rfl
theorem bd_6 {B : Nat → Nat} {S : CST} {q : Nat} : bcell B (updm S 0 6 (q : Int)) 0 = (true, .inr (13, [Value.ref (B 1), .ref (B 2), .ref (B 3), .ref (B 4), .ref (B 5), va_rf (rz (S 0 5)), va_rf (rz (S 0 6)), .int (J (S 0 7)), .int (J (S 0 8))].set 6 (.ref q))) := by
  show (true, Sum.inr (13, [Value.ref (B 1), .ref (B 2), .ref (B 3), .ref (B 4), .ref (B 5), va_rf (rz (S 0 5)), va_rf (rz (updm S 0 6 (q : Int) 0 6)), .int (J (S 0 7)), .int (J (S 0 8))])) = _
  rw [updm_at, rz_c]
  rfl
theorem geq_n2 {g : Int → Int} {a b c e : Int} : 0 ≤ g 2 → geq g a b c e 2 = g 2 + 1 := fun hn => by
  unfold geq
  rw [upz_ne (by omega), upz_ne (by omega), upz_ne (by omega), upz_ne (by omega), upz_same]
theorem QAp.coming {g : Int → Int} {e r : Int} {g' : Int → Int} (hn : 0 ≤ g 1 ∧ g 1 ≤ 6) (e0 : 0 ≤ e) (hf : QAp g e r g') : r = if g (28 + 4 * e + 3) = 32 then 1 else 2 := by
  obtain ⟨c, -, c0, hf⟩ := hf
  have a : ggo g c (28 + 4 * e + 3) = g (28 + 4 * e + 3) := ggo_hi hn.2 (by omega)
  have fin : ∀ (g1 : Int → Int) (P gr y : Int), g1 (28 + 4 * e + 3) = g (28 + 4 * e + 3) → QFin g1 e P gr y r g' → r = if g (28 + 4 * e + 3) = 32 then 1 else 2 := fun g1 P gr y h hq => by
    rcases hq with ⟨x, z, -⟩ | ⟨x, z, -⟩
    · rw [h] at x
      rw [if_pos x]
      exact z
    · rw [h] at x
      rw [if_neg x]
      exact z
  rcases hf with ⟨-, h⟩ | ⟨-, c2, -, d0, h⟩
  · exact fin _ _ _ _ a h
  · exact fin _ _ _ _ ((ggo_hi (by rw [ggo_n c0]; omega) (by omega)).trans a) h
theorem b_getN {κ : KP} {mi : MI} {d k n : Nat} {Q : Option Value → AH → Prop} {E : String → AH → Prop} {pc : Nat} {L : List (Option Value)} {st : List Value} {B : Nat → Nat} {S : CST} {h : AH} {kc k9 : Nat} {fs : List Value} {idx j : Nat} {z : Int} (hd : decode mi.2.1 pc = .ok (.getfield idx, 3)) (hf : FL mi.1.cls idx kc j) (hB : BA B) (hk : k9 ∈ bids) (hc : bcell B S k9 = (true, .inr (kc, fs))) (hv : fs[j]? = some (va_rf (rz z))) (hz : z = -1) (kk : WW κ mi d k n Q E (pc + 3) L (.null :: st) (cset B S h)) : WW κ mi d k n Q E pc L (.ref (B k9) :: st) (cset B S h) := by
  refine b_get hd hf hB hk hc hv ?_
  rw [hz]
  exact kk
/-- the desk became g1, at a new place; the one before is kept -/
def CP (κ : KP) (B : Nat → Nat) (S : CST) (h : AH) (q : Nat) (g1 : Int → Int) (h' : AH) : Prop := ∃ (S1 : CST) (q1 : Nat), HKp S S1 q ∧ h' = cset B (updm S1 0 5 (q1 : Int)) h' ∧ Fr B (cset B S h) h' ∧ DeskAt κ h' q1 g1 ∧ cset B S h q1 = none
/-- refused: nothing but perhaps the reason is another -/
def CN (B : Nat → Nat) (S : CST) (h : AH) (S' : CST) (h' : AH) : Prop := h' = cset B S' h
theorem CP.of {κ : KP} {B : Nat → Nat} {S S1 : CST} {h h1 : AH} {q q1 : Nat} {g1 : Int → Int} (hB : BA B) (x : Exn q1 (cset B S h) (cset B S h1)) (hD : DeskAt κ (cset B S h1) q1 g1) (y : HKp S S1 q) : CP κ B S h q g1 (cset B (updm S1 0 5 (q1 : Int)) h1) :=
  ⟨S1, q1, y, cset_cset.symm, x.1.fr.trans Fr.cs, hD.fx (cfxF hB), x.2⟩
theorem HK.fx {H H' : AH} {S : CST} (x : Fx H H') (h : HK H S) : HK H' S := ⟨h.1, fun p p0 p1 => by
  obtain ⟨v, fs, h1, h2⟩ := h.2 p p0 p1
  exact ⟨v, fs, h1, x _ _ h2⟩⟩
set_option maxRecDepth 100000 in
set_option maxHeartbeats 4000000 in
theorem x_changeTo (κ : KP) {B : Nat → Nat} {S : CST} (h : AH) (hB : BA B) {q q1 : Nat} {fq : List Value} (h05 : S 0 5 = (q : Int)) (hO : ObF (cset B S h) q 7 fq) (hH : HK (cset B S h) S) : MM κ mX9_changeTo 3 0 0 [.ref (B 0), .ref q1] (cset B S h) (fun v h' => v = none ∧ ∃ S1 : CST, HKp S S1 q ∧ h' = cset B (updm S1 0 5 (q1 : Int)) h) NoX := by
  refine mm_of (L := [some _, some _]) (by decide +kernel) rfl rfl (Nat.le_of_ble_eq_true rfl) rfl ?_
  refine r_al0 dX9_changeTo_0 ?_
  refine b_get dX9_changeTo_1 f_X9_19 hB (by decide) (k9 := 0) rfl rfl ?_
  refine r_al0 dX9_changeTo_4 ?_
  refine b_getR dX9_changeTo_5 f_X9_39 hB (by decide) rfl rfl (h05) ?_
  refine r_callV (As := [.ref q]) dX9_changeTo_8 v_X9_337 (cs_obj hB (k9 := 2) (by decide) rfl) (c_keep κ h hB hO hH) (by decide) rfl rfl (cat_le rfl) (Nat.zero_le _) (Nat.zero_le _) (fun v h9 hq9 => ?_) (fun _ _ hx => hx.elim)
  obtain ⟨rfl, S1, rfl, hk⟩ := hq9
  refine r_al0 dX9_changeTo_11 ?_
  refine r_al1 dX9_changeTo_12 ?_
  refine b_put (k9 := 0) (i9 := 5) dX9_changeTo_13 f_X9_39 p_X9_39 (ff_13_5 _) hB (by decide) rfl rfl rfl rfl bd_5 ?_
  exact r_ret dX9_changeTo_16 rfl ⟨rfl, S1, hk, rfl⟩
def W_pass (κ : KP) (B : Nat → Nat) (S : CST) (h : AH) (q : Nat) (g : Int → Int) (c : Int) : Option Value → AH → Prop := fun v h' => ∃ r, v = some (.int (J r)) ∧ (0 ≤ c ∧ c ≤ 60 - g 0) ∧ r = g 0 + c ∧ CP κ B S h q (upz g 0 (g 0 + c)) h'
set_option maxRecDepth 100000 in
set_option maxHeartbeats 4000000 in
theorem x_pass (κ : KP) {B : Nat → Nat} {S : CST} {Γ : Nat → Int → Int} {q : Nat} (h : AH) (hB : BA B) (hI : ClS κ (cset B S h) S Γ q) (hH : HK (cset B S h) S) {c : Int} (rc : rng c) : MM κ mX9_pass 6 1 6 [.ref (B 0), .int (J c)] (cset B S h) (W_pass κ B S h q (Γ q) c) (fun E' h' => E' = EIA ∧ ¬ (0 ≤ c ∧ c ≤ 60 - Γ q 0) ∧ h' = cset B S h) := by
  refine mm_of (L := [some _, some _]) (by decide +kernel) rfl rfl (Nat.le_of_ble_eq_true rfl) rfl ?_
  obtain ⟨h05, hD, hW, hG, hU⟩ := id hI
  obtain ⟨cr, eq, p, nc, ne, nb, hO, hC, hE, hP, e1, e2, e3⟩ := id hD
  have hDV : DkV κ (cset B S h) q (Γ q) cr eq p nc ne nb := ⟨hO, hC, hE, hP, e1, e2, e3⟩
  obtain ⟨fc, hAc, hbc⟩ := id hC
  obtain ⟨fe, hAe, hbe⟩ := id hE
  obtain ⟨bl, lv, ms, mr, N, lf, fm, fr, hV⟩ := id hP
  have hOp := hV.1
  have hAl := hV.2.2.1
  obtain ⟨fb, hAb, hbb⟩ := id hV.2.1
  have n0 := hW.n
  have hRw := hW.rw e3
  refine r_il1 dX9_pass_0 ?_
  refine r_if_lt (tgt := 18) dX9_pass_1 (by decide) (by (first | omega | assumption)) (fun c_1 => ?_) (fun c_1 => ?_)
  · exact r_throw rfl (by decide) th_X9_pass_18 (by decide) (by decide) (by decide) ⟨rfl, by omega, rfl⟩
  · refine r_il1 dX9_pass_4 ?_
    refine r_bipush dX9_pass_5 (by decide) ?_
    refine r_al0 dX9_pass_7 ?_
    refine b_getR dX9_pass_8 f_X9_39 hB (by decide) rfl rfl (h05) ?_
    refine r_getfield dX9_pass_11 f_X9_264 (by first | exact hO1 | assumption | exact cfx hB hO | exact cfx hB hOp | exact cfx hB hAc | exact cfx hB hAb | exact cfx hB hAe) rfl ?_
    refine r_isub dX9_pass_14 ?_
    refine r_icmp_le (tgt := 26) dX9_pass_15 (by decide) (by (first | omega | assumption)) (by (first | omega | assumption)) (fun c_15 => ?_) (fun c_15 => ?_)
    · refine r_al0 dX9_pass_26 ?_
      refine r_al0 dX9_pass_27 ?_
      refine b_getR dX9_pass_28 f_X9_39 hB (by decide) rfl rfl (h05) ?_
      refine r_al0 dX9_pass_31 ?_
      refine b_getR dX9_pass_32 f_X9_39 hB (by decide) rfl rfl (h05) ?_
      refine r_getfield dX9_pass_35 f_X9_264 (by first | exact hO1 | assumption | exact cfx hB hO | exact cfx hB hOp | exact cfx hB hAc | exact cfx hB hAb | exact cfx hB hAe) rfl ?_
      refine r_il1 dX9_pass_38 ?_
      refine r_iadd dX9_pass_39 ?_
      refine r_callV (As := [.int (J (Γ q 0 + c))]) dX9_pass_40 v_X9_291 hO (c_inYear κ _ hDV) (by decide) rfl rfl (cat_le rfl) (by decide) (by decide) (fun v h7 hq7 => ?_) (fun _ _ hx => hx.elim)
      obtain ⟨q1, rfl, hx1, hOn⟩ := hq7
      obtain ⟨h8, rfl⟩ : ∃ h8, h7 = cset B S h8 := ⟨h7, Ext.cs hB hx1.1⟩
      have hD1 := DeskAt.yr hDV hx1 hOn
      refine r_callV (As := [.ref q1]) dX9_pass_43 v_X9_93 (cs_obj hB (k9 := 0) (by decide) rfl) (x_changeTo κ h8 hB h05 (hx1.1 _ _ hO) (hH.fx hx1.1.fx)) (by decide) rfl rfl (cat_le rfl) (Nat.zero_le _) (Nat.zero_le _) (fun v h9 hq9 => ?_) (fun _ _ hx => hx.elim)
      obtain ⟨rfl, S1, hk1, rfl⟩ := hq9
      have h05u : updm S1 0 5 (q1 : Int) 0 5 = (q1 : Int) := updm_at
      have hcp := CP.of hB hx1 hD1 hk1
      have hD1 := hD1.fx (cfxF (S' := updm S1 0 5 (q1 : Int)) hB)
      obtain ⟨cr1, eq1, p1, nc1, ne1, nb1, hO1, hC1, hE1, hP1, f1, f2, f3⟩ := id hD1
      obtain ⟨fc1, hAc1, -⟩ := id hC1
      obtain ⟨fe1, hAe1, -⟩ := id hE1
      refine r_al0 dX9_pass_46 ?_
      refine b_getR dX9_pass_47 f_X9_39 hB (by decide) rfl rfl (h05u) ?_
      refine r_getfield dX9_pass_50 f_X9_264 (by first | exact hO1 | assumption | exact cfx hB hO | exact cfx hB hOp | exact cfx hB hAc | exact cfx hB hAb | exact cfx hB hAe) rfl ?_
      exact r_iret dX9_pass_53 (ty := .int) rfl rfl ⟨_, rfl, ⟨by omega, by omega⟩, upz_same, hcp⟩
    · exact r_throw rfl (by decide) th_X9_pass_18 (by decide) (by decide) (by decide) ⟨rfl, by omega, rfl⟩
set_option maxRecDepth 100000 in
set_option maxHeartbeats 4000000 in
theorem x_drop (κ : KP) {B : Nat → Nat} {S : CST} {Γ : Nat → Int → Int} {q : Nat} (h : AH) (hB : BA B) (hI : ClS κ (cset B S h) S Γ q) (hH : HK (cset B S h) S) {c : Int} (rc : rng c) : MM κ mX9_dropCredit 6 2 12 [.ref (B 0), .int (J c)] (cset B S h) (fun v h' => ∃ r, v = some (.int (J r)) ∧ QIn c 0 (Γ q 1 - 1) ∧ r = ggo (Γ q) c 1 ∧ CP κ B S h q (ggo (Γ q) c) h') (fun E' h' => E' = EIO ∧ ¬ QIn c 0 (Γ q 1 - 1) ∧ h' = cset B S h) := by
  refine mm_of (L := [some _, some _]) (by decide +kernel) rfl rfl (Nat.le_of_ble_eq_true rfl) rfl ?_
  obtain ⟨h05, hD, hW, hG, hU⟩ := id hI
  obtain ⟨cr, eq, p, nc, ne, nb, hO, hC, hE, hP, e1, e2, e3⟩ := id hD
  have hDV : DkV κ (cset B S h) q (Γ q) cr eq p nc ne nb := ⟨hO, hC, hE, hP, e1, e2, e3⟩
  obtain ⟨fc, hAc, hbc⟩ := id hC
  obtain ⟨fe, hAe, hbe⟩ := id hE
  obtain ⟨bl, lv, ms, mr, N, lf, fm, fr, hV⟩ := id hP
  have hOp := hV.1
  have hAl := hV.2.2.1
  obtain ⟨fb, hAb, hbb⟩ := id hV.2.1
  have n0 := hW.n
  have hRw := hW.rw e3
  refine r_al0 dX9_dropCredit_0 ?_
  refine r_il1 dX9_dropCredit_1 ?_
  refine r_callVP1 dX9_dropCredit_2 v_X9_96 (cs_obj hB (k9 := 0) (by decide) rfl) (x_hasCredit κ h hB hI (by omega)) (by decide) rfl ?_
  refine r_ifT_ne (tgt := 16) dX9_dropCredit_5 (by decide) (fun c_5 => ?_) (fun c_5 => ?_)
  · have h59 : 0 ≤ c ∧ c ≤ Γ q 1 - 1 := c_5
    refine r_al0 dX9_dropCredit_16 ?_
    refine r_al0 dX9_dropCredit_17 ?_
    refine b_getR dX9_dropCredit_18 f_X9_39 hB (by decide) rfl rfl (h05) ?_
    refine r_il1 dX9_dropCredit_21 ?_
    refine r_callV (As := [.int (J c)]) dX9_dropCredit_22 v_X9_103 hO (c_without κ _ hDV (by omega) (by omega) (by omega)) (by decide) rfl rfl (cat_le rfl) (by decide) (by decide) (fun v h7 hq7 => ?_) (fun _ _ hx => hx.elim)
    obtain ⟨q1, rfl, hx1, hD1⟩ := hq7
    obtain ⟨h8, rfl⟩ : ∃ h8, h7 = cset B S h8 := ⟨h7, Ext.cs hB hx1.1⟩
    refine r_callV (As := [.ref q1]) dX9_dropCredit_25 v_X9_93 (cs_obj hB (k9 := 0) (by decide) rfl) (x_changeTo κ h8 hB h05 (hx1.1 _ _ hO) (hH.fx hx1.1.fx)) (by decide) rfl rfl (cat_le rfl) (Nat.zero_le _) (Nat.zero_le _) (fun v h9 hq9 => ?_) (fun _ _ hx => hx.elim)
    obtain ⟨rfl, S1, hk1, rfl⟩ := hq9
    have h05u : updm S1 0 5 (q1 : Int) 0 5 = (q1 : Int) := updm_at
    have hcp := CP.of hB hx1 hD1 hk1
    have hD1 := hD1.fx (cfxF (S' := updm S1 0 5 (q1 : Int)) hB)
    obtain ⟨cr1, eq1, p1, nc1, ne1, nb1, hO1, hC1, hE1, hP1, f1, f2, f3⟩ := id hD1
    obtain ⟨fc1, hAc1, -⟩ := id hC1
    obtain ⟨fe1, hAe1, -⟩ := id hE1
    refine r_al0 dX9_dropCredit_28 ?_
    refine b_getR dX9_dropCredit_29 f_X9_39 hB (by decide) rfl rfl (h05u) ?_
    refine r_getfield dX9_dropCredit_32 f_X9_79 (by first | exact hO1 | exact hAc1 | exact hAe1 | assumption) rfl ?_
    refine r_alenF dX9_dropCredit_35 (by first | exact hO1 | exact hAc1 | exact hAe1 | assumption) (by decide) (rfl) ?_
    exact r_iret dX9_dropCredit_36 (ty := .int) rfl rfl ⟨_, rfl, c_5, f1, hcp⟩
  · exact r_throw rfl (by decide) th_X9_dropCredit_8 (by decide) (by decide) (by decide) ⟨rfl, c_5, rfl⟩
set_option maxRecDepth 100000 in
set_option maxHeartbeats 4000000 in
theorem x_addCredit (κ : KP) {B : Nat → Nat} {S : CST} {Γ : Nat → Int → Int} {q : Nat} (h : AH) (hB : BA B) (hI : ClS κ (cset B S h) S Γ q) (hH : HK (cset B S h) S) {a b c e : Int} (ra : rng a) (rb : rng b) (rc : rng c) (re : rng e) : MM κ mX9_addCredit 6 3 16 [.ref (B 0), .int (J a), .int (J b), .int (J c), .int (J e)] (cset B S h) (fun v h' => ∃ r, v = some (.int (J r)) ∧ QMay (Γ q) a b c e ∧ Γ q 1 ≠ 6 ∧ r = Γ q 1 ∧ CP κ B S h q (gcm (Γ q) a b c e) h') (fun E' h' => (E' = EIA ∧ ¬ QMay (Γ q) a b c e ∧ h' = cset B S h) ∨ (E' = EUO ∧ QMay (Γ q) a b c e ∧ Γ q 1 = 6 ∧ h' = cset B (updm S 0 8 1) h)) := by
  refine mm_of (L := [some _, some _, some _, some _, some _]) (by decide +kernel) rfl rfl (Nat.le_of_ble_eq_true rfl) rfl ?_
  obtain ⟨h05, hD, hW, hG, hU⟩ := id hI
  obtain ⟨cr, eq, p, nc, ne, nb, hO, hC, hE, hP, e1, e2, e3⟩ := id hD
  have hDV : DkV κ (cset B S h) q (Γ q) cr eq p nc ne nb := ⟨hO, hC, hE, hP, e1, e2, e3⟩
  obtain ⟨fc, hAc, hbc⟩ := id hC
  obtain ⟨fe, hAe, hbe⟩ := id hE
  obtain ⟨bl, lv, ms, mr, N, lf, fm, fr, hV⟩ := id hP
  have hOp := hV.1
  have hAl := hV.2.2.1
  obtain ⟨fb, hAb, hbb⟩ := id hV.2.1
  have n0 := hW.n
  have hRw := hW.rw e3
  refine r_al0 dX9_addCredit_0 ?_
  refine r_il1 dX9_addCredit_1 ?_
  refine r_il2 dX9_addCredit_2 ?_
  refine r_il3 dX9_addCredit_3 ?_
  refine r_il4 dX9_addCredit_4 ?_
  refine r_callVP4 dX9_addCredit_6 v_X9_72 (cs_obj hB (k9 := 0) (by decide) rfl) (x_inRange κ h hB hI ra rb rc re) (by decide) rfl ?_
  refine r_ifT_ne (tgt := 20) dX9_addCredit_9 (by decide) (fun c_9 => ?_) (fun c_9 => ?_)
  · have hm := c_9
    unfold QMay QLow QCap QIn at hm
    refine r_al0 dX9_addCredit_20 ?_
    refine b_getR dX9_addCredit_21 f_X9_39 hB (by decide) rfl rfl (h05) ?_
    refine r_getfield dX9_addCredit_24 f_X9_79 (by first | exact hO1 | exact hAc1 | exact hAe1 | assumption) rfl ?_
    refine r_alenF dX9_addCredit_27 (by first | exact hO1 | exact hAc1 | exact hAe1 | assumption) (by decide) (rfl) ?_
    refine r_bipush dX9_addCredit_28 (by decide) ?_
    refine r_icmp_lt (tgt := 46) dX9_addCredit_30 (by decide) (by (first | omega | assumption)) (by (first | omega | assumption)) (fun c_30 => ?_) (fun c_30 => ?_)
    · refine r_al0 dX9_addCredit_46 ?_
      refine r_al0 dX9_addCredit_47 ?_
      refine b_getR dX9_addCredit_48 f_X9_39 hB (by decide) rfl rfl (h05) ?_
      refine r_new dX9_addCredit_51 n_X9_25 (by decide) (by decide) (fun a9 ha9 => ?_)
      refine r_dup dX9_addCredit_54 rfl ?_
      refine r_il1 dX9_addCredit_55 ?_
      refine r_il2 dX9_addCredit_56 ?_
      refine r_il3 dX9_addCredit_57 ?_
      refine r_il4 dX9_addCredit_58 ?_
      refine r_init (As := [.int (J a), .int (J b), .int (J c), .int (J e)]) dX9_addCredit_60 i_X9_86 (c_crInit κ _ (by omega) (by omega) upA_same) (by decide) rfl rfl rfl ?_
      rw [upA_upA]
      have hx0 : Ext (cset B S h) (upA (cset B S h) a9 (false, .inr (6, [.int (J a), .int (J b), .int (J c), .int (J e)]))) := Ext.up ha9
      have hcr : CrR (upA (cset B S h) a9 (false, .inr (6, [.int (J a), .int (J b), .int (J c), .int (J e)]))) a9 (x4 a b c e) := upA_same
      generalize upA (cset B S h) a9 (false, .inr (6, [.int (J a), .int (J b), .int (J c), .int (J e)])) = h6 at hx0 hcr ⊢
      refine r_callV (As := [.ref a9]) dX9_addCredit_63 v_X9_89 (hx0 _ _ hO) (c_withCredit κ h6 (hDV.fx hx0.fx) hcr (by omega)) (by decide) rfl rfl (cat_le rfl) (by decide) (by decide) (fun v h7 hq7 => ?_) (fun _ _ hx => hx.elim)
      obtain ⟨q1, rfl, hx1n, hD1⟩ := hq7
      have hx1 := Exn.tr hx0 hx1n
      obtain ⟨h8, rfl⟩ : ∃ h8, h7 = cset B S h8 := ⟨h7, Ext.cs hB hx1.1⟩
      have hD1 : DeskAt κ (cset B S h8) q1 (gcm (Γ q) a b c e) := hD1
      refine r_callV (As := [.ref q1]) dX9_addCredit_66 v_X9_93 (cs_obj hB (k9 := 0) (by decide) rfl) (x_changeTo κ h8 hB h05 (hx1.1 _ _ hO) (hH.fx hx1.1.fx)) (by decide) rfl rfl (cat_le rfl) (Nat.zero_le _) (Nat.zero_le _) (fun v h9 hq9 => ?_) (fun _ _ hx => hx.elim)
      obtain ⟨rfl, S1, hk1, rfl⟩ := hq9
      have h05u : updm S1 0 5 (q1 : Int) 0 5 = (q1 : Int) := updm_at
      have hcp := CP.of hB hx1 hD1 hk1
      have hD1 := hD1.fx (cfxF (S' := updm S1 0 5 (q1 : Int)) hB)
      obtain ⟨cr1, eq1, p1, nc1, ne1, nb1, hO1, hC1, hE1, hP1, f1, f2, f3⟩ := id hD1
      obtain ⟨fc1, hAc1, -⟩ := id hC1
      obtain ⟨fe1, hAe1, -⟩ := id hE1
      refine r_al0 dX9_addCredit_69 ?_
      refine b_getR dX9_addCredit_70 f_X9_39 hB (by decide) rfl rfl (h05u) ?_
      refine r_getfield dX9_addCredit_73 f_X9_79 (by first | exact hO1 | exact hAc1 | exact hAe1 | assumption) rfl ?_
      refine r_alenF dX9_addCredit_76 (by first | exact hO1 | exact hAc1 | exact hAe1 | assumption) (by decide) (rfl) ?_
      refine r_iconst dX9_addCredit_77 ?_
      refine r_isub dX9_addCredit_78 ?_
      exact r_iret dX9_addCredit_79 (ty := .int) rfl rfl ⟨_, rfl, c_9, by omega, by rw [f1, gcm_n (by omega)]; omega, hcp⟩
    · refine r_al0 dX9_addCredit_33 ?_
      refine r_iconst dX9_addCredit_34 ?_
      refine b_put (k9 := 0) (i9 := 8) dX9_addCredit_35 f_X9_69 p_X9_69 (ff_13_8 _) hB (by decide) rfl rfl rfl rfl rfl ?_
      exact r_throw rfl (by decide) th_X9_addCredit_38 (by decide) (by decide) (by decide) (Or.inr ⟨rfl, c_9, by omega, rfl⟩)
  · exact r_throw rfl (by decide) th_X9_addCredit_12 (by decide) (by decide) (by decide) (Or.inl ⟨rfl, c_9, rfl⟩)
set_option maxRecDepth 100000 in
set_option maxHeartbeats 4000000 in
theorem x_addEq (κ : KP) {B : Nat → Nat} {S : CST} {Γ : Nat → Int → Int} {q : Nat} (h : AH) (hB : BA B) (hI : ClS κ (cset B S h) S Γ q) (hH : HK (cset B S h) S) {a b c e : Int} (ra : rng a) (rb : rng b) (rc : rng c) (re : rng e) : MM κ mX9_addEquivalence 6 3 16 [.ref (B 0), .int (J a), .int (J b), .int (J c), .int (J e)] (cset B S h) (fun v h' => ∃ r, v = some (.int (J r)) ∧ QEqv a b c e ∧ Γ q 2 ≠ 8 ∧ r = Γ q 2 ∧ CP κ B S h q (geq (Γ q) a b c e) h') (fun E' h' => (E' = EIA ∧ ¬ QEqv a b c e ∧ h' = cset B S h) ∨ (E' = EIS ∧ QEqv a b c e ∧ Γ q 2 = 8 ∧ h' = cset B S h)) := by
  refine mm_of (L := [some _, some _, some _, some _, some _]) (by decide +kernel) rfl rfl (Nat.le_of_ble_eq_true rfl) rfl ?_
  obtain ⟨h05, hD, hW, hG, hU⟩ := id hI
  obtain ⟨cr, eq, p, nc, ne, nb, hO, hC, hE, hP, e1, e2, e3⟩ := id hD
  have hDV : DkV κ (cset B S h) q (Γ q) cr eq p nc ne nb := ⟨hO, hC, hE, hP, e1, e2, e3⟩
  obtain ⟨fc, hAc, hbc⟩ := id hC
  obtain ⟨fe, hAe, hbe⟩ := id hE
  obtain ⟨bl, lv, ms, mr, N, lf, fm, fr, hV⟩ := id hP
  have hOp := hV.1
  have hAl := hV.2.2.1
  obtain ⟨fb, hAb, hbb⟩ := id hV.2.1
  have n0 := hW.n
  have hRw := hW.rw e3
  refine r_il1 dX9_addEquivalence_0 ?_
  refine r_il2 dX9_addEquivalence_1 ?_
  refine r_callSP2 dX9_addEquivalence_2 s_X9_159 (x_areF κ _ ra rb) (by decide) rfl ?_
  refine r_ifT_eq (tgt := 17) dX9_addEquivalence_5 (by decide) (fun c_5 => ?_) (fun c_5 => ?_)
  · exact r_throw rfl (by decide) th_X9_addEquivalence_17 (by decide) (by decide) (by decide) (Or.inl ⟨rfl, (fun z => by first | exact c_5 ⟨z.1, z.2.1⟩ | exact c_14 ⟨z.2.2.1, z.2.2.2⟩), rfl⟩)
  · refine r_il3 dX9_addEquivalence_8 ?_
    refine r_il4 dX9_addEquivalence_9 ?_
    refine r_callSP2 dX9_addEquivalence_11 s_X9_163 (x_areO κ _ rc re) (by decide) rfl ?_
    refine r_ifT_ne (tgt := 25) dX9_addEquivalence_14 (by decide) (fun c_14 => ?_) (fun c_14 => ?_)
    · have hm : QEqv a b c e := ⟨c_5.1, c_5.2, c_14.1, c_14.2⟩
      have hm2 := hm
      unfold QEqv QLow QCap at hm2
      refine r_al0 dX9_addEquivalence_25 ?_
      refine b_getR dX9_addEquivalence_26 f_X9_39 hB (by decide) rfl rfl (h05) ?_
      refine r_getfield dX9_addEquivalence_29 f_X9_166 (by first | exact hO1 | exact hAc1 | exact hAe1 | assumption) rfl ?_
      refine r_alenF dX9_addEquivalence_32 (by first | exact hO1 | exact hAc1 | exact hAe1 | assumption) (by decide) (rfl) ?_
      refine r_bipush dX9_addEquivalence_33 (by decide) ?_
      refine r_icmp_lt (tgt := 46) dX9_addEquivalence_35 (by decide) (by (first | omega | assumption)) (by (first | omega | assumption)) (fun c_35 => ?_) (fun c_35 => ?_)
      · refine r_al0 dX9_addEquivalence_46 ?_
        refine r_al0 dX9_addEquivalence_47 ?_
        refine b_getR dX9_addEquivalence_48 f_X9_39 hB (by decide) rfl rfl (h05) ?_
        refine r_new dX9_addEquivalence_51 n_X9_27 (by decide) (by decide) (fun a9 ha9 => ?_)
        refine r_dup dX9_addEquivalence_54 rfl ?_
        refine r_il1 dX9_addEquivalence_55 ?_
        refine r_il2 dX9_addEquivalence_56 ?_
        refine r_il3 dX9_addEquivalence_57 ?_
        refine r_il4 dX9_addEquivalence_58 ?_
        refine r_init (As := [.int (J a), .int (J b), .int (J c), .int (J e)]) dX9_addEquivalence_60 i_X9_170 (c_eqInit κ _ (by omega) (by omega) (by omega) (by omega) (by omega) (by omega) (by omega) (by omega) upA_same) (by decide) rfl rfl rfl ?_
        rw [upA_upA]
        have hx0 : Ext (cset B S h) (upA (cset B S h) a9 (false, .inr (8, [.int (J a), .int (J b), .int (J c), .int (J e)]))) := Ext.up ha9
        have hcr : EqR (upA (cset B S h) a9 (false, .inr (8, [.int (J a), .int (J b), .int (J c), .int (J e)]))) a9 (x4 a b c e) := upA_same
        generalize upA (cset B S h) a9 (false, .inr (8, [.int (J a), .int (J b), .int (J c), .int (J e)])) = h6 at hx0 hcr ⊢
        refine r_callV (As := [.ref a9]) dX9_addEquivalence_63 v_X9_173 (hx0 _ _ hO) (c_withEq κ h6 (hDV.fx hx0.fx) hcr (by omega) (by omega)) (by decide) rfl rfl (cat_le rfl) (by decide) (by decide) (fun v h7 hq7 => ?_) (fun _ _ hx => hx.elim)
        obtain ⟨q1, rfl, hx1n, hD1⟩ := hq7
        have hx1 := Exn.tr hx0 hx1n
        obtain ⟨h8, rfl⟩ : ∃ h8, h7 = cset B S h8 := ⟨h7, Ext.cs hB hx1.1⟩
        have hD1 : DeskAt κ (cset B S h8) q1 (geq (Γ q) a b c e) := hD1
        refine r_callV (As := [.ref q1]) dX9_addEquivalence_66 v_X9_93 (cs_obj hB (k9 := 0) (by decide) rfl) (x_changeTo κ h8 hB h05 (hx1.1 _ _ hO) (hH.fx hx1.1.fx)) (by decide) rfl rfl (cat_le rfl) (Nat.zero_le _) (Nat.zero_le _) (fun v h9 hq9 => ?_) (fun _ _ hx => hx.elim)
        obtain ⟨rfl, S1, hk1, rfl⟩ := hq9
        have h05u : updm S1 0 5 (q1 : Int) 0 5 = (q1 : Int) := updm_at
        have hcp := CP.of hB hx1 hD1 hk1
        have hD1 := hD1.fx (cfxF (S' := updm S1 0 5 (q1 : Int)) hB)
        obtain ⟨cr1, eq1, p1, nc1, ne1, nb1, hO1, hC1, hE1, hP1, f1, f2, f3⟩ := id hD1
        obtain ⟨fc1, hAc1, -⟩ := id hC1
        obtain ⟨fe1, hAe1, -⟩ := id hE1
        refine r_al0 dX9_addEquivalence_69 ?_
        refine b_getR dX9_addEquivalence_70 f_X9_39 hB (by decide) rfl rfl (h05u) ?_
        refine r_getfield dX9_addEquivalence_73 f_X9_166 (by first | exact hO1 | exact hAc1 | exact hAe1 | assumption) rfl ?_
        refine r_alenF dX9_addEquivalence_76 (by first | exact hO1 | exact hAc1 | exact hAe1 | assumption) (by decide) (rfl) ?_
        refine r_iconst dX9_addEquivalence_77 ?_
        refine r_isub dX9_addEquivalence_78 ?_
        exact r_iret dX9_addEquivalence_79 (ty := .int) rfl rfl ⟨_, rfl, hm, by omega, by rw [f2, geq_n2 (by omega)]; omega, hcp⟩
      · exact r_throw rfl (by decide) th_X9_addEquivalence_38 (by decide) (by decide) (by decide) (Or.inr ⟨rfl, hm, by omega, rfl⟩)
    · exact r_throw rfl (by decide) th_X9_addEquivalence_17 (by decide) (by decide) (by decide) (Or.inl ⟨rfl, (fun z => by first | exact c_5 ⟨z.1, z.2.1⟩ | exact c_14 ⟨z.2.2.1, z.2.2.2⟩), rfl⟩)
set_option maxRecDepth 100000 in
set_option maxHeartbeats 4000000 in
theorem x_apply (κ : KP) {B : Nat → Nat} {S : CST} {Γ : Nat → Int → Int} {q : Nat} (h : AH) (hB : BA B) (hI : ClS κ (cset B S h) S Γ q) (hH : HK (cset B S h) S) {e : Int} (re : rng e) : MM κ mX9_apply 8 20 112 [.ref (B 0), .int (J e)] (cset B S h) (fun v h' => ∃ r, v = some (.int (J r)) ∧ QIn e 0 (Γ q 2 - 1) ∧ QAga (Γ q) e 0 ∧ ∃ g', QAp (Γ q) e r g' ∧ CP κ B S h q g' h') (fun E' h' => (E' = EIO ∧ ¬ QIn e 0 (Γ q 2 - 1) ∧ h' = cset B S h) ∨ (E' = EUO ∧ QIn e 0 (Γ q 2 - 1) ∧ ∃ no, QAga (Γ q) e no ∧ 0 < no ∧ h' = cset B (updm S 0 8 no) h)) := by
  refine mm_of (L := [some _, some _, none, none]) (by decide +kernel) rfl rfl (Nat.le_of_ble_eq_true rfl) rfl ?_
  obtain ⟨h05, hD, hW, hG, hU⟩ := id hI
  obtain ⟨cr, eq, p, nc, ne, nb, hO, hC, hE, hP, e1, e2, e3⟩ := id hD
  have hDV : DkV κ (cset B S h) q (Γ q) cr eq p nc ne nb := ⟨hO, hC, hE, hP, e1, e2, e3⟩
  obtain ⟨fc, hAc, hbc⟩ := id hC
  obtain ⟨fe, hAe, hbe⟩ := id hE
  obtain ⟨bl, lv, ms, mr, N, lf, fm, fr, hV⟩ := id hP
  have hOp := hV.1
  have hAl := hV.2.2.1
  obtain ⟨fb, hAb, hbb⟩ := id hV.2.1
  have n0 := hW.n
  have hRw := hW.rw e3
  refine r_al0 dX9_apply_0 ?_
  refine r_il1 dX9_apply_1 ?_
  refine r_callVP1 dX9_apply_2 v_X9_177 (cs_obj hB (k9 := 0) (by decide) rfl) (x_hasEq κ h hB hI (by omega)) (by decide) rfl ?_
  refine r_ifT_ne (tgt := 16) dX9_apply_5 (by decide) (fun c_5 => ?_) (fun c_5 => ?_)
  · have h59 : 0 ≤ e ∧ e ≤ Γ q 2 - 1 := c_5
    have hw := hW.e (c := e) (by omega) (by omega)
    unfold WFe QLow QCap at hw
    refine r_al0 dX9_apply_16 ?_
    refine b_getR dX9_apply_17 f_X9_39 hB (by decide) rfl rfl (h05) ?_
    refine r_getfield dX9_apply_20 f_X9_166 (by first | exact hc_24 | exact hO1 | exact hAc1 | exact hAe1 | assumption) rfl ?_
    refine r_il1 dX9_apply_23 ?_
    obtain ⟨a_24, ha_24, hc_24⟩ := hbe e (by omega) (by omega)
    have hd_24 := hc_24
    unfold EqR at hd_24
    simp only [eqg] at hd_24
    refine r_aaF dX9_apply_24 (by first | exact hAe | exact cfx hB hAe) (by decide) ha_24 (by omega) (by omega) (by omega) ?_
    refine r_as2 dX9_apply_25 rfl ?_
    refine r_al0 dX9_apply_26 ?_
    refine b_getR dX9_apply_27 f_X9_39 hB (by decide) rfl rfl (h05) ?_
    refine r_al2 dX9_apply_30 ?_
    refine r_callVQ1 dX9_apply_31 v_X9_192 hO (c_against2 κ _ hDV hW (by omega) (by omega) hc_24) (by decide) rfl (fun r_31 rr_31 hr_31 => ?_)
    refine r_is3 dX9_apply_34 rfl ?_
    refine r_il3 dX9_apply_35 ?_
    refine r_if_eq (tgt := 52) dX9_apply_36 (by decide) (by (first | omega | assumption)) (fun c_36 => ?_) (fun c_36 => ?_)
    · have hag : QAga (Γ q) e 0 := by rw [← c_36]; exact hr_31
      refine r_al0 dX9_apply_52 ?_
      refine r_al0 dX9_apply_53 ?_
      refine b_getR dX9_apply_54 f_X9_39 hB (by decide) rfl rfl (h05) ?_
      refine r_al2 dX9_apply_57 ?_
      refine r_callV (As := [.ref a_24]) dX9_apply_58 v_X9_196 hO (c_after κ _ hDV ⟨hW, hG⟩ (by omega) (by omega) hc_24 hag) (by decide) rfl rfl (cat_le rfl) (by decide) (by decide) (fun v h7 hq7 => ?_) (fun _ _ hx => hx.elim)
      obtain ⟨q1, r1, g1, rfl, hx1, hap, hD1⟩ := hq7
      obtain ⟨h8, rfl⟩ : ∃ h8, h7 = cset B S h8 := ⟨h7, Ext.cs hB hx1.1⟩
      refine r_callV (As := [.ref q1]) dX9_apply_61 v_X9_93 (cs_obj hB (k9 := 0) (by decide) rfl) (x_changeTo κ h8 hB h05 (hx1.1 _ _ hO) (hH.fx hx1.1.fx)) (by decide) rfl rfl (cat_le rfl) (Nat.zero_le _) (Nat.zero_le _) (fun v h9 hq9 => ?_) (fun _ _ hx => hx.elim)
      obtain ⟨rfl, S1, hk1, rfl⟩ := hq9
      have h05u : updm S1 0 5 (q1 : Int) 0 5 = (q1 : Int) := updm_at
      have hcp := CP.of hB hx1 hD1 hk1
      have hD1 := hD1.fx (cfxF (S' := updm S1 0 5 (q1 : Int)) hB)
      obtain ⟨cr1, eq1, p1, nc1, ne1, nb1, hO1, hC1, hE1, hP1, f1, f2, f3⟩ := id hD1
      obtain ⟨fc1, hAc1, -⟩ := id hC1
      obtain ⟨fe1, hAe1, -⟩ := id hE1
      refine r_al2 dX9_apply_64 ?_
      have hc9 : EqR _ a_24 (eqg (Γ q) e) := cfx (S' := updm S1 0 5 (q1 : Int)) hB (hx1.1 _ _ hc_24)
      have hc8 := hc9
      unfold EqR at hc8
      refine r_callVP0 dX9_apply_65 v_X9_199 hc8 (c_comingN κ _ hc9 (by simp only [eqg]; omega)) (by decide) rfl ?_
      obtain rfl := hap.coming n0.2.1 (by omega)
      exact r_iret dX9_apply_68 (ty := .int) rfl rfl ⟨_, rfl, c_5, hag, g1, hap, hcp⟩
    · refine r_al0 dX9_apply_39 ?_
      refine r_il3 dX9_apply_40 ?_
      refine b_put (k9 := 0) (i9 := 8) dX9_apply_41 f_X9_69 p_X9_69 (ff_13_8 _) hB (by decide) rfl rfl rfl rfl rfl ?_
      exact r_throw rfl (by decide) th_X9_apply_44 (by decide) (by decide) (by decide) (Or.inr ⟨rfl, c_5, r_31, hr_31, by have := hr_31.no; omega, rfl⟩)
  · exact r_throw rfl (by decide) th_X9_apply_8 (by decide) (by decide) (by decide) (Or.inl ⟨rfl, c_5, rfl⟩)
set_option maxRecDepth 100000 in
set_option maxHeartbeats 4000000 in
theorem x_undo (κ : KP) {B : Nat → Nat} {S : CST} {Γ : Nat → Int → Int} {q : Nat} (h : AH) (hB : BA B) (hI : ClS κ (cset B S h) S Γ q) (hH : HK (cset B S h) S) : MM κ mX9_undo 6 1 6 [.ref (B 0)] (cset B S h) (fun v h' => ∃ r, v = some (.int (J r)) ∧ 0 < S 2 1 ∧ r = S 2 1 - 1 ∧ ∃ q1 : Nat, S 11 (S 2 1 - 1) = (q1 : Int) ∧ h' = cset B (updm (updm S 2 1 (S 2 1 - 1)) 0 5 (q1 : Int)) h) (fun E' h' => E' = EIS ∧ S 2 1 = 0 ∧ h' = cset B S h) := by
  refine mm_of (L := [some _, none]) (by decide +kernel) rfl rfl (Nat.le_of_ble_eq_true rfl) rfl ?_
  have k0 := hH.1
  refine r_al0 dX9_undo_0 ?_
  refine b_get dX9_undo_1 f_X9_19 hB (by decide) (k9 := 0) rfl rfl ?_
  refine r_callV (As := []) dX9_undo_4 v_X9_329 (cs_obj hB (k9 := 2) (by decide) rfl) (c_take κ h hB hH) (by decide) rfl rfl (cat_le rfl) (Nat.zero_le _) (Nat.zero_le _) (fun v h9 hq9 => ?_) (fun _ _ hx => hx.elim)
  rcases hq9 with ⟨z, rfl, rfl⟩ | ⟨z, q1, rfl, hq, rfl⟩
  · show WW κ _ _ _ _ _ _ _ _ [.null] _
    refine r_aNs1 dX9_undo_7 rfl ?_
    refine r_aNl1 dX9_undo_8 ?_
    refine r_ifnnN dX9_undo_9 ?_
    exact r_throw rfl (by decide) th_X9_undo_12 (by decide) (by decide) (by decide) ⟨rfl, z, rfl⟩
  · show WW κ _ _ _ _ _ _ _ _ [.ref q1] _
    refine r_as1 dX9_undo_7 rfl ?_
    refine r_al1 dX9_undo_8 ?_
    refine r_ifnn (tgt := 20) dX9_undo_9 (by decide) ?_
    refine r_al0 dX9_undo_20 ?_
    refine r_al1 dX9_undo_21 ?_
    refine b_put (k9 := 0) (i9 := 5) dX9_undo_22 f_X9_39 p_X9_39 (ff_13_5 _) hB (by decide) rfl rfl rfl rfl bd_5 ?_
    refine r_al0 dX9_undo_25 ?_
    refine b_get dX9_undo_26 f_X9_19 hB (by decide) (k9 := 0) rfl rfl ?_
    refine b_get dX9_undo_29 f_X9_333 hB (by decide) (k9 := 2) rfl rfl ?_
    exact r_iret dX9_undo_32 (ty := .int) rfl rfl ⟨_, rfl, z, by rw [updm_k (by decide), updm_at], q1, hq, rfl⟩
set_option maxRecDepth 100000 in
set_option maxHeartbeats 4000000 in
theorem x_save (κ : KP) {B : Nat → Nat} {S : CST} {Γ : Nat → Int → Int} {q : Nat} (h : AH) (hB : BA B) (hI : ClS κ (cset B S h) S Γ q) : MM κ mX9_save 1 0 0 [.ref (B 0)] (cset B S h) (fun v h' => v = none ∧ h' = cset B (updm S 0 6 (q : Int)) h) NoX := by
  refine mm_of (L := [some _]) (by decide +kernel) rfl rfl (Nat.le_of_ble_eq_true rfl) rfl ?_
  have h05 := hI.1
  refine r_al0 dX9_save_0 ?_
  refine r_al0 dX9_save_1 ?_
  refine b_getR dX9_save_2 f_X9_39 hB (by decide) rfl rfl (h05) ?_
  refine b_put (k9 := 0) (i9 := 6) dX9_save_5 f_X9_62 p_X9_62 (ff_13_6 _) hB (by decide) rfl rfl rfl rfl bd_6 ?_
  exact r_ret dX9_save_8 rfl ⟨rfl, rfl⟩
set_option maxRecDepth 100000 in
set_option maxHeartbeats 4000000 in
theorem x_restore (κ : KP) {B : Nat → Nat} {S : CST} {Γ : Nat → Int → Int} {q : Nat} (h : AH) (hB : BA B) (hI : ClS κ (cset B S h) S Γ q) : (S 0 6 = -1 → MM κ mX9_restore 6 1 6 [.ref (B 0)] (cset B S h) (fun v h' => False) (fun E' h' => E' = EIS ∧ h' = cset B S h)) ∧ ∀ q1 : Nat, S 0 6 = (q1 : Int) → MM κ mX9_restore 6 1 6 [.ref (B 0)] (cset B S h) (fun v h' => v = none ∧ h' = cset B (updm (updm S 0 5 (q1 : Int)) 2 1 0) h) NoX := by
  refine ⟨fun h6 => ?_, fun q1 h6 => ?_⟩
  · refine mm_of (L := [some _]) (by decide +kernel) rfl rfl (Nat.le_of_ble_eq_true rfl) rfl ?_
    refine r_al0 dX9_restore_0 ?_
    refine b_getN dX9_restore_1 f_X9_62 hB (by decide) (k9 := 0) rfl rfl h6 ?_
    refine r_ifnnN dX9_restore_4 ?_
    exact r_throw rfl (by decide) th_X9_restore_7 (by decide) (by decide) (by decide) ⟨rfl, rfl⟩
  · refine mm_of (L := [some _]) (by decide +kernel) rfl rfl (Nat.le_of_ble_eq_true rfl) rfl ?_
    refine r_al0 dX9_restore_0 ?_
    refine b_getR dX9_restore_1 f_X9_62 hB (by decide) rfl rfl (h6) ?_
    refine r_ifnn (tgt := 15) dX9_restore_4 (by decide) ?_
    refine r_al0 dX9_restore_15 ?_
    refine r_al0 dX9_restore_16 ?_
    refine b_getR dX9_restore_17 f_X9_62 hB (by decide) rfl rfl (h6) ?_
    refine b_put (k9 := 0) (i9 := 5) dX9_restore_20 f_X9_39 p_X9_39 (ff_13_5 _) hB (by decide) rfl rfl rfl rfl bd_5 ?_
    refine r_al0 dX9_restore_23 ?_
    refine b_get dX9_restore_24 f_X9_19 hB (by decide) (k9 := 0) rfl rfl ?_
    refine r_callV (As := []) dX9_restore_27 v_X9_334 (cs_obj hB (k9 := 2) (by decide) rfl) (c_forget κ h hB) (by decide) rfl rfl (cat_le rfl) (Nat.zero_le _) (Nat.zero_le _) (fun v h9 hq9 => ?_) (fun _ _ hx => hx.elim)
    obtain ⟨rfl, rfl⟩ := hq9
    exact r_ret dX9_restore_30 rfl ⟨rfl, rfl⟩
