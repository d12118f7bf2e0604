/-! ===== the letters ===== -/
/-- the builder's letters -/
def LtB (S : CST) : Prop := (0 ≤ S 7 3 ∧ S 7 3 ≤ 5) ∧ ∀ j : Int, 0 ≤ j → j < S 7 3 → 0 ≤ S 8 j ∧ S 8 j < 128
/-- m letters were read -/
def LtS (S S1 : CST) (m : Int) : Prop := SK [1, 7, 8] S S1 ∧ (∀ i : Int, i ≠ 2 → S1 1 i = S 1 i) ∧ S1 1 2 = S 1 2 + m ∧ S1 7 3 = m ∧ (0 ≤ m ∧ m ≤ 5) ∧ S 1 2 + m ≤ S 1 1 ∧ (∀ j : Int, 0 ≤ j → j < m → S1 8 j = S 6 (S 1 2 + j)) ∧ ∀ i : Int, 0 ≤ i → i < m → QLow (hre (S 6) (S 1 1) (S 1 2 + i)) ∧ ∀ j : Int, 0 ≤ j → j < i → hre (S 6) (S 1 1) (S 1 2 + j) ≠ hre (S 6) (S 1 1) (S 1 2 + i)
theorem hre_T {T : Int → Int} {n s : Int} (h : s < n) : hre T n s = T s := if_pos h
theorem LtS.rd {S S1 : CST} {m : Int} (h : LtS S S1 m) (hT : RdT S) : RdT S1 ∧ hr S1 = hre (S 6) (S 1 1) (S 1 2 + m) := by
  obtain ⟨h1, h2, h3, h4, h5, h6, -⟩ := h
  obtain ⟨a, b, c, d⟩ := hT
  have e6 : S1 6 = S 6 := h1 6 (by decide)
  have e1 : S1 1 1 = S 1 1 := h2 1 (by decide)
  refine ⟨⟨by rw [e1]; exact a, by rw [e6]; exact b, by omega, by omega⟩, ?_⟩
  unfold hr
  rw [e6, e1, h3]
theorem LtS.b {S S1 : CST} {m : Int} (h : LtS S S1 m) : LtB S1 := by
  obtain ⟨h1, h2, h3, h4, h5, h6, h7, h8⟩ := h
  refine ⟨by omega, fun j j0 j1 => ?_⟩
  have := (h8 j j0 (by omega)).1
  rw [hre_T (by omega)] at this
  unfold QLow at this
  rw [h7 j j0 (by omega)]
  omega
theorem LtS.step {S S1 : CST} {m : Int} (h : LtS S S1 m) (hT : RdT S) (hm : m < 5) (hl : QLow (sg S1)) (hn : ¬ ∃ j : Int, 0 ≤ j ∧ j < S1 7 3 ∧ S1 8 j = sg S1) : LtS S (updm (updm (updm S1 7 3 (S1 7 3 + 1)) 8 (S1 7 3) (sg S1)) 1 2 (S1 1 2 + 1)) (m + 1) := by
  obtain ⟨hR, hh⟩ := h.rd hT
  have hlt : S1 1 2 < S1 1 1 ∧ sg S1 = hr S1 := by
    unfold QLow at hl
    rcases sg_hr (S := S1) with ⟨a, b, -⟩ | ⟨-, a, b⟩
    · exact ⟨a, b⟩
    · omega
  obtain ⟨h1, h2, h3, h4, h5, h6, h7, h8⟩ := h
  have e1 : S1 1 1 = S 1 1 := h2 1 (by decide)
  have eS : sg S1 = S 6 (S 1 2 + m) := by rw [hlt.2, hh, hre_T (by omega)]
  have eH : hre (S 6) (S 1 1) (S 1 2 + m) = sg S1 := by rw [hlt.2, hh]
  refine ⟨((h1.up (by decide)).up (by decide)).up (by decide), fun i hi => ?_, ?_, ?_, by omega, by omega, fun j j0 j1 => ?_, fun i i0 i1 => ?_⟩
  · rw [updm_ne (by omega), updm_k (by decide), updm_k (by decide)]
    exact h2 i hi
  · rw [updm_at]
    omega
  · rw [updm_k (by decide), updm_k (by decide), updm_at]
    omega
  · rw [updm_k (by decide)]
    by_cases e : j = m
    · rw [e, h4, updm_at]
      exact eS
    · rw [updm_ne (by omega), updm_k (by decide)]
      exact h7 j j0 (by omega)
  · by_cases e : i = m
    · rw [e, eH]
      refine ⟨hl, fun j j0 j1 hx => hn ⟨j, j0, by omega, ?_⟩⟩
      rw [h7 j j0 j1, ← hx, hre_T (by omega)]
    · exact h8 i i0 (by omega)
theorem LtS.pl {S S1 : CST} {m : Int} (h : LtS S S1 m) (hT : RdT S) (hz : ¬ (m < 5 ∧ QLow (sg S1) ∧ ¬ ∃ j : Int, 0 ≤ j ∧ j < S1 7 3 ∧ S1 8 j = sg S1)) : PLt (S 6) (S 1 1) (S 1 2) m := by
  obtain ⟨hR, hh⟩ := h.rd hT
  have hs := sg_hr (S := S1)
  obtain ⟨h1, h2, h3, h4, h5, h6, h7, h8⟩ := h
  refine ⟨h5.1, h5.2, h8, fun ⟨a, b, c⟩ => hz ⟨a, ?_, fun ⟨j, j0, j1, j2⟩ => ?_⟩⟩
  · rw [← hh] at b
    unfold QLow at b ⊢
    omega
  · rw [← hh] at b
    unfold QLow at b
    refine c j j0 (by omega) ?_
    rw [hre_T (by omega), ← hh, ← h7 j j0 (by omega), j2]
    omega
set_option maxRecDepth 100000 in
set_option maxHeartbeats 4000000 in
theorem l_isTk (κ : KP) {B : Nat → Nat} {S : CST} (h : AH) (hB : BA B) (hL : LtB S) {c : Int} (rc : rng c) : ∀ (f : Nat) (i : Int), S 7 3 - i < (f : Int) → 0 ≤ i → i ≤ S 7 3 → (∀ j : Int, 0 ≤ j → j < i → S 8 j ≠ c) → WW κ mX7_isTaken 5 0 0 (fun v h' => v = some (.int (J (bI (tb (∃ j : Int, 0 ≤ j ∧ j < S 7 3 ∧ S 8 j = c))))) ∧ h' = cset B S h) NoX 2 [some (.ref (B 1)), some (.int (J c)), some (.int (J i))] [] (cset B S h) := by
  intro f
  induction f with
  | zero =>
    intro i hf i0 i1
    exact absurd hf (by omega)
  | succ f ih =>
    intro i hf i0 i1 hno
    have hl := hL.1
    refine r_il2 dX7_isTaken_2 ?_
    refine r_al0 dX7_isTaken_3 ?_
    refine b_get dX7_isTaken_4 f_X7_25 hB (by decide) (k9 := 1) rfl rfl ?_
    refine r_callVP0 dX7_isTaken_7 v_X7_102 (cs_obj hB (k9 := 7) (by decide) rfl) (s_len κ h hB) (by decide) rfl ?_
    refine r_icmp_ge (tgt := 33) dX7_isTaken_10 (by decide) (by (first | omega | assumption)) (by (first | omega | assumption)) (fun c_10 => ?_) (fun c_10 => ?_)
    · refine r_iconst dX7_isTaken_33 ?_
      first | exact r_iret dX7_isTaken_34 (ty := .boolean) rfl (by decide) ⟨ret_t ⟨i, i0, by omega, c_22⟩, rfl⟩ | exact r_iret dX7_isTaken_34 (ty := .boolean) rfl (by decide) ⟨ret_f (fun ⟨j, j0, j1, j2⟩ => hno j j0 (by omega) j2), rfl⟩
    · have hb := hL.2 i i0 (by omega)
      refine r_al0 dX7_isTaken_13 ?_
      refine b_get dX7_isTaken_14 f_X7_25 hB (by decide) (k9 := 1) rfl rfl ?_
      refine r_il2 dX7_isTaken_17 ?_
      refine r_callVP1 dX7_isTaken_18 v_X7_104 (cs_obj hB (k9 := 7) (by decide) rfl) (s_ch κ h hB i0 (by omega) (by omega) hb.1 hb.2) (by decide) rfl ?_
      refine r_il1 dX7_isTaken_21 ?_
      refine r_icmp_ne (tgt := 27) dX7_isTaken_22 (by decide) (by (first | omega | assumption)) (by (first | omega | assumption)) (fun c_22 => ?_) (fun c_22 => ?_)
      · refine r_inc2 dX7_isTaken_27 rfl ?_
        refine r_goto (tgt := 2) dX7_isTaken_30 (by decide) ?_
        refine ih (i + 1) (by omega) (by omega) (by omega) (fun j j0 j1 => ?_)
        rcases (show j < i ∨ j = i by omega) with z | z
        · exact hno j j0 z
        · rw [z]; exact c_22
      · refine r_iconst dX7_isTaken_25 ?_
        first | exact r_iret dX7_isTaken_26 (ty := .boolean) rfl (by decide) ⟨ret_t ⟨i, i0, by omega, c_22⟩, rfl⟩ | exact r_iret dX7_isTaken_26 (ty := .boolean) rfl (by decide) ⟨ret_f (fun ⟨j, j0, j1, j2⟩ => hno j j0 (by omega) j2), rfl⟩
set_option maxRecDepth 100000 in
set_option maxHeartbeats 4000000 in
theorem t_taken (κ : KP) {B : Nat → Nat} {S : CST} (h : AH) (hB : BA B) (hL : LtB S) {c : Int} (rc : rng c) : PM κ mX7_isTaken 5 [.ref (B 1), .int (J c)] (cset B S h) (.int (J (bI (tb (∃ j : Int, 0 ≤ j ∧ j < S 7 3 ∧ S 8 j = c))))) := by
  refine mm_of (L := [some _, some _, none]) (by decide +kernel) rfl rfl (Nat.le_of_ble_eq_true rfl) rfl ?_
  have hl := hL.1
  refine r_iconst dX7_isTaken_0 ?_
  refine r_is2 dX7_isTaken_1 rfl ?_
  exact l_isTk κ h hB hL rc 6 0 (by omega) (by omega) (by omega) (fun j j0 j1 => by omega)
set_option maxRecDepth 100000 in
set_option maxHeartbeats 4000000 in
theorem l_letters (κ : KP) {B : Nat → Nat} {S : CST} (h : AH) (hB : BA B) (hT : RdT S) {k n : Nat} {Q : Option Value → AH → Prop} (KK : ∀ (m : Int) (S1 : CST), LtS S S1 m → PLt (S 6) (S 1 1) (S 1 2) m → WW κ mX7_readLetters 8 k n Q NoX 64 [some (.ref (B 1)), some (.int (J m))] [] (cset B S1 h)) : ∀ (f : Nat) (m : Int) (S1 : CST), 5 - m < (f : Int) → LtS S S1 m → WW κ mX7_readLetters 8 k n Q NoX 10 [some (.ref (B 1)), some (.int (J m))] [] (cset B S1 h) := by
  intro f
  induction f with
  | zero =>
    intro m S1 hf hI
    have := hI.2.2.2.2.1
    exact absurd hf (by omega)
  | succ f ih =>
    intro m S1 hf hI
    have hm := hI.2.2.2.2.1
    have hR1 := (hI.rd hT).1
    have hL1 := hI.b
    have hsr := sg_rg hR1
    have h73 := hI.2.2.2.1
    refine r_il1 dX7_readLetters_10 ?_
    refine r_iconst dX7_readLetters_11 ?_
    refine r_icmp_ge (tgt := 64) dX7_readLetters_12 (by decide) (by (first | omega | assumption)) (by (first | omega | assumption)) (fun c_12 => ?_) (fun c_12 => ?_)
    · first | exact KK m S1 hI (hI.pl hT (fun z => by omega)) | exact KK m S1 hI (hI.pl hT (fun z => c_22 z.2.1)) | exact KK m S1 hI (hI.pl hT (fun z => z.2.2 c_33))
    · refine r_al0 dX7_readLetters_15 ?_
      refine r_callVP0 dX7_readLetters_16 v_X7_62 (cs_obj hB (k9 := 1) (by decide) rfl) (t_sign κ h hB hR1) (by decide) rfl ?_
      refine r_callSNP1 dX7_readLetters_19 s_X7_89 (x_own κ _ (by omega)) (by decide) rfl ?_
      refine r_ifT_eq (tgt := 64) dX7_readLetters_22 (by decide) (fun c_22 => ?_) (fun c_22 => ?_)
      · first | exact KK m S1 hI (hI.pl hT (fun z => by omega)) | exact KK m S1 hI (hI.pl hT (fun z => c_22 z.2.1)) | exact KK m S1 hI (hI.pl hT (fun z => z.2.2 c_33))
      · refine r_al0 dX7_readLetters_25 ?_
        refine r_al0 dX7_readLetters_26 ?_
        refine r_callVP0 dX7_readLetters_27 v_X7_62 (cs_obj hB (k9 := 1) (by decide) rfl) (t_sign κ h hB hR1) (by decide) rfl ?_
        refine r_callVP1 dX7_readLetters_30 v_X7_92 (cs_obj hB (k9 := 1) (by decide) rfl) (t_taken κ h hB hL1 (by omega)) (by decide) rfl ?_
        refine r_ifT_ne (tgt := 64) dX7_readLetters_33 (by decide) (fun c_33 => ?_) (fun c_33 => ?_)
        · first | exact KK m S1 hI (hI.pl hT (fun z => by omega)) | exact KK m S1 hI (hI.pl hT (fun z => c_22 z.2.1)) | exact KK m S1 hI (hI.pl hT (fun z => z.2.2 c_33))
        · refine r_al0 dX7_readLetters_36 ?_
          refine b_get dX7_readLetters_37 f_X7_25 hB (by decide) (k9 := 1) rfl rfl ?_
          refine r_al0 dX7_readLetters_40 ?_
          refine r_callVP0 dX7_readLetters_41 v_X7_62 (cs_obj hB (k9 := 1) (by decide) rfl) (t_sign κ h hB hR1) (by decide) rfl ?_
          have hlo := c_22
          unfold QLow at hlo
          refine r_callV (As := [.int (J (sg S1))]) dX7_readLetters_44 v_X7_95 (cs_obj hB (k9 := 7) (by decide) rfl) (s_app κ h hB (by omega) (by omega) (by omega) (by omega)) (by decide) rfl rfl (cat_le rfl) (Nat.zero_le _) (Nat.zero_le _) (fun v h9 hq9 => ?_) (fun _ _ hx => hx.elim)
          obtain ⟨rfl, rfl⟩ := hq9
          refine r_pop dX7_readLetters_47 rfl ?_
          refine r_al0 dX7_readLetters_48 ?_
          refine r_dup dX7_readLetters_49 rfl ?_
          refine b_get dX7_readLetters_50 f_X7_19 hB (by decide) (k9 := 1) rfl rfl ?_
          refine r_iconst dX7_readLetters_53 ?_
          refine r_iadd dX7_readLetters_54 ?_
          refine b_put (k9 := 1) (i9 := 2) (v9 := S1 1 2 + 1) dX7_readLetters_55 f_X7_19 p_X7_19 (ff_11_2 _) hB (by decide) rfl rfl rfl rfl rfl ?_
          refine r_inc1 dX7_readLetters_58 rfl ?_
          refine r_goto (tgt := 10) dX7_readLetters_61 (by decide) ?_
          exact ih (m + 1) _ (by omega) (hI.step hT (by omega) c_22 c_33)
