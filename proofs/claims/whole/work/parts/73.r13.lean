/-! ===== the reader ===== -/
/-- the text stands: n signs, the place within -/
def RdT (S : CST) : Prop := (0 ≤ S 1 1 ∧ S 1 1 ≤ 50) ∧ (∀ i : Int, 0 ≤ i → i < 50 → 0 ≤ S 6 i ∧ S 6 i < 65536) ∧ 0 ≤ S 1 2 ∧ S 1 2 ≤ S 1 1
def sg (S : CST) : Int := if S 1 2 < S 1 1 then S 6 (S 1 2) else 0
abbrev hr (S : CST) : Int := hre (S 6) (S 1 1) (S 1 2)
/-- the place is another -/
theorem at2_at {S : CST} {s t : Int} : updm (updm S 1 2 s) 1 2 t = updm S 1 2 t := by
  funext k i
  unfold updm
  by_cases e : k = 1 ∧ i = 2
  · rw [if_pos e, if_pos e]
  · rw [if_neg e, if_neg e, if_neg e]
theorem at2_self {S : CST} : updm S 1 2 (S 1 2) = S := by
  funext k i
  unfold updm
  by_cases e : k = 1 ∧ i = 2
  · rw [if_pos e, e.1, e.2]
  · rw [if_neg e]
theorem at2_k {S : CST} {s : Int} {k : Nat} (hk : k ≠ 1) : updm S 1 2 s k = S k := updm_k hk
theorem at2_i {S : CST} {s i : Int} (hi : i ≠ 2) : updm S 1 2 s 1 i = S 1 i := updm_ne (by omega)
theorem at2_2 {S : CST} {s : Int} : updm S 1 2 s 1 2 = s := updm_at
theorem RdT.at2 {S : CST} {s : Int} (h : RdT S) (h0 : 0 ≤ s) (h1 : s ≤ S 1 1) : RdT (updm S 1 2 s) := by
  obtain ⟨a, b, -⟩ := h
  unfold RdT
  rw [at2_k (k := 6) (by decide), at2_i (i := 1) (by decide), at2_2]
  exact ⟨a, b, h0, h1⟩
theorem sg_rg {S : CST} (h : RdT S) : 0 ≤ sg S ∧ sg S < 65536 := by
  obtain ⟨a, b, c, d⟩ := h
  unfold sg
  by_cases e : S 1 2 < S 1 1
  · rw [if_pos e]
    exact b _ c (by omega)
  · rw [if_neg e]
    decide
theorem sg_hr {S : CST} : (S 1 2 < S 1 1 ∧ sg S = hr S ∧ hr S = S 6 (S 1 2)) ∨ (¬ S 1 2 < S 1 1 ∧ sg S = 0 ∧ hr S = -1) := by
  unfold sg hr hre
  by_cases e : S 1 2 < S 1 1
  · rw [if_pos e, if_pos e]
    exact Or.inl ⟨e, rfl, rfl⟩
  · rw [if_neg e, if_neg e]
    exact Or.inr ⟨e, rfl, rfl⟩
theorem sg_eq {S : CST} {c : Int} (h0 : 0 < c) : sg S = c ↔ hr S = c := by
  rcases sg_hr (S := S) with ⟨-, a, -⟩ | ⟨-, a, b⟩ <;> omega
theorem hr_lt {S : CST} (h : 0 < hr S) : S 1 2 < S 1 1 := by
  rcases sg_hr (S := S) with ⟨a, -⟩ | ⟨-, -, b⟩ <;> omega
set_option maxRecDepth 100000 in
set_option maxHeartbeats 4000000 in
theorem t_sign (κ : KP) {B : Nat → Nat} {S : CST} (h : AH) (hB : BA B) (hT : RdT S) : PM κ mX7_sign 1 [.ref (B 1)] (cset B S h) (.int (J (sg S))) := by
  refine mm_of (L := [some _]) (by decide +kernel) rfl rfl (Nat.le_of_ble_eq_true rfl) rfl ?_
  obtain ⟨l0, hc, s0, s1⟩ := id hT
  have hsg := sg_rg hT
  refine r_al0 dX7_sign_0 ?_
  refine b_get dX7_sign_1 f_X7_19 hB (by decide) (k9 := 1) rfl rfl ?_
  refine r_if_lt (tgt := 42) dX7_sign_4 (by decide) (by (first | omega)) (fun c_4 => ?_) (fun c_4 => ?_)
  · exact absurd c_4 (by omega)
  · refine r_al0 dX7_sign_7 ?_
    refine b_get dX7_sign_8 f_X7_19 hB (by decide) (k9 := 1) rfl rfl ?_
    refine r_al0 dX7_sign_11 ?_
    refine b_get dX7_sign_12 f_X7_15 hB (by decide) (k9 := 1) rfl rfl ?_
    refine r_icmp_ge (tgt := 42) dX7_sign_15 (by decide) (by (first | omega)) (by (first | omega)) (fun c_15 => ?_) (fun c_15 => ?_)
    · refine r_iconst dX7_sign_42 ?_
      first | (unfold sg at hsg ⊢; rw [if_pos c_15] at hsg ⊢; exact r_iret dX7_sign_43 (ty := .char) rfl (nar_C hsg.1 hsg.2).1 ⟨rfl, rfl⟩) | (unfold sg; rw [if_neg (by omega)]; exact r_iret dX7_sign_43 (ty := .char) rfl (by decide) ⟨rfl, rfl⟩)
    · refine r_al0 dX7_sign_18 ?_
      refine b_get dX7_sign_19 f_X7_19 hB (by decide) (k9 := 1) rfl rfl ?_
      refine r_al0 dX7_sign_22 ?_
      refine b_get dX7_sign_23 f_X7_9 hB (by decide) (k9 := 1) rfl rfl ?_
      refine r_alenF dX7_sign_26 (cs_arr hB (k9 := 6) (by decide) rfl) (by decide) rfl ?_
      refine r_icmp_ge (tgt := 42) dX7_sign_27 (by decide) (by (first | omega)) (by (first | omega)) (fun c_27 => ?_) (fun c_27 => ?_)
      · exact absurd c_27 (by omega)
      · refine r_al0 dX7_sign_30 ?_
        refine b_get dX7_sign_31 f_X7_9 hB (by decide) (k9 := 1) rfl rfl ?_
        refine r_al0 dX7_sign_34 ?_
        refine b_get dX7_sign_35 f_X7_19 hB (by decide) (k9 := 1) rfl rfl ?_
        refine b_cald (k9 := 6) dX7_sign_38 hB (by decide) rfl (by omega) (by omega) (by omega) ?_
        refine r_goto (tgt := 43) dX7_sign_39 (by decide) ?_
        first | (unfold sg at hsg ⊢; rw [if_pos c_15] at hsg ⊢; exact r_iret dX7_sign_43 (ty := .char) rfl (nar_C hsg.1 hsg.2).1 ⟨rfl, rfl⟩) | (unfold sg; rw [if_neg (by omega)]; exact r_iret dX7_sign_43 (ty := .char) rfl (by decide) ⟨rfl, rfl⟩)
set_option maxRecDepth 100000 in
set_option maxHeartbeats 4000000 in
theorem t_dig (κ : KP) (h : AH) {c : Int} (rc : rng c) : PM κ mX7_isDigit 1 [.int (J c)] h (.int (J (bI (tb (QIn c 48 57))))) := by
  refine mm_of (L := [some _]) (by decide +kernel) rfl rfl (Nat.le_of_ble_eq_true rfl) rfl ?_
  refine r_il0 dX7_isDigit_0 ?_
  refine r_bipush dX7_isDigit_1 (by decide) ?_
  refine r_icmp_lt (tgt := 16) dX7_isDigit_3 (by decide) (by (first | assumption | decide)) (by (first | assumption | decide)) (fun c_3 => ?_) (fun c_3 => ?_)
  · refine r_iconst dX7_isDigit_16 ?_
    refine r_iret dX7_isDigit_17 (ty := .boolean) rfl (by first | exact nar_B _ | decide) ?_
    first | exact ⟨rfl, rfl⟩ | exact ⟨ret_t (by unfold QIn; omega), rfl⟩ | exact ⟨ret_f (by unfold QIn; omega), rfl⟩
  · refine r_il0 dX7_isDigit_6 ?_
    refine r_bipush dX7_isDigit_7 (by decide) ?_
    refine r_icmp_gt (tgt := 16) dX7_isDigit_9 (by decide) (by (first | assumption | decide)) (by (first | assumption | decide)) (fun c_9 => ?_) (fun c_9 => ?_)
    · refine r_iconst dX7_isDigit_16 ?_
      refine r_iret dX7_isDigit_17 (ty := .boolean) rfl (by first | exact nar_B _ | decide) ?_
      first | exact ⟨rfl, rfl⟩ | exact ⟨ret_t (by unfold QIn; omega), rfl⟩ | exact ⟨ret_f (by unfold QIn; omega), rfl⟩
    · refine r_iconst dX7_isDigit_12 ?_
      refine r_goto (tgt := 17) dX7_isDigit_13 (by decide) ?_
      refine r_iret dX7_isDigit_17 (ty := .boolean) rfl (by first | exact nar_B _ | decide) ?_
      first | exact ⟨rfl, rfl⟩ | exact ⟨ret_t (by unfold QIn; omega), rfl⟩ | exact ⟨ret_f (by unfold QIn; omega), rfl⟩
set_option maxRecDepth 100000 in
set_option maxHeartbeats 4000000 in
theorem t_full (κ : KP) {B : Nat → Nat} {S : CST} (h : AH) (hB : BA B) (l0 : 0 ≤ S 1 1 ∧ S 1 1 ≤ 50) : PM κ mX7_isFull 1 [.ref (B 1)] (cset B S h) (.int (J (bI (tb (S 1 1 = 50))))) := by
  refine mm_of (L := [some _]) (by decide +kernel) rfl rfl (Nat.le_of_ble_eq_true rfl) rfl ?_
  refine r_al0 dX7_isFull_0 ?_
  refine b_get dX7_isFull_1 f_X7_15 hB (by decide) (k9 := 1) rfl rfl ?_
  refine r_al0 dX7_isFull_4 ?_
  refine b_get dX7_isFull_5 f_X7_9 hB (by decide) (k9 := 1) rfl rfl ?_
  refine r_alenF dX7_isFull_8 (cs_arr hB (k9 := 6) (by decide) rfl) (by decide) rfl ?_
  refine r_icmp_lt (tgt := 16) dX7_isFull_9 (by decide) (by (first | omega)) (by (first | omega)) (fun c_9 => ?_) (fun c_9 => ?_)
  · refine r_iconst dX7_isFull_16 ?_
    refine r_iret dX7_isFull_17 (ty := .boolean) rfl (by first | exact nar_B _ | decide) ?_
    first | exact ⟨rfl, rfl⟩ | exact ⟨ret_t (by omega), rfl⟩ | exact ⟨ret_f (by omega), rfl⟩
  · refine r_iconst dX7_isFull_12 ?_
    refine r_goto (tgt := 17) dX7_isFull_13 (by decide) ?_
    refine r_iret dX7_isFull_17 (ty := .boolean) rfl (by first | exact nar_B _ | decide) ?_
    first | exact ⟨rfl, rfl⟩ | exact ⟨ret_t (by omega), rfl⟩ | exact ⟨ret_f (by omega), rfl⟩
set_option maxRecDepth 100000 in
set_option maxHeartbeats 4000000 in
theorem t_put (κ : KP) {B : Nat → Nat} {S : CST} (h : AH) (hB : BA B) {c : Int} (l0 : 0 ≤ S 1 1) (l1 : S 1 1 < 50) (c0 : 0 ≤ c) (c1 : c < 65536) : MM κ mX7_put 1 0 0 [.ref (B 1), .int (J c)] (cset B S h) (fun v h' => v = none ∧ h' = cset B (updm (updm S 6 (S 1 1) c) 1 1 (S 1 1 + 1)) h) NoX := by
  refine mm_of (L := [some _, some _]) (by decide +kernel) rfl rfl (Nat.le_of_ble_eq_true rfl) rfl ?_
  refine r_al0 dX7_put_0 ?_
  refine b_get dX7_put_1 f_X7_15 hB (by decide) (k9 := 1) rfl rfl ?_
  refine r_al0 dX7_put_4 ?_
  refine b_get dX7_put_5 f_X7_9 hB (by decide) (k9 := 1) rfl rfl ?_
  refine r_alenF dX7_put_8 (cs_arr hB (k9 := 6) (by decide) rfl) (by decide) rfl ?_
  refine r_icmp_ge (tgt := 32) dX7_put_9 (by decide) (by (first | omega)) (by (first | omega)) (fun c_9 => ?_) (fun c_9 => ?_)
  · exact absurd c_9 (by omega)
  · refine r_al0 dX7_put_12 ?_
    refine b_get dX7_put_13 f_X7_9 hB (by decide) (k9 := 1) rfl rfl ?_
    refine r_al0 dX7_put_16 ?_
    refine b_get dX7_put_17 f_X7_15 hB (by decide) (k9 := 1) rfl rfl ?_
    refine r_il1 dX7_put_20 ?_
    refine b_cast (k9 := 6) dX7_put_21 hB (by decide) (fun _ => rfl) (by omega) (by omega) (by omega) (nar_C c0 c1).1 ?_
    refine r_al0 dX7_put_22 ?_
    refine r_dup dX7_put_23 rfl ?_
    refine b_get dX7_put_24 f_X7_15 hB (by decide) (k9 := 1) rfl rfl ?_
    refine r_iconst dX7_put_27 ?_
    refine r_iadd dX7_put_28 ?_
    refine b_put (k9 := 1) (i9 := 1) dX7_put_29 f_X7_15 p_X7_15 (ff_11_1 _) hB (by decide) rfl rfl rfl rfl rfl ?_
    exact r_ret dX7_put_32 rfl ⟨rfl, rfl⟩
set_option maxRecDepth 100000 in
set_option maxHeartbeats 4000000 in
theorem t_take (κ : KP) {B : Nat → Nat} {S : CST} (h : AH) (hB : BA B) (hT : RdT S) {c : Int} (c0 : 0 < c) (rc : rng c) : MM κ mX7_take 2 0 0 [.ref (B 1), .int (J c)] (cset B S h) (fun v h' => ∃ (r : Int) (S' : CST), v = some (.int (J r)) ∧ (0 ≤ r ∧ r ≤ 1) ∧ h' = cset B S' h ∧ ((r = 1 ∧ hr S = c ∧ S 1 2 < S 1 1 ∧ S' = updm S 1 2 (S 1 2 + 1)) ∨ (r = 0 ∧ hr S ≠ c ∧ S' = S))) NoX := by
  refine mm_of (L := [some _, some _]) (by decide +kernel) rfl rfl (Nat.le_of_ble_eq_true rfl) rfl ?_
  have hsg := sg_rg hT
  obtain ⟨l0, hc, s0, s1⟩ := id hT
  refine r_al0 dX7_take_0 ?_
  refine r_callVP0 dX7_take_1 v_X7_62 (cs_obj hB (k9 := 1) (by decide) rfl) (t_sign κ h hB hT) (by decide) rfl ?_
  refine r_il1 dX7_take_4 ?_
  refine r_icmp_eq (tgt := 10) dX7_take_5 (by decide) (by (first | omega | assumption)) (by (first | omega | assumption)) (fun c_5 => ?_) (fun c_5 => ?_)
  · refine r_al0 dX7_take_10 ?_
    refine r_dup dX7_take_11 rfl ?_
    refine b_get dX7_take_12 f_X7_19 hB (by decide) (k9 := 1) rfl rfl ?_
    refine r_iconst dX7_take_15 ?_
    refine r_iadd dX7_take_16 ?_
    refine b_put (k9 := 1) (i9 := 2) dX7_take_17 f_X7_19 p_X7_19 (ff_11_2 _) hB (by decide) rfl rfl rfl rfl rfl ?_
    refine r_iconst dX7_take_20 ?_
    have hh := (sg_eq c0).mp c_5
    exact r_iret dX7_take_21 (ty := .boolean) rfl (by decide) ⟨1, _, rfl, by decide, rfl, Or.inl ⟨rfl, hh, hr_lt (by omega), rfl⟩⟩
  · refine r_iconst dX7_take_8 ?_
    exact r_iret dX7_take_9 (ty := .boolean) rfl (by decide) ⟨0, S, rfl, by decide, rfl, Or.inr ⟨rfl, fun z => c_5 ((sg_eq c0).mpr z), rfl⟩⟩
theorem sg_in {S : CST} {a b : Int} (h0 : 0 < a) : QIn (sg S) a b ↔ QIn (hr S) a b := by
  unfold QIn
  rcases sg_hr (S := S) with ⟨-, a, -⟩ | ⟨-, a, b⟩ <;> omega
theorem hr_at {S : CST} {s : Int} : hr (updm S 1 2 s) = hre (S 6) (S 1 1) s := by
  unfold hr
  rw [at2_k (by decide), at2_i (by decide), at2_2]
theorem pdig_no {S : CST} (h : ¬ QIn (hr S) 48 57) : pdig (S 6) (S 1 1) (S 1 2) = none := by
  unfold pdig
  rw [if_neg (by rw [tb_t]; exact h)]
theorem pdig_1 {S : CST} (h : QIn (hr S) 48 57) (h2 : ¬ (0 < hr S - 48 ∧ QIn (hre (S 6) (S 1 1) (S 1 2 + 1)) 48 57)) : pdig (S 6) (S 1 1) (S 1 2) = some (S 1 2 + 1, hr S - 48) := by
  unfold pdig
  rw [if_pos (tb_t.mpr h), if_neg (by rw [tb_t]; exact h2)]
theorem pdig_2 {S : CST} (h : QIn (hr S) 48 57) (h2 : 0 < hr S - 48 ∧ QIn (hre (S 6) (S 1 1) (S 1 2 + 1)) 48 57) : pdig (S 6) (S 1 1) (S 1 2) = some (S 1 2 + 1 + 1, 10 * (hr S - 48) + hre (S 6) (S 1 1) (S 1 2 + 1) - 48) := by
  unfold pdig
  rw [if_pos (tb_t.mpr h), if_pos (tb_t.mpr h2)]
set_option maxRecDepth 100000 in
set_option maxHeartbeats 4000000 in
theorem t_num (κ : KP) {B : Nat → Nat} {S : CST} (h : AH) (hB : BA B) (hT : RdT S) : MM κ mX7_readNumber 2 0 0 [.ref (B 1)] (cset B S h) (fun v h' => ∃ (r : Int) (S' : CST), v = some (.int (J r)) ∧ (-1 ≤ r ∧ r ≤ 99) ∧ h' = cset B S' h ∧ ((r = -1 ∧ pdig (S 6) (S 1 1) (S 1 2) = none ∧ S' = S) ∨ ∃ s', pdig (S 6) (S 1 1) (S 1 2) = some (s', r) ∧ S' = updm S 1 2 s' ∧ S 1 2 < s' ∧ s' ≤ S 1 1)) NoX := by
  refine mm_of (L := [some _, none, none]) (by decide +kernel) rfl rfl (Nat.le_of_ble_eq_true rfl) rfl ?_
  have hsg := sg_rg hT
  obtain ⟨l0, hc, s0, s1⟩ := id hT
  refine r_al0 dX7_readNumber_0 ?_
  refine r_callVP0 dX7_readNumber_1 v_X7_62 (cs_obj hB (k9 := 1) (by decide) rfl) (t_sign κ h hB hT) (by decide) rfl ?_
  refine r_is1 dX7_readNumber_4 rfl ?_
  refine r_il1 dX7_readNumber_5 ?_
  refine r_callSP1 dX7_readNumber_6 s_X7_108 (t_dig κ _ (by omega)) (by decide) rfl ?_
  refine r_ifT_ne (tgt := 14) dX7_readNumber_9 (by decide) (fun c_9 => ?_) (fun c_9 => ?_)
  · have d1 : QIn (hr S) 48 57 := (sg_in (by decide)).mp c_9
    have d2 := d1
    unfold QIn at d2
    have hlt := hr_lt (S := S) (by omega)
    have hse : sg S = hr S := by rcases sg_hr (S := S) with ⟨-, a, -⟩ | ⟨-, a, b⟩ <;> omega
    refine r_al0 dX7_readNumber_14 ?_
    refine r_dup dX7_readNumber_15 rfl ?_
    refine b_get dX7_readNumber_16 f_X7_19 hB (by decide) (k9 := 1) rfl rfl ?_
    refine r_iconst dX7_readNumber_19 ?_
    refine r_iadd dX7_readNumber_20 ?_
    refine b_put (k9 := 1) (i9 := 2) dX7_readNumber_21 f_X7_19 p_X7_19 (ff_11_2 _) hB (by decide) rfl rfl rfl rfl rfl ?_
    have hT1 : RdT (updm S 1 2 (S 1 2 + 1)) := hT.at2 (by omega) (by omega)
    have hsg1 := sg_rg hT1
    have hh1 : hr (updm S 1 2 (S 1 2 + 1)) = hre (S 6) (S 1 1) (S 1 2 + 1) := hr_at
    refine r_al0 dX7_readNumber_24 ?_
    refine r_callVP0 dX7_readNumber_25 v_X7_62 (cs_obj hB (k9 := 1) (by decide) rfl) (t_sign κ h hB hT1) (by decide) rfl ?_
    refine r_is2 dX7_readNumber_28 rfl ?_
    refine r_il1 dX7_readNumber_29 ?_
    refine r_bipush dX7_readNumber_30 (by decide) ?_
    refine r_icmp_eq (tgt := 42) dX7_readNumber_32 (by decide) (by (first | omega | assumption)) (by (first | omega | assumption)) (fun c_32 => ?_) (fun c_32 => ?_)
    · refine r_il1 dX7_readNumber_42 ?_
      refine r_bipush dX7_readNumber_43 (by decide) ?_
      refine r_isub dX7_readNumber_45 ?_
      exact r_iret dX7_readNumber_46 (ty := .int) rfl rfl ⟨_, updm S 1 2 (S 1 2 + 1), rfl, by omega, rfl, Or.inr ⟨_, by rw [hse]; exact pdig_1 d1 (fun z => by first | exact c_39 ((sg_in (by decide)).mpr (by rw [hh1]; exact z.2)) | omega), rfl, by omega, by omega⟩⟩
    · refine r_il2 dX7_readNumber_35 ?_
      refine r_callSP1 dX7_readNumber_36 s_X7_108 (t_dig κ _ (by omega)) (by decide) rfl ?_
      refine r_ifT_ne (tgt := 47) dX7_readNumber_39 (by decide) (fun c_39 => ?_) (fun c_39 => ?_)
      · have e1 : QIn (hre (S 6) (S 1 1) (S 1 2 + 1)) 48 57 := by rw [← hh1]; exact (sg_in (by decide)).mp c_39
        have e2 := e1
        unfold QIn at e2
        have hl1 := hr_lt (S := updm S 1 2 (S 1 2 + 1)) (by omega)
        rw [at2_2, at2_i (by decide)] at hl1
        have hse1 : sg (updm S 1 2 (S 1 2 + 1)) = hre (S 6) (S 1 1) (S 1 2 + 1) := by rcases sg_hr (S := updm S 1 2 (S 1 2 + 1)) with ⟨-, a, -⟩ | ⟨-, a, b⟩ <;> omega
        refine r_al0 dX7_readNumber_47 ?_
        refine r_dup dX7_readNumber_48 rfl ?_
        refine b_get dX7_readNumber_49 f_X7_19 hB (by decide) (k9 := 1) rfl rfl ?_
        refine r_iconst dX7_readNumber_52 ?_
        rw [at2_2]
        refine r_iadd dX7_readNumber_53 ?_
        refine b_put (k9 := 1) (i9 := 2) (v9 := S 1 2 + 1 + 1) dX7_readNumber_54 f_X7_19 p_X7_19 (ff_11_2 _) hB (by decide) rfl rfl rfl rfl rfl ?_
        refine r_il1 dX7_readNumber_57 ?_
        refine r_bipush dX7_readNumber_58 (by decide) ?_
        refine r_isub dX7_readNumber_60 ?_
        refine r_bipush dX7_readNumber_61 (by decide) ?_
        refine r_imul dX7_readNumber_63 ?_
        refine r_il2 dX7_readNumber_64 ?_
        refine r_bipush dX7_readNumber_65 (by decide) ?_
        refine r_isub dX7_readNumber_67 ?_
        refine r_iadd dX7_readNumber_68 ?_
        refine r_iret dX7_readNumber_69 (ty := .int) rfl rfl ⟨_, updm S 1 2 (S 1 2 + 1 + 1), rfl, by omega, by rw [at2_at], Or.inr ⟨S 1 2 + 1 + 1, ?_, rfl, by omega, by omega⟩⟩
        rw [pdig_2 d1 ⟨by omega, e1⟩, hse, hse1]
        congr 2
        omega
      · refine r_il1 dX7_readNumber_42 ?_
        refine r_bipush dX7_readNumber_43 (by decide) ?_
        refine r_isub dX7_readNumber_45 ?_
        exact r_iret dX7_readNumber_46 (ty := .int) rfl rfl ⟨_, updm S 1 2 (S 1 2 + 1), rfl, by omega, rfl, Or.inr ⟨_, by rw [hse]; exact pdig_1 d1 (fun z => by first | exact c_39 ((sg_in (by decide)).mpr (by rw [hh1]; exact z.2)) | omega), rfl, by omega, by omega⟩⟩
  · refine r_iconst dX7_readNumber_12 ?_
    exact r_iret dX7_readNumber_13 (ty := .int) rfl rfl ⟨_, S, rfl, by decide, rfl, Or.inl ⟨rfl, pdig_no (fun z => c_9 ((sg_in (by decide)).mpr z)), rfl⟩⟩
theorem par_S {a : Int → Int} {st : List Int} (h : OpS a st) : (st = [] ∧ par st = -1) ∨ (0 < st.length ∧ par st = a ((st.length : Int) - 1)) := by
  cases st with
  | nil => exact Or.inl ⟨rfl, rfl⟩
  | cons g st =>
    refine Or.inr ⟨by simp, ?_⟩
    have := h 0 g rfl
    rw [show ((g :: st).length : Int) - 1 - ((0 : Nat) : Int) = ((g :: st).length : Int) - 1 by omega] at this
    exact this.symm
set_option maxRecDepth 100000 in
set_option maxHeartbeats 4000000 in
theorem t_inner (κ : KP) {B : Nat → Nat} {S : CST} (h : AH) (hB : BA B) {st : List Int} (hO : OpS (S 10) st) (hl : S 1 7 = st.length) (h3 : st.length ≤ 3) : PM κ mX7_innermostGroup 1 [.ref (B 1)] (cset B S h) (.int (J (par st))) := by
  refine mm_of (L := [some _]) (by decide +kernel) rfl rfl (Nat.le_of_ble_eq_true rfl) rfl ?_
  have hp := par_S hO
  refine r_al0 dX7_innermostGroup_0 ?_
  refine b_get dX7_innermostGroup_1 f_X7_42 hB (by decide) (k9 := 1) rfl rfl ?_
  refine r_if_le (tgt := 33) dX7_innermostGroup_4 (by decide) (by (first | omega)) (fun c_4 => ?_) (fun c_4 => ?_)
  · refine r_iconst dX7_innermostGroup_33 ?_
    rcases hp with ⟨p1, p2⟩ | ⟨p1, p2⟩
    · subst p1; first | exact absurd c_4 (by rw [hl]; decide) | exact r_iret dX7_innermostGroup_34 (ty := .int) rfl rfl ⟨by rw [p2], rfl⟩
    · first | exact r_iret dX7_innermostGroup_34 (ty := .int) rfl rfl ⟨by rw [p2, hl], rfl⟩ | exact absurd c_4 (by omega)
  · refine r_al0 dX7_innermostGroup_7 ?_
    refine b_get dX7_innermostGroup_8 f_X7_42 hB (by decide) (k9 := 1) rfl rfl ?_
    refine r_al0 dX7_innermostGroup_11 ?_
    refine b_get dX7_innermostGroup_12 f_X7_38 hB (by decide) (k9 := 1) rfl rfl ?_
    refine r_alenF dX7_innermostGroup_15 (cs_arr hB (k9 := 10) (by decide) rfl) (by decide) rfl ?_
    refine r_icmp_gt (tgt := 33) dX7_innermostGroup_16 (by decide) (by (first | omega)) (by (first | omega)) (fun c_16 => ?_) (fun c_16 => ?_)
    · exact absurd c_16 (by omega)
    · refine r_al0 dX7_innermostGroup_19 ?_
      refine b_get dX7_innermostGroup_20 f_X7_38 hB (by decide) (k9 := 1) rfl rfl ?_
      refine r_al0 dX7_innermostGroup_23 ?_
      refine b_get dX7_innermostGroup_24 f_X7_42 hB (by decide) (k9 := 1) rfl rfl ?_
      refine r_iconst dX7_innermostGroup_27 ?_
      refine r_isub dX7_innermostGroup_28 ?_
      refine b_ald (k9 := 10) dX7_innermostGroup_29 hB (by decide) rfl (by omega) (by omega) (by omega) ?_
      refine r_goto (tgt := 34) dX7_innermostGroup_30 (by decide) ?_
      rcases hp with ⟨p1, p2⟩ | ⟨p1, p2⟩
      · subst p1; first | exact absurd c_4 (by rw [hl]; decide) | exact r_iret dX7_innermostGroup_34 (ty := .int) rfl rfl ⟨by rw [p2], rfl⟩
      · first | exact r_iret dX7_innermostGroup_34 (ty := .int) rfl rfl ⟨by rw [p2, hl], rfl⟩ | exact absurd c_4 (by omega)
/-- the place and the depth are others -/
theorem pcl_93 {T : Int → Int} {n s g : Int} {st : List Int} (h : hre T n s = 93) : pcl T n (g :: st) s = pcl T n st (s + 1) := by
  show (if hre T n s = 44 then _ else if hre T n s = 93 then pcl T n st (s + 1) else _) = _
  rw [if_neg (by omega), if_pos h]
theorem cl2_cl {S : CST} {s o s1 o1 : Int} : updm (updm (updm (updm S 1 2 s) 1 7 o) 1 2 s1) 1 7 o1 = updm (updm S 1 2 s1) 1 7 o1 := by
  funext k i
  unfold updm
  by_cases e : k = 1 ∧ i = 7
  · simp only [if_pos e]
  · simp only [if_neg e]
    by_cases e2 : k = 1 ∧ i = 2
    · simp only [if_pos e2]
    · simp only [if_neg e2]
theorem cl2_k {S : CST} {s o : Int} {k : Nat} (hk : k ≠ 1) : updm (updm S 1 2 s) 1 7 o k = S k := (updm_k hk).trans (updm_k hk)
theorem cl2_i {S : CST} {s o i : Int} (h2 : i ≠ 2) (h7 : i ≠ 7) : updm (updm S 1 2 s) 1 7 o 1 i = S 1 i := (updm_ne (by omega)).trans (updm_ne (by omega))
theorem cl2_2 {S : CST} {s o : Int} : updm (updm S 1 2 s) 1 7 o 1 2 = s := (updm_ne (by decide)).trans updm_at
theorem cl2_7 {S : CST} {s o : Int} : updm (updm S 1 2 s) 1 7 o 1 7 = o := updm_at
theorem cl2_self {S : CST} : updm (updm S 1 2 (S 1 2)) 1 7 (S 1 7) = S := by
  funext k i
  unfold updm
  by_cases e : k = 1 ∧ i = 7
  · rw [if_pos e, e.1, e.2]
  · rw [if_neg e]
    by_cases e2 : k = 1 ∧ i = 2
    · rw [if_pos e2, e2.1, e2.2]
    · rw [if_neg e2]
theorem RdT.cl2 {S : CST} {s o : Int} (h : RdT S) (h0 : 0 ≤ s) (h1 : s ≤ S 1 1) : RdT (updm (updm S 1 2 s) 1 7 o) := by
  obtain ⟨a, b, -⟩ := h
  unfold RdT
  rw [cl2_k (k := 6) (by decide), cl2_i (i := 1) (by decide) (by decide), cl2_2]
  exact ⟨a, b, h0, h1⟩
theorem hr_cl {S : CST} {s o : Int} : hr (updm (updm S 1 2 s) 1 7 o) = hre (S 6) (S 1 1) s := by
  unfold hr
  rw [cl2_k (by decide), cl2_i (by decide) (by decide), cl2_2]
set_option maxRecDepth 100000 in
set_option maxHeartbeats 4000000 in
theorem l_closings (κ : KP) {B : Nat → Nat} {S : CST} (h : AH) (hB : BA B) (hT : RdT S) {st : List Int} (h3 : st.length ≤ 3) : ∀ (st1 : List Int) (s i : Int), i + st1.length = 3 - (3 - st.length) → 0 ≤ i → OpS (S 10) st1 → S 1 2 ≤ s → s ≤ S 1 1 → st1.length ≤ st.length → pcl (S 6) (S 1 1) st (S 1 2) = pcl (S 6) (S 1 1) st1 s → WW κ mX7_readClosings 3 0 0 (fun v h' => v = none ∧ ∃ (s' : Int) (st' : List Int), h' = cset B (updm (updm S 1 2 s') 1 7 st'.length) h ∧ st'.length ≤ st.length ∧ S 1 2 ≤ s' ∧ s' ≤ S 1 1 ∧ pcl (S 6) (S 1 1) st (S 1 2) = pcl (S 6) (S 1 1) st' s' ∧ OpS (S 10) st' ∧ (st' = [] ∨ hre (S 6) (S 1 1) s' ≠ 93)) NoX 2 [some (.ref (B 1)), some (.int (J i))] [] (cset B (updm (updm S 1 2 s) 1 7 st1.length) h)
  | [], s, i, hi, i0, hO, s0, s1, hl, hp => by
    obtain ⟨l0, hc, z0, z1⟩ := id hT
    refine r_il1 dX7_readClosings_2 ?_
    refine r_iconst dX7_readClosings_3 ?_
    refine r_icmp_ge (tgt := 49) dX7_readClosings_4 (by decide) (by (first | omega | decide)) (by (first | omega | decide)) (fun c_4 => ?_) (fun c_4 => ?_)
    · exact r_ret dX7_readClosings_49 rfl ⟨rfl, s, [], rfl, hl, s0, s1, hp, hO, Or.inl rfl⟩
    · refine r_al0 dX7_readClosings_7 ?_
      refine b_get dX7_readClosings_8 f_X7_42 hB (by decide) (k9 := 1) rfl rfl ?_
      rw [cl2_7]
      refine r_if_le (tgt := 49) dX7_readClosings_11 (by decide) (by (first | omega | decide)) (fun c_11 => ?_) (fun c_11 => ?_)
      · exact r_ret dX7_readClosings_49 rfl ⟨rfl, s, [], rfl, hl, s0, s1, hp, hO, Or.inl rfl⟩
      · exact absurd c_11 (by decide)
  | g :: st1, s, i, hi, i0, hO, s0, s1, hl, hp => by
    obtain ⟨l0, hc, z0, z1⟩ := id hT
    have hs9 : sg (updm (updm S 1 2 s) 1 7 (g :: st1).length) = 93 ↔ hre (S 6) (S 1 1) s = 93 := by
      rw [← hr_cl (S := S) (s := s) (o := ((g :: st1).length : Int))]
      exact sg_eq (by decide)
    have hsr := sg_rg (hT.cl2 (s := s) (o := ((g :: st1).length : Int)) (by omega) (by omega))
    have hgl : ((g :: st1).length : Int) = (st1.length : Int) + 1 := by rw [List.length_cons]; omega
    have hgl2 : (g :: st1).length = st1.length + 1 := List.length_cons
    refine r_il1 dX7_readClosings_2 ?_
    refine r_iconst dX7_readClosings_3 ?_
    refine r_icmp_ge (tgt := 49) dX7_readClosings_4 (by decide) (by (first | omega | decide)) (by (first | omega | decide)) (fun c_4 => ?_) (fun c_4 => ?_)
    · exact absurd c_4 (by omega)
    · refine r_al0 dX7_readClosings_7 ?_
      refine b_get dX7_readClosings_8 f_X7_42 hB (by decide) (k9 := 1) rfl rfl ?_
      rw [cl2_7]
      refine r_if_le (tgt := 49) dX7_readClosings_11 (by decide) (by (first | omega | decide)) (fun c_11 => ?_) (fun c_11 => ?_)
      · exact absurd c_11 (by omega)
      · refine r_al0 dX7_readClosings_14 ?_
        refine r_callVP0 dX7_readClosings_15 v_X7_62 (cs_obj hB (k9 := 1) (by decide) rfl) (t_sign κ h hB (hT.cl2 (by omega) (by omega))) (by decide) rfl ?_
        refine r_bipush dX7_readClosings_18 (by decide) ?_
        refine r_icmp_ne (tgt := 49) dX7_readClosings_20 (by decide) (by (first | omega | decide)) (by (first | omega | decide)) (fun c_20 => ?_) (fun c_20 => ?_)
        · exact r_ret dX7_readClosings_49 rfl ⟨rfl, s, g :: st1, rfl, hl, s0, s1, hp, hO, Or.inr (fun z => c_20 (hs9.mpr z))⟩
        · refine r_al0 dX7_readClosings_23 ?_
          refine r_dup dX7_readClosings_24 rfl ?_
          refine b_get dX7_readClosings_25 f_X7_19 hB (by decide) (k9 := 1) rfl rfl ?_
          rw [cl2_2]
          refine r_iconst dX7_readClosings_28 ?_
          refine r_iadd dX7_readClosings_29 ?_
          refine b_put (k9 := 1) (i9 := 2) dX7_readClosings_30 f_X7_19 p_X7_19 (ff_11_2 _) hB (by decide) rfl rfl rfl rfl rfl ?_
          refine r_al0 dX7_readClosings_33 ?_
          refine r_dup dX7_readClosings_34 rfl ?_
          refine b_get dX7_readClosings_35 f_X7_42 hB (by decide) (k9 := 1) rfl rfl ?_
          rw [show updm (updm (updm S 1 2 s) 1 7 ((g :: st1).length : Int)) 1 2 (s + 1) 1 7 = ((st1.length : Int) + 1) from (updm_ne (by decide)).trans (cl2_7.trans hgl)]
          refine r_iconst dX7_readClosings_38 ?_
          refine r_isub dX7_readClosings_39 ?_
          refine b_put (k9 := 1) (i9 := 7) dX7_readClosings_40 f_X7_42 p_X7_42 (ff_11_7 _) hB (by decide) rfl rfl rfl rfl rfl ?_
          refine r_inc1 dX7_readClosings_43 rfl ?_
          refine r_goto (tgt := 2) dX7_readClosings_46 (by decide) ?_
          rw [show updm (updm (updm (updm S 1 2 s) 1 7 ((g :: st1).length : Int)) 1 2 (s + 1)) 1 7 ((st1.length : Int) + 1 - 1) = updm (updm S 1 2 (s + 1)) 1 7 st1.length from by rw [show (st1.length : Int) + 1 - 1 = st1.length by omega]; exact cl2_cl]
          have h93 := hs9.mp c_20
          have hlt : s < S 1 1 := by unfold hre at h93; split at h93 <;> omega
          exact l_closings κ h hB hT h3 st1 (s + 1) (i + 1) (by omega) (by omega) hO.pop (by omega) (by omega) (by omega) (by rw [hp, pcl_93 h93])
set_option maxRecDepth 100000 in
set_option maxHeartbeats 4000000 in
theorem t_closings (κ : KP) {B : Nat → Nat} {S : CST} (h : AH) (hB : BA B) (hT : RdT S) {st : List Int} (hO : OpS (S 10) st) (hl : S 1 7 = st.length) (h3 : st.length ≤ 3) : MM κ mX7_readClosings 3 0 0 [.ref (B 1)] (cset B S h) (fun v h' => v = none ∧ ∃ (s' : Int) (st' : List Int), h' = cset B (updm (updm S 1 2 s') 1 7 st'.length) h ∧ st'.length ≤ st.length ∧ S 1 2 ≤ s' ∧ s' ≤ S 1 1 ∧ pcl (S 6) (S 1 1) st (S 1 2) = pcl (S 6) (S 1 1) st' s' ∧ OpS (S 10) st' ∧ (st' = [] ∨ hre (S 6) (S 1 1) s' ≠ 93)) NoX := by
  refine mm_of (L := [some _, none]) (by decide +kernel) rfl rfl (Nat.le_of_ble_eq_true rfl) rfl ?_
  refine r_iconst dX7_readClosings_0 ?_
  refine r_is1 dX7_readClosings_1 rfl ?_
  have e := cl2_self (S := S)
  rw [hl] at e
  have := l_closings κ h hB hT h3 st (S 1 2) 0 (by omega) (by decide) hO (Int.le_refl _) hT.2.2.2 (Nat.le_refl _) rfl
  rw [e] at this
  exact this
theorem x_appendQ : True := trivial
