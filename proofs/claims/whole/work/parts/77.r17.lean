/-! ===== the builder to a text ===== -/
set_option maxRecDepth 100000 in
set_option maxHeartbeats 4000000 in
theorem s_chk (κ : KP) (h : AH) {n : Int} (n0 : 0 ≤ n) (n1 : n ≤ 5) : MM κ mJ7_checkLength_df160 1 0 0 [.int (J 0), .int (J n)] h (fun w h' => w = none ∧ h' = h) NoX := by
  refine mm_of (L := [some _, some _]) (by decide +kernel) rfl rfl (Nat.le_of_ble_eq_true rfl) rfl ?_
  refine r_il1 dJ7_checkLength_df160_0 ?_
  refine r_il0 dJ7_checkLength_df160_1 ?_
  refine r_icmp_ge (tgt := 37) dJ7_checkLength_df160_2 (by decide) (by (first | omega | decide)) (by (first | omega | decide)) (fun c_2 => ?_) (fun c_2 => ?_)
  · exact r_ret dJ7_checkLength_df160_37 rfl ⟨rfl, rfl⟩
  · exact absurd c_2 (by omega)
set_option maxRecDepth 100000 in
set_option maxHeartbeats 4000000 in
theorem s_copyB (κ : KP) (h : AH) {b8 : Nat} {f : Int → Int} (hb : h b8 = some (true, .inl (.byte, 16, iv f))) {n : Int} (n0 : 0 ≤ n) (n1 : n ≤ 5) (hf : ∀ i : Int, 0 ≤ i → i < n → 0 ≤ f i ∧ f i < 128) : MM κ mJ7_copyOfRangeByte_39247 3 1 5 [.ref b8, .int (J 0), .int (J n)] h (fun v h' => ∃ (b : Nat) (g : Int → Int), v = some (.ref b) ∧ h b = none ∧ h' = upA h b (true, .inl (.byte, n.toNat, iv g)) ∧ ∀ i : Int, 0 ≤ i → i < n → g i = f i) NoX := by
  refine mm_of (L := [some _, some _, some _, none, none]) (by decide +kernel) rfl rfl (Nat.le_of_ble_eq_true rfl) rfl ?_
  have hn : (n.toNat : Int) = n := Int.toNat_of_nonneg n0
  refine r_il1 dJ7_copyOfRangeByte_39247_0 ?_
  refine r_il2 dJ7_copyOfRangeByte_39247_1 ?_
  refine r_callSV2 dJ7_copyOfRangeByte_39247_2 s_J7_343 (s_chk κ _ n0 n1) (by decide) rfl ?_
  refine r_il2 dJ7_copyOfRangeByte_39247_5 ?_
  refine r_il1 dJ7_copyOfRangeByte_39247_6 ?_
  refine r_isub dJ7_copyOfRangeByte_39247_7 ?_
  refine r_is3 dJ7_copyOfRangeByte_39247_8 rfl ?_
  rw [show n - 0 = n by omega]
  refine r_il3 dJ7_copyOfRangeByte_39247_9 ?_
  refine r_newa dJ7_copyOfRangeByte_39247_10 (by decide) ac_B n0 (by show _ * 1 ≤ _; omega) (by omega) (by decide) (by omega) (fun a9 ha9 => ?_)
  refine r_as4 dJ7_copyOfRangeByte_39247_12 rfl ?_
  refine r_al0 dJ7_copyOfRangeByte_39247_14 ?_
  refine r_il1 dJ7_copyOfRangeByte_39247_15 ?_
  refine r_al4 dJ7_copyOfRangeByte_39247_16 ?_
  refine r_iconst dJ7_copyOfRangeByte_39247_18 ?_
  refine r_al0 dJ7_copyOfRangeByte_39247_19 ?_
  refine r_alenF dJ7_copyOfRangeByte_39247_20 (upo ha9 hb) (by decide) rfl ?_
  refine r_il1 dJ7_copyOfRangeByte_39247_21 ?_
  refine r_isub dJ7_copyOfRangeByte_39247_22 ?_
  refine r_il3 dJ7_copyOfRangeByte_39247_23 ?_
  refine r_min dJ7_copyOfRangeByte_39247_24 s_J7_304 (by omega) (by omega) (by decide) rfl ?_
  rw [show min ((16 : Nat) - (0 : Int)) n = n by omega]
  refine r_copyB (f := f) (g := fun _ => 0) dJ7_copyOfRangeByte_39247_27 ac_J7_150 (upo ha9 hb) upA_same n0 (by omega) (by omega) (by decide) hf (by decide) (by decide) ?_
  rw [upA_upA]
  refine r_al4 dJ7_copyOfRangeByte_39247_30 ?_
  exact r_aretA dJ7_copyOfRangeByte_39247_32 rfl ⟨a9, _, rfl, ha9, rfl, fun i i0 i1 => if_pos i1⟩
set_option maxRecDepth 100000 in
set_option maxHeartbeats 4000000 in
theorem s_copyR (κ : KP) (h : AH) {b8 : Nat} {f : Int → Int} (hb : h b8 = some (true, .inl (.byte, 16, iv f))) {n : Int} (n0 : 0 ≤ n) (n1 : n ≤ 5) (hf : ∀ i : Int, 0 ≤ i → i < n → 0 ≤ f i ∧ f i < 128) : MM κ mJ7_copyOfRange_39247 4 1 5 [.ref b8, .int (J 0), .int (J n)] h (fun v h' => ∃ (b : Nat) (g : Int → Int), v = some (.ref b) ∧ h b = none ∧ h' = upA h b (true, .inl (.byte, n.toNat, iv g)) ∧ ∀ i : Int, 0 ≤ i → i < n → g i = f i) NoX := by
  refine mm_of (L := [some _, some _, some _]) (by decide +kernel) rfl rfl (Nat.le_of_ble_eq_true rfl) rfl ?_
  refine r_il1 dJ7_copyOfRange_39247_0 ?_
  refine r_if_ne (tgt := 10) dJ7_copyOfRange_39247_1 (by decide) (by (first | omega | decide)) (fun c_1 => ?_) (fun c_1 => ?_)
  · exact absurd rfl c_1
  · refine r_il2 dJ7_copyOfRange_39247_4 ?_
    refine r_al0 dJ7_copyOfRange_39247_5 ?_
    refine r_alenF dJ7_copyOfRange_39247_6 hb (by decide) rfl ?_
    refine r_icmp_eq (tgt := 17) dJ7_copyOfRange_39247_7 (by decide) (by (first | omega | decide)) (by (first | omega | decide)) (fun c_7 => ?_) (fun c_7 => ?_)
    · exact absurd c_7 (by omega)
    · refine r_al0 dJ7_copyOfRange_39247_10 ?_
      refine r_il1 dJ7_copyOfRange_39247_11 ?_
      refine r_il2 dJ7_copyOfRange_39247_12 ?_
      refine r_callS (As := [.ref b8, .int (J 0), .int (J n)]) dJ7_copyOfRange_39247_13 s_J7_339 (s_copyB κ h hb n0 n1 hf) (by decide) rfl rfl (cat_le rfl) (by decide) (by decide) (fun v h9 hq9 => ?_) (fun _ _ hx => hx.elim)
      obtain ⟨b, g, rfl, hq⟩ := hq9
      exact r_aretA dJ7_copyOfRange_39247_16 rfl ⟨b, g, rfl, hq⟩
theorem upA_comm {h : AH} {a b : Nat} {x y z : HC} (hab : a ≠ b) : upA (upA (upA h a x) b y) a z = upA (upA h b y) a z := by
  funext q
  unfold upA
  by_cases e : q = a
  · simp only [if_pos e]
  · simp only [if_neg e]
set_option maxRecDepth 100000 in
set_option maxHeartbeats 4000000 in
theorem s_init0 (κ : KP) {B : Nat → Nat} {S : CST} (h : AH) (hB : BA B) (hL : LtB S) {a : Nat} {w0 w1 w2 w3 : Value} (ha : cset B S h a = some (true, .inr (0, [w0, w1, w2, w3]))) (hk : ∀ k ∈ bids, B k ≠ a) : MM κ mJ0_init_db425 5 1 5 [.ref a, .ref (B 7), .null] (cset B S h) (fun v h' => v = none ∧ ∃ (b : Nat) (g : Int → Int), b ≠ a ∧ cset B S h b = none ∧ h' = upA (upA (cset B S h) b (true, .inl (.byte, (S 7 3).toNat, iv g))) a (true, .inr (0, [.ref b, .int (J 0), w2, w3])) ∧ ∀ i : Int, 0 ≤ i → i < S 7 3 → g i = S 8 i) NoX := by
  refine mm_of (L := [some _, some _, some _, none, none]) (by decide +kernel) rfl rfl (Nat.le_of_ble_eq_true rfl) rfl ?_
  have hl := hL.1
  refine r_al0 dJ0_init_db425_0 ?_
  refine r_objInit dJ0_init_db425_1 o_J0_1 oI oC (by decide) (cat_le rfl) ?_
  refine r_al1 dJ0_init_db425_4 ?_
  refine r_callU (As := []) dJ0_init_db425_5 w_J0_552 (cs_obj hB (k9 := 7) (by decide) rfl) (s_val κ h hB) (by decide) rfl rfl (cat_le rfl) (Nat.zero_le _) (Nat.zero_le _) (fun v h9 hq9 => ?_)
  obtain ⟨rfl, rfl⟩ := hq9
  refine r_as3 dJ0_init_db425_8 rfl ?_
  refine r_al1 dJ0_init_db425_9 ?_
  refine r_callU (As := []) dJ0_init_db425_10 w_J0_549 (cs_obj hB (k9 := 7) (by decide) rfl) (s_len κ h hB) (by decide) rfl rfl (cat_le rfl) (Nat.zero_le _) (Nat.zero_le _) (fun v h9 hq9 => ?_)
  obtain ⟨rfl, rfl⟩ := hq9
  refine r_is4 dJ0_init_db425_13 rfl ?_
  refine r_al1 dJ0_init_db425_15 ?_
  refine r_callU (As := []) dJ0_init_db425_16 w_J0_1047 (cs_obj hB (k9 := 7) (by decide) rfl) (s_isLat κ h hB) (by decide) rfl rfl (cat_le rfl) (Nat.zero_le _) (Nat.zero_le _) (fun v h9 hq9 => ?_)
  obtain ⟨rfl, rfl⟩ := hq9
  refine r_if_eq (tgt := 41) dJ0_init_db425_19 (by decide) (by (first | omega | decide)) (fun c_19 => ?_) (fun c_19 => ?_)
  · exact absurd c_19 (by decide)
  · refine r_al0 dJ0_init_db425_22 ?_
    refine r_iconst dJ0_init_db425_23 ?_
    refine r_putfield dJ0_init_db425_24 f_J0_15 p_J0_15 ff_0_1 ha rfl (by decide) (Nat.le_of_ble_eq_true rfl) rfl ?_
    refine r_al0 dJ0_init_db425_27 ?_
    refine r_al3 dJ0_init_db425_28 ?_
    refine r_iconst dJ0_init_db425_29 ?_
    refine r_il4 dJ0_init_db425_30 ?_
    have hn8 : B 8 ≠ a := hk 8 (by decide)
    refine r_callS (As := [.ref (B 8), .int (J 0), .int (J (S 7 3))]) dJ0_init_db425_32 s_J0_54 (s_copyR κ _ (f := S 8) (by rw [upA_ne hn8]; exact cs_arr hB (k9 := 8) (by decide) rfl) (by omega) (by omega) hL.2) (by decide) rfl rfl (cat_le rfl) (by decide) (by decide) (fun v h9 hq9 => ?_) (fun _ _ hx => hx.elim)
    obtain ⟨b, g, rfl, hb0, rfl, hg⟩ := hq9
    have hba : b ≠ a := fun e => by rw [e, upA_same] at hb0; cases hb0
    rw [upA_ne hba] at hb0
    refine r_putfield dJ0_init_db425_35 f_J0_9 p_J0_9 ff_0_0 (by rw [upA_ne (Ne.symm hba)]; exact upA_same) rfl rfl (Nat.le_of_ble_eq_true rfl) rfl ?_
    refine r_goto (tgt := 97) dJ0_init_db425_38 (by decide) ?_
    exact r_ret dJ0_init_db425_97 rfl ⟨rfl, b, g, hba, hb0, upA_comm (Ne.symm hba), hg⟩
set_option maxRecDepth 100000 in
set_option maxHeartbeats 4000000 in
theorem s_init1 (κ : KP) {B : Nat → Nat} {S : CST} (h : AH) (hB : BA B) (hL : LtB S) {a : Nat} {w0 w1 w2 w3 : Value} (ha : cset B S h a = some (true, .inr (0, [w0, w1, w2, w3]))) (hk : ∀ k ∈ bids, B k ≠ a) : MM κ mJ0_init_81219 6 1 5 [.ref a, .ref (B 7)] (cset B S h) (fun v h' => v = none ∧ ∃ (b : Nat) (g : Int → Int), b ≠ a ∧ cset B S h b = none ∧ h' = upA (upA (cset B S h) b (true, .inl (.byte, (S 7 3).toNat, iv g))) a (true, .inr (0, [.ref b, .int (J 0), w2, w3])) ∧ ∀ i : Int, 0 ≤ i → i < S 7 3 → g i = S 8 i) NoX := by
  refine mm_of (L := [some _, some _]) (by decide +kernel) rfl rfl (Nat.le_of_ble_eq_true rfl) rfl ?_
  refine r_al0 dJ0_init_81219_0 ?_
  refine r_al1 dJ0_init_81219_1 ?_
  refine r_null dJ0_init_81219_2 ?_
  refine r_callI (As := [.ref (B 7), .null]) dJ0_init_81219_3 i_J0_489 (s_init0 κ h hB hL ha hk) (by decide) rfl rfl (cat_le rfl) (by decide) (by decide) (fun v h9 hq9 => ?_)
  obtain ⟨rfl, hq⟩ := hq9
  exact r_ret dJ0_init_81219_6 rfl ⟨rfl, hq⟩
set_option maxRecDepth 100000 in
set_option maxHeartbeats 4000000 in
theorem s_toStr (κ : KP) {B : Nat → Nat} {S : CST} (h : AH) (hB : BA B) (hL : LtB S) : MM κ mJ4_toString_0e30d 7 2 9 [.ref (B 7)] (cset B S h) (fun v h' => ∃ a : Nat, v = some (.ref a) ∧ Ext (cset B S h) h' ∧ StrAt κ h' a (S 7 3).toNat (S 8)) NoX := by
  refine mm_of (L := [some _]) (by decide +kernel) rfl rfl (Nat.le_of_ble_eq_true rfl) rfl ?_
  have hl := hL.1
  refine r_new dJ4_toString_0e30d_0 n_J4_18 (by decide) (by decide) (fun a9 ha9 => ?_)
  have hx0 : Ext (cset B S h) (upA (cset B S h) a9 (true, .inr (0, [.null, .int (J 0), .int (J 0), .int (J 0)]))) := Ext.up ha9
  have hk : ∀ k ∈ bids, B k ≠ a9 := fun k k1 e => by rw [← e, cset_at hB k1] at ha9; cases ha9
  obtain ⟨h8, e8⟩ : ∃ h8, upA (cset B S h) a9 (true, .inr (0, [.null, .int (J 0), .int (J 0), .int (J 0)])) = cset B S h8 := ⟨_, Ext.cs hB hx0⟩
  have hat : cset B S h8 a9 = some (true, .inr (0, [.null, .int (J 0), .int (J 0), .int (J 0)])) := by rw [← e8]; exact upA_same
  rw [e8] at hx0 ⊢
  refine r_dup dJ4_toString_0e30d_3 rfl ?_
  refine r_al0 dJ4_toString_0e30d_4 ?_
  refine r_callI (As := [.ref (B 7)]) dJ4_toString_0e30d_5 i_J4_137 (s_init1 κ h8 hB hL hat hk) (by decide) rfl rfl (cat_le rfl) (by decide) (by decide) (fun v h9 hq9 => ?_)
  obtain ⟨rfl, b, g, hba, hb0, rfl, hg⟩ := hq9
  have hbh : cset B S h b = none := hx0.non hb0
  refine ww_frz1 (a := b) (by rw [upA_ne hba]; exact upA_same) ?_
  refine ww_frz1 (a := a9) (by rw [upA_ne (Ne.symm hba)]; exact upA_same) ?_
  refine r_aret dJ4_toString_0e30d_8 rfl ⟨a9, rfl, fun q c hq => ?_, by omega, fun i i0 i1 => hL.2 i i0 (by omega), Or.inl ⟨b, _, _, upA_same, g, ?_, fun i i0 i1 => hg i i0 (by omega)⟩⟩
  · have q1 : q ≠ a9 := fun e => by rw [e, ha9] at hq; cases hq
    have q2 : q ≠ b := fun e => by rw [e, hbh] at hq; cases hq
    rw [upA_ne q1, upA_ne q2, upA_ne q1, upA_ne q2]
    exact hx0 _ _ hq
  · show upA _ a9 _ b = _
    rw [upA_ne hba]
    exact upA_same
set_option maxRecDepth 100000 in
set_option maxHeartbeats 4000000 in
theorem t_letters (κ : KP) {B : Nat → Nat} {S : CST} (h : AH) (hB : BA B) (hT : RdT S) (n0 : 0 ≤ S 7 3) (n1 : S 7 3 ≤ 16) : MM κ mX7_readLetters 8 2 9 [.ref (B 1)] (cset B S h) (fun v h' => ∃ (a : Nat) (m : Int) (S1 : CST), v = some (.ref a) ∧ h' = cset B S1 h' ∧ Fr B (cset B S h) h' ∧ LtS S S1 m ∧ PLt (S 6) (S 1 1) (S 1 2) m ∧ StrAt κ h' a m.toNat (S1 8)) NoX := by
  refine mm_of (L := [some _, none]) (by decide +kernel) rfl rfl (Nat.le_of_ble_eq_true rfl) rfl ?_
  refine r_al0 dX7_readLetters_0 ?_
  refine b_get dX7_readLetters_1 f_X7_25 hB (by decide) (k9 := 1) rfl rfl ?_
  refine r_iconst dX7_readLetters_4 ?_
  refine r_callV (As := [.int (J 0)]) dX7_readLetters_5 v_X7_85 (cs_obj hB (k9 := 7) (by decide) rfl) (s_set κ h hB n0 n1) (by decide) rfl rfl (cat_le rfl) (Nat.zero_le _) (Nat.zero_le _) (fun v h9 hq9 => ?_) (fun _ _ hx => hx.elim)
  obtain ⟨rfl, S0, rfl, x0, y0⟩ := hq9
  have hI0 : LtS S S0 0 := ⟨x0.mono (by decide), fun i _ => by rw [x0 1 (by decide)], by rw [x0 1 (by decide)]; omega, y0, by decide, by have := hT.2.2.2; omega, fun j j0 j1 => by omega, fun i i0 i1 => by omega⟩
  refine r_iconst dX7_readLetters_8 ?_
  refine r_is1 dX7_readLetters_9 rfl ?_
  refine l_letters κ h hB hT (fun m S1 hI hp => ?_) 6 0 S0 (by omega) hI0
  refine r_al0 dX7_readLetters_64 ?_
  refine b_get dX7_readLetters_65 f_X7_25 hB (by decide) (k9 := 1) rfl rfl ?_
  refine r_callV (As := []) dX7_readLetters_68 v_X7_99 (cs_obj hB (k9 := 7) (by decide) rfl) (s_toStr κ h hB hI.b) (by decide) rfl rfl (cat_le rfl) (by decide) (by decide) (fun v h9 hq9 => ?_) (fun _ _ hx => hx.elim)
  obtain ⟨a, rfl, hx, hs⟩ := hq9
  rw [hI.2.2.2.1] at hs
  exact r_aret dX7_readLetters_71 rfl ⟨a, m, S1, rfl, Ext.cs hB hx, Fr.cs.trans hx.fr, hI, hp, hs⟩
