/-! ===== the reader's StringBuilder ===== -/
theorem shr_16 : J ((16 : Nat) : Int) >>> (J 0 &&& 31) = J 16 := by decide
theorem nar_by {z : Int} (h0 : 0 ≤ z) (h1 : z < 128) : narrow .byte (.int (J z)) = .int (J z) := by
  have : ∀ n : Fin 128, narrow .byte (.int (J (n : Nat))) = .int (J (n : Nat)) := by decide +kernel
  have := this ⟨z.toNat, by omega⟩
  simpa [Int.toNat_of_nonneg h0] using this
set_option maxRecDepth 100000 in
set_option maxHeartbeats 4000000 in
theorem s_isLat (κ : KP) {B : Nat → Nat} {S : CST} (h : AH) (hB : BA B)  : PM κ mJ5_isLatin1_aae02 1 [.ref (B 7)] (cset B S h) (.int (J 1)) := by
  refine mm_of (L := [some _]) (by decide +kernel) rfl rfl (Nat.le_of_ble_eq_true rfl) rfl ?_
  refine r_compact dJ5_isLatin1_aae02_0 gs_J5_18 (Or.inl rfl) ?_
  refine r_ifB_eq (tgt := 17) dJ5_isLatin1_aae02_3 (by decide) (fun c => absurd c (by decide)) (fun _ => ?_)
  refine r_al0 dJ5_isLatin1_aae02_6 ?_
  refine b_get dJ5_isLatin1_aae02_7 f_J5_22 hB (by decide) (k9 := 7) rfl rfl ?_
  refine r_if_ne (tgt := 17) dJ5_isLatin1_aae02_10 (by decide) (by decide) (fun c => absurd rfl c) (fun _ => ?_)
  refine r_iconst dJ5_isLatin1_aae02_13 ?_
  refine r_goto (tgt := 18) dJ5_isLatin1_aae02_14 (by decide) ?_
  exact r_iret dJ5_isLatin1_aae02_18 (ty := .boolean) rfl (by decide) ⟨rfl, rfl⟩
set_option maxRecDepth 100000 in
set_option maxHeartbeats 4000000 in
theorem s_len5 (κ : KP) {B : Nat → Nat} {S : CST} (h : AH) (hB : BA B)  : PM κ mJ5_length_8abf5 1 [.ref (B 7)] (cset B S h) (.int (J (S 7 3))) := by
  refine mm_of (L := [some _]) (by decide +kernel) rfl rfl (Nat.le_of_ble_eq_true rfl) rfl ?_
  refine r_al0 dJ5_length_8abf5_0 ?_
  refine b_get dJ5_length_8abf5_1 f_J5_79 hB (by decide) (k9 := 7) rfl rfl ?_
  refine r_iret dJ5_length_8abf5_4 (ty := .int) rfl (rfl) ?_
  exact ⟨rfl, rfl⟩
set_option maxRecDepth 100000 in
set_option maxHeartbeats 4000000 in
theorem s_val (κ : KP) {B : Nat → Nat} {S : CST} (h : AH) (hB : BA B)  : PM κ mJ5_getValue_6d5f1 1 [.ref (B 7)] (cset B S h) (.ref (B 8)) := by
  refine mm_of (L := [some _]) (by decide +kernel) rfl rfl (Nat.le_of_ble_eq_true rfl) rfl ?_
  refine r_al0 dJ5_getValue_6d5f1_0 ?_
  refine b_get dJ5_getValue_6d5f1_1 f_J5_15 hB (by decide) (k9 := 7) rfl rfl ?_
  exact r_aretA dJ5_getValue_6d5f1_4 rfl ⟨rfl, rfl⟩
set_option maxRecDepth 100000 in
set_option maxHeartbeats 4000000 in
theorem s_ens (κ : KP) {B : Nat → Nat} {S : CST} (h : AH) (hB : BA B) {z : Int} (z0 : 0 ≤ z) (z1 : z ≤ 16) : MM κ mJ5_ensureCapacityInternal_d00df 1 0 0 [.ref (B 7), .int (J z)] (cset B S h) (fun v h' => v = none ∧ h' = cset B S h) NoX := by
  refine mm_of (L := [some _, some _, none]) (by decide +kernel) rfl rfl (Nat.le_of_ble_eq_true rfl) rfl ?_
  refine r_al0 dJ5_ensureCapacityInternal_d00df_0 ?_
  refine b_get dJ5_ensureCapacityInternal_d00df_1 f_J5_15 hB (by decide) (k9 := 7) rfl rfl ?_
  refine r_alenF dJ5_ensureCapacityInternal_d00df_4 (cs_arr hB (k9 := 8) (by decide) rfl) (by decide) rfl ?_
  refine r_al0 dJ5_ensureCapacityInternal_d00df_5 ?_
  refine b_get dJ5_ensureCapacityInternal_d00df_6 f_J5_22 hB (by decide) (k9 := 7) rfl rfl ?_
  refine r_ishr dJ5_ensureCapacityInternal_d00df_9 ?_
  rw [shr_16]
  refine r_is2 dJ5_ensureCapacityInternal_d00df_10 rfl ?_
  refine r_il1 dJ5_ensureCapacityInternal_d00df_11 ?_
  refine r_il2 dJ5_ensureCapacityInternal_d00df_12 ?_
  refine r_isub dJ5_ensureCapacityInternal_d00df_13 ?_
  refine r_if_le (tgt := 38) dJ5_ensureCapacityInternal_d00df_14 (by decide) (by (first | omega | decide)) (fun c_14 => ?_) (fun c_14 => ?_)
  · exact r_ret dJ5_ensureCapacityInternal_d00df_38 rfl ⟨rfl, rfl⟩
  · exact absurd c_14 (by omega)
set_option maxRecDepth 100000 in
set_option maxHeartbeats 4000000 in
theorem s_set5 (κ : KP) {B : Nat → Nat} {S : CST} (h : AH) (hB : BA B) (n0 : 0 ≤ S 7 3) (n1 : S 7 3 ≤ 16) : MM κ mJ5_setLength_d00df 2 0 0 [.ref (B 7), .int (J 0)] (cset B S h) (fun v h' => v = none ∧ ∃ S' : CST, h' = cset B S' h ∧ SK [7] S S' ∧ S' 7 3 = 0) NoX := by
  refine mm_of (L := [some _, some _]) (by decide +kernel) rfl rfl (Nat.le_of_ble_eq_true rfl) rfl ?_
  refine r_il1 dJ5_setLength_d00df_0 ?_
  refine r_if_ge (tgt := 13) dJ5_setLength_d00df_1 (by decide) (by (first | omega | decide)) (fun c_1 => ?_) (fun c_1 => ?_)
  · refine r_al0 dJ5_setLength_d00df_13 ?_
    refine r_il1 dJ5_setLength_d00df_14 ?_
    refine r_callP (As := [.int (J (0))]) dJ5_setLength_d00df_15 z_J5_100 (cs_obj hB (k9 := 7) (by decide) rfl) (s_ens κ h hB (by omega) (by omega)) (by decide) rfl rfl (cat_le rfl) (Nat.zero_le _) (Nat.zero_le _) (fun v h9 hq9 => ?_)
    obtain ⟨rfl, rfl⟩ := hq9
    refine r_al0 dJ5_setLength_d00df_18 ?_
    refine b_get dJ5_setLength_d00df_19 f_J5_79 hB (by decide) (k9 := 7) rfl rfl ?_
    refine r_il1 dJ5_setLength_d00df_22 ?_
    refine r_icmp_ge (tgt := 63) dJ5_setLength_d00df_23 (by decide) (by (first | omega | decide)) (by (first | omega | decide)) (fun c_23 => ?_) (fun c_23 => ?_)
    · refine r_al0 dJ5_setLength_d00df_63 ?_
      refine b_get dJ5_setLength_d00df_64 f_J5_79 hB (by decide) (k9 := 7) rfl rfl ?_
      refine r_il1 dJ5_setLength_d00df_67 ?_
      refine r_icmp_le (tgt := 76) dJ5_setLength_d00df_68 (by decide) (by (first | omega | decide)) (by (first | omega | decide)) (fun c_68 => ?_) (fun c_68 => ?_)
      · refine r_al0 dJ5_setLength_d00df_76 ?_
        refine r_il1 dJ5_setLength_d00df_77 ?_
        refine b_put (k9 := 7) (i9 := 3) (v9 := 0) dJ5_setLength_d00df_78 f_J5_79 p_J5_79 (ff_1_3 _) hB (by decide) rfl rfl rfl rfl rfl ?_
        first | exact r_ret dJ5_setLength_d00df_81 rfl ⟨rfl, _, rfl, (SK.rf.up (by decide)).up (by decide), updm_at⟩ | exact r_ret dJ5_setLength_d00df_81 rfl ⟨rfl, _, rfl, SK.rf.up (by decide), updm_at⟩
      · refine r_al0 dJ5_setLength_d00df_71 ?_
        refine r_iconst dJ5_setLength_d00df_72 ?_
        refine b_put (k9 := 7) (i9 := 2) (v9 := 1) dJ5_setLength_d00df_73 f_J5_73 p_J5_73 (ff_1_2 _) hB (by decide) rfl (by decide) (by decide) rfl rfl ?_
        refine r_al0 dJ5_setLength_d00df_76 ?_
        refine r_il1 dJ5_setLength_d00df_77 ?_
        refine b_put (k9 := 7) (i9 := 3) (v9 := 0) dJ5_setLength_d00df_78 f_J5_79 p_J5_79 (ff_1_3 _) hB (by decide) rfl rfl rfl rfl rfl ?_
        first | exact r_ret dJ5_setLength_d00df_81 rfl ⟨rfl, _, rfl, (SK.rf.up (by decide)).up (by decide), updm_at⟩ | exact r_ret dJ5_setLength_d00df_81 rfl ⟨rfl, _, rfl, SK.rf.up (by decide), updm_at⟩
    · exact absurd c_23 (by omega)
  · exact absurd c_1 (by decide)
set_option maxRecDepth 100000 in
set_option maxHeartbeats 4000000 in
theorem s_canE (κ : KP) (h : AH) {c : Int} (c0 : 0 ≤ c) (c1 : c < 128) : PM κ mJ1_canEncode_fc78d 1 [.int (J c)] h (.int (J (bI (tb True)))) := by
  refine mm_of (L := [some _]) (by decide +kernel) rfl rfl (Nat.le_of_ble_eq_true rfl) rfl ?_
  refine r_il0 dJ1_canEncode_fc78d_0 ?_
  refine r_sipush dJ1_canEncode_fc78d_1 (by decide) ?_
  refine r_icmp_gt (tgt := 11) dJ1_canEncode_fc78d_4 (by decide) (by (first | omega | decide)) (by (first | omega | decide)) (fun c_4 => ?_) (fun c_4 => ?_)
  · exact absurd c_4 (by omega)
  · refine r_iconst dJ1_canEncode_fc78d_7 ?_
    refine r_goto (tgt := 12) dJ1_canEncode_fc78d_8 (by decide) ?_
    refine r_iret dJ1_canEncode_fc78d_12 (ty := .boolean) rfl (by decide) ?_
    exact ⟨ret_t trivial, rfl⟩
set_option maxRecDepth 100000 in
set_option maxHeartbeats 4000000 in
theorem s_app5 (κ : KP) {B : Nat → Nat} {S : CST} (h : AH) (hB : BA B) {c : Int} (c0 : 0 ≤ c) (c1 : c < 128) (n0 : 0 ≤ S 7 3) (n1 : S 7 3 < 16) : MM κ mJ5_append_3fe6f 2 0 0 [.ref (B 7), .int (J c)] (cset B S h) (fun v h' => v = some (.ref (B 7)) ∧ h' = cset B (updm (updm S 7 3 (S 7 3 + 1)) 8 (S 7 3) c) h) NoX := by
  refine mm_of (L := [some _, some _]) (by decide +kernel) rfl rfl (Nat.le_of_ble_eq_true rfl) rfl ?_
  refine r_al0 dJ5_append_3fe6f_0 ?_
  refine r_al0 dJ5_append_3fe6f_1 ?_
  refine b_get dJ5_append_3fe6f_2 f_J5_79 hB (by decide) (k9 := 7) rfl rfl ?_
  refine r_iconst dJ5_append_3fe6f_5 ?_
  refine r_iadd dJ5_append_3fe6f_6 ?_
  refine r_callP (As := [.int (J (S 7 3 + 1))]) dJ5_append_3fe6f_7 z_J5_100 (cs_obj hB (k9 := 7) (by decide) rfl) (s_ens κ h hB (by omega) (by omega)) (by decide) rfl rfl (cat_le rfl) (Nat.zero_le _) (Nat.zero_le _) (fun v h9 hq9 => ?_)
  obtain ⟨rfl, rfl⟩ := hq9
  refine r_al0 dJ5_append_3fe6f_10 ?_
  refine r_callVP0 dJ5_append_3fe6f_11 v_J5_83_1 (cs_obj hB (k9 := 7) (by decide) rfl) (s_isLat κ h hB) (by decide) rfl ?_
  refine r_if_eq (tgt := 45) dJ5_append_3fe6f_14 (by decide) (by (first | omega | decide)) (fun c_14 => ?_) (fun c_14 => ?_)
  · exact absurd c_14 (by decide)
  · refine r_il1 dJ5_append_3fe6f_17 ?_
    refine r_callSP1 dJ5_append_3fe6f_18 s_J5_191 (s_canE κ _ c0 c1) (by decide) rfl ?_
    refine r_ifT_eq (tgt := 45) dJ5_append_3fe6f_21 (by decide) (fun c_21 => ?_) (fun c_21 => ?_)
    · exact absurd trivial c_21
    · refine r_al0 dJ5_append_3fe6f_24 ?_
      refine b_get dJ5_append_3fe6f_25 f_J5_15 hB (by decide) (k9 := 7) rfl rfl ?_
      refine r_al0 dJ5_append_3fe6f_28 ?_
      refine r_dup dJ5_append_3fe6f_29 rfl ?_
      refine b_get dJ5_append_3fe6f_30 f_J5_79 hB (by decide) (k9 := 7) rfl rfl ?_
      refine r_dup_x1 dJ5_append_3fe6f_33 rfl rfl ?_
      refine r_iconst dJ5_append_3fe6f_34 ?_
      refine r_iadd dJ5_append_3fe6f_35 ?_
      refine b_put (k9 := 7) (i9 := 3) (v9 := S 7 3 + 1) dJ5_append_3fe6f_36 f_J5_79 p_J5_79 (ff_1_3 _) hB (by decide) rfl rfl rfl rfl rfl ?_
      refine r_il1 dJ5_append_3fe6f_39 ?_
      refine r_i2b dJ5_append_3fe6f_40 ?_
      rw [by_i2b c0 c1]
      refine b_bast (k9 := 8) dJ5_append_3fe6f_41 hB (by decide) (fun _ => rfl) (by omega) (by omega) (by omega) (nar_by c0 c1) ?_
      refine r_goto (tgt := 75) dJ5_append_3fe6f_42 (by decide) ?_
      refine r_al0 dJ5_append_3fe6f_75 ?_
      exact r_aret dJ5_append_3fe6f_76 rfl ⟨rfl, rfl⟩
set_option maxRecDepth 100000 in
set_option maxHeartbeats 4000000 in
theorem s_ch5 (κ : KP) {B : Nat → Nat} {S : CST} (h : AH) (hB : BA B) {i : Int} (i0 : 0 ≤ i) (i1 : i < S 7 3) (n1 : S 7 3 ≤ 16) (b0 : 0 ≤ S 8 i) (b1 : S 8 i < 128) : PM κ mJ5_charAt_5068e 3 [.ref (B 7), .int (J i)] (cset B S h) (.int (J (S 8 i))) := by
  refine mm_of (L := [some _, some _, none, none, none]) (by decide +kernel) rfl rfl (Nat.le_of_ble_eq_true rfl) rfl ?_
  refine r_al0 dJ5_charAt_5068e_0 ?_
  refine b_get dJ5_charAt_5068e_1 f_J5_22 hB (by decide) (k9 := 7) rfl rfl ?_
  refine r_is2 dJ5_charAt_5068e_4 rfl ?_
  refine r_al0 dJ5_charAt_5068e_5 ?_
  refine b_get dJ5_charAt_5068e_6 f_J5_15 hB (by decide) (k9 := 7) rfl rfl ?_
  refine r_as3 dJ5_charAt_5068e_9 rfl ?_
  refine r_al0 dJ5_charAt_5068e_10 ?_
  refine b_get dJ5_charAt_5068e_11 f_J5_79 hB (by decide) (k9 := 7) rfl rfl ?_
  refine r_al3 dJ5_charAt_5068e_14 ?_
  refine r_alenF dJ5_charAt_5068e_15 (cs_arr hB (k9 := 8) (by decide) rfl) (by decide) rfl ?_
  refine r_il2 dJ5_charAt_5068e_16 ?_
  refine r_ishr dJ5_charAt_5068e_17 ?_
  rw [shr_16]
  refine r_min dJ5_charAt_5068e_18 s_J5_138 (by omega) (by decide) (by decide) rfl ?_
  refine r_is4 dJ5_charAt_5068e_21 rfl ?_
  refine r_il1 dJ5_charAt_5068e_23 ?_
  refine r_il4 dJ5_charAt_5068e_24 ?_
  refine r_callSV2 dJ5_charAt_5068e_26 s_J5_144 (c_sci κ _ i0 (by omega) (by omega)) (by decide) rfl ?_
  refine r_il2 dJ5_charAt_5068e_29 ?_
  refine r_if_ne (tgt := 42) dJ5_charAt_5068e_30 (by decide) (by (first | omega | decide)) (fun c_30 => ?_) (fun c_30 => ?_)
  · exact absurd rfl c_30
  · refine r_al3 dJ5_charAt_5068e_33 ?_
    refine r_il1 dJ5_charAt_5068e_34 ?_
    refine b_bald (k9 := 8) dJ5_charAt_5068e_35 hB (by decide) rfl (by omega) (by omega) (by omega) ?_
    refine r_sipush dJ5_charAt_5068e_36 (by decide) ?_
    refine r_iand dJ5_charAt_5068e_39 ?_
    refine r_i2c dJ5_charAt_5068e_40 ?_
    rw [by_and b0 b1]
    exact r_iret dJ5_charAt_5068e_41 (ty := .char) rfl (nar_c b0 b1) ⟨rfl, rfl⟩
set_option maxRecDepth 100000 in
set_option maxHeartbeats 4000000 in
theorem s_set (κ : KP) {B : Nat → Nat} {S : CST} (h : AH) (hB : BA B) (n0 : 0 ≤ S 7 3) (n1 : S 7 3 ≤ 16) : MM κ mJ4_setLength_d00df 3 0 0 [.ref (B 7), .int (J 0)] (cset B S h) (fun v h' => v = none ∧ ∃ S' : CST, h' = cset B S' h ∧ SK [7] S S' ∧ S' 7 3 = 0) NoX := by
  refine mm_of (L := [some _, some _]) (by decide +kernel) rfl rfl (Nat.le_of_ble_eq_true rfl) rfl ?_
  refine r_al0 dJ4_setLength_d00df_0 ?_
  refine r_il1 dJ4_setLength_d00df_1 ?_
  refine r_callSU (As := [.int (J 0)]) dJ4_setLength_d00df_2 u_J4_333 (cs_obj hB (k9 := 7) (by decide) rfl) (s_set5 κ h hB n0 n1) (by decide) rfl rfl (cat_le rfl) (Nat.zero_le _) (Nat.zero_le _) (fun v h9 hq9 => ?_)
  obtain ⟨rfl, S9, rfl, x9, y9⟩ := hq9
  exact r_ret dJ4_setLength_d00df_5 rfl ⟨rfl, S9, rfl, x9, y9⟩
set_option maxRecDepth 100000 in
set_option maxHeartbeats 4000000 in
theorem s_app (κ : KP) {B : Nat → Nat} {S : CST} (h : AH) (hB : BA B) {c : Int} (c0 : 0 ≤ c) (c1 : c < 128) (n0 : 0 ≤ S 7 3) (n1 : S 7 3 < 16) : MM κ mJ4_append_cf468 3 0 0 [.ref (B 7), .int (J c)] (cset B S h) (fun v h' => v = some (.ref (B 7)) ∧ h' = cset B (updm (updm S 7 3 (S 7 3 + 1)) 8 (S 7 3) c) h) NoX := by
  refine mm_of (L := [some _, some _]) (by decide +kernel) rfl rfl (Nat.le_of_ble_eq_true rfl) rfl ?_
  refine r_al0 dJ4_append_cf468_0 ?_
  refine r_il1 dJ4_append_cf468_1 ?_
  refine r_callSU (As := [.int (J c)]) dJ4_append_cf468_2 u_J4_50 (cs_obj hB (k9 := 7) (by decide) rfl) (s_app5 κ h hB c0 c1 n0 n1) (by decide) rfl rfl (cat_le rfl) (Nat.zero_le _) (Nat.zero_le _) (fun v h9 hq9 => ?_)
  obtain ⟨rfl, rfl⟩ := hq9
  refine r_pop dJ4_append_cf468_5 rfl ?_
  refine r_al0 dJ4_append_cf468_6 ?_
  exact r_aret dJ4_append_cf468_7 rfl ⟨rfl, rfl⟩
set_option maxRecDepth 100000 in
set_option maxHeartbeats 4000000 in
theorem s_ch (κ : KP) {B : Nat → Nat} {S : CST} (h : AH) (hB : BA B) {i : Int} (i0 : 0 ≤ i) (i1 : i < S 7 3) (n1 : S 7 3 ≤ 16) (b0 : 0 ≤ S 8 i) (b1 : S 8 i < 128) : PM κ mJ4_charAt_5068e 4 [.ref (B 7), .int (J i)] (cset B S h) (.int (J (S 8 i))) := by
  refine mm_of (L := [some _, some _]) (by decide +kernel) rfl rfl (Nat.le_of_ble_eq_true rfl) rfl ?_
  refine r_al0 dJ4_charAt_5068e_0 ?_
  refine r_il1 dJ4_charAt_5068e_1 ?_
  refine r_callSU (As := [.int (J i)]) dJ4_charAt_5068e_2 u_J4_329 (cs_obj hB (k9 := 7) (by decide) rfl) (s_ch5 κ h hB i0 i1 n1 b0 b1) (by decide) rfl rfl (cat_le rfl) (Nat.zero_le _) (Nat.zero_le _) (fun v h9 hq9 => ?_)
  obtain ⟨rfl, rfl⟩ := hq9
  exact r_iret dJ4_charAt_5068e_5 (ty := .char) rfl (nar_c b0 b1) ⟨rfl, rfl⟩
set_option maxRecDepth 100000 in
set_option maxHeartbeats 4000000 in
theorem s_len (κ : KP) {B : Nat → Nat} {S : CST} (h : AH) (hB : BA B)  : PM κ mJ4_length_8abf5 2 [.ref (B 7)] (cset B S h) (.int (J (S 7 3))) := by
  refine mm_of (L := [some _]) (by decide +kernel) rfl rfl (Nat.le_of_ble_eq_true rfl) rfl ?_
  refine r_al0 dJ4_length_8abf5_0 ?_
  refine r_callSU (As := []) dJ4_length_8abf5_1 u_J4_343 (cs_obj hB (k9 := 7) (by decide) rfl) (s_len5 κ h hB) (by decide) rfl rfl (cat_le rfl) (Nat.zero_le _) (Nat.zero_le _) (fun v h9 hq9 => ?_)
  obtain ⟨rfl, rfl⟩ := hq9
  exact r_iret dJ4_length_8abf5_4 (ty := .int) rfl rfl ⟨rfl, rfl⟩
