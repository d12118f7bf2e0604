/-! ===== a leaf is read ===== -/
theorem pdig_rg {T : Int → Int} {n s s' z : Int} (h : pdig T n s = some (s', z)) : 0 ≤ z ∧ z ≤ 99 := by
  unfold pdig at h
  split at h
  · rename_i h1
    have q1 := tb_t.mp h1
    unfold QIn at q1
    split at h
    · rename_i h2
      have q2 := (tb_t.mp h2).2
      unfold QIn at q2
      have e := (Prod.mk.inj (Option.some.inj h)).2
      omega
    · have e := (Prod.mk.inj (Option.some.inj h)).2
      omega
  · cases h
/-- a part that may be left out was tried: z is what it gives (-1: a fault), s' the place -/
def OptR (T : Int → Int) (n c s d s' z : Int) : Prop := (-1 ≤ z ∧ z ≤ 99) ∧ s ≤ s' ∧ s' ≤ n ∧ ((z = -1 ∧ popt T n c s d = .inl s') ∨ (z ≠ -1 ∧ popt T n c s d = .inr (s', z)))
theorem LtS.I {κ : KP} {B : Nat → Nat} {S0 S S1 : CST} {H0 h h1 : AH} {st : List Int} {l : List (Int → Int)} {m : Int} (hB : BA B) (I : RdI κ B S0 H0 (cset B S h) S st l) (hL : LtS S S1 m) (f : Fr B (cset B S h) (cset B S1 h1)) : RdI κ B S0 H0 (cset B S1 h1) S1 st l := by
  have hT1 := (hL.rd I.2.2.2.1).1
  obtain ⟨i1, i2, i3, i4, i5, i6, i7, i8, i9, i10⟩ := I
  obtain ⟨l1, l2, l3, l4, l5, l6, -⟩ := hL
  exact ⟨i1.trans f, (i2.trans l1).mono (by decide), by rw [l2 1 (by decide)]; exact i3, hT1, by rw [l1 10 (by decide)]; exact i5, by rw [l2 7 (by decide)]; exact i6, i7, i8.fx (f.fx hB) (l2 5 (by decide)) (l1 9 (by decide)), by omega, by omega⟩
set_option maxRecDepth 100000 in
set_option maxHeartbeats 4000000 in
theorem l_opt60 (κ : KP) {B : Nat → Nat} {S : CST} (h : AH) (hB : BA B) (hT : RdT S) {k n : Nat} {Q : Option Value → AH → Prop} {L : List (Option Value)} (KK : ∀ z s', OptR (S 6) (S 1 1) 60 (S 1 2) 60 s' z → WW κ mX7_readLeaf 9 k n Q NoX 44 (some (.ref (B 1)) :: L) (.int (J z) :: []) (cset B (updm S 1 2 s') h)) : WW κ mX7_readLeaf 9 k n Q NoX 26 (some (.ref (B 1)) :: L) [] (cset B S h) := by
  have ht := hT.2.2
  refine r_al0 dX7_readLeaf_26 ?_
  refine r_bipush dX7_readLeaf_27 (by decide) ?_
  refine r_callV (As := [.int (J 60)]) dX7_readLeaf_29 v_X7_58 (cs_obj hB (k9 := 1) (by decide) rfl) (t_take κ h hB hT (c := 60) (by decide) (by decide)) (by decide) rfl rfl (cat_le rfl) (Nat.zero_le _) (Nat.zero_le _) (fun v h9 hq9 => ?_) (fun _ _ hx => hx.elim)
  obtain ⟨r5, S5, rfl, rb5, rfl, hq5⟩ := hq9
  show WW κ _ _ _ _ _ _ _ _ (.int (J r5) :: []) _
  refine r_if_eq (tgt := 42) dX7_readLeaf_32 (by decide) (by (first | omega | decide)) (fun c_32 => ?_) (fun c_32 => ?_)
  · obtain ⟨hno, e5⟩ : hr S ≠ 60 ∧ S5 = S := by
      rcases hq5 with ⟨q, -⟩ | ⟨-, q1, q2⟩
      · omega
      · exact ⟨q1, q2⟩
    refine r_bipush dX7_readLeaf_42 (by decide) ?_
    have e := KK 60 (S 1 2) ⟨by decide, Int.le_refl _, by omega, Or.inr ⟨by decide, popt_no hno⟩⟩
    rw [at2_self] at e
    rw [e5]
    exact e
  · obtain ⟨h58, hlt2, e5⟩ : hr S = 60 ∧ S 1 2 < S 1 1 ∧ S5 = updm S 1 2 (S 1 2 + 1) := by
      rcases hq5 with ⟨-, q1, q2, q3⟩ | ⟨q, -⟩
      · exact ⟨q1, q2, q3⟩
      · omega
    have hT5 : RdT S5 := by rw [e5]; exact hT.at2 (by omega) (by omega)
    refine r_al0 dX7_readLeaf_35 ?_
    refine r_callV (As := []) dX7_readLeaf_36 v_X7_81 (cs_obj hB (k9 := 1) (by decide) rfl) (t_num κ h hB hT5) (by decide) rfl rfl (cat_le rfl) (Nat.zero_le _) (Nat.zero_le _) (fun v h9 hq9 => ?_) (fun _ _ hx => hx.elim)
    obtain ⟨r36, S36, rfl, rb36, rfl, hq36⟩ := hq9
    show WW κ _ _ _ _ _ _ _ _ (.int (J r36) :: []) _
    refine r_goto (tgt := 44) dX7_readLeaf_39 (by decide) ?_
    rw [e5, at2_k (k := 6) (by decide), at2_i (i := 1) (by decide), at2_2] at hq36
    rcases hq36 with ⟨q1, q2, q3⟩ | ⟨s', q1, q2, q3, q4⟩
    · rw [q3, q1]
      exact KK (-1) (S 1 2 + 1) ⟨by decide, by omega, by omega, Or.inl ⟨rfl, popt_e h58 q2⟩⟩
    · rw [q2, at2_at]
      have hz := pdig_rg q1
      exact KK r36 s' ⟨by omega, by omega, by omega, Or.inr ⟨by omega, popt_y h58 q1⟩⟩
set_option maxRecDepth 100000 in
set_option maxHeartbeats 4000000 in
theorem l_opt62 (κ : KP) {B : Nat → Nat} {S : CST} (h : AH) (hB : BA B) (hT : RdT S) {k n : Nat} {Q : Option Value → AH → Prop} {L : List (Option Value)} (KK : ∀ z s', OptR (S 6) (S 1 1) 62 (S 1 2) 10 s' z → WW κ mX7_readLeaf 9 k n Q NoX 70 (some (.ref (B 1)) :: L) (.int (J z) :: []) (cset B (updm S 1 2 s') h)) : WW κ mX7_readLeaf 9 k n Q NoX 52 (some (.ref (B 1)) :: L) [] (cset B S h) := by
  have ht := hT.2.2
  refine r_al0 dX7_readLeaf_52 ?_
  refine r_bipush dX7_readLeaf_53 (by decide) ?_
  refine r_callV (As := [.int (J 62)]) dX7_readLeaf_55 v_X7_58 (cs_obj hB (k9 := 1) (by decide) rfl) (t_take κ h hB hT (c := 62) (by decide) (by decide)) (by decide) rfl rfl (cat_le rfl) (Nat.zero_le _) (Nat.zero_le _) (fun v h9 hq9 => ?_) (fun _ _ hx => hx.elim)
  obtain ⟨r5, S5, rfl, rb5, rfl, hq5⟩ := hq9
  show WW κ _ _ _ _ _ _ _ _ (.int (J r5) :: []) _
  refine r_if_eq (tgt := 68) dX7_readLeaf_58 (by decide) (by (first | omega | decide)) (fun c_58 => ?_) (fun c_58 => ?_)
  · obtain ⟨hno, e5⟩ : hr S ≠ 62 ∧ S5 = S := by
      rcases hq5 with ⟨q, -⟩ | ⟨-, q1, q2⟩
      · omega
      · exact ⟨q1, q2⟩
    refine r_bipush dX7_readLeaf_68 (by decide) ?_
    have e := KK 10 (S 1 2) ⟨by decide, Int.le_refl _, by omega, Or.inr ⟨by decide, popt_no hno⟩⟩
    rw [at2_self] at e
    rw [e5]
    exact e
  · obtain ⟨h58, hlt2, e5⟩ : hr S = 62 ∧ S 1 2 < S 1 1 ∧ S5 = updm S 1 2 (S 1 2 + 1) := by
      rcases hq5 with ⟨-, q1, q2, q3⟩ | ⟨q, -⟩
      · exact ⟨q1, q2, q3⟩
      · omega
    have hT5 : RdT S5 := by rw [e5]; exact hT.at2 (by omega) (by omega)
    refine r_al0 dX7_readLeaf_61 ?_
    refine r_callV (As := []) dX7_readLeaf_62 v_X7_81 (cs_obj hB (k9 := 1) (by decide) rfl) (t_num κ h hB hT5) (by decide) rfl rfl (cat_le rfl) (Nat.zero_le _) (Nat.zero_le _) (fun v h9 hq9 => ?_) (fun _ _ hx => hx.elim)
    obtain ⟨r62, S62, rfl, rb62, rfl, hq62⟩ := hq9
    show WW κ _ _ _ _ _ _ _ _ (.int (J r62) :: []) _
    refine r_goto (tgt := 70) dX7_readLeaf_65 (by decide) ?_
    rw [e5, at2_k (k := 6) (by decide), at2_i (i := 1) (by decide), at2_2] at hq62
    rcases hq62 with ⟨q1, q2, q3⟩ | ⟨s', q1, q2, q3, q4⟩
    · rw [q3, q1]
      exact KK (-1) (S 1 2 + 1) ⟨by decide, by omega, by omega, Or.inl ⟨rfl, popt_e h58 q2⟩⟩
    · rw [q2, at2_at]
      have hz := pdig_rg q1
      exact KK r62 s' ⟨by omega, by omega, by omega, Or.inr ⟨by omega, popt_y h58 q1⟩⟩
set_option maxRecDepth 100000 in
set_option maxHeartbeats 4000000 in
theorem t_leaf (κ : KP) {B : Nat → Nat} {S0 S : CST} {H0 : AH} (h : AH) (hB : BA B) {st : List Int} {l : List (Int → Int)} (I : RdI κ B S0 H0 (cset B S h) S st l) : MM κ mX7_readLeaf 9 3 15 [.ref (B 1)] (cset B S h) (fun v h' => ∃ (r : Int) (S1 : CST) (l1 : List (Int → Int)) (m : Int), v = some (.int (J r)) ∧ (0 ≤ r ∧ r ≤ 1) ∧ h' = cset B S1 h' ∧ RdI κ B S0 H0 h' S1 st l1 ∧ PLt (S0 6) (S0 1 1) (S 1 2) m ∧ ((r = 0 ∧ pleaf (S0 6) (S0 1 1) (S 1 2) m (par st) st.length = .inl (S1 1 2)) ∨ (r = 1 ∧ ∃ row, pleaf (S0 6) (S0 1 1) (S 1 2) m (par st) st.length = .inr (S1 1 2, row) ∧ l1 = l ++ [row]))) NoX := by
  refine mm_of (L := [some _, none, none, none, none]) (by decide +kernel) rfl rfl (Nat.le_of_ble_eq_true rfl) rfl ?_
  have hT := I.2.2.2.1
  have i10 := I.2.2.2.2.2.2.2.2.2
  have i9 := I.2.2.2.2.2.2.2.2.1
  have i7 := I.2.2.2.2.2.2.1
  have t6 := I.T6
  have t1 := I.2.2.1
  refine r_al0 dX7_readLeaf_0 ?_
  refine r_callV (As := []) dX7_readLeaf_1 v_X7_72 (cs_obj hB (k9 := 1) (by decide) rfl) (t_letters κ h hB hT i10.1 i10.2) (by decide) rfl rfl (cat_le rfl) (by decide) (by decide) (fun v h9 hq9 => ?_) (fun _ _ hx => hx.elim)
  obtain ⟨as, m, S1, rfl, e9, f9, hL, hp, hs⟩ := hq9
  rw [e9] at f9 hs
  show WW κ _ _ _ _ _ _ _ _ (.ref as :: []) h9
  rw [e9]
  have I1 := LtS.I hB I hL f9
  have hT1 := I1.2.2.2.1
  have hm5 := hL.2.2.2.2.1
  have q3 := hL.2.2.1
  refine r_as1 dX7_readLeaf_4 rfl ?_
  refine r_al1 dX7_readLeaf_5 ?_
  refine r_sP0 dX7_readLeaf_6 v_X7_76 hs (c_isEmpty κ _ hs) (by decide) rfl ?_
  refine r_ifT_eq (tgt := 14) dX7_readLeaf_9 (by decide) (fun c_9 => ?_) (fun c_9 => ?_)
  · have hm : m ≠ 0 := by omega
    refine r_al0 dX7_readLeaf_14 ?_
    refine r_callV (As := []) dX7_readLeaf_15 v_X7_81 (cs_obj hB (k9 := 1) (by decide) rfl) (t_num κ _ hB hT1) (by decide) rfl rfl (cat_le rfl) (Nat.zero_le _) (Nat.zero_le _) (fun v h9 hq9 => ?_) (fun _ _ hx => hx.elim)
    obtain ⟨r15, S15, rfl, rb15, rfl, hq15⟩ := hq9
    show WW κ _ _ _ _ _ _ _ _ (.int (J r15) :: []) _
    rw [I1.T6, I1.2.2.1, q3] at hq15
    refine r_is2 dX7_readLeaf_18 rfl ?_
    refine r_il2 dX7_readLeaf_19 ?_
    refine r_iconst dX7_readLeaf_20 ?_
    refine r_icmp_ne (tgt := 26) dX7_readLeaf_21 (by decide) (by (first | omega | decide)) (by (first | omega | decide)) (fun c_21 => ?_) (fun c_21 => ?_)
    · obtain ⟨s1, hd1, e15, hs1, hs2⟩ : ∃ s1, pdig (S0 6) (S0 1 1) (S 1 2 + m) = some (s1, r15) ∧ S15 = updm S1 1 2 s1 ∧ S 1 2 + m < s1 ∧ s1 ≤ S0 1 1 := by
        rcases hq15 with ⟨q, -⟩ | ⟨s', q1, q2, q4, q5⟩
        · exact absurd q c_21
        · exact ⟨s', q1, q2, q4, by have := I1.2.2.1; omega⟩
      rw [e15]
      have I2 := I1.mv hB (s := s1) (by omega) (by have := I1.2.2.1; omega)
      have k1 := I1.2.2.1
      refine l_opt60 κ _ hB I2.2.2.2.1 (fun z2 s2 ho1 => ?_)
      rw [I2.T6, I2.2.2.1, at2_2] at ho1
      have hb1 := ho1.1
      rw [at2_at]
      refine r_is3 dX7_readLeaf_44 rfl ?_
      refine r_il3 dX7_readLeaf_45 ?_
      refine r_iconst dX7_readLeaf_46 ?_
      refine r_icmp_ne (tgt := 52) dX7_readLeaf_47 (by decide) (by (first | omega | decide)) (by (first | omega | decide)) (fun c_47 => ?_) (fun c_47 => ?_)
      · obtain ⟨-, o1, o2, ⟨o3, -⟩ | ⟨-, hy1⟩⟩ := ho1
        · exact absurd o3 c_47
        have I3 := I1.mv hB (s := s2) (by omega) (by omega)
        refine l_opt62 κ _ hB I3.2.2.2.1 (fun z3 s3 ho2 => ?_)
        rw [I3.T6, I3.2.2.1, at2_2] at ho2
        have hb2 := ho2.1
        rw [at2_at]
        refine r_is4 dX7_readLeaf_70 rfl ?_
        refine r_il4 dX7_readLeaf_72 ?_
        refine r_iconst dX7_readLeaf_74 ?_
        refine r_icmp_ne (tgt := 80) dX7_readLeaf_75 (by decide) (by (first | omega | decide)) (by (first | omega | decide)) (fun c_75 => ?_) (fun c_75 => ?_)
        · obtain ⟨-, o4, o5, ⟨o6, -⟩ | ⟨-, hy2⟩⟩ := ho2
          · exact absurd o6 c_75
          have I4 := I1.mv hB (s := s3) (by omega) (by omega)
          obtain ⟨j1, j2, j3, j4, j5, j6, j7, j8, j9, j10⟩ := id I4
          have jl := j8.1
          have jt := j4.2.2
          have jt1 := j4.1
          rw [at2_2] at jt j9
          have hs' : StrAt κ (cset B (updm S1 1 2 s3) h9) as m.toNat (fun i => S0 6 (S 1 2 + i)) := StrAt.cong (fun i i0 i1 => by rw [hL.2.2.2.2.2.2.1 i i0 (by omega), t6]) (hs.fx (cfxF hB))
          refine r_al0 dX7_readLeaf_80 ?_
          refine r_al1 dX7_readLeaf_81 ?_
          refine r_il2 dX7_readLeaf_82 ?_
          refine r_il3 dX7_readLeaf_83 ?_
          refine r_il4 dX7_readLeaf_84 ?_
          refine r_callV (As := [.ref as, .int (J r15), .int (J z2), .int (J z3)]) dX7_readLeaf_86 v_X7_68 (cs_obj hB (k9 := 1) (by decide) rfl) (t_addB κ h9 hB hs' j5 j6 j7 (RwN.leaf hm5.1 hm5.2) (by omega) (by omega)) (by decide) rfl rfl (cat_le rfl) (by decide) (by decide) (fun v h8 hq8 => ?_) (fun _ _ hx => hx.elim)
          obtain ⟨rfl, a8, e8, f8, b8⟩ := hq8
          rw [e8] at f8 b8
          show WW κ _ _ _ _ _ _ _ _ [] h8
          rw [e8]
          have I5 := I4.add hB f8 b8 (by rw [at2_2]; omega)
          refine r_iconst dX7_readLeaf_89 ?_
          refine r_iret dX7_readLeaf_90 (ty := .boolean) rfl (by decide) ⟨1, _, _, m, rfl, by decide, cset_cset.symm, I5, by rw [← t6, ← t1]; exact hp, Or.inr ⟨rfl, _, ?_, rfl⟩⟩
          rw [show updm (updm (updm S1 1 2 s3) 9 (updm S1 1 2 s3 1 5) (a8 : Int)) 1 5 (updm S1 1 2 s3 1 5 + 1) 1 2 = s3 from by rw [updm_ne (by decide), updm_k (by decide), at2_2], pleaf_3 hm hd1 hy1 hy2]
        · refine r_iconst dX7_readLeaf_78 ?_
          obtain ⟨-, o1, o2, ⟨-, o3⟩ | ⟨o3, -⟩⟩ := ho2
          · refine r_iret dX7_readLeaf_79 (ty := .boolean) rfl (by decide) ⟨0, _, l, m, rfl, by decide, cset_cset.symm, (I1.mv hB (by omega) (by omega)), by rw [← t6, ← t1]; exact hp, Or.inl ⟨rfl, ?_⟩⟩
            rw [at2_2]
            exact pleaf_2 hm hd1 hy1 o3
          · exact absurd c_75 o3
      · refine r_iconst dX7_readLeaf_50 ?_
        obtain ⟨-, o1, o2, ⟨-, o3⟩ | ⟨o3, -⟩⟩ := ho1
        · refine r_iret dX7_readLeaf_51 (ty := .boolean) rfl (by decide) ⟨0, _, l, m, rfl, by decide, cset_cset.symm, (I1.mv hB (by omega) (by omega)), by rw [← t6, ← t1]; exact hp, Or.inl ⟨rfl, ?_⟩⟩
          rw [at2_2]
          exact pleaf_1 hm hd1 o3
        · exact absurd c_47 o3
    · refine r_iconst dX7_readLeaf_24 ?_
      obtain ⟨hn, rfl⟩ : pdig (S0 6) (S0 1 1) (S 1 2 + m) = none ∧ S15 = S1 := by
        rcases hq15 with ⟨-, q1, q2⟩ | ⟨s', q1, q2⟩
        · exact ⟨q1, q2⟩
        · have := pdig_rg q1
          omega
      refine r_iret dX7_readLeaf_25 (ty := .boolean) rfl (by decide) ⟨0, _, l, m, rfl, by decide, cset_cset.symm, I1, by rw [← t6, ← t1]; exact hp, Or.inl ⟨rfl, ?_⟩⟩
      rw [pleaf_d hm hn, q3]
  · refine r_iconst dX7_readLeaf_12 ?_
    refine r_iret dX7_readLeaf_13 (ty := .boolean) rfl (by decide) ⟨0, _, l, m, rfl, by decide, cset_cset.symm, I1, by rw [← t6, ← t1]; exact hp, Or.inl ⟨rfl, ?_⟩⟩
    have hm0 : m = 0 := by omega
    rw [pleaf_0 hm0, q3]
    congr 1
    omega
