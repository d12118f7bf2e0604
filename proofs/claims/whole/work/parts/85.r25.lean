/-! ===== the reader as it runs ===== -/
/-- it began with S0 over H0; these groups stand, these rows were read -/
def RdI (κ : KP) (B : Nat → Nat) (S0 : CST) (H0 H : AH) (S : CST) (st : List Int) (l : List (Int → Int)) : Prop := Fr B H0 H ∧ SK [1, 7, 8, 9, 10] S0 S ∧ S 1 1 = S0 1 1 ∧ RdT S ∧ OpS (S 10) st ∧ S 1 7 = st.length ∧ st.length ≤ 3 ∧ RdL κ H S l ∧ 2 * (l.length : Int) ≤ S 1 2 ∧ (0 ≤ S 7 3 ∧ S 7 3 ≤ 16)
theorem RdI.fx {κ : KP} {B : Nat → Nat} {S0 S : CST} {H0 h h' : AH} {st : List Int} {l : List (Int → Int)} (hB : BA B) (I : RdI κ B S0 H0 (cset B S h) S st l) (x : Fr B (cset B S h) (cset B S h')) : RdI κ B S0 H0 (cset B S h') S st l := by
  obtain ⟨i1, i2, i3, i4, i5, i6, i7, i8, i9, i10⟩ := I
  exact ⟨i1.trans x, i2, i3, i4, i5, i6, i7, i8.fx (x.fx hB) rfl rfl, i9, i10⟩
theorem RdI.T6 {κ : KP} {B : Nat → Nat} {S0 S : CST} {H0 H : AH} {st : List Int} {l : List (Int → Int)} (I : RdI κ B S0 H0 H S st l) : S 6 = S0 6 := I.2.1 6 (by decide)
theorem RdI.hr {κ : KP} {B : Nat → Nat} {S0 S : CST} {H0 H : AH} {st : List Int} {l : List (Int → Int)} (I : RdI κ B S0 H0 H S st l) : hre (S0 6) (S0 1 1) (S 1 2) = hr S := by
  show _ = hre (S 6) (S 1 1) (S 1 2)
  rw [I.T6, I.2.2.1]
/-- another place -/
theorem RdI.mv {κ : KP} {B : Nat → Nat} {S0 S : CST} {H0 h : AH} {st : List Int} {l : List (Int → Int)} (hB : BA B) (I : RdI κ B S0 H0 (cset B S h) S st l) {s : Int} (s0 : S 1 2 ≤ s) (s1 : s ≤ S 1 1) : RdI κ B S0 H0 (cset B (updm S 1 2 s) h) (updm S 1 2 s) st l := by
  obtain ⟨i1, i2, i3, i4, i5, i6, i7, i8, i9, i10⟩ := I
  refine ⟨i1.trans Fr.cs, i2.up (by decide), by rw [at2_i (by decide)]; exact i3, i4.at2 (by have := i4.2.2; omega) s1, ?_, ?_, i7, i8.fx (cfxF hB) (at2_i (by decide)) (at2_k (by decide)), ?_, ?_⟩
  · rw [at2_k (by decide)]
    exact i5
  · rw [at2_i (by decide)]
    exact i6
  · rw [at2_2]
    omega
  · rw [at2_k (by decide)]
    exact i10
/-- a block comes -/
theorem RdI.add {κ : KP} {B : Nat → Nat} {S0 S : CST} {H0 h h' : AH} {st : List Int} {l : List (Int → Int)} {a : Nat} {row : Int → Int} (hB : BA B) (I : RdI κ B S0 H0 (cset B S h) S st l) (f : Fr B (cset B S h) (cset B (updm (updm S 9 (S 1 5) (a : Int)) 1 5 (S 1 5 + 1)) h')) (b : BlR κ (cset B (updm (updm S 9 (S 1 5) (a : Int)) 1 5 (S 1 5 + 1)) h') a row) (s2 : 2 * (l.length : Int) + 2 ≤ S 1 2) : RdI κ B S0 H0 (cset B (updm (updm S 9 (S 1 5) (a : Int)) 1 5 (S 1 5 + 1)) h') (updm (updm S 9 (S 1 5) (a : Int)) 1 5 (S 1 5 + 1)) st (l ++ [row]) := by
  obtain ⟨i1, i2, i3, i4, i5, i6, i7, i8, i9, i10⟩ := I
  have e1 : ∀ i : Int, i ≠ 5 → updm (updm S 9 (S 1 5) (a : Int)) 1 5 (S 1 5 + 1) 1 i = S 1 i := fun i hi => (updm_ne (by omega)).trans (by rw [updm_k (by decide)])
  have e2 : ∀ k : Nat, k ≠ 1 → k ≠ 9 → updm (updm S 9 (S 1 5) (a : Int)) 1 5 (S 1 5 + 1) k = S k := fun k h1 h9 => (updm_k h1).trans (updm_k h9)
  refine ⟨i1.trans f, (i2.up (by decide)).up (by decide), by rw [e1 1 (by decide)]; exact i3, ?_, by rw [e2 10 (by decide) (by decide)]; exact i5, by rw [e1 7 (by decide)]; exact i6, i7, ?_, ?_, by rw [e2 7 (by decide) (by decide)]; exact i10⟩
  · unfold RdT
    rw [e1 1 (by decide), e1 2 (by decide), e2 6 (by decide) (by decide)]
    exact i4
  · refine RdL.push (S := S) (i8.fx (f.fx hB) rfl rfl) updm_at ?_ (fun i hi => ?_) b
    · rw [updm_k (by decide)]
      exact updm_at
    · rw [updm_k (by decide)]
      exact updm_ne (by omega)
  · rw [e1 2 (by decide), List.length_append, List.length_singleton]
    omega
/-- a bracket opens -/
theorem RdI.opn {κ : KP} {B : Nat → Nat} {S0 S : CST} {H0 h : AH} {st : List Int} {l : List (Int → Int)} {k : Int} (hB : BA B) (I : RdI κ B S0 H0 (cset B S h) S st l) (h3 : st.length < 3) : RdI κ B S0 H0 (cset B (updm (updm S 10 (S 1 7) k) 1 7 (S 1 7 + 1)) h) (updm (updm S 10 (S 1 7) k) 1 7 (S 1 7 + 1)) (k :: st) l := by
  obtain ⟨i1, i2, i3, i4, i5, i6, i7, i8, i9, i10⟩ := I
  have e1 : ∀ i : Int, i ≠ 7 → updm (updm S 10 (S 1 7) k) 1 7 (S 1 7 + 1) 1 i = S 1 i := fun i hi => (updm_ne (by omega)).trans (by rw [updm_k (by decide)])
  have e2 : ∀ j : Nat, j ≠ 1 → j ≠ 10 → updm (updm S 10 (S 1 7) k) 1 7 (S 1 7 + 1) j = S j := fun j h1 h9 => (updm_k h1).trans (updm_k h9)
  refine ⟨i1.trans Fr.cs, (i2.up (by decide)).up (by decide), by rw [e1 1 (by decide)]; exact i3, ?_, ?_, ?_, by rw [List.length_cons]; omega, i8.fx (cfxF hB) (e1 5 (by decide)) (e2 9 (by decide) (by decide)), by rw [e1 2 (by decide)]; exact i9, by rw [e2 7 (by decide) (by decide)]; exact i10⟩
  · unfold RdT
    rw [e1 1 (by decide), e1 2 (by decide), e2 6 (by decide) (by decide)]
    exact i4
  · refine i5.push (k := k) ?_ (fun i hi => ?_)
    · rw [updm_k (by decide), ← i6]
      exact updm_at
    · rw [updm_k (by decide)]
      exact updm_ne (by omega)
  · rw [updm_at, i6, List.length_cons]
    omega
set_option maxRecDepth 100000 in
set_option maxHeartbeats 4000000 in
theorem l_open (κ : KP) {B : Nat → Nat} {S0 : CST} {H0 : AH} (hB : BA B) : ∀ (f : Nat) (S : CST) (h : AH) (st : List Int) (l : List (Int → Int)) (i : Int) (v2 v3 : Option Value), st.length + f = 3 → 0 ≤ i → i ≤ st.length → RdI κ B S0 H0 (cset B S h) S st l → WW κ mX7_readOpenings 4 f (6 * f) (fun v h' => ∃ (r : Int) (S1 : CST) (st1 : List Int) (l1 : List (Int → Int)), v = some (.int (J r)) ∧ (0 ≤ r ∧ r ≤ 1) ∧ h' = cset B S1 h' ∧ RdI κ B S0 H0 h' S1 st1 l1 ∧ ((r = 0 ∧ ∃ F, POp (S0 6) (S0 1 1) F (S 1 2) st l (.inl (S1 1 2))) ∨ (r = 1 ∧ ∃ F, POp (S0 6) (S0 1 1) F (S 1 2) st l (.inr (S1 1 2, st1, l1))))) NoX 2 [some (.ref (B 1)), some (.int (J i)), v2, v3] [] (cset B S h) := by
  intro f
  induction f with
  | zero =>
    intro S h st l i v2 v3 hf i0 i1 I
    have hT := I.2.2.2.1
    have hsg := sg_rg hT
    have hhr := I.hr
    have hse : sg S = 91 ↔ hre (S0 6) (S0 1 1) (S 1 2) = 91 := by rw [hhr]; exact sg_eq (by decide)
    obtain ⟨i1', i2', i3', i4', i5', i6, i7, i8, i9, i10⟩ := id I
    have ht2 := hT.1
    have ht3 := hT.2.2
    refine r_il1 dX7_readOpenings_2 ?_
    refine r_iconst dX7_readOpenings_3 ?_
    refine r_icmp_gt (tgt := 123) dX7_readOpenings_4 (by decide) (by (first | omega | assumption | decide)) (by (first | omega | assumption | decide)) (fun c_4 => ?_) (fun c_4 => ?_)
    · exact absurd c_4 (by omega)
    · refine r_al0 dX7_readOpenings_7 ?_
      refine r_callVP0 dX7_readOpenings_8 v_X7_62 (cs_obj hB (k9 := 1) (by decide) rfl) (t_sign κ h hB hT) (by decide) rfl ?_
      refine r_bipush dX7_readOpenings_11 (by decide) ?_
      refine r_icmp_ne (tgt := 123) dX7_readOpenings_13 (by decide) (by (first | omega | assumption | decide)) (by (first | omega | assumption | decide)) (fun c_13 => ?_) (fun c_13 => ?_)
      · refine r_iconst dX7_readOpenings_123 ?_
        exact r_iret dX7_readOpenings_124 (ty := .boolean) rfl (by decide) ⟨1, S, st, l, rfl, by decide, cset_cset.symm, I, Or.inr ⟨rfl, 1, Or.inl ⟨fun z => c_13 (hse.mpr z), rfl⟩⟩⟩
      · refine r_al0 dX7_readOpenings_16 ?_
        refine b_get dX7_readOpenings_17 f_X7_42 hB (by decide) (k9 := 1) rfl rfl ?_
        refine r_al0 dX7_readOpenings_20 ?_
        refine b_get dX7_readOpenings_21 f_X7_38 hB (by decide) (k9 := 1) rfl rfl ?_
        refine r_alenF dX7_readOpenings_24 (cs_arr hB (k9 := 10) (by decide) rfl) (by decide) rfl ?_
        refine r_icmp_lt (tgt := 30) dX7_readOpenings_25 (by decide) (by (first | omega | assumption | decide)) (by (first | omega | assumption | decide)) (fun c_25 => ?_) (fun c_25 => ?_)
        · exact absurd c_25 (by omega)
        · refine r_iconst dX7_readOpenings_28 ?_
          have h91 := hse.mp c_13
          exact r_iret dX7_readOpenings_29 (ty := .boolean) rfl (by decide) ⟨0, S, st, l, rfl, by decide, cset_cset.symm, I, Or.inl ⟨rfl, 1, Or.inr ⟨h91, Or.inl ⟨_, pgrp_3 (by omega), rfl⟩⟩⟩⟩
  | succ f ih =>
    intro S h st l i v2 v3 hf i0 i1 I
    have hT := I.2.2.2.1
    have hsg := sg_rg hT
    have hhr := I.hr
    have hse : sg S = 91 ↔ hre (S0 6) (S0 1 1) (S 1 2) = 91 := by rw [hhr]; exact sg_eq (by decide)
    obtain ⟨i1', i2', i3', i4', i5', i6, i7, i8, i9, i10⟩ := id I
    have ht2 := hT.1
    have ht3 := hT.2.2
    refine r_il1 dX7_readOpenings_2 ?_
    refine r_iconst dX7_readOpenings_3 ?_
    refine r_icmp_gt (tgt := 123) dX7_readOpenings_4 (by decide) (by (first | omega | assumption | decide)) (by (first | omega | assumption | decide)) (fun c_4 => ?_) (fun c_4 => ?_)
    · exact absurd c_4 (by omega)
    · refine r_al0 dX7_readOpenings_7 ?_
      refine r_callVP0 dX7_readOpenings_8 v_X7_62 (cs_obj hB (k9 := 1) (by decide) rfl) (t_sign κ h hB hT) (by decide) rfl ?_
      refine r_bipush dX7_readOpenings_11 (by decide) ?_
      refine r_icmp_ne (tgt := 123) dX7_readOpenings_13 (by decide) (by (first | omega | assumption | decide)) (by (first | omega | assumption | decide)) (fun c_13 => ?_) (fun c_13 => ?_)
      · refine r_iconst dX7_readOpenings_123 ?_
        exact r_iret dX7_readOpenings_124 (ty := .boolean) rfl (by decide) ⟨1, S, st, l, rfl, by decide, cset_cset.symm, I, Or.inr ⟨rfl, 1, Or.inl ⟨fun z => c_13 (hse.mpr z), rfl⟩⟩⟩
      · refine r_al0 dX7_readOpenings_16 ?_
        refine b_get dX7_readOpenings_17 f_X7_42 hB (by decide) (k9 := 1) rfl rfl ?_
        refine r_al0 dX7_readOpenings_20 ?_
        refine b_get dX7_readOpenings_21 f_X7_38 hB (by decide) (k9 := 1) rfl rfl ?_
        refine r_alenF dX7_readOpenings_24 (cs_arr hB (k9 := 10) (by decide) rfl) (by decide) rfl ?_
        refine r_icmp_lt (tgt := 30) dX7_readOpenings_25 (by decide) (by (first | omega | assumption | decide)) (by (first | omega | assumption | decide)) (fun c_25 => ?_) (fun c_25 => ?_)
        · have h91 := hse.mp c_13
          have hlt := hr_lt (S := S) (by rw [← hhr, h91]; decide)
          have hst : st.length < 3 := by omega
          refine r_al0 dX7_readOpenings_30 ?_
          refine r_dup dX7_readOpenings_31 rfl ?_
          refine b_get dX7_readOpenings_32 f_X7_19 hB (by decide) (k9 := 1) rfl rfl ?_
          refine r_iconst dX7_readOpenings_35 ?_
          refine r_iadd dX7_readOpenings_36 ?_
          refine b_put (k9 := 1) (i9 := 2) dX7_readOpenings_37 f_X7_19 p_X7_19 (ff_11_2 _) hB (by decide) rfl rfl rfl rfl rfl ?_
          have I1 := I.mv hB (s := S 1 2 + 1) (by omega) (by omega)
          have hT1 := I1.2.2.2.1
          have hsg1 := sg_rg hT1
          have hh1 : hr (updm S 1 2 (S 1 2 + 1)) = hre (S0 6) (S0 1 1) (S 1 2 + 1) := by rw [hr_at, I.T6, i3']
          have hsi1 : QIn (sg (updm S 1 2 (S 1 2 + 1))) 49 57 ↔ QIn (hre (S0 6) (S0 1 1) (S 1 2 + 1)) 49 57 := by rw [← hh1]; exact sg_in (by decide)
          refine r_al0 dX7_readOpenings_40 ?_
          refine r_callVP0 dX7_readOpenings_41 v_X7_62 (cs_obj hB (k9 := 1) (by decide) rfl) (t_sign κ h hB hT1) (by decide) rfl ?_
          refine r_is2 dX7_readOpenings_44 rfl ?_
          refine r_il2 dX7_readOpenings_45 ?_
          refine r_bipush dX7_readOpenings_46 (by decide) ?_
          refine r_icmp_lt (tgt := 57) dX7_readOpenings_48 (by decide) (by (first | omega | assumption | decide)) (by (first | omega | assumption | decide)) (fun c_48 => ?_) (fun c_48 => ?_)
          · refine r_iconst dX7_readOpenings_57 ?_
            refine r_iret dX7_readOpenings_58 (ty := .boolean) rfl (by decide) ⟨0, _, st, l, rfl, by decide, cset_cset.symm, I1, Or.inl ⟨rfl, 1, Or.inr ⟨h91, Or.inl ⟨_, pgrp_d (by omega) ?_, by rw [at2_2]⟩⟩⟩⟩
            intro z
            have z2 := (hsi1.mpr z)
            unfold QIn at z2
            omega
          · refine r_il2 dX7_readOpenings_51 ?_
            refine r_bipush dX7_readOpenings_52 (by decide) ?_
            refine r_icmp_le (tgt := 59) dX7_readOpenings_54 (by decide) (by (first | omega | assumption | decide)) (by (first | omega | assumption | decide)) (fun c_54 => ?_) (fun c_54 => ?_)
            · have hd1 : QIn (hre (S0 6) (S0 1 1) (S 1 2 + 1)) 49 57 := hsi1.mp (by unfold QIn; omega)
              have hlt1 := hr_lt (S := updm S 1 2 (S 1 2 + 1)) (by rw [hh1]; unfold QIn at hd1; omega)
              rw [at2_2, at2_i (by decide)] at hlt1
              have hse1 : sg (updm S 1 2 (S 1 2 + 1)) = hre (S0 6) (S0 1 1) (S 1 2 + 1) := by
                unfold QIn at hd1
                rcases sg_hr (S := updm S 1 2 (S 1 2 + 1)) with ⟨-, a, -⟩ | ⟨-, a, b⟩ <;> omega
              refine r_al0 dX7_readOpenings_59 ?_
              refine r_dup dX7_readOpenings_60 rfl ?_
              refine b_get dX7_readOpenings_61 f_X7_19 hB (by decide) (k9 := 1) rfl rfl ?_
              rw [at2_2]
              refine r_iconst dX7_readOpenings_64 ?_
              refine r_iadd dX7_readOpenings_65 ?_
              refine b_put (k9 := 1) (i9 := 2) (v9 := S 1 2 + 1 + 1) dX7_readOpenings_66 f_X7_19 p_X7_19 (ff_11_2 _) hB (by decide) rfl rfl rfl rfl rfl ?_
              rw [at2_at]
              have I2 := I.mv hB (s := S 1 2 + 1 + 1) (by omega) (by omega)
              have hT2 := I2.2.2.2.1
              have hh2 : hr (updm S 1 2 (S 1 2 + 1 + 1)) = hre (S0 6) (S0 1 1) (S 1 2 + 1 + 1) := by rw [hr_at, I.T6, i3']
              refine r_al0 dX7_readOpenings_69 ?_
              refine r_bipush dX7_readOpenings_70 (by decide) ?_
              refine r_callV (As := [.int (J 58)]) dX7_readOpenings_72 v_X7_58 (cs_obj hB (k9 := 1) (by decide) rfl) (t_take κ h hB hT2 (c := 58) (by decide) (by decide)) (by decide) rfl rfl (cat_le rfl) (Nat.zero_le _) (Nat.zero_le _) (fun v h9 hq9 => ?_) (fun _ _ hx => hx.elim)
              obtain ⟨r5, S5, rfl, rb5, rfl, hq5⟩ := hq9
              show WW κ _ _ _ _ _ _ _ _ (.int (J r5) :: []) _
              refine r_if_ne (tgt := 80) dX7_readOpenings_75 (by decide) (by (first | omega | assumption | decide)) (fun c_75 => ?_) (fun c_75 => ?_)
              · obtain ⟨h58, hlt2, e5⟩ : hr (updm S 1 2 (S 1 2 + 1 + 1)) = 58 ∧ updm S 1 2 (S 1 2 + 1 + 1) 1 2 < updm S 1 2 (S 1 2 + 1 + 1) 1 1 ∧ S5 = updm S 1 2 (S 1 2 + 1 + 1 + 1) := by
                  rcases hq5 with ⟨-, q1, q2, q3⟩ | ⟨q, -⟩
                  · exact ⟨q1, q2, by rw [q3, at2_at, at2_2]⟩
                  · omega
                rw [at2_2, at2_i (by decide)] at hlt2
                have I3 := I.mv hB (s := S 1 2 + 1 + 1 + 1) (by omega) (by omega)
                rw [← e5] at I3
                have hs5 : S5 1 2 = S 1 2 + 1 + 1 + 1 := by rw [e5, at2_2]
                have h58' : hre (S0 6) (S0 1 1) (S 1 2 + 1 + 1) = 58 := by rw [← hh2]; exact h58
                clear e5
                obtain ⟨j1, j2, j3, j4, j5, j6, j7, j8, j9, j10⟩ := id I3
                have jl := j8.1
                have jt := j4.2.2
                have jt1 := j4.1
                refine r_al0 dX7_readOpenings_80 ?_
                refine b_get dX7_readOpenings_81 f_X7_35 hB (by decide) (k9 := 1) rfl rfl ?_
                refine r_is3 dX7_readOpenings_84 rfl ?_
                refine r_al0 dX7_readOpenings_85 ?_
                refine r_ldcK rfl dX7_readOpenings_86 ?_
                refine r_il2 dX7_readOpenings_88 ?_
                refine r_bipush dX7_readOpenings_89 (by decide) ?_
                refine r_isub dX7_readOpenings_91 ?_
                refine r_iconst dX7_readOpenings_92 ?_
                refine r_iconst dX7_readOpenings_93 ?_
                refine r_callV (As := [.ref κ.1, .int (J (sg (updm S 1 2 (S 1 2 + 1)) - 48)), .int (J (-1)), .int (J (-1))]) dX7_readOpenings_94 v_X7_68 (cs_obj hB (k9 := 1) (by decide) rfl) (t_addB κ h hB (n := 0) (t := fun _ => 0) ⟨by decide, fun i a b => by omega, Or.inr ⟨rfl, rfl⟩⟩ j5 j6 j7 RwN.grp (by omega) (by omega)) (by decide) rfl rfl (cat_le rfl) (by omega) (by omega) (fun v h9 hq9 => ?_) (fun _ _ hx => hx.elim)
                obtain ⟨rfl, a9, e9, f9, b9⟩ := hq9
                rw [hse1] at b9
                rw [e9] at f9 b9
                show WW κ _ _ _ _ _ _ _ _ [] h9
                rw [e9]
                have I4 := I3.add hB f9 b9 (by omega)
                have I5 := I4.opn (k := S5 1 5) hB hst
                refine ww_bud (k' := f) (n' := 6 * f) (by omega) (by omega) ?_
                have k7 : updm (updm S5 9 (S5 1 5) (a9 : Int)) 1 5 (S5 1 5 + 1) 1 7 = st.length := I4.2.2.2.2.2.1
                refine r_al0 dX7_readOpenings_97 ?_
                refine b_get dX7_readOpenings_98 f_X7_38 hB (by decide) (k9 := 1) rfl rfl ?_
                refine r_al0 dX7_readOpenings_101 ?_
                refine b_get dX7_readOpenings_102 f_X7_42 hB (by decide) (k9 := 1) rfl rfl ?_
                refine r_il3 dX7_readOpenings_105 ?_
                refine b_ast (k9 := 10) dX7_readOpenings_106 hB (by decide) (fun _ => rfl) (by omega) (by omega) (by omega) ?_
                refine r_al0 dX7_readOpenings_107 ?_
                refine r_dup dX7_readOpenings_108 rfl ?_
                refine b_get dX7_readOpenings_109 f_X7_42 hB (by decide) (k9 := 1) rfl rfl ?_
                rw [show ∀ (S : CST) (i v : Int), updm S 10 i v 1 7 = S 1 7 from fun S i v => by rw [updm_k (by decide)]]
                refine r_iconst dX7_readOpenings_112 ?_
                refine r_iadd dX7_readOpenings_113 ?_
                refine b_put (k9 := 1) (i9 := 7) dX7_readOpenings_114 f_X7_42 p_X7_42 (ff_11_7 _) hB (by decide) rfl rfl rfl rfl rfl ?_
                refine r_inc1 dX7_readOpenings_117 rfl ?_
                refine r_goto (tgt := 2) dX7_readOpenings_120 (by decide) ?_
                refine ww_post (fun v h9 hq9 => ?_) (fun _ _ hx => hx) (ih _ h9 (S5 1 5 :: st) _ (i + 1) _ _ (by rw [List.length_cons]; omega) (by omega) (by rw [List.length_cons]; omega) I5)
                obtain ⟨r, S1, st1, l1, rfl, rb, x1, x2, x3⟩ := hq9
                have e12 : updm (updm (updm (updm S5 9 (S5 1 5) (a9 : Int)) 1 5 (S5 1 5 + 1)) 10 (updm (updm S5 9 (S5 1 5) (a9 : Int)) 1 5 (S5 1 5 + 1) 1 7) (S5 1 5)) 1 7 (updm (updm S5 9 (S5 1 5) (a9 : Int)) 1 5 (S5 1 5 + 1) 1 7 + 1) 1 2 = S 1 2 + 1 + 1 + 1 := by
                  rw [updm_ne (by decide), updm_k (by decide), updm_ne (by decide), updm_k (by decide)]
                  exact hs5
                have gg := pgrp_y (T := S0 6) (n := S0 1 1) (s := S 1 2) (o := (st.length : Int)) (by omega) hd1 h58'
                rw [e12, jl] at x3
                refine ⟨r, S1, st1, l1, rfl, rb, x1, x2, x3.imp (fun ⟨a, F, b⟩ => ⟨a, F + 1, Or.inr ⟨h91, Or.inr ⟨_, gg, b⟩⟩⟩) (fun ⟨a, F, b⟩ => ⟨a, F + 1, Or.inr ⟨h91, Or.inr ⟨_, gg, b⟩⟩⟩)⟩
              · refine r_iconst dX7_readOpenings_78 ?_
                obtain ⟨hq0, rfl⟩ : hr (updm S 1 2 (S 1 2 + 1 + 1)) ≠ 58 ∧ S5 = _ := by
                  rcases hq5 with ⟨q, -⟩ | ⟨-, q1, q2⟩
                  · omega
                  · exact ⟨q1, q2⟩
                refine r_iret dX7_readOpenings_79 (ty := .boolean) rfl (by decide) ⟨0, _, st, l, rfl, by decide, cset_cset.symm, I2, Or.inl ⟨rfl, 1, Or.inr ⟨h91, Or.inl ⟨_, pgrp_c (by omega) ?_ ?_, by rw [at2_2]⟩⟩⟩⟩
                · refine hsi1.mp ?_
                  unfold QIn
                  omega
                · rw [← hh2]; exact hq0
            · refine r_iconst dX7_readOpenings_57 ?_
              refine r_iret dX7_readOpenings_58 (ty := .boolean) rfl (by decide) ⟨0, _, st, l, rfl, by decide, cset_cset.symm, I1, Or.inl ⟨rfl, 1, Or.inr ⟨h91, Or.inl ⟨_, pgrp_d (by omega) ?_, by rw [at2_2]⟩⟩⟩⟩
              intro z
              have z2 := (hsi1.mpr z)
              unfold QIn at z2
              omega
        · refine r_iconst dX7_readOpenings_28 ?_
          exact absurd c_25 (by omega)
set_option maxRecDepth 100000 in
set_option maxHeartbeats 4000000 in
theorem t_open (κ : KP) {B : Nat → Nat} {S0 S : CST} {H0 : AH} (h : AH) (hB : BA B) {st : List Int} {l : List (Int → Int)} (I : RdI κ B S0 H0 (cset B S h) S st l) : MM κ mX7_readOpenings 4 3 18 [.ref (B 1)] (cset B S h) (fun v h' => ∃ (r : Int) (S1 : CST) (st1 : List Int) (l1 : List (Int → Int)), v = some (.int (J r)) ∧ (0 ≤ r ∧ r ≤ 1) ∧ h' = cset B S1 h' ∧ RdI κ B S0 H0 h' S1 st1 l1 ∧ ((r = 0 ∧ ∃ F, POp (S0 6) (S0 1 1) F (S 1 2) st l (.inl (S1 1 2))) ∨ (r = 1 ∧ ∃ F, POp (S0 6) (S0 1 1) F (S 1 2) st l (.inr (S1 1 2, st1, l1))))) NoX := by
  refine mm_of (L := [some _, none, none, none]) (by decide +kernel) rfl rfl (Nat.le_of_ble_eq_true rfl) rfl ?_
  have h3 := I.2.2.2.2.2.2.1
  refine r_iconst dX7_readOpenings_0 ?_
  refine r_is1 dX7_readOpenings_1 rfl ?_
  refine ww_bud (k' := 3 - st.length) (n' := 6 * (3 - st.length)) (by omega) (by omega) ?_
  exact l_open κ hB (3 - st.length) S h st l 0 none none (by omega) (by omega) (by omega) I
