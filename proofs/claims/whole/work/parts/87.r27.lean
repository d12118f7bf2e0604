/-! ===== a text is read ===== -/
theorem RdI.cls {κ : KP} {B : Nat → Nat} {S0 S : CST} {H0 h : AH} {st st' : List Int} {l : List (Int → Int)} (hB : BA B) (I : RdI κ B S0 H0 (cset B S h) S st l) {s : Int} (s0 : S 1 2 ≤ s) (s1 : s ≤ S 1 1) (hO : OpS (S 10) st') (hl : st'.length ≤ st.length) : RdI κ B S0 H0 (cset B (updm (updm S 1 2 s) 1 7 (st'.length : Int)) h) (updm (updm S 1 2 s) 1 7 (st'.length : Int)) st' l := by
  obtain ⟨i1, i2, i3, i4, i5, i6, i7, i8, i9, i10⟩ := I
  refine ⟨i1.trans Fr.cs, (i2.up (by decide)).up (by decide), by rw [cl2_i (by decide) (by decide)]; exact i3, i4.cl2 (by have := i4.2.2; omega) s1, ?_, cl2_7, by omega, i8.fx (cfxF hB) (cl2_i (by decide) (by decide)) (cl2_k (by decide)), ?_, ?_⟩
  · rw [cl2_k (by decide)]
    exact hO
  · rw [cl2_2]
    omega
  · rw [cl2_k (by decide)]
    exact i10
theorem POp.len {T : Int → Int} {n : Int} {s' : Int} {st' : List Int} {l' : List (Int → Int)} : ∀ {f : Nat} {s : Int} {st : List Int} {l : List (Int → Int)}, POp T n f s st l (.inr (s', st', l')) → l.length ≤ l'.length
  | 0, _, _, _, h => h.elim
  | f + 1, s, st, l, h => by
    rcases h with ⟨-, h⟩ | ⟨a, ⟨e', b, c⟩ | ⟨d, b, h⟩⟩
    · cases h
      exact Nat.le_refl _
    · cases c
    · have := POp.len h
      rw [List.length_append, List.length_singleton] at this
      omega
theorem pcl_44 {T : Int → Int} {n s g : Int} {st : List Int} (h : hre T n s = 44) : pcl T n (g :: st) s = .inr (s + 1, g :: st) := if_pos h
theorem pcl_no {T : Int → Int} {n s g : Int} {st : List Int} (h : hre T n s ≠ 44) (h2 : hre T n s ≠ 93) : pcl T n (g :: st) s = .inl s := by
  show (if _ then _ else if _ then _ else _) = _
  rw [if_neg h, if_neg h2]
set_option maxRecDepth 100000 in
set_option maxHeartbeats 4000000 in
theorem l_blocks (κ : KP) {B : Nat → Nat} {S0 : CST} {H0 : AH} (hB : BA B) : ∀ (f : Nat) (S : CST) (h : AH) (st : List Int) (l : List (Int → Int)) (i : Int), i + f = 50 → 0 ≤ i → i ≤ l.length → RdI κ B S0 H0 (cset B S h) S st l → WW κ mX7_readBlocks 10 (6 * f) (33 * f) (fun v h' => ∃ (r : Int) (S1 : CST) (st1 : List Int) (l1 : List (Int → Int)) (F : Nat) (R : Sum Int (List (Int → Int))), v = some (.int (J r)) ∧ (0 ≤ r ∧ r ≤ 1) ∧ h' = cset B S1 h' ∧ RdI κ B S0 H0 h' S1 st1 l1 ∧ PTop (S0 6) (S0 1 1) F (S 1 2) st l R ∧ ((r = 0 ∧ R = .inl (S1 1 2)) ∨ (r = 1 ∧ R = .inr l1))) NoX 2 [some (.ref (B 1)), some (.int (J i))] [] (cset B S h) := by
  intro f
  induction f with
  | zero =>
    intro S h st l i hf i0 i1 I
    have h9 := I.2.2.2.2.2.2.2.2.1
    have hT := I.2.2.2.1
    have ht := hT.2.2
    have ht1 := hT.1
    exact absurd hf (by omega)
  | succ f ih =>
    intro S h st l i hf i0 i1 I
    have h9 := I.2.2.2.2.2.2.2.2.1
    have hT := I.2.2.2.1
    have ht := hT.2.2
    have ht1 := hT.1
    refine r_il1 dX7_readBlocks_2 ?_
    refine r_bipush dX7_readBlocks_3 (by decide) ?_
    refine r_icmp_ge (tgt := 72) dX7_readBlocks_5 (by decide) (by (first | omega | decide)) (by (first | omega | decide)) (fun c_5 => ?_) (fun c_5 => ?_)
    · exact absurd c_5 (by omega)
    · refine r_al0 dX7_readBlocks_8 ?_
      refine r_callV (As := []) dX7_readBlocks_9 v_X7_49 (cs_obj hB (k9 := 1) (by decide) rfl) (t_open κ h hB I) (by decide) rfl rfl (cat_le rfl) (by omega) (by omega) (fun v h9 hq9 => ?_) (fun _ _ hx => hx.elim)
      obtain ⟨r1, S1, st1, l1, rfl, rb1, e9, I1, hq1⟩ := hq9
      rw [e9] at I1
      show WW κ _ _ _ _ _ _ _ _ (.int (J r1) :: []) h9
      rw [e9]
      refine r_if_eq (tgt := 22) dX7_readBlocks_12 (by decide) (by (first | omega | decide)) (fun c_12 => ?_) (fun c_12 => ?_)
      · refine r_iconst dX7_readBlocks_22 ?_
        obtain ⟨F1, hP⟩ : ∃ F, POp (S0 6) (S0 1 1) F (S 1 2) st l (.inl (S1 1 2)) := by
          rcases hq1 with ⟨-, q⟩ | ⟨q, -⟩
          · exact q
          · exact absurd q (by omega)
        obtain ⟨F, hF⟩ := hP.bad
        exact r_iret dX7_readBlocks_23 (ty := .boolean) rfl (by decide) ⟨0, _, _, _, F, _, rfl, by decide, cset_cset.symm, I1, hF, Or.inl ⟨rfl, rfl⟩⟩
      · refine r_al0 dX7_readBlocks_15 ?_
        obtain ⟨F1, hP⟩ : ∃ F, POp (S0 6) (S0 1 1) F (S 1 2) st l (.inr (S1 1 2, st1, l1)) := by
          rcases hq1 with ⟨q, -⟩ | ⟨-, q⟩
          · exact absurd q c_12
          · exact q
        refine r_callV (As := []) dX7_readBlocks_16 v_X7_52 (cs_obj hB (k9 := 1) (by decide) rfl) (t_leaf κ h9 hB I1) (by decide) rfl rfl (cat_le rfl) (by omega) (by omega) (fun v h8 hq8 => ?_) (fun _ _ hx => hx.elim)
        obtain ⟨r2, S2, l2, m, rfl, rb2, e8, I2, hm, hq2⟩ := hq8
        rw [e8] at I2
        show WW κ _ _ _ _ _ _ _ _ (.int (J r2) :: []) h8
        rw [e8]
        refine r_if_ne (tgt := 24) dX7_readBlocks_19 (by decide) (by (first | omega | decide)) (fun c_19 => ?_) (fun c_19 => ?_)
        · refine r_al0 dX7_readBlocks_24 ?_
          obtain ⟨row, hrow, rfl⟩ : ∃ row, pleaf (S0 6) (S0 1 1) (S1 1 2) m (par st1) st1.length = .inr (S2 1 2, row) ∧ l2 = l1 ++ [row] := by
            rcases hq2 with ⟨q, -⟩ | ⟨-, q⟩
            · exact absurd q c_19
            · exact q
          have hT2 := I2.2.2.2.1
          have hT21 := hT2.1
          have hT22 := hT2.2.2
          have hl1 := I2.2.2.2.2.2.2.1
          refine r_callV (As := []) dX7_readBlocks_25 v_X7_55 (cs_obj hB (k9 := 1) (by decide) rfl) (t_closings κ h8 hB hT2 I2.2.2.2.2.1 I2.2.2.2.2.2.1 I2.2.2.2.2.2.2.1) (by decide) rfl rfl (cat_le rfl) (Nat.zero_le _) (Nat.zero_le _) (fun v h7 hq7 => ?_) (fun _ _ hx => hx.elim)
          obtain ⟨rfl, s3, st3, rfl, k1, k2, k3, hc, hO3, hno⟩ := hq7
          show WW κ _ _ _ _ _ _ _ _ [] _
          have I3 := I2.cls hB k2 k3 hO3 k1
          rw [I2.T6, I2.2.2.1] at hc hno
          have e11 := I2.2.2.1
          have go3 : ∀ {R : Sum Int (List (Int → Int))} {F : Nat} {s4 : Int} {st4 : List Int}, pcl (S0 6) (S0 1 1) st1 (S2 1 2) = .inr (s4, st4) → ((st4 = [] ∧ ¬ s4 < S0 1 1 ∧ R = .inr (l1 ++ [row])) ∨ (¬ (st4 = [] ∧ ¬ s4 < S0 1 1) ∧ PTop (S0 6) (S0 1 1) F s4 st4 (l1 ++ [row]) R)) → ∃ F, PTop (S0 6) (S0 1 1) F (S 1 2) st l R := fun {R F s4 st4} a b => hP.go ⟨F + 1, Or.inr ⟨hP.stop, m, hm, Or.inr ⟨_, row, hrow, Or.inr ⟨s4, st4, a, b⟩⟩⟩⟩
          refine r_al0 dX7_readBlocks_28 ?_
          refine b_get dX7_readBlocks_29 f_X7_42 hB (by decide) (k9 := 1) rfl rfl ?_
          rw [cl2_7]
          refine r_if_ne (tgt := 48) dX7_readBlocks_32 (by decide) (by (first | omega | decide)) (fun c_32 => ?_) (fun c_32 => ?_)
          · refine r_al0 dX7_readBlocks_48 ?_
            refine b_get dX7_readBlocks_49 f_X7_42 hB (by decide) (k9 := 1) rfl rfl ?_
            rw [cl2_7]
            refine r_if_le (tgt := 66) dX7_readBlocks_52 (by decide) (by (first | omega | decide)) (fun c_52 => ?_) (fun c_52 => ?_)
            · exact absurd c_52 (by omega)
            · refine r_al0 dX7_readBlocks_55 ?_
              refine r_bipush dX7_readBlocks_56 (by decide) ?_
              refine r_callV (As := [.int (J 44)]) dX7_readBlocks_58 v_X7_58 (cs_obj hB (k9 := 1) (by decide) rfl) (t_take κ h8 hB I3.2.2.2.1 (c := 44) (by decide) (by decide)) (by decide) rfl rfl (cat_le rfl) (Nat.zero_le _) (Nat.zero_le _) (fun v h6 hq6 => ?_) (fun _ _ hx => hx.elim)
              obtain ⟨r5, S5, rfl, rb5, rfl, hq5⟩ := hq6
              show WW κ _ _ _ _ _ _ _ _ (.int (J r5) :: []) _
              refine r_if_ne (tgt := 66) dX7_readBlocks_61 (by decide) (by (first | omega | decide)) (fun c_61 => ?_) (fun c_61 => ?_)
              · refine r_inc1 dX7_readBlocks_66 rfl ?_
                refine r_goto (tgt := 2) dX7_readBlocks_69 (by decide) ?_
                obtain ⟨h44, k5, e5⟩ : hr (updm (updm S2 1 2 s3) 1 7 (st3.length : Int)) = 44 ∧ s3 < S2 1 1 ∧ S5 = updm (updm (updm S2 1 2 s3) 1 7 (st3.length : Int)) 1 2 (s3 + 1) := by
                  rcases hq5 with ⟨-, q1, q2, q3⟩ | ⟨q, -⟩
                  · rw [cl2_2, cl2_i (by decide) (by decide)] at q2
                    rw [cl2_2] at q3
                    exact ⟨q1, q2, q3⟩
                  · exact absurd q c_61
                rw [hr_cl, I2.T6, e11] at h44
                obtain ⟨g3, st4, rfl⟩ : ∃ g3 st4, st3 = g3 :: st4 := by
                  cases st3 with
                  | nil => exact absurd c_32 (by decide)
                  | cons g st => exact ⟨g, st, rfl⟩
                have I5 := I3.mv hB (s := s3 + 1) (by rw [cl2_2]; omega) (by rw [cl2_i (by decide) (by decide)]; omega)
                rw [← e5] at I5
                have hlen := hP.len
                refine ww_bud (k' := 6 * f) (n' := 33 * f) (by omega) (by omega) (ww_post (fun v h9 hq9 => ?_) (fun _ _ hx => hx) (ih S5 h8 (g3 :: st4) _ (i + 1) (by omega) (by omega) (by rw [List.length_append, List.length_singleton]; omega) I5))
                obtain ⟨r, S9, st9, l9, F9, R9, rfl, rb, x1, x2, x3, x4⟩ := hq9
                rw [e5, at2_2] at x3
                obtain ⟨F, hF⟩ := go3 (F := F9) (R := R9) (hc.trans (pcl_44 h44)) (Or.inr ⟨fun z => absurd z.1 (List.cons_ne_nil _ _), x3⟩)
                exact ⟨r, S9, st9, l9, F, R9, rfl, rb, x1, x2, hF, x4⟩
              · refine r_iconst dX7_readBlocks_64 ?_
                obtain ⟨hn5, rfl⟩ : hr (updm (updm S2 1 2 s3) 1 7 (st3.length : Int)) ≠ 44 ∧ S5 = updm (updm S2 1 2 s3) 1 7 (st3.length : Int) := by
                  rcases hq5 with ⟨q, -⟩ | ⟨-, q1, q2⟩
                  · exact absurd q (by omega)
                  · exact ⟨q1, q2⟩
                rw [hr_cl, I2.T6, e11] at hn5
                obtain ⟨g3, st4, rfl⟩ : ∃ g3 st4, st3 = g3 :: st4 := by
                  cases st3 with
                  | nil => exact absurd c_32 (by decide)
                  | cons g st => exact ⟨g, st, rfl⟩
                have hn6 : hre (S0 6) (S0 1 1) s3 ≠ 93 := by
                  rcases hno with z | z
                  · cases z
                  · exact z
                obtain ⟨F, hF⟩ := hP.go ⟨1, Or.inr ⟨hP.stop, m, hm, Or.inr ⟨_, row, hrow, Or.inl ⟨s3, hc.trans (pcl_no hn5 hn6), rfl⟩⟩⟩⟩
                exact r_iret dX7_readBlocks_65 (ty := .boolean) rfl (by decide) ⟨0, _, _, _, F, _, rfl, by decide, cset_cset.symm, I3, hF, Or.inl ⟨rfl, by rw [cl2_2]⟩⟩
          · refine r_al0 dX7_readBlocks_35 ?_
            refine b_get dX7_readBlocks_36 f_X7_19 hB (by decide) (k9 := 1) rfl rfl ?_
            rw [cl2_2]
            refine r_al0 dX7_readBlocks_39 ?_
            refine b_get dX7_readBlocks_40 f_X7_15 hB (by decide) (k9 := 1) rfl rfl ?_
            rw [cl2_i (by decide) (by decide), e11]
            refine r_icmp_lt (tgt := 48) dX7_readBlocks_43 (by decide) (by (first | omega | decide)) (by (first | omega | decide)) (fun c_43 => ?_) (fun c_43 => ?_)
            · refine r_al0 dX7_readBlocks_48 ?_
              refine b_get dX7_readBlocks_49 f_X7_42 hB (by decide) (k9 := 1) rfl rfl ?_
              rw [cl2_7]
              refine r_if_le (tgt := 66) dX7_readBlocks_52 (by decide) (by (first | omega | decide)) (fun c_52 => ?_) (fun c_52 => ?_)
              · refine r_inc1 dX7_readBlocks_66 rfl ?_
                refine r_goto (tgt := 2) dX7_readBlocks_69 (by decide) ?_
                have hst : st3 = [] := List.eq_nil_of_length_eq_zero (by omega)
                subst hst
                have hlen := hP.len
                refine ww_bud (k' := 6 * f) (n' := 33 * f) (by omega) (by omega) (ww_post (fun v h9 hq9 => ?_) (fun _ _ hx => hx) (ih _ h8 [] _ (i + 1) (by omega) (by omega) (by rw [List.length_append, List.length_singleton]; omega) I3))
                obtain ⟨r, S9, st9, l9, F9, R9, rfl, rb, x1, x2, x3, x4⟩ := hq9
                rw [cl2_2] at x3
                obtain ⟨F, hF⟩ := go3 (F := F9) (R := R9) hc (Or.inr ⟨fun z => z.2 (by omega), x3⟩)
                exact ⟨r, S9, st9, l9, F, R9, rfl, rb, x1, x2, hF, x4⟩
              · exact absurd c_52 (by omega)
            · refine r_iconst dX7_readBlocks_46 ?_
              have hst : st3 = [] := List.eq_nil_of_length_eq_zero (by omega)
              subst hst
              obtain ⟨F, hF⟩ := go3 (F := 0) (R := .inr (l1 ++ [row])) hc (Or.inl ⟨rfl, by omega, rfl⟩)
              exact r_iret dX7_readBlocks_47 (ty := .boolean) rfl (by decide) ⟨1, _, [], l1 ++ [row], F, _, rfl, by decide, cset_cset.symm, I3, hF, Or.inr ⟨rfl, rfl⟩⟩
        · refine r_iconst dX7_readBlocks_22 ?_
          have hb : pleaf (S0 6) (S0 1 1) (S1 1 2) m (par st1) st1.length = .inl (S2 1 2) := by
            rcases hq2 with ⟨-, q⟩ | ⟨q, -⟩
            · exact q
            · exact absurd q (by omega)
          obtain ⟨F, hF⟩ := hP.go ⟨1, Or.inr ⟨hP.stop, m, hm, Or.inl ⟨_, hb, rfl⟩⟩⟩
          exact r_iret dX7_readBlocks_23 (ty := .boolean) rfl (by decide) ⟨0, _, _, _, F, _, rfl, by decide, cset_cset.symm, I2, hF, Or.inl ⟨rfl, rfl⟩⟩
set_option maxRecDepth 100000 in
set_option maxHeartbeats 4000000 in
theorem t_blocks (κ : KP) {B : Nat → Nat} {S0 S : CST} {H0 : AH} (h : AH) (hB : BA B) {st : List Int} {l : List (Int → Int)} (I : RdI κ B S0 H0 (cset B S h) S st l) (h0 : l = []) : MM κ mX7_readBlocks 10 300 1650 [.ref (B 1)] (cset B S h) (fun v h' => ∃ (r : Int) (S1 : CST) (st1 : List Int) (l1 : List (Int → Int)) (F : Nat) (R : Sum Int (List (Int → Int))), v = some (.int (J r)) ∧ (0 ≤ r ∧ r ≤ 1) ∧ h' = cset B S1 h' ∧ RdI κ B S0 H0 h' S1 st1 l1 ∧ PTop (S0 6) (S0 1 1) F (S 1 2) st l R ∧ ((r = 0 ∧ R = .inl (S1 1 2)) ∨ (r = 1 ∧ R = .inr l1))) NoX := by
  refine mm_of (L := [some _, none]) (by decide +kernel) rfl rfl (Nat.le_of_ble_eq_true rfl) rfl ?_
  refine r_iconst dX7_readBlocks_0 ?_
  refine r_is1 dX7_readBlocks_1 rfl ?_
  exact l_blocks κ hB 50 S h st l 0 (by omega) (by omega) (by omega) I
/-- what the reader is between the texts -/
def RdB (S : CST) : Prop := (0 ≤ S 1 1 ∧ S 1 1 ≤ 50) ∧ (∀ i : Int, 0 ≤ i → i < 50 → 0 ≤ S 6 i ∧ S 6 i < 65536) ∧ (0 ≤ S 7 3 ∧ S 7 3 ≤ 16)
set_option maxRecDepth 100000 in
set_option maxHeartbeats 4000000 in
theorem t_text (κ : KP) {B : Nat → Nat} {S : CST} (h : AH) (hB : BA B) (hR : RdB S) : MM κ mX7_readText 11 300 1650 [.ref (B 1)] (cset B S h) (fun v h' => ∃ (r : Int) (S1 : CST) (l1 : List (Int → Int)) (F : Nat) (R : Sum Int (List (Int → Int))), v = some (.int (J r)) ∧ h' = cset B S1 h' ∧ Fr B (cset B S h) h' ∧ SK [1, 7, 8, 9, 10] S S1 ∧ S1 1 1 = 0 ∧ RdB S1 ∧ PTop (S 6) (S 1 1) F 0 [] [] R ∧ ((R = .inl r ∧ 0 ≤ r ∧ r ≤ 50) ∨ (r = -1 ∧ R = .inr l1 ∧ RdL κ h' S1 l1 ∧ 2 * (l1.length : Int) ≤ 50))) NoX := by
  refine mm_of (L := [some _, none]) (by decide +kernel) rfl rfl (Nat.le_of_ble_eq_true rfl) rfl ?_
  refine r_al0 dX7_readText_0 ?_
  refine r_iconst dX7_readText_1 ?_
  refine b_put (k9 := 1) (i9 := 2) dX7_readText_2 f_X7_19 p_X7_19 (ff_11_2 _) hB (by decide) rfl rfl rfl rfl rfl ?_
  refine r_al0 dX7_readText_5 ?_
  refine r_iconst dX7_readText_6 ?_
  refine b_put (k9 := 1) (i9 := 5) dX7_readText_7 f_X7_35 p_X7_35 (ff_11_5 _) hB (by decide) rfl rfl rfl rfl rfl ?_
  refine r_al0 dX7_readText_10 ?_
  refine r_iconst dX7_readText_11 ?_
  refine b_put (k9 := 1) (i9 := 7) dX7_readText_12 f_X7_42 p_X7_42 (ff_11_7 _) hB (by decide) rfl rfl rfl rfl rfl ?_
  refine r_al0 dX7_readText_15 ?_
  have I0 : RdI κ B S (cset B S h) (cset B (updm (updm (updm S 1 2 0) 1 5 0) 1 7 0) h) (updm (updm (updm S 1 2 0) 1 5 0) 1 7 0) [] [] := by
    have z1 : ∀ i : Int, i ≠ 2 → i ≠ 5 → i ≠ 7 → updm (updm (updm S 1 2 0) 1 5 0) 1 7 0 1 i = S 1 i := fun i x2 x5 x7 => by rw [updm_ne (by omega), updm_ne (by omega), updm_ne (by omega)]
    have z2 : ∀ k : Nat, k ≠ 1 → updm (updm (updm S 1 2 0) 1 5 0) 1 7 0 k = S k := fun k hk => by rw [updm_k hk, updm_k hk, updm_k hk]
    have z3 : updm (updm (updm S 1 2 0) 1 5 0) 1 7 0 1 2 = 0 := by rw [updm_ne (by decide), updm_ne (by decide), updm_at]
    have z5 : updm (updm (updm S 1 2 0) 1 5 0) 1 7 0 1 5 = 0 := by rw [updm_ne (by decide), updm_at]
    refine ⟨Fr.cs, ((SK.rf.up (by decide)).up (by decide)).up (by decide), z1 1 (by decide) (by decide) (by decide), ⟨by rw [z1 1 (by decide) (by decide) (by decide)]; exact hR.1, by rw [z2 6 (by decide)]; exact hR.2.1, by rw [z3]; decide, by rw [z3, z1 1 (by decide) (by decide) (by decide)]; exact hR.1.1⟩, OpS.nil, updm_at, by decide, ⟨z5, fun i r hi => by simp at hi⟩, by rw [z3]; decide, by rw [z2 7 (by decide)]; exact hR.2.2⟩
  have z3 : updm (updm (updm S 1 2 0) 1 5 0) 1 7 0 1 2 = 0 := by rw [updm_ne (by decide), updm_ne (by decide), updm_at]
  refine r_callV (As := []) dX7_readText_16 v_X7_45 (cs_obj hB (k9 := 1) (by decide) rfl) (t_blocks κ h hB I0 rfl) (by decide) rfl rfl (cat_le rfl) (by decide) (by decide) (fun v h9 hq9 => ?_) (fun _ _ hx => hx.elim)
  obtain ⟨r1, S1, st1, l1, F, R, rfl, rb1, e9, I1, hF, hq⟩ := hq9
  rw [z3] at hF
  rw [e9] at I1
  have hT1 := I1.2.2.2.1.2.2
  have hT11 := I1.2.2.2.1.1
  show WW κ _ _ _ _ _ _ _ _ (.int (J r1) :: []) h9
  rw [e9]
  refine r_is1 dX7_readText_19 rfl ?_
  refine r_al0 dX7_readText_20 ?_
  refine r_iconst dX7_readText_21 ?_
  refine b_put (k9 := 1) (i9 := 1) dX7_readText_22 f_X7_15 p_X7_15 (ff_11_1 _) hB (by decide) rfl rfl rfl rfl rfl ?_
  refine r_il1 dX7_readText_25 ?_
  refine r_if_eq (tgt := 33) dX7_readText_26 (by decide) (by (first | omega | decide)) (fun c_26 => ?_) (fun c_26 => ?_)
  · refine r_al0 dX7_readText_33 ?_
    refine b_get dX7_readText_34 f_X7_19 hB (by decide) (k9 := 1) rfl rfl ?_
    rw [updm_ne (show ¬ (1 = 1 ∧ (2 : Int) = 1) by decide)]
    obtain ⟨i1, i2, i3, i4, i5, i6, i7, i8, i9, i10⟩ := I1
    obtain ⟨a1, a2, a3, a4⟩ := i4
    have e1 : ∀ k : Nat, k ≠ 1 → updm S1 1 1 0 k = S1 k := fun k hk => updm_k hk
    have e2 : ∀ i : Int, i ≠ 1 → updm S1 1 1 0 1 i = S1 1 i := fun i hi => updm_ne (by omega)
    have rB : RdB (updm S1 1 1 0) := by
      unfold RdB
      rw [updm_at, e1 6 (by decide), e1 7 (by decide)]
      exact ⟨by decide, a2, i10⟩
    obtain hR1 : R = .inl (S1 1 2) := by
      rcases hq with ⟨-, q⟩ | ⟨q, -⟩
      · exact q
      · exact absurd q (by omega)
    refine r_iret dX7_readText_37 (ty := .int) rfl rfl ⟨S1 1 2, _, l1, F, R, rfl, cset_cset.symm, i1.trans Fr.cs, i2.up (by decide), updm_at, rB, hF, Or.inl ⟨hR1, by omega, by omega⟩⟩
  · refine r_iconst dX7_readText_29 ?_
    refine r_goto (tgt := 37) dX7_readText_30 (by decide) ?_
    obtain ⟨i1, i2, i3, i4, i5, i6, i7, i8, i9, i10⟩ := I1
    obtain ⟨a1, a2, a3, a4⟩ := i4
    have e1 : ∀ k : Nat, k ≠ 1 → updm S1 1 1 0 k = S1 k := fun k hk => updm_k hk
    have e2 : ∀ i : Int, i ≠ 1 → updm S1 1 1 0 1 i = S1 1 i := fun i hi => updm_ne (by omega)
    have rB : RdB (updm S1 1 1 0) := by
      unfold RdB
      rw [updm_at, e1 6 (by decide), e1 7 (by decide)]
      exact ⟨by decide, a2, i10⟩
    obtain hR1 : R = .inr l1 := by
      rcases hq with ⟨q, -⟩ | ⟨-, q⟩
      · exact absurd q c_26
      · exact q
    refine r_iret dX7_readText_37 (ty := .int) rfl rfl ⟨-1, _, l1, F, R, rfl, cset_cset.symm, i1.trans Fr.cs, i2.up (by decide), updm_at, rB, hF, Or.inr ⟨rfl, hR1, i8.fx (cfxF hB) (e2 5 (by decide)) (e1 9 (by decide)), by omega⟩⟩
