/-! ===== the desk of a text ===== -/
theorem tgr_iff {M : MEM} {l : List (Int → Int)} (hG : LGo l) (hT : TRw M l) {b : Int} (b0 : 0 ≤ b) (b1 : b < l.length) : TGr (M 21) b ↔ lR l b 5 = 0 := by
  unfold TGr
  rw [hT.row b0 b1 (by decide) (by decide)]
  exact hG.grp b0 b1
theorem QRf_rr {M : MEM} {l : List (Int → Int)} (hG : LGo l) (hT : TRw M l) {r : Int} : QRf (M 21) l.length r ↔ QRR (lR l) l.length r := by
  have e1 : TRg (M 21) l.length ↔ RgA (lR l) l.length := by
    constructor
    · intro h b b0 b1
      by_cases e : lR l b 5 = 0
      · exact Or.inl e
      · have := h b b0 b1 (fun z => e ((tgr_iff hG hT b0 b1).mp z))
        rw [hT.row b0 b1 (by decide) (by decide), hT.row b0 b1 (by decide) (by decide), hT.row b0 b1 (by decide) (by decide)] at this
        unfold QIn at this
        exact Or.inr (by omega)
    · intro h b b0 b1 hn
      rw [hT.row b0 b1 (by decide) (by decide), hT.row b0 b1 (by decide) (by decide), hT.row b0 b1 (by decide) (by decide)]
      rcases h b b0 b1 with z | z
      · exact absurd ((tgr_iff hG hT b0 b1).mpr z) hn
      · unfold QIn
        omega
  have e2 : tlv (M 21) l.length = lvs (lR l) l.length := sz_cong fun b b0 b1 => bP_cong (not_congr (tgr_iff hG hT b0 b1))
  have e4 : ∀ b, tpb (M 21) b l.length = cnt (lR l) b l.length := fun b => sz_cong fun j j0 j1 => by
    rw [show (0 : Int) + 12 * j + 1 = 12 * j + 1 by omega, hT.row j0 j1 (by decide) (by decide)]
  have e3 : TMt (M 21) l.length l.length ↔ MtA (lR l) l.length := by
    constructor
    · intro h b b0 b1 hb
      have := h b b0 b1 ((tgr_iff hG hT b0 b1).mpr hb)
      rw [hT.row b0 b1 (by decide) (by decide), e4] at this
      exact this
    · intro h b b0 b1 hb
      rw [hT.row b0 b1 (by decide) (by decide), e4]
      exact h b b0 b1 ((tgr_iff hG hT b0 b1).mp hb)
  unfold QRf QRR
  rw [e1, e2, e3]
theorem QRR.uniq {R : Int → Int → Int} {n r r' : Int} (h : QRR R n r) (h' : QRR R n r') : r = r' := by
  rcases h with ⟨a, b⟩ | ⟨a, c, b⟩ | ⟨a, c, d, b⟩ | ⟨a, c, d, b⟩ <;> rcases h' with ⟨a', b'⟩ | ⟨a', c', b'⟩ | ⟨a', c', d', b'⟩ | ⟨a', c', d', b'⟩
  all_goals first | exact b.trans b'.symm | exact absurd a' a | exact absurd a a' | exact absurd c' c | exact absurd c c' | exact absurd d' d | exact absurd d d'
/-- the desk g' is g with the rows l as its blocks -/
def GPr (g : Int → Int) (l : List (Int → Int)) (g' : Int → Int) : Prop := (g' 0 = g 0 ∧ g' 1 = g 1 ∧ g' 2 = g 2 ∧ g' 3 = l.length) ∧ (∀ j : Int, 4 ≤ j → j < 60 → g' j = g j) ∧ ∀ b : Int, 0 ≤ b → b < l.length → ∀ w : Int, 0 ≤ w → w < 12 → g' (60 + 12 * b + w) = lR l b w
theorem gps_pr {g : Int → Int} {M : MEM} {l : List (Int → Int)} (hT : TRw M l) (h8 : l.length ≤ 8) : GPr g l (gps g (M 21) l.length 96) := by
  unfold gps
  refine ⟨⟨?_, ?_, ?_, if_pos rfl⟩, fun j j0 j1 => ?_, fun b b0 b1 w w0 w1 => ?_⟩
  · dsimp only
    rw [if_neg (by decide), if_neg (by decide)]
  · dsimp only
    rw [if_neg (by decide), if_neg (by decide)]
  · dsimp only
    rw [if_neg (by decide), if_neg (by decide)]
  · dsimp only
    rw [if_neg (by omega), if_neg (by omega)]
  · dsimp only
    rw [if_neg (by omega), if_pos (by omega), if_pos (by omega), show 60 + 12 * b + w - 60 = 12 * b + w by omega]
    exact hT.row b0 b1 w0 w1
theorem QRR.n8 {R : Int → Int → Int} {n : Int} (h : QRR R n 0) : RgA R n ∧ n ≤ 8 ∧ lvs R n ≤ 4 ∧ MtA R n := by
  rcases h with ⟨-, b⟩ | ⟨-, -, b⟩ | ⟨a, c, d, -⟩ | ⟨-, -, -, b⟩
  · cases b
  · cases b
  · exact ⟨a, by omega, by omega, d⟩
  · cases b
theorem GPr.wf {g g' : Int → Int} {l : List (Int → Int)} (hW : WF g) (hG : LGo l) (hq : QRR (lR l) l.length 0) (h : GPr g l g') : WF g' := by
  obtain ⟨⟨e0, e1, e2, e3⟩, eo, eb⟩ := h
  obtain ⟨q1, q2, q3, q4⟩ := hq.n8
  obtain ⟨w0, w1, w2, w3, -, wc, we, -⟩ := hW
  have gr : ∀ b : Int, 0 ≤ b → b < l.length → (QGr g' b ↔ lR l b 5 = 0) := fun b b0 b1 => by
    unfold QGr
    rw [eb b b0 b1 0 (by decide) (by decide)]
    exact hG.grp b0 b1
  refine ⟨by rw [e0]; exact w0, by rw [e1]; exact w1, by rw [e2]; exact w2, by rw [e3]; omega, ?_, ?_, ?_, ?_⟩
  · have e : qleaves g' = lvs (lR l) l.length := by
      unfold qleaves lvs
      rw [e3]
      exact sz_cong fun b b0 b1 => bP_cong (not_congr (gr b b0 b1))
    omega
  · intro c c0 c1
    rw [e1] at c1
    have := wc c c0 c1
    unfold WFc at this ⊢
    rw [eo (4 + 4 * c + 0) (by omega) (by omega), eo (4 + 4 * c + 1) (by omega) (by omega), eo (4 + 4 * c + 2) (by omega) (by omega), eo (4 + 4 * c + 3) (by omega) (by omega)]
    exact this
  · intro e e00 e01
    rw [e2] at e01
    have := we e e00 e01
    unfold WFe at this ⊢
    rw [eo (28 + 4 * e + 0) (by omega) (by omega), eo (28 + 4 * e + 1) (by omega) (by omega), eo (28 + 4 * e + 2) (by omega) (by omega), eo (28 + 4 * e + 3) (by omega) (by omega)]
    exact this
  · intro b b0 b1
    rw [e3] at b1
    have x := eb b b0 b1
    have hr := hG _ _ (lR_get b0 b1)
    have hpq : qparts g' b = cnt (lR l) b l.length := by
      unfold qparts cnt
      rw [e3]
      exact sz_cong fun k k0 k1 => by rw [eb k k0 k1 1 (by decide) (by decide)]
    have hrg := q1 b b0 b1
    have hmt := q4 b b0 b1
    have hgr := hG.grp b0 b1
    obtain ⟨r0, r11, rp, rg, rl⟩ := hr
    unfold WFb
    rw [x 0 (by decide) (by decide), x 1 (by decide) (by decide), x 2 (by decide) (by decide), x 3 (by decide) (by decide), x 4 (by decide) (by decide), x 5 (by decide) (by decide), x 11 (by decide) (by decide), hpq]
    have hb2 : (b.toNat : Int) = b := Int.toNat_of_nonneg b0
    refine ⟨r0, ?_, ?_, ?_, ?_, ?_, r11, ?_, ?_, ?_, ?_, ?_⟩
    · rcases rp with ⟨c, -⟩ | ⟨p, rp, c1, c2, -⟩ <;> omega
    · clear rp
      rcases r0 with z | z
      · have h5 := (rl z).2.2.2.1
        unfold RRg at hrg
        omega
      · have := (rg z).1
        omega
    · clear rp
      rcases r0 with z | z
      · have h5 := (rl z).2.2.2.1
        unfold RRg at hrg
        omega
      · have := (rg z).2.1
        omega
    · clear rp
      rcases r0 with z | z
      · have h5 := (rl z).2.2.2.1
        unfold RRg at hrg
        omega
      · have := (rg z).2.2.1
        omega
    · clear rp
      rcases r0 with z | z
      · have h5 := (rl z).2.2.2.1
        omega
      · have := (rg z).2.2.2
        omega
    · intro z
      obtain ⟨a1, a2, a3, a4⟩ := rg z
      exact ⟨a1.2, a2, a3, a4, hmt a4⟩
    · clear rp
      intro z
      have h5 := (rl z).2.2.2.1
      unfold RRg at hrg
      omega
    · intro z
      rcases rp with ⟨c, -⟩ | ⟨p, rp, c1, c2, c3, c4, c5⟩
      · omega
      · have ep : lR l (p : Int) = rp := lR_at c3
        rw [c2, eb p (by omega) (by omega) 0 (by decide) (by decide), eb p (by omega) (by omega) 11 (by decide) (by decide), ep]
        exact ⟨c4, c5⟩
    · intro z
      rcases rp with ⟨c, d⟩ | ⟨p, rp, c1, c2, -⟩
      · exact d
      · omega
    · clear rp
      intro k k0 k1
      rw [x (6 + k) (by omega) (by
        rcases r0 with z | z
        · have h5 := (rl z).2.2.2.1
          omega
        · have := (rg z).2.2.2
          omega)]
      rcases r0 with z | z
      · exact (rl z).2.2.2.2 k k0 k1
      · have := (rg z).2.2.2
        omega
theorem GPr.wg {g g' : Int → Int} {l : List (Int → Int)} (hW : WF g) (hg : WG g) (h : GPr g l g') : WG g' := by
  obtain ⟨⟨e0, e1, e2, e3⟩, eo, eb⟩ := h
  intro c c0 c1
  rw [e1] at c1
  have n1 := hW.n.2.1
  have := hg c c0 c1
  rw [eo (4 + 4 * c + 0) (by omega) (by omega), eo (4 + 4 * c + 1) (by omega) (by omega), eo (4 + 4 * c + 3) (by omega) (by omega), e0]
  exact this
theorem GPr.desk {κ : KP} {h h' : AH} {q q' cr eq p p9 nc ne nb : Nat} {g g' : Int → Int} {l : List (Int → Int)} (hW : WF g) (H : DkV κ h q g cr eq p nc ne nb) (x : Fx h h') (hP : PrR κ h' p9 l.length (lR l)) (hO : ObF h' q' 7 [.int (J (g 0)), .ref cr, .ref eq, .ref p9]) (hg : GPr g l g') : DeskAt κ h' q' g' := by
  obtain ⟨⟨e0, e1, e2, e3⟩, eo, eb⟩ := hg
  obtain ⟨-, hC, hE, -, n1, n2, n3⟩ := H
  have n0 := hW.n
  exact ⟨cr, eq, p9, nc, ne, l.length, by rw [e0]; exact hO, (hC.fx x).cong (fun c c0 c1 w w0 w1 => (eo _ (by omega) (by omega)).symm), (hE.fx x).cong (fun c c0 c1 w w0 w1 => (eo _ (by omega) (by omega)).symm), hP.cong (fun b b0 b1 w w0 w1 => (eb b b0 b1 w w0 w1).symm), by rw [e1]; exact n1, by rw [e2]; exact n2, e3.symm⟩
/-! ===== readProgram of the class ===== -/
theorem HK.of {H H' : AH} {S S' : CST} (x : Fx H H') (e2 : S' 2 = S 2) (e11 : S' 11 = S 11) (h : HK H S) : HK H' S' := by
  unfold HK
  rw [e2, e11]
  exact h.fx x
set_option maxRecDepth 100000 in
set_option maxHeartbeats 4000000 in
theorem x_readP (κ : KP) {B : Nat → Nat} {S : CST} {Γ : Nat → Int → Int} {q : Nat} (h : AH) (hB : BA B) (hI : ClS κ (cset B S h) S Γ q) (hH : HK (cset B S h) S) (hR : RdB S) : MM κ mX9_readProgram 12 310 1900 [.ref (B 0)] (cset B S h) (fun v h' => ∃ (l : List (Int → Int)) (F : Nat) (S1 S4 : CST) (q1 : Nat), v = some (.int (J l.length)) ∧ PTop (S 6) (S 1 1) F 0 [] [] (.inr l) ∧ QRR (lR l) l.length 0 ∧ Fr B (cset B S h) h' ∧ SK [1, 7, 8, 9, 10] S S1 ∧ S1 1 1 = 0 ∧ RdB S1 ∧ HKp (updm S1 0 7 (-1)) S4 q ∧ h' = cset B (updm S4 0 5 (q1 : Int)) h' ∧ cset B S h q1 = none ∧ ∀ g', GPr (Γ q) l g' → DeskAt κ h' q1 g') (fun E' h' => (E' = EIA ∧ ∃ (F : Nat) (S1 : CST) (r : Int), PTop (S 6) (S 1 1) F 0 [] [] (.inl r) ∧ Fr B (cset B S h) h' ∧ SK [1, 7, 8, 9, 10] S S1 ∧ S1 1 1 = 0 ∧ RdB S1 ∧ (0 ≤ r ∧ r ≤ 50) ∧ h' = cset B (updm S1 0 7 r) h') ∨ (E' = EUO ∧ ∃ (l : List (Int → Int)) (F : Nat) (S1 : CST) (no : Int), PTop (S 6) (S 1 1) F 0 [] [] (.inr l) ∧ QRR (lR l) l.length no ∧ no ≠ 0 ∧ Fr B (cset B S h) h' ∧ SK [1, 7, 8, 9, 10] S S1 ∧ S1 1 1 = 0 ∧ RdB S1 ∧ h' = cset B (updm (updm S1 0 7 (-1)) 0 8 no) h')) := by
  refine mm_of (L := [some _, none, none]) (by decide +kernel) rfl rfl (Nat.le_of_ble_eq_true rfl) rfl ?_
  obtain ⟨h05, hD, hW, hG, hU⟩ := id hI
  obtain ⟨cr, eq, p, nc, ne, nb, hDV⟩ := id hD
  refine r_al0 dX9_readProgram_0 ?_
  refine r_al0 dX9_readProgram_1 ?_
  refine b_get dX9_readProgram_2 f_X9_10 hB (by decide) (k9 := 0) rfl rfl ?_
  refine r_callV (As := []) dX9_readProgram_5 v_X9_216 (cs_obj hB (k9 := 1) (by decide) rfl) (t_text κ h hB hR) (by decide) rfl rfl (cat_le rfl) (by decide) (by decide) (fun v h9 hq9 => ?_) (fun _ _ hx => hx.elim)
  obtain ⟨r, S1, l, F, R, rfl, e9, f9, k9, s11, rB, hF, hq⟩ := hq9
  have hrr : -1 ≤ r ∧ r ≤ 50 := by rcases hq with ⟨-, a, b⟩ | ⟨a, -⟩ <;> omega
  rw [e9] at f9
  have hq : (R = .inl r ∧ 0 ≤ r ∧ r ≤ 50) ∨ (r = -1 ∧ R = .inr l ∧ RdL κ (cset B S1 h9) S1 l ∧ 2 * (l.length : Int) ≤ 50) := by
    rw [e9] at hq
    exact hq
  have k0 : S1 0 = S 0 := k9 0 (by decide)
  have k2 : S1 2 = S 2 := k9 2 (by decide)
  have k11 : S1 11 = S 11 := k9 11 (by decide)
  show WW κ _ _ _ _ _ _ _ _ (.int (J r) :: .ref (B 0) :: []) h9
  rw [e9]
  refine b_put (k9 := 0) (i9 := 7) dX9_readProgram_8 f_X9_65 p_X9_65 (ff_13_7 _) hB (by decide) rfl rfl rfl rfl rfl ?_
  refine r_al0 dX9_readProgram_11 ?_
  refine b_get dX9_readProgram_12 f_X9_65 hB (by decide) (k9 := 0) rfl rfl ?_
  rw [updm_at]
  refine r_iconst dX9_readProgram_15 ?_
  refine r_icmp_eq (tgt := 27) dX9_readProgram_16 (by decide) (by (first | omega | decide)) (by (first | omega | decide)) (fun c_16 => ?_) (fun c_16 => ?_)
  · obtain rfl : r = -1 := c_16
    refine r_al0 dX9_readProgram_27 ?_
    refine b_get dX9_readProgram_28 f_X9_10 hB (by decide) (k9 := 0) rfl rfl ?_
    obtain ⟨hRl, hL, hn⟩ : R = .inr l ∧ RdL κ (cset B S1 h9) S1 l ∧ 2 * (l.length : Int) ≤ 50 := by
      rcases hq with ⟨-, a, b⟩ | ⟨-, a, b, c⟩
      · omega
      · exact ⟨a, b, c⟩
    rw [hRl] at hF
    have hGl := hF.good0
    have z2 : ∀ k : Nat, k ≠ 0 → updm S1 0 7 (-1) k = S1 k := fun k hk => updm_k hk
    have hL2 : RdL κ (cset B (updm S1 0 7 (-1)) h9) (updm S1 0 7 (-1)) l := hL.fx (cfxF hB) (by rw [z2 1 (by decide)]) (z2 9 (by decide))
    refine r_callV (As := []) dX9_readProgram_31 v_X9_219 (cs_obj hB (k9 := 1) (by decide) rfl) (t_bRead κ h9 hB hL2 hn) (by decide) rfl rfl (cat_le rfl) (by decide) (by decide) (fun v h8 hq8 => ?_) (fun _ _ hx => hx.elim)
    obtain ⟨bl, rfl, x8, hBl⟩ := hq8
    have e8 := x8.cs hB
    rw [e8] at x8 hBl
    show WW κ _ _ _ _ _ _ _ _ (.ref bl :: []) h8
    rw [e8]
    refine r_as1 dX9_readProgram_34 rfl ?_
    refine r_al1 dX9_readProgram_35 ?_
    refine r_callS (As := [.ref bl]) dX9_readProgram_36 s_X9_223 (c_reason κ _ (n := l.length) (by omega) hBl hGl.rw) (by decide) rfl rfl (cat_le rfl) (by decide) (by decide) (fun v h7 hq7 => ?_) (fun _ _ hx => hx.elim)
    obtain ⟨no, rfl, hno, x7⟩ := hq7
    have hno5 : 0 ≤ no ∧ no ≤ 5 := by rcases hno with ⟨-, a⟩ | ⟨-, -, a⟩ | ⟨-, -, -, a⟩ | ⟨-, -, -, a⟩ <;> omega
    have e7 := x7.cs hB
    rw [e7] at x7
    have x97 := x8.trans x7
    show WW κ _ _ _ _ _ _ _ _ (.int (J no) :: []) h7
    rw [e7]
    refine r_is2 dX9_readProgram_39 rfl ?_
    refine r_il2 dX9_readProgram_40 ?_
    refine r_if_eq (tgt := 57) dX9_readProgram_41 (by decide) (by (first | omega | decide)) (fun c_41 => ?_) (fun c_41 => ?_)
    · have hno0 : QRR (lR l) l.length 0 := by rw [← c_41]; exact hno
      have u05 : updm S1 0 7 (-1) 0 5 = (q : Int) := by rw [updm_ne (by decide), k0]; exact h05
      have fx7 : Fx (cset B S h) (cset B (updm S1 0 7 (-1)) h7) := ((f9.trans Fr.cs).trans x97.fr).fx hB
      have hDV7 := hDV.fx fx7
      refine r_al0 dX9_readProgram_57 ?_
      refine r_al0 dX9_readProgram_58 ?_
      refine b_getR dX9_readProgram_59 f_X9_39 hB (by decide) rfl rfl u05 ?_
      refine r_new dX9_readProgram_62 n_X9_29 (by decide) (by decide) (fun a6 ha6 => ?_)
      refine r_dup dX9_readProgram_65 rfl ?_
      refine r_al1 dX9_readProgram_66 ?_
      refine r_callI (As := [.ref bl]) dX9_readProgram_67 i_X9_33 (c_prInit κ _ (n := l.length) (by have := hno0.n8.2.1; omega) (hBl.fx (x7.trans (Ext.up ha6)).fx) hGl.rw upA_same hno0.n8.2.2.1) (by decide) rfl rfl (cat_le rfl) (by decide) (by decide) (fun v h6 hq6 => ?_)
      obtain ⟨rfl, x6, hPr⟩ := hq6
      have x76 := x6.ext ha6
      have e6 := x76.cs hB
      rw [e6] at x76 hPr
      show WW κ _ _ _ _ _ _ _ _ (.ref a6 :: .ref q :: .ref (B 0) :: []) h6
      rw [e6]
      have hDV6 := hDV7.fx x76.fx
      obtain ⟨hO6, -⟩ := id hDV6
      refine r_callV (As := [.ref a6]) dX9_readProgram_70 v_X9_226 hO6 (c_withProgram κ _ hDV6) (by decide) rfl rfl (cat_le rfl) (by decide) (by decide) (fun v h5 hq5 => ?_) (fun _ _ hx => hx.elim)
      obtain ⟨q1, rfl, x5, hO5⟩ := hq5
      have e5 := x5.1.cs hB
      rw [e5] at x5 hO5
      show WW κ _ _ _ _ _ _ _ _ (.ref q1 :: .ref (B 0) :: []) h5
      rw [e5]
      have hDV5 := hDV6.fx x5.1.fx
      obtain ⟨hOq, -⟩ := id hDV5
      have x85 := (x97.trans x76).trans x5.1
      have hnew : cset B S h q1 = none := by
        cases hc : cset B S h q1 with
        | none => rfl
        | some c =>
          exfalso
          by_cases hk : ∃ k ∈ bids, B k = q1
          · obtain ⟨k, hk1, hk2⟩ := hk
            have a := cset_at (B := B) (S := updm S1 0 7 (-1)) (h := h6) hB hk1
            rw [hk2, x5.2] at a
            cases a
          · have a := (((f9.trans Fr.cs).trans x97.fr).trans x76.fr) q1 c (fun k hk1 hk2 => hk ⟨k, hk1, hk2⟩) hc
            rw [x5.2] at a
            cases a
      have hg : ∀ g', GPr (Γ q) l g' → DeskAt κ (cset B (updm S1 0 7 (-1)) h5) q1 g' := fun g' hg => hg.desk hW hDV6 x5.1.fx (hPr.fx x5.1.fx) hO5
      refine r_callV (As := [.ref q1]) dX9_readProgram_73 v_X9_93 (cs_obj hB (k9 := 0) (by decide) rfl) (x_changeTo κ h5 hB u05 hOq (hH.of (((f9.trans Fr.cs).trans x85.fr).fx hB) (by rw [updm_k (by decide)]; exact k2) (by rw [updm_k (by decide)]; exact k11))) (by decide) rfl rfl (cat_le rfl) (Nat.zero_le _) (Nat.zero_le _) (fun v h4 hq4 => ?_) (fun _ _ hx => hx.elim)
      obtain ⟨rfl, S4, hk4, rfl⟩ := hq4
      show WW κ _ _ _ _ _ _ _ _ [] _
      obtain ⟨fb, hAb, -⟩ := hBl.fx ((x7.trans x76).trans x5.1).fx
      refine r_al1 dX9_readProgram_76 ?_
      refine r_alenF dX9_readProgram_77 (cfx hB hAb) (by decide) rfl ?_
      exact r_iret dX9_readProgram_78 (ty := .int) rfl rfl ⟨l, F, S1, S4, q1, rfl, hF, hno0, ((f9.trans Fr.cs).trans x85.fr).trans Fr.cs, k9, s11, rB, hk4, cset_cset.symm, hnew, fun g' hg' => (hg g' hg').fx (cfxF hB)⟩
    · refine r_al0 dX9_readProgram_44 ?_
      refine r_il2 dX9_readProgram_45 ?_
      refine b_put (k9 := 0) (i9 := 8) dX9_readProgram_46 f_X9_69 p_X9_69 (ff_13_8 _) hB (by decide) rfl rfl rfl rfl rfl ?_
      exact r_throw rfl (by decide) th_X9_readProgram_49 (by decide) (by decide) (by decide) (Or.inr ⟨rfl, l, F, S1, no, hF, hno, c_41, ((f9.trans Fr.cs).trans x97.fr).trans Fr.cs, k9, s11, rB, cset_cset.symm⟩)
  · have hRl : R = .inl r ∧ 0 ≤ r := by
      rcases hq with ⟨a, b, -⟩ | ⟨a, -⟩
      · exact ⟨a, b⟩
      · exact absurd a c_16
    rw [hRl.1] at hF
    exact r_throw rfl (by decide) th_X9_readProgram_19 (by decide) (by decide) (by decide) (Or.inl ⟨rfl, F, S1, r, hF, f9.trans Fr.cs, k9, s11, rB, ⟨hRl.2, hrr.2⟩, cset_cset.symm⟩)
