/-! ===== the questions that try desks ===== -/
/-- a desk was made and tried -/
theorem RP.trial {κ : KP} {B : Nat → Nat} {S S' : CST} {h h1 : AH} {Γ : Nat → Int → Int} {q q1 : Nat} {g1 : Int → Int} (hB : BA B) (hI : ClS κ (cset B S h) S Γ q) (x : Exn q1 (cset B S h) (cset B S h1)) (y : SK [4, 16, 17, 18, 19] S S') (hK : UK κ (cset B S' h1) g1 S' 4 q1) : RP κ B S h Γ q (cset B S' h1) := by
  have hfr : Fr B (cset B S h) (cset B S' h1) := x.1.fr.trans Fr.cs
  have hfx := hfr.fx hB
  have hne : ∀ a : Nat, cset B S h a ≠ none → a ≠ q1 := fun a ha e => ha (by rw [e]; exact x.2)
  have hq := hne q hI.ne
  obtain ⟨h1', h2, h3, h4, h5⟩ := hI
  have hG : (fun a => if a = q1 then g1 else Γ a) q = Γ q := if_neg hq
  refine ⟨S', fun a => if a = q1 then g1 else Γ a, cset_cset.symm, hfr, y.mono (by decide), fun a ha => if_neg (hne a ha), by rw [y 0 (by decide)]; exact h1', by rw [hG]; exact h2.fx hfx, by rw [hG]; exact h3, by rw [hG]; exact h4, fun u hu => ?_⟩
  rcases hu with rfl | rfl
  · obtain ⟨q0, h6⟩ := h5 3 (Or.inl rfl)
    refine ⟨q0, ?_⟩
    show UK κ _ (if q0 = q1 then g1 else Γ q0) S' 3 q0
    rw [if_neg (hne q0 h6.ne)]
    exact h6.fx hfx (y 3 (by decide)) (y _ (by decide))
  · refine ⟨q1, ?_⟩
    show UK κ _ (if q1 = q1 then g1 else Γ q1) S' 4 q1
    rw [if_pos rfl]
    exact hK
/-- what goes on after a question -/
theorem RP.cont {κ : KP} {B : Nat → Nat} {S S1 : CST} {h h2 : AH} {Γ Γ1 : Nat → Int → Int} {q : Nat} (hB : BA B) (x1 : Fr B (cset B S h) (cset B S1 h2)) (y1 : SK RDL S S1) (z1 : GX (cset B S h) Γ Γ1) (h3 : AH) (hr : RP κ B S1 h2 Γ1 q h3) : RP κ B S h Γ q h3 := by
  obtain ⟨S2, Γ2, e2, x2, y2, z2, w2⟩ := hr
  refine ⟨S2, Γ2, e2, x1.trans x2, y1.same y2, fun a ha => ?_, w2⟩
  rw [← z1 a ha]
  refine z2 a ?_
  cases hc : cset B S h a with
  | none => exact absurd hc ha
  | some c =>
    by_cases kk : ∃ k ∈ bids, B k = a
    · obtain ⟨k, k1, rfl⟩ := kk
      rw [cset_at hB k1]
      exact fun z => by cases z
    · rw [x1 a c (fun j k1 k2 => kk ⟨j, k1, k2⟩) hc]
      exact fun z => by cases z
theorem RP.go {κ : KP} {B : Nat → Nat} {S : CST} {h h1 : AH} {Γ : Nat → Int → Int} {q : Nat} (hB : BA B) (hI : ClS κ (cset B S h) S Γ q) (hr : RP κ B S h Γ q h1) : ∃ (S1 : CST) (Γ1 : Nat → Int → Int) (h2 : AH), h1 = cset B S1 h2 ∧ ClS κ (cset B S1 h2) S1 Γ1 q ∧ Γ1 q = Γ q ∧ ∀ h3, RP κ B S1 h2 Γ1 q h3 → RP κ B S h Γ q h3 := by
  obtain ⟨S1, Γ1, e1, x1, y1, z1, w1⟩ := hr
  exact ⟨S1, Γ1, h1, e1, by rw [← e1]; exact w1, z1 q hI.ne, RP.cont hB (by rw [← e1]; exact x1) y1 z1⟩
theorem DeskAt.yr {κ : KP} {h h1 : AH} {q q1 cr eq p nc ne nb : Nat} {g : Int → Int} {y : Int} (H : DkV κ h q g cr eq p nc ne nb) (x : Exn q1 h h1) (hO : ObF h1 q1 7 [.int (J y), .ref cr, .ref eq, .ref p]) : DeskAt κ h1 q1 (upz g 0 y) := by
  obtain ⟨-, hC, hE, hP, e1, e2, e3⟩ := H
  have e : ∀ i : Int, 0 < i → upz g 0 y i = g i := fun i hi => upz_ne (by omega)
  refine ⟨cr, eq, p, nc, ne, nb, by rw [upz_same]; exact hO, (hC.fx x.1.fx).cong (fun c c0 c1 w w0 w1 => (e _ (by omega)).symm), (hE.fx x.1.fx).cong (fun c c0 c1 w w0 w1 => (e _ (by omega)).symm), (hP.fx x.1.fx).cong (fun b b0 b1 w w0 w1 => (e _ (by omega)).symm), ?_, ?_, ?_⟩
  · rw [e 1 (by decide)]; exact e1
  · rw [e 2 (by decide)]; exact e2
  · rw [e 3 (by decide)]; exact e3
theorem QTk_yr {g : Int → Int} {y b c : Int} (b0 : 0 ≤ b) (c0 : 0 ≤ c) : QTk (upz g 0 y) b c ↔ ¬ QGr g b ∧ QHas g b (g (4 + 4 * c + 0)) ∧ g (60 + 12 * b + 4) ≤ g (4 + 4 * c + 2) ∧ ¬ g (60 + 12 * b + 3) < y - g (4 + 4 * c + 3) := by
  have e : ∀ i : Int, 0 < i → upz g 0 y i = g i := fun i hi => upz_ne (by omega)
  have hh : ∀ x, QHas (upz g 0 y) b x ↔ QHas g b x := fun x => exists_congr fun k => and_congr_right fun k0 => by rw [e (60 + 12 * b + 5) (by omega), e (60 + 12 * b + (6 + k)) (by omega)]
  unfold QTk QOld QGr
  rw [hh, upz_same, e (60 + 12 * b + 0) (by omega), e (4 + 4 * c + 0) (by omega), e (4 + 4 * c + 2) (by omega), e (4 + 4 * c + 3) (by omega), e (60 + 12 * b + 4) (by omega), e (60 + 12 * b + 3) (by omega)]
theorem GY.yr {g : Int → Int} {y z : Int} : GY (upz g 0 y) (upz g 0 z) := by
  have e : ∀ i : Int, 0 < i → upz g 0 y i = upz g 0 z i := fun i hi => by rw [upz_ne (by omega), upz_ne (by omega)]
  exact ⟨⟨e 1 (by decide), e 2 (by decide), e 3 (by decide)⟩, fun c c0 c1 w w0 w1 => e _ (by omega), fun c c0 c1 w w0 w1 => e _ (by omega), fun c c0 c1 w w0 w1 => e _ (by omega)⟩
/-- where no acceptance ends, the next year has the same roots -/
theorem QRo.step {g : Int → Int} {y n : Int} (hno : ¬ ∃ c b, 0 ≤ c ∧ c < g 1 ∧ 0 ≤ b ∧ b < g 3 ∧ LYr g (y - 1) c b) (h : QRo (upz g 0 (y - 1)) n) : QRo (upz g 0 y) n := by
  obtain ⟨u, h1, h2⟩ := h
  refine ⟨u, gy_best GY.yr (fun b c b0 b1 c0 c1 => ?_) h1, by rw [h2]; exact gy_roots GY.yr u⟩
  rw [upz_ne (by decide)] at b1 c1
  rw [QTk_yr b0 c0, QTk_yr b0 c0]
  refine and_congr_right fun _ => and_congr_right fun hh => and_congr_right fun _ => not_congr ?_
  have : ¬ g (4 + 4 * c + 3) + g (60 + 12 * b + 3) = y - 1 := fun z => hno ⟨c, b, c0, c1, b0, b1, hh, z⟩
  omega
theorem upz_same0 {g : Int → Int} : upz g 0 (g 0) = g := by
  funext j
  by_cases e : j = 0
  · rw [e, upz_same]
  · rw [upz_ne e]
theorem lap_no {g : Int → Int} {y had : Int} (hhad : QRo g had) (hno : ¬ ∃ c b, 0 ≤ c ∧ c < g 1 ∧ 0 ≤ b ∧ b < g 3 ∧ LYr g (y - 1) c b) (y0 : g 0 < y) (hz : ∀ z, g 0 < z → z < y → ∃ n, QRo (upz g 0 z) n ∧ had ≤ n) : ∃ n, QRo (upz g 0 y) n ∧ had ≤ n := by
  by_cases e : y - 1 = g 0
  · refine ⟨had, QRo.step hno ?_, by omega⟩
    rw [e, upz_same0]
    exact hhad
  · obtain ⟨n, h1, h2⟩ := hz (y - 1) (by omega) (by omega)
    exact ⟨n, QRo.step hno h1, h2⟩
theorem QBs.lo {g : Int → Int} {e is most : Int} (h : QBs g e is most) (e0 : 0 ≤ e) : -1 ≤ is ∧ is < e + 1 ∧ -1 ≤ most := by
  rcases h with ⟨h1, h2, -⟩ | ⟨h1, h2, h3, -⟩ <;> omega
theorem QBs.up {g : Int → Int} {e is most n : Int} (h : QBs g e is most) (e0 : 0 ≤ e) (hn : QRb g e n) (hl : most < n) : QBs g (e + 1) e n := by
  have hm := (h.lo e0).2.2
  refine Or.inr ⟨e0, by omega, by omega, hn, fun k k0 k1 => ?_⟩
  rcases (show k < e ∨ k = e by omega) with z | z
  · rcases h with ⟨-, h2, h3⟩ | ⟨-, -, -, -, h3⟩
    · exact ⟨-1, h3 k k0 z, by omega, fun _ => by omega⟩
    · obtain ⟨m, a, b, c⟩ := h3 k k0 z
      exact ⟨m, a, by omega, fun _ => by omega⟩
  · rw [z]
    exact ⟨n, hn, by omega, fun z => by omega⟩
theorem QBs.no {g : Int → Int} {e is most n : Int} (h : QBs g e is most) (e0 : 0 ≤ e) (hn : QRb g e n) (h9 : -1 ≤ n) (hl : n ≤ most) : QBs g (e + 1) is most := by
  rcases h with ⟨h1, h2, h3⟩ | ⟨h1, h2, h4, h5, h3⟩
  · refine Or.inl ⟨h1, h2, fun k k0 k1 => ?_⟩
    rcases (show k < e ∨ k = e by omega) with z | z
    · exact h3 k k0 z
    · rw [z, show (-1 : Int) = n by omega]
      exact hn
  · refine Or.inr ⟨h1, by omega, h4, h5, fun k k0 k1 => ?_⟩
    rcases (show k < e ∨ k = e by omega) with z | z
    · exact h3 k k0 z
    · rw [z]
      exact ⟨n, hn, hl, fun _ => by omega⟩
set_option maxRecDepth 100000 in
set_option maxHeartbeats 4000000 in
theorem x_rootsIn (κ : KP) {B : Nat → Nat} {S : CST} (h : AH) (hB : BA B) {q1 q0 : Nat} {g1 g0 : Int → Int} (hW : WF g1) (hD : DeskAt κ (cset B S h) q1 g1) (hK0 : UK κ (cset B S h) g0 S 4 q0) (hg : q0 = q1 → g0 = g1) : MM κ mX9_rootsIn 21 0 0 [.ref (B 0), .ref q1] (cset B S h) (fun v h' => ∃ (r : Int) (S' : CST), v = some (.int (J r)) ∧ QRo g1 r ∧ h' = cset B S' h ∧ SK [4, 16, 17, 18, 19] S S' ∧ UK κ (cset B S' h) g1 S' 4 q1) NoX := by
  refine mm_of (L := [some _, some _]) (by decide +kernel) rfl rfl (Nat.le_of_ble_eq_true rfl) rfl ?_
  refine r_al0 dX9_rootsIn_0 ?_
  refine b_get dX9_rootsIn_1 f_X9_52 hB (by decide) (k9 := 0) rfl rfl ?_
  refine r_al1 dX9_rootsIn_4 ?_
  refine r_callV (As := [.ref q1]) dX9_rootsIn_5 v_X9_347 (cs_obj hB (k9 := 4) (by decide) rfl) (c_find κ h hB (u := 4) (Or.inr rfl) hW hD hK0 hg) (by decide) rfl rfl (cat_le rfl) (Nat.zero_le _) (Nat.zero_le _) (fun v h9 hq9 => ?_) (fun _ _ hx => hx.elim)
  obtain ⟨rfl, S9, rfl, x9, hK⟩ := hq9
  obtain ⟨U, hK9⟩ := hK.u
  refine r_al0 dX9_rootsIn_8 ?_
  refine b_get dX9_rootsIn_9 f_X9_52 hB (by decide) (k9 := 0) rfl rfl ?_
  refine r_callVP0 dX9_rootsIn_12 v_X9_281 (cs_obj hB (k9 := 4) (by decide) rfl) (k_rootsMet κ h hB (Or.inr rfl) hK9) (by decide) rfl ?_
  exact r_iret dX9_rootsIn_15 (ty := .int) rfl rfl ⟨_, S9, rfl, ⟨U, hK9.best, rfl⟩, rfl, x9, hK⟩
set_option maxRecDepth 100000 in
set_option maxHeartbeats 4000000 in
theorem x_rootsAfter (κ : KP) {B : Nat → Nat} {S : CST} {Γ : Nat → Int → Int} {q : Nat} (h : AH) (hB : BA B) (hI : ClS κ (cset B S h) S Γ q) {e : Int} (e0 : 0 ≤ e) (e9 : e < Γ q 2) {ea : Nat} (hx : EqR (cset B S h) ea (eqg (Γ q) e)) : MM κ mX9_rootsAfter 22 20 112 [.ref (B 0), .ref ea] (cset B S h) (fun v h' => ∃ n, v = some (.int (J n)) ∧ (-1 ≤ n ∧ n ≤ 8) ∧ QRb (Γ q) e n ∧ RP κ B S h Γ q h') NoX := by
  refine mm_of (L := [some _, some _]) (by decide +kernel) rfl rfl (Nat.le_of_ble_eq_true rfl) rfl ?_
  obtain ⟨h05, hD, hW, hG, hU⟩ := id hI
  obtain ⟨cr, eq, p, nc, ne, nb, hO, hC, hE, hP, e1, e2, e3⟩ := id hD
  have hDV : DkV κ (cset B S h) q (Γ q) cr eq p nc ne nb := ⟨hO, hC, hE, hP, e1, e2, e3⟩
  obtain ⟨fc, hAc, hbc⟩ := id hC
  obtain ⟨fe, hAe, hbe⟩ := id hE
  obtain ⟨bl, lv, ms, mr, N, lf, fm, fr, hV⟩ := id hP
  have hOp := hV.1
  have hAl := hV.2.2.1
  obtain ⟨fb, hAb, hbb⟩ := id hV.2.1
  have n0 := hW.n
  have hRw := hW.rw e3
  refine r_al0 dX9_rootsAfter_0 ?_
  refine b_getR dX9_rootsAfter_1 f_X9_39 hB (by decide) rfl rfl (by first | exact h05 | exact h05u) ?_
  refine r_al1 dX9_rootsAfter_4 ?_
  refine r_callVQ1 dX9_rootsAfter_5 v_X9_192 hO (c_against2 κ _ hDV hW e0 e9 hx) (by decide) rfl (fun r_5 rr_5 hr_5 => ?_)
  refine r_if_eq (tgt := 13) dX9_rootsAfter_8 (by decide) (by (first | assumption | omega)) (fun c_8 => ?_) (fun c_8 => ?_)
  · have hag : QAga (Γ q) e 0 := by rw [← c_8]; exact hr_5
    refine r_al0 dX9_rootsAfter_13 ?_
    refine r_al0 dX9_rootsAfter_14 ?_
    refine b_getR dX9_rootsAfter_15 f_X9_39 hB (by decide) rfl rfl (by first | exact h05 | exact h05u) ?_
    refine r_al1 dX9_rootsAfter_18 ?_
    refine r_callV (As := [.ref ea]) dX9_rootsAfter_19 v_X9_196 hO (c_after κ _ hDV ⟨hW, hG⟩ e0 e9 hx hag) (by decide) rfl rfl (cat_le rfl) (by decide) (by decide) (fun v h7 hq7 => ?_) (fun _ _ hx => hx.elim)
    obtain ⟨q1, r1, g1, rfl, hx1, hap, hD1⟩ := hq7
    obtain ⟨h8, rfl⟩ : ∃ h8, h7 = cset B S h8 := ⟨h7, Ext.cs hB hx1.1⟩
    have hW1 := (CW.ap ⟨hW, hG⟩ e0 e9 hag hap).1
    obtain ⟨q4, hU4⟩ := hU 4 (Or.inr rfl)
    refine r_callV (As := [.ref q1]) dX9_rootsAfter_22 v_X9_284 (cs_obj hB (k9 := 0) (by decide) rfl) (x_rootsIn κ h8 hB hW1 hD1 (hU4.fx hx1.1.fx rfl rfl) (fun z => absurd hx1.2 (by rw [← z]; exact hU4.ne))) (by decide) rfl rfl (cat_le rfl) (Nat.zero_le _) (Nat.zero_le _) (fun v h9 hq9 => ?_) (fun _ _ hx => hx.elim)
    obtain ⟨r2, S2, rfl, hro, rfl, x2, hK2⟩ := hq9
    have hrb := hro.bd hW1
    obtain ⟨u1, hu1, hu2⟩ := hro
    exact r_iret dX9_rootsAfter_25 (ty := .int) rfl rfl ⟨_, rfl, by omega, Or.inr ⟨hag, r1, g1, u1, hap, hu1, hu2⟩, RP.trial hB hI hx1 x2 hK2⟩
  · refine r_iconst dX9_rootsAfter_11 ?_
    exact r_iret dX9_rootsAfter_12 (ty := .int) rfl rfl ⟨_, rfl, by decide, Or.inl ⟨fun z => c_8 (hr_5.uniq z), rfl⟩, RP.id hI⟩
theorem QRb.no {g : Int → Int} {e n : Int} (h : CW g) (e0 : 0 ≤ e) (e1 : e < g 2) (hn : n = -1) (hb : QRb g e n) : ¬ QAga g e 0 := by
  rcases hb with ⟨h1, -⟩ | ⟨h1, r', g', u, h2, h3, h4⟩
  · exact h1
  · have := qroots_bd (U := u) (h.ap e0 e1 h1 h2).1
    omega
theorem QRb.yes {g : Int → Int} {e n : Int} (hn : n ≠ -1) (hb : QRb g e n) : QAga g e 0 := by
  rcases hb with ⟨h1, h2⟩ | ⟨h1, -⟩
  · exact absurd h2 hn
  · exact h1
def R_rw (g : Int → Int) (a b c e t r : Int) : Prop := (¬ QMay g a b c e ∧ t = 1) ∨ (QMay g a b c e ∧ g 1 = 6 ∧ t = 2) ∨ (QMay g a b c e ∧ g 1 ≠ 6 ∧ t = 0 ∧ QRo (gcm g a b c e) r)
set_option maxRecDepth 100000 in
set_option maxHeartbeats 4000000 in
theorem x_rootsBy (κ : KP) {B : Nat → Nat} {S : CST} {Γ : Nat → Int → Int} {q : Nat} (h : AH) (hB : BA B) (hI : ClS κ (cset B S h) S Γ q) {e : Int} (re : rng e) : MM κ mX9_rootsBy 23 21 118 [.ref (B 0), .int (J e)] (cset B S h) (RD κ B S h Γ q (R_rootsBy (Γ q) e)) (RE κ B S h Γ q (R_rootsBy (Γ q) e) [EIO, ENS]) := by
  refine mm_of (L := [some _, some _, none]) (by decide +kernel) rfl rfl (Nat.le_of_ble_eq_true rfl) rfl ?_
  obtain ⟨h05, hD, hW, hG, hU⟩ := id hI
  obtain ⟨cr, eq, p, nc, ne, nb, hO, hC, hE, hP, e1, e2, e3⟩ := id hD
  have hDV : DkV κ (cset B S h) q (Γ q) cr eq p nc ne nb := ⟨hO, hC, hE, hP, e1, e2, e3⟩
  obtain ⟨fc, hAc, hbc⟩ := id hC
  obtain ⟨fe, hAe, hbe⟩ := id hE
  obtain ⟨bl, lv, ms, mr, N, lf, fm, fr, hV⟩ := id hP
  have hOp := hV.1
  have hAl := hV.2.2.1
  obtain ⟨fb, hAb, hbb⟩ := id hV.2.1
  have n0 := hW.n
  have hRw := hW.rw e3
  refine r_al0 dX9_rootsBy_0 ?_
  refine r_il1 dX9_rootsBy_1 ?_
  refine r_callVP1 dX9_rootsBy_2 v_X9_177 (cs_obj hB (k9 := 0) (by decide) rfl) (x_hasEq κ h hB hI (by omega)) (by decide) rfl ?_
  refine r_ifT_ne (tgt := 16) dX9_rootsBy_5 (by decide) (fun c_5 => ?_) (fun c_5 => ?_)
  · have h59 : 0 ≤ e ∧ e ≤ Γ q 2 - 1 := c_5
    refine r_al0 dX9_rootsBy_16 ?_
    refine r_al0 dX9_rootsBy_17 ?_
    refine b_getR dX9_rootsBy_18 f_X9_39 hB (by decide) rfl rfl (by first | exact h05 | exact h05u) ?_
    refine r_getfield dX9_rootsBy_21 f_X9_166 (by first | assumption | exact cfx hB hO | exact cfx hB hOp | exact cfx hB hAc | exact cfx hB hAb | exact cfx hB hAe) rfl ?_
    refine r_il1 dX9_rootsBy_24 ?_
    obtain ⟨a_25, ha_25, hc_25⟩ := hbe e (by omega) (by omega)
    have hd_25 := hc_25
    unfold EqR at hd_25
    simp only [eqg] at hd_25
    refine r_aaF dX9_rootsBy_25 (by first | exact hAe | exact cfx hB hAe) (by decide) ha_25 (by omega) (by omega) (by omega) ?_
    refine r_callV (As := [.ref a_25]) dX9_rootsBy_26 v_X9_203 (cs_obj hB (k9 := 0) (by decide) rfl) (x_rootsAfter κ h hB hI (e := e) (by omega) (by omega) hc_25) (by decide) rfl rfl (cat_le rfl) (by omega) (by omega) (fun v h9 hq9 => ?_) (fun _ _ hx => hx.elim)
    obtain ⟨n9, rfl, hn9, hqb, hrp⟩ := hq9
    refine r_is2 dX9_rootsBy_29 rfl ?_
    refine r_il2 dX9_rootsBy_30 ?_
    refine r_iconst dX9_rootsBy_31 ?_
    refine r_icmp_ne (tgt := 43) dX9_rootsBy_32 (by decide) (by (first | omega)) (by (first | omega)) (fun c_32 => ?_) (fun c_32 => ?_)
    · refine r_il2 dX9_rootsBy_43 ?_
      exact r_iret dX9_rootsBy_44 (ty := .int) rfl (rfl) ⟨_, rfl, (Or.inr (Or.inr ⟨c_5, rfl, hqb.yes c_32, hqb⟩)), hrp⟩
    · exact r_throw rfl (by decide) th_X9_rootsBy_35 (by decide) (by decide) (by decide) ⟨1, 0, rfl, (Or.inr (Or.inl ⟨c_5, hqb.no ⟨hW, hG⟩ (by omega) (by omega) c_32, rfl⟩)), hrp⟩
  · exact r_throw rfl (by decide) th_X9_rootsBy_8 (by decide) (by decide) (by decide) ⟨0, 0, rfl, (Or.inl ⟨c_5, rfl⟩), (RP.id hI)⟩
set_option maxRecDepth 100000 in
set_option maxHeartbeats 4000000 in
theorem x_rootsWith (κ : KP) {B : Nat → Nat} {S : CST} {Γ : Nat → Int → Int} {q : Nat} (h : AH) (hB : BA B) (hI : ClS κ (cset B S h) S Γ q) {a b c e : Int} (ra : rng a) (rb : rng b) (rc : rng c) (re : rng e) : MM κ mX9_rootsWith 23 3 40 [.ref (B 0), .int (J a), .int (J b), .int (J c), .int (J e)] (cset B S h) (RD κ B S h Γ q (R_rw (Γ q) a b c e)) (RE κ B S h Γ q (R_rw (Γ q) a b c e) [EIA, EIS]) := by
  refine mm_of (L := [some _, some _, some _, some _, some _]) (by decide +kernel) rfl rfl (Nat.le_of_ble_eq_true rfl) rfl ?_
  obtain ⟨h05, hD, hW, hG, hU⟩ := id hI
  obtain ⟨cr, eq, p, nc, ne, nb, hO, hC, hE, hP, e1, e2, e3⟩ := id hD
  have hDV : DkV κ (cset B S h) q (Γ q) cr eq p nc ne nb := ⟨hO, hC, hE, hP, e1, e2, e3⟩
  obtain ⟨fc, hAc, hbc⟩ := id hC
  obtain ⟨fe, hAe, hbe⟩ := id hE
  obtain ⟨bl, lv, ms, mr, N, lf, fm, fr, hV⟩ := id hP
  have hOp := hV.1
  have hAl := hV.2.2.1
  obtain ⟨fb, hAb, hbb⟩ := id hV.2.1
  have n0 := hW.n
  have hRw := hW.rw e3
  refine r_al0 dX9_rootsWith_0 ?_
  refine r_il1 dX9_rootsWith_1 ?_
  refine r_il2 dX9_rootsWith_2 ?_
  refine r_il3 dX9_rootsWith_3 ?_
  refine r_il4 dX9_rootsWith_4 ?_
  refine r_callVP4 dX9_rootsWith_6 v_X9_72 (cs_obj hB (k9 := 0) (by decide) rfl) (x_inRange κ h hB hI ra rb rc re) (by decide) rfl ?_
  refine r_ifT_ne (tgt := 20) dX9_rootsWith_9 (by decide) (fun c_9 => ?_) (fun c_9 => ?_)
  · have hm := c_9
    unfold QMay QLow QCap QIn at hm
    refine r_al0 dX9_rootsWith_20 ?_
    refine b_getR dX9_rootsWith_21 f_X9_39 hB (by decide) rfl rfl (by first | exact h05 | exact h05u) ?_
    refine r_getfield dX9_rootsWith_24 f_X9_79 (by first | assumption | exact cfx hB hO | exact cfx hB hOp | exact cfx hB hAc | exact cfx hB hAb | exact cfx hB hAe) rfl ?_
    refine r_alenF dX9_rootsWith_27 (by first | assumption | exact cfx hB hO | exact cfx hB hOp | exact cfx hB hAc | exact cfx hB hAb | exact cfx hB hAe) (by decide) (rfl) ?_
    refine r_bipush dX9_rootsWith_28 (by decide) ?_
    refine r_icmp_lt (tgt := 41) dX9_rootsWith_30 (by decide) (by (first | omega)) (by (first | omega)) (fun c_30 => ?_) (fun c_30 => ?_)
    · refine r_al0 dX9_rootsWith_41 ?_
      refine r_al0 dX9_rootsWith_42 ?_
      refine b_getR dX9_rootsWith_43 f_X9_39 hB (by decide) rfl rfl (by first | exact h05 | exact h05u) ?_
      refine r_new dX9_rootsWith_46 n_X9_25 (by decide) (by decide) (fun a9 ha9 => ?_)
      refine r_dup dX9_rootsWith_49 rfl ?_
      refine r_il1 dX9_rootsWith_50 ?_
      refine r_il2 dX9_rootsWith_51 ?_
      refine r_il3 dX9_rootsWith_52 ?_
      refine r_il4 dX9_rootsWith_53 ?_
      refine r_init (As := [.int (J a), .int (J b), .int (J c), .int (J e)]) dX9_rootsWith_55 i_X9_86 (c_crInit κ _ (by omega) (by omega) upA_same) (by decide) rfl rfl rfl ?_
      rw [upA_upA]
      have hx0 : Ext (cset B S h) (upA (cset B S h) a9 (false, .inr (6, [.int (J a), .int (J b), .int (J c), .int (J e)]))) := Ext.up ha9
      have hcr : CrR (upA (cset B S h) a9 (false, .inr (6, [.int (J a), .int (J b), .int (J c), .int (J e)]))) a9 (x4 a b c e) := upA_same
      generalize upA (cset B S h) a9 (false, .inr (6, [.int (J a), .int (J b), .int (J c), .int (J e)])) = h6 at hx0 hcr ⊢
      refine r_callV (As := [.ref a9]) dX9_rootsWith_58 v_X9_89 (hx0 _ _ hO) (c_withCredit κ h6 (hDV.fx hx0.fx) hcr (by omega)) (by decide) rfl rfl (cat_le rfl) (by decide) (by decide) (fun v h7 hq7 => ?_) (fun _ _ hx => hx.elim)
      obtain ⟨q1, rfl, hx1n, hD1⟩ := hq7
      have hx1 := Exn.tr hx0 hx1n
      obtain ⟨h8, rfl⟩ : ∃ h8, h7 = cset B S h8 := ⟨h7, Ext.cs hB hx1.1⟩
      have hD2 : DeskAt κ (cset B S h8) q1 (gcm (Γ q) a b c e) := hD1
      have hW1 := (CW.may ⟨hW, hG⟩ (by omega) c_9).1
      obtain ⟨q4, hU4⟩ := hU 4 (Or.inr rfl)
      refine r_callV (As := [.ref q1]) dX9_rootsWith_61 v_X9_284 (cs_obj hB (k9 := 0) (by decide) rfl) (x_rootsIn κ h8 hB hW1 hD2 (hU4.fx hx1.1.fx rfl rfl) (fun z => absurd hx1.2 (by rw [← z]; exact hU4.ne))) (by decide) rfl rfl (cat_le rfl) (Nat.zero_le _) (Nat.zero_le _) (fun v h9 hq9 => ?_) (fun _ _ hx => hx.elim)
      obtain ⟨r2, S2, rfl, hro, rfl, x2, hK2⟩ := hq9
      have hrb := hro.bd hW1
      exact r_iret dX9_rootsWith_64 (ty := .int) rfl rfl ⟨_, rfl, (Or.inr (Or.inr ⟨c_9, by omega, rfl, hro⟩)), RP.trial hB hI hx1 x2 hK2⟩
    · exact r_throw rfl (by decide) th_X9_rootsWith_33 (by decide) (by decide) (by decide) ⟨1, 0, rfl, (Or.inr (Or.inl ⟨c_9, by omega, rfl⟩)), (RP.id hI)⟩
  · exact r_throw rfl (by decide) th_X9_rootsWith_12 (by decide) (by decide) (by decide) ⟨0, 0, rfl, (Or.inl ⟨c_9, rfl⟩), (RP.id hI)⟩
set_option maxRecDepth 100000 in
set_option maxHeartbeats 4000000 in
theorem l_best9 (κ : KP) {B : Nat → Nat} {S : CST} {Γ : Nat → Int → Int} {q : Nat} (h : AH) (hB : BA B) (hI : ClS κ (cset B S h) S Γ q) : ∀ (f : Nat) (S1 : CST) (Γ1 : Nat → Int → Int) (h2 : AH) (e is most : Int) (v4 : Option Value) (k n : Nat), Γ q 2 - e < (f : Int) → 0 ≤ e → e ≤ Γ q 2 → ClS κ (cset B S1 h2) S1 Γ1 q → Γ1 q = Γ q → (∀ h3, RP κ B S1 h2 Γ1 q h3 → RP κ B S h Γ q h3) → QBs (Γ q) e is most → rng most → 20 * f + 1 ≤ k → 112 * f + 6 ≤ n → WW κ mX9_bestEquivalence 23 k n (RD κ B S h Γ q (R_best (Γ q))) (RE κ B S h Γ q (R_best (Γ q)) [ENS]) 6 [some (.ref (B 0)), some (.int (J is)), some (.int (J most)), some (.int (J e)), v4] [] (cset B S1 h2) := by
  have nW := hI.2.2.1.n
  intro f
  induction f with
  | zero =>
    intro S1 Γ1 h2 e is most v4 k n hf e0 e1
    exact absurd hf (by omega)
  | succ f ih =>
    intro S1 Γ1 h2 e is most v4 k n hf e0 e9 hI1 hg hT hQ rm hk hn
    obtain ⟨h05, hD, hW, hG, hU⟩ := id hI1
    obtain ⟨cr, eq, p, nc, ne, nb, hO, hC, hE, hP, e1, e2, e3⟩ := id hD
    have hDV : DkV κ (cset B S1 h2) q (Γ1 q) cr eq p nc ne nb := ⟨hO, hC, hE, hP, e1, e2, e3⟩
    obtain ⟨fc, hAc, hbc⟩ := id hC
    obtain ⟨fe, hAe, hbe⟩ := id hE
    obtain ⟨bl, lv, ms, mr, N, lf, fm, fr, hV⟩ := id hP
    have hOp := hV.1
    have hAl := hV.2.2.1
    obtain ⟨fb, hAb, hbb⟩ := id hV.2.1
    have n0 := hW.n
    have hRw := hW.rw e3
    have hgs : Γ1 q 2 = Γ q 2 := by rw [hg]
    have hlo := hQ.lo e0
    refine r_il3 dX9_bestEquivalence_6 ?_
    refine r_al0 dX9_bestEquivalence_7 ?_
    refine b_getR dX9_bestEquivalence_8 f_X9_39 hB (by decide) rfl rfl (by first | exact h05 | exact h05u) ?_
    refine r_getfield dX9_bestEquivalence_11 f_X9_166 (by first | assumption | exact cfx hB hO | exact cfx hB hOp | exact cfx hB hAc | exact cfx hB hAb | exact cfx hB hAe) rfl ?_
    refine r_alenF dX9_bestEquivalence_14 (by first | assumption | exact cfx hB hO | exact cfx hB hOp | exact cfx hB hAc | exact cfx hB hAb | exact cfx hB hAe) (by decide) (rfl) ?_
    refine r_icmp_ge (tgt := 50) dX9_bestEquivalence_15 (by decide) (by (first | omega | assumption)) (by (first | omega | assumption)) (fun c_15 => ?_) (fun c_15 => ?_)
    · refine r_il1 dX9_bestEquivalence_50 ?_
      refine r_iconst dX9_bestEquivalence_51 ?_
      refine r_icmp_ne (tgt := 63) dX9_bestEquivalence_52 (by decide) (by (first | omega | assumption)) (by (first | omega | assumption)) (fun c_52 => ?_) (fun c_52 => ?_)
      · refine r_il1 dX9_bestEquivalence_63 ?_
        exact r_iret dX9_bestEquivalence_64 (ty := .int) rfl (rfl) ⟨_, rfl, ⟨is, most, by rw [show Γ q 2 = e by omega]; exact hQ, Or.inr ⟨by omega, rfl, rfl⟩⟩, (hT _ (RP.id hI1))⟩
      · exact r_throw rfl (by decide) th_X9_bestEquivalence_55 (by omega) (by omega) (by decide) ⟨0, 0, rfl, ⟨is, most, by rw [show Γ q 2 = e by omega]; exact hQ, Or.inl ⟨by omega, rfl⟩⟩, hT _ (RP.id hI1)⟩
    · refine r_al0 dX9_bestEquivalence_18 ?_
      refine r_al0 dX9_bestEquivalence_19 ?_
      refine b_getR dX9_bestEquivalence_20 f_X9_39 hB (by decide) rfl rfl (by first | exact h05 | exact h05u) ?_
      refine r_getfield dX9_bestEquivalence_23 f_X9_166 (by first | assumption | exact cfx hB hO | exact cfx hB hOp | exact cfx hB hAc | exact cfx hB hAb | exact cfx hB hAe) rfl ?_
      refine r_il3 dX9_bestEquivalence_26 ?_
      obtain ⟨a_27, ha_27, hc_27⟩ := hbe e (by omega) (by omega)
      have hd_27 := hc_27
      unfold EqR at hd_27
      simp only [eqg] at hd_27
      refine r_aaF dX9_bestEquivalence_27 (by first | exact hAe | exact cfx hB hAe) (by decide) ha_27 (by omega) (by omega) (by omega) ?_
      refine r_callV (As := [.ref a_27]) dX9_bestEquivalence_28 v_X9_203 (cs_obj hB (k9 := 0) (by decide) rfl) (x_rootsAfter κ h2 hB hI1 (e := e) (by omega) (by omega) hc_27) (by decide) rfl rfl (cat_le rfl) (by omega) (by omega) (fun v h9 hq9 => ?_) (fun _ _ hx => hx.elim)
      obtain ⟨n9, rfl, hn9, hqb, hrp⟩ := hq9
      rw [hg] at hqb
      obtain ⟨S3, Γ3, h4, rfl, hI3, hg3, hT3⟩ := hrp.go hB hI1
      refine r_is4 dX9_bestEquivalence_31 rfl ?_
      refine r_il4 dX9_bestEquivalence_33 ?_
      refine r_il2 dX9_bestEquivalence_35 ?_
      refine r_icmp_le (tgt := 44) dX9_bestEquivalence_36 (by decide) (by (first | omega | assumption)) (by (first | omega | assumption)) (fun c_36 => ?_) (fun c_36 => ?_)
      · refine r_inc3 dX9_bestEquivalence_44 rfl ?_
        refine r_goto (tgt := 6) dX9_bestEquivalence_47 (by decide) ?_
        first | exact ih S3 Γ3 h4 (e + 1) is most _ (k - 20) (n - 112) (by omega) (by omega) (by omega) hI3 (hg3.trans hg) (fun h3 z => hT _ (hT3 _ z)) (hQ.no e0 hqb hn9.1 c_36) rm (by omega) (by omega) | exact ih S3 Γ3 h4 (e + 1) e n9 _ (k - 20) (n - 112) (by omega) (by omega) (by omega) hI3 (hg3.trans hg) (fun h3 z => hT _ (hT3 _ z)) (hQ.up e0 hqb (by omega)) (by omega) (by omega) (by omega)
      · refine r_il4 dX9_bestEquivalence_39 ?_
        refine r_is2 dX9_bestEquivalence_41 rfl ?_
        refine r_il3 dX9_bestEquivalence_42 ?_
        refine r_is1 dX9_bestEquivalence_43 rfl ?_
        refine r_inc3 dX9_bestEquivalence_44 rfl ?_
        refine r_goto (tgt := 6) dX9_bestEquivalence_47 (by decide) ?_
        first | exact ih S3 Γ3 h4 (e + 1) is most _ (k - 20) (n - 112) (by omega) (by omega) (by omega) hI3 (hg3.trans hg) (fun h3 z => hT _ (hT3 _ z)) (hQ.no e0 hqb hn9.1 c_36) rm (by omega) (by omega) | exact ih S3 Γ3 h4 (e + 1) e n9 _ (k - 20) (n - 112) (by omega) (by omega) (by omega) hI3 (hg3.trans hg) (fun h3 z => hT _ (hT3 _ z)) (hQ.up e0 hqb (by omega)) (by omega) (by omega) (by omega)
set_option maxRecDepth 100000 in
set_option maxHeartbeats 4000000 in
theorem x_bestEq (κ : KP) {B : Nat → Nat} {S : CST} {Γ : Nat → Int → Int} {q : Nat} (h : AH) (hB : BA B) (hI : ClS κ (cset B S h) S Γ q)  : MM κ mX9_bestEquivalence 23 181 1014 [.ref (B 0)] (cset B S h) (RD κ B S h Γ q (R_best (Γ q))) (RE κ B S h Γ q (R_best (Γ q)) [ENS]) := by
  refine mm_of (L := [some _, none, none, none, none]) (by decide +kernel) rfl rfl (Nat.le_of_ble_eq_true rfl) rfl ?_
  obtain ⟨h05, hD, hW, hG, hU⟩ := id hI
  obtain ⟨cr, eq, p, nc, ne, nb, hO, hC, hE, hP, e1, e2, e3⟩ := id hD
  have hDV : DkV κ (cset B S h) q (Γ q) cr eq p nc ne nb := ⟨hO, hC, hE, hP, e1, e2, e3⟩
  obtain ⟨fc, hAc, hbc⟩ := id hC
  obtain ⟨fe, hAe, hbe⟩ := id hE
  obtain ⟨bl, lv, ms, mr, N, lf, fm, fr, hV⟩ := id hP
  have hOp := hV.1
  have hAl := hV.2.2.1
  obtain ⟨fb, hAb, hbb⟩ := id hV.2.1
  have n0 := hW.n
  have hRw := hW.rw e3
  refine r_iconst dX9_bestEquivalence_0 ?_
  refine r_is1 dX9_bestEquivalence_1 rfl ?_
  refine r_iconst dX9_bestEquivalence_2 ?_
  refine r_is2 dX9_bestEquivalence_3 rfl ?_
  refine r_iconst dX9_bestEquivalence_4 ?_
  refine r_is3 dX9_bestEquivalence_5 rfl ?_
  exact l_best9 κ h hB hI 9 S Γ h 0 (-1) (-1) none 181 1014 (by omega) (by omega) (by omega) hI rfl (fun _ z => z) (Or.inl ⟨rfl, rfl, fun k k0 k1 => by omega⟩) (by decide) (by decide) (by decide)
set_option maxRecDepth 100000 in
set_option maxHeartbeats 4000000 in
theorem l_lap9 (κ : KP) {B : Nat → Nat} {S : CST} {Γ : Nat → Int → Int} {q : Nat} (h : AH) (hB : BA B) (hI : ClS κ (cset B S h) S Γ q) {had : Int} (hhad : QRo (Γ q) had) : ∀ (f : Nat) (S1 : CST) (Γ1 : Nat → Int → Int) (h2 : AH) (y : Int) (k n : Nat), 61 - y < (f : Int) → Γ q 0 < y → y ≤ 61 → ClS κ (cset B S1 h2) S1 Γ1 q → Γ1 q = Γ q → (∀ h3, RP κ B S1 h2 Γ1 q h3 → RP κ B S h Γ q h3) → (∀ z, Γ q 0 < z → z < y → ∃ n, QRo (upz (Γ q) 0 z) n ∧ had ≤ n) → f + 1 ≤ k → 4 * f + 6 ≤ n → WW κ mX9_lapses 23 k n (RD κ B S h Γ q (R_lapses (Γ q))) (RE κ B S h Γ q (R_lapses (Γ q)) [ENS]) 18 [some (.ref (B 0)), some (.int (J had)), some (.int (J y))] [] (cset B S1 h2) := by
  have nW := hI.2.2.1.n
  have hhb := hhad.bd hI.2.2.1
  intro f
  induction f with
  | zero =>
    intro S1 Γ1 h2 y k n hf y0 y1
    exact absurd hf (by omega)
  | succ f ih =>
    intro S1 Γ1 h2 y k n hf y0 y9 hI1 hg hT hz hk hn
    obtain ⟨h05, hD, hW, hG, hU⟩ := id hI1
    obtain ⟨cr, eq, p, nc, ne, nb, hO, hC, hE, hP, e1, e2, e3⟩ := id hD
    have hDV : DkV κ (cset B S1 h2) q (Γ1 q) cr eq p nc ne nb := ⟨hO, hC, hE, hP, e1, e2, e3⟩
    obtain ⟨fc, hAc, hbc⟩ := id hC
    obtain ⟨fe, hAe, hbe⟩ := id hE
    obtain ⟨bl, lv, ms, mr, N, lf, fm, fr, hV⟩ := id hP
    have hOp := hV.1
    have hAl := hV.2.2.1
    obtain ⟨fb, hAb, hbb⟩ := id hV.2.1
    have n0 := hW.n
    have hRw := hW.rw e3
    have hgs : Γ1 q 0 = Γ q 0 := by rw [hg]
    refine r_il2 dX9_lapses_18 ?_
    refine r_bipush dX9_lapses_19 (by decide) ?_
    refine r_icmp_gt (tgt := 61) dX9_lapses_21 (by decide) (by (first | omega | assumption)) (by (first | omega | assumption)) (fun c_21 => ?_) (fun c_21 => ?_)
    · exact r_throw rfl (by decide) th_X9_lapses_61 (by omega) (by omega) (by decide) ⟨0, 0, rfl, ⟨had, hhad, Or.inr ⟨rfl, fun z z0 z1 => hz z z0 (by omega)⟩⟩, hT _ (RP.id hI1)⟩
    · refine r_al0 dX9_lapses_24 ?_
      refine b_getR dX9_lapses_25 f_X9_39 hB (by decide) rfl rfl (by first | exact h05 | exact h05u) ?_
      refine r_il2 dX9_lapses_28 ?_
      refine r_iconst dX9_lapses_29 ?_
      refine r_isub dX9_lapses_30 ?_
      refine r_callVP1 dX9_lapses_31 v_X9_288 hO (c_hasLY κ _ hDV hW (y := y - 1) (by omega)) (by decide) rfl ?_
      refine r_ifT_eq (tgt := 55) dX9_lapses_34 (by decide) (fun c_34 => ?_) (fun c_34 => ?_)
      · refine r_inc2 dX9_lapses_55 rfl ?_
        refine r_goto (tgt := 18) dX9_lapses_58 (by decide) ?_
        first | exact ih S3 Γ3 h4 (y + 1) (k - 1 - 0) (n - 4 - 0) (by omega) (by omega) (by omega) hI3 (hg3.trans hg) (fun h3 z => hT _ (hT3 _ z)) (fun z z0 z1 => (show z < y ∨ z = y by omega).elim (fun x => hz z z0 x) (fun x => by rw [x]; exact ⟨r2, hro, c_50⟩)) (by omega) (by omega) | exact ih S1 Γ1 h2 (y + 1) k n (by omega) (by omega) (by omega) hI1 hg hT (fun z z0 z1 => (show z < y ∨ z = y by omega).elim (fun x => hz z z0 x) (fun x => by rw [x]; exact lap_no hhad (by rw [← hg]; exact c_34) y0 hz)) (by omega) (by omega)
      · refine r_al0 dX9_lapses_37 ?_
        refine r_al0 dX9_lapses_38 ?_
        refine b_getR dX9_lapses_39 f_X9_39 hB (by decide) rfl rfl (by first | exact h05 | exact h05u) ?_
        refine r_il2 dX9_lapses_42 ?_
        refine r_callV (As := [.int (J y)]) dX9_lapses_43 v_X9_291 hO (c_inYear κ _ hDV) (by decide) rfl rfl (cat_le rfl) (by omega) (by omega) (fun v h7 hq7 => ?_) (fun _ _ hx => hx.elim)
        obtain ⟨q1, rfl, hx1, hO1⟩ := hq7
        obtain ⟨h8, rfl⟩ : ∃ h8, h7 = cset B S1 h8 := ⟨h7, Ext.cs hB hx1.1⟩
        have hD1 := DeskAt.yr hDV hx1 hO1
        have hW1 : WF (upz (Γ1 q) 0 y) := hW.yr ⟨by omega, by omega⟩
        obtain ⟨q4, hU4⟩ := hU 4 (Or.inr rfl)
        refine r_callV (As := [.ref q1]) dX9_lapses_46 v_X9_284 (cs_obj hB (k9 := 0) (by decide) rfl) (x_rootsIn κ h8 hB hW1 hD1 (hU4.fx hx1.1.fx rfl rfl) (fun z => absurd hx1.2 (by rw [← z]; exact hU4.ne))) (by decide) rfl rfl (cat_le rfl) (Nat.zero_le _) (Nat.zero_le _) (fun v h9 hq9 => ?_) (fun _ _ hx => hx.elim)
        obtain ⟨r2, S2, rfl, hro, rfl, x2, hK2⟩ := hq9
        have hrb := hro.bd hW1
        rw [hg] at hro
        obtain ⟨S3, Γ3, h4, e4, hI3, hg3, hT3⟩ := (RP.trial hB hI1 hx1 x2 hK2).go hB hI1
        rw [e4]
        refine r_il1 dX9_lapses_49 ?_
        refine r_icmp_ge (tgt := 55) dX9_lapses_50 (by decide) (by (first | omega | assumption)) (by (first | omega | assumption)) (fun c_50 => ?_) (fun c_50 => ?_)
        · refine r_inc2 dX9_lapses_55 rfl ?_
          refine r_goto (tgt := 18) dX9_lapses_58 (by decide) ?_
          first | exact ih S3 Γ3 h4 (y + 1) (k - 1 - 0) (n - 4 - 0) (by omega) (by omega) (by omega) hI3 (hg3.trans hg) (fun h3 z => hT _ (hT3 _ z)) (fun z z0 z1 => (show z < y ∨ z = y by omega).elim (fun x => hz z z0 x) (fun x => by rw [x]; exact ⟨r2, hro, c_50⟩)) (by omega) (by omega) | exact ih S1 Γ1 h2 (y + 1) k n (by omega) (by omega) (by omega) hI1 hg hT (fun z z0 z1 => (show z < y ∨ z = y by omega).elim (fun x => hz z z0 x) (fun x => by rw [x]; exact lap_no hhad (by rw [← hg]; exact c_34) y0 hz)) (by omega) (by omega)
        · refine r_il2 dX9_lapses_53 ?_
          exact r_iret dX9_lapses_54 (ty := .int) rfl (rfl) ⟨_, rfl, ⟨had, hhad, Or.inl ⟨rfl, y0, by omega, ⟨r2, hro, by omega⟩, hz⟩⟩, (hT _ (hT3 _ (RP.id hI3)))⟩
set_option maxRecDepth 100000 in
set_option maxHeartbeats 4000000 in
theorem x_lapses (κ : KP) {B : Nat → Nat} {S : CST} {Γ : Nat → Int → Int} {q : Nat} (h : AH) (hB : BA B) (hI : ClS κ (cset B S h) S Γ q)  : MM κ mX9_lapses 23 63 254 [.ref (B 0)] (cset B S h) (RD κ B S h Γ q (R_lapses (Γ q))) (RE κ B S h Γ q (R_lapses (Γ q)) [ENS]) := by
  refine mm_of (L := [some _, none, none]) (by decide +kernel) rfl rfl (Nat.le_of_ble_eq_true rfl) rfl ?_
  obtain ⟨h05, hD, hW, hG, hU⟩ := id hI
  obtain ⟨cr, eq, p, nc, ne, nb, hO, hC, hE, hP, e1, e2, e3⟩ := id hD
  have hDV : DkV κ (cset B S h) q (Γ q) cr eq p nc ne nb := ⟨hO, hC, hE, hP, e1, e2, e3⟩
  obtain ⟨fc, hAc, hbc⟩ := id hC
  obtain ⟨fe, hAe, hbe⟩ := id hE
  obtain ⟨bl, lv, ms, mr, N, lf, fm, fr, hV⟩ := id hP
  have hOp := hV.1
  have hAl := hV.2.2.1
  obtain ⟨fb, hAb, hbb⟩ := id hV.2.1
  have n0 := hW.n
  have hRw := hW.rw e3
  refine r_al0 dX9_lapses_0 ?_
  refine r_callV (As := []) dX9_lapses_1 v_X9_116 (cs_obj hB (k9 := 0) (by decide) rfl) (x_bestUse κ h hB hI) (by decide) rfl rfl (cat_le rfl) (Nat.zero_le _) (Nat.zero_le _) (fun v h9 hq9 => ?_) (fun _ _ hx => hx.elim)
  obtain ⟨rfl, S9, rfl, x9, U, hK⟩ := hq9
  have hQb := hK.best
  have h05u : S9 0 5 = (q : Int) := by rw [x9 0 (by decide)]; exact h05
  have hR9 := RP.use (u := 3) hB hI (Or.inl rfl) (x9.mono (by decide)) hK.k
  refine r_callVP0 dX9_lapses_4 v_X9_281 (cs_obj hB (k9 := 3) (by decide) rfl) (k_rootsMet κ h hB (Or.inl rfl) hK) (by decide) rfl ?_
  refine r_is1 dX9_lapses_7 rfl ?_
  refine r_al0 dX9_lapses_8 ?_
  refine b_getR dX9_lapses_9 f_X9_39 hB (by decide) rfl rfl (by first | exact h05 | exact h05u) ?_
  refine r_getfield dX9_lapses_12 f_X9_264 (by first | assumption | exact cfx hB hO | exact cfx hB hOp | exact cfx hB hAc | exact cfx hB hAb | exact cfx hB hAe) rfl ?_
  refine r_iconst dX9_lapses_15 ?_
  refine r_iadd dX9_lapses_16 ?_
  refine r_is2 dX9_lapses_17 rfl ?_
  exact l_lap9 κ h hB hI ⟨U, hQb, rfl⟩ 62 S9 Γ h (Γ q 0 + 1) _ _ (by omega) (by omega) (by omega) (hI.use hB (Or.inl rfl) (x9.mono (by decide)) hK.k) rfl (RP.cont hB Fr.cs (x9.mono (by decide)) (fun _ _ => rfl)) (fun z z0 z1 => by omega) (by decide) (by decide)
