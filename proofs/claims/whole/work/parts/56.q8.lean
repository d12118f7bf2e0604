/-! ===== what a desk tells; an equivalence applied ===== -/
theorem bz_or : ∀ a b c d e f g h a' b' c' d' e' f' g' h' : Bool, J (bz a b c d e f g h) ||| J (bz a' b' c' d' e' f' g' h') = J (bz (a || a') (b || b') (c || c') (d || d') (e || e') (f || f') (g || g') (h || h')) := by decide +kernel
theorem bs_orr {f g : Int → Bool} : J (bs f) ||| J (bs g) = J (bs (fun i => f i || g i)) := by
  rw [bs_z, bs_z, bs_z]
  exact bz_or _ _ _ _ _ _ _ _ _ _ _ _ _ _ _ _
def sgl (r : Int) : Int → Bool := fun i => decide (0 ≤ r) && (i == r)
theorem sgl_n : bs (sgl (-1)) = 0 := by decide
theorem sgl_p {r : Int} (r0 : 0 ≤ r) (r1 : r < 8) : J 1 <<< (J r &&& 31) = J (bs (sgl r)) := by
  rcases (show r = 0 ∨ r = 1 ∨ r = 2 ∨ r = 3 ∨ r = 4 ∨ r = 5 ∨ r = 6 ∨ r = 7 by omega) with rfl | rfl | rfl | rfl | rfl | rfl | rfl | rfl <;> decide
theorem sgl_i {r i : Int} : sgl r i = true ↔ 0 ≤ r ∧ i = r := by
  unfold sgl
  simp
theorem two_cn {r s : Int} (r0 : -1 ≤ r) (r1 : r < 6) (s0 : -1 ≤ s) (s1 : s < 6) : cn (fun i => sgl r i || sgl s i) = (if 0 ≤ r then 1 else 0) + (if 0 ≤ s ∧ s ≠ r then 1 else 0) := by
  rcases (show r = -1 ∨ r = 0 ∨ r = 1 ∨ r = 2 ∨ r = 3 ∨ r = 4 ∨ r = 5 by omega) with rfl | rfl | rfl | rfl | rfl | rfl | rfl <;>
  rcases (show s = -1 ∨ s = 0 ∨ s = 1 ∨ s = 2 ∨ s = 3 ∨ s = 4 ∨ s = 5 by omega) with rfl | rfl | rfl | rfl | rfl | rfl | rfl <;> decide
set_option maxRecDepth 100000 in
set_option maxHeartbeats 4000000 in
theorem l_ptAll (κ : KP) (h : AH) {q cr eq p nc : Nat} {g : Int → Int} {y9 : Int} (hn : nc ≤ 6) (hO : ObF h q 7 [.int (J y9), .ref cr, .ref eq, .ref p]) {fc : Int → Option Nat} (hA : ArF h cr (.object RX2) nc (rv fc)) (hbc : ∀ c : Int, 0 ≤ c → c < nc → ∃ a, fc c = some a ∧ CrR h a (crg g c)) (hW : WF g) (e1 : (nc : Int) = g 1) : ∀ (f : Nat) (i : Int), (nc : Int) - i < (f : Int) → (0 ≤ i) → (i ≤ nc) → WW κ mX3_pointsOfAll 1 0 0 (fun w h' => w = some (.int (J (sz (fun c => g (4 + 4 * c + 1)) nc))) ∧ h' = h) NoX 4 [some (.ref q), some (.int (J (sz (fun c => g (4 + 4 * c + 1)) i))), some (.int (J i))] [] h := by
  intro f
  induction f with
  | zero =>
    intro i hf i0 i1
    exact absurd hf (by omega)
  | succ f ih =>
    intro i hf i0 i1
    refine r_il2 dX3_pointsOfAll_4 ?_
    refine r_al0 dX3_pointsOfAll_5 ?_
    refine r_getfield dX3_pointsOfAll_6 f_X3_15 (by assumption) rfl ?_
    refine r_alenF dX3_pointsOfAll_9 hA (by decide) rfl ?_
    refine r_icmp_ge (tgt := 31) dX3_pointsOfAll_10 (by decide) (by (first | omega | assumption | (have hw := hW.c i0 (by omega); unfold WFc QLow QCap at hw; omega))) (by (first | omega | assumption | (have hw := hW.c i0 (by omega); unfold WFc QLow QCap at hw; omega))) (fun c_10 => ?_) (fun c_10 => ?_)
    · refine r_il1 dX3_pointsOfAll_31 ?_
      rw [show i = (nc : Int) by omega]
      exact r_iret dX3_pointsOfAll_32 (ty := .int) rfl rfl ⟨rfl, rfl⟩
    · refine r_il1 dX3_pointsOfAll_13 ?_
      refine r_al0 dX3_pointsOfAll_14 ?_
      refine r_getfield dX3_pointsOfAll_15 f_X3_15 (by assumption) rfl ?_
      refine r_il2 dX3_pointsOfAll_18 ?_
      obtain ⟨a_19, ha_19, hc_19⟩ := hbc i (by omega) (by omega)
      have hd_19 := hc_19
      simp only [CrR, crg] at hd_19
      refine r_aaF dX3_pointsOfAll_19 hA (by decide) ha_19 (by omega) (by omega) (by omega) ?_
      refine r_getfield dX3_pointsOfAll_20 f_X3_55 (by assumption) rfl ?_
      refine r_iadd dX3_pointsOfAll_23 ?_
      refine r_is1 dX3_pointsOfAll_24 rfl ?_
      refine r_inc2 dX3_pointsOfAll_25 rfl ?_
      refine r_goto (tgt := 4) dX3_pointsOfAll_28 (by decide) ?_
      rw [← show sz (fun c => g (4 + 4 * c + 1)) (i + 1) = sz (fun c => g (4 + 4 * c + 1)) i + g (4 + 4 * i + 1) from sz_1 i0]
      exact ih (i + 1) (by omega) (by omega) (by omega)
set_option maxRecDepth 100000 in
set_option maxHeartbeats 4000000 in
theorem c_ptAll (κ : KP) (h : AH) {q cr eq p nc ne nb : Nat} {g : Int → Int} (H : DkV κ h q g cr eq p nc ne nb) (hW : WF g) : PM κ mX3_pointsOfAll 1 [.ref q] h (.int (J (qalp g))) := by
  refine mm_of (L := [some _, none, none]) (by decide +kernel) rfl rfl (Nat.le_of_ble_eq_true rfl) rfl ?_
  have H0 := H; obtain ⟨hO, hC, hE, hP, e1, e2, e3⟩ := H
  obtain ⟨fc, hA, hbc⟩ := id hC
  refine r_iconst dX3_pointsOfAll_0 ?_
  refine r_is1 dX3_pointsOfAll_1 rfl ?_
  refine r_iconst dX3_pointsOfAll_2 ?_
  refine r_is2 dX3_pointsOfAll_3 rfl ?_
  have e9 : qalp g = sz (fun c => g (4 + 4 * c + 1)) nc := by unfold qalp; rw [e1]
  rw [e9]
  have := hW.n
  exact l_ptAll κ h (by omega) hO hA hbc hW e1 (nc + 1) 0 (by omega) (by omega) (by omega)
set_option maxRecDepth 100000 in
set_option maxHeartbeats 4000000 in
theorem l_taken (κ : KP) (h : AH) {q cr eq p nc : Nat} {g : Int → Int} {y9 : Int} (hn : nc ≤ 6) (hO : ObF h q 7 [.int (J y9), .ref cr, .ref eq, .ref p]) {fc : Int → Option Nat} (hA : ArF h cr (.object RX2) nc (rv fc)) (hbc : ∀ c : Int, 0 ≤ c → c < nc → ∃ a, fc c = some a ∧ CrR h a (crg g c)) (hW : WF g) (e1 : (nc : Int) = g 1) {code : Int} (rc : rng code) : ∀ (f : Nat) (i tk mo : Int), (nc : Int) - i < (f : Int) → (0 ≤ i) → (i ≤ nc) → (QRc g code i tk) → ((tk = -1 ∧ mo = -1) ∨ (0 ≤ tk ∧ mo = g (4 + 4 * tk + 1))) → WW κ mX3_takenFor 1 0 0 (fun w h' => ∃ r, w = some (.int (J r)) ∧ rng r ∧ QRc g code nc r ∧ h' = h) NoX 7 [some (.ref q), some (.int (J code)), some (.int (J tk)), some (.int (J mo)), some (.int (J i)), none] [] h := by
  intro f
  induction f with
  | zero =>
    intro i tk mo hf i0 i1 hQ hm
    exact absurd hf (by omega)
  | succ f ih =>
    intro i tk mo hf i0 i1 hQ hm
    refine r_il4 dX3_takenFor_7 ?_
    refine r_al0 dX3_takenFor_9 ?_
    refine r_getfield dX3_takenFor_10 f_X3_15 (by assumption) rfl ?_
    refine r_alenF dX3_takenFor_13 hA (by decide) rfl ?_
    refine r_icmp_ge (tgt := 69) dX3_takenFor_14 (by decide) (by (first | omega | assumption | (have hw := hW.c i0 (by omega); unfold WFc QLow QCap at hw; omega) | (have hk := hQ.rg (by omega); omega) | (have hk := hQ.rg (by omega); rcases hm with ⟨m1, m2⟩ | ⟨m1, m2⟩ <;> first | omega | (have hw := hW.c m1 (by omega); unfold WFc QLow QCap at hw; omega)))) (by (first | omega | assumption | (have hw := hW.c i0 (by omega); unfold WFc QLow QCap at hw; omega) | (have hk := hQ.rg (by omega); omega) | (have hk := hQ.rg (by omega); rcases hm with ⟨m1, m2⟩ | ⟨m1, m2⟩ <;> first | omega | (have hw := hW.c m1 (by omega); unfold WFc QLow QCap at hw; omega)))) (fun c_14 => ?_) (fun c_14 => ?_)
    · refine r_il2 dX3_takenFor_69 ?_
      have hk := hQ.rg (by omega)
      rw [show i = (nc : Int) by omega] at hQ
      exact r_iret dX3_takenFor_70 (ty := .int) rfl rfl ⟨_, rfl, by omega, hQ, rfl⟩
    · refine r_al0 dX3_takenFor_17 ?_
      refine r_getfield dX3_takenFor_18 f_X3_15 (by assumption) rfl ?_
      refine r_il4 dX3_takenFor_21 ?_
      obtain ⟨a_23, ha_23, hc_23⟩ := hbc i (by omega) (by omega)
      have hd_23 := hc_23
      simp only [CrR, crg] at hd_23
      refine r_aaF dX3_takenFor_23 hA (by decide) ha_23 (by omega) (by omega) (by omega) ?_
      refine r_as5 dX3_takenFor_24 rfl ?_
      refine r_al5 dX3_takenFor_26 ?_
      refine r_getfield dX3_takenFor_28 f_X3_119 (by assumption) rfl ?_
      refine r_il1 dX3_takenFor_31 ?_
      refine r_icmp_ne (tgt := 63) dX3_takenFor_32 (by decide) (by (first | omega | assumption | (have hw := hW.c i0 (by omega); unfold WFc QLow QCap at hw; omega) | (have hk := hQ.rg (by omega); omega) | (have hk := hQ.rg (by omega); rcases hm with ⟨m1, m2⟩ | ⟨m1, m2⟩ <;> first | omega | (have hw := hW.c m1 (by omega); unfold WFc QLow QCap at hw; omega)))) (by (first | omega | assumption | (have hw := hW.c i0 (by omega); unfold WFc QLow QCap at hw; omega) | (have hk := hQ.rg (by omega); omega) | (have hk := hQ.rg (by omega); rcases hm with ⟨m1, m2⟩ | ⟨m1, m2⟩ <;> first | omega | (have hw := hW.c m1 (by omega); unfold WFc QLow QCap at hw; omega)))) (fun c_32 => ?_) (fun c_32 => ?_)
      · refine r_inc4 dX3_takenFor_63 rfl ?_
        refine r_goto (tgt := 7) dX3_takenFor_66 (by decide) ?_
        refine ww_ls (L' := [some _, some _, some _, some _, some _, none]) ⟨Or.inr rfl, Or.inr rfl, Or.inr rfl, Or.inr rfl, Or.inr rfl, Or.inl rfl, trivial⟩ ?_
        have hw := hW.c i0 (by omega)
        unfold WFc at hw
        first | exact ih (i + 1) tk mo (by omega) (by omega) (by omega) (hQ.skip (fun z => c_32 z.1)) hm | exact ih (i + 1) tk mo (by omega) (by omega) (by omega) (hQ.skip (fun z => absurd z.2 (by omega))) hm | exact ih (i + 1) i _ (by omega) (by omega) (by omega) (hQ.more i0 ⟨c_32, c_42⟩ (by rcases hm with ⟨m1, m2⟩ | ⟨m1, m2⟩ <;> omega)) (Or.inr ⟨i0, rfl⟩) | exact ih (i + 1) tk mo (by omega) (by omega) (by omega) (hQ.less (by rcases hm with ⟨m1, m2⟩ | ⟨m1, m2⟩ <;> omega) (by rcases hm with ⟨m1, m2⟩ | ⟨m1, m2⟩ <;> omega)) hm
      · refine r_al5 dX3_takenFor_35 ?_
        refine r_getfield dX3_takenFor_37 f_X3_58 (by assumption) rfl ?_
        refine r_bipush dX3_takenFor_40 (by decide) ?_
        refine r_icmp_lt (tgt := 63) dX3_takenFor_42 (by decide) (by (first | omega | assumption | (have hw := hW.c i0 (by omega); unfold WFc QLow QCap at hw; omega) | (have hk := hQ.rg (by omega); omega) | (have hk := hQ.rg (by omega); rcases hm with ⟨m1, m2⟩ | ⟨m1, m2⟩ <;> first | omega | (have hw := hW.c m1 (by omega); unfold WFc QLow QCap at hw; omega)))) (by (first | omega | assumption | (have hw := hW.c i0 (by omega); unfold WFc QLow QCap at hw; omega) | (have hk := hQ.rg (by omega); omega) | (have hk := hQ.rg (by omega); rcases hm with ⟨m1, m2⟩ | ⟨m1, m2⟩ <;> first | omega | (have hw := hW.c m1 (by omega); unfold WFc QLow QCap at hw; omega)))) (fun c_42 => ?_) (fun c_42 => ?_)
        · refine r_inc4 dX3_takenFor_63 rfl ?_
          refine r_goto (tgt := 7) dX3_takenFor_66 (by decide) ?_
          refine ww_ls (L' := [some _, some _, some _, some _, some _, none]) ⟨Or.inr rfl, Or.inr rfl, Or.inr rfl, Or.inr rfl, Or.inr rfl, Or.inl rfl, trivial⟩ ?_
          have hw := hW.c i0 (by omega)
          unfold WFc at hw
          first | exact ih (i + 1) tk mo (by omega) (by omega) (by omega) (hQ.skip (fun z => c_32 z.1)) hm | exact ih (i + 1) tk mo (by omega) (by omega) (by omega) (hQ.skip (fun z => absurd z.2 (by omega))) hm | exact ih (i + 1) i _ (by omega) (by omega) (by omega) (hQ.more i0 ⟨c_32, c_42⟩ (by rcases hm with ⟨m1, m2⟩ | ⟨m1, m2⟩ <;> omega)) (Or.inr ⟨i0, rfl⟩) | exact ih (i + 1) tk mo (by omega) (by omega) (by omega) (hQ.less (by rcases hm with ⟨m1, m2⟩ | ⟨m1, m2⟩ <;> omega) (by rcases hm with ⟨m1, m2⟩ | ⟨m1, m2⟩ <;> omega)) hm
        · refine r_al5 dX3_takenFor_45 ?_
          refine r_getfield dX3_takenFor_47 f_X3_55 (by assumption) rfl ?_
          refine r_il3 dX3_takenFor_50 ?_
          refine r_icmp_le (tgt := 63) dX3_takenFor_51 (by decide) (by (first | omega | assumption | (have hw := hW.c i0 (by omega); unfold WFc QLow QCap at hw; omega) | (have hk := hQ.rg (by omega); omega) | (have hk := hQ.rg (by omega); rcases hm with ⟨m1, m2⟩ | ⟨m1, m2⟩ <;> first | omega | (have hw := hW.c m1 (by omega); unfold WFc QLow QCap at hw; omega)))) (by (first | omega | assumption | (have hw := hW.c i0 (by omega); unfold WFc QLow QCap at hw; omega) | (have hk := hQ.rg (by omega); omega) | (have hk := hQ.rg (by omega); rcases hm with ⟨m1, m2⟩ | ⟨m1, m2⟩ <;> first | omega | (have hw := hW.c m1 (by omega); unfold WFc QLow QCap at hw; omega)))) (fun c_51 => ?_) (fun c_51 => ?_)
          · refine r_inc4 dX3_takenFor_63 rfl ?_
            refine r_goto (tgt := 7) dX3_takenFor_66 (by decide) ?_
            refine ww_ls (L' := [some _, some _, some _, some _, some _, none]) ⟨Or.inr rfl, Or.inr rfl, Or.inr rfl, Or.inr rfl, Or.inr rfl, Or.inl rfl, trivial⟩ ?_
            have hw := hW.c i0 (by omega)
            unfold WFc at hw
            first | exact ih (i + 1) tk mo (by omega) (by omega) (by omega) (hQ.skip (fun z => c_32 z.1)) hm | exact ih (i + 1) tk mo (by omega) (by omega) (by omega) (hQ.skip (fun z => absurd z.2 (by omega))) hm | exact ih (i + 1) i _ (by omega) (by omega) (by omega) (hQ.more i0 ⟨c_32, c_42⟩ (by rcases hm with ⟨m1, m2⟩ | ⟨m1, m2⟩ <;> omega)) (Or.inr ⟨i0, rfl⟩) | exact ih (i + 1) tk mo (by omega) (by omega) (by omega) (hQ.less (by rcases hm with ⟨m1, m2⟩ | ⟨m1, m2⟩ <;> omega) (by rcases hm with ⟨m1, m2⟩ | ⟨m1, m2⟩ <;> omega)) hm
          · refine r_il4 dX3_takenFor_54 ?_
            refine r_is2 dX3_takenFor_56 rfl ?_
            refine r_al5 dX3_takenFor_57 ?_
            refine r_getfield dX3_takenFor_59 f_X3_55 (by assumption) rfl ?_
            refine r_is3 dX3_takenFor_62 rfl ?_
            refine r_inc4 dX3_takenFor_63 rfl ?_
            refine r_goto (tgt := 7) dX3_takenFor_66 (by decide) ?_
            refine ww_ls (L' := [some _, some _, some _, some _, some _, none]) ⟨Or.inr rfl, Or.inr rfl, Or.inr rfl, Or.inr rfl, Or.inr rfl, Or.inl rfl, trivial⟩ ?_
            have hw := hW.c i0 (by omega)
            unfold WFc at hw
            first | exact ih (i + 1) tk mo (by omega) (by omega) (by omega) (hQ.skip (fun z => c_32 z.1)) hm | exact ih (i + 1) tk mo (by omega) (by omega) (by omega) (hQ.skip (fun z => absurd z.2 (by omega))) hm | exact ih (i + 1) i _ (by omega) (by omega) (by omega) (hQ.more i0 ⟨c_32, c_42⟩ (by rcases hm with ⟨m1, m2⟩ | ⟨m1, m2⟩ <;> omega)) (Or.inr ⟨i0, rfl⟩) | exact ih (i + 1) tk mo (by omega) (by omega) (by omega) (hQ.less (by rcases hm with ⟨m1, m2⟩ | ⟨m1, m2⟩ <;> omega) (by rcases hm with ⟨m1, m2⟩ | ⟨m1, m2⟩ <;> omega)) hm
set_option maxRecDepth 100000 in
set_option maxHeartbeats 4000000 in
theorem c_taken (κ : KP) (h : AH) {q cr eq p nc ne nb : Nat} {g : Int → Int} (H : DkV κ h q g cr eq p nc ne nb) (hW : WF g) {code : Int} (rc : rng code) : QM κ mX3_takenFor 1 [.ref q, .int (J code)] h (fun r => QRc g code nc r) := by
  refine mm_of (L := [some _, some _, none, none, none, none]) (by decide +kernel) rfl rfl (Nat.le_of_ble_eq_true rfl) rfl ?_
  have H0 := H; obtain ⟨hO, hC, hE, hP, e1, e2, e3⟩ := H
  obtain ⟨fc, hA, hbc⟩ := id hC
  refine r_iconst dX3_takenFor_0 ?_
  refine r_is2 dX3_takenFor_1 rfl ?_
  refine r_iconst dX3_takenFor_2 ?_
  refine r_is3 dX3_takenFor_3 rfl ?_
  refine r_iconst dX3_takenFor_4 ?_
  refine r_is4 dX3_takenFor_5 rfl ?_
  have := hW.n
  exact l_taken κ h (by omega) hO hA hbc hW e1 rc (nc + 1) 0 (-1) (-1) (by omega) (by omega) (by omega) QRc.z (Or.inl ⟨rfl, rfl⟩)
set_option maxRecDepth 100000 in
set_option maxHeartbeats 4000000 in
theorem c_sgl (κ : KP) (h : AH) {r : Int} (r0 : -1 ≤ r) (r1 : r < 8) : PM κ mX3_singleton 1 [.int (J r)] h (.int (J (bs (sgl r)))) := by
  refine mm_of (L := [some _]) (by decide +kernel) rfl rfl (Nat.le_of_ble_eq_true rfl) rfl ?_
  refine r_il0 dX3_singleton_0 ?_
  refine r_iconst dX3_singleton_1 ?_
  refine r_icmp_ne (tgt := 9) dX3_singleton_2 (by decide) (by (first | omega | decide)) (by (first | omega | decide)) (fun c_2 => ?_) (fun c_2 => ?_)
  · refine r_iconst dX3_singleton_9 ?_
    refine r_il0 dX3_singleton_10 ?_
    refine r_ishl dX3_singleton_11 ?_
    refine r_iret dX3_singleton_12 (ty := .int) rfl rfl ⟨?_, rfl⟩
    first | (rw [c_2]; rfl) | rw [sgl_p (by omega) (by omega)]
  · refine r_iconst dX3_singleton_5 ?_
    refine r_goto (tgt := 12) dX3_singleton_6 (by decide) ?_
    refine r_iret dX3_singleton_12 (ty := .int) rfl rfl ⟨?_, rfl⟩
    first | (rw [c_2]; rfl) | rw [sgl_p (by omega) (by omega)]
set_option maxRecDepth 100000 in
set_option maxHeartbeats 4000000 in
theorem c_going (κ : KP) (h : AH) {q cr eq p nc ne nb : Nat} {g : Int → Int} (H : DkV κ h q g cr eq p nc ne nb) (hW : WF g) {e : Nat} {x : Int → Int} (hx : EqR h e x) (rx : rng (x 0)) (rx1 : rng (x 1)) : QM κ mX3_goingSet 2 [.ref q, .ref e] h (fun r => ∃ r1 r2, QRc g (x 0) nc r1 ∧ QRc g (x 1) nc r2 ∧ r = bs (fun i => sgl r1 i || sgl r2 i)) := by
  refine mm_of (L := [some _, some _]) (by decide +kernel) rfl rfl (Nat.le_of_ble_eq_true rfl) rfl ?_
  have H0 := H; obtain ⟨hO, hC, hE, hP, e1, e2, e3⟩ := H
  refine r_al0 dX3_goingSet_0 ?_
  refine r_al1 dX3_goingSet_1 ?_
  refine r_getfield dX3_goingSet_2 f_X3_106 (by assumption) rfl ?_
  refine r_callVQ1 dX3_goingSet_5 v_X3_109 hO (c_taken κ h H0 hW (by assumption)) (by decide) rfl (fun r_5 rr_5 h_5 => ?_)
  have k_5 := h_5.rg (by omega)
  have := hW.n
  refine r_callSP1 dX3_goingSet_8 s_X3_113 (c_sgl κ h (by omega) (by omega)) (by decide) rfl ?_
  refine r_al0 dX3_goingSet_11 ?_
  refine r_al1 dX3_goingSet_12 ?_
  refine r_getfield dX3_goingSet_13 f_X3_116 (by assumption) rfl ?_
  refine r_callVQ1 dX3_goingSet_16 v_X3_109 hO (c_taken κ h H0 hW (by assumption)) (by decide) rfl (fun r_16 rr_16 h_16 => ?_)
  have k_16 := h_16.rg (by omega)
  have := hW.n
  refine r_callSP1 dX3_goingSet_19 s_X3_113 (c_sgl κ h (by omega) (by omega)) (by decide) rfl ?_
  refine r_ior dX3_goingSet_22 ?_
  rw [bs_orr]
  have bb := bs_bd (f := fun i => sgl r_5 i || sgl r_16 i)
  exact r_iret dX3_goingSet_23 (ty := .int) rfl rfl ⟨_, rfl, by omega, ⟨r_5, r_16, h_5, h_16, rfl⟩, rfl⟩
theorem QRc32 {g : Int → Int} (hW : WF g) {n r : Int} (hn : n ≤ g 1) (h : QRc g 32 n r) : r = -1 := by
  rcases h with ⟨e, -⟩ | ⟨r0, r1, hm, -⟩
  · exact e
  · have hw := hW.c r0 (by omega)
    unfold WFc QLow QCap at hw
    have := hm.1
    omega
theorem QAg_of {g : Int → Int} (hW : WF g) {e r1 r2 : Int} (he : WFe g e) (h1 : QRc g (g (28 + 4 * e + 0)) (g 1) r1) (h2 : QRc g (g (28 + 4 * e + 1)) (g 1) r2) : QAg g e ↔ ¬ (cn (fun i => sgl r1 i || sgl r2 i) < (if g (28 + 4 * e + 1) = 32 then 1 else 2)) := by
  have n1 := hW.n.2.1
  have k1 := h1.rg (by omega)
  have k2 := h2.rg (by omega)
  have hd := he.d
  rw [two_cn k1.1 (by omega) k2.1 (by omega)]
  have a1 : (∃ c, 0 ≤ c ∧ c < g 1 ∧ QMt g (g (28 + 4 * e + 0)) c) ↔ 0 ≤ r1 := ⟨h1.pos, h1.ex⟩
  have a2 : (∃ c, 0 ≤ c ∧ c < g 1 ∧ QMt g (g (28 + 4 * e + 1)) c) ↔ 0 ≤ r2 := ⟨h2.pos, h2.ex⟩
  unfold QAg
  rw [a1, a2]
  by_cases c : g (28 + 4 * e + 1) = 32
  · rw [c] at h2
    have := QRc32 hW (Int.le_refl _) h2
    rw [if_pos c, if_neg (show ¬ (0 ≤ r2 ∧ r2 ≠ r1) by omega)]
    by_cases q : 0 ≤ r1
    · rw [if_pos q]
      exact ⟨fun _ => by omega, fun _ => ⟨q, fun z => absurd c z⟩⟩
    · rw [if_neg q]
      exact ⟨fun z => absurd z.1 q, fun z => absurd z (by omega)⟩
  · rw [if_neg c]
    have hne : 0 ≤ r1 → 0 ≤ r2 → r2 ≠ r1 := fun q1 q2 z => by
      rcases h1 with ⟨z1, -⟩ | ⟨-, -, m1, -⟩
      · omega
      · rcases h2 with ⟨z2, -⟩ | ⟨-, -, m2, -⟩
        · omega
        · rw [z] at m2
          exact hd.1 (m1.1.symm.trans m2.1)
    by_cases q1 : 0 ≤ r1 <;> by_cases q2 : 0 ≤ r2
    · rw [if_pos q1, if_pos ⟨q2, hne q1 q2⟩]
      exact ⟨fun _ => by omega, fun _ => ⟨q1, fun _ => q2⟩⟩
    · rw [if_pos q1, if_neg (fun z => q2 z.1)]
      exact ⟨fun z => absurd (z.2 c) q2, fun z => absurd z (by omega)⟩
    · rw [if_neg q1]
      refine ⟨fun z => absurd z.1 q1, fun z => absurd z ?_⟩
      split <;> omega
    · rw [if_neg q1, if_neg (fun z => q2 z.1)]
      exact ⟨fun z => absurd z.1 q1, fun z => absurd z (by omega)⟩
set_option maxRecDepth 100000 in
set_option maxHeartbeats 4000000 in
theorem c_against2 (κ : KP) (h : AH) {q cr eq p nc ne nb : Nat} {g : Int → Int} (H : DkV κ h q g cr eq p nc ne nb) (hW : WF g) {e : Int} {ea : Nat} (e0 : 0 ≤ e) (e9 : e < g 2) (hx : EqR h ea (eqg g e)) : QM κ mX3_reasonAgainst 3 [.ref q, .ref ea] h (fun r => QAga g e r) := by
  refine mm_of (L := [some _, some _]) (by decide +kernel) rfl rfl (Nat.le_of_ble_eq_true rfl) rfl ?_
  have H0 := H; obtain ⟨hO, hC, hE, hP, e1, e2, e3⟩ := H
  obtain ⟨fc, hA, hbc⟩ := id hC
  have hwe := hW.e e0 e9
  have hwe0 := hwe
  unfold WFe QLow QCap at hwe
  have n1 := hW.n.2.1
  refine r_al0 dX3_reasonAgainst_0 ?_
  refine r_al1 dX3_reasonAgainst_1 ?_
  refine r_callVQ1 dX3_reasonAgainst_2 v_X3_34 hO (c_going κ h H0 hW hx (by simp only [eqg]; omega) (by simp only [eqg]; omega)) (by decide) rfl (fun r_2 rr_2 h_2 => ?_)
  obtain ⟨r1, r2, q1, q2, rfl⟩ := h_2
  rw [e1] at q1 q2
  have hag := QAg_of hW hwe0 q1 q2
  refine r_callSP1 dX3_reasonAgainst_5 s_X3_38 (c_bitCount κ h) (by decide) rfl ?_
  refine r_al1 dX3_reasonAgainst_8 ?_
  refine r_callVP0 dX3_reasonAgainst_9 v_X3_44 hx (c_goingN κ h hx (by simp only [eqg]; omega)) (by decide) rfl ?_
  refine r_icmp_ge (tgt := 17) dX3_reasonAgainst_12 (by decide) (by (first | omega | (have hb := cn_bd (f := fun i => sgl r1 i || sgl r2 i); split <;> omega) | (have hb := cn_bd (f := fun i => sgl r1 i || sgl r2 i); omega) | (split <;> split <;> omega))) (by (first | omega | (have hb := cn_bd (f := fun i => sgl r1 i || sgl r2 i); split <;> omega) | (have hb := cn_bd (f := fun i => sgl r1 i || sgl r2 i); omega) | (split <;> split <;> omega))) (fun c_12 => ?_) (fun c_12 => ?_)
  · refine r_al0 dX3_reasonAgainst_17 ?_
    refine r_getfield dX3_reasonAgainst_18 f_X3_15 (by assumption) rfl ?_
    refine r_alenF dX3_reasonAgainst_21 hA (by decide) rfl ?_
    refine r_al1 dX3_reasonAgainst_22 ?_
    refine r_callVP0 dX3_reasonAgainst_23 v_X3_44 hx (c_goingN κ h hx (by simp only [eqg]; omega)) (by decide) rfl ?_
    refine r_isub dX3_reasonAgainst_26 ?_
    refine r_al1 dX3_reasonAgainst_27 ?_
    refine r_callVP0 dX3_reasonAgainst_28 v_X3_48 hx (c_comingN κ h hx (by simp only [eqg]; omega)) (by decide) rfl ?_
    refine r_iadd dX3_reasonAgainst_31 ?_
    refine r_bipush dX3_reasonAgainst_32 (by decide) ?_
    refine r_icmp_le (tgt := 39) dX3_reasonAgainst_34 (by decide) (by (first | omega | (have hb := cn_bd (f := fun i => sgl r1 i || sgl r2 i); split <;> omega) | (have hb := cn_bd (f := fun i => sgl r1 i || sgl r2 i); omega) | (split <;> split <;> omega))) (by (first | omega | (have hb := cn_bd (f := fun i => sgl r1 i || sgl r2 i); split <;> omega) | (have hb := cn_bd (f := fun i => sgl r1 i || sgl r2 i); omega) | (split <;> split <;> omega))) (fun c_34 => ?_) (fun c_34 => ?_)
    · refine r_iconst dX3_reasonAgainst_39 ?_
      refine r_iret dX3_reasonAgainst_40 (ty := .int) rfl rfl ⟨_, rfl, by decide, ?_, rfl⟩
      have hg : QAg g e := hag.mpr (by show ¬ (cn (fun i => sgl r1 i || sgl r2 i) < (if eqg g e 1 = 32 then 1 else 2)); omega)
      have en : QAgn g e = (nc : Int) - (if eqg g e 1 = 32 then 1 else 2) + (if eqg g e 3 = 32 then 1 else 2) := by
        unfold QAgn eqg
        split <;> split <;> omega
      exact Or.inr (Or.inr ⟨hg, by omega, rfl⟩)
    · refine r_iconst dX3_reasonAgainst_37 ?_
      refine r_iret dX3_reasonAgainst_38 (ty := .int) rfl rfl ⟨_, rfl, by decide, ?_, rfl⟩
      have hg : QAg g e := hag.mpr (by show ¬ (cn (fun i => sgl r1 i || sgl r2 i) < (if eqg g e 1 = 32 then 1 else 2)); omega)
      have en : QAgn g e = (nc : Int) - (if eqg g e 1 = 32 then 1 else 2) + (if eqg g e 3 = 32 then 1 else 2) := by
        unfold QAgn eqg
        split <;> split <;> omega
      exact Or.inr (Or.inl ⟨hg, by omega, rfl⟩)
  · refine r_iconst dX3_reasonAgainst_15 ?_
    refine r_iret dX3_reasonAgainst_16 (ty := .int) rfl rfl ⟨_, rfl, by decide, ?_, rfl⟩
    exact Or.inl ⟨fun z => hag.mp z c_12, rfl⟩
