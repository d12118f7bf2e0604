/-! ===== within ===== -/
def prt (g : Int → Int) (k : Int) : Int := if k < 0 then -1 else g (60 + 12 * k + 1)
def upn (g : Int → Int) : Nat → Int → Int
  | 0, k => k
  | n + 1, k => upn g n (prt g k)
def QWt (g : Int → Int) (k b : Int) : Prop := ∃ n, upn g n k = b
theorem upn_neg {g : Int → Int} : ∀ (n : Nat) {k : Int}, k < 0 → upn g n k < 0
  | 0, _, h => h
  | n + 1, k, h => by
    show upn g n (prt g k) < 0
    exact upn_neg n (by unfold prt; rw [if_pos h]; decide)
theorem QWt.neg {g : Int → Int} {k b : Int} (hk : k < 0) (hb : 0 ≤ b) : ¬ QWt g k b := fun ⟨n, h⟩ => by
  have := upn_neg (g := g) n hk
  omega
theorem QWt.rf {g : Int → Int} {k : Int} : QWt g k k := ⟨0, rfl⟩
theorem QWt.step {g : Int → Int} {k b : Int} (hk : 0 ≤ k) (h : k ≠ b) : QWt g k b ↔ QWt g (g (60 + 12 * k + 1)) b := by
  have e : prt g k = g (60 + 12 * k + 1) := by unfold prt; rw [if_neg (by omega)]
  constructor
  · rintro ⟨n, hn⟩
    cases n with
    | zero => exact absurd hn h
    | succ n => exact ⟨n, by rw [← e]; exact hn⟩
  · rintro ⟨n, hn⟩
    exact ⟨n + 1, by show upn g n (prt g k) = b; rw [e]; exact hn⟩
set_option maxRecDepth 100000 in
set_option maxHeartbeats 4000000 in
theorem l_isWithin (κ : KP) {A : Nat → Nat} {M : MEM} (h : AH) (hA : MA A) (hR : RG M) (hW : WF (M 0)) {b k0 : Int} (rb : rng b) (b0 : 0 ≤ b) : ∀ (f : Nat) (k : Int), k + 1 < (f : Int) → (-1 ≤ k) → (k < M 0 3) → (QWt (M 0) k0 b ↔ QWt (M 0) k b) → WW κ mX10_isWithin 2 0 0 (fun w h' => w = some (.int (J (bI (tb (QWt (M 0) k0 b))))) ∧ h' = mset A M h) NoX 2 [some (.ref (A 30)), some (.int (J k0)), some (.int (J b)), some (.int (J k))] [] (mset A M h) := by
  intro f
  induction f with
  | zero =>
    intro k hf k1 k2 hq
    exact absurd hf (by omega)
  | succ f ih =>
    intro k hf k1 k2 hq
    have hn := hW.n
    refine r_il3 dX10_isWithin_2 ?_
    refine r_if_lt (tgt := 25) dX10_isWithin_3 (by decide) (by first | omega | exact hR _ _) (fun c_3 => ?_) (fun c_3 => ?_)
    · refine r_il3 dX10_isWithin_25 ?_
      refine r_il2 dX10_isWithin_26 ?_
      refine r_icmp_ne (tgt := 34) dX10_isWithin_27 (by decide) (by first | omega | exact hR _ _) (by first | omega | exact hR _ _) (fun c_27 => ?_) (fun c_27 => ?_)
      · refine r_iconst dX10_isWithin_34 ?_
        refine r_iret dX10_isWithin_35 (ty := .boolean) rfl (by first | exact nar_B _ | decide) ?_
        first | exact ⟨rfl, rfl⟩ | exact ⟨ret_t (by first | (rw [hq, show k = b by omega]; exact QWt.rf) | (rw [hq]; exact QWt.neg (by omega) b0)), rfl⟩ | exact ⟨ret_f (by first | (rw [hq, show k = b by omega]; exact QWt.rf) | (rw [hq]; exact QWt.neg (by omega) b0)), rfl⟩
      · refine r_iconst dX10_isWithin_30 ?_
        refine r_goto (tgt := 35) dX10_isWithin_31 (by decide) ?_
        refine r_iret dX10_isWithin_35 (ty := .boolean) rfl (by first | exact nar_B _ | decide) ?_
        first | exact ⟨rfl, rfl⟩ | exact ⟨ret_t (by first | (rw [hq, show k = b by omega]; exact QWt.rf) | (rw [hq]; exact QWt.neg (by omega) b0)), rfl⟩ | exact ⟨ret_f (by first | (rw [hq, show k = b by omega]; exact QWt.rf) | (rw [hq]; exact QWt.neg (by omega) b0)), rfl⟩
    · refine r_il3 dX10_isWithin_6 ?_
      refine r_il2 dX10_isWithin_7 ?_
      refine r_icmp_eq (tgt := 25) dX10_isWithin_8 (by decide) (by first | omega | exact hR _ _) (by first | omega | exact hR _ _) (fun c_8 => ?_) (fun c_8 => ?_)
      · refine r_il3 dX10_isWithin_25 ?_
        refine r_il2 dX10_isWithin_26 ?_
        refine r_icmp_ne (tgt := 34) dX10_isWithin_27 (by decide) (by first | omega | exact hR _ _) (by first | omega | exact hR _ _) (fun c_27 => ?_) (fun c_27 => ?_)
        · refine r_iconst dX10_isWithin_34 ?_
          refine r_iret dX10_isWithin_35 (ty := .boolean) rfl (by first | exact nar_B _ | decide) ?_
          first | exact ⟨rfl, rfl⟩ | exact ⟨ret_t (by first | (rw [hq, show k = b by omega]; exact QWt.rf) | (rw [hq]; exact QWt.neg (by omega) b0)), rfl⟩ | exact ⟨ret_f (by first | (rw [hq, show k = b by omega]; exact QWt.rf) | (rw [hq]; exact QWt.neg (by omega) b0)), rfl⟩
        · refine r_iconst dX10_isWithin_30 ?_
          refine r_goto (tgt := 35) dX10_isWithin_31 (by decide) ?_
          refine r_iret dX10_isWithin_35 (ty := .boolean) rfl (by first | exact nar_B _ | decide) ?_
          first | exact ⟨rfl, rfl⟩ | exact ⟨ret_t (by first | (rw [hq, show k = b by omega]; exact QWt.rf) | (rw [hq]; exact QWt.neg (by omega) b0)), rfl⟩ | exact ⟨ret_f (by first | (rw [hq, show k = b by omega]; exact QWt.rf) | (rw [hq]; exact QWt.neg (by omega) b0)), rfl⟩
      · refine r_al0 dX10_isWithin_11 ?_
        refine m_get dX10_isWithin_12 f_X10_7 hA rfl ?_
        refine r_il3 dX10_isWithin_15 ?_
        refine r_iconst dX10_isWithin_16 ?_
        refine r_callSP2 dX10_isWithin_17 s_X10_65 (c_blockAt κ _) (by decide) rfl ?_
        refine m_ald dX10_isWithin_20 hA (by decide) rfl (by first | omega | (simp only [mlen]; omega)) (by first | omega | (simp only [mlen]; omega)) ?_
        refine r_is3 dX10_isWithin_21 rfl ?_
        refine r_goto (tgt := 2) dX10_isWithin_22 (by decide) ?_
        have hbb := hW.b (b := k) (by omega) k2
        unfold WFb at hbb
        exact ih _ (by omega) (by omega) (by omega) (hq.trans (QWt.step (by omega) (by assumption)))
set_option maxRecDepth 100000 in
set_option maxHeartbeats 4000000 in
theorem c_isWithin (κ : KP) {A : Nat → Nat} {M : MEM} (h : AH) (hA : MA A) (hR : RG M) (hW : WF (M 0)) {k b : Int} (rb : rng b) (b0 : 0 ≤ b) (k0 : -1 ≤ k) (k1 : k < M 0 3) : PM κ mX10_isWithin 2 [.ref (A 30), .int (J k), .int (J b)] (mset A M h) (.int (J (bI (tb (QWt (M 0) k b))))) := by
  refine mm_of (L := [some _, some _, some _, none]) (by decide +kernel) rfl rfl (Nat.le_of_ble_eq_true rfl) rfl ?_
  refine r_il1 dX10_isWithin_0 ?_
  refine r_is3 dX10_isWithin_1 rfl ?_
  exact l_isWithin κ h hA hR hW rb b0 9 k (by have := hW.n; omega) k0 k1 Iff.rfl
noncomputable def qpts (g u : Int → Int) (b : Int) : Int → Int := fun k => if tb (QWt g k b) = true then qgets g u k else 0
def R_points (g : Int → Int) (b t r : Int) : Prop := (¬ QIn b 0 (g 3 - 1) ∧ t = 1) ∨ (QIn b 0 (g 3 - 1) ∧ t = 0 ∧ ∃ u, QBest g u ∧ r = sz (qpts g u b) (g 3))
theorem qgets_bd {g u : Int → Int} (hW : WF g) {k : Int} : 0 ≤ qgets g u k ∧ qgets g u k ≤ 144 := by
  have hn := hW.n
  have := qpt_bd hW (p := fun c => u c = k) (k := g 1) (by omega) (Int.le_refl _)
  unfold qgets
  omega
theorem qpts_bd {g u : Int → Int} (hW : WF g) {b k : Int} (k0 : 0 ≤ k) : 0 ≤ sz (qpts g u b) k ∧ sz (qpts g u b) k ≤ k * 144 := by
  refine sz_bd k0 (fun i _ _ => ?_)
  have := qgets_bd (u := u) hW (k := i)
  unfold qpts
  split <;> omega
set_option maxRecDepth 100000 in
set_option maxHeartbeats 4000000 in
theorem l_points (κ : KP) {A : Nat → Nat} {M : MEM} (h : AH) (hA : MA A) (hR : RG M) (hC : CW (M 0)) (hK : QKn M) {M1 : MEM} (hfs : QFs M M1) {b : Int} (rb : rng b) (hB : QIn b 0 (M 0 3 - 1)) : ∀ (f : Nat) (k : Int), M 0 3 - k < (f : Int) → (0 ≤ k) → (k ≤ M 0 3) → WW κ mX10_points 7 0 0 (fun v h' => ∃ r M', v = some (.int (J r)) ∧ h' = mset A M' h ∧ (fun r M' => ∃ t, QFx M t M' ∧ R_points (M 0) b t r) r M') NoX 25 [some (.ref (A 30)), some (.int (J b)), some (.int (J (sz (qpts (M 0) (M1 10) b) k))), some (.int (J k))] [] (mset A (updm M1 30 7 0) h) := by
  intro f
  induction f with
  | zero =>
    intro k hf k0 k1
    exact absurd hf (by omega)
  | succ f ih =>
    intro k hf k0 k1
    have hW := hC.1
    obtain ⟨⟨y0, y1⟩, ⟨n0, n1⟩, ⟨q0, q1⟩, ⟨m0, m1⟩⟩ := hW.n
    have e0 := hfs.e0
    have hR1 := hfs.1
    have hf2 := hfs
    obtain ⟨-, -, -, hbest, hw1, hw2, hw3, hw4⟩ := hf2
    have hsb := qpts_bd (u := M1 10) hW (b := b) k0
    refine r_al0 dX10_points_25 ?_
    refine m_get dX10_points_26 f_X10_51 hA rfl ?_
    try simp only [updm_app, Int.reduceEq, Nat.reduceEqDiff, and_true, true_and, false_and, and_false, if_true, if_false, reduceIte, e0]
    refine r_if_ne (tgt := 70) dX10_points_29 (by decide) (by first | omega | decide | exact hR1 _ _) (fun c_29 => ?_) (fun c_29 => ?_)
    · refine r_il2 dX10_points_70 ?_
      first
        | exact absurd rfl c_29
        | exact r_iret dX10_points_71 (ty := .int) rfl rfl ⟨_, _, rfl, rfl, 0, hfs.fsx (by decide), Or.inr ⟨hB, rfl, _, hbest, by rw [show k = M 0 3 by omega]⟩⟩
    · refine r_il3 dX10_points_32 ?_
      refine r_al0 dX10_points_33 ?_
      refine m_get dX10_points_34 f_X10_7 hA rfl ?_
      refine r_iconst dX10_points_37 ?_
      refine m_ald dX10_points_38 hA (by decide) rfl (by first | omega | (simp only [mlen]; omega)) (by first | omega | (simp only [mlen]; omega)) ?_
      try simp only [updm_app, Int.reduceEq, Nat.reduceEqDiff, and_true, true_and, false_and, and_false, if_true, if_false, reduceIte, e0]
      refine r_icmp_ge (tgt := 70) dX10_points_39 (by decide) (by first | omega | decide | exact hR1 _ _) (by first | omega | decide | exact hR1 _ _) (fun c_39 => ?_) (fun c_39 => ?_)
      · refine r_il2 dX10_points_70 ?_
        first
          | exact absurd rfl c_29
          | exact r_iret dX10_points_71 (ty := .int) rfl rfl ⟨_, _, rfl, rfl, 0, hfs.fsx (by decide), Or.inr ⟨hB, rfl, _, hbest, by rw [show k = M 0 3 by omega]⟩⟩
      · refine r_il2 dX10_points_42 ?_
        refine r_al0 dX10_points_43 ?_
        refine r_il3 dX10_points_44 ?_
        refine r_il1 dX10_points_45 ?_
        refine m_callP2 dX10_points_46 v_X10_227 hA (c_isWithin κ _ hA (RG.up hR1 (by decide)) (by rw [updm_k (by decide), e0]; exact hW) rb hB.1 (by omega) (by rw [updm_k (by decide), e0]; omega)) (by decide) rfl ?_
        rw [updm_k (k' := 0) (by decide), e0]
        refine r_ifT_eq (tgt := 61) dX10_points_49 (by decide) (fun c_49 => ?_) (fun c_49 => ?_)
        · refine r_iconst dX10_points_61 ?_
          refine r_iadd dX10_points_62 ?_
          refine r_is2 dX10_points_63 rfl ?_
          refine r_inc3 dX10_points_64 rfl ?_
          refine r_goto (tgt := 25) dX10_points_67 (by decide) ?_
          have e := ih (k + 1) (by omega) (by omega) (by omega)
          rw [sz_1 k0] at e
          first
            | (rw [show qpts (M 0) (M1 10) b k = M1 11 k by unfold qpts; rw [if_pos (tb_t.mpr (by assumption)), (hw1 k k0 (by omega)).1]] at e; exact e)
            | (rw [show qpts (M 0) (M1 10) b k = 0 by unfold qpts; rw [if_neg (by rw [tb_f.mpr (by assumption)]; decide)]] at e; exact e)
        · refine r_al0 dX10_points_52 ?_
          refine m_get dX10_points_53 f_X10_28 hA rfl ?_
          refine r_il3 dX10_points_56 ?_
          refine m_ald dX10_points_57 hA (by decide) rfl (by first | omega | (simp only [mlen]; omega)) (by first | omega | (simp only [mlen]; omega)) ?_
          try simp only [updm_app, Int.reduceEq, Nat.reduceEqDiff, and_true, true_and, false_and, and_false, if_true, if_false, reduceIte, e0]
          refine r_goto (tgt := 62) dX10_points_58 (by decide) ?_
          refine r_iadd dX10_points_62 ?_
          refine r_is2 dX10_points_63 rfl ?_
          refine r_inc3 dX10_points_64 rfl ?_
          refine r_goto (tgt := 25) dX10_points_67 (by decide) ?_
          have e := ih (k + 1) (by omega) (by omega) (by omega)
          rw [sz_1 k0] at e
          first
            | (rw [show qpts (M 0) (M1 10) b k = M1 11 k by unfold qpts; rw [if_pos (tb_t.mpr (by assumption)), (hw1 k k0 (by omega)).1]] at e; exact e)
            | (rw [show qpts (M 0) (M1 10) b k = 0 by unfold qpts; rw [if_neg (by rw [tb_f.mpr (by assumption)]; decide)]] at e; exact e)
set_option maxRecDepth 100000 in
set_option maxHeartbeats 4000000 in
theorem c_points (κ : KP) {A : Nat → Nat} {M : MEM} (hA : MA A) (hR : RG M) (hC : CW (M 0)) (hK : QKn M) {b : Int} (rb : rng b) : RM κ mX10_points 7 A [.ref (A 30), .int (J b)] M (fun r M' => ∃ t, QFx M t M' ∧ R_points (M 0) b t r) := by
  intro h
  refine mm_of (L := [some _, some _, none, none]) (by decide +kernel) rfl rfl (Nat.le_of_ble_eq_true rfl) rfl ?_
  have hW := hC.1
  obtain ⟨⟨y0, y1⟩, ⟨n0, n1⟩, ⟨q0, q1⟩, ⟨m0, m1⟩⟩ := hW.n
  refine r_al0 dX10_points_0 ?_
  refine m_callU0 dX10_points_1 v_X10_150 hA (c_finds κ hA hR hW hK) (by decide) rfl (fun M_1 h_1 => ?_)
  have e0 := h_1.e0
  have hR1 := h_1.1
  have hf := h_1
  obtain ⟨-, -, -, hbest, hw1, hw2, hw3, hw4⟩ := h_1
  refine r_al0 dX10_points_4 ?_
  refine r_al0 dX10_points_5 ?_
  refine r_il1 dX10_points_6 ?_
  refine m_callP1 dX10_points_7 v_X10_153 hA (c_isBlock κ _ hA hR1 (by omega) (by rw [e0]; omega) (by rw [e0]; omega)) (by decide) rfl ?_
  simp only [e0]
  refine r_ifT_eq (tgt := 17) dX10_points_10 (by decide) (fun c_10 => ?_) (fun c_10 => ?_)
  · refine r_iconst dX10_points_17 ?_
    refine m_put dX10_points_18 f_X10_51 p_X10_51 (ff_14_7 _) hA mfp_7 rfl rfl ?_
    refine r_iconst dX10_points_21 ?_
    refine r_is2 dX10_points_22 rfl ?_
    refine r_iconst dX10_points_23 ?_
    refine r_is3 dX10_points_24 rfl ?_
    first
      | exact l_points κ h hA hR hC hK hf rb (by assumption) 9 0 (by omega) (by omega) (by omega)
      | (refine r_al0 dX10_points_25 ?_
         refine m_get dX10_points_26 f_X10_51 hA rfl ?_
         try simp only [updm_app, Int.reduceEq, Nat.reduceEqDiff, and_true, true_and, false_and, and_false, if_true, if_false, reduceIte, e0]
         refine r_if_ne (tgt := 70) dX10_points_29 (by decide) (by decide) (fun c_29 => ?_) (fun c_29 => absurd c_29 (by decide))
         refine r_il2 dX10_points_70 ?_
         exact r_iret dX10_points_71 (ty := .int) rfl rfl ⟨_, _, rfl, rfl, 1, hf.fsx (by decide), Or.inl ⟨by assumption, rfl⟩⟩)
  · refine r_iconst dX10_points_13 ?_
    refine r_goto (tgt := 18) dX10_points_14 (by decide) ?_
    refine m_put dX10_points_18 f_X10_51 p_X10_51 (ff_14_7 _) hA mfp_7 rfl rfl ?_
    refine r_iconst dX10_points_21 ?_
    refine r_is2 dX10_points_22 rfl ?_
    refine r_iconst dX10_points_23 ?_
    refine r_is3 dX10_points_24 rfl ?_
    first
      | exact l_points κ h hA hR hC hK hf rb (by assumption) 9 0 (by omega) (by omega) (by omega)
      | (refine r_al0 dX10_points_25 ?_
         refine m_get dX10_points_26 f_X10_51 hA rfl ?_
         try simp only [updm_app, Int.reduceEq, Nat.reduceEqDiff, and_true, true_and, false_and, and_false, if_true, if_false, reduceIte, e0]
         refine r_if_ne (tgt := 70) dX10_points_29 (by decide) (by decide) (fun c_29 => ?_) (fun c_29 => absurd c_29 (by decide))
         refine r_il2 dX10_points_70 ?_
         exact r_iret dX10_points_71 (ty := .int) rfl rfl ⟨_, _, rfl, rfl, 1, hf.fsx (by decide), Or.inl ⟨by assumption, rfl⟩⟩)
noncomputable def qacc (g : Int → Int) (c k : Int) : Int → Bool := fun i => tb (0 ≤ i ∧ i < k ∧ QTk g i c)
def R_credit (g : Int → Int) (c x t r : Int) : Prop := (¬ QIn c 0 (g 1 - 1) ∧ t = 1) ∨ (QIn c 0 (g 1 - 1) ∧ ¬ QIn x 0 4 ∧ t = 2) ∨ (QIn c 0 (g 1 - 1) ∧ t = 0 ∧ ((0 ≤ x ∧ x < 3 ∧ r = g (4 + 4 * c + (x + 1))) ∨ (x = 3 ∧ ∃ u, QBest g u ∧ r = u c) ∨ (x = 4 ∧ r = bs (qacc g c (g 3)))))
theorem qacc_0 {g : Int → Int} {c : Int} : bs (qacc g c 0) = 0 := by
  rw [bs_cong (f := qacc g c 0) (g := fun _ => false) (fun i h0 h1 => tb_f.mpr (fun z => by omega))]
  rfl
theorem qacc_f {g : Int → Int} {c k : Int} (h : ¬ QTk g k c) : qacc g c (k + 1) = qacc g c k := by
  funext i
  unfold qacc
  refine tb_congr ⟨fun ⟨a, b, d⟩ => ⟨a, ?_, d⟩, fun ⟨a, b, d⟩ => ⟨a, by omega, d⟩⟩
  rcases (show i < k ∨ i = k by omega) with q | q
  · exact q
  · rw [q] at d; exact absurd d h
theorem qacc_t {g : Int → Int} {c k : Int} (h0 : 0 ≤ k) (h : QTk g k c) : qacc g c (k + 1) = fun i => qacc g c k i || i == k := by
  funext i
  unfold qacc
  by_cases e : i = k
  · rw [e, tb_t.mpr ⟨h0, by omega, h⟩]
    simp
  · have : (i == k) = false := by simpa using e
    rw [this, Bool.or_false]
    exact tb_congr ⟨fun ⟨a, b, d⟩ => ⟨a, by omega, d⟩, fun ⟨a, b, d⟩ => ⟨a, by omega, d⟩⟩
set_option maxRecDepth 100000 in
set_option maxHeartbeats 4000000 in
theorem l_credit (κ : KP) {A : Nat → Nat} {M : MEM} (h : AH) (hA : MA A) (hR : RG M) (hC : CW (M 0)) (hK : QKn M) {c x : Int} (hc : QIn c 0 (M 0 1 - 1)) (rc : rng c) (hx : x = 4) : ∀ (f : Nat) (k : Int), M 0 3 - k < (f : Int) → (0 ≤ k) → (k ≤ M 0 3) → WW κ mX10_credit 7 0 0 (fun v h' => ∃ r M', v = some (.int (J r)) ∧ h' = mset A M' h ∧ (fun r M' => ∃ t, QFx M t M' ∧ R_credit (M 0) c x t r) r M') NoX 78 [some (.ref (A 30)), some (.int (J c)), some (.int (J x)), some (.int (J (bs (qacc (M 0) c k)))), some (.int (J k))] [] (mset A (updm M 30 7 0) h) := by
  intro f
  induction f with
  | zero =>
    intro k hf k0 k1
    exact absurd hf (by omega)
  | succ f ih =>
    intro k hf k0 k1
    have hW := hC.1
    obtain ⟨⟨y0, y1⟩, ⟨n0, n1⟩, ⟨q0, q1⟩, ⟨m0, m1⟩⟩ := hW.n
    refine r_il4 dX10_credit_78 ?_
    refine r_al0 dX10_credit_80 ?_
    refine m_get dX10_credit_81 f_X10_7 hA rfl ?_
    refine r_iconst dX10_credit_84 ?_
    refine m_ald dX10_credit_85 hA (by decide) rfl (by first | omega | (simp only [mlen]; omega)) (by first | omega | (simp only [mlen]; omega)) ?_
    try simp only [updm_app, Int.reduceEq, Nat.reduceEqDiff, and_true, true_and, false_and, and_false, if_true, if_false, reduceIte]
    refine r_icmp_ge (tgt := 116) dX10_credit_86 (by decide) (by first | omega | decide | exact hR _ _) (by first | omega | decide | exact hR _ _) (fun c_86 => ?_) (fun c_86 => ?_)
    · refine r_il3 dX10_credit_116 ?_
      exact r_iret dX10_credit_117 (ty := .int) rfl rfl ⟨_, _, rfl, rfl, 0, QFx.thr hR hK (by decide), Or.inr (Or.inr ⟨hc, rfl, Or.inr (Or.inr ⟨hx, by rw [show k = M 0 3 by omega]⟩)⟩)⟩
    · refine r_il3 dX10_credit_89 ?_
      refine r_al0 dX10_credit_90 ?_
      refine r_il4 dX10_credit_91 ?_
      refine r_il1 dX10_credit_93 ?_
      refine m_callP2 dX10_credit_94 v_X10_106 hA (c_takes κ _ hA (RG.up hR (by decide)) (by rw [updm_k (by decide)]; exact hW) (b := k) (by omega) (by rw [updm_k (by decide)]; omega) (c := c) hc.1 (by rw [updm_k (by decide)]; unfold QIn at hc; omega)) (by decide) rfl ?_
      rw [updm_k (k' := 0) (by decide)]
      refine r_ifT_eq (tgt := 107) dX10_credit_97 (by decide) (fun c_97 => ?_) (fun c_97 => ?_)
      · refine r_iconst dX10_credit_107 ?_
        refine r_ior dX10_credit_108 ?_
        first | rw [bs_or k0 (by omega)] | rw [J_or0]
        refine r_is3 dX10_credit_109 rfl ?_
        refine r_inc4 dX10_credit_110 rfl ?_
        refine r_goto (tgt := 78) dX10_credit_113 (by decide) ?_
        have e := ih (k + 1) (by omega) (by omega) (by omega)
        first | (rw [qacc_t k0 (by assumption)] at e; exact e) | (rw [qacc_f (by assumption)] at e; exact e)
      · refine r_iconst dX10_credit_100 ?_
        refine r_il4 dX10_credit_101 ?_
        refine r_ishl dX10_credit_103 ?_
        refine r_goto (tgt := 108) dX10_credit_104 (by decide) ?_
        refine r_ior dX10_credit_108 ?_
        first | rw [bs_or k0 (by omega)] | rw [J_or0]
        refine r_is3 dX10_credit_109 rfl ?_
        refine r_inc4 dX10_credit_110 rfl ?_
        refine r_goto (tgt := 78) dX10_credit_113 (by decide) ?_
        have e := ih (k + 1) (by omega) (by omega) (by omega)
        first | (rw [qacc_t k0 (by assumption)] at e; exact e) | (rw [qacc_f (by assumption)] at e; exact e)
set_option maxRecDepth 100000 in
set_option maxHeartbeats 4000000 in
theorem c_credit (κ : KP) {A : Nat → Nat} {M : MEM} (hA : MA A) (hR : RG M) (hC : CW (M 0)) (hK : QKn M) {c x : Int} (rc : rng c) (rx : rng x) : RM κ mX10_credit 7 A [.ref (A 30), .int (J c), .int (J x)] M (fun r M' => ∃ t, QFx M t M' ∧ R_credit (M 0) c x t r) := by
  intro h
  refine mm_of (L := [some _, some _, some _, none, none]) (by decide +kernel) rfl rfl (Nat.le_of_ble_eq_true rfl) rfl ?_
  have hW := hC.1
  obtain ⟨⟨y0, y1⟩, ⟨n0, n1⟩, ⟨q0, q1⟩, ⟨m0, m1⟩⟩ := hW.n
  refine r_al0 dX10_credit_0 ?_
  refine r_al0 dX10_credit_1 ?_
  refine r_il1 dX10_credit_2 ?_
  refine m_callP1 dX10_credit_3 v_X10_143 hA (c_isCredit κ _ hA hR (by omega) (by omega) (by omega)) (by decide) rfl ?_
  refine r_ifT_eq (tgt := 26) dX10_credit_6 (by decide) (fun c_6 => ?_) (fun c_6 => ?_)
  · refine r_iconst dX10_credit_26 ?_
    refine m_put dX10_credit_27 f_X10_51 p_X10_51 (ff_14_7 _) hA mfp_7 rfl rfl ?_
    refine r_al0 dX10_credit_30 ?_
    refine m_get dX10_credit_31 f_X10_51 hA rfl ?_
    try simp only [updm_app, cpy_app, Int.reduceEq, Nat.reduceEqDiff, and_true, true_and, false_and, and_false, if_true, if_false, reduceIte]
    refine r_if_le (tgt := 39) dX10_credit_34 (by decide) (by first | omega | decide | exact hR _ _) (fun c_34 => ?_) (fun c_34 => ?_)
    · exact absurd c_34 (by decide)
    · refine r_iconst dX10_credit_37 ?_
      first
        | exact r_iret dX10_credit_38 (ty := .int) rfl rfl ⟨_, _, rfl, rfl, 1, QFx.thr hR hK (by decide), Or.inl ⟨by assumption, rfl⟩⟩
        | exact r_iret dX10_credit_38 (ty := .int) rfl rfl ⟨_, _, rfl, rfl, 2, QFx.thr hR hK (by decide), Or.inr (Or.inl ⟨by assumption, by assumption, rfl⟩)⟩
        | exact r_iret dX10_credit_38 (ty := .int) rfl rfl ⟨_, _, rfl, rfl, 0, QFx.thr hR hK (by decide), Or.inr (Or.inr ⟨by assumption, rfl, Or.inl ⟨by unfold QIn at *; omega, by omega, rfl⟩⟩)⟩
        | exact r_iret dX10_credit_38 (ty := .int) rfl rfl ⟨_, _, rfl, rfl, 0, QFx.fs2 hf, Or.inr (Or.inr ⟨by assumption, rfl, Or.inr (Or.inl ⟨by omega, _, hbest, rfl⟩)⟩)⟩
  · refine r_il2 dX10_credit_9 ?_
    refine r_iconst dX10_credit_10 ?_
    refine r_iconst dX10_credit_11 ?_
    refine r_callSP3 dX10_credit_12 s_X10_61 (c_in κ _ (by first | omega | exact hR _ _) (by first | omega | exact hR _ _) (by first | omega | exact hR _ _)) (by decide) rfl ?_
    refine r_ifT_eq (tgt := 22) dX10_credit_15 (by decide) (fun c_15 => ?_) (fun c_15 => ?_)
    · refine r_iconst dX10_credit_22 ?_
      refine r_goto (tgt := 27) dX10_credit_23 (by decide) ?_
      refine m_put dX10_credit_27 f_X10_51 p_X10_51 (ff_14_7 _) hA mfp_7 rfl rfl ?_
      refine r_al0 dX10_credit_30 ?_
      refine m_get dX10_credit_31 f_X10_51 hA rfl ?_
      try simp only [updm_app, cpy_app, Int.reduceEq, Nat.reduceEqDiff, and_true, true_and, false_and, and_false, if_true, if_false, reduceIte]
      refine r_if_le (tgt := 39) dX10_credit_34 (by decide) (by first | omega | decide | exact hR _ _) (fun c_34 => ?_) (fun c_34 => ?_)
      · exact absurd c_34 (by decide)
      · refine r_iconst dX10_credit_37 ?_
        first
          | exact r_iret dX10_credit_38 (ty := .int) rfl rfl ⟨_, _, rfl, rfl, 1, QFx.thr hR hK (by decide), Or.inl ⟨by assumption, rfl⟩⟩
          | exact r_iret dX10_credit_38 (ty := .int) rfl rfl ⟨_, _, rfl, rfl, 2, QFx.thr hR hK (by decide), Or.inr (Or.inl ⟨by assumption, by assumption, rfl⟩)⟩
          | exact r_iret dX10_credit_38 (ty := .int) rfl rfl ⟨_, _, rfl, rfl, 0, QFx.thr hR hK (by decide), Or.inr (Or.inr ⟨by assumption, rfl, Or.inl ⟨by unfold QIn at *; omega, by omega, rfl⟩⟩)⟩
          | exact r_iret dX10_credit_38 (ty := .int) rfl rfl ⟨_, _, rfl, rfl, 0, QFx.fs2 hf, Or.inr (Or.inr ⟨by assumption, rfl, Or.inr (Or.inl ⟨by omega, _, hbest, rfl⟩)⟩)⟩
    · refine r_iconst dX10_credit_18 ?_
      refine r_goto (tgt := 27) dX10_credit_19 (by decide) ?_
      refine m_put dX10_credit_27 f_X10_51 p_X10_51 (ff_14_7 _) hA mfp_7 rfl rfl ?_
      refine r_al0 dX10_credit_30 ?_
      refine m_get dX10_credit_31 f_X10_51 hA rfl ?_
      try simp only [updm_app, cpy_app, Int.reduceEq, Nat.reduceEqDiff, and_true, true_and, false_and, and_false, if_true, if_false, reduceIte]
      refine r_if_le (tgt := 39) dX10_credit_34 (by decide) (by first | omega | decide | exact hR _ _) (fun c_34 => ?_) (fun c_34 => ?_)
      · refine r_il2 dX10_credit_39 ?_
        refine r_iconst dX10_credit_40 ?_
        refine r_icmp_ge (tgt := 57) dX10_credit_41 (by decide) (by first | omega | decide | exact hR _ _) (by first | omega | decide | exact hR _ _) (fun c_41 => ?_) (fun c_41 => ?_)
        · refine r_il2 dX10_credit_57 ?_
          refine r_iconst dX10_credit_58 ?_
          refine r_icmp_ne (tgt := 73) dX10_credit_59 (by decide) (by first | omega | decide | exact hR _ _) (by first | omega | decide | exact hR _ _) (fun c_59 => ?_) (fun c_59 => ?_)
          · refine r_iconst dX10_credit_73 ?_
            refine r_is3 dX10_credit_74 rfl ?_
            refine r_iconst dX10_credit_75 ?_
            refine r_is4 dX10_credit_76 rfl ?_
            have e := l_credit κ h hA hR hC hK (c := c) (x := x) (by assumption) rc (by unfold QIn at *; omega) 9 0 (by omega) (by omega) (by omega)
            rw [qacc_0] at e
            exact e
          · refine r_al0 dX10_credit_62 ?_
            refine m_callU0 dX10_credit_63 v_X10_150 hA (c_finds κ hA (RG.up hR (by decide)) (by rw [updm_k (by decide)]; exact hW) hK.thr) (by decide) rfl (fun M_63 h_63 => ?_)
            have e0 : M_63 0 = M 0 := h_63.e0.trans (updm_k (by decide))
            have hR1 := h_63.1
            have hf := h_63
            obtain ⟨-, -, -, hbest, hw1, hw2, hw3, hw4⟩ := h_63
            rw [updm_k (by decide)] at hbest
            refine r_al0 dX10_credit_66 ?_
            refine m_get dX10_credit_67 f_X10_25 hA rfl ?_
            refine r_il1 dX10_credit_70 ?_
            refine m_ald dX10_credit_71 hA (by decide) rfl (by first | omega | (unfold QIn at *; omega) | (simp only [mlen]; unfold QIn at *; omega) | (simp only [mlen]; omega)) (by first | omega | (unfold QIn at *; omega) | (simp only [mlen]; unfold QIn at *; omega) | (simp only [mlen]; omega)) ?_
            try simp only [updm_app, cpy_app, Int.reduceEq, Nat.reduceEqDiff, and_true, true_and, false_and, and_false, if_true, if_false, reduceIte]
            first
              | exact r_iret dX10_credit_72 (ty := .int) rfl rfl ⟨_, _, rfl, rfl, 1, QFx.thr hR hK (by decide), Or.inl ⟨by assumption, rfl⟩⟩
              | exact r_iret dX10_credit_72 (ty := .int) rfl rfl ⟨_, _, rfl, rfl, 2, QFx.thr hR hK (by decide), Or.inr (Or.inl ⟨by assumption, by assumption, rfl⟩)⟩
              | exact r_iret dX10_credit_72 (ty := .int) rfl rfl ⟨_, _, rfl, rfl, 0, QFx.thr hR hK (by decide), Or.inr (Or.inr ⟨by assumption, rfl, Or.inl ⟨by unfold QIn at *; omega, by omega, rfl⟩⟩)⟩
              | exact r_iret dX10_credit_72 (ty := .int) rfl rfl ⟨_, _, rfl, rfl, 0, QFx.fs2 hf, Or.inr (Or.inr ⟨by assumption, rfl, Or.inr (Or.inl ⟨by omega, _, hbest, rfl⟩)⟩)⟩
        · refine r_al0 dX10_credit_44 ?_
          refine m_get dX10_credit_45 f_X10_7 hA rfl ?_
          refine r_il1 dX10_credit_48 ?_
          refine r_il2 dX10_credit_49 ?_
          refine r_iconst dX10_credit_50 ?_
          refine r_iadd dX10_credit_51 ?_
          refine r_callSP2 dX10_credit_52 s_X10_83 (c_creditAt κ _) (by decide) rfl ?_
          refine m_ald dX10_credit_55 hA (by decide) rfl (by first | omega | (unfold QIn at *; omega) | (simp only [mlen]; unfold QIn at *; omega) | (simp only [mlen]; omega)) (by first | omega | (unfold QIn at *; omega) | (simp only [mlen]; unfold QIn at *; omega) | (simp only [mlen]; omega)) ?_
          try simp only [updm_app, cpy_app, Int.reduceEq, Nat.reduceEqDiff, and_true, true_and, false_and, and_false, if_true, if_false, reduceIte]
          first
            | exact r_iret dX10_credit_56 (ty := .int) rfl rfl ⟨_, _, rfl, rfl, 1, QFx.thr hR hK (by decide), Or.inl ⟨by assumption, rfl⟩⟩
            | exact r_iret dX10_credit_56 (ty := .int) rfl rfl ⟨_, _, rfl, rfl, 2, QFx.thr hR hK (by decide), Or.inr (Or.inl ⟨by assumption, by assumption, rfl⟩)⟩
            | exact r_iret dX10_credit_56 (ty := .int) rfl rfl ⟨_, _, rfl, rfl, 0, QFx.thr hR hK (by decide), Or.inr (Or.inr ⟨by assumption, rfl, Or.inl ⟨by unfold QIn at *; omega, by omega, rfl⟩⟩)⟩
            | exact r_iret dX10_credit_56 (ty := .int) rfl rfl ⟨_, _, rfl, rfl, 0, QFx.fs2 hf, Or.inr (Or.inr ⟨by assumption, rfl, Or.inr (Or.inl ⟨by omega, _, hbest, rfl⟩)⟩)⟩
      · exact absurd c_34 (by decide)
def QBs (g : Int → Int) (e is most : Int) : Prop := (is = -1 ∧ most = -1 ∧ ∀ k, 0 ≤ k → k < e → QRb g k (-1)) ∨ (0 ≤ is ∧ is < e ∧ 0 ≤ most ∧ QRb g is most ∧ ∀ k, 0 ≤ k → k < e → ∃ n, QRb g k n ∧ n ≤ most ∧ (k < is → n < most))
def R_best (g : Int → Int) (t r : Int) : Prop := ∃ is most, QBs g (g 2) is most ∧ ((is < 0 ∧ t = 1) ∨ (0 ≤ is ∧ t = 0 ∧ r = is))
theorem QBs.keep {g : Int → Int} {e is most n : Int} (h : QBs g e is most) (he : 0 ≤ e) (hn : QRb g e n) (hn1 : -1 ≤ n) (hm : n ≤ most) : QBs g (e + 1) is most := by
  rcases h with ⟨a, b, c⟩ | ⟨a, b, c, d, f⟩
  · refine Or.inl ⟨a, b, fun k k0 k1 => ?_⟩
    rcases (show k < e ∨ k = e by omega) with q | q
    · exact c k k0 q
    · rw [q, show (-1 : Int) = n by omega]; exact hn
  · refine Or.inr ⟨a, by omega, c, d, fun k k0 k1 => ?_⟩
    rcases (show k < e ∨ k = e by omega) with q | q
    · exact f k k0 q
    · rw [q]; exact ⟨n, hn, hm, fun z => by omega⟩
theorem QBs.new {g : Int → Int} {e is most n : Int} (h : QBs g e is most) (he : 0 ≤ e) (hn : QRb g e n) (hm : most < n) : QBs g (e + 1) e n := by
  refine Or.inr ⟨he, by omega, by rcases h with ⟨a, b, c⟩ | ⟨a, b, c, d, f⟩ <;> omega, hn, fun k k0 k1 => ?_⟩
  rcases (show k < e ∨ k = e by omega) with q | q
  · rcases h with ⟨a, b, c⟩ | ⟨a, b, c, d, f⟩
    · exact ⟨-1, c k k0 q, by omega, fun _ => by omega⟩
    · obtain ⟨x, x1, x2, x3⟩ := f k k0 q
      exact ⟨x, x1, by omega, fun _ => by omega⟩
  · rw [q]; exact ⟨n, hn, Int.le_refl _, fun z => by omega⟩
theorem QBs.rg {g : Int → Int} {e is most : Int} (h : QBs g e is most) : -1 ≤ is ∧ -1 ≤ most ∧ (is < e ∨ is = -1) := by
  rcases h with ⟨a, b, c⟩ | ⟨a, b, c, d, f⟩ <;> omega
theorem QRb.bd {g : Int → Int} {e n : Int} (hC : CW g) (e0 : 0 ≤ e) (e1 : e < g 2) (h : QRb g e n) : -1 ≤ n ∧ n ≤ 8 := by
  rcases h with ⟨-, q⟩ | ⟨a, r', g', u, b, c, d⟩
  · omega
  · have := (qk_bd (u := u) (hC.ap e0 e1 a b).1).1
    omega
set_option maxRecDepth 100000 in
set_option maxHeartbeats 4000000 in
theorem l_best (κ : KP) {A : Nat → Nat} {M : MEM} (h : AH) (hA : MA A) (hR : RG M) (hC : CW (M 0)) (hK : QKn M) : ∀ (f : Nat) (M1 : MEM) (e is most : Int) (v4 : Option Value), M 0 2 - e < (f : Int) → (0 ≤ e) → (e ≤ M 0 2) → (QFx M 0 M1) → (QBs (M 0) e is most) → (rng most) → WW κ mX10_bestEquivalence 9 0 0 (fun v h' => ∃ r M', v = some (.int (J r)) ∧ h' = mset A M' h ∧ (fun r M' => ∃ t, QFx M t M' ∧ R_best (M 0) t r) r M') NoX 11 [some (.ref (A 30)), some (.int (J is)), some (.int (J most)), some (.int (J e)), v4] [] (mset A M1 h) := by
  intro f
  induction f with
  | zero =>
    intro M1 e is most v4 hf e0 e1 hF hQ rm
    exact absurd hf (by omega)
  | succ f ih =>
    intro M1 e is most v4 hf e0 e1 hF hQ rm
    have hW := hC.1
    obtain ⟨⟨y0, y1⟩, ⟨n0, n1⟩, ⟨q0, q1⟩, ⟨m0, m1⟩⟩ := hW.n
    have e9 := hF.e0
    have hR1 := hF.1
    have hqr := hQ.rg
    refine r_il3 dX10_bestEquivalence_11 ?_
    refine r_al0 dX10_bestEquivalence_12 ?_
    refine m_get dX10_bestEquivalence_13 f_X10_7 hA rfl ?_
    refine r_iconst dX10_bestEquivalence_16 ?_
    refine m_ald dX10_bestEquivalence_17 hA (by decide) rfl (by first | omega | (simp only [mlen]; omega)) (by first | omega | (simp only [mlen]; omega)) ?_
    try simp only [updm_app, Int.reduceEq, Nat.reduceEqDiff, and_true, true_and, false_and, and_false, if_true, if_false, reduceIte, e9]
    refine r_icmp_ge (tgt := 71) dX10_bestEquivalence_18 (by decide) (by first | omega | exact hR1 _ _) (by first | omega | exact hR1 _ _) (fun c_18 => ?_) (fun c_18 => ?_)
    · refine r_il1 dX10_bestEquivalence_71 ?_
      refine r_if_ge (tgt := 83) dX10_bestEquivalence_72 (by decide) (by first | omega | exact hR1 _ _) (fun c_72 => ?_) (fun c_72 => ?_)
      · refine r_il1 dX10_bestEquivalence_83 ?_
        first
          | exact r_iret dX10_bestEquivalence_84 (ty := .int) rfl rfl ⟨_, _, rfl, rfl, 0, hF, is, most, by rw [show M 0 2 = e by omega]; exact hQ, Or.inr ⟨by omega, rfl, rfl⟩⟩
          | exact r_iret dX10_bestEquivalence_84 (ty := .int) rfl rfl ⟨_, _, rfl, rfl, 1, ⟨RG.up hR1 (by decide), SB.upF hF.2.1 (by decide), updm_at, hF.2.2.2.thr⟩, is, most, by rw [show M 0 2 = e by omega]; exact hQ, Or.inl ⟨by omega, rfl⟩⟩
      · refine r_al0 dX10_bestEquivalence_75 ?_
        refine r_iconst dX10_bestEquivalence_76 ?_
        refine m_callR1 dX10_bestEquivalence_77 v_X10_57 hA (c_fails κ hA hR1) (by decide) rfl (fun r_77 M_77 h_77 => ?_)
        obtain ⟨rfl, rfl⟩ := h_77
        refine r_goto (tgt := 84) dX10_bestEquivalence_80 (by decide) ?_
        first
          | exact r_iret dX10_bestEquivalence_84 (ty := .int) rfl rfl ⟨_, _, rfl, rfl, 0, hF, is, most, by rw [show M 0 2 = e by omega]; exact hQ, Or.inr ⟨by omega, rfl, rfl⟩⟩
          | exact r_iret dX10_bestEquivalence_84 (ty := .int) rfl rfl ⟨_, _, rfl, rfl, 1, ⟨RG.up hR1 (by decide), SB.upF hF.2.1 (by decide), updm_at, hF.2.2.2.thr⟩, is, most, by rw [show M 0 2 = e by omega]; exact hQ, Or.inl ⟨by omega, rfl⟩⟩
    · refine r_al0 dX10_bestEquivalence_21 ?_
      refine r_il3 dX10_bestEquivalence_22 ?_
      refine m_callR1 dX10_bestEquivalence_23 v_X10_165 hA (c_against κ hA hR1 (e := e) e0 (by omega) (by rw [e9]; omega) (by rw [e9]; omega)) (by decide) rfl (fun r_23 M_23 h_23 => ?_)
      obtain ⟨hx1, hag⟩ := h_23
      obtain rfl := hx1.symm
      rw [e9] at hag
      have hno := hag.no
      refine r_if_le (tgt := 33) dX10_bestEquivalence_26 (by decide) (by first | omega | exact hR1 _ _) (fun c_26 => ?_) (fun c_26 => ?_)
      · refine r_al0 dX10_bestEquivalence_33 ?_
        refine r_il3 dX10_bestEquivalence_34 ?_
        refine m_callR1 dX10_bestEquivalence_35 v_X10_175 hA (c_rootsThen κ hA hR1 (by rw [e9]; exact hC) (e := e) e0 (by rw [e9]; omega) (by rw [e9]; exact hag.z (by omega))) (by decide) rfl (fun r_35 M_35 h_35 => ?_)
        obtain ⟨hRt, hSt, hkt, r2, g2, u, hap, hbu, hru⟩ := h_35
        rw [e9] at hap
        have hrb : QRb (M 0) e r_35 := Or.inr ⟨hag.z (by omega), r2, g2, u, hap, hbu, hru⟩
        have hrd := hrb.bd hC e0 (by omega)
        have hFn : QFx M 0 M_35 := ⟨hRt, (hF.2.1.trans hSt).mono (by decide) (by decide), by rw [hSt.2 7 (by decide)]; exact hF.2.2.1, Or.inl hkt⟩
        refine r_is4 dX10_bestEquivalence_38 rfl ?_
        refine r_il4 dX10_bestEquivalence_40 ?_
        refine r_il2 dX10_bestEquivalence_42 ?_
        refine r_icmp_le (tgt := 50) dX10_bestEquivalence_43 (by decide) (by first | omega | exact hR1 _ _) (by first | omega | exact hR1 _ _) (fun c_43 => ?_) (fun c_43 => ?_)
        · refine r_il1 dX10_bestEquivalence_50 ?_
          refine r_is1 dX10_bestEquivalence_51 rfl ?_
          refine r_il4 dX10_bestEquivalence_52 ?_
          refine r_il2 dX10_bestEquivalence_54 ?_
          refine r_icmp_le (tgt := 63) dX10_bestEquivalence_55 (by decide) (by first | omega | exact hR1 _ _) (by first | omega | exact hR1 _ _) (fun c_55 => ?_) (fun c_55 => ?_)
          · refine r_il2 dX10_bestEquivalence_63 ?_
            refine r_is2 dX10_bestEquivalence_64 rfl ?_
            refine r_inc3 dX10_bestEquivalence_65 rfl ?_
            refine r_goto (tgt := 11) dX10_bestEquivalence_68 (by decide) ?_
            first
              | exact absurd (show False by omega) id
              | exact ih M1 (e + 1) is most _ (by omega) (by omega) (by omega) hF (hQ.keep e0 (Or.inl ⟨hag.nz (by omega), rfl⟩) (by decide) (by omega)) rm
              | exact ih _ (e + 1) e _ _ (by omega) (by omega) (by omega) hFn (hQ.new e0 hrb (by omega)) (by omega)
              | exact ih _ (e + 1) is most _ (by omega) (by omega) (by omega) hFn (hQ.keep e0 hrb (by omega) (by omega)) rm
          · refine r_il4 dX10_bestEquivalence_58 ?_
            refine r_goto (tgt := 64) dX10_bestEquivalence_60 (by decide) ?_
            refine r_is2 dX10_bestEquivalence_64 rfl ?_
            refine r_inc3 dX10_bestEquivalence_65 rfl ?_
            refine r_goto (tgt := 11) dX10_bestEquivalence_68 (by decide) ?_
            first
              | exact absurd (show False by omega) id
              | exact ih M1 (e + 1) is most _ (by omega) (by omega) (by omega) hF (hQ.keep e0 (Or.inl ⟨hag.nz (by omega), rfl⟩) (by decide) (by omega)) rm
              | exact ih _ (e + 1) e _ _ (by omega) (by omega) (by omega) hFn (hQ.new e0 hrb (by omega)) (by omega)
              | exact ih _ (e + 1) is most _ (by omega) (by omega) (by omega) hFn (hQ.keep e0 hrb (by omega) (by omega)) rm
        · refine r_il3 dX10_bestEquivalence_46 ?_
          refine r_goto (tgt := 51) dX10_bestEquivalence_47 (by decide) ?_
          refine r_is1 dX10_bestEquivalence_51 rfl ?_
          refine r_il4 dX10_bestEquivalence_52 ?_
          refine r_il2 dX10_bestEquivalence_54 ?_
          refine r_icmp_le (tgt := 63) dX10_bestEquivalence_55 (by decide) (by first | omega | exact hR1 _ _) (by first | omega | exact hR1 _ _) (fun c_55 => ?_) (fun c_55 => ?_)
          · refine r_il2 dX10_bestEquivalence_63 ?_
            refine r_is2 dX10_bestEquivalence_64 rfl ?_
            refine r_inc3 dX10_bestEquivalence_65 rfl ?_
            refine r_goto (tgt := 11) dX10_bestEquivalence_68 (by decide) ?_
            first
              | exact absurd (show False by omega) id
              | exact ih M1 (e + 1) is most _ (by omega) (by omega) (by omega) hF (hQ.keep e0 (Or.inl ⟨hag.nz (by omega), rfl⟩) (by decide) (by omega)) rm
              | exact ih _ (e + 1) e _ _ (by omega) (by omega) (by omega) hFn (hQ.new e0 hrb (by omega)) (by omega)
              | exact ih _ (e + 1) is most _ (by omega) (by omega) (by omega) hFn (hQ.keep e0 hrb (by omega) (by omega)) rm
          · refine r_il4 dX10_bestEquivalence_58 ?_
            refine r_goto (tgt := 64) dX10_bestEquivalence_60 (by decide) ?_
            refine r_is2 dX10_bestEquivalence_64 rfl ?_
            refine r_inc3 dX10_bestEquivalence_65 rfl ?_
            refine r_goto (tgt := 11) dX10_bestEquivalence_68 (by decide) ?_
            first
              | exact absurd (show False by omega) id
              | exact ih M1 (e + 1) is most _ (by omega) (by omega) (by omega) hF (hQ.keep e0 (Or.inl ⟨hag.nz (by omega), rfl⟩) (by decide) (by omega)) rm
              | exact ih _ (e + 1) e _ _ (by omega) (by omega) (by omega) hFn (hQ.new e0 hrb (by omega)) (by omega)
              | exact ih _ (e + 1) is most _ (by omega) (by omega) (by omega) hFn (hQ.keep e0 hrb (by omega) (by omega)) rm
      · refine r_iconst dX10_bestEquivalence_29 ?_
        refine r_goto (tgt := 38) dX10_bestEquivalence_30 (by decide) ?_
        refine r_is4 dX10_bestEquivalence_38 rfl ?_
        refine r_il4 dX10_bestEquivalence_40 ?_
        refine r_il2 dX10_bestEquivalence_42 ?_
        refine r_icmp_le (tgt := 50) dX10_bestEquivalence_43 (by decide) (by first | omega | exact hR1 _ _) (by first | omega | exact hR1 _ _) (fun c_43 => ?_) (fun c_43 => ?_)
        · refine r_il1 dX10_bestEquivalence_50 ?_
          refine r_is1 dX10_bestEquivalence_51 rfl ?_
          refine r_il4 dX10_bestEquivalence_52 ?_
          refine r_il2 dX10_bestEquivalence_54 ?_
          refine r_icmp_le (tgt := 63) dX10_bestEquivalence_55 (by decide) (by first | omega | exact hR1 _ _) (by first | omega | exact hR1 _ _) (fun c_55 => ?_) (fun c_55 => ?_)
          · refine r_il2 dX10_bestEquivalence_63 ?_
            refine r_is2 dX10_bestEquivalence_64 rfl ?_
            refine r_inc3 dX10_bestEquivalence_65 rfl ?_
            refine r_goto (tgt := 11) dX10_bestEquivalence_68 (by decide) ?_
            first
              | exact absurd (show False by omega) id
              | exact ih M1 (e + 1) is most _ (by omega) (by omega) (by omega) hF (hQ.keep e0 (Or.inl ⟨hag.nz (by omega), rfl⟩) (by decide) (by omega)) rm
              | exact ih _ (e + 1) e _ _ (by omega) (by omega) (by omega) hFn (hQ.new e0 hrb (by omega)) (by omega)
              | exact ih _ (e + 1) is most _ (by omega) (by omega) (by omega) hFn (hQ.keep e0 hrb (by omega) (by omega)) rm
          · refine r_il4 dX10_bestEquivalence_58 ?_
            refine r_goto (tgt := 64) dX10_bestEquivalence_60 (by decide) ?_
            refine r_is2 dX10_bestEquivalence_64 rfl ?_
            refine r_inc3 dX10_bestEquivalence_65 rfl ?_
            refine r_goto (tgt := 11) dX10_bestEquivalence_68 (by decide) ?_
            first
              | exact absurd (show False by omega) id
              | exact ih M1 (e + 1) is most _ (by omega) (by omega) (by omega) hF (hQ.keep e0 (Or.inl ⟨hag.nz (by omega), rfl⟩) (by decide) (by omega)) rm
              | exact ih _ (e + 1) e _ _ (by omega) (by omega) (by omega) hFn (hQ.new e0 hrb (by omega)) (by omega)
              | exact ih _ (e + 1) is most _ (by omega) (by omega) (by omega) hFn (hQ.keep e0 hrb (by omega) (by omega)) rm
        · refine r_il3 dX10_bestEquivalence_46 ?_
          refine r_goto (tgt := 51) dX10_bestEquivalence_47 (by decide) ?_
          refine r_is1 dX10_bestEquivalence_51 rfl ?_
          refine r_il4 dX10_bestEquivalence_52 ?_
          refine r_il2 dX10_bestEquivalence_54 ?_
          refine r_icmp_le (tgt := 63) dX10_bestEquivalence_55 (by decide) (by first | omega | exact hR1 _ _) (by first | omega | exact hR1 _ _) (fun c_55 => ?_) (fun c_55 => ?_)
          · refine r_il2 dX10_bestEquivalence_63 ?_
            refine r_is2 dX10_bestEquivalence_64 rfl ?_
            refine r_inc3 dX10_bestEquivalence_65 rfl ?_
            refine r_goto (tgt := 11) dX10_bestEquivalence_68 (by decide) ?_
            first
              | exact absurd (show False by omega) id
              | exact ih M1 (e + 1) is most _ (by omega) (by omega) (by omega) hF (hQ.keep e0 (Or.inl ⟨hag.nz (by omega), rfl⟩) (by decide) (by omega)) rm
              | exact ih _ (e + 1) e _ _ (by omega) (by omega) (by omega) hFn (hQ.new e0 hrb (by omega)) (by omega)
              | exact ih _ (e + 1) is most _ (by omega) (by omega) (by omega) hFn (hQ.keep e0 hrb (by omega) (by omega)) rm
          · refine r_il4 dX10_bestEquivalence_58 ?_
            refine r_goto (tgt := 64) dX10_bestEquivalence_60 (by decide) ?_
            refine r_is2 dX10_bestEquivalence_64 rfl ?_
            refine r_inc3 dX10_bestEquivalence_65 rfl ?_
            refine r_goto (tgt := 11) dX10_bestEquivalence_68 (by decide) ?_
            first
              | exact absurd (show False by omega) id
              | exact ih M1 (e + 1) is most _ (by omega) (by omega) (by omega) hF (hQ.keep e0 (Or.inl ⟨hag.nz (by omega), rfl⟩) (by decide) (by omega)) rm
              | exact ih _ (e + 1) e _ _ (by omega) (by omega) (by omega) hFn (hQ.new e0 hrb (by omega)) (by omega)
              | exact ih _ (e + 1) is most _ (by omega) (by omega) (by omega) hFn (hQ.keep e0 hrb (by omega) (by omega)) rm
set_option maxRecDepth 100000 in
set_option maxHeartbeats 4000000 in
theorem c_bestEquivalence (κ : KP) {A : Nat → Nat} {M : MEM} (hA : MA A) (hR : RG M) (hC : CW (M 0)) (hK : QKn M) : RM κ mX10_bestEquivalence 9 A [.ref (A 30)] M (fun r M' => ∃ t, QFx M t M' ∧ R_best (M 0) t r) := by
  intro h
  refine mm_of (L := [some _, none, none, none, none]) (by decide +kernel) rfl rfl (Nat.le_of_ble_eq_true rfl) rfl ?_
  have hW := hC.1
  obtain ⟨⟨y0, y1⟩, ⟨n0, n1⟩, ⟨q0, q1⟩, ⟨m0, m1⟩⟩ := hW.n
  refine r_al0 dX10_bestEquivalence_0 ?_
  refine r_iconst dX10_bestEquivalence_1 ?_
  refine m_put dX10_bestEquivalence_2 f_X10_51 p_X10_51 (ff_14_7 _) hA mfp_7 rfl rfl ?_
  refine r_iconst dX10_bestEquivalence_5 ?_
  refine r_is1 dX10_bestEquivalence_6 rfl ?_
  refine r_iconst dX10_bestEquivalence_7 ?_
  refine r_is2 dX10_bestEquivalence_8 rfl ?_
  refine r_iconst dX10_bestEquivalence_9 ?_
  refine r_is3 dX10_bestEquivalence_10 rfl ?_
  exact l_best κ h hA hR hC hK 9 _ 0 (-1) (-1) _ (by omega) (by omega) (by omega) (QFx.thr hR hK (by decide)) (Or.inl ⟨rfl, rfl, fun k k0 k1 => by omega⟩) (by decide)
