/-! ===== a quotient of small numbers is a number ===== -/
def fGo : FP.Core.Datum → Prop
  | .nan => False
  | .inf _ => True
  | .fin _ c q => c < 9007199254740992 ∧ -1074 ≤ q ∧ q ≤ 971
theorem b64_q : FP.Core.b64.qmin = -1074 ∧ FP.Core.b64.qmax = 971 ∧ FP.Core.b64.tails = 4503599627370496 ∧ FP.Core.b64.exps = 2048 ∧ 2 ^ FP.Core.b64.p = 9007199254740992 := by decide +kernel
theorem fGo.enc {d : FP.Core.Datum} (h : fGo d) : FP.Core.encode FP.Core.b64 d < 18446744073709551616 ∧ FP.Core.encode FP.Core.b64 d % 9223372036854775808 ≤ 9218868437227405312 := by
  obtain ⟨e1, e2, e3, e4, e5⟩ := b64_q
  cases d with
  | nan => exact h.elim
  | inf s => cases s <;> decide +kernel
  | fin s c q =>
    obtain ⟨h1, h2, h3⟩ := h
    have hs : s.toNat = 0 ∨ s.toNat = 1 := by cases s <;> decide
    unfold FP.Core.encode FP.Core.assemble
    dsimp only
    rw [e1, e3, e4]
    split
    · omega
    · have hq : (q - -1074).toNat ≤ 2045 := by omega
      generalize (q - -1074).toNat = x at hq
      rcases hs with z | z <;> rw [z] <;> omega
theorem n64_of {n : Nat} (h1 : n < 18446744073709551616) (h2 : n % 9223372036854775808 ≤ 9218868437227405312) : vf_n64 (UInt64.ofNat n) := by
  unfold vf_n64
  rw [UInt64.le_iff_toNat_le, UInt64.toNat_and, UInt64.toNat_ofNat_of_lt' (by simpa using h1)]
  have e : (9223372036854775807 : UInt64).toNat = 2 ^ 63 - 1 := by decide
  have e2 : (9218868437227405312 : UInt64).toNat = 9218868437227405312 := by decide
  rw [show (0x7fffffffffffffff : UInt64) = 9223372036854775807 from rfl, e, Nat.and_two_pow_sub_one_eq_mod, show (0x7ff0000000000000 : UInt64) = 9218868437227405312 from rfl, e2]
  exact h2
theorem fGo.settle {s : Bool} {c : Nat} {q : Int} (hq : -1074 ≤ q) : fGo (FP.Core.settle FP.Core.b64 s c q) := by
  obtain ⟨e1, e2, e3, e4, e5⟩ := b64_q
  unfold FP.Core.settle FP.Core.bound
  rw [e2, e3, e5]
  split
  · split
    · exact ⟨by omega, hq, by omega⟩
    · trivial
  · split
    · exact ⟨by omega, by omega, by omega⟩
    · trivial
theorem fGo.ratio {s : Bool} {a b : Nat} {e : Int} : fGo (FP.Core.roundRatio FP.Core.b64 s a b e) := by
  obtain ⟨e1, e2, e3, e4, e5⟩ := b64_q
  unfold FP.Core.roundRatio
  split
  · rw [e1]
    exact ⟨by decide, by decide, by decide⟩
  · unfold FP.Core.roundAt
    refine fGo.settle ?_
    unfold FP.Core.quantum
    rw [e1]
    omega
def isFn : FP.Core.Datum → Bool
  | .fin _ _ _ => true
  | _ => false
def isF0 : FP.Core.Datum → Bool
  | .fin _ c _ => c != 0
  | _ => false
theorem i2d_fin {a : Int} (a0 : 0 ≤ a) (a1 : a ≤ 2880) : isFn (FP.Core.decode FP.Core.b64 (FP.i2d (J a)).toNat) = true := by
  have h : ∀ m : Fin 46, ∀ n : Fin 64, isFn (FP.Core.decode FP.Core.b64 (FP.i2d (J ((64 * m.val + n.val : Nat) : Int))).toNat) = true := by decide +kernel
  have := h ⟨a.toNat / 64, by omega⟩ ⟨a.toNat % 64, by omega⟩
  rwa [show ((64 * (a.toNat / 64) + a.toNat % 64 : Nat) : Int) = a by omega] at this
theorem i2d_ne0 {a : Int} (a0 : 1 ≤ a) (a1 : a ≤ 144) : isF0 (FP.Core.decode FP.Core.b64 (FP.i2d (J a)).toNat) = true := by
  have h : ∀ n : Fin 145, n.val = 0 ∨ isF0 (FP.Core.decode FP.Core.b64 (FP.i2d (J ((n : Nat) : Int))).toNat) = true := by decide +kernel
  have := (h ⟨a.toNat, by omega⟩).resolve_left (by show a.toNat ≠ 0; omega)
  rwa [show ((a.toNat : Nat) : Int) = a from Int.toNat_of_nonneg (by omega)] at this
theorem div_num {a b : Int} (a0 : 0 ≤ a) (a1 : a ≤ 2880) (b0 : 1 ≤ b) (b1 : b ≤ 144) : vf_n64 (FP.ddiv (FP.i2d (J a)) (FP.i2d (J b))) := by
  have ha := i2d_fin a0 a1
  have hb := i2d_ne0 b0 b1
  show vf_n64 (UInt64.ofNat (FP.Core.encode FP.Core.b64 (FP.Core.quotient FP.Core.b64 (FP.Core.decode FP.Core.b64 (FP.i2d (J a)).toNat) (FP.Core.decode FP.Core.b64 (FP.i2d (J b)).toNat))))
  generalize FP.Core.decode FP.Core.b64 (FP.i2d (J a)).toNat = x at ha
  generalize FP.Core.decode FP.Core.b64 (FP.i2d (J b)).toNat = y at hb
  have g : fGo (FP.Core.quotient FP.Core.b64 x y) := by
    cases x with
    | nan => cases ha
    | inf s => cases ha
    | fin s c q =>
      cases y with
      | nan => cases hb
      | inf s => cases hb
      | fin t d r =>
        have hd : d ≠ 0 := by
          intro z
          rw [z] at hb
          cases hb
        show fGo (if d = 0 then _ else _)
        rw [if_neg hd]
        exact fGo.ratio
  exact n64_of g.enc.1 g.enc.2
/-! ===== meanGrade ===== -/
noncomputable def qwg (g u : Int → Int) : Int := sz (fun c => if u c < 0 then 0 else g (4 + 4 * c + 2) * g (4 + 4 * c + 1)) (g 1)
theorem qgiv_bd {g u : Int → Int} (hW : WF g) : 0 ≤ qgiv g u ∧ qgiv g u ≤ 144 := by
  have n1 := hW.n.2.1
  have h : 0 ≤ qgiv g u ∧ qgiv g u ≤ g 1 * 24 := sz_bd n1.1 (fun c c0 c1 => by
    have hc := hW.c c0 c1
    unfold WFc at hc
    show 0 ≤ (if 0 ≤ u c then g (4 + 4 * c + 1) else 0) ∧ (if 0 ≤ u c then g (4 + 4 * c + 1) else 0) ≤ 24
    split <;> omega)
  omega
theorem qwg_bd {g u : Int → Int} (hW : WF g) : 0 ≤ qwg g u ∧ qwg g u ≤ 2880 := by
  have n1 := hW.n.2.1
  have h : 0 ≤ qwg g u ∧ qwg g u ≤ g 1 * 480 := sz_bd n1.1 (fun c c0 c1 => by
    have hc := hW.c c0 c1
    unfold WFc at hc
    obtain ⟨-, p0, p1, r0, r1, -⟩ := hc
    show 0 ≤ (if u c < 0 then 0 else g (4 + 4 * c + 2) * g (4 + 4 * c + 1)) ∧ (if u c < 0 then 0 else g (4 + 4 * c + 2) * g (4 + 4 * c + 1)) ≤ 480
    split
    · omega
    · refine ⟨Int.mul_nonneg r0 p0, ?_⟩
      have := Int.mul_le_mul r1 p1 p0 (by decide : (0 : Int) ≤ 20)
      omega)
  omega
theorem qwg_cong {g u v : Int → Int} (h : EQU (g 1) u v) : qwg g u = qwg g v := sz_cong fun c c0 c1 => by rw [h c c0 c1]
/-- the mean grade: thrown (1) or its bits -/
def R_mean (g : Int → Int) (t : Int) (x : UInt64) : Prop := ∃ u, QBest g u ∧ ((qgiv g u = 0 ∧ t = 1) ∨ (qgiv g u ≠ 0 ∧ t = 0 ∧ x = FP.ddiv (FP.i2d (J (qwg g u))) (FP.i2d (J (qgiv g u))) ∧ vf_n64 x))
theorem uq_mean {g : Int → Int} (hW : WF g) {t t' : Int} {x x' : UInt64} (h : R_mean g t x) (h' : R_mean g t' x') : t = t' ∧ (t = 0 → x = x') := by
  obtain ⟨u, hu, h⟩ := h
  obtain ⟨v, hv, h'⟩ := h'
  have e := FM.uniq hW hu hv
  rw [← qgiv_cong e, ← qwg_cong e] at h'
  rcases h with ⟨a, b⟩ | ⟨a, b, c, -⟩ <;> rcases h' with ⟨a', b'⟩ | ⟨a', b', c', -⟩
  · exact ⟨b.trans b'.symm, fun z => by omega⟩
  · exact absurd a a'
  · exact absurd a' a
  · exact ⟨b.trans b'.symm, fun _ => c.trans c'.symm⟩
set_option maxRecDepth 100000 in
set_option maxHeartbeats 4000000 in
theorem x_mean (κ : KP) {B : Nat → Nat} {S : CST} {Γ : Nat → Int → Int} {q : Nat} (h : AH) (hB : BA B) (hI : ClS κ (cset B S h) S Γ q) : MM κ mX9_meanGrade 22 1 6 [.ref (B 0)] (cset B S h) (fun v h' => ∃ x, v = some (.double x) ∧ R_mean (Γ q) 0 x ∧ RP κ B S h Γ q h') (fun E' h' => E' = EAR ∧ (∃ x, R_mean (Γ q) 1 x) ∧ RP κ B S h Γ q h') := by
  refine mm_of (L := [some _, none]) (by decide +kernel) rfl rfl (Nat.le_of_ble_eq_true rfl) rfl ?_
  obtain ⟨h05, hD, hW, hG, hU⟩ := id hI
  obtain ⟨cr, eq, p, nc, ne, nb, hO, hC, hE, hP, e1, e2, e3⟩ := id hD
  have hDV : DkV κ (cset B S h) q (Γ q) cr eq p nc ne nb := ⟨hO, hC, hE, hP, e1, e2, e3⟩
  obtain ⟨fc, hAc, hbc⟩ := id hC
  obtain ⟨fe, hAe, hbe⟩ := id hE
  obtain ⟨bl, lv, ms, mr, N, lf, fm, fr, hV⟩ := id hP
  have hOp := hV.1
  have hAl := hV.2.2.1
  obtain ⟨fb, hAb, hbb⟩ := id hV.2.1
  have n0 := hW.n
  have hRw := hW.rw e3
  refine r_al0 dX9_meanGrade_0 ?_
  refine r_callV (As := []) dX9_meanGrade_1 v_X9_116 (cs_obj hB (k9 := 0) (by decide) rfl) (x_bestUse κ h hB hI) (by decide) rfl rfl (cat_le rfl) (Nat.zero_le _) (Nat.zero_le _) (fun v h9 hq9 => ?_) (fun _ _ hx => hx.elim)
  obtain ⟨rfl, S9, rfl, x9, U, hK⟩ := hq9
  have hQb := hK.best
  have hg := qgiv_bd (g := Γ q) (u := U) hW
  have hR9 := RP.use (u := 3) hB hI (Or.inl rfl) (x9.mono (by decide)) hK.k
  have hI9 : ClS κ (cset B S9 h) S9 Γ q := hI.use (u := 3) hB (Or.inl rfl) (x9.mono (by decide)) hK.k
  show WW κ _ _ _ _ _ _ _ _ (.ref (B 3) :: []) _
  refine r_callVP0 dX9_meanGrade_4 v_X9_314 (cs_obj hB (k9 := 3) (by decide) rfl) (k_ptGiven κ h hB (Or.inl rfl) hK) (by decide) rfl ?_
  refine r_is1 dX9_meanGrade_7 rfl ?_
  refine r_il1 dX9_meanGrade_8 ?_
  refine r_if_gt (tgt := 20) dX9_meanGrade_9 (by decide) (by (first | omega)) (fun c_9 => ?_) (fun c_9 => ?_)
  · refine r_al0 dX9_meanGrade_20 ?_
    refine r_callV (As := []) dX9_meanGrade_21 v_X9_116 (cs_obj hB (k9 := 0) (by decide) rfl) (x_bestUse κ h hB hI9) (by decide) rfl rfl (cat_le rfl) (Nat.zero_le _) (Nat.zero_le _) (fun v h8 hq8 => ?_) (fun _ _ hx => hx.elim)
    obtain ⟨rfl, S8, rfl, x8, V, hK8⟩ := hq8
    have hQv := hK8.best
    have eUV := FM.uniq hW hQv hQb
    have hR8 := RP.use (u := 3) hB hI (Or.inl rfl) ((x9.same x8).mono (by decide)) hK8.k
    show WW κ _ _ _ _ _ _ _ _ (.ref (B 3) :: []) _
    refine r_callVP0 dX9_meanGrade_24 v_X9_326 (cs_obj hB (k9 := 3) (by decide) rfl) (k_wGrades κ h hB (Or.inl rfl) hK8) (by decide) rfl ?_
    refine r_i2d dX9_meanGrade_27 ?_
    refine r_il1 dX9_meanGrade_28 ?_
    refine r_i2d dX9_meanGrade_29 ?_
    have hnum : vf_n64 (FP.ddiv (FP.i2d (J (qwg (Γ q) V))) (FP.i2d (J (qgiv (Γ q) U)))) := div_num (qwg_bd hW).1 (qwg_bd hW).2 (by omega) (by omega)
    refine r_ddiv dX9_meanGrade_30 hnum ?_
    show WW κ _ _ _ _ _ _ _ _ (.double (FP.ddiv (FP.i2d (J (qwg (Γ q) V))) (FP.i2d (J (qgiv (Γ q) U)))) :: []) _
    refine r_dret dX9_meanGrade_31 rfl ⟨_, rfl, ⟨V, hQv, Or.inr ⟨by rw [qgiv_cong eUV]; omega, rfl, by rw [← qgiv_cong eUV], hnum⟩⟩, hR8⟩
  · exact r_throw rfl (by decide) th_X9_meanGrade_12 (by decide) (by decide) (by decide) ⟨rfl, ⟨0, U, hQb, Or.inl ⟨by omega, rfl⟩⟩, hR9⟩
set_option maxRecDepth 100000 in
set_option maxHeartbeats 4000000 in
theorem l_mean (κ : KP) {A : Nat → Nat} {M M1 : MEM} (h : AH) (hA : MA A) (hR : RG M) (hC : CW (M 0)) (hf : QFs M M1) : ∀ (f : Nat) (c : Int), M 0 1 - c < (f : Int) → 0 ≤ c → c ≤ M 0 1 → WW κ mX10_meanGrade 7 0 0 (fun v h' => ∃ x M', v = some (.double x) ∧ h' = mset A M' h ∧ ∃ t, QFx M t M' ∧ R_mean (M 0) t x) NoX 8 [some (.ref (A 30)), some (.int (J (sz (fun c => if M1 10 c < 0 then 0 else M 0 (4 + 4 * c + 2) * M 0 (4 + 4 * c + 1)) c))), some (.int (J c))] [] (mset A M1 h) := by
  have hW := hC.1
  obtain ⟨⟨y0, y1⟩, ⟨n0, n1⟩, ⟨q0, q1⟩, ⟨m0, m1⟩⟩ := hW.n
  have e0 : M1 0 = M 0 := hf.e0
  have hR1 := hf.1
  have hbest := hf.2.2.2.1
  have hw4 := hf.2.2.2.2.2.2.2
  have hgb := qgiv_bd (u := M1 10) hW
  intro f
  induction f with
  | zero =>
    intro c hf0 c0 c1
    exact absurd hf0 (by omega)
  | succ f ih =>
    intro c hf0 c0 c1
    have hu := hbest.2.1 c c0
    refine r_il2 dX10_meanGrade_8 ?_
    refine r_al0 dX10_meanGrade_9 ?_
    refine m_get dX10_meanGrade_10 f_X10_7 hA rfl ?_
    refine r_iconst dX10_meanGrade_13 ?_
    refine m_ald dX10_meanGrade_14 hA (by decide) rfl (by first | omega | (simp only [mlen]; omega)) (by first | omega | (simp only [mlen]; omega)) ?_
    rw [e0]
    refine r_icmp_ge (tgt := 61) dX10_meanGrade_15 (by decide) (by first | omega | exact hR1 _ _) (by first | omega | exact hR1 _ _) (fun c_15 => ?_) (fun c_15 => ?_)
    · obtain rfl : c = M 0 1 := by omega
      have eq9 : sz (fun c => if M1 10 c < 0 then 0 else M 0 (4 + 4 * c + 2) * M 0 (4 + 4 * c + 1)) (M 0 1) = qwg (M 0) (M1 10) := by unfold qwg; rfl
      rw [eq9]
      refine r_al0 dX10_meanGrade_61 ?_
      refine r_al0 dX10_meanGrade_62 ?_
      refine m_get dX10_meanGrade_63 f_X10_97 hA rfl ?_
      rw [hw4]
      refine r_if_ne (tgt := 73) dX10_meanGrade_66 (by decide) (by first | omega | exact hR1 _ _) (fun c_66 => ?_) (fun c_66 => ?_)
      · refine r_iconst dX10_meanGrade_73 ?_
        refine m_put dX10_meanGrade_74 f_X10_51 p_X10_51 (ff_14_7 _) hA mfp_7 rfl rfl ?_
        refine r_al0 dX10_meanGrade_77 ?_
        refine m_get dX10_meanGrade_78 f_X10_97 hA rfl ?_
        try simp only [updm_app, Int.reduceEq, Nat.reduceEqDiff, and_true, true_and, false_and, and_false, if_true, if_false, reduceIte]
        rw [hw4]
        refine r_if_ne (tgt := 88) dX10_meanGrade_81 (by decide) (by first | omega | exact hR1 _ _) (fun c_81 => ?_) (fun c_81 => ?_)
        · refine r_il1 dX10_meanGrade_88 ?_
          refine r_i2d dX10_meanGrade_89 ?_
          refine r_al0 dX10_meanGrade_90 ?_
          refine m_get dX10_meanGrade_91 f_X10_97 hA rfl ?_
          try simp only [updm_app, Int.reduceEq, Nat.reduceEqDiff, and_true, true_and, false_and, and_false, if_true, if_false, reduceIte]
          rw [hw4]
          refine r_i2d dX10_meanGrade_94 ?_
          have hnum : vf_n64 (FP.ddiv (FP.i2d (J (qwg (M 0) (M1 10)))) (FP.i2d (J (qgiv (M 0) (M1 10))))) := div_num (qwg_bd hW).1 (qwg_bd hW).2 (by omega) (by omega)
          refine r_ddiv dX10_meanGrade_95 hnum ?_
          first
            | exact r_dret dX10_meanGrade_96 rfl ⟨_, _, rfl, rfl, 1, QFx.fs hf (by decide), M1 10, hbest, Or.inl ⟨by omega, rfl⟩⟩
            | exact r_dret dX10_meanGrade_96 rfl ⟨_, _, rfl, rfl, 0, QFx.fs hf (by decide), M1 10, hbest, Or.inr ⟨by omega, rfl, rfl, hnum⟩⟩
            | (exfalso; omega)
        · refine r_dconst0 dX10_meanGrade_84 ?_
          refine r_goto (tgt := 96) dX10_meanGrade_85 (by decide) ?_
          first
            | exact r_dret dX10_meanGrade_96 rfl ⟨_, _, rfl, rfl, 1, QFx.fs hf (by decide), M1 10, hbest, Or.inl ⟨by omega, rfl⟩⟩
            | exact r_dret dX10_meanGrade_96 rfl ⟨_, _, rfl, rfl, 0, QFx.fs hf (by decide), M1 10, hbest, Or.inr ⟨by omega, rfl, rfl, hnum⟩⟩
            | (exfalso; omega)
      · refine r_iconst dX10_meanGrade_69 ?_
        refine r_goto (tgt := 74) dX10_meanGrade_70 (by decide) ?_
        refine m_put dX10_meanGrade_74 f_X10_51 p_X10_51 (ff_14_7 _) hA mfp_7 rfl rfl ?_
        refine r_al0 dX10_meanGrade_77 ?_
        refine m_get dX10_meanGrade_78 f_X10_97 hA rfl ?_
        try simp only [updm_app, Int.reduceEq, Nat.reduceEqDiff, and_true, true_and, false_and, and_false, if_true, if_false, reduceIte]
        rw [hw4]
        refine r_if_ne (tgt := 88) dX10_meanGrade_81 (by decide) (by first | omega | exact hR1 _ _) (fun c_81 => ?_) (fun c_81 => ?_)
        · refine r_il1 dX10_meanGrade_88 ?_
          refine r_i2d dX10_meanGrade_89 ?_
          refine r_al0 dX10_meanGrade_90 ?_
          refine m_get dX10_meanGrade_91 f_X10_97 hA rfl ?_
          try simp only [updm_app, Int.reduceEq, Nat.reduceEqDiff, and_true, true_and, false_and, and_false, if_true, if_false, reduceIte]
          rw [hw4]
          refine r_i2d dX10_meanGrade_94 ?_
          have hnum : vf_n64 (FP.ddiv (FP.i2d (J (qwg (M 0) (M1 10)))) (FP.i2d (J (qgiv (M 0) (M1 10))))) := div_num (qwg_bd hW).1 (qwg_bd hW).2 (by omega) (by omega)
          refine r_ddiv dX10_meanGrade_95 hnum ?_
          first
            | exact r_dret dX10_meanGrade_96 rfl ⟨_, _, rfl, rfl, 1, QFx.fs hf (by decide), M1 10, hbest, Or.inl ⟨by omega, rfl⟩⟩
            | exact r_dret dX10_meanGrade_96 rfl ⟨_, _, rfl, rfl, 0, QFx.fs hf (by decide), M1 10, hbest, Or.inr ⟨by omega, rfl, rfl, hnum⟩⟩
            | (exfalso; omega)
        · refine r_dconst0 dX10_meanGrade_84 ?_
          refine r_goto (tgt := 96) dX10_meanGrade_85 (by decide) ?_
          first
            | exact r_dret dX10_meanGrade_96 rfl ⟨_, _, rfl, rfl, 1, QFx.fs hf (by decide), M1 10, hbest, Or.inl ⟨by omega, rfl⟩⟩
            | exact r_dret dX10_meanGrade_96 rfl ⟨_, _, rfl, rfl, 0, QFx.fs hf (by decide), M1 10, hbest, Or.inr ⟨by omega, rfl, rfl, hnum⟩⟩
            | (exfalso; omega)
    · refine r_il1 dX10_meanGrade_18 ?_
      refine r_al0 dX10_meanGrade_19 ?_
      refine m_get dX10_meanGrade_20 f_X10_25 hA rfl ?_
      refine r_il2 dX10_meanGrade_23 ?_
      refine m_ald dX10_meanGrade_24 hA (by decide) rfl (by first | omega | (simp only [mlen]; omega)) (by first | omega | (simp only [mlen]; omega)) ?_
      refine r_if_ge (tgt := 32) dX10_meanGrade_25 (by decide) (by first | omega | exact hR1 _ _) (fun c_25 => ?_) (fun c_25 => ?_)
      · refine r_al0 dX10_meanGrade_32 ?_
        refine m_get dX10_meanGrade_33 f_X10_7 hA rfl ?_
        refine r_il2 dX10_meanGrade_36 ?_
        refine r_iconst dX10_meanGrade_37 ?_
        refine r_callSP2 dX10_meanGrade_38 s_X10_83 (c_creditAt κ _) (by decide) rfl ?_
        refine m_ald dX10_meanGrade_41 hA (by decide) rfl (by first | omega | (simp only [mlen]; omega)) (by first | omega | (simp only [mlen]; omega)) ?_
        refine r_al0 dX10_meanGrade_42 ?_
        refine m_get dX10_meanGrade_43 f_X10_7 hA rfl ?_
        refine r_il2 dX10_meanGrade_46 ?_
        refine r_iconst dX10_meanGrade_47 ?_
        refine r_callSP2 dX10_meanGrade_48 s_X10_83 (c_creditAt κ _) (by decide) rfl ?_
        refine m_ald dX10_meanGrade_51 hA (by decide) rfl (by first | omega | (simp only [mlen]; omega)) (by first | omega | (simp only [mlen]; omega)) ?_
        refine r_imul dX10_meanGrade_52 ?_
        refine r_iadd dX10_meanGrade_53 ?_
        refine r_is1 dX10_meanGrade_54 rfl ?_
        refine r_inc2 dX10_meanGrade_55 rfl ?_
        refine r_goto (tgt := 8) dX10_meanGrade_58 (by decide) ?_
        have e9 : sz (fun c => if M1 10 c < 0 then 0 else M 0 (4 + 4 * c + 2) * M 0 (4 + 4 * c + 1)) (c + 1) = sz (fun c => if M1 10 c < 0 then 0 else M 0 (4 + 4 * c + 2) * M 0 (4 + 4 * c + 1)) c + (if M1 10 c < 0 then 0 else M 0 (4 + 4 * c + 2) * M 0 (4 + 4 * c + 1)) := sz_1 c0
        first | rw [if_pos (by omega)] at e9 | (rw [if_neg (by omega), Int.mul_comm (M 0 (4 + 4 * c + 2))] at e9)
        try rw [e0]
        rw [← e9]
        exact ih (c + 1) (by omega) (by omega) (by omega)
      · refine r_iconst dX10_meanGrade_28 ?_
        refine r_goto (tgt := 53) dX10_meanGrade_29 (by decide) ?_
        refine r_iadd dX10_meanGrade_53 ?_
        refine r_is1 dX10_meanGrade_54 rfl ?_
        refine r_inc2 dX10_meanGrade_55 rfl ?_
        refine r_goto (tgt := 8) dX10_meanGrade_58 (by decide) ?_
        have e9 : sz (fun c => if M1 10 c < 0 then 0 else M 0 (4 + 4 * c + 2) * M 0 (4 + 4 * c + 1)) (c + 1) = sz (fun c => if M1 10 c < 0 then 0 else M 0 (4 + 4 * c + 2) * M 0 (4 + 4 * c + 1)) c + (if M1 10 c < 0 then 0 else M 0 (4 + 4 * c + 2) * M 0 (4 + 4 * c + 1)) := sz_1 c0
        first | rw [if_pos (by omega)] at e9 | (rw [if_neg (by omega), Int.mul_comm (M 0 (4 + 4 * c + 2))] at e9)
        try rw [e0]
        rw [← e9]
        exact ih (c + 1) (by omega) (by omega) (by omega)
set_option maxRecDepth 100000 in
set_option maxHeartbeats 4000000 in
theorem c_mean (κ : KP) {A : Nat → Nat} {M : MEM} (h : AH) (hA : MA A) (hR : RG M) (hC : CW (M 0)) (hK : QKn M) : MM κ mX10_meanGrade 7 0 0 [.ref (A 30)] (mset A M h) (fun v h' => ∃ x M', v = some (.double x) ∧ h' = mset A M' h ∧ ∃ t, QFx M t M' ∧ R_mean (M 0) t x) NoX := by
  refine mm_of (L := [some _, none, none]) (by decide +kernel) rfl rfl (Nat.le_of_ble_eq_true rfl) rfl ?_
  have hW := hC.1
  obtain ⟨⟨y0, y1⟩, ⟨n0, n1⟩, -⟩ := hW.n
  refine r_al0 dX10_meanGrade_0 ?_
  refine m_callU0 dX10_meanGrade_1 v_X10_150 hA (c_finds κ hA hR hW hK) (by decide) rfl (fun M_1 h_1 => ?_)
  refine r_iconst dX10_meanGrade_4 ?_
  refine r_is1 dX10_meanGrade_5 rfl ?_
  refine r_iconst dX10_meanGrade_6 ?_
  refine r_is2 dX10_meanGrade_7 rfl ?_
  exact l_mean κ h hA hR hC h_1 7 0 (by omega) (by omega) (by omega)
