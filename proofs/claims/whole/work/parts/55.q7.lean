/-! ===== desks as objects ===== -/
abbrev crg (g : Int → Int) : Int → Int → Int := fun c w => g (4 + 4 * c + w)
abbrev eqg (g : Int → Int) : Int → Int → Int := fun e w => g (28 + 4 * e + w)
theorem CrR.cong {h : AH} {a : Nat} {x y : Int → Int} (H : CrR h a x) (e : ∀ w : Int, 0 ≤ w → w ≤ 3 → x w = y w) : CrR h a y := by
  have := H
  unfold CrR at this ⊢
  rw [← e 0 (by decide) (by decide), ← e 1 (by decide) (by decide), ← e 2 (by decide) (by decide), ← e 3 (by decide) (by decide)]
  exact this
theorem EqR.cong {h : AH} {a : Nat} {x y : Int → Int} (H : EqR h a x) (e : ∀ w : Int, 0 ≤ w → w ≤ 3 → x w = y w) : EqR h a y := by
  have := H
  unfold EqR at this ⊢
  rw [← e 0 (by decide) (by decide), ← e 1 (by decide) (by decide), ← e 2 (by decide) (by decide), ← e 3 (by decide) (by decide)]
  exact this
def CrsAt (h : AH) (cr n : Nat) (X : Int → Int → Int) : Prop := ∃ f : Int → Option Nat, ArF h cr (.object RX2) n (rv f) ∧ ∀ c : Int, 0 ≤ c → c < n → ∃ a, f c = some a ∧ CrR h a (X c)
def EqsAt (h : AH) (er n : Nat) (X : Int → Int → Int) : Prop := ∃ f : Int → Option Nat, ArF h er (.object RX4) n (rv f) ∧ ∀ c : Int, 0 ≤ c → c < n → ∃ a, f c = some a ∧ EqR h a (X c)
theorem CrsAt.fx {h h' : AH} {cr n : Nat} {X : Int → Int → Int} (x : Fx h h') (H : CrsAt h cr n X) : CrsAt h' cr n X := by
  obtain ⟨f, h1, h2⟩ := H
  refine ⟨f, x _ _ h1, fun c c0 c1 => ?_⟩
  obtain ⟨a, h3, h4⟩ := h2 c c0 c1
  exact ⟨a, h3, x _ _ h4⟩
theorem EqsAt.fx {h h' : AH} {cr n : Nat} {X : Int → Int → Int} (x : Fx h h') (H : EqsAt h cr n X) : EqsAt h' cr n X := by
  obtain ⟨f, h1, h2⟩ := H
  refine ⟨f, x _ _ h1, fun c c0 c1 => ?_⟩
  obtain ⟨a, h3, h4⟩ := h2 c c0 c1
  exact ⟨a, h3, x _ _ h4⟩
theorem CrsAt.cong {h : AH} {cr n : Nat} {X Y : Int → Int → Int} (H : CrsAt h cr n X) (e : ∀ c : Int, 0 ≤ c → c < n → ∀ w : Int, 0 ≤ w → w ≤ 3 → X c w = Y c w) : CrsAt h cr n Y := by
  obtain ⟨f, h1, h2⟩ := H
  refine ⟨f, h1, fun c c0 c1 => ?_⟩
  obtain ⟨a, h3, h4⟩ := h2 c c0 c1
  exact ⟨a, h3, CrR.cong h4 (e c c0 c1)⟩
theorem EqsAt.cong {h : AH} {cr n : Nat} {X Y : Int → Int → Int} (H : EqsAt h cr n X) (e : ∀ c : Int, 0 ≤ c → c < n → ∀ w : Int, 0 ≤ w → w ≤ 3 → X c w = Y c w) : EqsAt h cr n Y := by
  obtain ⟨f, h1, h2⟩ := H
  refine ⟨f, h1, fun c c0 c1 => ?_⟩
  obtain ⟨a, h3, h4⟩ := h2 c c0 c1
  exact ⟨a, h3, EqR.cong h4 (e c c0 c1)⟩
theorem MetEq.cong {R R' : Int → Int → Int} {n : Int} {L L' m : Int → Prop} (H : MetEq R n L m) (e : ∀ b : Int, 0 ≤ b → b < n → R b 1 = R' b 1 ∧ R b 2 = R' b 2 ∧ R b 5 = R' b 5) (el : ∀ b, 0 ≤ b → b < n → (L b ↔ L' b)) : MetEq R' n L' m := fun b b0 b1 => by
  obtain ⟨_, x2, x5⟩ := e b b0 b1
  rw [H b b0 b1, x2, x5, el b b0 b1]
  rw [show sz (fun k => bP (R k 1 = b ∧ m k)) n = sz (fun k => bP (R' k 1 = b ∧ m k)) n from sz_cong fun k k0 k1 => by rw [(e k k0 k1).1]]
theorem PrR.cong {κ : KP} {h : AH} {p n : Nat} {R R' : Int → Int → Int} (e : ∀ b : Int, 0 ≤ b → b < n → ∀ i : Int, 0 ≤ i → i < 12 → R b i = R' b i) (H : PrR κ h p n R) : PrR κ h p n R' := by
  obtain ⟨bl, lv, ms, mr, N, lf, fm, fr, h1, h2, h3, h4, h5, h6, h7, h8⟩ := H
  have ek : bk (fun b => R b 1 = -1) n = bk (fun b => R' b 1 = -1) n := by
    funext i
    exact tb_congr ⟨fun q => ⟨q.1, q.2.1, by show R' i 1 = -1; rw [← e i q.1 q.2.1 1 (by decide) (by decide)]; exact q.2.2⟩, fun q => ⟨q.1, q.2.1, by show R i 1 = -1; rw [e i q.1 q.2.1 1 (by decide) (by decide)]; exact q.2.2⟩⟩
  have e5 : ∀ b : Int, 0 ≤ b → b < n → R b 5 = R' b 5 := fun b b0 b1 => e b b0 b1 5 (by decide) (by decide)
  refine ⟨bl, lv, ms, mr, N, lf, fm, fr, by rw [← ek]; exact h1, h2.cong e, h3, ⟨fun i i0 i1 => ⟨(h4.1 i i0 i1).1, by rw [← e5 _ (h4.1 i i0 i1).1.1 (h4.1 i i0 i1).1.2]; exact (h4.1 i i0 i1).2⟩, h4.2.1, fun b b0 b1 hb => h4.2.2.1 b b0 b1 (by rw [e5 b b0 b1]; exact hb), by rw [h4.2.2.2]; exact sz_cong fun b b0 b1 => by rw [e5 b b0 b1]⟩, h5, h6, h7, fun y y0 y1 Pq eq hq => ?_⟩
  obtain ⟨F, k1, k2, k3, k4⟩ := h8 y y0 y1 Pq eq hq
  refine ⟨F, k1, k2, k3.cong (fun b b0 b1 => ⟨e b b0 b1 1 (by decide) (by decide), e b b0 b1 2 (by decide) (by decide), e5 b b0 b1⟩) (fun _ _ _ => Iff.rfl), ?_⟩
  rw [k4]
  exact sz_cong fun b b0 b1 => by rw [e b b0 b1 1 (by decide) (by decide)]
/-- h' holds what h holds, and q is new in it -/
def Exn (q : Nat) (h h' : AH) : Prop := Ext h h' ∧ h q = none
theorem Exn.up {h : AH} {a : Nat} {c : HC} (ha : h a = none) : Exn a h (upA h a c) := ⟨Ext.up ha, ha⟩
theorem Ext.non {h h' : AH} {q : Nat} (x : Ext h h') (hq : h' q = none) : h q = none := by
  cases e : h q with
  | none => rfl
  | some c =>
    have := x _ _ e
    rw [hq] at this
    cases this
theorem Exn.tr {h h9 h' : AH} {q : Nat} (x : Ext h h9) (y : Exn q h9 h') : Exn q h h' := ⟨x.trans y.1, x.non y.2⟩
def DkV (κ : KP) (h : AH) (q : Nat) (g : Int → Int) (cr eq p nc ne nb : Nat) : Prop := ObF h q 7 [.int (J (g 0)), .ref cr, .ref eq, .ref p] ∧ CrsAt h cr nc (crg g) ∧ EqsAt h eq ne (eqg g) ∧ PrR κ h p nb (rwg g) ∧ (nc : Int) = g 1 ∧ (ne : Int) = g 2 ∧ (nb : Int) = g 3
/-- the object at q shows the desk g, as far as its counts go -/
def DeskAt (κ : KP) (h : AH) (q : Nat) (g : Int → Int) : Prop := ∃ cr eq p nc ne nb, DkV κ h q g cr eq p nc ne nb
theorem DkV.fx {κ : KP} {h h' : AH} {q : Nat} {g : Int → Int} {cr eq p nc ne nb : Nat} (x : Fx h h') (H : DkV κ h q g cr eq p nc ne nb) : DkV κ h' q g cr eq p nc ne nb := by
  obtain ⟨h1, h2, h3, h4, h5⟩ := H
  exact ⟨x _ _ h1, h2.fx x, h3.fx x, h4.fx x, h5⟩
theorem DeskAt.fx {κ : KP} {h h' : AH} {q : Nat} {g : Int → Int} (x : Fx h h') (H : DeskAt κ h q g) : DeskAt κ h' q g := by
  obtain ⟨cr, eq, p, nc, ne, nb, H⟩ := H
  exact ⟨cr, eq, p, nc, ne, nb, H.fx x⟩
/-- two states of the model that show the same desk -/
def GE (g g' : Int → Int) : Prop := (g 0 = g' 0 ∧ g 1 = g' 1 ∧ g 2 = g' 2 ∧ g 3 = g' 3) ∧ (∀ c, 0 ≤ c → c < g 1 → ∀ w, 0 ≤ w → w ≤ 3 → g (4 + 4 * c + w) = g' (4 + 4 * c + w)) ∧ (∀ c, 0 ≤ c → c < g 2 → ∀ w, 0 ≤ w → w ≤ 3 → g (28 + 4 * c + w) = g' (28 + 4 * c + w)) ∧ ∀ b, 0 ≤ b → b < g 3 → ∀ w, 0 ≤ w → w < 12 → g (60 + 12 * b + w) = g' (60 + 12 * b + w)
theorem GE.rf {g : Int → Int} : GE g g := ⟨⟨rfl, rfl, rfl, rfl⟩, fun _ _ _ _ _ _ => rfl, fun _ _ _ _ _ _ => rfl, fun _ _ _ _ _ _ => rfl⟩
theorem GE.symm {g g' : Int → Int} (h : GE g g') : GE g' g := by
  obtain ⟨⟨a, b, c, d⟩, h1, h2, h3⟩ := h
  exact ⟨⟨a.symm, b.symm, c.symm, d.symm⟩, fun x x0 x1 w w0 w1 => (h1 x x0 (by omega) w w0 w1).symm, fun x x0 x1 w w0 w1 => (h2 x x0 (by omega) w w0 w1).symm, fun x x0 x1 w w0 w1 => (h3 x x0 (by omega) w w0 w1).symm⟩
theorem GE.trans {g g' g2 : Int → Int} (h : GE g g') (k : GE g' g2) : GE g g2 := by
  obtain ⟨⟨a, b, c, d⟩, h1, h2, h3⟩ := h
  obtain ⟨⟨a', b', c', d'⟩, k1, k2, k3⟩ := k
  exact ⟨⟨a.trans a', b.trans b', c.trans c', d.trans d'⟩, fun x x0 x1 w w0 w1 => (h1 x x0 x1 w w0 w1).trans (k1 x x0 (by omega) w w0 w1), fun x x0 x1 w w0 w1 => (h2 x x0 x1 w w0 w1).trans (k2 x x0 (by omega) w w0 w1), fun x x0 x1 w w0 w1 => (h3 x x0 x1 w w0 w1).trans (k3 x x0 (by omega) w w0 w1)⟩
theorem GE.of156 {g g' : Int → Int} (hW : WF g) (h : ∀ i : Int, 0 ≤ i → i < 156 → g i = g' i) : GE g g' := by
  obtain ⟨-, n1, n2, n3⟩ := hW.n
  exact ⟨⟨h 0 (by decide) (by decide), h 1 (by decide) (by decide), h 2 (by decide) (by decide), h 3 (by decide) (by decide)⟩, fun c c0 c1 w w0 w1 => h _ (by omega) (by omega), fun c c0 c1 w w0 w1 => h _ (by omega) (by omega), fun c c0 c1 w w0 w1 => h _ (by omega) (by omega)⟩
theorem DkV.ge {κ : KP} {h : AH} {q : Nat} {g g' : Int → Int} {cr eq p nc ne nb : Nat} (e : GE g g') (H : DkV κ h q g cr eq p nc ne nb) : DkV κ h q g' cr eq p nc ne nb := by
  obtain ⟨h1, h2, h3, h4, h5, h6, h7⟩ := H
  obtain ⟨⟨a, b, c, d⟩, x1, x2, x3⟩ := e
  exact ⟨by rw [← a]; exact h1, h2.cong (fun c c0 c1 => x1 c c0 (by omega)), h3.cong (fun c c0 c1 => x2 c c0 (by omega)), h4.cong (fun b b0 b1 => x3 b b0 (by omega)), by omega, by omega, by omega⟩
theorem DeskAt.ge {κ : KP} {h : AH} {q : Nat} {g g' : Int → Int} (e : GE g g') (H : DeskAt κ h q g) : DeskAt κ h q g' := by
  obtain ⟨cr, eq, p, nc, ne, nb, H⟩ := H
  exact ⟨cr, eq, p, nc, ne, nb, H.ge e⟩
set_option maxRecDepth 100000 in
set_option maxHeartbeats 4000000 in
theorem c_inYear (κ : KP) (h : AH) {q cr eq p nc ne nb : Nat} {g : Int → Int} (H : DkV κ h q g cr eq p nc ne nb) {y9 : Int} : MM κ mX3_inYear 3 1 4 [.ref q, .int (J y9)] h (fun v h' => ∃ q', v = some (.ref q') ∧ Exn q' h h' ∧ ObF h' q' 7 [.int (J (y9)), .ref cr, .ref eq, .ref p]) NoX := by
  refine mm_of (L := [some _, some _]) (by decide +kernel) rfl rfl (Nat.le_of_ble_eq_true rfl) rfl ?_
  have H0 := H; obtain ⟨hO, hC, hE, hP, e1, e2, e3⟩ := H
  refine r_new dX3_inYear_0 n_X3_10 (by decide) (by decide) (fun q9 hq9 => ?_)
  refine r_dup dX3_inYear_3 rfl ?_
  refine r_il1 dX3_inYear_4 ?_
  refine r_al0 dX3_inYear_5 ?_
  refine r_getfield dX3_inYear_6 f_X3_15 (upo hq9 hO) rfl ?_
  refine r_al0 dX3_inYear_9 ?_
  refine r_getfield dX3_inYear_10 f_X3_19 (upo hq9 hO) rfl ?_
  refine r_al0 dX3_inYear_13 ?_
  refine r_getfield dX3_inYear_14 f_X3_23 (upo hq9 hO) rfl ?_
  refine r_init dX3_inYear_17 i_X3_29 (c_dkInit κ _ upA_same) (by decide) rfl rfl rfl ?_
  rw [upA_upA]
  exact r_aret dX3_inYear_20 rfl ⟨q9, rfl, Exn.up hq9, upA_same⟩
set_option maxRecDepth 100000 in
set_option maxHeartbeats 4000000 in
theorem c_withProgram (κ : KP) (h : AH) {q cr eq p nc ne nb : Nat} {g : Int → Int} (H : DkV κ h q g cr eq p nc ne nb) {p9 : Nat} : MM κ mX3_withProgram 3 1 4 [.ref q, .ref p9] h (fun v h' => ∃ q', v = some (.ref q') ∧ Exn q' h h' ∧ ObF h' q' 7 [.int (J (g 0)), .ref cr, .ref eq, .ref p9]) NoX := by
  refine mm_of (L := [some _, some _]) (by decide +kernel) rfl rfl (Nat.le_of_ble_eq_true rfl) rfl ?_
  have H0 := H; obtain ⟨hO, hC, hE, hP, e1, e2, e3⟩ := H
  refine r_new dX3_withProgram_0 n_X3_10 (by decide) (by decide) (fun q9 hq9 => ?_)
  refine r_dup dX3_withProgram_3 rfl ?_
  refine r_al0 dX3_withProgram_4 ?_
  refine r_getfield dX3_withProgram_5 f_X3_9 (upo hq9 hO) rfl ?_
  refine r_al0 dX3_withProgram_8 ?_
  refine r_getfield dX3_withProgram_9 f_X3_15 (upo hq9 hO) rfl ?_
  refine r_al0 dX3_withProgram_12 ?_
  refine r_getfield dX3_withProgram_13 f_X3_19 (upo hq9 hO) rfl ?_
  refine r_al1 dX3_withProgram_16 ?_
  refine r_init dX3_withProgram_17 i_X3_29 (c_dkInit κ _ upA_same) (by decide) rfl rfl rfl ?_
  rw [upA_upA]
  exact r_aret dX3_withProgram_20 rfl ⟨q9, rfl, Exn.up hq9, upA_same⟩
set_option maxRecDepth 100000 in
set_option maxHeartbeats 4000000 in
theorem l_c_withCredit (κ : KP) (h : AH) {q cr eq p nc a9 b9 : Nat} {y : Int} {fc : Int → Option Nat} {x : Int → Int} (hn : nc ≤ 5) (hO : ObF h q 7 [.int (J y), .ref cr, .ref eq, .ref p]) (hA : ArF h cr (.object RX2) nc (rv fc)) (hbl : ∀ c : Int, 0 ≤ c → c < nc → ∃ (a : Nat) (fs : List Value), fc c = some a ∧ ObF h a 6 fs) (hx : CrR h a9 x) (hb9 : h b9 = none) : ∀ (f : Nat) (i : Int) (F : Int → Option Nat), (nc : Int) - i < (f : Int) → 0 ≤ i → i ≤ nc → (∀ j : Int, 0 ≤ j → j < i → F j = fc j) → WW κ mX3_withCredit 3 1 4 (fun v h' => ∃ q' b', v = some (.ref q') ∧ Exn q' h h' ∧ ObF h' q' 7 [.int (J y), .ref b', .ref eq, .ref p] ∧ ∃ F : Int → Option Nat, ArF h' b' (.object RX2) (nc + 1) (rv F) ∧ (∀ j : Int, 0 ≤ j → j < nc → F j = fc j) ∧ F nc = some a9) NoX 13 [some (.ref q), some (.ref a9), some (.ref b9), some (.int (J i))] [] (upA h b9 (true, .inl (.object RX2, nc + 1, rv F))) := by
  intro f
  induction f with
  | zero =>
    intro i F hf i0 i1
    exact absurd hf (by omega)
  | succ f ih =>
    intro i F hf i0 i1 hF
    refine r_il3 dX3_withCredit_13 ?_
    refine r_al0 dX3_withCredit_14 ?_
    refine r_getfield dX3_withCredit_15 f_X3_15 (by first | exact upo hb9 hO) rfl ?_
    refine r_alenF dX3_withCredit_18 (upo hb9 hA) (by decide) rfl ?_
    refine r_icmp_ge (tgt := 37) dX3_withCredit_19 (by decide) (by (omega)) (by (omega)) (fun c_19 => ?_) (fun c_19 => ?_)
    · refine r_al2 dX3_withCredit_37 ?_
      refine r_al0 dX3_withCredit_38 ?_
      refine r_getfield dX3_withCredit_39 f_X3_15 (by first | exact upo hb9 hO) rfl ?_
      refine r_alenF dX3_withCredit_42 (upo hb9 hA) (by decide) rfl ?_
      refine r_al1 dX3_withCredit_43 ?_
      refine r_asJ dX3_withCredit_44 upA_same (by decide) (upo hb9 hx) rfl (by omega) (by omega) (by omega) ?_
      rw [upA_upA]
      refine ww_frz1 upA_same ?_
      rw [upA_upA]
      have e9 : Ext h (upA h b9 (false, .inl (.object RX2, nc + 1, rv (upz F nc (some a9))))) := Ext.up hb9
      have s9 : (upA h b9 (false, .inl (.object RX2, nc + 1, rv (upz F nc (some a9))))) b9 = _ := upA_same
      generalize upA h b9 (false, .inl (.object RX2, nc + 1, rv (upz F nc (some a9)))) = h9 at e9 s9 ⊢
      refine r_new dX3_withCredit_45 n_X3_10 (by decide) (by decide) (fun q9 hq9 => ?_)
      refine r_dup dX3_withCredit_48 rfl ?_
      refine r_al0 dX3_withCredit_49 ?_
      refine r_getfield dX3_withCredit_50 f_X3_9 (upo hq9 (e9 _ _ hO)) rfl ?_
      refine r_al2 dX3_withCredit_53 ?_
      refine r_al0 dX3_withCredit_54 ?_
      refine r_getfield dX3_withCredit_55 f_X3_19 (upo hq9 (e9 _ _ hO)) rfl ?_
      refine r_al0 dX3_withCredit_58 ?_
      refine r_getfield dX3_withCredit_59 f_X3_23 (upo hq9 (e9 _ _ hO)) rfl ?_
      refine r_init dX3_withCredit_62 i_X3_29 (c_dkInit κ _ upA_same) (by decide) rfl rfl rfl ?_
      rw [upA_upA]
      exact r_aret dX3_withCredit_65 rfl ⟨q9, b9, rfl, Exn.tr e9 (Exn.up hq9), upA_same, _, upo hq9 s9, fun j j0 j1 => by rw [upz_ne (by omega)]; exact hF j j0 (by omega), upz_same⟩
    · refine r_al2 dX3_withCredit_22 ?_
      refine r_il3 dX3_withCredit_23 ?_
      refine r_al0 dX3_withCredit_24 ?_
      refine r_getfield dX3_withCredit_25 f_X3_15 (by first | exact upo hb9 hO) rfl ?_
      refine r_il3 dX3_withCredit_28 ?_
      obtain ⟨a1, fs1, ha1, hf1⟩ := hbl i i0 (by omega)
      refine r_aaF dX3_withCredit_29 (upo hb9 hA) (by decide) ha1 i0 (by omega) (by omega) ?_
      refine r_asJ dX3_withCredit_30 upA_same (by decide) (upo hb9 hf1) rfl i0 (by omega) (by omega) ?_
      rw [upA_upA]
      refine r_inc3 dX3_withCredit_31 rfl ?_
      refine r_goto (tgt := 13) dX3_withCredit_34 (by decide) ?_
      refine ih (i + 1) _ (by omega) (by omega) (by omega) (fun j j0 j1 => ?_)
      by_cases e : j = i
      · rw [e, upz_same, ha1]
      · rw [upz_ne e]; exact hF j j0 (by omega)
set_option maxRecDepth 100000 in
set_option maxHeartbeats 4000000 in
theorem c_withCredit (κ : KP) (h : AH) {q cr eq p nc ne nb : Nat} {g : Int → Int} (H : DkV κ h q g cr eq p nc ne nb) {x : Int → Int} {a9 : Nat} (hx : CrR h a9 x) (hn : nc ≤ 5) : MM κ mX3_withCredit 3 2 12 [.ref q, .ref a9] h (fun v h' => ∃ q', v = some (.ref q') ∧ Exn q' h h' ∧ DeskAt κ h' q' (gcm g (x 0) (x 1) (x 2) (x 3))) NoX := by
  refine mm_of (L := [some _, some _, none, none]) (by decide +kernel) rfl rfl (Nat.le_of_ble_eq_true rfl) rfl ?_
  have H0 := H; obtain ⟨hO, hC, hE, hP, e1, e2, e3⟩ := H
  obtain ⟨fc, hA, hbl⟩ := hC
  refine r_al0 dX3_withCredit_0 ?_
  refine r_getfield dX3_withCredit_1 f_X3_15 (by first | exact hO | exact hA) rfl ?_
  refine r_alenF dX3_withCredit_4 (by first | exact hO | exact hA) (by decide) (rfl) ?_
  refine r_iconst dX3_withCredit_5 ?_
  refine r_iadd dX3_withCredit_6 ?_
  refine r_anewa dX3_withCredit_7 a_X3_27 (by decide) (by decide) (by omega) (by omega) (by decide) (by omega) (fun b9 hb9 => ?_)
  have eN : ((nc : Int) + 1).toNat = nc + 1 := by omega
  rw [eN]
  refine r_as2 dX3_withCredit_10 rfl ?_
  refine r_iconst dX3_withCredit_11 ?_
  refine r_is3 dX3_withCredit_12 rfl ?_
  refine ww_bud (by decide) (by omega) (ww_post (fun v h9 hq => ?_) (fun _ _ hx => hx) (l_c_withCredit κ h hn hO hA (fun c c0 c1 => (hbl c c0 c1).imp fun a z => ⟨_, z.1, z.2⟩) hx hb9 (nc + 1) 0 (fun _ => none) (by omega) (by omega) (by omega) (fun j j0 j1 => by omega)))
  obtain ⟨q', b', rfl, hx9n, hq9, F, hb, hF1, hF2⟩ := hq
  have hx9 := hx9n.1
  refine ⟨q', rfl, hx9n, b', eq, p, nc + 1, ne, nb, ?_, ⟨F, hb, fun c c0 c1 => ?_⟩, (hE.fx hx9.fx).cong (fun c c0 c1 w w0 w1 => by show _ = gcm g (x 0) (x 1) (x 2) (x 3) (28 + 4 * c + w); rw [gcm_hi (by omega) (by omega)]), (hP.fx hx9.fx).cong (fun b b0 b1 w w0 w1 => by show _ = gcm g (x 0) (x 1) (x 2) (x 3) (60 + 12 * b + w); rw [gcm_hi (by omega) (by omega)]), ?_, ?_, ?_⟩
  · rw [gcm_lo (by omega) (by decide) (by decide)]
    exact hq9
  · by_cases e : c = nc
    · refine ⟨a9, by rw [e]; exact hF2, CrR.cong (hx9 _ _ hx) (fun w w0 w1 => ?_)⟩
      have hg := gcm_new (g := g) (a := x 0) (b := x 1) (c := x 2) (e := x 3) (by omega)
      show _ = gcm g (x 0) (x 1) (x 2) (x 3) (4 + 4 * c + w)
      rw [e, e1]
      rcases (show w = 0 ∨ w = 1 ∨ w = 2 ∨ w = 3 by omega) with rfl | rfl | rfl | rfl
      · exact hg.1.symm
      · exact hg.2.1.symm
      · exact hg.2.2.1.symm
      · exact hg.2.2.2.symm
    · obtain ⟨a, h3, h4⟩ := hbl c c0 (by omega)
      exact ⟨a, by rw [hF1 c c0 (by omega)]; exact h3, CrR.cong (hx9 _ _ h4) (fun w w0 w1 => (gcm_old c0 (by omega) ⟨w0, w1⟩).symm)⟩
  · rw [gcm_n (by omega)]
    omega
  · rw [gcm_lo (by omega) (by decide) (by decide)]
    exact e2
  · rw [gcm_lo (by omega) (by decide) (by decide)]
    exact e3
set_option maxRecDepth 100000 in
set_option maxHeartbeats 4000000 in
theorem l_c_withEq (κ : KP) (h : AH) {q cr eq p ne a9 b9 : Nat} {y : Int} {fc : Int → Option Nat} {x : Int → Int} (hn : ne ≤ 7) (hO : ObF h q 7 [.int (J y), .ref cr, .ref eq, .ref p]) (hA : ArF h eq (.object RX4) ne (rv fc)) (hbl : ∀ c : Int, 0 ≤ c → c < ne → ∃ (a : Nat) (fs : List Value), fc c = some a ∧ ObF h a 8 fs) (hx : EqR h a9 x) (hb9 : h b9 = none) : ∀ (f : Nat) (i : Int) (F : Int → Option Nat), (ne : Int) - i < (f : Int) → 0 ≤ i → i ≤ ne → (∀ j : Int, 0 ≤ j → j < i → F j = fc j) → WW κ mX3_withEquivalence 3 1 4 (fun v h' => ∃ q' b', v = some (.ref q') ∧ Exn q' h h' ∧ ObF h' q' 7 [.int (J y), .ref cr, .ref b', .ref p] ∧ ∃ F : Int → Option Nat, ArF h' b' (.object RX4) (ne + 1) (rv F) ∧ (∀ j : Int, 0 ≤ j → j < ne → F j = fc j) ∧ F ne = some a9) NoX 13 [some (.ref q), some (.ref a9), some (.ref b9), some (.int (J i))] [] (upA h b9 (true, .inl (.object RX4, ne + 1, rv F))) := by
  intro f
  induction f with
  | zero =>
    intro i F hf i0 i1
    exact absurd hf (by omega)
  | succ f ih =>
    intro i F hf i0 i1 hF
    refine r_il3 dX3_withEquivalence_13 ?_
    refine r_al0 dX3_withEquivalence_14 ?_
    refine r_getfield dX3_withEquivalence_15 f_X3_19 (by first | exact upo hb9 hO) rfl ?_
    refine r_alenF dX3_withEquivalence_18 (upo hb9 hA) (by decide) rfl ?_
    refine r_icmp_ge (tgt := 37) dX3_withEquivalence_19 (by decide) (by (omega)) (by (omega)) (fun c_19 => ?_) (fun c_19 => ?_)
    · refine r_al2 dX3_withEquivalence_37 ?_
      refine r_al0 dX3_withEquivalence_38 ?_
      refine r_getfield dX3_withEquivalence_39 f_X3_19 (by first | exact upo hb9 hO) rfl ?_
      refine r_alenF dX3_withEquivalence_42 (upo hb9 hA) (by decide) rfl ?_
      refine r_al1 dX3_withEquivalence_43 ?_
      refine r_asJ dX3_withEquivalence_44 upA_same (by decide) (upo hb9 hx) rfl (by omega) (by omega) (by omega) ?_
      rw [upA_upA]
      refine ww_frz1 upA_same ?_
      rw [upA_upA]
      have e9 : Ext h (upA h b9 (false, .inl (.object RX4, ne + 1, rv (upz F ne (some a9))))) := Ext.up hb9
      have s9 : (upA h b9 (false, .inl (.object RX4, ne + 1, rv (upz F ne (some a9))))) b9 = _ := upA_same
      generalize upA h b9 (false, .inl (.object RX4, ne + 1, rv (upz F ne (some a9)))) = h9 at e9 s9 ⊢
      refine r_new dX3_withEquivalence_45 n_X3_10 (by decide) (by decide) (fun q9 hq9 => ?_)
      refine r_dup dX3_withEquivalence_48 rfl ?_
      refine r_al0 dX3_withEquivalence_49 ?_
      refine r_getfield dX3_withEquivalence_50 f_X3_9 (upo hq9 (e9 _ _ hO)) rfl ?_
      refine r_al0 dX3_withEquivalence_53 ?_
      refine r_getfield dX3_withEquivalence_54 f_X3_15 (upo hq9 (e9 _ _ hO)) rfl ?_
      refine r_al2 dX3_withEquivalence_57 ?_
      refine r_al0 dX3_withEquivalence_58 ?_
      refine r_getfield dX3_withEquivalence_59 f_X3_23 (upo hq9 (e9 _ _ hO)) rfl ?_
      refine r_init dX3_withEquivalence_62 i_X3_29 (c_dkInit κ _ upA_same) (by decide) rfl rfl rfl ?_
      rw [upA_upA]
      exact r_aret dX3_withEquivalence_65 rfl ⟨q9, b9, rfl, Exn.tr e9 (Exn.up hq9), upA_same, _, upo hq9 s9, fun j j0 j1 => by rw [upz_ne (by omega)]; exact hF j j0 (by omega), upz_same⟩
    · refine r_al2 dX3_withEquivalence_22 ?_
      refine r_il3 dX3_withEquivalence_23 ?_
      refine r_al0 dX3_withEquivalence_24 ?_
      refine r_getfield dX3_withEquivalence_25 f_X3_19 (by first | exact upo hb9 hO) rfl ?_
      refine r_il3 dX3_withEquivalence_28 ?_
      obtain ⟨a1, fs1, ha1, hf1⟩ := hbl i i0 (by omega)
      refine r_aaF dX3_withEquivalence_29 (upo hb9 hA) (by decide) ha1 i0 (by omega) (by omega) ?_
      refine r_asJ dX3_withEquivalence_30 upA_same (by decide) (upo hb9 hf1) rfl i0 (by omega) (by omega) ?_
      rw [upA_upA]
      refine r_inc3 dX3_withEquivalence_31 rfl ?_
      refine r_goto (tgt := 13) dX3_withEquivalence_34 (by decide) ?_
      refine ih (i + 1) _ (by omega) (by omega) (by omega) (fun j j0 j1 => ?_)
      by_cases e : j = i
      · rw [e, upz_same, ha1]
      · rw [upz_ne e]; exact hF j j0 (by omega)
set_option maxRecDepth 100000 in
set_option maxHeartbeats 4000000 in
theorem c_withEq (κ : KP) (h : AH) {q cr eq p nc ne nb : Nat} {g : Int → Int} (H : DkV κ h q g cr eq p nc ne nb) {x : Int → Int} {a9 : Nat} (hx : EqR h a9 x) (hn : ne ≤ 7) (hn6 : nc ≤ 6) : MM κ mX3_withEquivalence 3 2 12 [.ref q, .ref a9] h (fun v h' => ∃ q', v = some (.ref q') ∧ Exn q' h h' ∧ DeskAt κ h' q' (geq g (x 0) (x 1) (x 2) (x 3))) NoX := by
  refine mm_of (L := [some _, some _, none, none]) (by decide +kernel) rfl rfl (Nat.le_of_ble_eq_true rfl) rfl ?_
  have H0 := H; obtain ⟨hO, hC, hE, hP, e1, e2, e3⟩ := H
  obtain ⟨fc, hA, hbl⟩ := hE
  refine r_al0 dX3_withEquivalence_0 ?_
  refine r_getfield dX3_withEquivalence_1 f_X3_19 (by first | exact hO | exact hA) rfl ?_
  refine r_alenF dX3_withEquivalence_4 (by first | exact hO | exact hA) (by decide) (rfl) ?_
  refine r_iconst dX3_withEquivalence_5 ?_
  refine r_iadd dX3_withEquivalence_6 ?_
  refine r_anewa dX3_withEquivalence_7 a_X3_32 (by decide) (by decide) (by omega) (by omega) (by decide) (by omega) (fun b9 hb9 => ?_)
  have eN : ((ne : Int) + 1).toNat = ne + 1 := by omega
  rw [eN]
  refine r_as2 dX3_withEquivalence_10 rfl ?_
  refine r_iconst dX3_withEquivalence_11 ?_
  refine r_is3 dX3_withEquivalence_12 rfl ?_
  refine ww_bud (by decide) (by omega) (ww_post (fun v h9 hq => ?_) (fun _ _ hx => hx) (l_c_withEq κ h hn hO hA (fun c c0 c1 => (hbl c c0 c1).imp fun a z => ⟨_, z.1, z.2⟩) hx hb9 (ne + 1) 0 (fun _ => none) (by omega) (by omega) (by omega) (fun j j0 j1 => by omega)))
  obtain ⟨q', b', rfl, hx9n, hq9, F, hb, hF1, hF2⟩ := hq
  have hx9 := hx9n.1
  have lo : ∀ i : Int, i < 28 → i ≠ 2 → geq g (x 0) (x 1) (x 2) (x 3) i = g i := fun i hi h2 => by
    unfold geq
    rw [upz_ne (by omega), upz_ne (by omega), upz_ne (by omega), upz_ne (by omega), upz_ne h2]
  have hi : ∀ i : Int, 60 ≤ i → geq g (x 0) (x 1) (x 2) (x 3) i = g i := fun i hi => by
    unfold geq
    rw [upz_ne (by omega), upz_ne (by omega), upz_ne (by omega), upz_ne (by omega), upz_ne (by omega)]
  have h2 : geq g (x 0) (x 1) (x 2) (x 3) 2 = g 2 + 1 := by
    unfold geq
    rw [upz_ne (by omega), upz_ne (by omega), upz_ne (by omega), upz_ne (by omega), upz_same]
  refine ⟨q', rfl, hx9n, cr, b', p, nc, ne + 1, nb, ?_, (hC.fx hx9.fx).cong (fun c c0 c1 w w0 w1 => ?_), ⟨F, hb, fun c c0 c1 => ?_⟩, (hP.fx hx9.fx).cong (fun b b0 b1 w w0 w1 => (hi _ (by omega)).symm), ?_, ?_, ?_⟩
  · rw [lo 0 (by decide) (by decide)]
    exact hq9
  · show _ = geq g (x 0) (x 1) (x 2) (x 3) (4 + 4 * c + w)
    rw [lo _ (by omega) (by omega)]
  · by_cases e : c = ne
    · refine ⟨a9, by rw [e]; exact hF2, EqR.cong (hx9 _ _ hx) (fun w w0 w1 => ?_)⟩
      show _ = geq g (x 0) (x 1) (x 2) (x 3) (28 + 4 * c + w)
      rw [e, e2]
      unfold geq
      rcases (show w = 0 ∨ w = 1 ∨ w = 2 ∨ w = 3 by omega) with rfl | rfl | rfl | rfl
      · rw [upz_ne (by omega), upz_ne (by omega), upz_ne (by omega), upz_same]
      · rw [upz_ne (by omega), upz_ne (by omega), upz_same]
      · rw [upz_ne (by omega), upz_same]
      · rw [upz_same]
    · obtain ⟨a, h3, h4⟩ := hbl c c0 (by omega)
      refine ⟨a, by rw [hF1 c c0 (by omega)]; exact h3, EqR.cong (hx9 _ _ h4) (fun w w0 w1 => ?_)⟩
      show _ = geq g (x 0) (x 1) (x 2) (x 3) (28 + 4 * c + w)
      unfold geq
      rw [upz_ne (by omega), upz_ne (by omega), upz_ne (by omega), upz_ne (by omega), upz_ne (by omega)]
  · rw [lo 1 (by decide) (by decide)]
    exact e1
  · rw [h2]
    omega
  · rw [lo 3 (by decide) (by decide)]
    exact e3
set_option maxRecDepth 100000 in
set_option maxHeartbeats 4000000 in
theorem l_without (κ : KP) (h : AH) {q cr eq p m9 b9 : Nat} {y c9 : Int} {fc : Int → Option Nat} (hn : m9 ≤ 5) (c0 : 0 ≤ c9) (c1 : c9 ≤ m9) (hO : ObF h q 7 [.int (J y), .ref cr, .ref eq, .ref p]) (hA : ArF h cr (.object RX2) (m9 + 1) (rv fc)) (hbl : ∀ c : Int, 0 ≤ c → c < (m9 + 1 : Nat) → ∃ (a : Nat) (fs : List Value), fc c = some a ∧ ObF h a 6 fs) (hb9 : h b9 = none) : ∀ (f : Nat) (i : Int) (F : Int → Option Nat), (m9 : Int) - i < (f : Int) → 0 ≤ i → i ≤ m9 → (∀ j : Int, 0 ≤ j → j < i → F j = fc (if j < c9 then j else j + 1)) → WW κ mX3_withoutCredit 3 1 4 (fun v h' => ∃ q' b', v = some (.ref q') ∧ Exn q' h h' ∧ ObF h' q' 7 [.int (J y), .ref b', .ref eq, .ref p] ∧ ∃ F : Int → Option Nat, ArF h' b' (.object RX2) m9 (rv F) ∧ ∀ j : Int, 0 ≤ j → j < m9 → F j = fc (if j < c9 then j else j + 1)) NoX 28 [some (.ref q), some (.int (J c9)), some (.ref b9), some (.int (J i))] [] (upA h b9 (true, .inl (.object RX2, m9, rv F))) := by
  intro f
  induction f with
  | zero =>
    intro i F hf i0 i1
    exact absurd hf (by omega)
  | succ f ih =>
    intro i F hf i0 i1 hF
    refine r_il3 dX3_withoutCredit_28 ?_
    refine r_al2 dX3_withoutCredit_29 ?_
    refine r_alenF dX3_withoutCredit_30 upA_same (by decide) rfl ?_
    refine r_icmp_ge (tgt := 60) dX3_withoutCredit_31 (by decide) (by (omega)) (by (omega)) (fun c_31 => ?_) (fun c_31 => ?_)
    · refine ww_frz1 upA_same ?_
      rw [upA_upA]
      have e9 : Ext h (upA h b9 (false, .inl (.object RX2, m9, rv F))) := Ext.up hb9
      have s9 : (upA h b9 (false, .inl (.object RX2, m9, rv F))) b9 = _ := upA_same
      generalize upA h b9 (false, .inl (.object RX2, m9, rv F)) = h9 at e9 s9 ⊢
      refine r_new dX3_withoutCredit_60 n_X3_10 (by decide) (by decide) (fun q9 hq9 => ?_)
      refine r_dup dX3_withoutCredit_63 rfl ?_
      refine r_al0 dX3_withoutCredit_64 ?_
      refine r_getfield dX3_withoutCredit_65 f_X3_9 (upo hq9 (e9 _ _ hO)) rfl ?_
      refine r_al2 dX3_withoutCredit_68 ?_
      refine r_al0 dX3_withoutCredit_69 ?_
      refine r_getfield dX3_withoutCredit_70 f_X3_19 (upo hq9 (e9 _ _ hO)) rfl ?_
      refine r_al0 dX3_withoutCredit_73 ?_
      refine r_getfield dX3_withoutCredit_74 f_X3_23 (upo hq9 (e9 _ _ hO)) rfl ?_
      refine r_init dX3_withoutCredit_77 i_X3_29 (c_dkInit κ _ upA_same) (by decide) rfl rfl rfl ?_
      rw [upA_upA]
      exact r_aret dX3_withoutCredit_80 rfl ⟨q9, b9, rfl, Exn.tr e9 (Exn.up hq9), upA_same, F, upo hq9 s9, fun j j0 j1 => hF j j0 (by omega)⟩
    · refine r_al2 dX3_withoutCredit_34 ?_
      refine r_il3 dX3_withoutCredit_35 ?_
      refine r_al0 dX3_withoutCredit_36 ?_
      refine r_getfield dX3_withoutCredit_37 f_X3_15 (by first | exact upo hb9 hO) rfl ?_
      refine r_il3 dX3_withoutCredit_40 ?_
      refine r_il1 dX3_withoutCredit_41 ?_
      refine r_icmp_ge (tgt := 49) dX3_withoutCredit_42 (by decide) (by (omega)) (by (omega)) (fun c_42 => ?_) (fun c_42 => ?_)
      · refine r_il3 dX3_withoutCredit_49 ?_
        refine r_iconst dX3_withoutCredit_50 ?_
        refine r_iadd dX3_withoutCredit_51 ?_
        obtain ⟨a1, fs1, ha1, hf1⟩ := hbl _ (show 0 ≤ i + 1 by omega) (by omega)
        refine r_aaF dX3_withoutCredit_52 (upo hb9 hA) (by decide) ha1 (by omega) (by omega) (by omega) ?_
        refine r_asJ dX3_withoutCredit_53 upA_same (by decide) (upo hb9 hf1) rfl i0 (by omega) (by omega) ?_
        rw [upA_upA]
        refine r_inc3 dX3_withoutCredit_54 rfl ?_
        refine r_goto (tgt := 28) dX3_withoutCredit_57 (by decide) ?_
        refine ih (i + 1) _ (by omega) (by omega) (by omega) (fun j j0 j1 => ?_)
        by_cases e : j = i
        · rw [e, upz_same, ← ha1]; first | rw [if_pos (by omega)] | rw [if_neg (by omega)]
        · rw [upz_ne e]; exact hF j j0 (by omega)
      · refine r_il3 dX3_withoutCredit_45 ?_
        refine r_goto (tgt := 52) dX3_withoutCredit_46 (by decide) ?_
        obtain ⟨a1, fs1, ha1, hf1⟩ := hbl _ (show 0 ≤ i by omega) (by omega)
        refine r_aaF dX3_withoutCredit_52 (upo hb9 hA) (by decide) ha1 (by omega) (by omega) (by omega) ?_
        refine r_asJ dX3_withoutCredit_53 upA_same (by decide) (upo hb9 hf1) rfl i0 (by omega) (by omega) ?_
        rw [upA_upA]
        refine r_inc3 dX3_withoutCredit_54 rfl ?_
        refine r_goto (tgt := 28) dX3_withoutCredit_57 (by decide) ?_
        refine ih (i + 1) _ (by omega) (by omega) (by omega) (fun j j0 j1 => ?_)
        by_cases e : j = i
        · rw [e, upz_same, ← ha1]; first | rw [if_pos (by omega)] | rw [if_neg (by omega)]
        · rw [upz_ne e]; exact hF j j0 (by omega)
set_option maxRecDepth 100000 in
set_option maxHeartbeats 4000000 in
theorem c_without (κ : KP) (h : AH) {q cr eq p nc ne nb : Nat} {g : Int → Int} (H : DkV κ h q g cr eq p nc ne nb) {c9 : Int} (hn : nc ≤ 6) (c0 : 0 ≤ c9) (c1 : c9 < nc) : MM κ mX3_withoutCredit 3 2 12 [.ref q, .int (J c9)] h (fun v h' => ∃ q', v = some (.ref q') ∧ Exn q' h h' ∧ DeskAt κ h' q' (ggo g c9)) NoX := by
  refine mm_of (L := [some _, some _, none, none]) (by decide +kernel) rfl rfl (Nat.le_of_ble_eq_true rfl) rfl ?_
  have H0 := H; obtain ⟨hO, hC, hE, hP, e1, e2, e3⟩ := H
  obtain ⟨fc, hA, hbl⟩ := hC
  obtain ⟨m9, rfl⟩ : ∃ m9, nc = m9 + 1 := ⟨nc - 1, by omega⟩
  refine r_il1 dX3_withoutCredit_0 ?_
  refine r_if_lt (tgt := 13) dX3_withoutCredit_1 (by decide) (by (omega)) (fun c_1 => ?_) (fun c_1 => ?_)
  · exact absurd c_1 (by omega)
  · refine r_il1 dX3_withoutCredit_4 ?_
    refine r_al0 dX3_withoutCredit_5 ?_
    refine r_getfield dX3_withoutCredit_6 f_X3_15 (by first | exact hO | exact hA) rfl ?_
    refine r_alenF dX3_withoutCredit_9 (by first | exact hO | exact hA) (by decide) (rfl) ?_
    refine r_icmp_lt (tgt := 15) dX3_withoutCredit_10 (by decide) (by (omega)) (by (omega)) (fun c_10 => ?_) (fun c_10 => ?_)
    · refine r_al0 dX3_withoutCredit_15 ?_
      refine r_getfield dX3_withoutCredit_16 f_X3_15 (by first | exact hO | exact hA) rfl ?_
      refine r_alenF dX3_withoutCredit_19 (by first | exact hO | exact hA) (by decide) (rfl) ?_
      refine r_iconst dX3_withoutCredit_20 ?_
      refine r_isub dX3_withoutCredit_21 ?_
      refine ww_topz (show ((m9 + 1 : Nat) : Int) - 1 = (m9 : Int) by omega) ?_
      refine r_anewa dX3_withoutCredit_22 a_X3_27 (by decide) (by decide) (by omega) (by omega) (by decide) (by omega) (fun b9 hb9 => ?_)
      rw [Int.toNat_natCast]
      refine r_as2 dX3_withoutCredit_25 rfl ?_
      refine r_iconst dX3_withoutCredit_26 ?_
      refine r_is3 dX3_withoutCredit_27 rfl ?_
      refine ww_bud (by decide) (by omega) (ww_post (fun v h9 hq => ?_) (fun _ _ hx => hx) (l_without κ h (by omega) c0 (by omega) hO hA (fun c c0 c1 => (hbl c c0 c1).imp fun a z => ⟨_, z.1, z.2⟩) hb9 (m9 + 1) 0 (fun _ => none) (by omega) (by omega) (by omega) (fun j j0 j1 => by omega)))
      obtain ⟨q', b', rfl, hx9n, hq9, F, hb, hF⟩ := hq
      have hx9 := hx9n.1
      refine ⟨q', rfl, hx9n, b', eq, p, m9, ne, nb, ?_, ⟨F, hb, fun c c0 c1 => ?_⟩, (hE.fx hx9.fx).cong (fun c c0 c1 w w0 w1 => by show _ = ggo g c9 (28 + 4 * c + w); rw [ggo_hi (by omega) (by omega)]), (hP.fx hx9.fx).cong (fun b b0 b1 w w0 w1 => by show _ = ggo g c9 (60 + 12 * b + w); rw [ggo_hi (by omega) (by omega)]), ?_, ?_, ?_⟩
      · rw [ggo_lo c0 (by decide) (by decide)]
        exact hq9
      · obtain ⟨a, h3, h4⟩ := hbl (if c < c9 then c else c + 1) (by split <;> omega) (by split <;> omega)
        exact ⟨a, by rw [hF c c0 c1]; exact h3, CrR.cong (hx9 _ _ h4) (fun w w0 w1 => (ggo_c c0 ⟨w0, w1⟩ (by omega)).symm)⟩
      · rw [ggo_n c0]
        omega
      · rw [ggo_lo c0 (by decide) (by decide)]
        exact e2
      · rw [ggo_lo c0 (by decide) (by decide)]
        exact e3
    · exact absurd c_10 (by omega)
