/-! ===== the program ===== -/
def ExA (a : Nat) (h hh : AH) : Prop := ∀ b c, b ≠ a → h b = some c → hh b = some c
theorem ExA.rf {a : Nat} {h : AH} : ExA a h h := fun _ _ _ q => q
theorem ExA.put {a : Nat} {h hh : AH} {c : HC} (x : ExA a h hh) : ExA a h (upA hh a c) := fun b d hb q => by rw [upA_ne hb]; exact x b d hb q
theorem ExA.new {a b : Nat} {h hh : AH} {c : HC} (x : ExA a h hh) (hb : hh b = none) : ExA a h (upA hh b c) := fun e d he q => upo hb (x e d he q)
theorem ExA.fx {a : Nat} {h hh : AH} {y} (x : ExA a h hh) (ha : h a = some (true, y)) : Fx h hh := fun b z hb => x b _ (fun e => by rw [e, ha] at hb; cases hb) hb
theorem ExA.ext {a : Nat} {h hh : AH} {c : HC} (x : ExA a (upA h a c) hh) (ha : h a = none) : Ext h hh := fun b d hb => by
  have hn : b ≠ a := fun e => by rw [e, ha] at hb; cases hb
  exact x b d hn (by rw [upA_ne hn]; exact hb)
/-- a fresh cell of this walk written, or frozen -/
theorem ExA.upd {a b : Nat} {h hh : AH} {c : HC} (x : ExA a h hh) (hb : h b = none) : ExA a h (upA hh b c) := fun e d he q => by
  rw [upA_ne (fun z => by rw [z, hb] at q; cases q)]
  exact x e d he q
theorem shl1 {N : Nat} (h : N ≤ 4) : J 1 <<< (J (N : Int) &&& 31) = J ((2 ^ N : Nat) : Int) := by
  rcases (show N = 0 ∨ N = 1 ∨ N = 2 ∨ N = 3 ∨ N = 4 by omega) with rfl | rfl | rfl | rfl | rfl <;> decide
theorem two4 {N : Nat} (h : N ≤ 4) : 1 ≤ 2 ^ N ∧ 2 ^ N ≤ 16 := by
  rcases (show N = 0 ∨ N = 1 ∨ N = 2 ∨ N = 3 ∨ N = 4 by omega) with rfl | rfl | rfl | rfl | rfl <;> decide
/-- what the set y of met leaves gives -/
def PSet (R : Int → Int → Int) (n N : Nat) (lf fm fr : Int → Int) (y : Int) : Prop := ∀ P : Int → Bool, bs P = y → (∀ i, P i = true → 0 ≤ i ∧ i < N) → ∃ F : Int → Bool, fm y = bs F ∧ (∀ i, F i = true → 0 ≤ i ∧ i < n) ∧ MetEq R n (LmP lf N P) (fun b => F b = true) ∧ fr y = sz (fun b => bP (R b 1 = -1 ∧ F b = true)) n
def PrV (κ : KP) (h : AH) (p n : Nat) (R : Int → Int → Int) (bl lv ms mr N : Nat) (lf fm fr : Int → Int) : Prop := ObF h p 10 [.ref bl, .ref lv, .int (J (bs (bk (fun b => R b 1 = -1) n))), .ref ms, .ref mr] ∧ BlsAt κ h bl n R ∧ ArF h lv .int N (iv lf) ∧ LFs R n N lf ∧ N ≤ 4 ∧ ArF h ms .int (2 ^ N) (iv fm) ∧ ArF h mr .int (2 ^ N) (iv fr) ∧ ∀ y : Int, 0 ≤ y → y < (2 ^ N : Nat) → PSet R n N lf fm fr y
def PrR (κ : KP) (h : AH) (p n : Nat) (R : Int → Int → Int) : Prop := ∃ bl lv ms mr N lf fm fr, PrV κ h p n R bl lv ms mr N lf fm fr
theorem PrV.fx {κ : KP} {h h' : AH} {p n : Nat} {R : Int → Int → Int} {bl lv ms mr N : Nat} {lf fm fr : Int → Int} (x : Fx h h') (H : PrV κ h p n R bl lv ms mr N lf fm fr) : PrV κ h' p n R bl lv ms mr N lf fm fr := by
  obtain ⟨h1, h2, h3, h4, h5, h6, h7, h8⟩ := H
  exact ⟨x _ _ h1, h2.fx x, x _ _ h3, h4, h5, x _ _ h6, x _ _ h7, h8⟩
theorem PrR.fx {κ : KP} {h h' : AH} {p n : Nat} {R : Int → Int → Int} (x : Fx h h') (H : PrR κ h p n R) : PrR κ h' p n R := by
  obtain ⟨bl, lv, ms, mr, N, lf, fm, fr, H⟩ := H
  exact ⟨bl, lv, ms, mr, N, lf, fm, fr, H.fx x⟩
theorem PSet.put {R : Int → Int → Int} {n N : Nat} {lf fm fr : Int → Int} {y v w z : Int} (h : PSet R n N lf fm fr y) (hz : y ≠ z) : PSet R n N lf (upz fm z v) (upz fr z w) y := by
  intro P e hP
  obtain ⟨F, h1, h2, h3, h4⟩ := h P e hP
  exact ⟨F, by rw [upz_ne hz]; exact h1, h2, h3, by rw [upz_ne hz]; exact h4⟩
theorem roots_cn {R : Int → Int → Int} {n : Nat} (hn : n ≤ 8) {F : Int → Bool} (hF : ∀ i, F i = true → 0 ≤ i ∧ i < n) : cn (fun i => F i && bk (fun b => R b 1 = -1) n i) = sz (fun b => bP (R b 1 = -1 ∧ F b = true)) n := by
  rw [cn_n (n := n) (by omega) (by omega) (fun i hi => by
    rw [Bool.and_eq_true] at hi
    exact (hF i hi.1).2)]
  refine sz_cong fun i i0 i1 => ?_
  by_cases q : R i 1 = -1 ∧ F i = true
  · rw [bP_t q, q.2, (bk_i (S := fun b => R b 1 = -1)).mpr ⟨i0, i1, q.1⟩]
    rfl
  · rw [bP_f q]
    cases e : F i
    · rfl
    · have : bk (fun b => R b 1 = -1) n i = false := tb_f.mpr (fun z => q ⟨z.2.2, e⟩)
      rw [this]
      rfl
set_option maxRecDepth 100000 in
set_option maxHeartbeats 4000000 in
theorem l_prog (κ : KP) {h : AH} {a bl lv ms mr n N : Nat} {R : Int → Int → Int} {lf : Int → Int} {y9} (ha : h a = some (true, y9)) (hn : n ≤ 8) (hR : ∀ b : Int, 0 ≤ b → b < n → RwB (R b) b) (hN : N ≤ 4) (hL : LFs R n N lf) (hm0 : h ms = none) (hr0 : h mr = none) (hne : ms ≠ mr) : ∀ (f : Nat) (y : Int) (fm fr : Int → Int) (hh : AH), ((2 ^ N : Nat) : Int) - y < (f : Int) → 0 ≤ y → y ≤ ((2 ^ N : Nat) : Int) → (hh a = some (true, .inr (10, [.ref bl, .ref lv, .int (J (bs (bk (fun b => R b 1 = -1) n))), .ref ms, .ref mr]))) → ArF hh lv .int N (iv lf) → (hh ms = some (true, .inl (.int, 2 ^ N, iv fm))) → (hh mr = some (true, .inl (.int, 2 ^ N, iv fr))) → ExA a h hh → BlsAt κ hh bl n R → (∀ x : Int, 0 ≤ x → x < y → PSet R n N lf fm fr x) → WW κ mX6_init 6 0 0 (fun v h' => v = none ∧ ExA a h h' ∧ PrR κ h' a n R) NoX 55 [some (.ref a), some (.ref bl), some (.int (J y))] [] hh := by
  have ham : ms ≠ a := fun e => by rw [e, ha] at hm0; cases hm0
  have har : mr ≠ a := fun e => by rw [e, ha] at hr0; cases hr0
  have h2 := two4 hN
  intro f
  induction f with
  | zero =>
    intro y fm fr hh hf y0 y1
    exact absurd hf (by omega)
  | succ f ih =>
    intro y fm fr hh hf y0 y1 ga gl gm gr gx gb gs
    refine r_il2 dX6_init_55 ?_
    refine r_al0 dX6_init_56 ?_
    refine r_getfield dX6_init_57 f_X6_37 (by assumption) rfl ?_
    refine r_alenF dX6_init_60 (by assumption) (by decide) (rfl) ?_
    refine r_icmp_ge (tgt := 105) dX6_init_61 (by decide) (by (first | omega)) (by (first | omega)) (fun c_61 => ?_) (fun c_61 => ?_)
    · refine ww_frz1 ga (ww_frz1 ((upA_ne ham).trans gm) (ww_frz1 ((upA_ne (Ne.symm hne)).trans ((upA_ne har).trans gr)) ?_))
      refine r_ret dX6_init_105 rfl ⟨rfl, ((gx.put).upd hm0).upd hr0, bl, lv, ms, mr, N, lf, fm, fr, ?_, ?_, ?_, hL, hN, ?_, ?_, fun x x0 x1 => gs x x0 (by omega)⟩
      · exact (upA_ne (Ne.symm har)).trans ((upA_ne (Ne.symm ham)).trans upA_same)
      · exact gb.fx (((Fx.put ga).trans (Fx.put ((upA_ne ham).trans gm))).trans (Fx.put ((upA_ne (Ne.symm hne)).trans ((upA_ne har).trans gr))))
      · exact (((Fx.put ga).trans (Fx.put ((upA_ne ham).trans gm))).trans (Fx.put ((upA_ne (Ne.symm hne)).trans ((upA_ne har).trans gr)))) _ _ gl
      · exact (upA_ne hne).trans upA_same
      · exact upA_same
    · obtain ⟨P, rfl, hP8⟩ := bs_of y0 (show y < 256 by omega)
      have hPN := bs_hi hN c_61 hP8
      refine r_al0 dX6_init_64 ?_
      refine r_getfield dX6_init_65 f_X6_37 (by assumption) rfl ?_
      refine r_il2 dX6_init_68 ?_
      refine r_al1 dX6_init_69 ?_
      refine r_al0 dX6_init_70 ?_
      refine r_getfield dX6_init_71 f_X6_19 (by assumption) rfl ?_
      refine r_il2 dX6_init_74 ?_
      refine r_callS (As := [.ref bl, .ref lv, .int (J (bs P))]) dX6_init_75 s_X6_43 (c_metBlocks κ hh hn gb hR (by omega) gl hL) (by decide) rfl rfl (cat_le rfl) (Nat.zero_le _) (Nat.zero_le _) (fun v h9 hq => ?_) (fun _ _ hx => hx.elim)
      obtain ⟨F, rfl, hF1, hF2, rfl⟩ := hq
      refine r_isJ dX6_init_78 gm y0 (by omega) (by omega) ?_
      have ga1 : (upA h9 ms (true, .inl (.int, 2 ^ N, iv (upz fm (bs P) (bs F))))) a = _ := (upA_ne (Ne.symm ham)).trans ga
      have gl1 : (upA h9 ms (true, .inl (.int, 2 ^ N, iv (upz fm (bs P) (bs F))))) lv = _ := (Fx.put gm) _ _ gl
      have gm1 : (upA h9 ms (true, .inl (.int, 2 ^ N, iv (upz fm (bs P) (bs F))))) ms = _ := upA_same
      have gr1 : (upA h9 ms (true, .inl (.int, 2 ^ N, iv (upz fm (bs P) (bs F))))) mr = _ := (upA_ne (Ne.symm hne)).trans gr
      have gx1 : ExA a h (upA h9 ms (true, .inl (.int, 2 ^ N, iv (upz fm (bs P) (bs F))))) := gx.upd hm0
      have gb1 : BlsAt κ (upA h9 ms (true, .inl (.int, 2 ^ N, iv (upz fm (bs P) (bs F))))) bl n R := gb.fx (Fx.put gm)
      generalize upA h9 ms (true, .inl (.int, 2 ^ N, iv (upz fm (bs P) (bs F)))) = h10 at ga1 gl1 gm1 gr1 gx1 gb1 ⊢
      refine r_al0 dX6_init_79 ?_
      refine r_getfield dX6_init_80 f_X6_40 (by assumption) rfl ?_
      refine r_il2 dX6_init_83 ?_
      refine r_al0 dX6_init_84 ?_
      refine r_getfield dX6_init_85 f_X6_37 (by assumption) rfl ?_
      refine r_il2 dX6_init_88 ?_
      refine r_iaJ dX6_init_89 (by assumption) (by omega) (by omega) (by omega) ?_
      refine r_al0 dX6_init_90 ?_
      refine r_getfield dX6_init_91 f_X6_27 (by assumption) rfl ?_
      refine r_iand dX6_init_94 ?_
      rw [upz_same, bs_and]
      refine r_callSP1 dX6_init_95 s_X6_47 (c_bitCount κ _) (by decide) rfl ?_
      rw [roots_cn hn hF1]
      refine r_isJ dX6_init_98 gr1 y0 (by omega) (by omega) ?_
      have ga2 : (upA h10 mr (true, .inl (.int, 2 ^ N, iv (upz fr (bs P) (sz (fun b => bP (R b 1 = -1 ∧ F b = true)) n))))) a = _ := (upA_ne (Ne.symm har)).trans ga1
      have gl2 : (upA h10 mr (true, .inl (.int, 2 ^ N, iv (upz fr (bs P) (sz (fun b => bP (R b 1 = -1 ∧ F b = true)) n))))) lv = _ := (Fx.put gr1) _ _ gl1
      have gm2 : (upA h10 mr (true, .inl (.int, 2 ^ N, iv (upz fr (bs P) (sz (fun b => bP (R b 1 = -1 ∧ F b = true)) n))))) ms = _ := (upA_ne hne).trans gm1
      have gr2 : (upA h10 mr (true, .inl (.int, 2 ^ N, iv (upz fr (bs P) (sz (fun b => bP (R b 1 = -1 ∧ F b = true)) n))))) mr = _ := upA_same
      have gx2 : ExA a h (upA h10 mr (true, .inl (.int, 2 ^ N, iv (upz fr (bs P) (sz (fun b => bP (R b 1 = -1 ∧ F b = true)) n))))) := gx1.upd hr0
      have gb2 : BlsAt κ (upA h10 mr (true, .inl (.int, 2 ^ N, iv (upz fr (bs P) (sz (fun b => bP (R b 1 = -1 ∧ F b = true)) n))))) bl n R := gb1.fx (Fx.put gr1)
      generalize upA h10 mr (true, .inl (.int, 2 ^ N, iv (upz fr (bs P) (sz (fun b => bP (R b 1 = -1 ∧ F b = true)) n)))) = h11 at ga2 gl2 gm2 gr2 gx2 gb2 ⊢
      refine r_inc2 dX6_init_99 rfl ?_
      refine r_goto (tgt := 55) dX6_init_102 (by decide) ?_
      refine ih (bs P + 1) _ _ h11 (by omega) (by omega) (by omega) ga2 gl2 gm2 gr2 gx2 gb2 (fun x x0 x1 => ?_)
      by_cases e : x = bs P
      · subst e
        intro P' e' hP'
        have := bs_inj e' (fun i hi => ⟨(hP' i hi).1, by have := (hP' i hi).2; omega⟩) hP8
        subst this
        exact ⟨F, upz_same, hF1, hF2, upz_same⟩
      · exact (gs x x0 (by omega)).put e
set_option maxRecDepth 100000 in
set_option maxHeartbeats 4000000 in
theorem c_prInit (κ : KP) (h : AH) {bl n : Nat} {R : Int → Int → Int} (hn : n ≤ 8) (hB : BlsAt κ h bl n R) (hR : ∀ b : Int, 0 ≤ b → b < n → RwB (R b) b) {a : Nat} {w0 w1 w2 w3 w4 : Value} (ha : h a = some (true, .inr (10, [w0, w1, w2, w3, w4]))) (h4 : sz (fun b => bP (R b 5 ≠ 0)) n ≤ 4) : MM κ mX6_init 6 3 90 [.ref a, .ref bl] h (fun v h' => v = none ∧ ExA a h h' ∧ PrR κ h' a n R) NoX := by
  refine mm_of (L := [some _, some _, none]) (by decide +kernel) rfl rfl (Nat.le_of_ble_eq_true rfl) rfl ?_
  refine r_al0 dX6_init_0 ?_
  refine r_objInit dX6_init_1 o_X6_3 oI oC (by decide) (cat_le rfl) ?_
  refine r_al0 dX6_init_4 ?_
  refine r_al1 dX6_init_5 ?_
  refine r_putfield dX6_init_6 f_X6_9 p_X6_9 ff_10_0 ha rfl rfl (Nat.le_of_ble_eq_true rfl) (show _ = [.ref bl, w1, w2, w3, w4] from rfl) ?_
  have a1 : (upA h a (true, .inr (10, [.ref bl, w1, w2, w3, w4]))) a = _ := upA_same
  have x1 : ExA a h (upA h a (true, .inr (10, [.ref bl, w1, w2, w3, w4]))) := ExA.rf.put
  generalize upA h a (true, .inr (10, [.ref bl, w1, w2, w3, w4])) = h1 at a1 x1 ⊢
  have b1 := hB.fx (x1.fx ha)
  refine r_al0 dX6_init_9 ?_
  refine r_al1 dX6_init_10 ?_
  refine r_callS (As := [.ref bl]) dX6_init_11 s_X6_15 (c_leavesOf κ h1 (by omega) b1 hR) (by decide) rfl rfl (cat_le rfl) (by decide) (by decide) (fun v h9 hq => ?_) (fun _ _ hx => hx.elim)
  obtain ⟨lv, N, lf, rfl, l0, rfl, hL⟩ := hq
  have hN : N ≤ 4 := by have := hL.2.2.2; omega
  have h2 := two4 hN
  have a2 : (upA h1 lv (false, .inl (.int, N, iv lf))) a = _ := upo l0 a1
  have x2 : ExA a h (upA h1 lv (false, .inl (.int, N, iv lf))) := x1.new l0
  have l2 : (upA h1 lv (false, .inl (.int, N, iv lf))) lv = _ := upA_same
  generalize upA h1 lv (false, .inl (.int, N, iv lf)) = h2a at a2 x2 l2 ⊢
  refine r_putfield dX6_init_14 f_X6_19 p_X6_19 ff_10_1 a2 rfl rfl (Nat.le_of_ble_eq_true rfl) (show _ = [.ref bl, .ref lv, w2, w3, w4] from rfl) ?_
  have a3 : (upA h2a a (true, .inr (10, [.ref bl, .ref lv, w2, w3, w4]))) a = _ := upA_same
  have x3 : ExA a h (upA h2a a (true, .inr (10, [.ref bl, .ref lv, w2, w3, w4]))) := x2.put
  have l3 : (upA h2a a (true, .inr (10, [.ref bl, .ref lv, w2, w3, w4]))) lv = _ := (Fx.put a2) _ _ l2
  generalize upA h2a a (true, .inr (10, [.ref bl, .ref lv, w2, w3, w4])) = h3 at a3 x3 l3 ⊢
  have b3 := hB.fx (x3.fx ha)
  refine r_al0 dX6_init_17 ?_
  refine r_al1 dX6_init_18 ?_
  refine r_callSP1 dX6_init_19 s_X6_23 (c_rootSetOf κ h3 hn b3 hR) (by decide) rfl ?_
  refine r_putfield dX6_init_22 f_X6_27 p_X6_27 ff_10_2 a3 rfl rfl (Nat.le_of_ble_eq_true rfl) (show _ = [.ref bl, .ref lv, .int (J (bs (bk (fun b => R b 1 = -1) n))), w3, w4] from rfl) ?_
  have a4 : (upA h3 a (true, .inr (10, [.ref bl, .ref lv, .int (J (bs (bk (fun b => R b 1 = -1) n))), w3, w4]))) a = _ := upA_same
  have x4 : ExA a h (upA h3 a (true, .inr (10, [.ref bl, .ref lv, .int (J (bs (bk (fun b => R b 1 = -1) n))), w3, w4]))) := x3.put
  have l4 : (upA h3 a (true, .inr (10, [.ref bl, .ref lv, .int (J (bs (bk (fun b => R b 1 = -1) n))), w3, w4]))) lv = _ := (Fx.put a3) _ _ l3
  generalize upA h3 a (true, .inr (10, [.ref bl, .ref lv, .int (J (bs (bk (fun b => R b 1 = -1) n))), w3, w4])) = h4a at a4 x4 l4 ⊢
  refine r_al0 dX6_init_25 ?_
  refine r_iconst dX6_init_26 ?_
  refine r_al0 dX6_init_27 ?_
  refine r_getfield dX6_init_28 f_X6_19 (by first | exact a4 | exact l4) rfl ?_
  refine r_alenF dX6_init_31 (by first | exact a4 | exact l4) (by decide) (rfl) ?_
  refine r_iconst dX6_init_32 ?_
  refine r_min dX6_init_33 s_X6_31 (by omega) (by omega) (by decide) rfl ?_
  rw [show min (N : Int) 4 = (N : Int) by omega]
  refine r_ishl dX6_init_36 ?_
  rw [shl1 hN]
  refine r_newa dX6_init_37 (by decide) ac_I (by omega) (by show _ * 4 ≤ _; omega) (by omega) (by decide) (by omega) (fun ms m0 => ?_)
  rw [Int.toNat_natCast]
  have a5 : (upA h4a ms (true, .inl (newarray.typeOf .int, 2 ^ N, fun _ => defaultValue (newarray.typeOf .int)))) a = _ := upo m0 a4
  have x5 : ExA a h (upA h4a ms (true, .inl (newarray.typeOf .int, 2 ^ N, fun _ => defaultValue (newarray.typeOf .int)))) := x4.new m0
  have l5 : (upA h4a ms (true, .inl (newarray.typeOf .int, 2 ^ N, fun _ => defaultValue (newarray.typeOf .int)))) lv = _ := upo m0 l4
  have m5 : (upA h4a ms (true, .inl (newarray.typeOf .int, 2 ^ N, fun _ => defaultValue (newarray.typeOf .int)))) ms = some (true, .inl (.int, 2 ^ N, iv (fun _ => 0))) := upA_same
  generalize upA h4a ms (true, .inl (newarray.typeOf .int, 2 ^ N, fun _ => defaultValue (newarray.typeOf .int))) = h5 at a5 x5 l5 m5 ⊢
  have m00 : h ms = none := by
    cases e : h ms with
    | none => rfl
    | some c =>
      by_cases q : ms = a
      · rw [q, a4] at m0; cases m0
      · rw [x4 ms c q e] at m0; cases m0
  refine r_putfield dX6_init_39 f_X6_37 p_X6_37 ff_10_3 a5 rfl rfl (Nat.le_of_ble_eq_true rfl) (show _ = [.ref bl, .ref lv, .int (J (bs (bk (fun b => R b 1 = -1) n))), .ref ms, w4] from rfl) ?_
  have nma : ms ≠ a := fun e => by rw [e, a4] at m0; cases m0
  have a6 : (upA h5 a (true, .inr (10, [.ref bl, .ref lv, .int (J (bs (bk (fun b => R b 1 = -1) n))), .ref ms, w4]))) a = _ := upA_same
  have x6 : ExA a h (upA h5 a (true, .inr (10, [.ref bl, .ref lv, .int (J (bs (bk (fun b => R b 1 = -1) n))), .ref ms, w4]))) := x5.put
  have l6 : (upA h5 a (true, .inr (10, [.ref bl, .ref lv, .int (J (bs (bk (fun b => R b 1 = -1) n))), .ref ms, w4]))) lv = _ := (Fx.put a5) _ _ l5
  have m6 : (upA h5 a (true, .inr (10, [.ref bl, .ref lv, .int (J (bs (bk (fun b => R b 1 = -1) n))), .ref ms, w4]))) ms = _ := (upA_ne nma).trans m5
  generalize upA h5 a (true, .inr (10, [.ref bl, .ref lv, .int (J (bs (bk (fun b => R b 1 = -1) n))), .ref ms, w4])) = h6 at a6 x6 l6 m6 ⊢
  refine r_al0 dX6_init_42 ?_
  refine r_al0 dX6_init_43 ?_
  refine r_getfield dX6_init_44 f_X6_37 (by first | exact a6 | exact m6) rfl ?_
  refine r_alenF dX6_init_47 (by first | exact a6 | exact m6) (by decide) (rfl) ?_
  refine r_newa dX6_init_48 (by decide) ac_I (by omega) (by show _ * 4 ≤ _; omega) (by omega) (by decide) (by omega) (fun mr r0 => ?_)
  rw [Int.toNat_natCast]
  have a7 : (upA h6 mr (true, .inl (newarray.typeOf .int, 2 ^ N, fun _ => defaultValue (newarray.typeOf .int)))) a = _ := upo r0 a6
  have x7 : ExA a h (upA h6 mr (true, .inl (newarray.typeOf .int, 2 ^ N, fun _ => defaultValue (newarray.typeOf .int)))) := x6.new r0
  have l7 : (upA h6 mr (true, .inl (newarray.typeOf .int, 2 ^ N, fun _ => defaultValue (newarray.typeOf .int)))) lv = _ := upo r0 l6
  have m7 : (upA h6 mr (true, .inl (newarray.typeOf .int, 2 ^ N, fun _ => defaultValue (newarray.typeOf .int)))) ms = _ := upo r0 m6
  have r7 : (upA h6 mr (true, .inl (newarray.typeOf .int, 2 ^ N, fun _ => defaultValue (newarray.typeOf .int)))) mr = some (true, .inl (.int, 2 ^ N, iv (fun _ => 0))) := upA_same
  generalize upA h6 mr (true, .inl (newarray.typeOf .int, 2 ^ N, fun _ => defaultValue (newarray.typeOf .int))) = h7 at a7 x7 l7 m7 r7 ⊢
  have r00 : h mr = none := by
    cases e : h mr with
    | none => rfl
    | some c =>
      by_cases q : mr = a
      · rw [q, a6] at r0; cases r0
      · rw [x6 mr c q e] at r0; cases r0
  have nra : mr ≠ a := fun e => by rw [e, a6] at r0; cases r0
  have nmr : ms ≠ mr := fun e => by rw [← e, m6] at r0; cases r0
  refine r_putfield dX6_init_50 f_X6_40 p_X6_40 ff_10_4 a7 rfl rfl (Nat.le_of_ble_eq_true rfl) (show _ = [.ref bl, .ref lv, .int (J (bs (bk (fun b => R b 1 = -1) n))), .ref ms, .ref mr] from rfl) ?_
  have a8 : (upA h7 a (true, .inr (10, [.ref bl, .ref lv, .int (J (bs (bk (fun b => R b 1 = -1) n))), .ref ms, .ref mr]))) a = _ := upA_same
  have x8 : ExA a h (upA h7 a (true, .inr (10, [.ref bl, .ref lv, .int (J (bs (bk (fun b => R b 1 = -1) n))), .ref ms, .ref mr]))) := x7.put
  have l8 : (upA h7 a (true, .inr (10, [.ref bl, .ref lv, .int (J (bs (bk (fun b => R b 1 = -1) n))), .ref ms, .ref mr]))) lv = _ := (Fx.put a7) _ _ l7
  have m8 : (upA h7 a (true, .inr (10, [.ref bl, .ref lv, .int (J (bs (bk (fun b => R b 1 = -1) n))), .ref ms, .ref mr]))) ms = _ := (upA_ne nma).trans m7
  have r8 : (upA h7 a (true, .inr (10, [.ref bl, .ref lv, .int (J (bs (bk (fun b => R b 1 = -1) n))), .ref ms, .ref mr]))) mr = _ := (upA_ne nra).trans r7
  generalize upA h7 a (true, .inr (10, [.ref bl, .ref lv, .int (J (bs (bk (fun b => R b 1 = -1) n))), .ref ms, .ref mr])) = h8 at a8 x8 l8 m8 r8 ⊢
  refine r_iconst dX6_init_53 ?_
  refine r_is2 dX6_init_54 rfl ?_
  exact ww_bud (Nat.zero_le _) (Nat.zero_le _) (l_prog κ ha hn hR hN hL m00 r00 nmr (2 ^ N + 1) 0 _ _ h8 (by omega) (by omega) (by omega) a8 l8 m8 r8 x8 (hB.fx (x8.fx ha)) (fun x x0 x1 => by omega))
