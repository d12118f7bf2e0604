/-! ===== the search for the best use ===== -/
theorem BR.better2 {g lf : Int → Int} {N : Nat} {w ls gv : Int} {ch tr ch' : Int → Int} (hU : QV g (ublk lf tr)) (htr : ∀ c, 0 ≤ c → c < g 1 → tr c = -1 ∨ (0 ≤ tr c ∧ tr c < N)) (h : BR g lf N (fun v => LX (g 1) v (ublk lf tr)) w ls gv ch) (hk : w < qkey g (ublk lf tr)) (e : ∀ c, 0 ≤ c → c < g 1 → ch' c = tr c) : BR g lf N (LXE (g 1) (ublk lf tr)) (qkey g (ublk lf tr)) (bs (uP g lf N (ublk lf tr))) (qgiv g (ublk lf tr)) ch' := by
  have eu : EQU (g 1) (ublk lf tr) (ublk lf ch') := fun c c0 c1 => by
    unfold ublk
    rw [e c c0 c1]
  rcases BR.better hU htr h hk with ⟨h1, h2⟩ | ⟨h1, h2, h3, h4, h5⟩
  · exact Or.inl ⟨h1, h2⟩
  · exact Or.inr ⟨h1.eq eu (Or.inr eu.symm), qkey_cong eu, by rw [uP_cong eu], qgiv_cong eu, fun c c0 c1 => by rw [e c c0 c1]; exact h5 c c0 c1⟩
theorem ublk_QV {g : Int → Int} {n N : Nat} {lf t : Int → Int} (hL : LFs (rwg g) n N lf) (hn : (n : Int) = g 3) (h : ∀ c, 0 ≤ c → c < g 1 → t c = -1 ∨ ((0 ≤ t c ∧ t c < N) ∧ QTk g (lf (t c)) c)) : QV g (ublk lf t) := fun c c0 c1 => by
  unfold ublk
  rcases h c c0 c1 with e | ⟨e, e2⟩
  · exact Or.inl (if_pos (by omega))
  · rw [if_neg (by omega)]
    have := (hL.1 (t c) e.1 e.2).1
    exact Or.inr ⟨this.1, by omega, e2⟩
/-- points of the first c credits for the leaf b -/
noncomputable def gp (g U : Int → Int) (c b : Int) : Int := sz (fun j => if U j = b then g (4 + 4 * j + 1) else 0) c
theorem gp_1 {g U : Int → Int} {c b : Int} (c0 : 0 ≤ c) : gp g U (c + 1) b = gp g U c b + (if U c = b then g (4 + 4 * c + 1) else 0) := sz_1 c0
theorem gp_cong {g U V : Int → Int} {c b : Int} (h : EQU c U V) : gp g U c b = gp g V c b := sz_cong fun j j0 j1 => by rw [h j j0 j1]
set_option maxRecDepth 100000 in
set_option maxHeartbeats 4000000 in
theorem l_weighC (κ : KP) {B : Nat → Nat} {S0 S : CST} (h : AH) (hB : BA B) {u q cr eq p nc ne nb bl lv ms mr N : Nat} {g lf fm fr : Int → Int} (hu : u = 3 ∨ u = 4) (hW : WF g) (hD : DkV κ (cset B S0 h) q g cr eq p nc ne nb) (hV : PrV κ (cset B S0 h) p nb (rwg g) bl lv ms mr N lf fm fr) (s0 : S u 0 = (q : Int)) (s1 : S u 1 = (nc : Int)) (s2 : S u 2 = (N : Int)) (hv : ∀ c, 0 ≤ c → c < g 1 → S (4 * u + 1) c = -1 ∨ ((0 ≤ S (4 * u + 1) c ∧ S (4 * u + 1) c < N) ∧ QTk g (lf (S (4 * u + 1) c)) c)) (hg : ∀ l : Int, 0 ≤ l → l < N → S (4 * u + 2) l = qgets g (ublk lf (S (4 * u + 1))) (lf l)) (hb : BR g lf N (fun v => LX (g 1) v (ublk lf (S (4 * u + 1)))) (S u 7) (S u 8) (S u 9) (S (4 * u + 3))) (hQ : QV g (ublk lf (S (4 * u + 1)))) (hk : S u 7 < qkey g (ublk lf (S (4 * u + 1)))) {o1 o2 o3 : Option Value} {z4 : Int} : ∀ (f : Nat) (c : Int) (S2 : CST), (nc : Int) - c < (f : Int) → 0 ≤ c → c ≤ nc → SK [u, 4 * u + 3] S S2 → (S2 u 0 = S u 0 ∧ S2 u 1 = S u 1 ∧ S2 u 2 = S u 2 ∧ S2 u 7 = qkey g (ublk lf (S (4 * u + 1))) ∧ S2 u 8 = bs (uP g lf N (ublk lf (S (4 * u + 1)))) ∧ S2 u 9 = qgiv g (ublk lf (S (4 * u + 1)))) → (∀ j, 0 ≤ j → j < c → S2 (4 * u + 3) j = S (4 * u + 1) j) → WW κ mX0_weigh 8 0 0 (fun v h' => v = none ∧ ∃ S' : CST, h' = cset B S' h ∧ SK [u, 4 * u + 3] S S' ∧ (S' u 0 = S u 0 ∧ S' u 1 = S u 1 ∧ S' u 2 = S u 2) ∧ BR g lf N (LXE (g 1) (ublk lf (S (4 * u + 1)))) (S' u 7) (S' u 8) (S' u 9) (S' (4 * u + 3))) NoX 127 [some (.ref (B u)), o1, o2, o3, some (.int (J z4)), some (.int (J c))] [] (cset B S2 h) := by
  have hDf := hD.fx (cfxF (S' := S) hB)
  have hVf := hV.fx (cfxF (S' := S) hB)
  obtain ⟨hO, hC, hE, hP, e1, e2, e3⟩ := id hD
  obtain ⟨hOp, hBl, hlv, hL, hN, hms, hmr, hS⟩ := id hV
  obtain ⟨fc, hAc, hbc⟩ := id hC
  obtain ⟨fb, hAb, hbb⟩ := id hBl
  have n0 := hW.n
  have hk3 : u ≠ 4 * u + 3 := by omega
  intro f
  induction f with
  | zero =>
    intro c S2 hf c0 c1
    exact absurd hf (by omega)
  | succ f ih =>
    intro c S2 hf c0 c1 x1 x2 x3
    refine r_il5 dX0_weigh_127 ?_
    refine r_al0 dX0_weigh_129 ?_
    refine b_get dX0_weigh_130 f_X0_9 hB (ub hu) (bc_u hu) rfl ?_
    refine r_icmp_ge (tgt := 156) dX0_weigh_133 (by decide) (by (omega)) (by (omega)) (fun c_133 => ?_) (fun c_133 => ?_)
    · refine r_ret dX0_weigh_156 rfl ⟨rfl, S2, rfl, x1, ⟨x2.1, x2.2.1, x2.2.2.1⟩, ?_⟩
      rw [x2.2.2.2.1, x2.2.2.2.2.1, x2.2.2.2.2.2]
      exact BR.better2 hQ (fun c c0 c1 => (hv c c0 c1).imp id (fun q => q.1)) hb hk (fun c c0 c1 => x3 c c0 (by omega))
    · refine r_al0 dX0_weigh_136 ?_
      refine b_get dX0_weigh_137 f_X0_28 hB (ub hu) (bc_u hu) rfl ?_
      refine r_il5 dX0_weigh_140 ?_
      refine r_al0 dX0_weigh_142 ?_
      refine b_get dX0_weigh_143 f_X0_22 hB (ub hu) (bc_u hu) rfl ?_
      refine r_il5 dX0_weigh_146 ?_
      refine b_ald dX0_weigh_148 hB (ub1 hu) (bc_1 hu) (by omega) (by omega) (by omega) ?_
      refine b_ast dX0_weigh_149 hB (ub3 hu) (fun _ => bc_3 hu) (by omega) (by omega) (by omega) ?_
      refine r_inc5 dX0_weigh_150 rfl ?_
      refine r_goto (tgt := 127) dX0_weigh_153 (by decide) ?_
      refine ih (c + 1) _ (by omega) (by omega) (by omega) (x1.up (by simp)) (by rw [updm_k hk3]; exact x2) (fun j j0 j1 => ?_)
      by_cases e : j = c
      · rw [e, updm_at, x1 (4 * u + 1) (by simp; omega)]
      · rw [updm_ne (by omega)]; exact x3 j j0 (by omega)
set_option maxRecDepth 100000 in
set_option maxHeartbeats 4000000 in
theorem l_weighA (κ : KP) {B : Nat → Nat} {S0 S : CST} (h : AH) (hB : BA B) {u q cr eq p nc ne nb bl lv ms mr N : Nat} {g lf fm fr : Int → Int} (hu : u = 3 ∨ u = 4) (hW : WF g) (hD : DkV κ (cset B S0 h) q g cr eq p nc ne nb) (hV : PrV κ (cset B S0 h) p nb (rwg g) bl lv ms mr N lf fm fr) (s0 : S u 0 = (q : Int)) (s1 : S u 1 = (nc : Int)) (s2 : S u 2 = (N : Int)) (hv : ∀ c, 0 ≤ c → c < g 1 → S (4 * u + 1) c = -1 ∨ ((0 ≤ S (4 * u + 1) c ∧ S (4 * u + 1) c < N) ∧ QTk g (lf (S (4 * u + 1) c)) c)) (hg : ∀ l : Int, 0 ≤ l → l < N → S (4 * u + 2) l = qgets g (ublk lf (S (4 * u + 1))) (lf l)) (hb : BR g lf N (fun v => LX (g 1) v (ublk lf (S (4 * u + 1)))) (S u 7) (S u 8) (S u 9) (S (4 * u + 3))) : ∀ (f : Nat) (l : Int), (N : Int) - l < (f : Int) → 0 ≤ l → l ≤ N → WW κ mX0_weigh 8 0 0 (fun v h' => v = none ∧ ∃ S' : CST, h' = cset B S' h ∧ SK [u, 4 * u + 3] S S' ∧ (S' u 0 = S u 0 ∧ S' u 1 = S u 1 ∧ S' u 2 = S u 2) ∧ BR g lf N (LXE (g 1) (ublk lf (S (4 * u + 1)))) (S' u 7) (S' u 8) (S' u 9) (S' (4 * u + 3))) NoX 6 [some (.ref (B u)), some (.int (J (bs (bk (fun l => g (60 + 12 * lf l + 2) ≤ qgets g (ublk lf (S (4 * u + 1))) (lf l)) l)))), some (.int (J (sz (fun l => qgets g (ublk lf (S (4 * u + 1))) (lf l)) l))), some (.int (J l)), none, none] [] (cset B S h) := by
  have hDf := hD.fx (cfxF (S' := S) hB)
  have hVf := hV.fx (cfxF (S' := S) hB)
  obtain ⟨hO, hC, hE, hP, e1, e2, e3⟩ := id hD
  obtain ⟨hOp, hBl, hlv, hL, hN, hms, hmr, hS⟩ := id hV
  obtain ⟨fc, hAc, hbc⟩ := id hC
  obtain ⟨fb, hAb, hbb⟩ := id hBl
  have n0 := hW.n
  intro f
  induction f with
  | zero =>
    intro l hf l0 l1
    exact absurd hf (by omega)
  | succ f ih =>
    intro l hf l0 l1
    refine r_il3 dX0_weigh_6 ?_
    refine r_al0 dX0_weigh_7 ?_
    refine b_get dX0_weigh_8 f_X0_15 hB (ub hu) (bc_u hu) rfl ?_
    refine r_icmp_ge (tgt := 70) dX0_weigh_11 (by decide) (by (first | omega | (have h1 := BR.bd hW hb; omega) | exact (by have := BR.bd hW hb; have := qk_bd (u := (ublk lf (S (4 * u + 1)))) hW; unfold qkey; omega))) (by (first | omega | (have h1 := BR.bd hW hb; omega) | exact (by have := BR.bd hW hb; have := qk_bd (u := (ublk lf (S (4 * u + 1)))) hW; unfold qkey; omega))) (fun c_11 => ?_) (fun c_11 => ?_)
    · have hQ : QV g (ublk lf (S (4 * u + 1))) := ublk_QV hL e3 hv
      have eP : bk (fun l => g (60 + 12 * lf l + 2) ≤ qgets g (ublk lf (S (4 * u + 1))) (lf l)) (N : Int) = uP g lf N (ublk lf (S (4 * u + 1))) := rfl
      rw [show l = (N : Int) by omega, eP, use_giv hW e3 hL hQ]
      have y0 := (bs_bd (f := uP g lf N (ublk lf (S (4 * u + 1))))).1
      have y1 : bs (uP g lf N (ublk lf (S (4 * u + 1)))) < (2 ^ N : Nat) := bs_lt (f := uP g lf N (ublk lf (S (4 * u + 1)))) hN (fun i hi => (bk_i.mp hi).2.1)
      obtain ⟨F, hF1, hF2, hF3, hF4⟩ := hS _ y0 y1 (uP g lf N (ublk lf (S (4 * u + 1)))) rfl (fun i hi => ⟨(bk_i.mp hi).1, (bk_i.mp hi).2.1⟩)
      refine r_al0 dX0_weigh_70 ?_
      refine u_desk dX0_weigh_71 f_X0_40 hB hu (by assumption) ?_
      refine r_getfield dX0_weigh_74 f_X0_56 (by first | exact cfx hB hO | exact cfx hB hOp | exact cfx hB hlv | exact cfx hB hAc | exact cfx hB hAb | (refine cfx hB ?_; assumption) | assumption) rfl ?_
      refine r_il1 dX0_weigh_77 ?_
      refine r_callVP1 dX0_weigh_78 v_X0_96 (cfx hB hOp) (c_metRootsFor κ _ (by omega) hVf (hW.rw e3) y0 y1) (by decide) rfl ?_
      rw [hF4, use_roots hW e3 hL hF3]
      refine r_is3 dX0_weigh_81 rfl ?_
      refine r_il3 dX0_weigh_82 ?_
      refine r_bipush dX0_weigh_83 (by decide) ?_
      refine r_imul dX0_weigh_85 ?_
      refine r_il1 dX0_weigh_86 ?_
      refine r_callSP1 dX0_weigh_87 s_X0_99 (c_bitCount κ _) (by decide) rfl ?_
      rw [use_leav hW e3 hL hN]
      refine r_iadd dX0_weigh_90 ?_
      refine r_sipush dX0_weigh_91 (by decide) ?_
      refine r_imul dX0_weigh_94 ?_
      refine r_il2 dX0_weigh_95 ?_
      refine r_isub dX0_weigh_96 ?_
      rw [show (qroots g (ublk lf (S (4 * u + 1))) * 10 + qleav g (ublk lf (S (4 * u + 1)))) * 1000 - qgiv g (ublk lf (S (4 * u + 1))) = qkey g (ublk lf (S (4 * u + 1))) from rfl]
      refine r_is4 dX0_weigh_97 rfl ?_
      refine r_il4 dX0_weigh_99 ?_
      refine r_al0 dX0_weigh_101 ?_
      refine b_get dX0_weigh_102 f_X0_31 hB (ub hu) (bc_u hu) rfl ?_
      refine r_icmp_le (tgt := 156) dX0_weigh_105 (by decide) (by (first | omega | (have h1 := BR.bd hW hb; omega) | exact (by have := BR.bd hW hb; have := qk_bd (u := (ublk lf (S (4 * u + 1)))) hW; unfold qkey; omega))) (by (first | omega | (have h1 := BR.bd hW hb; omega) | exact (by have := BR.bd hW hb; have := qk_bd (u := (ublk lf (S (4 * u + 1)))) hW; unfold qkey; omega))) (fun c_105 => ?_) (fun c_105 => ?_)
      · exact r_ret dX0_weigh_156 rfl ⟨rfl, S, rfl, SK.rf, ⟨rfl, rfl, rfl⟩, hb.worse hW c_105⟩
      · refine r_al0 dX0_weigh_108 ?_
        refine r_il4 dX0_weigh_109 ?_
        refine b_put dX0_weigh_111 f_X0_31 p_X0_31 (ff_4_7 _) hB (ub hu) (bc_u hu) rfl rfl rfl (bp_7 hu) ?_
        refine r_al0 dX0_weigh_114 ?_
        refine r_il1 dX0_weigh_115 ?_
        refine b_put dX0_weigh_116 f_X0_34 p_X0_34 (ff_4_8 _) hB (ub hu) (bc_u hu) rfl rfl rfl (bp_8 hu) ?_
        refine r_al0 dX0_weigh_119 ?_
        refine r_il2 dX0_weigh_120 ?_
        refine b_put dX0_weigh_121 f_X0_37 p_X0_37 (ff_4_9 _) hB (ub hu) (bc_u hu) rfl rfl rfl (bp_9 hu) ?_
        refine r_iconst dX0_weigh_124 ?_
        refine r_is5 dX0_weigh_125 rfl ?_
        exact l_weighC κ h hB hu hW hD hV s0 s1 s2 hv hg hb hQ c_105 (nc + 1) 0 _ (by omega) (by omega) (by omega) (((SK.rf.up (by simp)).up (by simp)).up (by simp)) ⟨by simp only [updm_app]; simp, by simp only [updm_app]; simp, by simp only [updm_app]; simp, by simp only [updm_app]; simp, by simp only [updm_app]; simp, by simp only [updm_app]; simp⟩ (fun j j0 j1 => by omega)
    · refine r_il2 dX0_weigh_14 ?_
      refine r_al0 dX0_weigh_15 ?_
      refine b_get dX0_weigh_16 f_X0_25 hB (ub hu) (bc_u hu) rfl ?_
      refine r_il3 dX0_weigh_19 ?_
      refine b_ald dX0_weigh_20 hB (ub2 hu) (bc_2 hu) (by omega) (by omega) (by omega) ?_
      rw [hg l l0 (by omega)]
      refine r_iadd dX0_weigh_21 ?_
      refine r_is2 dX0_weigh_22 rfl ?_
      refine r_al0 dX0_weigh_23 ?_
      refine b_get dX0_weigh_24 f_X0_25 hB (ub hu) (bc_u hu) rfl ?_
      refine r_il3 dX0_weigh_27 ?_
      refine b_ald dX0_weigh_28 hB (ub2 hu) (bc_2 hu) (by omega) (by omega) (by omega) ?_
      rw [hg l l0 (by omega)]
      refine r_al0 dX0_weigh_29 ?_
      refine u_desk dX0_weigh_30 f_X0_40 hB hu (by assumption) ?_
      refine r_getfield dX0_weigh_33 f_X0_56 (by first | exact cfx hB hO | exact cfx hB hOp | exact cfx hB hlv | exact cfx hB hAc | exact cfx hB hAb | (refine cfx hB ?_; assumption) | assumption) rfl ?_
      refine r_getfield dX0_weigh_36 f_X0_107 (by first | exact cfx hB hO | exact cfx hB hOp | exact cfx hB hlv | exact cfx hB hAc | exact cfx hB hAb | (refine cfx hB ?_; assumption) | assumption) rfl ?_
      refine r_al0 dX0_weigh_39 ?_
      refine u_desk dX0_weigh_40 f_X0_40 hB hu (by assumption) ?_
      refine r_getfield dX0_weigh_43 f_X0_56 (by first | exact cfx hB hO | exact cfx hB hOp | exact cfx hB hlv | exact cfx hB hAc | exact cfx hB hAb | (refine cfx hB ?_; assumption) | assumption) rfl ?_
      refine r_getfield dX0_weigh_46 f_X0_60 (by first | exact cfx hB hO | exact cfx hB hOp | exact cfx hB hlv | exact cfx hB hAc | exact cfx hB hAb | (refine cfx hB ?_; assumption) | assumption) rfl ?_
      refine r_il3 dX0_weigh_49 ?_
      refine r_iaJ dX0_weigh_50 (cfx hB hlv) (by omega) (by omega) (by omega) ?_
      have hl := (hL.1 l l0 (by omega)).1
      obtain ⟨a_51, ha_51, hb_51⟩ := hbb (lf l) hl.1 hl.2
      have hbf := BlR.fx (cfxF (S' := S) hB) hb_51
      obtain ⟨-, s_51, hO_51, -⟩ := id hbf
      simp only [rwg] at hO_51
      have hr := hW.rw e3 (lf l) hl.1 hl.2
      simp only [RwB, rwg] at hr
      have hgb := qgets_bd (u := (ublk lf (S (4 * u + 1)))) (k := lf l) hW
      refine r_aaF dX0_weigh_51 (cfx hB hAb) (by decide) ha_51 (by omega) (by omega) (by omega) ?_
      refine r_getfield dX0_weigh_52 f_X0_123 (by first | exact cfx hB hO | exact cfx hB hOp | exact cfx hB hlv | exact cfx hB hAc | exact cfx hB hAb | (refine cfx hB ?_; assumption) | assumption) rfl ?_
      refine r_icmp_lt (tgt := 64) dX0_weigh_55 (by decide) (by (first | omega | (have h1 := BR.bd hW hb; omega) | exact (by have := BR.bd hW hb; have := qk_bd (u := (ublk lf (S (4 * u + 1)))) hW; unfold qkey; omega))) (by (first | omega | (have h1 := BR.bd hW hb; omega) | exact (by have := BR.bd hW hb; have := qk_bd (u := (ublk lf (S (4 * u + 1)))) hW; unfold qkey; omega))) (fun c_55 => ?_) (fun c_55 => ?_)
      · refine r_inc3 dX0_weigh_64 rfl ?_
        refine r_goto (tgt := 6) dX0_weigh_67 (by decide) ?_
        first | (rw [← bk_t (S := (fun l => g (60 + 12 * lf l + 2) ≤ qgets g (ublk lf (S (4 * u + 1))) (lf l))) l0 c_55, ← sz_1 (f := (fun l => qgets g (ublk lf (S (4 * u + 1))) (lf l))) l0]; exact ih (l + 1) (by omega) (by omega) (by omega)) | (rw [← bk_f (S := (fun l => g (60 + 12 * lf l + 2) ≤ qgets g (ublk lf (S (4 * u + 1))) (lf l))) (show ¬ _ by omega), ← sz_1 (f := (fun l => qgets g (ublk lf (S (4 * u + 1))) (lf l))) l0]; exact ih (l + 1) (by omega) (by omega) (by omega))
      · refine r_il1 dX0_weigh_58 ?_
        refine r_iconst dX0_weigh_59 ?_
        refine r_il3 dX0_weigh_60 ?_
        refine r_ishl dX0_weigh_61 ?_
        refine r_ior dX0_weigh_62 ?_
        rw [bs_or l0 (by omega)]
        refine r_is1 dX0_weigh_63 rfl ?_
        refine r_inc3 dX0_weigh_64 rfl ?_
        refine r_goto (tgt := 6) dX0_weigh_67 (by decide) ?_
        first | (rw [← bk_t (S := (fun l => g (60 + 12 * lf l + 2) ≤ qgets g (ublk lf (S (4 * u + 1))) (lf l))) l0 c_55, ← sz_1 (f := (fun l => qgets g (ublk lf (S (4 * u + 1))) (lf l))) l0]; exact ih (l + 1) (by omega) (by omega) (by omega)) | (rw [← bk_f (S := (fun l => g (60 + 12 * lf l + 2) ≤ qgets g (ublk lf (S (4 * u + 1))) (lf l))) (show ¬ _ by omega), ← sz_1 (f := (fun l => qgets g (ublk lf (S (4 * u + 1))) (lf l))) l0]; exact ih (l + 1) (by omega) (by omega) (by omega))
set_option maxRecDepth 100000 in
set_option maxHeartbeats 4000000 in
theorem c_weigh (κ : KP) {B : Nat → Nat} {S0 S : CST} (h : AH) (hB : BA B) {u q cr eq p nc ne nb bl lv ms mr N : Nat} {g lf fm fr : Int → Int} (hu : u = 3 ∨ u = 4) (hW : WF g) (hD : DkV κ (cset B S0 h) q g cr eq p nc ne nb) (hV : PrV κ (cset B S0 h) p nb (rwg g) bl lv ms mr N lf fm fr) (s0 : S u 0 = (q : Int)) (s1 : S u 1 = (nc : Int)) (s2 : S u 2 = (N : Int)) (hv : ∀ c, 0 ≤ c → c < g 1 → S (4 * u + 1) c = -1 ∨ ((0 ≤ S (4 * u + 1) c ∧ S (4 * u + 1) c < N) ∧ QTk g (lf (S (4 * u + 1) c)) c)) (hg : ∀ l : Int, 0 ≤ l → l < N → S (4 * u + 2) l = qgets g (ublk lf (S (4 * u + 1))) (lf l)) (hb : BR g lf N (fun v => LX (g 1) v (ublk lf (S (4 * u + 1)))) (S u 7) (S u 8) (S u 9) (S (4 * u + 3))) : MM κ mX0_weigh 8 0 0 [.ref (B u)] (cset B S h) (fun v h' => v = none ∧ ∃ S' : CST, h' = cset B S' h ∧ SK [u, 4 * u + 3] S S' ∧ (S' u 0 = S u 0 ∧ S' u 1 = S u 1 ∧ S' u 2 = S u 2) ∧ BR g lf N (LXE (g 1) (ublk lf (S (4 * u + 1)))) (S' u 7) (S' u 8) (S' u 9) (S' (4 * u + 3))) NoX := by
  refine mm_of (L := [some _, none, none, none, none, none]) (by decide +kernel) rfl rfl (Nat.le_of_ble_eq_true rfl) rfl ?_
  refine r_iconst dX0_weigh_0 ?_
  refine r_is1 dX0_weigh_1 rfl ?_
  refine r_iconst dX0_weigh_2 ?_
  refine r_is2 dX0_weigh_3 rfl ?_
  refine r_iconst dX0_weigh_4 ?_
  refine r_is3 dX0_weigh_5 rfl ?_
  have e0 := l_weighA κ h hB hu hW hD hV s0 s1 s2 hv hg hb (N + 1) 0 (by omega) (by omega) (by omega)
  rw [bk_0] at e0
  exact e0
