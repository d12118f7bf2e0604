/-! ===== the best use is found ===== -/
/-- what the object keeps of the best use -/
def UF (g lf : Int → Int) (N nc : Nat) (S : CST) (u : Nat) : Prop := S u 1 = (nc : Int) ∧ S u 2 = (N : Int) ∧ (∀ c, 0 ≤ c → c < g 1 → S (4 * u + 3) c = -1 ∨ (0 ≤ S (4 * u + 3) c ∧ S (4 * u + 3) c < N)) ∧ S u 8 = bs (uP g lf N (ublk lf (S (4 * u + 3)))) ∧ S u 9 = qgiv g (ublk lf (S (4 * u + 3))) ∧ QBest g (ublk lf (S (4 * u + 3)))
/-- the object knows the best use of the desk at q, which shows g -/
def UK (κ : KP) (H : AH) (g : Int → Int) (S : CST) (u q : Nat) : Prop := S u 0 = (q : Int) ∧ WF g ∧ ∃ cr eq p nc ne nb bl lv ms mr N lf fm fr, DkV κ H q g cr eq p nc ne nb ∧ PrV κ H p nb (rwg g) bl lv ms mr N lf fm fr ∧ UF g lf N nc S u
theorem UK.fx {κ : KP} {H H' : AH} {g : Int → Int} {S S' : CST} {u q : Nat} (x : Fx H H') (h0 : S' u = S u) (h1 : S' (4 * u + 3) = S (4 * u + 3)) (h : UK κ H g S u q) : UK κ H' g S' u q := by
  obtain ⟨a, b, cr, eq, p, nc, ne, nb, bl, lv, ms, mr, N, lf, fm, fr, c, d, e⟩ := h
  refine ⟨by rw [h0]; exact a, b, cr, eq, p, nc, ne, nb, bl, lv, ms, mr, N, lf, fm, fr, c.fx x, d.fx x, ?_⟩
  unfold UF at e ⊢
  rw [h0, h1]
  exact e
theorem none_QV {g : Int → Int} : QV g (fun _ => -1) := fun _ _ _ => Or.inl rfl
theorem BR.best {g lf : Int → Int} {N : Nat} {U : Int → Int} {w ls gv : Int} {ch : Int → Int} (h : BR g lf N (LXE 0 U) w ls gv ch) : QBest g (ublk lf ch) ∧ ls = bs (uP g lf N (ublk lf ch)) ∧ gv = qgiv g (ublk lf ch) ∧ ∀ c, 0 ≤ c → c < g 1 → ch c = -1 ∨ (0 ≤ ch c ∧ ch c < N) := by
  rcases h with ⟨-, h2⟩ | ⟨h1, -, h3, h4, h5⟩
  · exact absurd LXE_0 (h2 _ none_QV)
  · exact ⟨h1.iff (fun v _ => ⟨fun _ => trivial, fun _ => LXE_0⟩), h3, h4, h5⟩
set_option maxRecDepth 100000 in
set_option maxHeartbeats 4000000 in
theorem l_find2 (κ : KP) {B : Nat → Nat} {S0 : CST} (h : AH) (hB : BA B) {u q cr eq p nc ne nb bl lv ms mr N : Nat} {g lf fm fr : Int → Int} (hu : u = 3 ∨ u = 4) (hW : WF g) (hD : DkV κ (cset B S0 h) q g cr eq p nc ne nb) (hV : PrV κ (cset B S0 h) p nb (rwg g) bl lv ms mr N lf fm fr) {S : CST} : ∀ (f : Nat) (l : Int) (S1 : CST), (N : Int) - l < (f : Int) → 0 ≤ l → l ≤ N → SK [u, 4 * u + 0, 4 * u + 1, 4 * u + 2, 4 * u + 3] S S1 → (S1 u 0 = (q : Int) ∧ S1 u 1 = (nc : Int) ∧ S1 u 2 = (N : Int)) → (∀ j : Int, 0 ≤ j → j < l → S1 (4 * u + 2) j = 0) → (∀ j : Int, 0 ≤ j → j < nc → S1 (4 * u + 0) j = bs (bk (fun l => QTk g (lf l) j) N)) → WW κ mX0_findFor 20 0 0 (fun v h' => v = none ∧ ∃ S' : CST, h' = cset B S' h ∧ SK [u, 4 * u + 0, 4 * u + 1, 4 * u + 2, 4 * u + 3] S S' ∧ UK κ (cset B S' h) g S' u q) NoX 87 [some (.ref (B u)), some (.ref q), some (.int (J l))] [] (cset B S1 h) := by
  obtain ⟨hO, hC, hE, hP, e1, e2, e3⟩ := id hD
  obtain ⟨hOp, hBl, hlv, hL, hN, hms, hmr, hS⟩ := id hV
  obtain ⟨fc, hAc, hbc⟩ := id hC
  have n0 := hW.n
  have hk2 : u ≠ 4 * u + 2 := by omega
  intro f
  induction f with
  | zero =>
    intro l S1 hf l0 l1
    exact absurd hf (by omega)
  | succ f ih =>
    intro l S1 hf l0 l1 x1 x2 xg xa
    refine r_il2 dX0_findFor_87 ?_
    refine r_al0 dX0_findFor_88 ?_
    refine b_get dX0_findFor_89 f_X0_15 hB (ub hu) (bc_u hu) rfl ?_
    refine r_icmp_ge (tgt := 108) dX0_findFor_92 (by decide) (by (first | omega)) (by (first | omega)) (fun c_92 => ?_) (fun c_92 => ?_)
    · refine r_al0 dX0_findFor_108 ?_
      refine r_sipush dX0_findFor_109 (by decide) ?_
      refine b_put dX0_findFor_112 f_X0_31 p_X0_31 (ff_4_7 _) hB (ub hu) (bc_u hu) rfl rfl rfl (bp_7 hu) ?_
      refine r_al0 dX0_findFor_115 ?_
      refine r_iconst dX0_findFor_116 ?_
      have z0 : ∀ k, k ≠ u → updm S1 u 7 (-1000) k = S1 k := fun k hk => updm_k hk
      have z1 : ∀ i, i ≠ 7 → updm S1 u 7 (-1000) u i = S1 u i := fun i hi => updm_ne (by omega)
      have z7 : updm S1 u 7 (-1000) u 7 = -1000 := updm_at
      have x9 : SK [u, 4 * u + 0, 4 * u + 1, 4 * u + 2, 4 * u + 3] S (updm S1 u 7 (-1000)) := x1.up (by simp)
      generalize updm S1 u 7 (-1000) = S2 at z0 z1 z7 x9 ⊢
      have hI : GI g lf N nc u S2 0 := ⟨fun j j0 j1 => by omega, fun l l0 l1 => by rw [z0 _ (by omega), xg l l0 (by omega)]; rfl, fun j j0 j1 => by rw [z0 _ (by omega)]; exact xa j j0 j1⟩
      have hb : GB g lf N u S2 (fun v => LX 0 v (ublk lf (S2 (4 * u + 1)))) := Or.inl ⟨z7, fun v _ z => LX_0 z⟩
      have ec : ((nc : Int) - 0 = nc) := by omega
      refine r_callS (As := [.ref (B u), .int (J 0)]) dX0_findFor_117 s_X0_69 (c_give κ h hB hu hW hD hV nc 0 ec (by omega) S2 (by rw [z1 0 (by decide)]; exact x2.1) (by rw [z1 1 (by decide)]; exact x2.2.1) (by rw [z1 2 (by decide)]; exact x2.2.2) hI hb) (by omega) rfl rfl (cat_le rfl) (Nat.zero_le _) (Nat.zero_le _) (fun v h9 hq => ?_) (fun _ _ hx => hx.elim)
      obtain ⟨rfl, S3, rfl, hG3, hb3⟩ := hq
      obtain ⟨y1, y2, y3, y4⟩ := hb3.best
      refine r_ret dX0_findFor_120 rfl ⟨rfl, S3, rfl, x9.same (hG3.1.mono (by simp)), ?_, hW, cr, eq, p, nc, ne, nb, bl, lv, ms, mr, N, lf, fm, fr, hD.fx (cfxF hB), hV.fx (cfxF hB), ?_, ?_, y4, y2, y3, y1⟩
      · rw [hG3.2.1.1, z1 0 (by decide)]
        exact x2.1
      · rw [hG3.2.1.2.1, z1 1 (by decide)]
        exact x2.2.1
      · rw [hG3.2.1.2.2, z1 2 (by decide)]
        exact x2.2.2
    · refine r_al0 dX0_findFor_95 ?_
      refine b_get dX0_findFor_96 f_X0_25 hB (ub hu) (bc_u hu) rfl ?_
      refine r_il2 dX0_findFor_99 ?_
      refine r_iconst dX0_findFor_100 ?_
      refine b_ast dX0_findFor_101 hB (ub2 hu) (fun _ => bc_2 hu) (by omega) (by omega) (by omega) ?_
      refine r_inc2 dX0_findFor_102 rfl ?_
      refine r_goto (tgt := 87) dX0_findFor_105 (by decide) ?_
      refine ih (l + 1) _ (by omega) (by omega) (by omega) (x1.up (by simp)) ⟨by rw [updm_k hk2]; exact x2.1, by rw [updm_k hk2]; exact x2.2.1, by rw [updm_k hk2]; exact x2.2.2⟩ (fun j j0 j1 => ?_) (fun j j0 j1 => by rw [updm_k (k' := 4 * u + 0) (by omega)]; exact xa j j0 j1)
      by_cases e : j = l
      · rw [e, updm_at]
      · rw [updm_ne (by omega)]; exact xg j j0 (by omega)
set_option maxRecDepth 100000 in
set_option maxHeartbeats 4000000 in
theorem l_find1 (κ : KP) {B : Nat → Nat} {S0 : CST} (h : AH) (hB : BA B) {u q cr eq p nc ne nb bl lv ms mr N : Nat} {g lf fm fr : Int → Int} (hu : u = 3 ∨ u = 4) (hW : WF g) (hD : DkV κ (cset B S0 h) q g cr eq p nc ne nb) (hV : PrV κ (cset B S0 h) p nb (rwg g) bl lv ms mr N lf fm fr) {S : CST} : ∀ (f : Nat) (c : Int) (S1 : CST), (nc : Int) - c < (f : Int) → 0 ≤ c → c ≤ nc → SK [u, 4 * u + 0, 4 * u + 1, 4 * u + 2, 4 * u + 3] S S1 → (S1 u 0 = (q : Int) ∧ S1 u 1 = (nc : Int) ∧ S1 u 2 = (N : Int)) → (∀ j : Int, 0 ≤ j → j < c → S1 (4 * u + 0) j = bs (bk (fun l => QTk g (lf l) j) N)) → WW κ mX0_findFor 20 0 0 (fun v h' => v = none ∧ ∃ S' : CST, h' = cset B S' h ∧ SK [u, 4 * u + 0, 4 * u + 1, 4 * u + 2, 4 * u + 3] S S' ∧ UK κ (cset B S' h) g S' u q) NoX 52 [some (.ref (B u)), some (.ref q), some (.int (J c))] [] (cset B S1 h) := by
  obtain ⟨hO, hC, hE, hP, e1, e2, e3⟩ := id hD
  obtain ⟨hOp, hBl, hlv, hL, hN, hms, hmr, hS⟩ := id hV
  obtain ⟨fc, hAc, hbc⟩ := id hC
  have n0 := hW.n
  have hk0 : u ≠ 4 * u + 0 := by omega
  intro f
  induction f with
  | zero =>
    intro c S1 hf c0 c1
    exact absurd hf (by omega)
  | succ f ih =>
    intro c S1 hf c0 c1 x1 x2 xa
    refine r_il2 dX0_findFor_52 ?_
    refine r_al0 dX0_findFor_53 ?_
    refine b_get dX0_findFor_54 f_X0_9 hB (ub hu) (bc_u hu) rfl ?_
    refine r_icmp_ge (tgt := 85) dX0_findFor_57 (by decide) (by (first | omega)) (by (first | omega)) (fun c_57 => ?_) (fun c_57 => ?_)
    · refine r_iconst dX0_findFor_85 ?_
      refine r_is2 dX0_findFor_86 rfl ?_
      exact l_find2 κ h hB hu hW hD hV (N + 1) 0 S1 (by omega) (by omega) (by omega) x1 x2 (fun j j0 j1 => by omega) (fun j j0 j1 => xa j j0 (by omega))
    · refine r_al0 dX0_findFor_60 ?_
      refine b_get dX0_findFor_61 f_X0_18 hB (ub hu) (bc_u hu) rfl ?_
      refine r_il2 dX0_findFor_64 ?_
      refine r_al0 dX0_findFor_65 ?_
      refine r_al0 dX0_findFor_66 ?_
      refine u_desk dX0_findFor_67 f_X0_40 hB hu x2.1 ?_
      refine r_getfield dX0_findFor_70 f_X0_44 (by first | exact cfx hB hO | exact cfx hB hOp | exact cfx hB hlv | exact cfx hB hAc | exact cfx hB hAb | (refine cfx hB ?_; assumption) | assumption) rfl ?_
      refine r_il2 dX0_findFor_73 ?_
      obtain ⟨a_74, ha_74, hc0_74⟩ := hbc c (by omega) (by omega)
      have hd_74 := cfx (S' := S1) hB hc0_74
      refine r_aaF dX0_findFor_74 (cfx hB hAc) (by decide) ha_74 (by omega) (by omega) (by omega) ?_
      refine r_callVP1 dX0_findFor_75 v_X0_65 (cs_obj hB (ub hu) (bc_u hu)) (c_lvFor κ h hB hu hW hD hV x2.1 x2.2.1 x2.2.2 hd_74 (hW.c c0 (by omega))) (by decide) rfl ?_
      refine b_ast dX0_findFor_78 hB (ub0 hu) (fun _ => bc_0 hu) (by omega) (by omega) (by omega) ?_
      refine r_inc2 dX0_findFor_79 rfl ?_
      refine r_goto (tgt := 52) dX0_findFor_82 (by decide) ?_
      refine ih (c + 1) _ (by omega) (by omega) (by omega) (x1.up (by simp)) ⟨by rw [updm_k hk0]; exact x2.1, by rw [updm_k hk0]; exact x2.2.1, by rw [updm_k hk0]; exact x2.2.2⟩ (fun j j0 j1 => ?_)
      by_cases e : j = c
      · rw [e, updm_at]
      · rw [updm_ne (by omega)]; exact xa j j0 (by omega)
set_option maxRecDepth 100000 in
set_option maxHeartbeats 4000000 in
theorem c_find (κ : KP) {B : Nat → Nat} {S : CST} (h : AH) (hB : BA B) {u q q0 : Nat} {g g0 : Int → Int} (hu : u = 3 ∨ u = 4) (hW : WF g) (hD : DeskAt κ (cset B S h) q g) (hK : UK κ (cset B S h) g0 S u q0) (hg : q0 = q → g0 = g) : MM κ mX0_findFor 20 0 0 [.ref (B u), .ref q] (cset B S h) (fun v h' => v = none ∧ ∃ S' : CST, h' = cset B S' h ∧ SK [u, 4 * u + 0, 4 * u + 1, 4 * u + 2, 4 * u + 3] S S' ∧ UK κ (cset B S' h) g S' u q) NoX := by
  refine mm_of (L := [some _, some _, none]) (by decide +kernel) rfl rfl (Nat.le_of_ble_eq_true rfl) rfl ?_
  have s0 := hK.1
  refine r_al0 dX0_findFor_0 ?_
  refine u_desk dX0_findFor_1 f_X0_40 hB hu s0 ?_
  refine r_al1 dX0_findFor_4 ?_
  refine r_acmp_ne (rx := some q0) (ry := some q) (tgt := 9) dX0_findFor_5 (by decide) (fun c_5 => ?_) (fun c_5 => ?_)
  · clear hK hg s0
    obtain ⟨cr, eq, p, nc, ne, nb, hD1⟩ := hD
    have hP1 := hD1.2.2.2.1
    obtain ⟨bl, lv, ms, mr, N, lf, fm, fr, hV⟩ := hP1
    have hDk := hD1
    have hVk := hV
    obtain ⟨hO, hC, hE, hP, e1, e2, e3⟩ := id hD1
    obtain ⟨hOp, hBl, hlv, hL, hN, hms, hmr, hS⟩ := id hV
    obtain ⟨fc, hAc, hbc⟩ := id hC
    have n0 := hW.n
    refine r_al0 dX0_findFor_9 ?_
    refine r_al1 dX0_findFor_10 ?_
    refine b_put dX0_findFor_11 f_X0_40 p_X0_40 (ff_4_0 _) hB (ub hu) (bc_u hu) rfl rfl rfl (bp_0 hu) ?_
    refine r_al0 dX0_findFor_14 ?_
    refine r_al0 dX0_findFor_15 ?_
    refine u_desk dX0_findFor_16 f_X0_40 hB hu updm_at ?_
    refine r_getfield dX0_findFor_19 f_X0_44 (by first | exact cfx hB hO | exact cfx hB hOp | exact cfx hB hlv | exact cfx hB hAc | exact cfx hB hAb | (refine cfx hB ?_; assumption) | assumption) rfl ?_
    refine r_alenF dX0_findFor_22 (by first | exact cfx hB hO | exact cfx hB hOp | exact cfx hB hlv | exact cfx hB hAc | exact cfx hB hAb | (refine cfx hB ?_; assumption) | assumption) (by decide) (rfl) ?_
    refine r_bipush dX0_findFor_23 (by decide) ?_
    refine r_min dX0_findFor_25 s_X0_50 (by omega) (by omega) (by decide) rfl ?_
    rw [show min (nc : Int) 6 = nc by omega]
    refine b_put dX0_findFor_28 f_X0_9 p_X0_9 (ff_4_1 _) hB (ub hu) (bc_u hu) rfl rfl rfl (bp_1 hu) ?_
    refine r_al0 dX0_findFor_31 ?_
    refine r_al0 dX0_findFor_32 ?_
    refine u_desk dX0_findFor_33 f_X0_40 hB hu (by rw [updm_ne (by omega), updm_at]) ?_
    refine r_getfield dX0_findFor_36 f_X0_56 (by first | exact cfx hB hO | exact cfx hB hOp | exact cfx hB hlv | exact cfx hB hAc | exact cfx hB hAb | (refine cfx hB ?_; assumption) | assumption) rfl ?_
    refine r_getfield dX0_findFor_39 f_X0_60 (by first | exact cfx hB hO | exact cfx hB hOp | exact cfx hB hlv | exact cfx hB hAc | exact cfx hB hAb | (refine cfx hB ?_; assumption) | assumption) rfl ?_
    refine r_alenF dX0_findFor_42 (by first | exact cfx hB hO | exact cfx hB hOp | exact cfx hB hlv | exact cfx hB hAc | exact cfx hB hAb | (refine cfx hB ?_; assumption) | assumption) (by decide) (rfl) ?_
    refine r_iconst dX0_findFor_43 ?_
    refine r_min dX0_findFor_44 s_X0_50 (by omega) (by omega) (by decide) rfl ?_
    rw [show min (N : Int) 4 = N by omega]
    refine b_put dX0_findFor_47 f_X0_15 p_X0_15 (ff_4_2 _) hB (ub hu) (bc_u hu) rfl rfl rfl (bp_2 hu) ?_
    refine r_iconst dX0_findFor_50 ?_
    refine r_is2 dX0_findFor_51 rfl ?_
    exact l_find1 κ (S0 := S) h hB hu hW hDk hVk (nc + 1) 0 _ (by omega) (by omega) (by omega) (((SK.rf.up (by simp)).up (by simp)).up (by simp)) ⟨by rw [updm_ne (by omega), updm_ne (by omega), updm_at], by rw [updm_ne (by omega), updm_at], updm_at⟩ (fun j j0 j1 => by omega)
  · obtain rfl : q0 = q := Option.some.inj c_5
    obtain rfl := hg rfl
    exact r_ret dX0_findFor_8 rfl ⟨rfl, S, rfl, SK.rf, hK⟩
