/-! ===== the uses are gone through ===== -/
/-- what stands while credit c is to be given: the credits before it are given, their points counted -/
def GI (g lf : Int → Int) (N nc u : Nat) (S : CST) (c : Int) : Prop := (∀ j : Int, 0 ≤ j → j < c → S (4 * u + 1) j = -1 ∨ ((0 ≤ S (4 * u + 1) j ∧ S (4 * u + 1) j < N) ∧ QTk g (lf (S (4 * u + 1) j)) j)) ∧ (∀ l : Int, 0 ≤ l → l < N → S (4 * u + 2) l = gp g (ublk lf (S (4 * u + 1))) c (lf l)) ∧ ∀ j : Int, 0 ≤ j → j < nc → S (4 * u + 0) j = bs (bk (fun l => QTk g (lf l) j) N)
/-- what a level leaves as it was -/
def GO (u N : Nat) (c : Int) (S S' : CST) : Prop := SK [u, 4 * u + 1, 4 * u + 2, 4 * u + 3] S S' ∧ (S' u 0 = S u 0 ∧ S' u 1 = S u 1 ∧ S' u 2 = S u 2) ∧ (∀ j : Int, 0 ≤ j → j < c → S' (4 * u + 1) j = S (4 * u + 1) j) ∧ ∀ l : Int, 0 ≤ l → l < N → S' (4 * u + 2) l = S (4 * u + 2) l
theorem GO.rf {u N : Nat} {c : Int} {S : CST} : GO u N c S S := ⟨SK.rf, ⟨rfl, rfl, rfl⟩, fun _ _ _ => rfl, fun _ _ _ => rfl⟩
def GB (g lf : Int → Int) (N u : Nat) (S : CST) (T : (Int → Int) → Prop) : Prop := BR g lf N T (S u 7) (S u 8) (S u 9) (S (4 * u + 3))
theorem GI.eq {lf : Int → Int} {S S' : CST} {u : Nat} {c : Int} (h : ∀ j : Int, 0 ≤ j → j < c → S' (4 * u + 1) j = S (4 * u + 1) j) : EQU c (ublk lf (S' (4 * u + 1))) (ublk lf (S (4 * u + 1))) := fun j j0 j1 => by
  unfold ublk
  rw [h j j0 j1]
theorem GI.go {g lf : Int → Int} {N nc u : Nat} (hu : u = 3 ∨ u = 4) {S S' : CST} {c : Int} (h : GI g lf N nc u S c) (x : GO u N c S S') : GI g lf N nc u S' c := by
  have eu : EQU c (ublk lf (S' (4 * u + 1))) (ublk lf (S (4 * u + 1))) := GI.eq x.2.2.1
  refine ⟨fun j j0 j1 => by rw [x.2.2.1 j j0 j1]; exact h.1 j j0 j1, fun l l0 l1 => by rw [x.2.2.2 l l0 l1, h.2.1 l l0 l1, gp_cong eu], fun j j0 j1 => ?_⟩
  by_cases e : 4 * u + 0 ∈ [u, 4 * u + 1, 4 * u + 2, 4 * u + 3]
  · simp at e
    omega
  · rw [x.1 _ e]
    exact h.2.2 j j0 j1
theorem bk_no {S : Int → Prop} {k i : Int} (h : bk S k i = false) (i0 : 0 ≤ i) (i1 : i < k) : ¬ S i := fun z => by
  rw [bk_i.mpr ⟨i0, i1, z⟩] at h
  cases h
/-- credit c goes to leaf l -/
def gv (S : CST) (u : Nat) (c l x : Int) : CST := updm (updm S (4 * u + 1) c l) (4 * u + 2) l x
theorem gv_1 {S : CST} {u : Nat} {c l x j : Int} : gv S u c l x (4 * u + 1) j = if j = c then l else S (4 * u + 1) j := by
  unfold gv
  rw [updm_ne (by omega)]
  unfold updm
  by_cases e : j = c <;> simp [e]
theorem gv_2 {S : CST} {u : Nat} {c l x j : Int} : gv S u c l x (4 * u + 2) j = if j = l then x else S (4 * u + 2) j := by
  unfold gv
  by_cases e : j = l
  · rw [e, updm_at, if_pos rfl]
  · rw [updm_ne (by omega), updm_ne (by omega), if_neg e]
theorem gv_k {S : CST} {u k : Nat} {c l x : Int} (h1 : k ≠ 4 * u + 1) (h2 : k ≠ 4 * u + 2) : gv S u c l x k = S k := by
  unfold gv
  rw [updm_k h2, updm_k h1]
theorem gv_eq {lf : Int → Int} {S S' : CST} {u : Nat} {c x : Int} (h1 : ∀ j : Int, 0 ≤ j → j < c → S' (4 * u + 1) j = S (4 * u + 1) j) (h2 : ublk lf (S' (4 * u + 1)) c = x) : EQU (c + 1) (ublk lf (S' (4 * u + 1))) (upz (ublk lf (S (4 * u + 1))) c x) := fun j j0 j1 => by
  by_cases e : j = c
  · rw [e, upz_same]
    exact h2
  · rw [upz_ne e]
    exact GI.eq h1 j j0 (by omega)
theorem LXE.eqL {n : Int} {U U' v : Int → Int} (e : EQU n U U') : LXE n U v ↔ LXE n U' v :=
  ⟨fun h => h.elim (fun z => Or.inl (z.eqR e)) (fun z => Or.inr (z.trans e)), fun h => h.elim (fun z => Or.inl (z.eqR e.symm)) (fun z => Or.inr (z.trans e.symm))⟩
theorem LX.eqI {n : Int} {U U' v : Int → Int} (e : EQU n U U') : LX n v U ↔ LX n v U' := ⟨fun h => h.eqR e, fun h => h.eqR e.symm⟩
set_option maxRecDepth 100000 in
set_option maxHeartbeats 4000000 in
theorem l_give (κ : KP) {B : Nat → Nat} {S0 : CST} (h : AH) (hB : BA B) {u q cr eq p nc ne nb bl lv ms mr N : Nat} {g lf fm fr : Int → Int} (hu : u = 3 ∨ u = 4) (hW : WF g) (hD : DkV κ (cset B S0 h) q g cr eq p nc ne nb) (hV : PrV κ (cset B S0 h) p nb (rwg g) bl lv ms mr N lf fm fr) {c : Int} (c0 : 0 ≤ c) (c1 : c < nc) {d9 : Nat} (hd9 : 12 ≤ d9) (IH : ∀ (S : CST), S u 0 = (q : Int) → S u 1 = (nc : Int) → S u 2 = (N : Int) → GI g lf N nc u S (c + 1) → GB g lf N u S (fun v => LX (c + 1) v (ublk lf (S (4 * u + 1)))) → MM κ mX0_giveFrom (d9) 0 0 [.ref (B u), .int (J (c + 1))] (cset B S h) (fun v h' => v = none ∧ ∃ S' : CST, h' = cset B S' h ∧ GO u N (c + 1) S S' ∧ GB g lf N u S' (LXE (c + 1) (ublk lf (S (4 * u + 1))))) NoX) {S : CST} (s0 : S u 0 = (q : Int)) (s1 : S u 1 = (nc : Int)) (s2 : S u 2 = (N : Int)) (hI : GI g lf N nc u S c) : ∀ (f : Nat) (l : Int) (S1 : CST), (N : Int) - l < (f : Int) → 0 ≤ l → l ≤ N → GO u N c S S1 → GB g lf N u S1 (TL c (ublk lf (S (4 * u + 1))) lf l) → WW κ mX0_giveFrom (d9 + 1) 0 0 (fun v h' => v = none ∧ ∃ S' : CST, h' = cset B S' h ∧ GO u N c S S' ∧ GB g lf N u S' (LXE c (ublk lf (S (4 * u + 1))))) NoX 32 [some (.ref (B u)), some (.int (J c)), some (.int (J (g (4 + 4 * c + 1)))), some (.int (J l))] [] (cset B S1 h) := by
  obtain ⟨hO, hC, hE, hP, e1, e2, e3⟩ := id hD
  obtain ⟨hOp, hBl, hlv, hL, hN, hms, hmr, hS⟩ := id hV
  obtain ⟨fc, hAc, hbc⟩ := id hC
  have n0 := hW.n
  intro f
  induction f with
  | zero =>
    intro l S1 hf l0 l1
    exact absurd hf (by omega)
  | succ f ih =>
    intro l S1 hf l0 l1 hG hb
    have t0 := hG.2.1.1.trans s0
    have t1 := hG.2.1.2.1.trans s1
    have t2 := hG.2.1.2.2.trans s2
    have hI1 := hI.go hu hG
    have hacc := hI1.2.2 c c0 c1
    have eu0 : EQU c (ublk lf (S1 (4 * u + 1))) (ublk lf (S (4 * u + 1))) := GI.eq hG.2.2.1
    have hn3 : u ≠ 4 * u + 1 ∧ u ≠ 4 * u + 2 := by omega
    refine r_il3 dX0_giveFrom_32 ?_
    refine r_al0 dX0_giveFrom_33 ?_
    refine b_get dX0_giveFrom_34 f_X0_15 hB (ub hu) (bc_u hu) rfl ?_
    refine r_icmp_ge (tgt := 93) dX0_giveFrom_37 (by decide) (by (first | omega)) (by (first | omega)) (fun c_37 => ?_) (fun c_37 => ?_)
    · refine r_al0 dX0_giveFrom_93 ?_
      refine b_get dX0_giveFrom_94 f_X0_22 hB (ub hu) (bc_u hu) rfl ?_
      refine r_il1 dX0_giveFrom_97 ?_
      refine r_iconst dX0_giveFrom_98 ?_
      refine b_ast dX0_giveFrom_99 hB (ub1 hu) (fun _ => bc_1 hu) (by omega) (by omega) (by omega) ?_
      refine r_al0 dX0_giveFrom_100 ?_
      refine r_il1 dX0_giveFrom_101 ?_
      refine r_iconst dX0_giveFrom_102 ?_
      refine r_iadd dX0_giveFrom_103 ?_
      obtain rfl : l = N := by omega
      have gv0 : updm S1 (4 * u + 1) c (-1) u = S1 u := updm_k hn3.1
      have g1 : ∀ j, updm S1 (4 * u + 1) c (-1) (4 * u + 1) j = if j = c then -1 else S1 (4 * u + 1) j := fun j => by
        unfold updm
        by_cases e : j = c <;> simp [e]
      have gk : ∀ k, k ≠ 4 * u + 1 → updm S1 (4 * u + 1) c (-1) k = S1 k := fun k hk => updm_k hk
      generalize updm S1 (4 * u + 1) c (-1) = S2 at gv0 g1 gk ⊢
      have eU : EQU (c + 1) (ublk lf (S2 (4 * u + 1))) (upz (ublk lf (S (4 * u + 1))) c (-1)) := gv_eq (fun j j0 j1 => by rw [g1, if_neg (by omega)]; exact hG.2.2.1 j j0 j1) (by
        unfold ublk
        rw [g1, if_pos rfl, if_pos (by decide)])
      have hI2 : GI g lf N nc u S2 (c + 1) := by
        refine ⟨fun j j0 j1 => ?_, fun k k0 k1 => ?_, fun j j0 j1 => ?_⟩
        · rw [g1]
          by_cases e : j = c
          · rw [if_pos e]
            exact Or.inl rfl
          · rw [if_neg e]
            exact hI1.1 j j0 (by omega)
        · have := (hL.1 k k0 k1).1
          rw [gk _ (by omega), gp_cong eU, gp_1 c0, upz_same, gp_cong (V := ublk lf (S1 (4 * u + 1))) (fun j j0 j1 => by rw [upz_ne (by omega)]; exact (eu0 j j0 j1).symm), ← hI1.2.1 k k0 k1, if_neg (by omega)]
          omega
        · rw [gk _ (by omega)]
          exact hI1.2.2 j j0 j1
      have hb2 : GB g lf N u S2 (fun v => LX (c + 1) v (ublk lf (S2 (4 * u + 1)))) := by
        unfold GB
        rw [gv0, gk (4 * u + 3) (by omega)]
        exact BR.iff hb (fun v hv => ((LX.eqI eU).trans (TL_last hW e3 hL hv c0 (by omega))).symm)
      refine r_callS (As := [.ref (B u), .int (J (c + 1))]) dX0_giveFrom_104 s_X0_69 (IH S2 (by rw [gv0]; exact t0) (by rw [gv0]; exact t1) (by rw [gv0]; exact t2) hI2 hb2) (by omega) rfl rfl (cat_le rfl) (Nat.zero_le _) (Nat.zero_le _) (fun v h9 hq => ?_) (fun _ _ hx => hx.elim)
      obtain ⟨rfl, S3, rfl, hG3, hb3⟩ := hq
      refine r_ret dX0_giveFrom_107 rfl ⟨rfl, S3, rfl, ⟨fun k hk => ?_, ⟨?_, ?_, ?_⟩, fun j j0 j1 => ?_, fun k k0 k1 => ?_⟩, ?_⟩
      · simp only [List.mem_cons, List.not_mem_nil, or_false, not_or] at hk
        rw [hG3.1 k (by simp; omega), gk k hk.2.1]
        exact hG.1 k (by simp; omega)
      · rw [hG3.2.1.1, gv0]
        exact hG.2.1.1
      · rw [hG3.2.1.2.1, gv0]
        exact hG.2.1.2.1
      · rw [hG3.2.1.2.2, gv0]
        exact hG.2.1.2.2
      · rw [hG3.2.2.1 j j0 (by omega), g1, if_neg (by omega)]
        exact hG.2.2.1 j j0 j1
      · rw [hG3.2.2.2 k k0 k1, gk _ (by omega)]
        exact hG.2.2.2 k k0 k1
      · exact BR.iff hb3 (fun v hv => (LXE.eqL eU).trans (TL_end hW e3 hL hv c0 (by omega)))
    · rw [t2] at c_37
      refine r_al0 dX0_giveFrom_40 ?_
      refine b_get dX0_giveFrom_41 f_X0_18 hB (ub hu) (bc_u hu) rfl ?_
      refine r_il1 dX0_giveFrom_44 ?_
      refine b_ald dX0_giveFrom_45 hB (ub0 hu) (bc_0 hu) (by omega) (by omega) (by omega) ?_
      refine r_il3 dX0_giveFrom_46 ?_
      rw [hacc]
      refine r_callSNP2 dX0_giveFrom_47 s_X0_77 (c_isInSet κ _ l0 (by omega)) (by omega) rfl ?_
      refine r_ifB_eq (tgt := 87) dX0_giveFrom_50 (by decide) (fun c_50 => ?_) (fun c_50 => ?_)
      · have hno : ¬ QTk g (lf l) c := bk_no (S := fun l => QTk g (lf l) c) c_50 l0 c_37
        refine r_inc3 dX0_giveFrom_87 rfl ?_
        refine r_goto (tgt := 32) dX0_giveFrom_90 (by decide) ?_
        exact ih (l + 1) S1 (by omega) (by omega) (by omega) hG (BR.iff hb (fun v hv => TL_skip hL hv c0 (by omega) l0 c_37 hno))
      · refine r_al0 dX0_giveFrom_53 ?_
        refine b_get dX0_giveFrom_54 f_X0_22 hB (ub hu) (bc_u hu) rfl ?_
        refine r_il1 dX0_giveFrom_57 ?_
        refine r_il3 dX0_giveFrom_58 ?_
        refine b_ast dX0_giveFrom_59 hB (ub1 hu) (fun _ => bc_1 hu) (by omega) (by omega) (by omega) ?_
        refine r_al0 dX0_giveFrom_60 ?_
        refine b_get dX0_giveFrom_61 f_X0_25 hB (ub hu) (bc_u hu) rfl ?_
        refine r_il3 dX0_giveFrom_64 ?_
        refine r_dup2 dX0_giveFrom_65 rfl rfl ?_
        refine b_ald dX0_giveFrom_66 hB (ub2 hu) (bc_2 hu) (by omega) (by omega) (by omega) ?_
        rw [updm_ne (by omega)]
        refine r_il2 dX0_giveFrom_67 ?_
        refine r_iadd dX0_giveFrom_68 ?_
        refine b_ast dX0_giveFrom_69 hB (ub2 hu) (fun _ => bc_2 hu) (by omega) (by omega) (by omega) ?_
        refine r_al0 dX0_giveFrom_70 ?_
        refine r_il1 dX0_giveFrom_71 ?_
        refine r_iconst dX0_giveFrom_72 ?_
        refine r_iadd dX0_giveFrom_73 ?_
        have hpos : 0 ≤ l ∧ l < N := ⟨l0, c_37⟩
        have hl := (hL.1 l l0 c_37).1
        have hTk : QTk g (lf l) c := (bk_i.mp c_50).2.2
        have gS : ∀ x : Int, gv S1 u c l x u = S1 u := fun x => gv_k hn3.1 hn3.2
        generalize hx9 : S1 (4 * u + 2) l + g (4 + 4 * c + 1) = x9
        have gv0 : gv S1 u c l x9 u = S1 u := gS x9
        have eU : EQU (c + 1) (ublk lf (gv S1 u c l x9 (4 * u + 1))) (upz (ublk lf (S (4 * u + 1))) c (lf l)) := gv_eq (fun j j0 j1 => by rw [gv_1, if_neg (by omega)]; exact hG.2.2.1 j j0 j1) (by
          unfold ublk
          rw [gv_1, if_pos rfl, if_neg (by omega)])
        have hI2 : GI g lf N nc u (gv S1 u c l x9) (c + 1) := by
          refine ⟨fun j j0 j1 => ?_, fun k k0 k1 => ?_, fun j j0 j1 => ?_⟩
          · rw [gv_1]
            by_cases e : j = c
            · rw [if_pos e]
              exact Or.inr ⟨hpos, by rw [e]; exact hTk⟩
            · rw [if_neg e]
              exact hI1.1 j j0 (by omega)
          · rw [gv_2, gp_cong eU, gp_1 c0, upz_same, gp_cong (V := ublk lf (S1 (4 * u + 1))) (fun j j0 j1 => by rw [upz_ne (by omega)]; exact (eu0 j j0 j1).symm), ← hI1.2.1 k k0 k1]
            by_cases e : k = l
            · rw [if_pos e, e, if_pos rfl, ← hx9]
            · rw [if_neg e, if_neg (fun z => e (hL.inj k0 k1 l0 c_37 z.symm))]
              omega
          · rw [gv_k (by omega) (by omega)]
            exact hI1.2.2 j j0 j1
        have hb2 : GB g lf N u (gv S1 u c l x9) (fun v => LX (c + 1) v (ublk lf (gv S1 u c l x9 (4 * u + 1)))) := by
          unfold GB
          rw [gv0, gv_k (k := 4 * u + 3) (by omega) (by omega)]
          exact BR.iff hb (fun v hv => ((LX.eqI eU).trans (TL_in hW e3 hL hv c0 (by omega) l0 c_37)).symm)
        refine r_callS (As := [.ref (B u), .int (J (c + 1))]) dX0_giveFrom_74 s_X0_69 (IH (gv S1 u c l x9) (by rw [gv0]; exact t0) (by rw [gv0]; exact t1) (by rw [gv0]; exact t2) hI2 hb2) (by omega) rfl rfl (cat_le rfl) (Nat.zero_le _) (Nat.zero_le _) (fun v h9 hq => ?_) (fun _ _ hx => hx.elim)
        obtain ⟨rfl, S3, rfl, hG3, hb3⟩ := hq
        refine r_al0 dX0_giveFrom_77 ?_
        refine b_get dX0_giveFrom_78 f_X0_25 hB (ub hu) (bc_u hu) rfl ?_
        refine r_il3 dX0_giveFrom_81 ?_
        refine r_dup2 dX0_giveFrom_82 rfl rfl ?_
        refine b_ald dX0_giveFrom_83 hB (ub2 hu) (bc_2 hu) (by omega) (by omega) (by omega) ?_
        refine r_il2 dX0_giveFrom_84 ?_
        have e84 : S3 (4 * u + 2) l = S1 (4 * u + 2) l + g (4 + 4 * c + 1) := by rw [hG3.2.2.2 l l0 c_37, gv_2, if_pos rfl, hx9]
        rw [e84]
        refine r_isub dX0_giveFrom_85 ?_
        rw [show S1 (4 * u + 2) l + g (4 + 4 * c + 1) - g (4 + 4 * c + 1) = S1 (4 * u + 2) l by omega]
        refine b_ast dX0_giveFrom_86 hB (ub2 hu) (fun _ => bc_2 hu) (by omega) (by omega) (by omega) ?_
        refine r_inc3 dX0_giveFrom_87 rfl ?_
        refine r_goto (tgt := 32) dX0_giveFrom_90 (by decide) ?_
        refine ih (l + 1) _ (by omega) (by omega) (by omega) ⟨fun k hk => ?_, ⟨?_, ?_, ?_⟩, fun j j0 j1 => ?_, fun k k0 k1 => ?_⟩ ?_
        · simp only [List.mem_cons, List.not_mem_nil, or_false, not_or] at hk
          rw [updm_k hk.2.2.1, hG3.1 k (by simp; omega), gv_k hk.2.1 hk.2.2.1]
          exact hG.1 k (by simp; omega)
        · rw [updm_k hn3.2, hG3.2.1.1, gv0]
          exact hG.2.1.1
        · rw [updm_k hn3.2, hG3.2.1.2.1, gv0]
          exact hG.2.1.2.1
        · rw [updm_k hn3.2, hG3.2.1.2.2, gv0]
          exact hG.2.1.2.2
        · rw [updm_ne (by omega), hG3.2.2.1 j j0 (by omega), gv_1, if_neg (by omega)]
          exact hG.2.2.1 j j0 j1
        · by_cases e : k = l
          · rw [e, updm_at]
            exact hG.2.2.2 l l0 c_37
          · rw [updm_ne (by omega), hG3.2.2.2 k k0 k1, gv_2, if_neg e]
            exact hG.2.2.2 k k0 k1
        · unfold GB
          rw [updm_k hn3.2, updm_k (k' := 4 * u + 3) (by omega)]
          exact BR.iff hb3 (fun v hv => (LXE.eqL eU).trans (TL_out hW e3 hL hv c0 (by omega) l0 c_37))
set_option maxRecDepth 100000 in
set_option maxHeartbeats 4000000 in
theorem c_give (κ : KP) {B : Nat → Nat} {S0 : CST} (h : AH) (hB : BA B) {u q cr eq p nc ne nb bl lv ms mr N : Nat} {g lf fm fr : Int → Int} (hu : u = 3 ∨ u = 4) (hW : WF g) (hD : DkV κ (cset B S0 h) q g cr eq p nc ne nb) (hV : PrV κ (cset B S0 h) p nb (rwg g) bl lv ms mr N lf fm fr) : ∀ (n : Nat) (c : Int), (nc : Int) - c = n → 0 ≤ c → ∀ (S : CST), S u 0 = (q : Int) → S u 1 = (nc : Int) → S u 2 = (N : Int) → GI g lf N nc u S (c) → GB g lf N u S (fun v => LX (c) v (ublk lf (S (4 * u + 1)))) → MM κ mX0_giveFrom (12 + n) 0 0 [.ref (B u), .int (J (c))] (cset B S h) (fun v h' => v = none ∧ ∃ S' : CST, h' = cset B S' h ∧ GO u N (c) S S' ∧ GB g lf N u S' (LXE (c) (ublk lf (S (4 * u + 1))))) NoX := by
  obtain ⟨hO, hC, hE, hP, e1, e2, e3⟩ := id hD
  obtain ⟨hOp, hBl, hlv, hL, hN, hms, hmr, hS⟩ := id hV
  obtain ⟨fc, hAc, hbc⟩ := id hC
  have n0 := hW.n
  intro n
  induction n with
  | zero =>
    intro c hc c0 S s0 s1 s2 hI hb
    obtain rfl : c = g 1 := by omega
    refine mm_of (L := [some _, some _, none, none]) (by decide +kernel) rfl rfl (Nat.le_of_ble_eq_true rfl) rfl ?_
    refine r_il1 dX0_giveFrom_0 ?_
    refine r_if_lt (tgt := 12) dX0_giveFrom_1 (by decide) (by (omega)) (fun c_1 => ?_) (fun c_1 => ?_)
    · exact absurd c_1 (by omega)
    · refine r_il1 dX0_giveFrom_4 ?_
      refine r_al0 dX0_giveFrom_5 ?_
      refine b_get dX0_giveFrom_6 f_X0_9 hB (ub hu) (bc_u hu) rfl ?_
      refine r_icmp_lt (tgt := 17) dX0_giveFrom_9 (by decide) (by (omega)) (by (omega)) (fun c_9 => ?_) (fun c_9 => ?_)
      · exact absurd c_9 (by omega)
      · refine r_al0 dX0_giveFrom_12 ?_
        refine r_callV (As := []) dX0_giveFrom_13 v_X0_120 (cs_obj hB (ub hu) (bc_u hu)) (c_weigh κ h hB hu hW hD hV s0 s1 s2 hI.1 hI.2.1 hb) (by decide) rfl rfl (cat_le rfl) (Nat.zero_le _) (Nat.zero_le _) (fun v h9 hq => ?_) (fun _ _ hx => hx.elim)
        obtain ⟨rfl, S3, rfl, x1, x2, x3⟩ := hq
        exact r_ret dX0_giveFrom_16 rfl ⟨rfl, S3, rfl, ⟨x1.mono (by simp), x2, fun j j0 j1 => by rw [x1 _ (by simp; omega)], fun k k0 k1 => by rw [x1 _ (by simp; omega)]⟩, x3⟩
  | succ n ihn =>
    intro c hc c0 S s0 s1 s2 hI hb
    have c1 : c < nc := by omega
    refine mm_of (L := [some _, some _, none, none]) (by decide +kernel) rfl rfl (Nat.le_of_ble_eq_true rfl) rfl ?_
    refine r_il1 dX0_giveFrom_0 ?_
    refine r_if_lt (tgt := 12) dX0_giveFrom_1 (by decide) (by (omega)) (fun c_1 => ?_) (fun c_1 => ?_)
    · exact absurd c_1 (by omega)
    · refine r_il1 dX0_giveFrom_4 ?_
      refine r_al0 dX0_giveFrom_5 ?_
      refine b_get dX0_giveFrom_6 f_X0_9 hB (ub hu) (bc_u hu) rfl ?_
      refine r_icmp_lt (tgt := 17) dX0_giveFrom_9 (by decide) (by (omega)) (by (omega)) (fun c_9 => ?_) (fun c_9 => ?_)
      · refine r_al0 dX0_giveFrom_17 ?_
        refine u_desk dX0_giveFrom_18 f_X0_40 hB hu (by assumption) ?_
        refine r_getfield dX0_giveFrom_21 f_X0_44 (by first | exact cfx hB hO | exact cfx hB hOp | exact cfx hB hlv | exact cfx hB hAc | exact cfx hB hAb | (refine cfx hB ?_; assumption) | assumption) rfl ?_
        refine r_il1 dX0_giveFrom_24 ?_
        obtain ⟨a_25, ha_25, hc0_25⟩ := hbc c (by omega) (by omega)
        have hd_25 := cfx (S' := S) hB hc0_25
        simp only [crg] at hd_25
        refine r_aaF dX0_giveFrom_25 (cfx hB hAc) (by decide) ha_25 (by omega) (by omega) (by omega) ?_
        refine r_getfield dX0_giveFrom_26 f_X0_91 (by first | exact cfx hB hO | exact cfx hB hOp | exact cfx hB hlv | exact cfx hB hAc | exact cfx hB hAb | (refine cfx hB ?_; assumption) | assumption) rfl ?_
        refine r_is2 dX0_giveFrom_29 rfl ?_
        refine r_iconst dX0_giveFrom_30 ?_
        refine r_is3 dX0_giveFrom_31 rfl ?_
        exact l_give κ h hB hu hW hD hV c0 c1 (d9 := 12 + n) (by omega) (ihn (c + 1) (by omega) (by omega)) s0 s1 s2 hI (N + 1) 0 S (by omega) (by omega) (by omega) GO.rf (BR.iff hb (fun v hv => TL_0.symm))
      · exact absurd c_9 (by omega)
