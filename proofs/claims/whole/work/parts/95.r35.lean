/-! ===== rows for the law ===== -/
/-- what the script is -/
def LSc (κ : KP) (ps n : Nat) (f : Int → Int) : Prop := ps = κ.2.2.1 ∧ n = κ.2.2.2.1 ∧ ∀ j : Int, f j = (κ.2.2.2.2 j.toNat).toInt
section LROWS
variable {κ : KP} {mi : MI} {d k n : Nat} {Q : Option Value → AH → Prop} {E : String → AH → Prop} {pc : Nat} {L : List (Option Value)} {st : List Value} {h : AH} {mi' : MI} {d' K N nA idx : Nat} {Q' : Option Value → AH → Prop} {E' : String → AH → Prop} {As rest : List Value}
/-- a static method with handlers is called -/
theorem r_callSX (hd : decode mi.2.1 pc = .ok (.invokestatic idx, 3)) (hv : CSX mi.1.cls idx mi' nA) (hM : MM κ mi' d' K N As h Q' NoX) (hd' : d' + 1 ≤ d) (hA : As.length = nA) (hst : st = As.reverse ++ rest) (hcat : (rest.map fun v => v.category).sum ≤ 8) (hK : K ≤ k) (hN : N ≤ n)
    (kq : ∀ v h', Q' v h' → WW κ mi d (k - K) (n - N) Q E (pc + 3) L (v.toList ++ rest) h') : WW κ mi d k n Q E pc L st h := by
  intro H0 D p l e R s m args below meth c Z C F H locs cells slots ls hR hl hk hn hL hlen
  have C0 := C
  obtain ⟨⟨⟨h2, h3, h4, h5, h6, h7⟩, hhd⟩, hml, hsta⟩ := hv
  obtain ⟨hx, hfl, hb, hr, hmx, hown, hnm, hlk, htab, hts, hG, hdR, hlR, -⟩ := C
  have hGI : GoodIn BIG (va_wsS mi.1.cls idx mi'.1 (hdOf mi' :: BIG)) := fun w hw => by
    rcases List.mem_append.mp hw with hw | hw
    · have hw2 : w ∈ BIG := by
        rcases List.mem_cons.mp hw with rfl | hw
        · exact hml
        · rcases List.mem_cons.mp hw with rfl | hw
          · exact hsta
          · rcases List.mem_cons.mp hw with rfl | hw
            · exact h3
            · cases hw
      exact ⟨hw2, BIG_good _ hw2⟩
    · exact big_in h2 w hw
  have cw : vx_CSW R s args mi.1.cls idx mi'.1 mi'.2.1 mi'.2.2.1 mi'.2.2.2.1 mi'.2.2.2.2 (hdOf mi' :: BIG) (rmD d' K N) K N nA := vx_cwSW (ws' := BIG) nA hts hGI (by rw [hhd]) rfl rfl ⟨h5, h6, h7⟩ ⟨by show d' + 1 ≤ R.frames; omega, by show 8 + (mi'.2.2.1 + 11) + 46 * d' ≤ R.locals; omega⟩
  exact ww_run (E' := NoX) C0 F hl hk hn hL hlen hK hN (va_run_vx (vx_runSW (Ts := BIG) (As := As) ⟨hx, hb, hmx, hown, hts⟩ (met_of_vx (hM l H0 D hfl) noX_not) cw ⟨pc_blind, fun U hU hW => ⟨rfl, Gk.warm hW hG, by rw [hU]; exact hR⟩⟩ rfl hA (ls_size C0 hL hlen) hst (lv_room hcat) hd ⟨by omega, by omega⟩)) kq (fun _ _ hx => hx.elim)
/-- caught here: the table's rows ahead name other classes -/
theorem x_catch {X : String} {pre suf : List (Nat × Nat × Nat × Nat)} {s9 e9 hp ct : Nat} (hsplit : mi.2.2.2.2 = pre ++ (s9, e9, hp, ct) :: suf) (hpass : ∀ z ∈ pre, z.2.2.2 ≠ 0 ∧ ∃ nm : String, Cond.classLink mi.1.cls z.2.2.2 nm ∈ BIG ∧ X ∈ exN ∧ nm ∈ exN ∧ X ≠ nm) (hcov : s9 ≤ pc ∧ pc < e9) (h0 : ct ≠ 0) (hl : Cond.classLink mi.1.cls ct X ∈ BIG) (hc : Cond.castable X X ∈ BIK) (kk : ∀ q : Nat, WW κ mi d k n Q E hp L [.ref q] h) : XX κ mi d k n Q E pc L rest X h := by
  intro H0 D p l e R s m args below meth c Z C F H locs cells slots ls q ce hR hl9 hk hn hL hlen hce hcv hcl
  have C0 := C
  obtain ⟨hx, hfl, hb, hr, hmx, hown, hnm, hlk, htab, hts, hG, -⟩ := C
  obtain ⟨-, -, -, -, -, -, -, -, -, -, g11, g12, -⟩ := hG
  refine vx_catch (own := mi.1.cls) (name := X) (E := X) hown (tableOf pre) ⟨s9, e9, hp, ct⟩ (tableOf suf) (by rw [htab, hsplit]; unfold tableOf; rw [List.map_append, List.map_cons]) (fun z hz => ?_) ?_ h0 (hts _ hl) (va_Nw.use (kew_tab hc) (g11 _ hc)) hce hcv hcl (kk q H0 D p l e R s m args below meth c Z C0 F H locs cells slots ls hR hl9 hk hn hL hlen)
  · obtain ⟨w, hw, rfl⟩ := List.mem_map.mp hz
    obtain ⟨w0, nm, a, b, c9, d9⟩ := hpass w hw
    exact Or.inr ⟨w0, nm, hts _ a, g12 X b nm c9 d9⟩
  · show (decide (s9 ≤ pc) && decide (pc < e9)) = true
    rw [decide_eq_true hcov.1, decide_eq_true hcov.2]
    rfl
theorem r_lcmp {x y : Int64} (hd : decode mi.2.1 pc = .ok (.lcmp, 1)) (kk : WW κ mi d k n Q E (pc + 1) L (.int (lg_cmp x y) :: st) h) : WW κ mi d k n Q E pc L (.long y :: .long x :: st) h :=
  ww_step (fun p l e R s m args below meth c Z H locs cells slots ls hx hb hL k9 => W.lcmp hx hb hd k9) kk
theorem r_dcmp {x y : UInt64} {op : CmpOp} (hd : decode mi.2.1 pc = .ok (.dcmp op, 1)) (kk : WW κ mi d k n Q E (pc + 1) L (.int (Op.cmpValue (FP.dcmp x y) op) :: st) h) : WW κ mi d k n Q E pc L (.double y :: .double x :: st) h :=
  ww_step (fun p l e R s m args below meth c Z H locs cells slots ls hx hb hL k9 => lv_dcmp hx hb hd k9) kk
/-- an int as a char -/
def chz (z : Int) : Int := (((J z).toUInt32 % 65536).toInt32).toInt
theorem chz_rg (z : Int) : 0 ≤ chz z ∧ chz z < 65536 := by
  have hn : ((J z).toUInt32 % 65536).toNat < 65536 := by
    rw [UInt32.toNat_mod]
    exact Nat.mod_lt _ (by decide)
  have e : chz z = (((J z).toUInt32 % 65536).toNat : Int) := by
    show ((J z).toUInt32 % 65536).toBitVec.toInt = _
    rw [BitVec.toInt_eq_toNat_of_lt]
    · rfl
    · show 2 * ((J z).toUInt32 % 65536).toNat < 2 ^ 32
      omega
  omega
theorem r_i2cZ {a : Int} (hd : decode mi.2.1 pc = .ok (.i2c, 1)) (kk : WW κ mi d k n Q E (pc + 1) L (.int (J (chz a)) :: st) h) : WW κ mi d k n Q E pc L (.int (J a) :: st) h := by
  refine r_i2c hd ?_
  rw [J_of (((J a).toUInt32 % 65536).toInt32)]
  exact kk
theorem lcmp_self (x : Int64) : lg_cmp x x = J 0 := by
  unfold lg_cmp
  rw [if_neg Int64.lt_irrefl, if_pos rfl]
  rfl
theorem LL_set2 {ls' : Array Slot} {L : List (Option Value)} {i : Nat} {v : Value} (hi : i + 1 < L.length) (hc : ∀ (j : Nat) (w : Value), j + 1 = i → L[j]? = some (some w) → w.category = 1) (hv : lv_has ls' L.length ((i, v) :: (asL L).filter (fun q => !(q.1 == i) && (!(q.1 == i + 1) && !(q.1 + 1 == i && q.2.category == 2))))) : LL ls' ((L.set i (some v)).set (i + 1) none) := by
  refine LL_of_has (by rw [List.length_set, List.length_set]; exact hv) fun k w hk => ?_
  by_cases e1 : k = i + 1
  · subst e1
    rw [List.getElem?_set_self (by rw [List.length_set]; exact hi)] at hk
    cases hk
  · rw [List.getElem?_set_ne (Ne.symm e1)] at hk
    by_cases e : k = i
    · subst e
      rw [List.getElem?_set_self (by omega)] at hk
      cases hk
      exact List.mem_cons_self
    · rw [List.getElem?_set_ne (Ne.symm e)] at hk
      refine List.mem_cons_of_mem _ (List.mem_filter.mpr ⟨asL_mem.mpr hk, ?_⟩)
      simp only [Bool.and_eq_true, Bool.not_eq_true', beq_eq_false_iff_ne, ne_eq, Bool.and_eq_false_iff]
      refine ⟨e, e1, ?_⟩
      by_cases e2 : k + 1 = i
      · exact Or.inr (by rw [hc k w e2 hk]; decide)
      · exact Or.inl e2
theorem r_ds7 {x0 x1 x2 x3 x4 x5 x6 x7 x8 : Option Value} {r : List (Option Value)} {v : UInt64} (hd : decode mi.2.1 pc = .ok (.dstore 7, 2)) (hc : c1 x6 = true) (kk : WW κ mi d k n Q E (pc + 2) (x0 :: x1 :: x2 :: x3 :: x4 :: x5 :: x6 :: some (.double v) :: none :: r) st h) : WW κ mi d k n Q E pc (x0 :: x1 :: x2 :: x3 :: x4 :: x5 :: x6 :: x7 :: x8 :: r) (.double v :: st) h := by
  intro H0 D p l e R s m args below meth c Z C F H locs cells slots ls hR hl hk hn hL hlen
  exact lv_dstore (i := 7) C.1 C.2.2.1 hd hL.has (show 7 + 1 < _ by simp) rfl fun ls9 h9 => kk H0 D p l e R s m args below meth c Z C F H locs cells slots ls9 hR hl hk hn (LL_set2 (i := 7) (by simp) (c1_at (i := 6) rfl hc) h9) (by simpa using hlen)
/-- the script is read -/
theorem r_scJ {ps N : Nat} {f : Int → Int} {i : Int} (hd : decode mi.2.1 pc = .ok (.iaload, 1)) (hs : LSc κ ps N f) (h0 : 0 ≤ i) (h1 : i < N) (h2 : N < 2147483648) (kk : WW κ mi d k n Q E (pc + 1) L (.int (J (f i)) :: st) h) : WW κ mi d k n Q E pc L (.int (J i) :: .ref ps :: st) h := by
  intro H0 D p l e R s m args below meth c Z C F H locs cells slots ls hR hl hk hn hL hlen
  have k9 := kk H0 D p l e R s m args below meth c Z C F H locs cells slots ls hR hl hk hn hL hlen
  obtain ⟨hx, hfl, hb, hr, hml, hown, hnm, hlk, htab, hts, hG, -⟩ := C
  obtain ⟨-, -, -, -, -, -, -, -, -, -, -, -, hb0, scr, x1, x2, x3, x4, x5⟩ := hG
  obtain ⟨rfl, rfl, e3⟩ := hs
  obtain ⟨g1, g2, g3⟩ := J_idx h0 h1 h2
  rw [e3 i, ← J_of (κ.2.2.2.2 i.toNat)] at k9
  exact W.iald (v := .int (κ.2.2.2.2 i.toNat)) hx hb (by rw [hR.2.1 _ hb0]; exact x1) x2 x3 (by rw [x4]; exact g1) (by rw [g2]; exact x5 _ g3) rfl rfl hd k9
theorem r_scl {ps N : Nat} {f : Int → Int} (hd : decode mi.2.1 pc = .ok (.arraylength, 1)) (hs : LSc κ ps N f) (kk : WW κ mi d k n Q E (pc + 1) L (.int (J (N : Int)) :: st) h) : WW κ mi d k n Q E pc L (.ref ps :: st) h := by
  intro H0 D p l e R s m args below meth c Z C F H locs cells slots ls hR hl hk hn hL hlen
  have k9 := kk H0 D p l e R s m args below meth c Z C F H locs cells slots ls hR hl hk hn hL hlen
  obtain ⟨hx, hfl, hb, hr, hml, hown, hnm, hlk, htab, hts, hG, -⟩ := C
  obtain ⟨-, -, -, -, -, -, -, -, -, -, -, -, hb0, scr, x1, x2, x3, x4, x5⟩ := hG
  obtain ⟨rfl, rfl, e3⟩ := hs
  rw [J_nat] at k9
  exact W.alen (n := Int32.ofNat κ.2.2.2.1) hx hb (by rw [hR.2.1 _ hb0]; exact x1) x2 (by rw [x4] <;> rfl) rfl rfl hd k9
theorem MM.wk {av : List Value} {Q2 : Option Value → AH → Prop} {E2 : String → AH → Prop} (m : MM κ mi d K N av h Q E) (hq : ∀ v h', Q v h' → Q2 v h') (he : ∀ X h', E X h' → E2 X h') : MM κ mi d K N av h Q2 E2 := by
  intro l H0 D hf p e ha hc hk s m9 args below hf9 h1 h2 h3
  obtain ⟨k, o, a1, a2, a3, hq9⟩ := m l H0 D hf p e ha hc hk s m9 args below hf9 h1 h2 h3
  refine ⟨k, o, a1, a2, a3, ?_⟩
  rcases hq9 with ⟨⟨v, h', e1, e2, e3⟩, hL⟩ | ⟨q, eq, X, ce, L, ⟨h', hx, hR⟩, hrest⟩
  · exact Or.inl ⟨⟨v, h', e1, hq _ _ e2, e3⟩, hL⟩
  · exact Or.inr ⟨q, eq, X, ce, L, ⟨h', he _ _ hx, hR⟩, hrest⟩
end LROWS
/-- what a helper of the law leaves: 0 and the answer in the row po, or the number of what was thrown -/
def HQ (Q : Option Value → AH → Prop) (E : String → AH → Prop) (xs : List String) (po : Nat) : Option Value → AH → Prop := fun v h' => ∃ k : Int, v = some (.int (J k)) ∧ ((k = 0 ∧ ∃ (r : Int) (h1 : AH) (f : Nat → Value), Q (some (.int (J r))) h1 ∧ h' = upA h1 po (true, .inl (.long, 1, f)) ∧ f 0 = .long (J r).toInt64) ∨ ∃ (t : Nat) (X : String), k = (t : Int) + 1 ∧ xs[t]? = some X ∧ E X h')
/-- .. of one that gives no answer -/
def HV (Q : Option Value → AH → Prop) (E : String → AH → Prop) (xs : List String) : Option Value → AH → Prop := fun v h' => ∃ k : Int, v = some (.int (J k)) ∧ ((k = 0 ∧ Q none h') ∨ ∃ (t : Nat) (X : String), k = (t : Int) + 1 ∧ xs[t]? = some X ∧ E X h')
/-- .. of one that gives a double -/
def HD2 (Q : Option Value → AH → Prop) (E : String → AH → Prop) (xs : List String) (po : Nat) : Option Value → AH → Prop := fun v h' => ∃ k : Int, v = some (.int (J k)) ∧ ((k = 0 ∧ ∃ (x : UInt64) (h1 : AH) (f : Nat → Value), Q (some (.double x)) h1 ∧ h' = upA h1 po (true, .inl (.double, 1, f)) ∧ f 0 = .double x) ∨ ∃ (t : Nat) (X : String), k = (t : Int) + 1 ∧ xs[t]? = some X ∧ E X h')
theorem lk_13 : Cond.classLink RL 13 EIA ∈ BIG := inB 521 (by decide +kernel) (by decide +kernel)
theorem lk_15 : Cond.classLink RL 15 EUO ∈ BIG := inB 522 (by decide +kernel) (by decide +kernel)
theorem lk_21 : Cond.classLink RL 21 EIO ∈ BIG := inB 671 (by decide +kernel) (by decide +kernel)
theorem lk_34 : Cond.classLink RL 34 EIS ∈ BIG := inB 756 (by decide +kernel) (by decide +kernel)
theorem lk_50 : Cond.classLink RL 50 ENS ∈ BIG := inB 882 (by decide +kernel) (by decide +kernel)
theorem lk_112 : Cond.classLink RL 112 EAR ∈ BIG := inB 1503 (by decide +kernel) (by decide +kernel)
theorem cst_EIO : Cond.castable EIO EIO ∈ BIK := inK 713 (by decide +kernel) (by decide +kernel)
theorem cst_EIS : Cond.castable EIS EIS ∈ BIK := inK 768 (by decide +kernel) (by decide +kernel)
theorem cst_ENS : Cond.castable ENS ENS ∈ BIK := inK 897 (by decide +kernel) (by decide +kernel)
theorem cst_EAR : Cond.castable EAR EAR ∈ BIK := inK 1515 (by decide +kernel) (by decide +kernel)
theorem cst_EIA : Cond.castable EIA EIA ∈ BIK := inK 539 (by decide +kernel) (by decide +kernel)
theorem cst_EUO : Cond.castable EUO EUO ∈ BIK := inK 608 (by decide +kernel) (by decide +kernel)
theorem ex_in : EIO ∈ exN ∧ EIS ∈ exN ∧ ENS ∈ exN ∧ EAR ∈ exN ∧ EIA ∈ exN ∧ EUO ∈ exN := by decide +kernel
set_option maxRecDepth 100000 in
set_option maxHeartbeats 4000000 in
theorem h_addCredit (κ : KP) {b po : Nat} {fs : List Value} {H : AH} {Q : Option Value → AH → Prop} {E : String → AH → Prop} {d K N : Nat} {a0 a1 a2 a3 : Int} (hb : H b = some (true, .inr (13, fs))) (hM : MM κ mX9_addCredit d K N [.ref b, .int (J a0), .int (J a1), .int (J a2), .int (J a3)] H Q E) (hQ : ∀ v h9, Q v h9 → ∃ r : Int, v = some (.int (J r)) ∧ ∃ f, h9 po = some (true, .inl (.long, 1, f))) (hE : ∀ X h9, E X h9 → X = EIA ∨ X = EUO) : MM κ mL_addCredit (d + 1) K N [.ref b, .int (J a0), .int (J a1), .int (J a2), .int (J a3), .ref po] H (HQ Q E [EIA, EUO] po) NoX := by
  refine mm_ofH (L := [some _, some _, some _, some _, some _, some _, none]) (by decide +kernel) rfl rfl (Nat.le_of_ble_eq_true rfl) rfl ?_
  refine r_al5 dL_addCredit_0 ?_
  refine r_iconst dL_addCredit_2 ?_
  refine r_al0 dL_addCredit_3 ?_
  refine r_il1 dL_addCredit_4 ?_
  refine r_il2 dL_addCredit_5 ?_
  refine r_il3 dL_addCredit_6 ?_
  refine r_il4 dL_addCredit_7 ?_
  refine r_callV (As := [.int (J a0), .int (J a1), .int (J a2), .int (J a3)]) dL_addCredit_9 v_L_7 hb hM (Nat.le_refl _) rfl rfl (cat_le rfl) (Nat.le_refl _) (Nat.le_refl _) (fun v h9 hq9 => ?_) (fun X h9 hx9 => ?_)
  · obtain ⟨r, rfl, f9, hpo⟩ := hQ _ _ hq9
    show WW κ _ _ _ _ _ _ _ _ (.int (J r) :: .int (J 0) :: .ref po :: []) h9
    refine r_i2l dL_addCredit_12 ?_
    refine r_last dL_addCredit_13 hpo (by decide) (by decide) (by decide) rfl ?_
    refine r_goto (tgt := 25) dL_addCredit_14 (by decide) ?_
    refine r_iconst dL_addCredit_25 ?_
    exact r_iret dL_addCredit_26 (ty := .int) rfl rfl ⟨0, rfl, Or.inl ⟨rfl, r, h9, _, hq9, rfl, rfl⟩⟩
  · have hX := hE _ _ hx9
    rcases hX with rfl | rfl
    · refine x_catch (X := EIA) (pre := []) (suf := [(0, 14, 21, 15)]) rfl (fun z hz => by cases hz) ⟨by decide, by decide⟩ (by decide) lk_13 cst_EIA (fun q9 => ?_)
      refine r_as6 dL_addCredit_17 rfl ?_
      refine r_iconst dL_addCredit_19 ?_
      exact r_iret dL_addCredit_20 (ty := .int) rfl rfl ⟨1, rfl, Or.inr ⟨0, _, rfl, rfl, hx9⟩⟩
    · refine x_catch (X := EUO) (pre := [(0, 14, 17, 13)]) (suf := []) rfl (fun z hz => by
              rcases List.mem_cons.mp hz with rfl | hz
              · exact ⟨by decide, EIA, lk_13, ex_in.2.2.2.2.2, ex_in.2.2.2.2.1, by decide +kernel⟩
              cases hz) ⟨by decide, by decide⟩ (by decide) lk_15 cst_EUO (fun q9 => ?_)
      refine r_as6 dL_addCredit_21 rfl ?_
      refine r_iconst dL_addCredit_23 ?_
      exact r_iret dL_addCredit_24 (ty := .int) rfl rfl ⟨2, rfl, Or.inr ⟨1, _, rfl, rfl, hx9⟩⟩
set_option maxRecDepth 100000 in
set_option maxHeartbeats 4000000 in
theorem h_dropCredit (κ : KP) {b po : Nat} {fs : List Value} {H : AH} {Q : Option Value → AH → Prop} {E : String → AH → Prop} {d K N : Nat} {a0 : Int} (hb : H b = some (true, .inr (13, fs))) (hM : MM κ mX9_dropCredit d K N [.ref b, .int (J a0)] H Q E) (hQ : ∀ v h9, Q v h9 → ∃ r : Int, v = some (.int (J r)) ∧ ∃ f, h9 po = some (true, .inl (.long, 1, f))) (hE : ∀ X h9, E X h9 → X = EIO) : MM κ mL_dropCredit (d + 1) K N [.ref b, .int (J a0), .ref po] H (HQ Q E [EIO] po) NoX := by
  refine mm_ofH (L := [some _, some _, some _, none]) (by decide +kernel) rfl rfl (Nat.le_of_ble_eq_true rfl) rfl ?_
  refine r_al2 dL_dropCredit_0 ?_
  refine r_iconst dL_dropCredit_1 ?_
  refine r_al0 dL_dropCredit_2 ?_
  refine r_il1 dL_dropCredit_3 ?_
  refine r_callV (As := [.int (J a0)]) dL_dropCredit_4 v_L_17 hb hM (Nat.le_refl _) rfl rfl (cat_le rfl) (Nat.le_refl _) (Nat.le_refl _) (fun v h9 hq9 => ?_) (fun X h9 hx9 => ?_)
  · obtain ⟨r, rfl, f9, hpo⟩ := hQ _ _ hq9
    show WW κ _ _ _ _ _ _ _ _ (.int (J r) :: .int (J 0) :: .ref po :: []) h9
    refine r_i2l dL_dropCredit_7 ?_
    refine r_last dL_dropCredit_8 hpo (by decide) (by decide) (by decide) rfl ?_
    refine r_goto (tgt := 15) dL_dropCredit_9 (by decide) ?_
    refine r_iconst dL_dropCredit_15 ?_
    exact r_iret dL_dropCredit_16 (ty := .int) rfl rfl ⟨0, rfl, Or.inl ⟨rfl, r, h9, _, hq9, rfl, rfl⟩⟩
  · obtain rfl := hE _ _ hx9
    refine x_catch (X := EIO) (pre := []) (suf := []) rfl (fun z hz => by cases hz) ⟨by decide, by decide⟩ (by decide) lk_21 cst_EIO (fun q9 => ?_)
    refine r_as3 dL_dropCredit_12 rfl ?_
    refine r_iconst dL_dropCredit_13 ?_
    exact r_iret dL_dropCredit_14 (ty := .int) rfl rfl ⟨1, rfl, Or.inr ⟨0, _, rfl, rfl, hx9⟩⟩
set_option maxRecDepth 100000 in
set_option maxHeartbeats 4000000 in
theorem h_credit (κ : KP) {b po : Nat} {fs : List Value} {H : AH} {Q : Option Value → AH → Prop} {E : String → AH → Prop} {d K N : Nat} {a0 a1 : Int} (hb : H b = some (true, .inr (13, fs))) (hM : MM κ mX9_credit d K N [.ref b, .int (J a0), .int (J a1)] H Q E) (hQ : ∀ v h9, Q v h9 → ∃ r : Int, v = some (.int (J r)) ∧ ∃ f, h9 po = some (true, .inl (.long, 1, f))) (hE : ∀ X h9, E X h9 → X = EIO ∨ X = EIA) : MM κ mL_credit (d + 1) K N [.ref b, .int (J a0), .int (J a1), .ref po] H (HQ Q E [EIO, EIA] po) NoX := by
  refine mm_ofH (L := [some _, some _, some _, some _, none]) (by decide +kernel) rfl rfl (Nat.le_of_ble_eq_true rfl) rfl ?_
  refine r_al3 dL_credit_0 ?_
  refine r_iconst dL_credit_1 ?_
  refine r_al0 dL_credit_2 ?_
  refine r_il1 dL_credit_3 ?_
  refine r_il2 dL_credit_4 ?_
  refine r_callV (As := [.int (J a0), .int (J a1)]) dL_credit_5 v_L_23 hb hM (Nat.le_refl _) rfl rfl (cat_le rfl) (Nat.le_refl _) (Nat.le_refl _) (fun v h9 hq9 => ?_) (fun X h9 hx9 => ?_)
  · obtain ⟨r, rfl, f9, hpo⟩ := hQ _ _ hq9
    show WW κ _ _ _ _ _ _ _ _ (.int (J r) :: .int (J 0) :: .ref po :: []) h9
    refine r_i2l dL_credit_8 ?_
    refine r_last dL_credit_9 hpo (by decide) (by decide) (by decide) rfl ?_
    refine r_goto (tgt := 21) dL_credit_10 (by decide) ?_
    refine r_iconst dL_credit_21 ?_
    exact r_iret dL_credit_22 (ty := .int) rfl rfl ⟨0, rfl, Or.inl ⟨rfl, r, h9, _, hq9, rfl, rfl⟩⟩
  · have hX := hE _ _ hx9
    rcases hX with rfl | rfl
    · refine x_catch (X := EIO) (pre := []) (suf := [(0, 10, 17, 13)]) rfl (fun z hz => by cases hz) ⟨by decide, by decide⟩ (by decide) lk_21 cst_EIO (fun q9 => ?_)
      refine r_as4 dL_credit_13 rfl ?_
      refine r_iconst dL_credit_15 ?_
      exact r_iret dL_credit_16 (ty := .int) rfl rfl ⟨1, rfl, Or.inr ⟨0, _, rfl, rfl, hx9⟩⟩
    · refine x_catch (X := EIA) (pre := [(0, 10, 13, 21)]) (suf := []) rfl (fun z hz => by
              rcases List.mem_cons.mp hz with rfl | hz
              · exact ⟨by decide, EIO, lk_21, ex_in.2.2.2.2.1, ex_in.1, by decide +kernel⟩
              cases hz) ⟨by decide, by decide⟩ (by decide) lk_13 cst_EIA (fun q9 => ?_)
      refine r_as4 dL_credit_17 rfl ?_
      refine r_iconst dL_credit_19 ?_
      exact r_iret dL_credit_20 (ty := .int) rfl rfl ⟨2, rfl, Or.inr ⟨1, _, rfl, rfl, hx9⟩⟩
set_option maxRecDepth 100000 in
set_option maxHeartbeats 4000000 in
theorem h_code (κ : KP) {b po : Nat} {fs : List Value} {H : AH} {Q : Option Value → AH → Prop} {E : String → AH → Prop} {d K N : Nat} {a0 : Int} (hb : H b = some (true, .inr (13, fs))) (hM : MM κ mX9_code d K N [.ref b, .int (J a0)] H Q E) (hQ : ∀ v h9, Q v h9 → ∃ r : Int, v = some (.int (J r)) ∧ ∃ f, h9 po = some (true, .inl (.long, 1, f))) (hE : ∀ X h9, E X h9 → X = EIO) : MM κ mL_code (d + 1) K N [.ref b, .int (J a0), .ref po] H (HQ Q E [EIO] po) NoX := by
  refine mm_ofH (L := [some _, some _, some _, none]) (by decide +kernel) rfl rfl (Nat.le_of_ble_eq_true rfl) rfl ?_
  refine r_al2 dL_code_0 ?_
  refine r_iconst dL_code_1 ?_
  refine r_al0 dL_code_2 ?_
  refine r_il1 dL_code_3 ?_
  refine r_callV (As := [.int (J a0)]) dL_code_4 v_L_27 hb hM (Nat.le_refl _) rfl rfl (cat_le rfl) (Nat.le_refl _) (Nat.le_refl _) (fun v h9 hq9 => ?_) (fun X h9 hx9 => ?_)
  · obtain ⟨r, rfl, f9, hpo⟩ := hQ _ _ hq9
    show WW κ _ _ _ _ _ _ _ _ (.int (J r) :: .int (J 0) :: .ref po :: []) h9
    refine r_i2l dL_code_7 ?_
    refine r_last dL_code_8 hpo (by decide) (by decide) (by decide) rfl ?_
    refine r_goto (tgt := 15) dL_code_9 (by decide) ?_
    refine r_iconst dL_code_15 ?_
    exact r_iret dL_code_16 (ty := .int) rfl rfl ⟨0, rfl, Or.inl ⟨rfl, r, h9, _, hq9, rfl, rfl⟩⟩
  · obtain rfl := hE _ _ hx9
    refine x_catch (X := EIO) (pre := []) (suf := []) rfl (fun z hz => by cases hz) ⟨by decide, by decide⟩ (by decide) lk_21 cst_EIO (fun q9 => ?_)
    refine r_as3 dL_code_12 rfl ?_
    refine r_iconst dL_code_13 ?_
    exact r_iret dL_code_14 (ty := .int) rfl rfl ⟨1, rfl, Or.inr ⟨0, _, rfl, rfl, hx9⟩⟩
set_option maxRecDepth 100000 in
set_option maxHeartbeats 4000000 in
theorem h_expires (κ : KP) {b po : Nat} {fs : List Value} {H : AH} {Q : Option Value → AH → Prop} {E : String → AH → Prop} {d K N : Nat} {a0 a1 : Int} (hb : H b = some (true, .inr (13, fs))) (hM : MM κ mX9_expires d K N [.ref b, .int (J a0), .int (J a1)] H Q E) (hQ : ∀ v h9, Q v h9 → ∃ r : Int, v = some (.int (J r)) ∧ ∃ f, h9 po = some (true, .inl (.long, 1, f))) (hE : ∀ X h9, E X h9 → X = EIO ∨ X = EIS) : MM κ mL_expires (d + 1) K N [.ref b, .int (J a0), .int (J a1), .ref po] H (HQ Q E [EIO, EIS] po) NoX := by
  refine mm_ofH (L := [some _, some _, some _, some _, none]) (by decide +kernel) rfl rfl (Nat.le_of_ble_eq_true rfl) rfl ?_
  refine r_al3 dL_expires_0 ?_
  refine r_iconst dL_expires_1 ?_
  refine r_al0 dL_expires_2 ?_
  refine r_il1 dL_expires_3 ?_
  refine r_il2 dL_expires_4 ?_
  refine r_callV (As := [.int (J a0), .int (J a1)]) dL_expires_5 v_L_31 hb hM (Nat.le_refl _) rfl rfl (cat_le rfl) (Nat.le_refl _) (Nat.le_refl _) (fun v h9 hq9 => ?_) (fun X h9 hx9 => ?_)
  · obtain ⟨r, rfl, f9, hpo⟩ := hQ _ _ hq9
    show WW κ _ _ _ _ _ _ _ _ (.int (J r) :: .int (J 0) :: .ref po :: []) h9
    refine r_i2l dL_expires_8 ?_
    refine r_last dL_expires_9 hpo (by decide) (by decide) (by decide) rfl ?_
    refine r_goto (tgt := 21) dL_expires_10 (by decide) ?_
    refine r_iconst dL_expires_21 ?_
    exact r_iret dL_expires_22 (ty := .int) rfl rfl ⟨0, rfl, Or.inl ⟨rfl, r, h9, _, hq9, rfl, rfl⟩⟩
  · have hX := hE _ _ hx9
    rcases hX with rfl | rfl
    · refine x_catch (X := EIO) (pre := []) (suf := [(0, 10, 17, 34)]) rfl (fun z hz => by cases hz) ⟨by decide, by decide⟩ (by decide) lk_21 cst_EIO (fun q9 => ?_)
      refine r_as4 dL_expires_13 rfl ?_
      refine r_iconst dL_expires_15 ?_
      exact r_iret dL_expires_16 (ty := .int) rfl rfl ⟨1, rfl, Or.inr ⟨0, _, rfl, rfl, hx9⟩⟩
    · refine x_catch (X := EIS) (pre := [(0, 10, 13, 21)]) (suf := []) rfl (fun z hz => by
              rcases List.mem_cons.mp hz with rfl | hz
              · exact ⟨by decide, EIO, lk_21, ex_in.2.1, ex_in.1, by decide +kernel⟩
              cases hz) ⟨by decide, by decide⟩ (by decide) lk_34 cst_EIS (fun q9 => ?_)
      refine r_as4 dL_expires_17 rfl ?_
      refine r_iconst dL_expires_19 ?_
      exact r_iret dL_expires_20 (ty := .int) rfl rfl ⟨2, rfl, Or.inr ⟨1, _, rfl, rfl, hx9⟩⟩
set_option maxRecDepth 100000 in
set_option maxHeartbeats 4000000 in
theorem h_addEquivalence (κ : KP) {b po : Nat} {fs : List Value} {H : AH} {Q : Option Value → AH → Prop} {E : String → AH → Prop} {d K N : Nat} {a0 a1 a2 a3 : Int} (hb : H b = some (true, .inr (13, fs))) (hM : MM κ mX9_addEquivalence d K N [.ref b, .int (J a0), .int (J a1), .int (J a2), .int (J a3)] H Q E) (hQ : ∀ v h9, Q v h9 → ∃ r : Int, v = some (.int (J r)) ∧ ∃ f, h9 po = some (true, .inl (.long, 1, f))) (hE : ∀ X h9, E X h9 → X = EIA ∨ X = EIS) : MM κ mL_addEquivalence (d + 1) K N [.ref b, .int (J a0), .int (J a1), .int (J a2), .int (J a3), .ref po] H (HQ Q E [EIA, EIS] po) NoX := by
  refine mm_ofH (L := [some _, some _, some _, some _, some _, some _, none]) (by decide +kernel) rfl rfl (Nat.le_of_ble_eq_true rfl) rfl ?_
  refine r_al5 dL_addEquivalence_0 ?_
  refine r_iconst dL_addEquivalence_2 ?_
  refine r_al0 dL_addEquivalence_3 ?_
  refine r_il1 dL_addEquivalence_4 ?_
  refine r_il2 dL_addEquivalence_5 ?_
  refine r_il3 dL_addEquivalence_6 ?_
  refine r_il4 dL_addEquivalence_7 ?_
  refine r_callV (As := [.int (J a0), .int (J a1), .int (J a2), .int (J a3)]) dL_addEquivalence_9 v_L_36 hb hM (Nat.le_refl _) rfl rfl (cat_le rfl) (Nat.le_refl _) (Nat.le_refl _) (fun v h9 hq9 => ?_) (fun X h9 hx9 => ?_)
  · obtain ⟨r, rfl, f9, hpo⟩ := hQ _ _ hq9
    show WW κ _ _ _ _ _ _ _ _ (.int (J r) :: .int (J 0) :: .ref po :: []) h9
    refine r_i2l dL_addEquivalence_12 ?_
    refine r_last dL_addEquivalence_13 hpo (by decide) (by decide) (by decide) rfl ?_
    refine r_goto (tgt := 25) dL_addEquivalence_14 (by decide) ?_
    refine r_iconst dL_addEquivalence_25 ?_
    exact r_iret dL_addEquivalence_26 (ty := .int) rfl rfl ⟨0, rfl, Or.inl ⟨rfl, r, h9, _, hq9, rfl, rfl⟩⟩
  · have hX := hE _ _ hx9
    rcases hX with rfl | rfl
    · refine x_catch (X := EIA) (pre := []) (suf := [(0, 14, 21, 34)]) rfl (fun z hz => by cases hz) ⟨by decide, by decide⟩ (by decide) lk_13 cst_EIA (fun q9 => ?_)
      refine r_as6 dL_addEquivalence_17 rfl ?_
      refine r_iconst dL_addEquivalence_19 ?_
      exact r_iret dL_addEquivalence_20 (ty := .int) rfl rfl ⟨1, rfl, Or.inr ⟨0, _, rfl, rfl, hx9⟩⟩
    · refine x_catch (X := EIS) (pre := [(0, 14, 17, 13)]) (suf := []) rfl (fun z hz => by
              rcases List.mem_cons.mp hz with rfl | hz
              · exact ⟨by decide, EIA, lk_13, ex_in.2.1, ex_in.2.2.2.2.1, by decide +kernel⟩
              cases hz) ⟨by decide, by decide⟩ (by decide) lk_34 cst_EIS (fun q9 => ?_)
      refine r_as6 dL_addEquivalence_21 rfl ?_
      refine r_iconst dL_addEquivalence_23 ?_
      exact r_iret dL_addEquivalence_24 (ty := .int) rfl rfl ⟨2, rfl, Or.inr ⟨1, _, rfl, rfl, hx9⟩⟩
set_option maxRecDepth 100000 in
set_option maxHeartbeats 4000000 in
theorem h_equivalent (κ : KP) {b po : Nat} {fs : List Value} {H : AH} {Q : Option Value → AH → Prop} {E : String → AH → Prop} {d K N : Nat} {a0 a1 : Int} (hb : H b = some (true, .inr (13, fs))) (hM : MM κ mX9_equivalent d K N [.ref b, .int (J a0), .int (J a1)] H Q E) (hQ : ∀ v h9, Q v h9 → ∃ r : Int, v = some (.int (J r)) ∧ ∃ f, h9 po = some (true, .inl (.long, 1, f))) (hE : ∀ X h9, E X h9 → X = EIO ∨ X = EIA) : MM κ mL_equivalent (d + 1) K N [.ref b, .int (J a0), .int (J a1), .ref po] H (HQ Q E [EIO, EIA] po) NoX := by
  refine mm_ofH (L := [some _, some _, some _, some _, none]) (by decide +kernel) rfl rfl (Nat.le_of_ble_eq_true rfl) rfl ?_
  refine r_al3 dL_equivalent_0 ?_
  refine r_iconst dL_equivalent_1 ?_
  refine r_al0 dL_equivalent_2 ?_
  refine r_il1 dL_equivalent_3 ?_
  refine r_il2 dL_equivalent_4 ?_
  refine r_callV (As := [.int (J a0), .int (J a1)]) dL_equivalent_5 v_L_40 hb hM (Nat.le_refl _) rfl rfl (cat_le rfl) (Nat.le_refl _) (Nat.le_refl _) (fun v h9 hq9 => ?_) (fun X h9 hx9 => ?_)
  · obtain ⟨r, rfl, f9, hpo⟩ := hQ _ _ hq9
    show WW κ _ _ _ _ _ _ _ _ (.int (J r) :: .int (J 0) :: .ref po :: []) h9
    refine r_i2l dL_equivalent_8 ?_
    refine r_last dL_equivalent_9 hpo (by decide) (by decide) (by decide) rfl ?_
    refine r_goto (tgt := 21) dL_equivalent_10 (by decide) ?_
    refine r_iconst dL_equivalent_21 ?_
    exact r_iret dL_equivalent_22 (ty := .int) rfl rfl ⟨0, rfl, Or.inl ⟨rfl, r, h9, _, hq9, rfl, rfl⟩⟩
  · have hX := hE _ _ hx9
    rcases hX with rfl | rfl
    · refine x_catch (X := EIO) (pre := []) (suf := [(0, 10, 17, 13)]) rfl (fun z hz => by cases hz) ⟨by decide, by decide⟩ (by decide) lk_21 cst_EIO (fun q9 => ?_)
      refine r_as4 dL_equivalent_13 rfl ?_
      refine r_iconst dL_equivalent_15 ?_
      exact r_iret dL_equivalent_16 (ty := .int) rfl rfl ⟨1, rfl, Or.inr ⟨0, _, rfl, rfl, hx9⟩⟩
    · refine x_catch (X := EIA) (pre := [(0, 10, 13, 21)]) (suf := []) rfl (fun z hz => by
              rcases List.mem_cons.mp hz with rfl | hz
              · exact ⟨by decide, EIO, lk_21, ex_in.2.2.2.2.1, ex_in.1, by decide +kernel⟩
              cases hz) ⟨by decide, by decide⟩ (by decide) lk_13 cst_EIA (fun q9 => ?_)
      refine r_as4 dL_equivalent_17 rfl ?_
      refine r_iconst dL_equivalent_19 ?_
      exact r_iret dL_equivalent_20 (ty := .int) rfl rfl ⟨2, rfl, Or.inr ⟨1, _, rfl, rfl, hx9⟩⟩
set_option maxRecDepth 100000 in
set_option maxHeartbeats 4000000 in
theorem h_apply (κ : KP) {b po : Nat} {fs : List Value} {H : AH} {Q : Option Value → AH → Prop} {E : String → AH → Prop} {d K N : Nat} {a0 : Int} (hb : H b = some (true, .inr (13, fs))) (hM : MM κ mX9_apply d K N [.ref b, .int (J a0)] H Q E) (hQ : ∀ v h9, Q v h9 → ∃ r : Int, v = some (.int (J r)) ∧ ∃ f, h9 po = some (true, .inl (.long, 1, f))) (hE : ∀ X h9, E X h9 → X = EIO ∨ X = EUO) : MM κ mL_apply (d + 1) K N [.ref b, .int (J a0), .ref po] H (HQ Q E [EIO, EUO] po) NoX := by
  refine mm_ofH (L := [some _, some _, some _, none]) (by decide +kernel) rfl rfl (Nat.le_of_ble_eq_true rfl) rfl ?_
  refine r_al2 dL_apply_0 ?_
  refine r_iconst dL_apply_1 ?_
  refine r_al0 dL_apply_2 ?_
  refine r_il1 dL_apply_3 ?_
  refine r_callV (As := [.int (J a0)]) dL_apply_4 v_L_44 hb hM (Nat.le_refl _) rfl rfl (cat_le rfl) (Nat.le_refl _) (Nat.le_refl _) (fun v h9 hq9 => ?_) (fun X h9 hx9 => ?_)
  · obtain ⟨r, rfl, f9, hpo⟩ := hQ _ _ hq9
    show WW κ _ _ _ _ _ _ _ _ (.int (J r) :: .int (J 0) :: .ref po :: []) h9
    refine r_i2l dL_apply_7 ?_
    refine r_last dL_apply_8 hpo (by decide) (by decide) (by decide) rfl ?_
    refine r_goto (tgt := 18) dL_apply_9 (by decide) ?_
    refine r_iconst dL_apply_18 ?_
    exact r_iret dL_apply_19 (ty := .int) rfl rfl ⟨0, rfl, Or.inl ⟨rfl, r, h9, _, hq9, rfl, rfl⟩⟩
  · have hX := hE _ _ hx9
    rcases hX with rfl | rfl
    · refine x_catch (X := EIO) (pre := []) (suf := [(0, 9, 15, 15)]) rfl (fun z hz => by cases hz) ⟨by decide, by decide⟩ (by decide) lk_21 cst_EIO (fun q9 => ?_)
      refine r_as3 dL_apply_12 rfl ?_
      refine r_iconst dL_apply_13 ?_
      exact r_iret dL_apply_14 (ty := .int) rfl rfl ⟨1, rfl, Or.inr ⟨0, _, rfl, rfl, hx9⟩⟩
    · refine x_catch (X := EUO) (pre := [(0, 9, 12, 21)]) (suf := []) rfl (fun z hz => by
              rcases List.mem_cons.mp hz with rfl | hz
              · exact ⟨by decide, EIO, lk_21, ex_in.2.2.2.2.2, ex_in.1, by decide +kernel⟩
              cases hz) ⟨by decide, by decide⟩ (by decide) lk_15 cst_EUO (fun q9 => ?_)
      refine r_as3 dL_apply_15 rfl ?_
      refine r_iconst dL_apply_16 ?_
      exact r_iret dL_apply_17 (ty := .int) rfl rfl ⟨2, rfl, Or.inr ⟨1, _, rfl, rfl, hx9⟩⟩
set_option maxRecDepth 100000 in
set_option maxHeartbeats 4000000 in
theorem h_rootsBy (κ : KP) {b po : Nat} {fs : List Value} {H : AH} {Q : Option Value → AH → Prop} {E : String → AH → Prop} {d K N : Nat} {a0 : Int} (hb : H b = some (true, .inr (13, fs))) (hM : MM κ mX9_rootsBy d K N [.ref b, .int (J a0)] H Q E) (hQ : ∀ v h9, Q v h9 → ∃ r : Int, v = some (.int (J r)) ∧ ∃ f, h9 po = some (true, .inl (.long, 1, f))) (hE : ∀ X h9, E X h9 → X = EIO ∨ X = ENS) : MM κ mL_rootsBy (d + 1) K N [.ref b, .int (J a0), .ref po] H (HQ Q E [EIO, ENS] po) NoX := by
  refine mm_ofH (L := [some _, some _, some _, none]) (by decide +kernel) rfl rfl (Nat.le_of_ble_eq_true rfl) rfl ?_
  refine r_al2 dL_rootsBy_0 ?_
  refine r_iconst dL_rootsBy_1 ?_
  refine r_al0 dL_rootsBy_2 ?_
  refine r_il1 dL_rootsBy_3 ?_
  refine r_callV (As := [.int (J a0)]) dL_rootsBy_4 v_L_47 hb hM (Nat.le_refl _) rfl rfl (cat_le rfl) (Nat.le_refl _) (Nat.le_refl _) (fun v h9 hq9 => ?_) (fun X h9 hx9 => ?_)
  · obtain ⟨r, rfl, f9, hpo⟩ := hQ _ _ hq9
    show WW κ _ _ _ _ _ _ _ _ (.int (J r) :: .int (J 0) :: .ref po :: []) h9
    refine r_i2l dL_rootsBy_7 ?_
    refine r_last dL_rootsBy_8 hpo (by decide) (by decide) (by decide) rfl ?_
    refine r_goto (tgt := 18) dL_rootsBy_9 (by decide) ?_
    refine r_iconst dL_rootsBy_18 ?_
    exact r_iret dL_rootsBy_19 (ty := .int) rfl rfl ⟨0, rfl, Or.inl ⟨rfl, r, h9, _, hq9, rfl, rfl⟩⟩
  · have hX := hE _ _ hx9
    rcases hX with rfl | rfl
    · refine x_catch (X := EIO) (pre := []) (suf := [(0, 9, 15, 50)]) rfl (fun z hz => by cases hz) ⟨by decide, by decide⟩ (by decide) lk_21 cst_EIO (fun q9 => ?_)
      refine r_as3 dL_rootsBy_12 rfl ?_
      refine r_iconst dL_rootsBy_13 ?_
      exact r_iret dL_rootsBy_14 (ty := .int) rfl rfl ⟨1, rfl, Or.inr ⟨0, _, rfl, rfl, hx9⟩⟩
    · refine x_catch (X := ENS) (pre := [(0, 9, 12, 21)]) (suf := []) rfl (fun z hz => by
              rcases List.mem_cons.mp hz with rfl | hz
              · exact ⟨by decide, EIO, lk_21, ex_in.2.2.1, ex_in.1, by decide +kernel⟩
              cases hz) ⟨by decide, by decide⟩ (by decide) lk_50 cst_ENS (fun q9 => ?_)
      refine r_as3 dL_rootsBy_15 rfl ?_
      refine r_iconst dL_rootsBy_16 ?_
      exact r_iret dL_rootsBy_17 (ty := .int) rfl rfl ⟨2, rfl, Or.inr ⟨1, _, rfl, rfl, hx9⟩⟩
set_option maxRecDepth 100000 in
set_option maxHeartbeats 4000000 in
theorem h_bestEquivalence (κ : KP) {b po : Nat} {fs : List Value} {H : AH} {Q : Option Value → AH → Prop} {E : String → AH → Prop} {d K N : Nat} (hb : H b = some (true, .inr (13, fs))) (hM : MM κ mX9_bestEquivalence d K N [.ref b] H Q E) (hQ : ∀ v h9, Q v h9 → ∃ r : Int, v = some (.int (J r)) ∧ ∃ f, h9 po = some (true, .inl (.long, 1, f))) (hE : ∀ X h9, E X h9 → X = ENS) : MM κ mL_bestEquivalence (d + 1) K N [.ref b, .ref po] H (HQ Q E [ENS] po) NoX := by
  refine mm_ofH (L := [some _, some _, none]) (by decide +kernel) rfl rfl (Nat.le_of_ble_eq_true rfl) rfl ?_
  refine r_al1 dL_bestEquivalence_0 ?_
  refine r_iconst dL_bestEquivalence_1 ?_
  refine r_al0 dL_bestEquivalence_2 ?_
  refine r_callV (As := []) dL_bestEquivalence_3 v_L_52 hb hM (Nat.le_refl _) rfl rfl (cat_le rfl) (Nat.le_refl _) (Nat.le_refl _) (fun v h9 hq9 => ?_) (fun X h9 hx9 => ?_)
  · obtain ⟨r, rfl, f9, hpo⟩ := hQ _ _ hq9
    show WW κ _ _ _ _ _ _ _ _ (.int (J r) :: .int (J 0) :: .ref po :: []) h9
    refine r_i2l dL_bestEquivalence_6 ?_
    refine r_last dL_bestEquivalence_7 hpo (by decide) (by decide) (by decide) rfl ?_
    refine r_goto (tgt := 14) dL_bestEquivalence_8 (by decide) ?_
    refine r_iconst dL_bestEquivalence_14 ?_
    exact r_iret dL_bestEquivalence_15 (ty := .int) rfl rfl ⟨0, rfl, Or.inl ⟨rfl, r, h9, _, hq9, rfl, rfl⟩⟩
  · obtain rfl := hE _ _ hx9
    refine x_catch (X := ENS) (pre := []) (suf := []) rfl (fun z hz => by cases hz) ⟨by decide, by decide⟩ (by decide) lk_50 cst_ENS (fun q9 => ?_)
    refine r_as2 dL_bestEquivalence_11 rfl ?_
    refine r_iconst dL_bestEquivalence_12 ?_
    exact r_iret dL_bestEquivalence_13 (ty := .int) rfl rfl ⟨1, rfl, Or.inr ⟨0, _, rfl, rfl, hx9⟩⟩
set_option maxRecDepth 100000 in
set_option maxHeartbeats 4000000 in
theorem h_append (κ : KP) {b : Nat} {fs : List Value} {H : AH} {Q : Option Value → AH → Prop} {E : String → AH → Prop} {d K N : Nat} {a0 : Int} (hb : H b = some (true, .inr (13, fs))) (hM : MM κ mX9_append d K N [.ref b, .int (J a0)] H Q E) (hQ : ∀ v h9, Q v h9 → v = none) (hE : ∀ X h9, E X h9 → X = EIS) : MM κ mL_append (d + 1) K N [.ref b, .int (J a0)] H (HV Q E [EIS]) NoX := by
  refine mm_ofH (L := [some _, some _, none]) (by decide +kernel) rfl rfl (Nat.le_of_ble_eq_true rfl) rfl ?_
  refine r_al0 dL_append_0 ?_
  refine r_il1 dL_append_1 ?_
  refine r_callV (As := [.int (J a0)]) dL_append_2 v_L_56 hb hM (Nat.le_refl _) rfl rfl (cat_le rfl) (Nat.le_refl _) (Nat.le_refl _) (fun v h9 hq9 => ?_) (fun X h9 hx9 => ?_)
  · obtain rfl := hQ _ _ hq9
    show WW κ _ _ _ _ _ _ _ _ [] h9
    refine r_goto (tgt := 11) dL_append_5 (by decide) ?_
    refine r_iconst dL_append_11 ?_
    exact r_iret dL_append_12 (ty := .int) rfl rfl ⟨0, rfl, Or.inl ⟨rfl, hq9⟩⟩
  · obtain rfl := hE _ _ hx9
    refine x_catch (X := EIS) (pre := []) (suf := []) rfl (fun z hz => by cases hz) ⟨by decide, by decide⟩ (by decide) lk_34 cst_EIS (fun q9 => ?_)
    refine r_as2 dL_append_8 rfl ?_
    refine r_iconst dL_append_9 ?_
    exact r_iret dL_append_10 (ty := .int) rfl rfl ⟨1, rfl, Or.inr ⟨0, _, rfl, rfl, hx9⟩⟩
set_option maxRecDepth 100000 in
set_option maxHeartbeats 4000000 in
theorem h_readProgram (κ : KP) {b po : Nat} {fs : List Value} {H : AH} {Q : Option Value → AH → Prop} {E : String → AH → Prop} {d K N : Nat} (hb : H b = some (true, .inr (13, fs))) (hM : MM κ mX9_readProgram d K N [.ref b] H Q E) (hQ : ∀ v h9, Q v h9 → ∃ r : Int, v = some (.int (J r)) ∧ ∃ f, h9 po = some (true, .inl (.long, 1, f))) (hE : ∀ X h9, E X h9 → X = EIA ∨ X = EUO) : MM κ mL_readProgram (d + 1) K N [.ref b, .ref po] H (HQ Q E [EIA, EUO] po) NoX := by
  refine mm_ofH (L := [some _, some _, none]) (by decide +kernel) rfl rfl (Nat.le_of_ble_eq_true rfl) rfl ?_
  refine r_al1 dL_readProgram_0 ?_
  refine r_iconst dL_readProgram_1 ?_
  refine r_al0 dL_readProgram_2 ?_
  refine r_callV (As := []) dL_readProgram_3 v_L_60 hb hM (Nat.le_refl _) rfl rfl (cat_le rfl) (Nat.le_refl _) (Nat.le_refl _) (fun v h9 hq9 => ?_) (fun X h9 hx9 => ?_)
  · obtain ⟨r, rfl, f9, hpo⟩ := hQ _ _ hq9
    show WW κ _ _ _ _ _ _ _ _ (.int (J r) :: .int (J 0) :: .ref po :: []) h9
    refine r_i2l dL_readProgram_6 ?_
    refine r_last dL_readProgram_7 hpo (by decide) (by decide) (by decide) rfl ?_
    refine r_goto (tgt := 17) dL_readProgram_8 (by decide) ?_
    refine r_iconst dL_readProgram_17 ?_
    exact r_iret dL_readProgram_18 (ty := .int) rfl rfl ⟨0, rfl, Or.inl ⟨rfl, r, h9, _, hq9, rfl, rfl⟩⟩
  · have hX := hE _ _ hx9
    rcases hX with rfl | rfl
    · refine x_catch (X := EIA) (pre := []) (suf := [(0, 8, 14, 15)]) rfl (fun z hz => by cases hz) ⟨by decide, by decide⟩ (by decide) lk_13 cst_EIA (fun q9 => ?_)
      refine r_as2 dL_readProgram_11 rfl ?_
      refine r_iconst dL_readProgram_12 ?_
      exact r_iret dL_readProgram_13 (ty := .int) rfl rfl ⟨1, rfl, Or.inr ⟨0, _, rfl, rfl, hx9⟩⟩
    · refine x_catch (X := EUO) (pre := [(0, 8, 11, 13)]) (suf := []) rfl (fun z hz => by
              rcases List.mem_cons.mp hz with rfl | hz
              · exact ⟨by decide, EIA, lk_13, ex_in.2.2.2.2.2, ex_in.2.2.2.2.1, by decide +kernel⟩
              cases hz) ⟨by decide, by decide⟩ (by decide) lk_15 cst_EUO (fun q9 => ?_)
      refine r_as2 dL_readProgram_14 rfl ?_
      refine r_iconst dL_readProgram_15 ?_
      exact r_iret dL_readProgram_16 (ty := .int) rfl rfl ⟨2, rfl, Or.inr ⟨1, _, rfl, rfl, hx9⟩⟩
set_option maxRecDepth 100000 in
set_option maxHeartbeats 4000000 in
theorem h_refusal (κ : KP) {b po : Nat} {fs : List Value} {H : AH} {Q : Option Value → AH → Prop} {E : String → AH → Prop} {d K N : Nat} (hb : H b = some (true, .inr (13, fs))) (hM : MM κ mX9_refusal d K N [.ref b] H Q E) (hQ : ∀ v h9, Q v h9 → ∃ r : Int, v = some (.int (J r)) ∧ ∃ f, h9 po = some (true, .inl (.long, 1, f))) (hE : ∀ X h9, E X h9 → X = ENS) : MM κ mL_refusal (d + 1) K N [.ref b, .ref po] H (HQ Q E [ENS] po) NoX := by
  refine mm_ofH (L := [some _, some _, none]) (by decide +kernel) rfl rfl (Nat.le_of_ble_eq_true rfl) rfl ?_
  refine r_al1 dL_refusal_0 ?_
  refine r_iconst dL_refusal_1 ?_
  refine r_al0 dL_refusal_2 ?_
  refine r_callV (As := []) dL_refusal_3 v_L_63 hb hM (Nat.le_refl _) rfl rfl (cat_le rfl) (Nat.le_refl _) (Nat.le_refl _) (fun v h9 hq9 => ?_) (fun X h9 hx9 => ?_)
  · obtain ⟨r, rfl, f9, hpo⟩ := hQ _ _ hq9
    show WW κ _ _ _ _ _ _ _ _ (.int (J r) :: .int (J 0) :: .ref po :: []) h9
    refine r_i2l dL_refusal_6 ?_
    refine r_last dL_refusal_7 hpo (by decide) (by decide) (by decide) rfl ?_
    refine r_goto (tgt := 14) dL_refusal_8 (by decide) ?_
    refine r_iconst dL_refusal_14 ?_
    exact r_iret dL_refusal_15 (ty := .int) rfl rfl ⟨0, rfl, Or.inl ⟨rfl, r, h9, _, hq9, rfl, rfl⟩⟩
  · obtain rfl := hE _ _ hx9
    refine x_catch (X := ENS) (pre := []) (suf := []) rfl (fun z hz => by cases hz) ⟨by decide, by decide⟩ (by decide) lk_50 cst_ENS (fun q9 => ?_)
    refine r_as2 dL_refusal_11 rfl ?_
    refine r_iconst dL_refusal_12 ?_
    exact r_iret dL_refusal_13 (ty := .int) rfl rfl ⟨1, rfl, Or.inr ⟨0, _, rfl, rfl, hx9⟩⟩
set_option maxRecDepth 100000 in
set_option maxHeartbeats 4000000 in
theorem h_block (κ : KP) {b po : Nat} {fs : List Value} {H : AH} {Q : Option Value → AH → Prop} {E : String → AH → Prop} {d K N : Nat} {a0 a1 : Int} (hb : H b = some (true, .inr (13, fs))) (hM : MM κ mX9_block d K N [.ref b, .int (J a0), .int (J a1)] H Q E) (hQ : ∀ v h9, Q v h9 → ∃ r : Int, v = some (.int (J r)) ∧ ∃ f, h9 po = some (true, .inl (.long, 1, f))) (hE : ∀ X h9, E X h9 → X = EIO ∨ X = EIA) : MM κ mL_block (d + 1) K N [.ref b, .int (J a0), .int (J a1), .ref po] H (HQ Q E [EIO, EIA] po) NoX := by
  refine mm_ofH (L := [some _, some _, some _, some _, none]) (by decide +kernel) rfl rfl (Nat.le_of_ble_eq_true rfl) rfl ?_
  refine r_al3 dL_block_0 ?_
  refine r_iconst dL_block_1 ?_
  refine r_al0 dL_block_2 ?_
  refine r_il1 dL_block_3 ?_
  refine r_il2 dL_block_4 ?_
  refine r_callV (As := [.int (J a0), .int (J a1)]) dL_block_5 v_L_66 hb hM (Nat.le_refl _) rfl rfl (cat_le rfl) (Nat.le_refl _) (Nat.le_refl _) (fun v h9 hq9 => ?_) (fun X h9 hx9 => ?_)
  · obtain ⟨r, rfl, f9, hpo⟩ := hQ _ _ hq9
    show WW κ _ _ _ _ _ _ _ _ (.int (J r) :: .int (J 0) :: .ref po :: []) h9
    refine r_i2l dL_block_8 ?_
    refine r_last dL_block_9 hpo (by decide) (by decide) (by decide) rfl ?_
    refine r_goto (tgt := 21) dL_block_10 (by decide) ?_
    refine r_iconst dL_block_21 ?_
    exact r_iret dL_block_22 (ty := .int) rfl rfl ⟨0, rfl, Or.inl ⟨rfl, r, h9, _, hq9, rfl, rfl⟩⟩
  · have hX := hE _ _ hx9
    rcases hX with rfl | rfl
    · refine x_catch (X := EIO) (pre := []) (suf := [(0, 10, 17, 13)]) rfl (fun z hz => by cases hz) ⟨by decide, by decide⟩ (by decide) lk_21 cst_EIO (fun q9 => ?_)
      refine r_as4 dL_block_13 rfl ?_
      refine r_iconst dL_block_15 ?_
      exact r_iret dL_block_16 (ty := .int) rfl rfl ⟨1, rfl, Or.inr ⟨0, _, rfl, rfl, hx9⟩⟩
    · refine x_catch (X := EIA) (pre := [(0, 10, 13, 21)]) (suf := []) rfl (fun z hz => by
              rcases List.mem_cons.mp hz with rfl | hz
              · exact ⟨by decide, EIO, lk_21, ex_in.2.2.2.2.1, ex_in.1, by decide +kernel⟩
              cases hz) ⟨by decide, by decide⟩ (by decide) lk_13 cst_EIA (fun q9 => ?_)
      refine r_as4 dL_block_17 rfl ?_
      refine r_iconst dL_block_19 ?_
      exact r_iret dL_block_20 (ty := .int) rfl rfl ⟨2, rfl, Or.inr ⟨1, _, rfl, rfl, hx9⟩⟩
set_option maxRecDepth 100000 in
set_option maxHeartbeats 4000000 in
theorem h_part (κ : KP) {b po : Nat} {fs : List Value} {H : AH} {Q : Option Value → AH → Prop} {E : String → AH → Prop} {d K N : Nat} {a0 a1 : Int} (hb : H b = some (true, .inr (13, fs))) (hM : MM κ mX9_part d K N [.ref b, .int (J a0), .int (J a1)] H Q E) (hQ : ∀ v h9, Q v h9 → ∃ r : Int, v = some (.int (J r)) ∧ ∃ f, h9 po = some (true, .inl (.long, 1, f))) (hE : ∀ X h9, E X h9 → X = EIO ∨ X = ENS) : MM κ mL_part (d + 1) K N [.ref b, .int (J a0), .int (J a1), .ref po] H (HQ Q E [EIO, ENS] po) NoX := by
  refine mm_ofH (L := [some _, some _, some _, some _, none]) (by decide +kernel) rfl rfl (Nat.le_of_ble_eq_true rfl) rfl ?_
  refine r_al3 dL_part_0 ?_
  refine r_iconst dL_part_1 ?_
  refine r_al0 dL_part_2 ?_
  refine r_il1 dL_part_3 ?_
  refine r_il2 dL_part_4 ?_
  refine r_callV (As := [.int (J a0), .int (J a1)]) dL_part_5 v_L_69 hb hM (Nat.le_refl _) rfl rfl (cat_le rfl) (Nat.le_refl _) (Nat.le_refl _) (fun v h9 hq9 => ?_) (fun X h9 hx9 => ?_)
  · obtain ⟨r, rfl, f9, hpo⟩ := hQ _ _ hq9
    show WW κ _ _ _ _ _ _ _ _ (.int (J r) :: .int (J 0) :: .ref po :: []) h9
    refine r_i2l dL_part_8 ?_
    refine r_last dL_part_9 hpo (by decide) (by decide) (by decide) rfl ?_
    refine r_goto (tgt := 21) dL_part_10 (by decide) ?_
    refine r_iconst dL_part_21 ?_
    exact r_iret dL_part_22 (ty := .int) rfl rfl ⟨0, rfl, Or.inl ⟨rfl, r, h9, _, hq9, rfl, rfl⟩⟩
  · have hX := hE _ _ hx9
    rcases hX with rfl | rfl
    · refine x_catch (X := EIO) (pre := []) (suf := [(0, 10, 17, 50)]) rfl (fun z hz => by cases hz) ⟨by decide, by decide⟩ (by decide) lk_21 cst_EIO (fun q9 => ?_)
      refine r_as4 dL_part_13 rfl ?_
      refine r_iconst dL_part_15 ?_
      exact r_iret dL_part_16 (ty := .int) rfl rfl ⟨1, rfl, Or.inr ⟨0, _, rfl, rfl, hx9⟩⟩
    · refine x_catch (X := ENS) (pre := [(0, 10, 13, 21)]) (suf := []) rfl (fun z hz => by
              rcases List.mem_cons.mp hz with rfl | hz
              · exact ⟨by decide, EIO, lk_21, ex_in.2.2.1, ex_in.1, by decide +kernel⟩
              cases hz) ⟨by decide, by decide⟩ (by decide) lk_50 cst_ENS (fun q9 => ?_)
      refine r_as4 dL_part_17 rfl ?_
      refine r_iconst dL_part_19 ?_
      exact r_iret dL_part_20 (ty := .int) rfl rfl ⟨2, rfl, Or.inr ⟨1, _, rfl, rfl, hx9⟩⟩
set_option maxRecDepth 100000 in
set_option maxHeartbeats 4000000 in
theorem h_letter (κ : KP) {b po : Nat} {fs : List Value} {H : AH} {Q : Option Value → AH → Prop} {E : String → AH → Prop} {d K N : Nat} {a0 a1 : Int} (hb : H b = some (true, .inr (13, fs))) (hM : MM κ mX9_letter d K N [.ref b, .int (J a0), .int (J a1)] H Q E) (hQ : ∀ v h9, Q v h9 → ∃ r : Int, v = some (.int (J r)) ∧ ∃ f, h9 po = some (true, .inl (.long, 1, f))) (hE : ∀ X h9, E X h9 → X = EIO ∨ X = ENS) : MM κ mL_letter (d + 1) K N [.ref b, .int (J a0), .int (J a1), .ref po] H (HQ Q E [EIO, ENS] po) NoX := by
  refine mm_ofH (L := [some _, some _, some _, some _, none]) (by decide +kernel) rfl rfl (Nat.le_of_ble_eq_true rfl) rfl ?_
  refine r_al3 dL_letter_0 ?_
  refine r_iconst dL_letter_1 ?_
  refine r_al0 dL_letter_2 ?_
  refine r_il1 dL_letter_3 ?_
  refine r_il2 dL_letter_4 ?_
  refine r_callV (As := [.int (J a0), .int (J a1)]) dL_letter_5 v_L_72 hb hM (Nat.le_refl _) rfl rfl (cat_le rfl) (Nat.le_refl _) (Nat.le_refl _) (fun v h9 hq9 => ?_) (fun X h9 hx9 => ?_)
  · obtain ⟨r, rfl, f9, hpo⟩ := hQ _ _ hq9
    show WW κ _ _ _ _ _ _ _ _ (.int (J r) :: .int (J 0) :: .ref po :: []) h9
    refine r_i2l dL_letter_8 ?_
    refine r_last dL_letter_9 hpo (by decide) (by decide) (by decide) rfl ?_
    refine r_goto (tgt := 21) dL_letter_10 (by decide) ?_
    refine r_iconst dL_letter_21 ?_
    exact r_iret dL_letter_22 (ty := .int) rfl rfl ⟨0, rfl, Or.inl ⟨rfl, r, h9, _, hq9, rfl, rfl⟩⟩
  · have hX := hE _ _ hx9
    rcases hX with rfl | rfl
    · refine x_catch (X := EIO) (pre := []) (suf := [(0, 10, 17, 50)]) rfl (fun z hz => by cases hz) ⟨by decide, by decide⟩ (by decide) lk_21 cst_EIO (fun q9 => ?_)
      refine r_as4 dL_letter_13 rfl ?_
      refine r_iconst dL_letter_15 ?_
      exact r_iret dL_letter_16 (ty := .int) rfl rfl ⟨1, rfl, Or.inr ⟨0, _, rfl, rfl, hx9⟩⟩
    · refine x_catch (X := ENS) (pre := [(0, 10, 13, 21)]) (suf := []) rfl (fun z hz => by
              rcases List.mem_cons.mp hz with rfl | hz
              · exact ⟨by decide, EIO, lk_21, ex_in.2.2.1, ex_in.1, by decide +kernel⟩
              cases hz) ⟨by decide, by decide⟩ (by decide) lk_50 cst_ENS (fun q9 => ?_)
      refine r_as4 dL_letter_17 rfl ?_
      refine r_iconst dL_letter_19 ?_
      exact r_iret dL_letter_20 (ty := .int) rfl rfl ⟨2, rfl, Or.inr ⟨1, _, rfl, rfl, hx9⟩⟩
set_option maxRecDepth 100000 in
set_option maxHeartbeats 4000000 in
theorem h_accepts (κ : KP) {b po : Nat} {fs : List Value} {H : AH} {Q : Option Value → AH → Prop} {E : String → AH → Prop} {d K N : Nat} {a0 a1 : Int} (hb : H b = some (true, .inr (13, fs))) (hM : MM κ mX9_accepts d K N [.ref b, .int (J a0), .int (J a1)] H Q E) (hQ : ∀ v h9, Q v h9 → ∃ r : Int, v = some (.int (J r)) ∧ (0 ≤ r ∧ r ≤ 1) ∧ ∃ f, h9 po = some (true, .inl (.long, 1, f))) (hE : ∀ X h9, E X h9 → X = EIO) : MM κ mL_accepts (d + 1) K N [.ref b, .int (J a0), .int (J a1), .ref po] H (HQ Q E [EIO] po) NoX := by
  refine mm_ofH (L := [some _, some _, some _, some _, none]) (by decide +kernel) rfl rfl (Nat.le_of_ble_eq_true rfl) rfl ?_
  refine r_al3 dL_accepts_0 ?_
  refine r_iconst dL_accepts_1 ?_
  refine r_al0 dL_accepts_2 ?_
  refine r_il1 dL_accepts_3 ?_
  refine r_il2 dL_accepts_4 ?_
  refine r_callV (As := [.int (J a0), .int (J a1)]) dL_accepts_5 v_L_75 hb hM (Nat.le_refl _) rfl rfl (cat_le rfl) (Nat.le_refl _) (Nat.le_refl _) (fun v h9 hq9 => ?_) (fun X h9 hx9 => ?_)
  · obtain ⟨r, rfl, r01, f9, hpo⟩ := hQ _ _ hq9
    show WW κ _ _ _ _ _ _ _ _ (.int (J r) :: .int (J 0) :: .ref po :: []) h9
    refine r_if_eq (tgt := 15) dL_accepts_8 (by decide) (by omega) (fun c_8 => ?_) (fun c_8 => ?_)
    · refine r_lconst dL_accepts_15 ?_
      refine r_last dL_accepts_16 hpo (by decide) (by decide) (by decide) rfl ?_
      refine r_goto (tgt := 24) dL_accepts_17 (by decide) ?_
      refine r_iconst dL_accepts_24 ?_
      first
        | (obtain rfl : r = 0 := by omega
           exact r_iret dL_accepts_25 (ty := .int) rfl rfl ⟨0, rfl, Or.inl ⟨rfl, 0, h9, _, hq9, rfl, rfl⟩⟩)
        | (obtain rfl : r = 1 := by omega
           exact r_iret dL_accepts_25 (ty := .int) rfl rfl ⟨0, rfl, Or.inl ⟨rfl, 1, h9, _, hq9, rfl, rfl⟩⟩)
    · refine r_lconst dL_accepts_11 ?_
      refine r_goto (tgt := 16) dL_accepts_12 (by decide) ?_
      refine r_last dL_accepts_16 hpo (by decide) (by decide) (by decide) rfl ?_
      refine r_goto (tgt := 24) dL_accepts_17 (by decide) ?_
      refine r_iconst dL_accepts_24 ?_
      first
        | (obtain rfl : r = 0 := by omega
           exact r_iret dL_accepts_25 (ty := .int) rfl rfl ⟨0, rfl, Or.inl ⟨rfl, 0, h9, _, hq9, rfl, rfl⟩⟩)
        | (obtain rfl : r = 1 := by omega
           exact r_iret dL_accepts_25 (ty := .int) rfl rfl ⟨0, rfl, Or.inl ⟨rfl, 1, h9, _, hq9, rfl, rfl⟩⟩)
  · obtain rfl := hE _ _ hx9
    refine x_catch (X := EIO) (pre := []) (suf := []) rfl (fun z hz => by cases hz) ⟨by decide, by decide⟩ (by decide) lk_21 cst_EIO (fun q9 => ?_)
    refine r_as4 dL_accepts_20 rfl ?_
    refine r_iconst dL_accepts_22 ?_
    exact r_iret dL_accepts_23 (ty := .int) rfl rfl ⟨1, rfl, Or.inr ⟨0, _, rfl, rfl, hx9⟩⟩
set_option maxRecDepth 100000 in
set_option maxHeartbeats 4000000 in
theorem h_isMet (κ : KP) {b po : Nat} {fs : List Value} {H : AH} {Q : Option Value → AH → Prop} {E : String → AH → Prop} {d K N : Nat} {a0 : Int} (hb : H b = some (true, .inr (13, fs))) (hM : MM κ mX9_isMet d K N [.ref b, .int (J a0)] H Q E) (hQ : ∀ v h9, Q v h9 → ∃ r : Int, v = some (.int (J r)) ∧ (0 ≤ r ∧ r ≤ 1) ∧ ∃ f, h9 po = some (true, .inl (.long, 1, f))) (hE : ∀ X h9, E X h9 → X = EIO) : MM κ mL_isMet (d + 1) K N [.ref b, .int (J a0), .ref po] H (HQ Q E [EIO] po) NoX := by
  refine mm_ofH (L := [some _, some _, some _, none]) (by decide +kernel) rfl rfl (Nat.le_of_ble_eq_true rfl) rfl ?_
  refine r_al2 dL_isMet_0 ?_
  refine r_iconst dL_isMet_1 ?_
  refine r_al0 dL_isMet_2 ?_
  refine r_il1 dL_isMet_3 ?_
  refine r_callV (As := [.int (J a0)]) dL_isMet_4 v_L_79 hb hM (Nat.le_refl _) rfl rfl (cat_le rfl) (Nat.le_refl _) (Nat.le_refl _) (fun v h9 hq9 => ?_) (fun X h9 hx9 => ?_)
  · obtain ⟨r, rfl, r01, f9, hpo⟩ := hQ _ _ hq9
    show WW κ _ _ _ _ _ _ _ _ (.int (J r) :: .int (J 0) :: .ref po :: []) h9
    refine r_if_eq (tgt := 14) dL_isMet_7 (by decide) (by omega) (fun c_7 => ?_) (fun c_7 => ?_)
    · refine r_lconst dL_isMet_14 ?_
      refine r_last dL_isMet_15 hpo (by decide) (by decide) (by decide) rfl ?_
      refine r_goto (tgt := 22) dL_isMet_16 (by decide) ?_
      refine r_iconst dL_isMet_22 ?_
      first
        | (obtain rfl : r = 0 := by omega
           exact r_iret dL_isMet_23 (ty := .int) rfl rfl ⟨0, rfl, Or.inl ⟨rfl, 0, h9, _, hq9, rfl, rfl⟩⟩)
        | (obtain rfl : r = 1 := by omega
           exact r_iret dL_isMet_23 (ty := .int) rfl rfl ⟨0, rfl, Or.inl ⟨rfl, 1, h9, _, hq9, rfl, rfl⟩⟩)
    · refine r_lconst dL_isMet_10 ?_
      refine r_goto (tgt := 15) dL_isMet_11 (by decide) ?_
      refine r_last dL_isMet_15 hpo (by decide) (by decide) (by decide) rfl ?_
      refine r_goto (tgt := 22) dL_isMet_16 (by decide) ?_
      refine r_iconst dL_isMet_22 ?_
      first
        | (obtain rfl : r = 0 := by omega
           exact r_iret dL_isMet_23 (ty := .int) rfl rfl ⟨0, rfl, Or.inl ⟨rfl, 0, h9, _, hq9, rfl, rfl⟩⟩)
        | (obtain rfl : r = 1 := by omega
           exact r_iret dL_isMet_23 (ty := .int) rfl rfl ⟨0, rfl, Or.inl ⟨rfl, 1, h9, _, hq9, rfl, rfl⟩⟩)
  · obtain rfl := hE _ _ hx9
    refine x_catch (X := EIO) (pre := []) (suf := []) rfl (fun z hz => by cases hz) ⟨by decide, by decide⟩ (by decide) lk_21 cst_EIO (fun q9 => ?_)
    refine r_as3 dL_isMet_19 rfl ?_
    refine r_iconst dL_isMet_20 ?_
    exact r_iret dL_isMet_21 (ty := .int) rfl rfl ⟨1, rfl, Or.inr ⟨0, _, rfl, rfl, hx9⟩⟩
set_option maxRecDepth 100000 in
set_option maxHeartbeats 4000000 in
theorem h_points (κ : KP) {b po : Nat} {fs : List Value} {H : AH} {Q : Option Value → AH → Prop} {E : String → AH → Prop} {d K N : Nat} {a0 : Int} (hb : H b = some (true, .inr (13, fs))) (hM : MM κ mX9_points d K N [.ref b, .int (J a0)] H Q E) (hQ : ∀ v h9, Q v h9 → ∃ r : Int, v = some (.int (J r)) ∧ ∃ f, h9 po = some (true, .inl (.long, 1, f))) (hE : ∀ X h9, E X h9 → X = EIO) : MM κ mL_points (d + 1) K N [.ref b, .int (J a0), .ref po] H (HQ Q E [EIO] po) NoX := by
  refine mm_ofH (L := [some _, some _, some _, none]) (by decide +kernel) rfl rfl (Nat.le_of_ble_eq_true rfl) rfl ?_
  refine r_al2 dL_points_0 ?_
  refine r_iconst dL_points_1 ?_
  refine r_al0 dL_points_2 ?_
  refine r_il1 dL_points_3 ?_
  refine r_callV (As := [.int (J a0)]) dL_points_4 v_L_83 hb hM (Nat.le_refl _) rfl rfl (cat_le rfl) (Nat.le_refl _) (Nat.le_refl _) (fun v h9 hq9 => ?_) (fun X h9 hx9 => ?_)
  · obtain ⟨r, rfl, f9, hpo⟩ := hQ _ _ hq9
    show WW κ _ _ _ _ _ _ _ _ (.int (J r) :: .int (J 0) :: .ref po :: []) h9
    refine r_i2l dL_points_7 ?_
    refine r_last dL_points_8 hpo (by decide) (by decide) (by decide) rfl ?_
    refine r_goto (tgt := 15) dL_points_9 (by decide) ?_
    refine r_iconst dL_points_15 ?_
    exact r_iret dL_points_16 (ty := .int) rfl rfl ⟨0, rfl, Or.inl ⟨rfl, r, h9, _, hq9, rfl, rfl⟩⟩
  · obtain rfl := hE _ _ hx9
    refine x_catch (X := EIO) (pre := []) (suf := []) rfl (fun z hz => by cases hz) ⟨by decide, by decide⟩ (by decide) lk_21 cst_EIO (fun q9 => ?_)
    refine r_as3 dL_points_12 rfl ?_
    refine r_iconst dL_points_13 ?_
    exact r_iret dL_points_14 (ty := .int) rfl rfl ⟨1, rfl, Or.inr ⟨0, _, rfl, rfl, hx9⟩⟩
set_option maxRecDepth 100000 in
set_option maxHeartbeats 4000000 in
theorem h_lacks (κ : KP) {b po : Nat} {fs : List Value} {H : AH} {Q : Option Value → AH → Prop} {E : String → AH → Prop} {d K N : Nat} {a0 : Int} (hb : H b = some (true, .inr (13, fs))) (hM : MM κ mX9_lacks d K N [.ref b, .int (J a0)] H Q E) (hQ : ∀ v h9, Q v h9 → ∃ r : Int, v = some (.int (J r)) ∧ ∃ f, h9 po = some (true, .inl (.long, 1, f))) (hE : ∀ X h9, E X h9 → X = EIO ∨ X = EIS) : MM κ mL_lacks (d + 1) K N [.ref b, .int (J a0), .ref po] H (HQ Q E [EIO, EIS] po) NoX := by
  refine mm_ofH (L := [some _, some _, some _, none]) (by decide +kernel) rfl rfl (Nat.le_of_ble_eq_true rfl) rfl ?_
  refine r_al2 dL_lacks_0 ?_
  refine r_iconst dL_lacks_1 ?_
  refine r_al0 dL_lacks_2 ?_
  refine r_il1 dL_lacks_3 ?_
  refine r_callV (As := [.int (J a0)]) dL_lacks_4 v_L_86 hb hM (Nat.le_refl _) rfl rfl (cat_le rfl) (Nat.le_refl _) (Nat.le_refl _) (fun v h9 hq9 => ?_) (fun X h9 hx9 => ?_)
  · obtain ⟨r, rfl, f9, hpo⟩ := hQ _ _ hq9
    show WW κ _ _ _ _ _ _ _ _ (.int (J r) :: .int (J 0) :: .ref po :: []) h9
    refine r_i2l dL_lacks_7 ?_
    refine r_last dL_lacks_8 hpo (by decide) (by decide) (by decide) rfl ?_
    refine r_goto (tgt := 18) dL_lacks_9 (by decide) ?_
    refine r_iconst dL_lacks_18 ?_
    exact r_iret dL_lacks_19 (ty := .int) rfl rfl ⟨0, rfl, Or.inl ⟨rfl, r, h9, _, hq9, rfl, rfl⟩⟩
  · have hX := hE _ _ hx9
    rcases hX with rfl | rfl
    · refine x_catch (X := EIO) (pre := []) (suf := [(0, 9, 15, 34)]) rfl (fun z hz => by cases hz) ⟨by decide, by decide⟩ (by decide) lk_21 cst_EIO (fun q9 => ?_)
      refine r_as3 dL_lacks_12 rfl ?_
      refine r_iconst dL_lacks_13 ?_
      exact r_iret dL_lacks_14 (ty := .int) rfl rfl ⟨1, rfl, Or.inr ⟨0, _, rfl, rfl, hx9⟩⟩
    · refine x_catch (X := EIS) (pre := [(0, 9, 12, 21)]) (suf := []) rfl (fun z hz => by
              rcases List.mem_cons.mp hz with rfl | hz
              · exact ⟨by decide, EIO, lk_21, ex_in.2.1, ex_in.1, by decide +kernel⟩
              cases hz) ⟨by decide, by decide⟩ (by decide) lk_34 cst_EIS (fun q9 => ?_)
      refine r_as3 dL_lacks_15 rfl ?_
      refine r_iconst dL_lacks_16 ?_
      exact r_iret dL_lacks_17 (ty := .int) rfl rfl ⟨2, rfl, Or.inr ⟨1, _, rfl, rfl, hx9⟩⟩
set_option maxRecDepth 100000 in
set_option maxHeartbeats 4000000 in
theorem h_rootsWith (κ : KP) {b po : Nat} {fs : List Value} {H : AH} {Q : Option Value → AH → Prop} {E : String → AH → Prop} {d K N : Nat} {a0 a1 a2 a3 : Int} (hb : H b = some (true, .inr (13, fs))) (hM : MM κ mX9_rootsWith d K N [.ref b, .int (J a0), .int (J a1), .int (J a2), .int (J a3)] H Q E) (hQ : ∀ v h9, Q v h9 → ∃ r : Int, v = some (.int (J r)) ∧ ∃ f, h9 po = some (true, .inl (.long, 1, f))) (hE : ∀ X h9, E X h9 → X = EIA ∨ X = EIS) : MM κ mL_rootsWith (d + 1) K N [.ref b, .int (J a0), .int (J a1), .int (J a2), .int (J a3), .ref po] H (HQ Q E [EIA, EIS] po) NoX := by
  refine mm_ofH (L := [some _, some _, some _, some _, some _, some _, none]) (by decide +kernel) rfl rfl (Nat.le_of_ble_eq_true rfl) rfl ?_
  refine r_al5 dL_rootsWith_0 ?_
  refine r_iconst dL_rootsWith_2 ?_
  refine r_al0 dL_rootsWith_3 ?_
  refine r_il1 dL_rootsWith_4 ?_
  refine r_il2 dL_rootsWith_5 ?_
  refine r_il3 dL_rootsWith_6 ?_
  refine r_il4 dL_rootsWith_7 ?_
  refine r_callV (As := [.int (J a0), .int (J a1), .int (J a2), .int (J a3)]) dL_rootsWith_9 v_L_89 hb hM (Nat.le_refl _) rfl rfl (cat_le rfl) (Nat.le_refl _) (Nat.le_refl _) (fun v h9 hq9 => ?_) (fun X h9 hx9 => ?_)
  · obtain ⟨r, rfl, f9, hpo⟩ := hQ _ _ hq9
    show WW κ _ _ _ _ _ _ _ _ (.int (J r) :: .int (J 0) :: .ref po :: []) h9
    refine r_i2l dL_rootsWith_12 ?_
    refine r_last dL_rootsWith_13 hpo (by decide) (by decide) (by decide) rfl ?_
    refine r_goto (tgt := 25) dL_rootsWith_14 (by decide) ?_
    refine r_iconst dL_rootsWith_25 ?_
    exact r_iret dL_rootsWith_26 (ty := .int) rfl rfl ⟨0, rfl, Or.inl ⟨rfl, r, h9, _, hq9, rfl, rfl⟩⟩
  · have hX := hE _ _ hx9
    rcases hX with rfl | rfl
    · refine x_catch (X := EIA) (pre := []) (suf := [(0, 14, 21, 34)]) rfl (fun z hz => by cases hz) ⟨by decide, by decide⟩ (by decide) lk_13 cst_EIA (fun q9 => ?_)
      refine r_as6 dL_rootsWith_17 rfl ?_
      refine r_iconst dL_rootsWith_19 ?_
      exact r_iret dL_rootsWith_20 (ty := .int) rfl rfl ⟨1, rfl, Or.inr ⟨0, _, rfl, rfl, hx9⟩⟩
    · refine x_catch (X := EIS) (pre := [(0, 14, 17, 13)]) (suf := []) rfl (fun z hz => by
              rcases List.mem_cons.mp hz with rfl | hz
              · exact ⟨by decide, EIA, lk_13, ex_in.2.1, ex_in.2.2.2.2.1, by decide +kernel⟩
              cases hz) ⟨by decide, by decide⟩ (by decide) lk_34 cst_EIS (fun q9 => ?_)
      refine r_as6 dL_rootsWith_21 rfl ?_
      refine r_iconst dL_rootsWith_23 ?_
      exact r_iret dL_rootsWith_24 (ty := .int) rfl rfl ⟨2, rfl, Or.inr ⟨1, _, rfl, rfl, hx9⟩⟩
set_option maxRecDepth 100000 in
set_option maxHeartbeats 4000000 in
theorem h_lapses (κ : KP) {b po : Nat} {fs : List Value} {H : AH} {Q : Option Value → AH → Prop} {E : String → AH → Prop} {d K N : Nat} (hb : H b = some (true, .inr (13, fs))) (hM : MM κ mX9_lapses d K N [.ref b] H Q E) (hQ : ∀ v h9, Q v h9 → ∃ r : Int, v = some (.int (J r)) ∧ ∃ f, h9 po = some (true, .inl (.long, 1, f))) (hE : ∀ X h9, E X h9 → X = ENS) : MM κ mL_lapses (d + 1) K N [.ref b, .ref po] H (HQ Q E [ENS] po) NoX := by
  refine mm_ofH (L := [some _, some _, none]) (by decide +kernel) rfl rfl (Nat.le_of_ble_eq_true rfl) rfl ?_
  refine r_al1 dL_lapses_0 ?_
  refine r_iconst dL_lapses_1 ?_
  refine r_al0 dL_lapses_2 ?_
  refine r_callV (As := []) dL_lapses_3 v_L_92 hb hM (Nat.le_refl _) rfl rfl (cat_le rfl) (Nat.le_refl _) (Nat.le_refl _) (fun v h9 hq9 => ?_) (fun X h9 hx9 => ?_)
  · obtain ⟨r, rfl, f9, hpo⟩ := hQ _ _ hq9
    show WW κ _ _ _ _ _ _ _ _ (.int (J r) :: .int (J 0) :: .ref po :: []) h9
    refine r_i2l dL_lapses_6 ?_
    refine r_last dL_lapses_7 hpo (by decide) (by decide) (by decide) rfl ?_
    refine r_goto (tgt := 14) dL_lapses_8 (by decide) ?_
    refine r_iconst dL_lapses_14 ?_
    exact r_iret dL_lapses_15 (ty := .int) rfl rfl ⟨0, rfl, Or.inl ⟨rfl, r, h9, _, hq9, rfl, rfl⟩⟩
  · obtain rfl := hE _ _ hx9
    refine x_catch (X := ENS) (pre := []) (suf := []) rfl (fun z hz => by cases hz) ⟨by decide, by decide⟩ (by decide) lk_50 cst_ENS (fun q9 => ?_)
    refine r_as2 dL_lapses_11 rfl ?_
    refine r_iconst dL_lapses_12 ?_
    exact r_iret dL_lapses_13 (ty := .int) rfl rfl ⟨1, rfl, Or.inr ⟨0, _, rfl, rfl, hx9⟩⟩
set_option maxRecDepth 100000 in
set_option maxHeartbeats 4000000 in
theorem h_layers (κ : KP) {b po : Nat} {fs : List Value} {H : AH} {Q : Option Value → AH → Prop} {E : String → AH → Prop} {d K N : Nat} {a0 : Int} (hb : H b = some (true, .inr (13, fs))) (hM : MM κ mX9_layers d K N [.ref b, .int (J a0)] H Q E) (hQ : ∀ v h9, Q v h9 → ∃ r : Int, v = some (.int (J r)) ∧ ∃ f, h9 po = some (true, .inl (.long, 1, f))) (hE : ∀ X h9, E X h9 → X = EIO) : MM κ mL_layers (d + 1) K N [.ref b, .int (J a0), .ref po] H (HQ Q E [EIO] po) NoX := by
  refine mm_ofH (L := [some _, some _, some _, none]) (by decide +kernel) rfl rfl (Nat.le_of_ble_eq_true rfl) rfl ?_
  refine r_al2 dL_layers_0 ?_
  refine r_iconst dL_layers_1 ?_
  refine r_al0 dL_layers_2 ?_
  refine r_il1 dL_layers_3 ?_
  refine r_callV (As := [.int (J a0)]) dL_layers_4 v_L_95 hb hM (Nat.le_refl _) rfl rfl (cat_le rfl) (Nat.le_refl _) (Nat.le_refl _) (fun v h9 hq9 => ?_) (fun X h9 hx9 => ?_)
  · obtain ⟨r, rfl, f9, hpo⟩ := hQ _ _ hq9
    show WW κ _ _ _ _ _ _ _ _ (.int (J r) :: .int (J 0) :: .ref po :: []) h9
    refine r_i2l dL_layers_7 ?_
    refine r_last dL_layers_8 hpo (by decide) (by decide) (by decide) rfl ?_
    refine r_goto (tgt := 15) dL_layers_9 (by decide) ?_
    refine r_iconst dL_layers_15 ?_
    exact r_iret dL_layers_16 (ty := .int) rfl rfl ⟨0, rfl, Or.inl ⟨rfl, r, h9, _, hq9, rfl, rfl⟩⟩
  · obtain rfl := hE _ _ hx9
    refine x_catch (X := EIO) (pre := []) (suf := []) rfl (fun z hz => by cases hz) ⟨by decide, by decide⟩ (by decide) lk_21 cst_EIO (fun q9 => ?_)
    refine r_as3 dL_layers_12 rfl ?_
    refine r_iconst dL_layers_13 ?_
    exact r_iret dL_layers_14 (ty := .int) rfl rfl ⟨1, rfl, Or.inr ⟨0, _, rfl, rfl, hx9⟩⟩
set_option maxRecDepth 100000 in
set_option maxHeartbeats 4000000 in
theorem h_why (κ : KP) {b po : Nat} {fs : List Value} {H : AH} {Q : Option Value → AH → Prop} {E : String → AH → Prop} {d K N : Nat} {a0 a1 a2 : Int} (hb : H b = some (true, .inr (13, fs))) (hM : MM κ mX9_why d K N [.ref b, .int (J a0), .int (J a1), .int (J a2)] H Q E) (hQ : ∀ v h9, Q v h9 → ∃ r : Int, v = some (.int (J r)) ∧ ∃ f, h9 po = some (true, .inl (.long, 1, f))) (hE : ∀ X h9, E X h9 → X = EIO ∨ X = ENS ∨ X = EIA) : MM κ mL_why (d + 1) K N [.ref b, .int (J a0), .int (J a1), .int (J a2), .ref po] H (HQ Q E [EIO, ENS, EIA] po) NoX := by
  refine mm_ofH (L := [some _, some _, some _, some _, some _, none]) (by decide +kernel) rfl rfl (Nat.le_of_ble_eq_true rfl) rfl ?_
  refine r_al4 dL_why_0 ?_
  refine r_iconst dL_why_2 ?_
  refine r_al0 dL_why_3 ?_
  refine r_il1 dL_why_4 ?_
  refine r_il2 dL_why_5 ?_
  refine r_il3 dL_why_6 ?_
  refine r_callV (As := [.int (J a0), .int (J a1), .int (J a2)]) dL_why_7 v_L_98 hb hM (Nat.le_refl _) rfl rfl (cat_le rfl) (Nat.le_refl _) (Nat.le_refl _) (fun v h9 hq9 => ?_) (fun X h9 hx9 => ?_)
  · obtain ⟨r, rfl, f9, hpo⟩ := hQ _ _ hq9
    show WW κ _ _ _ _ _ _ _ _ (.int (J r) :: .int (J 0) :: .ref po :: []) h9
    refine r_i2l dL_why_10 ?_
    refine r_last dL_why_11 hpo (by decide) (by decide) (by decide) rfl ?_
    refine r_goto (tgt := 27) dL_why_12 (by decide) ?_
    refine r_iconst dL_why_27 ?_
    exact r_iret dL_why_28 (ty := .int) rfl rfl ⟨0, rfl, Or.inl ⟨rfl, r, h9, _, hq9, rfl, rfl⟩⟩
  · have hX := hE _ _ hx9
    rcases hX with rfl | rfl | rfl
    · refine x_catch (X := EIO) (pre := []) (suf := [(0, 12, 19, 50), (0, 12, 23, 13)]) rfl (fun z hz => by cases hz) ⟨by decide, by decide⟩ (by decide) lk_21 cst_EIO (fun q9 => ?_)
      refine r_as5 dL_why_15 rfl ?_
      refine r_iconst dL_why_17 ?_
      exact r_iret dL_why_18 (ty := .int) rfl rfl ⟨1, rfl, Or.inr ⟨0, _, rfl, rfl, hx9⟩⟩
    · refine x_catch (X := ENS) (pre := [(0, 12, 15, 21)]) (suf := [(0, 12, 23, 13)]) rfl (fun z hz => by
              rcases List.mem_cons.mp hz with rfl | hz
              · exact ⟨by decide, EIO, lk_21, ex_in.2.2.1, ex_in.1, by decide +kernel⟩
              cases hz) ⟨by decide, by decide⟩ (by decide) lk_50 cst_ENS (fun q9 => ?_)
      refine r_as5 dL_why_19 rfl ?_
      refine r_iconst dL_why_21 ?_
      exact r_iret dL_why_22 (ty := .int) rfl rfl ⟨2, rfl, Or.inr ⟨1, _, rfl, rfl, hx9⟩⟩
    · refine x_catch (X := EIA) (pre := [(0, 12, 15, 21), (0, 12, 19, 50)]) (suf := []) rfl (fun z hz => by
              rcases List.mem_cons.mp hz with rfl | hz
              · exact ⟨by decide, EIO, lk_21, ex_in.2.2.2.2.1, ex_in.1, by decide +kernel⟩
              rcases List.mem_cons.mp hz with rfl | hz
              · exact ⟨by decide, ENS, lk_50, ex_in.2.2.2.2.1, ex_in.2.2.1, by decide +kernel⟩
              cases hz) ⟨by decide, by decide⟩ (by decide) lk_13 cst_EIA (fun q9 => ?_)
      refine r_as5 dL_why_23 rfl ?_
      refine r_iconst dL_why_25 ?_
      exact r_iret dL_why_26 (ty := .int) rfl rfl ⟨3, rfl, Or.inr ⟨2, _, rfl, rfl, hx9⟩⟩
set_option maxRecDepth 100000 in
set_option maxHeartbeats 4000000 in
theorem h_pass (κ : KP) {b po : Nat} {fs : List Value} {H : AH} {Q : Option Value → AH → Prop} {E : String → AH → Prop} {d K N : Nat} {a0 : Int} (hb : H b = some (true, .inr (13, fs))) (hM : MM κ mX9_pass d K N [.ref b, .int (J a0)] H Q E) (hQ : ∀ v h9, Q v h9 → ∃ r : Int, v = some (.int (J r)) ∧ ∃ f, h9 po = some (true, .inl (.long, 1, f))) (hE : ∀ X h9, E X h9 → X = EIA) : MM κ mL_pass (d + 1) K N [.ref b, .int (J a0), .ref po] H (HQ Q E [EIA] po) NoX := by
  refine mm_ofH (L := [some _, some _, some _, none]) (by decide +kernel) rfl rfl (Nat.le_of_ble_eq_true rfl) rfl ?_
  refine r_al2 dL_pass_0 ?_
  refine r_iconst dL_pass_1 ?_
  refine r_al0 dL_pass_2 ?_
  refine r_il1 dL_pass_3 ?_
  refine r_callV (As := [.int (J a0)]) dL_pass_4 v_L_102 hb hM (Nat.le_refl _) rfl rfl (cat_le rfl) (Nat.le_refl _) (Nat.le_refl _) (fun v h9 hq9 => ?_) (fun X h9 hx9 => ?_)
  · obtain ⟨r, rfl, f9, hpo⟩ := hQ _ _ hq9
    show WW κ _ _ _ _ _ _ _ _ (.int (J r) :: .int (J 0) :: .ref po :: []) h9
    refine r_i2l dL_pass_7 ?_
    refine r_last dL_pass_8 hpo (by decide) (by decide) (by decide) rfl ?_
    refine r_goto (tgt := 15) dL_pass_9 (by decide) ?_
    refine r_iconst dL_pass_15 ?_
    exact r_iret dL_pass_16 (ty := .int) rfl rfl ⟨0, rfl, Or.inl ⟨rfl, r, h9, _, hq9, rfl, rfl⟩⟩
  · obtain rfl := hE _ _ hx9
    refine x_catch (X := EIA) (pre := []) (suf := []) rfl (fun z hz => by cases hz) ⟨by decide, by decide⟩ (by decide) lk_13 cst_EIA (fun q9 => ?_)
    refine r_as3 dL_pass_12 rfl ?_
    refine r_iconst dL_pass_13 ?_
    exact r_iret dL_pass_14 (ty := .int) rfl rfl ⟨1, rfl, Or.inr ⟨0, _, rfl, rfl, hx9⟩⟩
set_option maxRecDepth 100000 in
set_option maxHeartbeats 4000000 in
theorem h_account (κ : KP) {b po : Nat} {fs : List Value} {H : AH} {Q : Option Value → AH → Prop} {E : String → AH → Prop} {d K N : Nat} {a0 : Int} (hb : H b = some (true, .inr (13, fs))) (hM : MM κ mX9_account d K N [.ref b, .int (J a0)] H Q E) (hQ : ∀ v h9, Q v h9 → ∃ r : Int, v = some (.int (J r)) ∧ ∃ f, h9 po = some (true, .inl (.long, 1, f))) (hE : ∀ X h9, E X h9 → X = EIA) : MM κ mL_account (d + 1) K N [.ref b, .int (J a0), .ref po] H (HQ Q E [EIA] po) NoX := by
  refine mm_ofH (L := [some _, some _, some _, none]) (by decide +kernel) rfl rfl (Nat.le_of_ble_eq_true rfl) rfl ?_
  refine r_al2 dL_account_0 ?_
  refine r_iconst dL_account_1 ?_
  refine r_al0 dL_account_2 ?_
  refine r_il1 dL_account_3 ?_
  refine r_callV (As := [.int (J a0)]) dL_account_4 v_L_105 hb hM (Nat.le_refl _) rfl rfl (cat_le rfl) (Nat.le_refl _) (Nat.le_refl _) (fun v h9 hq9 => ?_) (fun X h9 hx9 => ?_)
  · obtain ⟨r, rfl, f9, hpo⟩ := hQ _ _ hq9
    show WW κ _ _ _ _ _ _ _ _ (.int (J r) :: .int (J 0) :: .ref po :: []) h9
    refine r_i2l dL_account_7 ?_
    refine r_last dL_account_8 hpo (by decide) (by decide) (by decide) rfl ?_
    refine r_goto (tgt := 15) dL_account_9 (by decide) ?_
    refine r_iconst dL_account_15 ?_
    exact r_iret dL_account_16 (ty := .int) rfl rfl ⟨0, rfl, Or.inl ⟨rfl, r, h9, _, hq9, rfl, rfl⟩⟩
  · obtain rfl := hE _ _ hx9
    refine x_catch (X := EIA) (pre := []) (suf := []) rfl (fun z hz => by cases hz) ⟨by decide, by decide⟩ (by decide) lk_13 cst_EIA (fun q9 => ?_)
    refine r_as3 dL_account_12 rfl ?_
    refine r_iconst dL_account_13 ?_
    exact r_iret dL_account_14 (ty := .int) rfl rfl ⟨1, rfl, Or.inr ⟨0, _, rfl, rfl, hx9⟩⟩
set_option maxRecDepth 100000 in
set_option maxHeartbeats 4000000 in
theorem h_meanGrade (κ : KP) {b po : Nat} {fs : List Value} {H : AH} {Q : Option Value → AH → Prop} {E : String → AH → Prop} {d K N : Nat} (hb : H b = some (true, .inr (13, fs))) (hM : MM κ mX9_meanGrade d K N [.ref b] H Q E) (hQ : ∀ v h9, Q v h9 → ∃ x : UInt64, v = some (.double x) ∧ ∃ f, h9 po = some (true, .inl (.double, 1, f))) (hE : ∀ X h9, E X h9 → X = EAR) : MM κ mL_meanGrade (d + 1) K N [.ref b, .ref po] H (HD2 Q E [EAR] po) NoX := by
  refine mm_ofH (L := [some _, some _, none]) (by decide +kernel) rfl rfl (Nat.le_of_ble_eq_true rfl) rfl ?_
  refine r_al1 dL_meanGrade_0 ?_
  refine r_iconst dL_meanGrade_1 ?_
  refine r_al0 dL_meanGrade_2 ?_
  refine r_callV (As := []) dL_meanGrade_3 v_L_108 hb hM (Nat.le_refl _) rfl rfl (cat_le rfl) (Nat.le_refl _) (Nat.le_refl _) (fun v h9 hq9 => ?_) (fun X h9 hx9 => ?_)
  · obtain ⟨x, rfl, f9, hpo⟩ := hQ _ _ hq9
    show WW κ _ _ _ _ _ _ _ _ (.double x :: .int (J 0) :: .ref po :: []) h9
    refine r_dast dL_meanGrade_6 hpo (by decide) (by decide) (by decide) rfl ?_
    refine r_goto (tgt := 13) dL_meanGrade_7 (by decide) ?_
    refine r_iconst dL_meanGrade_13 ?_
    exact r_iret dL_meanGrade_14 (ty := .int) rfl rfl ⟨0, rfl, Or.inl ⟨rfl, x, h9, _, hq9, rfl, rfl⟩⟩
  · obtain rfl := hE _ _ hx9
    refine x_catch (X := EAR) (pre := []) (suf := []) rfl (fun z hz => by cases hz) ⟨by decide, by decide⟩ (by decide) lk_112 cst_EAR (fun q9 => ?_)
    refine r_as2 dL_meanGrade_10 rfl ?_
    refine r_iconst dL_meanGrade_11 ?_
    exact r_iret dL_meanGrade_12 (ty := .int) rfl rfl ⟨1, rfl, Or.inr ⟨0, _, rfl, rfl, hx9⟩⟩
set_option maxRecDepth 100000 in
set_option maxHeartbeats 4000000 in
theorem h_undo (κ : KP) {b po : Nat} {fs : List Value} {H : AH} {Q : Option Value → AH → Prop} {E : String → AH → Prop} {d K N : Nat} (hb : H b = some (true, .inr (13, fs))) (hM : MM κ mX9_undo d K N [.ref b] H Q E) (hQ : ∀ v h9, Q v h9 → ∃ r : Int, v = some (.int (J r)) ∧ ∃ f, h9 po = some (true, .inl (.long, 1, f))) (hE : ∀ X h9, E X h9 → X = EIS) : MM κ mL_undo (d + 1) K N [.ref b, .ref po] H (HQ Q E [EIS] po) NoX := by
  refine mm_ofH (L := [some _, some _, none]) (by decide +kernel) rfl rfl (Nat.le_of_ble_eq_true rfl) rfl ?_
  refine r_al1 dL_undo_0 ?_
  refine r_iconst dL_undo_1 ?_
  refine r_al0 dL_undo_2 ?_
  refine r_callV (As := []) dL_undo_3 v_L_114 hb hM (Nat.le_refl _) rfl rfl (cat_le rfl) (Nat.le_refl _) (Nat.le_refl _) (fun v h9 hq9 => ?_) (fun X h9 hx9 => ?_)
  · obtain ⟨r, rfl, f9, hpo⟩ := hQ _ _ hq9
    show WW κ _ _ _ _ _ _ _ _ (.int (J r) :: .int (J 0) :: .ref po :: []) h9
    refine r_i2l dL_undo_6 ?_
    refine r_last dL_undo_7 hpo (by decide) (by decide) (by decide) rfl ?_
    refine r_goto (tgt := 14) dL_undo_8 (by decide) ?_
    refine r_iconst dL_undo_14 ?_
    exact r_iret dL_undo_15 (ty := .int) rfl rfl ⟨0, rfl, Or.inl ⟨rfl, r, h9, _, hq9, rfl, rfl⟩⟩
  · obtain rfl := hE _ _ hx9
    refine x_catch (X := EIS) (pre := []) (suf := []) rfl (fun z hz => by cases hz) ⟨by decide, by decide⟩ (by decide) lk_34 cst_EIS (fun q9 => ?_)
    refine r_as2 dL_undo_11 rfl ?_
    refine r_iconst dL_undo_12 ?_
    exact r_iret dL_undo_13 (ty := .int) rfl rfl ⟨1, rfl, Or.inr ⟨0, _, rfl, rfl, hx9⟩⟩
set_option maxRecDepth 100000 in
set_option maxHeartbeats 4000000 in
theorem h_restore (κ : KP) {b : Nat} {fs : List Value} {H : AH} {Q : Option Value → AH → Prop} {E : String → AH → Prop} {d K N : Nat} (hb : H b = some (true, .inr (13, fs))) (hM : MM κ mX9_restore d K N [.ref b] H Q E) (hQ : ∀ v h9, Q v h9 → v = none) (hE : ∀ X h9, E X h9 → X = EIS) : MM κ mL_restore (d + 1) K N [.ref b] H (HV Q E [EIS]) NoX := by
  refine mm_ofH (L := [some _, none]) (by decide +kernel) rfl rfl (Nat.le_of_ble_eq_true rfl) rfl ?_
  refine r_al0 dL_restore_0 ?_
  refine r_callV (As := []) dL_restore_1 v_L_117 hb hM (Nat.le_refl _) rfl rfl (cat_le rfl) (Nat.le_refl _) (Nat.le_refl _) (fun v h9 hq9 => ?_) (fun X h9 hx9 => ?_)
  · obtain rfl := hQ _ _ hq9
    show WW κ _ _ _ _ _ _ _ _ [] h9
    refine r_goto (tgt := 10) dL_restore_4 (by decide) ?_
    refine r_iconst dL_restore_10 ?_
    exact r_iret dL_restore_11 (ty := .int) rfl rfl ⟨0, rfl, Or.inl ⟨rfl, hq9⟩⟩
  · obtain rfl := hE _ _ hx9
    refine x_catch (X := EIS) (pre := []) (suf := []) rfl (fun z hz => by cases hz) ⟨by decide, by decide⟩ (by decide) lk_34 cst_EIS (fun q9 => ?_)
    refine r_as1 dL_restore_7 rfl ?_
    refine r_iconst dL_restore_8 ?_
    exact r_iret dL_restore_9 (ty := .int) rfl rfl ⟨1, rfl, Or.inr ⟨0, _, rfl, rfl, hx9⟩⟩
