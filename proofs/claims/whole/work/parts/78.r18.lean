/-! ===== a block comes ===== -/
theorem cset_upA {B : Nat → Nat} {S : CST} {h : AH} {a : Nat} {c : HC} (hk : ∀ k ∈ bids, B k ≠ a) : upA (cset B S h) a c = cset B S (upA h a c) := by
  funext q
  by_cases e : q = a
  · rw [e, upA_same, cset_off hk, upA_same]
  · rw [upA_ne e]
    unfold cset
    cases bids.find? (fun k => B k == q) with
    | some k => rfl
    | none => exact (upA_ne e).symm
theorem new_off {B : Nat → Nat} {S : CST} {h : AH} {a : Nat} (hB : BA B) (ha : cset B S h a = none) : ∀ k ∈ bids, B k ≠ a := fun k hk e => by
  rw [← e, cset_at hB hk] at ha
  cases ha
/-- the row of a block that comes within the groups st -/
def RwN (row : Int → Int) (st : List Int) (must term gr : Int) (n : Nat) (t : Int → Int) : Prop := row 1 = par st ∧ row 11 = st.length ∧ row 2 = must ∧ row 3 = term ∧ row 4 = gr ∧ row 5 = (n : Int) ∧ n ≤ 5 ∧ ∀ i : Int, 0 ≤ i → i < n → row (6 + i) = t i
set_option maxRecDepth 100000 in
set_option maxHeartbeats 4000000 in
theorem t_addB (κ : KP) {B : Nat → Nat} {S : CST} (h : AH) (hB : BA B) {s n : Nat} {t row : Int → Int} {must term gr : Int} {st : List Int} (hs : StrAt κ (cset B S h) s n t) (hO : OpS (S 10) st) (hl : S 1 7 = st.length) (h3 : st.length ≤ 3) (hr : RwN row st must term gr n t) (c0 : 0 ≤ S 1 5) (c1 : S 1 5 < 50) : MM κ mX7_addBlock 3 1 6 [.ref (B 1), .ref s, .int (J must), .int (J term), .int (J gr)] (cset B S h) (fun v h' => v = none ∧ ∃ a : Nat, h' = cset B (updm (updm S 9 (S 1 5) (a : Int)) 1 5 (S 1 5 + 1)) h' ∧ Fr B (cset B S h) h' ∧ BlR κ h' a row) NoX := by
  refine mm_of (L := [some _, some _, some _, some _, some _]) (by decide +kernel) rfl rfl (Nat.le_of_ble_eq_true rfl) rfl ?_
  refine r_al0 dX7_addBlock_0 ?_
  refine b_get dX7_addBlock_1 f_X7_35 hB (by decide) (k9 := 1) rfl rfl ?_
  refine r_al0 dX7_addBlock_4 ?_
  refine b_get dX7_addBlock_5 f_X7_31 hB (by decide) (k9 := 1) rfl rfl ?_
  refine r_alenF dX7_addBlock_8 (cs_arr hB (k9 := 9) (by decide) rfl) (by decide) rfl ?_
  refine r_icmp_ge (tgt := 51) dX7_addBlock_9 (by decide) (by (first | omega)) (by (first | omega)) (fun c_9 => ?_) (fun c_9 => ?_)
  · exact absurd c_9 (by omega)
  · refine r_al0 dX7_addBlock_12 ?_
    refine b_get dX7_addBlock_13 f_X7_31 hB (by decide) (k9 := 1) rfl rfl ?_
    refine r_al0 dX7_addBlock_16 ?_
    refine b_get dX7_addBlock_17 f_X7_35 hB (by decide) (k9 := 1) rfl rfl ?_
    refine r_new dX7_addBlock_20 n_X7_29 (by decide) (by decide) (fun a9 ha9 => ?_)
    have hk := new_off hB ha9
    rw [cset_upA hk]
    refine r_dup dX7_addBlock_23 rfl ?_
    refine r_al1 dX7_addBlock_24 ?_
    refine r_al0 dX7_addBlock_25 ?_
    refine r_callVP0 dX7_addBlock_26 v_X7_111 (cs_obj hB (k9 := 1) (by decide) rfl) (t_inner κ _ hB hO hl h3) (by decide) rfl ?_
    refine r_al0 dX7_addBlock_29 ?_
    refine b_get dX7_addBlock_30 f_X7_42 hB (by decide) (k9 := 1) rfl rfl ?_
    refine r_il2 dX7_addBlock_33 ?_
    refine r_il3 dX7_addBlock_34 ?_
    refine r_il4 dX7_addBlock_35 ?_
    refine r_init (As := [.ref s, .int (J (par st)), .int (J (S 1 7)), .int (J must), .int (J term), .int (J gr)]) dX7_addBlock_37 i_X7_114 (c_blInit κ _ (by rw [cset_off hk]; exact upA_same)) (by decide) rfl rfl rfl ?_
    rw [cset_upA hk, upA_upA]
    have hx : Ext (cset B S h) (cset B S (upA h a9 (false, .inr (5, [.ref s, .int (J (par st)), .int (J (S 1 7)), .int (J must), .int (J term), .int (J gr)])))) := by rw [← cset_upA hk]; exact Ext.up ha9
    have hat : cset B S (upA h a9 (false, .inr (5, [.ref s, .int (J (par st)), .int (J (S 1 7)), .int (J must), .int (J term), .int (J gr)]))) a9 = some (false, .inr (5, [.ref s, .int (J (par st)), .int (J (S 1 7)), .int (J must), .int (J term), .int (J gr)])) := by rw [cset_off hk]; exact upA_same
    generalize upA h a9 (false, .inr (5, [.ref s, .int (J (par st)), .int (J (S 1 7)), .int (J must), .int (J term), .int (J gr)])) = h7 at hx hat ⊢
    refine b_aast (k9 := 9) dX7_addBlock_40 hB (by decide) (fun _ => rfl) (by decide) hat rfl (by omega) (by omega) (by omega) ?_
    refine r_al0 dX7_addBlock_41 ?_
    refine r_dup dX7_addBlock_42 rfl ?_
    refine b_get dX7_addBlock_43 f_X7_35 hB (by decide) (k9 := 1) rfl rfl ?_
    refine r_iconst dX7_addBlock_46 ?_
    refine r_iadd dX7_addBlock_47 ?_
    refine b_put (k9 := 1) (i9 := 5) (v9 := S 1 5 + 1) dX7_addBlock_48 f_X7_35 p_X7_35 (ff_11_5 _) hB (by decide) rfl rfl rfl rfl rfl ?_
    refine r_ret dX7_addBlock_51 rfl ⟨rfl, a9, cset_cset.symm, hx.fr.trans Fr.cs, ?_⟩
    obtain ⟨r1, r11, r2, r3, r4, r5, n5, rt⟩ := hr
    refine ⟨by omega, s, ?_, ?_⟩
    · rw [r1, r11, r2, r3, r4, ← hl]
      exact cfx hB hat
    · rw [show (row 5).toNat = n by omega]
      exact StrAt.cong (fun i i0 i1 => (rt i i0 i1).symm) ((hs.fx hx.fx).fx (cfxF hB))
