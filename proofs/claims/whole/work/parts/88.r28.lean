/-! ===== the row of the blocks read ===== -/
def lR (l : List (Int → Int)) (b : Int) : Int → Int := (l[b.toNat]?).getD (fun _ => 0)
theorem lR_at {l : List (Int → Int)} {i : Nat} {r : Int → Int} (h : l[i]? = some r) : lR l (i : Int) = r := by
  unfold lR
  rw [Int.toNat_natCast, h]
  rfl
theorem lR_get {l : List (Int → Int)} {b : Int} (b0 : 0 ≤ b) (b1 : b < l.length) : l[b.toNat]? = some (lR l b) := by
  have h : b.toNat < l.length := by omega
  unfold lR
  rw [List.getElem?_eq_getElem h]
  rfl
/-- the first i of the row are laid -/
def bq (S : CST) (i : Int) : Int → Option Nat := fun j => if 0 ≤ j ∧ j < i then rz (S 9 j) else none
theorem bq_0 {S : CST} : bq S 0 = fun _ => none := by
  funext j
  unfold bq
  rw [if_neg (by omega)]
theorem bq_1 {S : CST} {i : Int} {b : Nat} (i0 : 0 ≤ i) (hb : S 9 i = (b : Int)) : upz (bq S i) i (some b) = bq S (i + 1) := by
  funext j
  unfold upz bq
  by_cases e : j = i
  · rw [if_pos e, if_pos (by omega), e, hb, rz_c]
  · rw [if_neg e]
    by_cases e2 : 0 ≤ j ∧ j < i
    · rw [if_pos e2, if_pos (by omega)]
    · rw [if_neg e2, if_neg (by omega)]
set_option maxRecDepth 100000 in
set_option maxHeartbeats 4000000 in
theorem l_bRead (κ : KP) {B : Nat → Nat} {S : CST} (h : AH) (hB : BA B) {l : List (Int → Int)} (hL : RdL κ (cset B S h) S l) (hn : 2 * (l.length : Int) ≤ 50) {a : Nat} (ha : cset B S h a = none) : ∀ (f : Nat) (i : Int), (l.length : Int) - i < (f : Int) → 0 ≤ i → i ≤ l.length → WW κ mX7_blocksRead 1 0 0 (fun v h' => ∃ a : Nat, v = some (.ref a) ∧ Ext (cset B S h) h' ∧ BlsAt κ h' a l.length (lR l)) NoX 10 [some (.ref (B 1)), some (.ref a), some (.int (J i))] [] (upA (cset B S h) a (true, .inl (.object RX1, l.length, rv (bq S i)))) := by
  intro f
  induction f with
  | zero =>
    intro i hf i0 i1
    exact absurd hf (by omega)
  | succ f ih =>
    intro i hf i0 i1
    have hc := hL.1
    refine r_il2 dX7_blocksRead_10 ?_
    refine r_al1 dX7_blocksRead_11 ?_
    refine r_alenF dX7_blocksRead_12 upA_same (by decide) rfl ?_
    refine r_icmp_ge (tgt := 40) dX7_blocksRead_13 (by decide) (by (first | omega | decide)) (by (first | omega | decide)) (fun c_13 => ?_) (fun c_13 => ?_)
    · refine r_al1 dX7_blocksRead_40 ?_
      obtain rfl : i = (l.length : Int) := by omega
      refine ww_frz1 (a := a) upA_same ?_
      rw [upA_upA]
      refine r_aretA dX7_blocksRead_41 rfl ⟨a, rfl, Ext.up ha, bq S l.length, upA_same, fun b b0 b1 => ?_⟩
      obtain ⟨c, hc9, hbl⟩ := hL.2 b.toNat _ (lR_get b0 b1)
      rw [Int.toNat_of_nonneg b0] at hc9
      refine ⟨c, ?_, hbl.fx (Ext.up ha).fx⟩
      unfold bq
      rw [if_pos ⟨b0, b1⟩, hc9, rz_c]
    · refine r_il2 dX7_blocksRead_16 ?_
      refine r_al0 dX7_blocksRead_17 ?_
      refine r_getfield dX7_blocksRead_18 f_X7_31 (upo ha (cs_obj hB (k9 := 1) (by decide) rfl)) rfl ?_
      refine r_alenF dX7_blocksRead_21 (upo ha (cs_arr hB (k9 := 9) (by decide) rfl)) (by decide) rfl ?_
      refine r_icmp_ge (tgt := 40) dX7_blocksRead_22 (by decide) (by (first | omega | decide)) (by (first | omega | decide)) (fun c_22 => ?_) (fun c_22 => ?_)
      · exact absurd c_22 (by omega)
      · refine r_al1 dX7_blocksRead_25 ?_
        refine r_il2 dX7_blocksRead_26 ?_
        refine r_al0 dX7_blocksRead_27 ?_
        refine r_getfield dX7_blocksRead_28 f_X7_31 (upo ha (cs_obj hB (k9 := 1) (by decide) rfl)) rfl ?_
        refine r_il2 dX7_blocksRead_31 ?_
        obtain ⟨b, hb, hbl⟩ := hL.2 i.toNat _ (lR_get i0 (by omega))
        rw [Int.toNat_of_nonneg i0] at hb
        obtain ⟨-, s9, hO, -⟩ := id hbl
        refine r_aaF (v := b) (g := fun i => rz (S 9 i)) dX7_blocksRead_32 (upo ha (cs_arr hB (k9 := 9) (by decide) rfl)) (by decide) (by show rz (S 9 i) = some b; rw [hb]; exact rz_c b) (by omega) (by omega) (by omega) ?_
        refine r_asJ dX7_blocksRead_33 upA_same (by decide) (upo ha hO) rfl (by omega) (by omega) (by omega) ?_
        rw [upA_upA, bq_1 i0 hb]
        refine r_inc2 dX7_blocksRead_34 rfl ?_
        refine r_goto (tgt := 10) dX7_blocksRead_37 (by decide) ?_
        exact ih (i + 1) (by omega) (by omega) (by omega)
set_option maxRecDepth 100000 in
set_option maxHeartbeats 4000000 in
theorem t_bRead (κ : KP) {B : Nat → Nat} {S : CST} (h : AH) (hB : BA B) {l : List (Int → Int)} (hL : RdL κ (cset B S h) S l) (hn : 2 * (l.length : Int) ≤ 50) : MM κ mX7_blocksRead 1 1 25 [.ref (B 1)] (cset B S h) (fun v h' => ∃ a : Nat, v = some (.ref a) ∧ Ext (cset B S h) h' ∧ BlsAt κ h' a l.length (lR l)) NoX := by
  refine mm_of (L := [some _, none, none]) (by decide +kernel) rfl rfl (Nat.le_of_ble_eq_true rfl) rfl ?_
  have hc := hL.1
  refine r_al0 dX7_blocksRead_0 ?_
  refine b_get dX7_blocksRead_1 f_X7_35 hB (by decide) (k9 := 1) rfl rfl ?_
  rw [hc]
  refine r_anewa dX7_blocksRead_4 a_X7_29 (by decide) (by decide) (by omega) (by omega) (by decide) (by omega) (fun a ha => ?_)
  rw [Int.toNat_natCast]
  refine r_as1 dX7_blocksRead_7 rfl ?_
  refine r_iconst dX7_blocksRead_8 ?_
  refine r_is2 dX7_blocksRead_9 rfl ?_
  have e := l_bRead κ h hB hL hn ha (l.length + 1) 0 (by omega) (by omega) (by omega)
  rw [bq_0] at e
  exact ww_bud (Nat.zero_le _) (Nat.zero_le _) e
