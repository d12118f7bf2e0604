/-! ===== rows of blocks ===== -/
/-- a row's numbers -/
def RwB (r : Int → Int) (k : Int) : Prop := (-1 ≤ r 1 ∧ r 1 < k) ∧ (0 ≤ r 2 ∧ r 2 ≤ 99) ∧ (-1 ≤ r 3 ∧ r 3 ≤ 99) ∧ (-1 ≤ r 4 ∧ r 4 ≤ 99) ∧ (0 ≤ r 5 ∧ r 5 ≤ 5) ∧ (0 ≤ r 11 ∧ r 11 ≤ 3)
def BlsAt (κ : KP) (h : AH) (bl n : Nat) (R : Int → Int → Int) : Prop := ∃ f : Int → Option Nat, ArF h bl (.object RX1) n (rv f) ∧ ∀ b : Int, 0 ≤ b → b < n → ∃ a, f b = some a ∧ BlR κ h a (R b)
theorem BlsAt.fx {κ : KP} {h h' : AH} {bl n : Nat} {R : Int → Int → Int} (x : Fx h h') (H : BlsAt κ h bl n R) : BlsAt κ h' bl n R := by
  obtain ⟨f, h1, h2⟩ := H
  refine ⟨f, x _ _ h1, fun b b0 b1 => ?_⟩
  obtain ⟨a, h3, h4⟩ := h2 b b0 b1
  exact ⟨a, h3, h4.fx x⟩
theorem BlsAt.cong {κ : KP} {h : AH} {bl n : Nat} {R R' : Int → Int → Int} (e : ∀ b : Int, 0 ≤ b → b < n → ∀ i : Int, 0 ≤ i → i < 12 → R b i = R' b i) (H : BlsAt κ h bl n R) : BlsAt κ h bl n R' := by
  obtain ⟨f, h1, h2⟩ := H
  refine ⟨f, h1, fun b b0 b1 => ?_⟩
  obtain ⟨a, h3, h4⟩ := h2 b b0 b1
  exact ⟨a, h3, h4.cong (e b b0 b1)⟩
/-! bits -/
noncomputable def bk (S : Int → Prop) (k : Int) : Int → Bool := fun i => tb (0 ≤ i ∧ i < k ∧ S i)
theorem bk_0 {S : Int → Prop} : bs (bk S 0) = 0 := by
  have e : ∀ i, bk S 0 i = false := fun i => tb_f.mpr (fun q => by omega)
  unfold bs
  rw [e, e, e, e, e, e, e, e]
  rfl
theorem bk_f {S : Int → Prop} {k : Int} (h : ¬ S k) : bk S (k + 1) = bk S k := by
  funext i
  refine tb_congr ⟨fun ⟨a, b, c⟩ => ⟨a, ?_, c⟩, fun ⟨a, b, c⟩ => ⟨a, by omega, c⟩⟩
  have : i ≠ k := fun e => h (e ▸ c)
  omega
theorem bk_t {S : Int → Prop} {k : Int} (h0 : 0 ≤ k) (h : S k) : bk S (k + 1) = fun i => bk S k i || i == k := by
  funext i
  by_cases e : i = k
  · subst e
    have h1 : bk S (i + 1) i = true := tb_t.mpr ⟨h0, by omega, h⟩
    rw [h1]
    simp
  · have h1 : bk S (k + 1) i = bk S k i := tb_congr ⟨fun ⟨a, b, c⟩ => ⟨a, by omega, c⟩, fun ⟨a, b, c⟩ => ⟨a, by omega, c⟩⟩
    rw [h1]
    simp [e]
theorem bk_i {S : Int → Prop} {k i : Int} : bk S k i = true ↔ 0 ≤ i ∧ i < k ∧ S i := tb_t
theorem bz_and : ∀ a b c d e f g h a' b' c' d' e' f' g' h' : Bool, J (bz a b c d e f g h) &&& J (bz a' b' c' d' e' f' g' h') = J (bz (a && a') (b && b') (c && c') (d && d') (e && e') (f && f') (g && g') (h && h')) := by decide +kernel
theorem bs_and {f g : Int → Bool} : J (bs f) &&& J (bs g) = J (bs (fun i => f i && g i)) := by
  rw [bs_z, bs_z, bs_z]
  have := bz_and
  exact this _ _ _ _ _ _ _ _ _ _ _ _ _ _ _ _
theorem cn_sz {f : Int → Bool} : cn f = sz (fun i => bI (f i)) 8 := by
  unfold cn sz
  show _ = sm _ 8
  show _ = (0 + bI (f 0) + bI (f 1) + bI (f 2) + bI (f 3) + bI (f 4) + bI (f 5) + bI (f 6) + bI (f 7) : Int)
  omega
theorem sz_tail {f : Int → Int} {n m : Int} (n0 : 0 ≤ n) (hm : n ≤ m) (h : ∀ i, n ≤ i → i < m → f i = 0) : sz f m = sz f n := by
  obtain ⟨k, rfl⟩ : ∃ k : Nat, m = n + k := ⟨(m - n).toNat, by omega⟩
  clear hm
  induction k with
  | zero => simp
  | succ k ih =>
    have e : n + ((k + 1 : Nat) : Int) = (n + k) + 1 := by omega
    rw [e, sz_1 (by omega), ih (fun i a b => h i a (by omega)), h (n + k) (by omega) (by omega)]
    omega
theorem cn_n {f : Int → Bool} {n : Int} (n0 : 0 ≤ n) (n8 : n ≤ 8) (h : ∀ i, f i = true → i < n) : cn f = sz (fun i => bI (f i)) n := by
  rw [cn_sz]
  refine sz_tail n0 n8 (fun i a b => ?_)
  cases e : f i
  · rfl
  · exact absurd (h i e) (by omega)
/-- every number below 2^8 is a set -/
theorem bs_of {x : Int} (x0 : 0 ≤ x) (x1 : x < 256) : ∃ f : Int → Bool, bs f = x ∧ ∀ i, f i = true → 0 ≤ i ∧ i < 8 := by
  have : ∀ n : Fin 256, ((n.val % 2 : Nat) : Int) = bI (n.val.testBit 0) ∧ bz (n.val.testBit 0) (n.val.testBit 1) (n.val.testBit 2) (n.val.testBit 3) (n.val.testBit 4) (n.val.testBit 5) (n.val.testBit 6) (n.val.testBit 7) = (n.val : Int) := by decide +kernel
  have h1 := (this ⟨x.toNat, by omega⟩).2
  refine ⟨fun i => decide (0 ≤ i) && decide (i < 8) && x.toNat.testBit i.toNat, ?_, fun i hi => ?_⟩
  · rw [bs_z]
    have e : ((x.toNat : Nat) : Int) = x := by omega
    rw [← e]
    exact h1
  · simp only [Bool.and_eq_true, decide_eq_true_eq] at hi
    exact hi.1
theorem bs_lt {f : Int → Bool} {n : Nat} (n4 : n ≤ 4) (h : ∀ i, f i = true → i < n) : bs f < 2 ^ n := by
  have e : ∀ i : Int, (n : Int) ≤ i → bI (f i) = 0 := fun i hi => by
    cases q : f i
    · rfl
    · exact absurd (h i q) (by omega)
  have b := fun i => bI_01 (f i)
  have := b 0; have := b 1; have := b 2; have := b 3
  unfold bs
  rcases (show n = 0 ∨ n = 1 ∨ n = 2 ∨ n = 3 ∨ n = 4 by omega) with rfl | rfl | rfl | rfl | rfl
  · rw [e 0 (by decide), e 1 (by decide), e 2 (by decide), e 3 (by decide), e 4 (by decide), e 5 (by decide), e 6 (by decide), e 7 (by decide)]; decide
  · rw [e 1 (by decide), e 2 (by decide), e 3 (by decide), e 4 (by decide), e 5 (by decide), e 6 (by decide), e 7 (by decide)]; omega
  · rw [e 2 (by decide), e 3 (by decide), e 4 (by decide), e 5 (by decide), e 6 (by decide), e 7 (by decide)]; omega
  · rw [e 3 (by decide), e 4 (by decide), e 5 (by decide), e 6 (by decide), e 7 (by decide)]; omega
  · rw [e 4 (by decide), e 5 (by decide), e 6 (by decide), e 7 (by decide)]; omega
/-- a set below 2^n has members below n alone -/
theorem bs_hi {f : Int → Bool} {n : Nat} (n4 : n ≤ 4) (h : bs f < 2 ^ n) (h8 : ∀ i, f i = true → 0 ≤ i ∧ i < 8) : ∀ i, f i = true → 0 ≤ i ∧ i < n := by
  intro i hi
  obtain ⟨i0, i1⟩ := h8 i hi
  refine ⟨i0, ?_⟩
  have b := fun i => bI_01 (f i)
  have := b 0; have := b 1; have := b 2; have := b 3; have := b 4; have := b 5; have := b 6; have := b 7
  have hb : bI (f i) = 1 := by rw [hi]; rfl
  unfold bs at h
  rcases (show n = 0 ∨ n = 1 ∨ n = 2 ∨ n = 3 ∨ n = 4 by omega) with rfl | rfl | rfl | rfl | rfl <;>
    rcases (show i = 0 ∨ i = 1 ∨ i = 2 ∨ i = 3 ∨ i = 4 ∨ i = 5 ∨ i = 6 ∨ i = 7 by omega) with rfl | rfl | rfl | rfl | rfl | rfl | rfl | rfl <;> simp only [Nat.reducePow, Int.reducePow] at h <;> omega
/-- the metness that a set of met leaves gives -/
def MetEq (R : Int → Int → Int) (n : Int) (Lm m : Int → Prop) : Prop := ∀ b, 0 ≤ b → b < n → (m b ↔ (R b 5 = 0 → R b 2 ≤ sz (fun k => bP (R k 1 = b ∧ m k)) n) ∧ (R b 5 ≠ 0 → Lm b))
set_option maxRecDepth 100000 in
set_option maxHeartbeats 4000000 in
theorem l_partsIn (κ : KP) (h : AH) {bl n : Nat} {R : Int → Int → Int} (hn : n ≤ 50) {f9 : Int → Option Nat} (hA : ArF h bl (.object RX1) n (rv f9)) (hbl : ∀ b : Int, 0 ≤ b → b < n → ∃ a, f9 b = some a ∧ BlR κ h a (R b)) (hR : ∀ b : Int, 0 ≤ b → b < n → RwB (R b) b) {b : Int} (rb : rng b) : ∀ (f : Nat) (i : Int), (n : Int) - i < (f : Int) → (0 ≤ i) → (i ≤ n) → WW κ mX6_partsIn 1 0 0 (fun w h' => w = some (.int (J (sz (fun k => bP (R k 1 = b)) n))) ∧ h' = h) NoX 4 [some (.ref bl), some (.int (J b)), some (.int (J (sz (fun k => bP (R k 1 = b)) i))), some (.int (J i))] [] h := by
  intro f
  induction f with
  | zero =>
    intro i hf i0 i1
    exact absurd hf (by omega)
  | succ f ih =>
    intro i hf i0 i1
    refine r_il3 dX6_partsIn_4 ?_
    refine r_al0 dX6_partsIn_5 ?_
    refine r_alenF dX6_partsIn_6 (by assumption) (by decide) (rfl) ?_
    refine r_icmp_ge (tgt := 29) dX6_partsIn_7 (by decide) (by (first | omega | assumption | (have hr := hR i i0 (by omega); unfold RwB at hr; omega))) (by (first | omega | assumption | (have hr := hR i i0 (by omega); unfold RwB at hr; omega))) (fun c_7 => ?_) (fun c_7 => ?_)
    · refine r_il2 dX6_partsIn_29 ?_
      rw [show i = (n : Int) by omega]
      exact r_iret dX6_partsIn_30 (ty := .int) rfl rfl ⟨rfl, rfl⟩
    · refine r_al0 dX6_partsIn_10 ?_
      refine r_il3 dX6_partsIn_11 ?_
      obtain ⟨a_12, ha_12, hb_12⟩ := hbl i (by omega) (by omega)
      obtain ⟨q_12, s_12, hO_12, hS_12⟩ := id hb_12
      refine r_aaF dX6_partsIn_12 hA (by decide) ha_12 (by omega) (by omega) (by omega) ?_
      refine r_getfield dX6_partsIn_13 f_X6_69 (by assumption) rfl ?_
      refine r_il1 dX6_partsIn_16 ?_
      refine r_icmp_ne (tgt := 23) dX6_partsIn_17 (by decide) (by (first | omega | assumption | (have hr := hR i i0 (by omega); unfold RwB at hr; omega))) (by (first | omega | assumption | (have hr := hR i i0 (by omega); unfold RwB at hr; omega))) (fun c_17 => ?_) (fun c_17 => ?_)
      · refine r_inc3 dX6_partsIn_23 rfl ?_
        refine r_goto (tgt := 4) dX6_partsIn_26 (by decide) ?_
        have e9 : sz (fun k => bP (R k 1 = b)) (i + 1) = sz (fun k => bP (R k 1 = b)) i + bP (R i 1 = b) := sz_1 i0
        first | rw [bP_t c_17] at e9 | (rw [bP_f c_17] at e9; rw [Int.add_zero] at e9)
        rw [← e9]
        exact ih (i + 1) (by omega) (by omega) (by omega)
      · refine r_inc2 dX6_partsIn_20 rfl ?_
        refine r_inc3 dX6_partsIn_23 rfl ?_
        refine r_goto (tgt := 4) dX6_partsIn_26 (by decide) ?_
        have e9 : sz (fun k => bP (R k 1 = b)) (i + 1) = sz (fun k => bP (R k 1 = b)) i + bP (R i 1 = b) := sz_1 i0
        first | rw [bP_t c_17] at e9 | (rw [bP_f c_17] at e9; rw [Int.add_zero] at e9)
        rw [← e9]
        exact ih (i + 1) (by omega) (by omega) (by omega)
set_option maxRecDepth 100000 in
set_option maxHeartbeats 4000000 in
theorem c_partsIn (κ : KP) (h : AH) {bl n : Nat} {R : Int → Int → Int} (hn : n ≤ 50) (hB : BlsAt κ h bl n R) (hR : ∀ b : Int, 0 ≤ b → b < n → RwB (R b) b) {b : Int} (rb : rng b) : PM κ mX6_partsIn 1 [.ref bl, .int (J b)] h (.int (J (sz (fun k => bP (R k 1 = b)) n))) := by
  refine mm_of (L := [some _, some _, none, none]) (by decide +kernel) rfl rfl (Nat.le_of_ble_eq_true rfl) rfl ?_
  obtain ⟨f9, hA, hbl⟩ := hB
  refine r_iconst dX6_partsIn_0 ?_
  refine r_is2 dX6_partsIn_1 rfl ?_
  refine r_iconst dX6_partsIn_2 ?_
  refine r_is3 dX6_partsIn_3 rfl ?_
  exact l_partsIn κ h hn hA hbl hR rb (n + 1) 0 (by omega) (by omega) (by omega)
set_option maxRecDepth 100000 in
set_option maxHeartbeats 4000000 in
theorem l_rootSetOf (κ : KP) (h : AH) {bl n : Nat} {R : Int → Int → Int} (hn : n ≤ 8) {f9 : Int → Option Nat} (hA : ArF h bl (.object RX1) n (rv f9)) (hbl : ∀ b : Int, 0 ≤ b → b < n → ∃ a, f9 b = some a ∧ BlR κ h a (R b)) (hR : ∀ b : Int, 0 ≤ b → b < n → RwB (R b) b) : ∀ (f : Nat) (i : Int), (n : Int) - i < (f : Int) → (0 ≤ i) → (i ≤ n) → WW κ mX6_rootSetOf 1 0 0 (fun w h' => w = some (.int (J (bs (bk (fun b => R b 1 = -1) n)))) ∧ h' = h) NoX 4 [some (.ref bl), some (.int (J (bs (bk (fun b => R b 1 = -1) i)))), some (.int (J i))] [] h := by
  intro f
  induction f with
  | zero =>
    intro i hf i0 i1
    exact absurd hf (by omega)
  | succ f ih =>
    intro i hf i0 i1
    refine r_il2 dX6_rootSetOf_4 ?_
    refine r_al0 dX6_rootSetOf_5 ?_
    refine r_alenF dX6_rootSetOf_6 (by assumption) (by decide) (rfl) ?_
    refine r_icmp_ge (tgt := 32) dX6_rootSetOf_7 (by decide) (by (first | omega | assumption | (have hr := hR i i0 (by omega); unfold RwB at hr; omega))) (by (first | omega | assumption | (have hr := hR i i0 (by omega); unfold RwB at hr; omega))) (fun c_7 => ?_) (fun c_7 => ?_)
    · refine r_il1 dX6_rootSetOf_32 ?_
      rw [show i = (n : Int) by omega]
      exact r_iret dX6_rootSetOf_33 (ty := .int) rfl rfl ⟨rfl, rfl⟩
    · refine r_al0 dX6_rootSetOf_10 ?_
      refine r_il2 dX6_rootSetOf_11 ?_
      obtain ⟨a_12, ha_12, hb_12⟩ := hbl i (by omega) (by omega)
      obtain ⟨q_12, s_12, hO_12, hS_12⟩ := id hb_12
      refine r_aaF dX6_rootSetOf_12 hA (by decide) ha_12 (by omega) (by omega) (by omega) ?_
      refine r_getfield dX6_rootSetOf_13 f_X6_69 (by assumption) rfl ?_
      refine r_iconst dX6_rootSetOf_16 ?_
      refine r_icmp_ne (tgt := 26) dX6_rootSetOf_17 (by decide) (by (first | omega | assumption | (have hr := hR i i0 (by omega); unfold RwB at hr; omega))) (by (first | omega | assumption | (have hr := hR i i0 (by omega); unfold RwB at hr; omega))) (fun c_17 => ?_) (fun c_17 => ?_)
      · refine r_inc2 dX6_rootSetOf_26 rfl ?_
        refine r_goto (tgt := 4) dX6_rootSetOf_29 (by decide) ?_
        first | (rw [← bk_t (S := (fun b => R b 1 = -1)) i0 c_17]; exact ih (i + 1) (by omega) (by omega) (by omega)) | (rw [← bk_f (S := (fun b => R b 1 = -1)) c_17]; exact ih (i + 1) (by omega) (by omega) (by omega))
      · refine r_il1 dX6_rootSetOf_20 ?_
        refine r_iconst dX6_rootSetOf_21 ?_
        refine r_il2 dX6_rootSetOf_22 ?_
        refine r_ishl dX6_rootSetOf_23 ?_
        refine r_ior dX6_rootSetOf_24 ?_
        rw [bs_or i0 (by omega)]
        refine r_is1 dX6_rootSetOf_25 rfl ?_
        refine r_inc2 dX6_rootSetOf_26 rfl ?_
        refine r_goto (tgt := 4) dX6_rootSetOf_29 (by decide) ?_
        first | (rw [← bk_t (S := (fun b => R b 1 = -1)) i0 c_17]; exact ih (i + 1) (by omega) (by omega) (by omega)) | (rw [← bk_f (S := (fun b => R b 1 = -1)) c_17]; exact ih (i + 1) (by omega) (by omega) (by omega))
set_option maxRecDepth 100000 in
set_option maxHeartbeats 4000000 in
theorem c_rootSetOf (κ : KP) (h : AH) {bl n : Nat} {R : Int → Int → Int} (hn : n ≤ 8) (hB : BlsAt κ h bl n R) (hR : ∀ b : Int, 0 ≤ b → b < n → RwB (R b) b) : PM κ mX6_rootSetOf 1 [.ref bl] h (.int (J (bs (bk (fun b => R b 1 = -1) n)))) := by
  refine mm_of (L := [some _, none, none]) (by decide +kernel) rfl rfl (Nat.le_of_ble_eq_true rfl) rfl ?_
  obtain ⟨f9, hA, hbl⟩ := hB
  refine r_iconst dX6_rootSetOf_0 ?_
  refine r_is1 dX6_rootSetOf_1 rfl ?_
  refine r_iconst dX6_rootSetOf_2 ?_
  refine r_is2 dX6_rootSetOf_3 rfl ?_
  have e0 := l_rootSetOf κ h hn hA hbl hR (n + 1) 0 (by omega) (by omega) (by omega)
  rw [bk_0] at e0
  exact e0
set_option maxRecDepth 100000 in
set_option maxHeartbeats 4000000 in
theorem l_metParts (κ : KP) (h : AH) {bl n : Nat} {R : Int → Int → Int} (hn : n ≤ 8) {f9 : Int → Option Nat} (hA : ArF h bl (.object RX1) n (rv f9)) (hbl : ∀ b : Int, 0 ≤ b → b < n → ∃ a, f9 b = some a ∧ BlR κ h a (R b)) (hR : ∀ b : Int, 0 ≤ b → b < n → RwB (R b) b) {b : Int} (rb : rng b) {F : Int → Bool} : ∀ (f : Nat) (i : Int), (n : Int) - i < (f : Int) → (0 ≤ i) → (i ≤ n) → WW κ mX6_metParts 2 0 0 (fun w h' => w = some (.int (J (sz (fun k => bP (R k 1 = b ∧ F k = true)) n))) ∧ h' = h) NoX 5 [some (.ref bl), some (.int (J b)), some (.int (J (bs F))), some (.int (J (sz (fun k => bP (R k 1 = b ∧ F k = true)) i))), some (.int (J i))] [] h := by
  intro f
  induction f with
  | zero =>
    intro i hf i0 i1
    exact absurd hf (by omega)
  | succ f ih =>
    intro i hf i0 i1
    refine r_il4 dX6_metParts_5 ?_
    refine r_al0 dX6_metParts_7 ?_
    refine r_alenF dX6_metParts_8 (by assumption) (by decide) (rfl) ?_
    refine r_icmp_ge (tgt := 41) dX6_metParts_9 (by decide) (by (first | omega | assumption | (have hr := hR i i0 (by omega); unfold RwB at hr; omega))) (by (first | omega | assumption | (have hr := hR i i0 (by omega); unfold RwB at hr; omega))) (fun c_9 => ?_) (fun c_9 => ?_)
    · refine r_il3 dX6_metParts_41 ?_
      rw [show i = (n : Int) by omega]
      exact r_iret dX6_metParts_42 (ty := .int) rfl rfl ⟨rfl, rfl⟩
    · refine r_al0 dX6_metParts_12 ?_
      refine r_il4 dX6_metParts_13 ?_
      obtain ⟨a_15, ha_15, hb_15⟩ := hbl i (by omega) (by omega)
      obtain ⟨q_15, s_15, hO_15, hS_15⟩ := id hb_15
      refine r_aaF dX6_metParts_15 hA (by decide) ha_15 (by omega) (by omega) (by omega) ?_
      refine r_getfield dX6_metParts_16 f_X6_69 (by assumption) rfl ?_
      refine r_il1 dX6_metParts_19 ?_
      refine r_icmp_ne (tgt := 35) dX6_metParts_20 (by decide) (by (first | omega | assumption | (have hr := hR i i0 (by omega); unfold RwB at hr; omega))) (by (first | omega | assumption | (have hr := hR i i0 (by omega); unfold RwB at hr; omega))) (fun c_20 => ?_) (fun c_20 => ?_)
      · refine r_inc4 dX6_metParts_35 rfl ?_
        refine r_goto (tgt := 5) dX6_metParts_38 (by decide) ?_
        have e9 : sz (fun k => bP (R k 1 = b ∧ F k = true)) (i + 1) = sz (fun k => bP (R k 1 = b ∧ F k = true)) i + bP (R i 1 = b ∧ F i = true) := sz_1 i0
        rw [bP_f (fun q => c_20 q.1), Int.add_zero] at e9
        rw [← e9]
        exact ih (i + 1) (by omega) (by omega) (by omega)
      · refine r_il2 dX6_metParts_23 ?_
        refine r_il4 dX6_metParts_24 ?_
        refine r_callSNP2 dX6_metParts_26 s_X6_72 (c_isInSet κ h i0 (by omega)) (by decide) rfl ?_
        refine r_ifB_eq (tgt := 35) dX6_metParts_29 (by decide) (fun c_29 => ?_) (fun c_29 => ?_)
        · refine r_inc4 dX6_metParts_35 rfl ?_
          refine r_goto (tgt := 5) dX6_metParts_38 (by decide) ?_
          have e9 : sz (fun k => bP (R k 1 = b ∧ F k = true)) (i + 1) = sz (fun k => bP (R k 1 = b ∧ F k = true)) i + bP (R i 1 = b ∧ F i = true) := sz_1 i0
          rw [bP_f (fun q => by rw [c_29] at q; exact absurd q.2 (by decide)), Int.add_zero] at e9
          rw [← e9]
          exact ih (i + 1) (by omega) (by omega) (by omega)
        · refine r_inc3 dX6_metParts_32 rfl ?_
          refine r_inc4 dX6_metParts_35 rfl ?_
          refine r_goto (tgt := 5) dX6_metParts_38 (by decide) ?_
          have e9 : sz (fun k => bP (R k 1 = b ∧ F k = true)) (i + 1) = sz (fun k => bP (R k 1 = b ∧ F k = true)) i + bP (R i 1 = b ∧ F i = true) := sz_1 i0
          rw [bP_t ⟨c_20, c_29⟩] at e9
          rw [← e9]
          exact ih (i + 1) (by omega) (by omega) (by omega)
set_option maxRecDepth 100000 in
set_option maxHeartbeats 4000000 in
theorem c_metParts (κ : KP) (h : AH) {bl n : Nat} {R : Int → Int → Int} (hn : n ≤ 8) (hB : BlsAt κ h bl n R) (hR : ∀ b : Int, 0 ≤ b → b < n → RwB (R b) b) {b : Int} (rb : rng b) {F : Int → Bool} : PM κ mX6_metParts 2 [.ref bl, .int (J b), .int (J (bs F))] h (.int (J (sz (fun k => bP (R k 1 = b ∧ F k = true)) n))) := by
  refine mm_of (L := [some _, some _, some _, none, none]) (by decide +kernel) rfl rfl (Nat.le_of_ble_eq_true rfl) rfl ?_
  obtain ⟨f9, hA, hbl⟩ := hB
  refine r_iconst dX6_metParts_0 ?_
  refine r_is3 dX6_metParts_1 rfl ?_
  refine r_iconst dX6_metParts_2 ?_
  refine r_is4 dX6_metParts_3 rfl ?_
  exact l_metParts κ h hn hA hbl hR rb (n + 1) 0 (by omega) (by omega) (by omega)
