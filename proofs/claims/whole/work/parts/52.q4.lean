/-! ===== met blocks, leaves, the program's constructor ===== -/
/-- the leaves in their order -/
def LFs (R : Int → Int → Int) (n N : Nat) (lf : Int → Int) : Prop := (∀ i : Int, 0 ≤ i → i < N → (0 ≤ lf i ∧ lf i < n) ∧ R (lf i) 5 ≠ 0) ∧ (∀ i j : Int, 0 ≤ i → i < j → j < N → lf i < lf j) ∧ (∀ b : Int, 0 ≤ b → b < n → R b 5 ≠ 0 → ∃ i : Int, 0 ≤ i ∧ i < N ∧ lf i = b) ∧ (N : Int) = sz (fun b => bP (R b 5 ≠ 0)) n
def LmP (lf : Int → Int) (N : Nat) (P : Int → Bool) (b : Int) : Prop := ∃ i : Int, 0 ≤ i ∧ i < N ∧ lf i = b ∧ P i = true
noncomputable def Lm1 (lf : Int → Int) (P : Int → Bool) (i : Int) : Int → Bool := fun b => tb (∃ j : Int, 0 ≤ j ∧ j < i ∧ lf j = b ∧ P j = true)
theorem Lm1_0 {lf : Int → Int} {P : Int → Bool} : bs (Lm1 lf P 0) = 0 := by
  have e : ∀ b, Lm1 lf P 0 b = false := fun b => tb_f.mpr (fun ⟨j, a, c, _⟩ => by omega)
  unfold bs
  rw [e, e, e, e, e, e, e, e]
  rfl
theorem Lm1_f {lf : Int → Int} {P : Int → Bool} {i : Int} (h : P i = false) : Lm1 lf P (i + 1) = Lm1 lf P i := by
  funext b
  refine tb_congr ⟨fun ⟨j, a, c, d, e⟩ => ⟨j, a, ?_, d, e⟩, fun ⟨j, a, c, d, e⟩ => ⟨j, a, by omega, d, e⟩⟩
  have : j ≠ i := fun q => by rw [q, h] at e; cases e
  omega
theorem Lm1_t {lf : Int → Int} {P : Int → Bool} {i : Int} (i0 : 0 ≤ i) (h : P i = true) : Lm1 lf P (i + 1) = fun b => Lm1 lf P i b || b == lf i := by
  funext b
  by_cases e : b = lf i
  · have h1 : Lm1 lf P (i + 1) b = true := tb_t.mpr ⟨i, i0, by omega, e.symm, h⟩
    rw [h1, e]
    simp
  · have h1 : Lm1 lf P (i + 1) b = Lm1 lf P i b := tb_congr ⟨fun ⟨j, a, c, d, x⟩ => ⟨j, a, by
      have : j ≠ i := fun q => e (by rw [← d, q])
      omega, d, x⟩, fun ⟨j, a, c, d, x⟩ => ⟨j, a, by omega, d, x⟩⟩
    rw [h1]
    simp [e]
/-- what is known while the groups are gone through from the last to the first -/
def MInv (R : Int → Int → Int) (n : Nat) (Lm : Int → Prop) (G : Int → Bool) (b : Int) : Prop := (∀ j, G j = true → 0 ≤ j ∧ j < n) ∧ ∀ j : Int, 0 ≤ j → j < n → (R j 5 ≠ 0 → (G j = true ↔ Lm j)) ∧ (R j 5 = 0 → (j ≤ b → G j = false) ∧ (b < j → (G j = true ↔ R j 2 ≤ sz (fun k => bP (R k 1 = j ∧ G k = true)) n)))
theorem MInv.leaf {R : Int → Int → Int} {n : Nat} {Lm : Int → Prop} {G : Int → Bool} {b : Int} (h : MInv R n Lm G b) (hl : R b 5 ≠ 0) : MInv R n Lm G (b - 1) := by
  refine ⟨h.1, fun j j0 j1 => ⟨(h.2 j j0 j1).1, fun hg => ⟨fun q => ((h.2 j j0 j1).2 hg).1 (by omega), fun q => ?_⟩⟩⟩
  have : j ≠ b := fun e => hl (e ▸ hg)
  exact ((h.2 j j0 j1).2 hg).2 (by omega)
theorem MInv.no {R : Int → Int → Int} {n : Nat} {Lm : Int → Prop} {G : Int → Bool} {b : Int} (h : MInv R n Lm G b) (b0 : 0 ≤ b) (b1 : b < n) (hg : R b 5 = 0) (hp : sz (fun k => bP (R k 1 = b ∧ G k = true)) n < R b 2) : MInv R n Lm G (b - 1) := by
  refine ⟨h.1, fun j j0 j1 => ⟨(h.2 j j0 j1).1, fun hg2 => ⟨fun q => ((h.2 j j0 j1).2 hg2).1 (by omega), fun q => ?_⟩⟩⟩
  by_cases e : j = b
  · subst e
    have q1 := ((h.2 j j0 j1).2 hg).1 (by omega)
    rw [q1]
    exact ⟨fun z => (by cases z), fun z => absurd z (by omega)⟩
  · exact ((h.2 j j0 j1).2 hg2).2 (by omega)
theorem MInv.yes {R : Int → Int → Int} {n : Nat} {Lm : Int → Prop} {G : Int → Bool} {b : Int} (hR : ∀ b : Int, 0 ≤ b → b < n → RwB (R b) b) (h : MInv R n Lm G b) (b0 : 0 ≤ b) (b1 : b < n) (hg : R b 5 = 0) (hp : R b 2 ≤ sz (fun k => bP (R k 1 = b ∧ G k = true)) n) : MInv R n Lm (fun i => G i || i == b) (b - 1) := by
  have es : ∀ j : Int, b ≤ j → sz (fun k => bP (R k 1 = j ∧ (G k || k == b) = true)) n = sz (fun k => bP (R k 1 = j ∧ G k = true)) n := fun j hj => sz_cong fun k k0 k1 => bP_cong (and_congr_right fun e => by
    have hk := (hR k k0 k1).1.2
    have : k ≠ b := by omega
    simp [this])
  refine ⟨fun j hj => ?_, fun j j0 j1 => ⟨fun hl => ?_, fun hg2 => ⟨fun q => ?_, fun q => ?_⟩⟩⟩
  · by_cases e : j = b
    · rw [e]; exact ⟨b0, b1⟩
    · exact h.1 j (by simpa [e] using hj)
  · have : j ≠ b := fun e => hl (e ▸ hg)
    simp only [this, beq_eq_false_iff_ne, ne_eq, not_false_eq_true, Bool.or_eq_true, beq_iff_eq, or_false]
    exact (h.2 j j0 j1).1 hl
  · have : j ≠ b := by omega
    have q1 := ((h.2 j j0 j1).2 hg2).1 (by omega)
    simp [this, q1]
  · rw [es j (by omega)]
    by_cases e : j = b
    · subst e
      simp [hp]
    · have : ((G j || j == b) = true) ↔ G j = true := by simp [e]
      rw [this]
      exact ((h.2 j j0 j1).2 hg2).2 (by omega)
theorem MInv.fin {R : Int → Int → Int} {n : Nat} {Lm : Int → Prop} {G : Int → Bool} {b : Int} (h : MInv R n Lm G b) (hb : b < 0) : MetEq R n Lm (fun j => G j = true) := fun j j0 j1 => by
  show G j = true ↔ (R j 5 = 0 → R j 2 ≤ sz (fun k => bP (R k 1 = j ∧ G k = true)) n) ∧ (R j 5 ≠ 0 → Lm j)
  by_cases e : R j 5 = 0
  · rw [((h.2 j j0 j1).2 e).2 (by omega)]
    exact ⟨fun q => ⟨fun _ => q, fun z => absurd e z⟩, fun q => q.1 e⟩
  · rw [(h.2 j j0 j1).1 e]
    exact ⟨fun q => ⟨fun z => absurd z e, fun _ => q⟩, fun q => q.2 e⟩
theorem MInv.start {R : Int → Int → Int} {n N : Nat} {lf : Int → Int} {P : Int → Bool} (hL : LFs R n N lf) : MInv R n (LmP lf N P) (Lm1 lf P N) ((n : Int) - 1) := by
  refine ⟨fun j hj => ?_, fun j j0 j1 => ⟨fun _ => tb_t, fun hg => ⟨fun _ => tb_f.mpr ?_, fun q => by omega⟩⟩⟩
  · obtain ⟨i, i0, i1, e, -⟩ := tb_t.mp hj
    rw [← e]
    exact (hL.1 i i0 i1).1
  · rintro ⟨i, i0, i1, e, -⟩
    exact (hL.1 i i0 i1).2 (by rw [e]; exact hg)
theorem bs_inj {f g : Int → Bool} (e : bs f = bs g) (hf : ∀ i, f i = true → 0 ≤ i ∧ i < 8) (hg : ∀ i, g i = true → 0 ≤ i ∧ i < 8) : f = g := by
  funext i
  by_cases q : 0 ≤ i ∧ i < 8
  · have h1 := bs_in (f := f) q.1 q.2
    have h2 := bs_in (f := g) q.1 q.2
    rw [e] at h1
    have h3 := (J_inj (bI_rng _) (bI_rng _)).mp (h1.symm.trans h2)
    cases ef : f i <;> cases eg : g i <;> rw [ef, eg] at h3 <;> first | rfl | exact absurd h3 (by decide)
  · cases ef : f i <;> cases eg : g i
    · rfl
    · exact absurd (hg i eg) q
    · exact absurd (hf i ef) q
    · rfl
set_option maxRecDepth 100000 in
set_option maxHeartbeats 4000000 in
theorem l_metB2 (κ : KP) (h : AH) {bl n : Nat} {R : Int → Int → Int} (hn : n ≤ 8) {f9 : Int → Option Nat} (hA : ArF h bl (.object RX1) n (rv f9)) (hbl : ∀ b : Int, 0 ≤ b → b < n → ∃ a, f9 b = some a ∧ BlR κ h a (R b)) (hR : ∀ b : Int, 0 ≤ b → b < n → RwB (R b) b) {lv N : Nat} {lf : Int → Int} {P : Int → Bool} (hN : N ≤ 8) (hV : ArF h lv .int N (iv lf)) (hL : LFs R n N lf) : ∀ (f : Nat) (b : Int) (G : Int → Bool), b + 1 < (f : Int) → (-1 ≤ b) → (b < n) → (MInv R n (LmP lf N P) G b) → WW κ mX6_metBlocks 3 0 0 (fun w h' => ∃ F : Int → Bool, w = some (.int (J (bs F))) ∧ (∀ i, F i = true → 0 ≤ i ∧ i < n) ∧ MetEq R n (LmP lf N P) (fun b => F b = true) ∧ h' = h) NoX 42 [some (.ref bl), some (.ref lv), some (.int (J (bs P))), some (.int (J (bs G))), some (.int (J b))] [] h := by
  intro f
  induction f with
  | zero =>
    intro b G hf b0 b1 hG
    exact absurd hf (by omega)
  | succ f ih =>
    intro b G hf b0 b1 hG
    refine r_il4 dX6_metBlocks_42 ?_
    refine r_if_lt (tgt := 87) dX6_metBlocks_44 (by decide) (by (first | omega | assumption | exact bI_rng _ | (have hr := hR b (by omega) (by omega); unfold RwB at hr; omega) | (have hp := sz_01 (k := (n : Int)) (by omega) (fun i => bP_01 (R i 1 = b ∧ G i = true)); omega))) (fun c_44 => ?_) (fun c_44 => ?_)
    · refine r_il3 dX6_metBlocks_87 ?_
      exact r_iret dX6_metBlocks_88 (ty := .int) rfl rfl ⟨G, rfl, hG.1, hG.fin (by omega), rfl⟩
    · refine r_al0 dX6_metBlocks_47 ?_
      refine r_il4 dX6_metBlocks_48 ?_
      obtain ⟨a_50, ha_50, hb_50⟩ := hbl b (by omega) (by omega)
      obtain ⟨q_50, s_50, hO_50, hS_50⟩ := id hb_50
      refine r_aaF dX6_metBlocks_50 hA (by decide) ha_50 (by omega) (by omega) (by omega) ?_
      refine r_callVP0 dX6_metBlocks_51 v_X6_59 hO_50 (c_isGr κ h hb_50) (by decide) rfl ?_
      refine r_ifT_eq (tgt := 81) dX6_metBlocks_54 (by decide) (fun c_54 => ?_) (fun c_54 => ?_)
      · refine r_inc4 dX6_metBlocks_81 rfl ?_
        refine r_goto (tgt := 42) dX6_metBlocks_84 (by decide) ?_
        first | exact ih (b - 1) _ (by omega) (by omega) (by omega) (hG.leaf c_54) | exact ih (b - 1) _ (by omega) (by omega) (by omega) (hG.no (by omega) (by omega) c_54 (by omega)) | exact ih (b - 1) _ (by omega) (by omega) (by omega) (hG.yes hR (by omega) (by omega) c_54 (by omega))
      · refine r_al0 dX6_metBlocks_57 ?_
        refine r_il4 dX6_metBlocks_58 ?_
        refine r_il3 dX6_metBlocks_60 ?_
        refine r_callSP3 dX6_metBlocks_61 s_X6_76 (c_metParts κ h hn ⟨f9, hA, hbl⟩ hR (by omega)) (by decide) rfl ?_
        refine r_al0 dX6_metBlocks_64 ?_
        refine r_il4 dX6_metBlocks_65 ?_
        obtain ⟨a_67, ha_67, hb_67⟩ := hbl b (by omega) (by omega)
        obtain ⟨q_67, s_67, hO_67, hS_67⟩ := id hb_67
        refine r_aaF dX6_metBlocks_67 hA (by decide) ha_67 (by omega) (by omega) (by omega) ?_
        refine r_getfield dX6_metBlocks_68 f_X6_62 (by assumption) rfl ?_
        refine r_icmp_lt (tgt := 81) dX6_metBlocks_71 (by decide) (by (first | omega | assumption | exact bI_rng _ | (have hr := hR b (by omega) (by omega); unfold RwB at hr; omega) | (have hp := sz_01 (k := (n : Int)) (by omega) (fun i => bP_01 (R i 1 = b ∧ G i = true)); omega))) (by (first | omega | assumption | exact bI_rng _ | (have hr := hR b (by omega) (by omega); unfold RwB at hr; omega) | (have hp := sz_01 (k := (n : Int)) (by omega) (fun i => bP_01 (R i 1 = b ∧ G i = true)); omega))) (fun c_71 => ?_) (fun c_71 => ?_)
        · refine r_inc4 dX6_metBlocks_81 rfl ?_
          refine r_goto (tgt := 42) dX6_metBlocks_84 (by decide) ?_
          first | exact ih (b - 1) _ (by omega) (by omega) (by omega) (hG.leaf c_54) | exact ih (b - 1) _ (by omega) (by omega) (by omega) (hG.no (by omega) (by omega) c_54 (by omega)) | exact ih (b - 1) _ (by omega) (by omega) (by omega) (hG.yes hR (by omega) (by omega) c_54 (by omega))
        · refine r_il3 dX6_metBlocks_74 ?_
          refine r_iconst dX6_metBlocks_75 ?_
          refine r_il4 dX6_metBlocks_76 ?_
          refine r_ishl dX6_metBlocks_78 ?_
          refine r_ior dX6_metBlocks_79 ?_
          rw [bs_or (by omega) (by omega)]
          refine r_is3 dX6_metBlocks_80 rfl ?_
          refine r_inc4 dX6_metBlocks_81 rfl ?_
          refine r_goto (tgt := 42) dX6_metBlocks_84 (by decide) ?_
          first | exact ih (b - 1) _ (by omega) (by omega) (by omega) (hG.leaf c_54) | exact ih (b - 1) _ (by omega) (by omega) (by omega) (hG.no (by omega) (by omega) c_54 (by omega)) | exact ih (b - 1) _ (by omega) (by omega) (by omega) (hG.yes hR (by omega) (by omega) c_54 (by omega))
set_option maxRecDepth 100000 in
set_option maxHeartbeats 4000000 in
theorem l_metB1 (κ : KP) (h : AH) {bl n : Nat} {R : Int → Int → Int} (hn : n ≤ 8) {f9 : Int → Option Nat} (hA : ArF h bl (.object RX1) n (rv f9)) (hbl : ∀ b : Int, 0 ≤ b → b < n → ∃ a, f9 b = some a ∧ BlR κ h a (R b)) (hR : ∀ b : Int, 0 ≤ b → b < n → RwB (R b) b) {lv N : Nat} {lf : Int → Int} {P : Int → Bool} (hN : N ≤ 8) (hV : ArF h lv .int N (iv lf)) (hL : LFs R n N lf) : ∀ (f : Nat) (i : Int), (N : Int) - i < (f : Int) → (0 ≤ i) → (i ≤ N) → WW κ mX6_metBlocks 3 0 0 (fun w h' => ∃ F : Int → Bool, w = some (.int (J (bs F))) ∧ (∀ i, F i = true → 0 ≤ i ∧ i < n) ∧ MetEq R n (LmP lf N P) (fun b => F b = true) ∧ h' = h) NoX 5 [some (.ref bl), some (.ref lv), some (.int (J (bs P))), some (.int (J (bs (Lm1 lf P i)))), some (.int (J i))] [] h := by
  intro f
  induction f with
  | zero =>
    intro i hf i0 i1
    exact absurd hf (by omega)
  | succ f ih =>
    intro i hf i0 i1
    refine r_il4 dX6_metBlocks_5 ?_
    refine r_al1 dX6_metBlocks_7 ?_
    refine r_alenF dX6_metBlocks_8 (by assumption) (by decide) (rfl) ?_
    refine r_icmp_ge (tgt := 36) dX6_metBlocks_9 (by decide) (by (first | omega | exact bI_rng _)) (by (first | omega | exact bI_rng _)) (fun c_9 => ?_) (fun c_9 => ?_)
    · rw [show i = (N : Int) by omega]
      refine r_al0 dX6_metBlocks_36 ?_
      refine r_alenF dX6_metBlocks_37 hA (by decide) rfl ?_
      refine r_iconst dX6_metBlocks_38 ?_
      refine r_isub dX6_metBlocks_39 ?_
      refine r_is4 dX6_metBlocks_40 rfl ?_
      exact l_metB2 κ h hn hA hbl hR hN hV hL (n + 2) _ _ (by omega) (by omega) (by omega) (MInv.start hL)
    · refine r_il2 dX6_metBlocks_12 ?_
      refine r_il4 dX6_metBlocks_13 ?_
      refine r_callSNP2 dX6_metBlocks_15 s_X6_72 (c_isInSet κ h i0 (by omega)) (by decide) rfl ?_
      refine r_ifB_eq (tgt := 30) dX6_metBlocks_18 (by decide) (fun c_18 => ?_) (fun c_18 => ?_)
      · rw [← Lm1_f (lf := lf) c_18]
        refine r_inc4 dX6_metBlocks_30 rfl ?_
        refine r_goto (tgt := 5) dX6_metBlocks_33 (by decide) ?_
        first | (rw [← Lm1_t i0 c_18]; exact ih (i + 1) (by omega) (by omega) (by omega)) | exact ih (i + 1) (by omega) (by omega) (by omega)
      · refine r_il3 dX6_metBlocks_21 ?_
        refine r_iconst dX6_metBlocks_22 ?_
        refine r_al1 dX6_metBlocks_23 ?_
        refine r_il4 dX6_metBlocks_24 ?_
        refine r_iaJ dX6_metBlocks_26 hV i0 (by omega) (by omega) ?_
        refine r_ishl dX6_metBlocks_27 ?_
        refine r_ior dX6_metBlocks_28 ?_
        rw [bs_or (hL.1 i i0 (by omega)).1.1 (by have := (hL.1 i i0 (by omega)).1.2; omega)]
        refine r_is3 dX6_metBlocks_29 rfl ?_
        refine r_inc4 dX6_metBlocks_30 rfl ?_
        refine r_goto (tgt := 5) dX6_metBlocks_33 (by decide) ?_
        first | (rw [← Lm1_t i0 c_18]; exact ih (i + 1) (by omega) (by omega) (by omega)) | exact ih (i + 1) (by omega) (by omega) (by omega)
set_option maxRecDepth 100000 in
set_option maxHeartbeats 4000000 in
theorem c_metBlocks (κ : KP) (h : AH) {bl n : Nat} {R : Int → Int → Int} (hn : n ≤ 8) (hB : BlsAt κ h bl n R) (hR : ∀ b : Int, 0 ≤ b → b < n → RwB (R b) b) {lv N : Nat} {lf : Int → Int} {P : Int → Bool} (hN : N ≤ 8) (hV : ArF h lv .int N (iv lf)) (hL : LFs R n N lf) : MM κ mX6_metBlocks 3 0 0 [.ref bl, .ref lv, .int (J (bs P))] h (fun w h' => ∃ F : Int → Bool, w = some (.int (J (bs F))) ∧ (∀ i, F i = true → 0 ≤ i ∧ i < n) ∧ MetEq R n (LmP lf N P) (fun b => F b = true) ∧ h' = h) NoX := by
  refine mm_of (L := [some _, some _, some _, none, none]) (by decide +kernel) rfl rfl (Nat.le_of_ble_eq_true rfl) rfl ?_
  obtain ⟨f9, hA, hbl⟩ := id hB
  refine r_iconst dX6_metBlocks_0 ?_
  refine r_is3 dX6_metBlocks_1 rfl ?_
  refine r_iconst dX6_metBlocks_2 ?_
  refine r_is4 dX6_metBlocks_3 rfl ?_
  have e0 := l_metB1 (P := P) κ h hn hA hbl hR hN hV hL (N + 1) 0 (by omega) (by omega) (by omega)
  rw [Lm1_0] at e0
  exact e0
/-- the leaves below b, x of them, in the array -/
def LFi (R : Int → Int → Int) (n : Nat) (lf : Int → Int) (x b : Int) : Prop := x = sz (fun b => bP (R b 5 ≠ 0)) b ∧ (∀ i : Int, 0 ≤ i → i < x → (0 ≤ lf i ∧ lf i < b) ∧ R (lf i) 5 ≠ 0) ∧ (∀ i j : Int, 0 ≤ i → i < j → j < x → lf i < lf j) ∧ ∀ y : Int, 0 ≤ y → y < b → R y 5 ≠ 0 → ∃ i : Int, 0 ≤ i ∧ i < x ∧ lf i = y
theorem LFi.skip {R : Int → Int → Int} {n : Nat} {lf : Int → Int} {x b : Int} (h : LFi R n lf x b) (b0 : 0 ≤ b) (hb : R b 5 = 0) : LFi R n lf x (b + 1) := by
  obtain ⟨h1, h2, h3, h4⟩ := h
  refine ⟨?_, fun i a c => ⟨⟨(h2 i a c).1.1, by have := (h2 i a c).1.2; omega⟩, (h2 i a c).2⟩, h3, fun y y0 y1 hy => h4 y y0 (by
    have : y ≠ b := fun e => hy (e ▸ hb)
    omega) hy⟩
  have e9 : sz (fun b => bP (R b 5 ≠ 0)) (b + 1) = sz (fun b => bP (R b 5 ≠ 0)) b + bP (R b 5 ≠ 0) := sz_1 b0
  rw [bP_f (fun q => q hb)] at e9
  omega
theorem LFi.put {R : Int → Int → Int} {n : Nat} {lf : Int → Int} {x b : Int} (h : LFi R n lf x b) (x0 : 0 ≤ x) (b0 : 0 ≤ b) (hb : R b 5 ≠ 0) : LFi R n (upz lf x b) (x + 1) (b + 1) := by
  obtain ⟨h1, h2, h3, h4⟩ := h
  have e9 : sz (fun b => bP (R b 5 ≠ 0)) (b + 1) = sz (fun b => bP (R b 5 ≠ 0)) b + bP (R b 5 ≠ 0) := sz_1 b0
  rw [bP_t hb] at e9
  have old : ∀ i : Int, i ≠ x → upz lf x b i = lf i := fun i hi => upz_ne hi
  refine ⟨by omega, fun i a c => ?_, fun i j a c d => ?_, fun y y0 y1 hy => ?_⟩
  · by_cases e : i = x
    · rw [e, upz_same]
      exact ⟨⟨b0, by omega⟩, hb⟩
    · rw [old i e]
      have := h2 i a (by omega)
      exact ⟨⟨this.1.1, by omega⟩, this.2⟩
  · rw [old i (by omega)]
    by_cases e : j = x
    · rw [e, upz_same]
      exact (h2 i a (by omega)).1.2
    · rw [old j e]
      exact h3 i j a c (by omega)
  · by_cases e : y = b
    · exact ⟨x, x0, by omega, by rw [upz_same, e]⟩
    · obtain ⟨i, i0, i1, hi⟩ := h4 y y0 (by omega) hy
      exact ⟨i, i0, by omega, by rw [old i (by omega)]; exact hi⟩
theorem LFi.fin {R : Int → Int → Int} {n N : Nat} {lf : Int → Int} {x b : Int} (h : LFi R n lf x b) (b0 : 0 ≤ b) (hb : b ≤ n) (hN : (N : Int) = sz (fun b => bP (R b 5 ≠ 0)) n) (he : (n : Int) ≤ b ∨ (N : Int) ≤ x) : LFs R n N lf := by
  have hx : x = N := by
    have m0 : sz (fun b => bP (R b 5 ≠ 0)) b ≤ sz (fun b => bP (R b 5 ≠ 0)) n := sz_mono hb (fun i _ _ => (bP_01 _).1)
    have h1 := h.1
    rcases he with e | e
    · rw [hN, h1, show b = n by omega]
    · omega
  obtain ⟨h1, h2, h3, h4⟩ := h
  refine ⟨fun i a c => ?_, fun i j a c d => h3 i j a c (by omega), fun y y0 y1 hy => ?_, hN⟩
  · have := h2 i a (by omega)
    exact ⟨⟨this.1.1, by omega⟩, this.2⟩
  · by_cases e : y < b
    · obtain ⟨i, i0, i1, hi⟩ := h4 y y0 e hy
      exact ⟨i, i0, by omega, hi⟩
    · have e9 : sz (fun b => bP (R b 5 ≠ 0)) (y + 1) = sz (fun b => bP (R b 5 ≠ 0)) y + bP (R y 5 ≠ 0) := sz_1 y0
      rw [bP_t hy] at e9
      have m1 : sz (fun b => bP (R b 5 ≠ 0)) b ≤ sz (fun b => bP (R b 5 ≠ 0)) y := sz_mono (by omega) (fun i _ _ => (bP_01 _).1)
      have m2 : sz (fun b => bP (R b 5 ≠ 0)) (y + 1) ≤ sz (fun b => bP (R b 5 ≠ 0)) n := sz_mono (by omega) (fun i _ _ => (bP_01 _).1)
      omega
set_option maxRecDepth 100000 in
set_option maxHeartbeats 4000000 in
theorem l_leaves2 (κ : KP) (h : AH) {bl n : Nat} {R : Int → Int → Int} (hn : n ≤ 50) {f9 : Int → Option Nat} (hA : ArF h bl (.object RX1) n (rv f9)) (hbl : ∀ b : Int, 0 ≤ b → b < n → ∃ a, f9 b = some a ∧ BlR κ h a (R b)) (hR : ∀ b : Int, 0 ≤ b → b < n → RwB (R b) b) {a9 N : Nat} (hnew : h a9 = none) (hN : (N : Int) = sz (fun b => bP (R b 5 ≠ 0)) n) (hN5 : N ≤ 50) (k9 n9 : Nat) : ∀ (f : Nat) (b : Int) (x : Int) (lf : Int → Int), (n : Int) - b < (f : Int) → (0 ≤ b) → (b ≤ n) → (0 ≤ x) → (LFi R n lf x b) → WW κ mX6_leavesOf 3 k9 n9 (fun w h' => ∃ (a N : Nat) (lf : Int → Int), w = some (.ref a) ∧ h a = none ∧ h' = upA h a (false, .inl (.int, N, iv lf)) ∧ LFs R n N lf) NoX 37 [some (.ref bl), some (.int (J (N : Int))), some (.ref a9), some (.int (J x)), some (.int (J b))] [] (upA h a9 (true, .inl (.int, N, iv lf))) := by
  intro f
  induction f with
  | zero =>
    intro b x lf hf b0 b1 x0 hI
    exact absurd hf (by omega)
  | succ f ih =>
    intro b x lf hf b0 b1 x0 hI
    refine r_il4 dX6_leavesOf_37 ?_
    refine r_al0 dX6_leavesOf_39 ?_
    refine r_alenF dX6_leavesOf_40 (upo hnew hA) (by decide) rfl ?_
    refine r_icmp_ge (tgt := 74) dX6_leavesOf_41 (by decide) (by (first | omega | assumption | (have hp := sz_01 (k := b) b0 (fun i => bP_01 (R i 5 ≠ 0)); have := hI.1; omega))) (by (first | omega | assumption | (have hp := sz_01 (k := b) b0 (fun i => bP_01 (R i 5 ≠ 0)); have := hI.1; omega))) (fun c_41 => ?_) (fun c_41 => ?_)
    · refine r_al2 dX6_leavesOf_74 ?_
      refine ww_frz1 upA_same ?_
      rw [upA_upA]
      exact r_aretA dX6_leavesOf_75 rfl ⟨a9, N, lf, rfl, hnew, rfl, hI.fin b0 b1 hN (by omega)⟩
    · refine r_il3 dX6_leavesOf_44 ?_
      refine r_al2 dX6_leavesOf_45 ?_
      refine r_alenF dX6_leavesOf_46 upA_same (by decide) rfl ?_
      refine r_icmp_ge (tgt := 74) dX6_leavesOf_47 (by decide) (by (first | omega | assumption | (have hp := sz_01 (k := b) b0 (fun i => bP_01 (R i 5 ≠ 0)); have := hI.1; omega))) (by (first | omega | assumption | (have hp := sz_01 (k := b) b0 (fun i => bP_01 (R i 5 ≠ 0)); have := hI.1; omega))) (fun c_47 => ?_) (fun c_47 => ?_)
      · refine r_al2 dX6_leavesOf_74 ?_
        refine ww_frz1 upA_same ?_
        rw [upA_upA]
        exact r_aretA dX6_leavesOf_75 rfl ⟨a9, N, lf, rfl, hnew, rfl, hI.fin b0 b1 hN (by omega)⟩
      · refine r_al0 dX6_leavesOf_50 ?_
        refine r_il4 dX6_leavesOf_51 ?_
        obtain ⟨a_53, ha_53, hb_53⟩ := hbl b (by omega) (by omega)
        obtain ⟨q_53, s_53, hO_53, hS_53⟩ := id hb_53
        refine r_aaF dX6_leavesOf_53 (upo hnew hA) (by decide) ha_53 (by omega) (by omega) (by omega) ?_
        refine r_callVP0 dX6_leavesOf_54 v_X6_59 (upo hnew hO_53) (c_isGr κ _ ((BlR.fx (Fx.new hnew)) hb_53)) (by decide) rfl ?_
        refine r_ifT_ne (tgt := 68) dX6_leavesOf_57 (by decide) (fun c_57 => ?_) (fun c_57 => ?_)
        · refine r_inc4 dX6_leavesOf_68 rfl ?_
          refine r_goto (tgt := 37) dX6_leavesOf_71 (by decide) ?_
          first | exact ih (b + 1) _ _ (by omega) (by omega) (by omega) (by omega) (hI.skip b0 c_57) | exact ih (b + 1) _ _ (by omega) (by omega) (by omega) (by omega) (hI.put (by omega) b0 c_57)
        · refine r_al2 dX6_leavesOf_60 ?_
          refine r_il3 dX6_leavesOf_61 ?_
          refine r_il4 dX6_leavesOf_62 ?_
          refine r_isJ dX6_leavesOf_64 upA_same (by omega) (by omega) (by omega) ?_
          rw [upA_upA]
          refine r_inc3 dX6_leavesOf_65 rfl ?_
          refine r_inc4 dX6_leavesOf_68 rfl ?_
          refine r_goto (tgt := 37) dX6_leavesOf_71 (by decide) ?_
          first | exact ih (b + 1) _ _ (by omega) (by omega) (by omega) (by omega) (hI.skip b0 c_57) | exact ih (b + 1) _ _ (by omega) (by omega) (by omega) (by omega) (hI.put (by omega) b0 c_57)
set_option maxRecDepth 100000 in
set_option maxHeartbeats 4000000 in
theorem l_leaves1 (κ : KP) (h : AH) {bl n : Nat} {R : Int → Int → Int} (hn : n ≤ 50) {f9 : Int → Option Nat} (hA : ArF h bl (.object RX1) n (rv f9)) (hbl : ∀ b : Int, 0 ≤ b → b < n → ∃ a, f9 b = some a ∧ BlR κ h a (R b)) (hR : ∀ b : Int, 0 ≤ b → b < n → RwB (R b) b) : ∀ (f : Nat) (b : Int), (n : Int) - b < (f : Int) → (0 ≤ b) → (b ≤ n) → WW κ mX6_leavesOf 3 1 50 (fun w h' => ∃ (a N : Nat) (lf : Int → Int), w = some (.ref a) ∧ h a = none ∧ h' = upA h a (false, .inl (.int, N, iv lf)) ∧ LFs R n N lf) NoX 4 [some (.ref bl), some (.int (J (sz (fun b => bP (R b 5 ≠ 0)) b))), some (.int (J b)), none, none] [] h := by
  intro f
  induction f with
  | zero =>
    intro b hf b0 b1
    exact absurd hf (by omega)
  | succ f ih =>
    intro b hf b0 b1
    refine r_il2 dX6_leavesOf_4 ?_
    refine r_al0 dX6_leavesOf_5 ?_
    refine r_alenF dX6_leavesOf_6 (by assumption) (by decide) (rfl) ?_
    refine r_icmp_ge (tgt := 28) dX6_leavesOf_7 (by decide) (by (first | omega | (have hp := sz_01 (k := b) (by omega) (fun i => bP_01 (R i 5 ≠ 0)); omega))) (by (first | omega | (have hp := sz_01 (k := b) (by omega) (fun i => bP_01 (R i 5 ≠ 0)); omega))) (fun c_7 => ?_) (fun c_7 => ?_)
    · have hp := sz_01 (k := (n : Int)) (by omega) (fun i => bP_01 (R i 5 ≠ 0))
      rw [show b = (n : Int) by omega]
      refine r_il1 dX6_leavesOf_28 ?_
      refine r_newa dX6_leavesOf_29 (by decide) ac_I hp.1 (by show _ * 4 ≤ _; omega) (by omega) (by decide) (by omega) (fun a9 hnew => ?_)
      obtain ⟨N, hN⟩ : ∃ N : Nat, (N : Int) = sz (fun b => bP (R b 5 ≠ 0)) n := ⟨(sz (fun b => bP (R b 5 ≠ 0)) n).toNat, by omega⟩
      have eN : (sz (fun b => bP (R b 5 ≠ 0)) n).toNat = N := by omega
      rw [eN, ← hN]
      refine r_as2 dX6_leavesOf_31 rfl ?_
      refine r_iconst dX6_leavesOf_32 ?_
      refine r_is3 dX6_leavesOf_33 rfl ?_
      refine r_iconst dX6_leavesOf_34 ?_
      refine r_is4 dX6_leavesOf_35 rfl ?_
      exact l_leaves2 κ h hn hA hbl hR hnew hN (by omega) _ _ (n + 1) 0 0 (fun _ => 0) (by omega) (by omega) (by omega) (by omega) ⟨rfl, fun i a c => by omega, fun i j a c d => by omega, fun y a c => by omega⟩
    · refine r_al0 dX6_leavesOf_10 ?_
      refine r_il2 dX6_leavesOf_11 ?_
      obtain ⟨a_12, ha_12, hb_12⟩ := hbl b (by omega) (by omega)
      obtain ⟨q_12, s_12, hO_12, hS_12⟩ := id hb_12
      refine r_aaF dX6_leavesOf_12 hA (by decide) ha_12 (by omega) (by omega) (by omega) ?_
      refine r_callVP0 dX6_leavesOf_13 v_X6_59 hO_12 (c_isGr κ h hb_12) (by decide) rfl ?_
      refine r_ifT_ne (tgt := 22) dX6_leavesOf_16 (by decide) (fun c_16 => ?_) (fun c_16 => ?_)
      · refine r_inc2 dX6_leavesOf_22 rfl ?_
        refine r_goto (tgt := 4) dX6_leavesOf_25 (by decide) ?_
        have e9 : sz (fun b => bP (R b 5 ≠ 0)) (b + 1) = sz (fun b => bP (R b 5 ≠ 0)) b + bP (R b 5 ≠ 0) := sz_1 b0
        first | rw [bP_t c_16] at e9 | (rw [bP_f (fun q => q c_16), Int.add_zero] at e9)
        rw [← e9]
        exact ih (b + 1) (by omega) (by omega) (by omega)
      · refine r_inc1 dX6_leavesOf_19 rfl ?_
        refine r_inc2 dX6_leavesOf_22 rfl ?_
        refine r_goto (tgt := 4) dX6_leavesOf_25 (by decide) ?_
        have e9 : sz (fun b => bP (R b 5 ≠ 0)) (b + 1) = sz (fun b => bP (R b 5 ≠ 0)) b + bP (R b 5 ≠ 0) := sz_1 b0
        first | rw [bP_t c_16] at e9 | (rw [bP_f (fun q => q c_16), Int.add_zero] at e9)
        rw [← e9]
        exact ih (b + 1) (by omega) (by omega) (by omega)
set_option maxRecDepth 100000 in
set_option maxHeartbeats 4000000 in
theorem c_leavesOf (κ : KP) (h : AH) {bl n : Nat} {R : Int → Int → Int} (hn : n ≤ 50) (hB : BlsAt κ h bl n R) (hR : ∀ b : Int, 0 ≤ b → b < n → RwB (R b) b) : MM κ mX6_leavesOf 3 1 50 [.ref bl] h (fun w h' => ∃ (a N : Nat) (lf : Int → Int), w = some (.ref a) ∧ h a = none ∧ h' = upA h a (false, .inl (.int, N, iv lf)) ∧ LFs R n N lf) NoX := by
  refine mm_of (L := [some _, none, none, none, none]) (by decide +kernel) rfl rfl (Nat.le_of_ble_eq_true rfl) rfl ?_
  obtain ⟨f9, hA, hbl⟩ := id hB
  refine r_iconst dX6_leavesOf_0 ?_
  refine r_is1 dX6_leavesOf_1 rfl ?_
  refine r_iconst dX6_leavesOf_2 ?_
  refine r_is2 dX6_leavesOf_3 rfl ?_
  exact l_leaves1 κ h hn hA hbl hR (n + 1) 0 (by omega) (by omega) (by omega)
