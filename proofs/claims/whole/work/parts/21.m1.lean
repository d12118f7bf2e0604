/-! ===== the model's small methods ===== -/
/-- the numbers are ints -/
def RG (M : MEM) : Prop := ∀ k i, rng (M k i)
theorem RG.up {M : MEM} {k : Nat} {i v : Int} (h : RG M) (hv : rng v) : RG (updm M k i v) := by
  intro k' i'
  unfold updm
  split
  · exact hv
  · exact h k' i'
def QIn (v lo hi : Int) : Prop := lo ≤ v ∧ v ≤ hi
def QLow (c : Int) : Prop := 97 ≤ c ∧ c ≤ 122
def QCap (c : Int) : Prop := 65 ≤ c ∧ c ≤ 90
def QGr (g : Int → Int) (b : Int) : Prop := g (60 + 12 * b + 0) = 1
def QOld (g : Int → Int) (b c : Int) : Prop := g (60 + 12 * b + 3) < g 0 - g (4 + 4 * c + 3)
def QHas (g : Int → Int) (b code : Int) : Prop := ∃ k : Int, 0 ≤ k ∧ k < g (60 + 12 * b + 5) ∧ g (60 + 12 * b + (6 + k)) = code
def QTk (g : Int → Int) (b c : Int) : Prop := ¬ QGr g b ∧ QHas g b (g (4 + 4 * c + 0)) ∧ g (60 + 12 * b + 4) ≤ g (4 + 4 * c + 2) ∧ ¬ QOld g b c
set_option maxRecDepth 100000 in
set_option maxHeartbeats 4000000 in
theorem c_in (κ : KP) (h : AH) {v lo hi : Int} (r1 : rng v) (r2 : rng lo) (r3 : rng hi) : PM κ mX10_in 1 [.int (J v), .int (J lo), .int (J hi)] h (.int (J (bI (tb (QIn v lo hi))))) := by
  refine mm_of (L := [some _, some _, some _]) (by decide +kernel) rfl rfl (Nat.le_of_ble_eq_true rfl) rfl ?_
  refine r_il0 dX10_in_0 ?_
  refine r_il1 dX10_in_1 ?_
  refine r_icmp_lt (tgt := 14) dX10_in_2 (by decide) (by omega) (by omega) (fun c_2 => ?_) (fun c_2 => ?_)
  · refine r_iconst dX10_in_14 ?_
    refine r_iret dX10_in_15 (ty := .boolean) rfl (by first | exact nar_B _ | decide) ?_
    first | exact ⟨rfl, rfl⟩ | exact ⟨ret_t (by (unfold QIn; omega)), rfl⟩ | exact ⟨ret_f (by (unfold QIn; omega)), rfl⟩
  · refine r_il0 dX10_in_5 ?_
    refine r_il2 dX10_in_6 ?_
    refine r_icmp_gt (tgt := 14) dX10_in_7 (by decide) (by omega) (by omega) (fun c_7 => ?_) (fun c_7 => ?_)
    · refine r_iconst dX10_in_14 ?_
      refine r_iret dX10_in_15 (ty := .boolean) rfl (by first | exact nar_B _ | decide) ?_
      first | exact ⟨rfl, rfl⟩ | exact ⟨ret_t (by (unfold QIn; omega)), rfl⟩ | exact ⟨ret_f (by (unfold QIn; omega)), rfl⟩
    · refine r_iconst dX10_in_10 ?_
      refine r_goto (tgt := 15) dX10_in_11 (by decide) ?_
      refine r_iret dX10_in_15 (ty := .boolean) rfl (by first | exact nar_B _ | decide) ?_
      first | exact ⟨rfl, rfl⟩ | exact ⟨ret_t (by (unfold QIn; omega)), rfl⟩ | exact ⟨ret_f (by (unfold QIn; omega)), rfl⟩
set_option maxRecDepth 100000 in
set_option maxHeartbeats 4000000 in
theorem c_creditAt (κ : KP) (h : AH) {c w : Int} : PM κ mX10_creditAt 1 [.int (J c), .int (J w)] h (.int (J (4 + 4 * c + w))) := by
  refine mm_of (L := [some _, some _]) (by decide +kernel) rfl rfl (Nat.le_of_ble_eq_true rfl) rfl ?_
  refine r_iconst dX10_creditAt_0 ?_
  refine r_iconst dX10_creditAt_1 ?_
  refine r_il0 dX10_creditAt_2 ?_
  refine r_imul dX10_creditAt_3 ?_
  refine r_iadd dX10_creditAt_4 ?_
  refine r_il1 dX10_creditAt_5 ?_
  refine r_iadd dX10_creditAt_6 ?_
  refine r_iret dX10_creditAt_7 (ty := .int) rfl rfl ?_
  exact ⟨rfl, rfl⟩
set_option maxRecDepth 100000 in
set_option maxHeartbeats 4000000 in
theorem c_equalAt (κ : KP) (h : AH) {c w : Int} : PM κ mX10_equalAt 1 [.int (J c), .int (J w)] h (.int (J (28 + 4 * c + w))) := by
  refine mm_of (L := [some _, some _]) (by decide +kernel) rfl rfl (Nat.le_of_ble_eq_true rfl) rfl ?_
  refine r_bipush dX10_equalAt_0 (by decide) ?_
  refine r_iconst dX10_equalAt_2 ?_
  refine r_il0 dX10_equalAt_3 ?_
  refine r_imul dX10_equalAt_4 ?_
  refine r_iadd dX10_equalAt_5 ?_
  refine r_il1 dX10_equalAt_6 ?_
  refine r_iadd dX10_equalAt_7 ?_
  refine r_iret dX10_equalAt_8 (ty := .int) rfl rfl ?_
  exact ⟨rfl, rfl⟩
set_option maxRecDepth 100000 in
set_option maxHeartbeats 4000000 in
theorem c_blockAt (κ : KP) (h : AH) {c w : Int} : PM κ mX10_blockAt 1 [.int (J c), .int (J w)] h (.int (J (60 + 12 * c + w))) := by
  refine mm_of (L := [some _, some _]) (by decide +kernel) rfl rfl (Nat.le_of_ble_eq_true rfl) rfl ?_
  refine r_bipush dX10_blockAt_0 (by decide) ?_
  refine r_bipush dX10_blockAt_2 (by decide) ?_
  refine r_il0 dX10_blockAt_4 ?_
  refine r_imul dX10_blockAt_5 ?_
  refine r_iadd dX10_blockAt_6 ?_
  refine r_il1 dX10_blockAt_7 ?_
  refine r_iadd dX10_blockAt_8 ?_
  refine r_iret dX10_blockAt_9 (ty := .int) rfl rfl ?_
  exact ⟨rfl, rfl⟩
theorem QIn_low {c : Int} : QIn c 97 122 = QLow c := rfl
theorem QIn_cap {c : Int} : QIn c 65 90 = QCap c := rfl
set_option maxRecDepth 100000 in
set_option maxHeartbeats 4000000 in
theorem c_isLow (κ : KP) (h : AH) {c : Int} (r1 : rng c) : PM κ mX10_isLow 2 [.int (J c)] h (.int (J (bI (tb (QLow c))))) := by
  refine mm_of (L := [some _]) (by decide +kernel) rfl rfl (Nat.le_of_ble_eq_true rfl) rfl ?_
  refine r_il0 dX10_isLow_0 ?_
  refine r_bipush dX10_isLow_1 (by decide) ?_
  refine r_bipush dX10_isLow_3 (by decide) ?_
  refine r_callSP3 dX10_isLow_5 s_X10_61 (c_in κ _ (by first | omega | exact hR _ _) (by first | omega | exact hR _ _) (by first | omega | exact hR _ _)) (by decide) rfl ?_
  refine r_iret dX10_isLow_8 (ty := .boolean) rfl (by first | exact nar_B _ | decide) ?_
  first | exact ⟨rfl, rfl⟩ | exact ⟨ret_t (by omega), rfl⟩ | exact ⟨ret_f (by omega), rfl⟩
set_option maxRecDepth 100000 in
set_option maxHeartbeats 4000000 in
theorem c_isCapital (κ : KP) (h : AH) {c : Int} (r1 : rng c) : PM κ mX10_isCapital 2 [.int (J c)] h (.int (J (bI (tb (QCap c))))) := by
  refine mm_of (L := [some _]) (by decide +kernel) rfl rfl (Nat.le_of_ble_eq_true rfl) rfl ?_
  refine r_il0 dX10_isCapital_0 ?_
  refine r_bipush dX10_isCapital_1 (by decide) ?_
  refine r_bipush dX10_isCapital_3 (by decide) ?_
  refine r_callSP3 dX10_isCapital_5 s_X10_61 (c_in κ _ (by first | omega | exact hR _ _) (by first | omega | exact hR _ _) (by first | omega | exact hR _ _)) (by decide) rfl ?_
  refine r_iret dX10_isCapital_8 (ty := .boolean) rfl (by first | exact nar_B _ | decide) ?_
  first | exact ⟨rfl, rfl⟩ | exact ⟨ret_t (by omega), rfl⟩ | exact ⟨ret_f (by omega), rfl⟩
set_option maxRecDepth 100000 in
set_option maxHeartbeats 4000000 in
theorem c_thrown (κ : KP) {A : Nat → Nat} {M : MEM} (h : AH) (hA : MA A) (hR : RG M)  : PM κ mX10_thrown 1 [.ref (A 30)] (mset A M h) (.int (J (M 30 7))) := by
  refine mm_of (L := [some _]) (by decide +kernel) rfl rfl (Nat.le_of_ble_eq_true rfl) rfl ?_
  refine r_al0 dX10_thrown_0 ?_
  refine m_get dX10_thrown_1 f_X10_51 hA rfl ?_
  refine r_iret dX10_thrown_4 (ty := .int) rfl rfl ?_
  exact ⟨rfl, rfl⟩
set_option maxRecDepth 100000 in
set_option maxHeartbeats 4000000 in
theorem c_isCredit (κ : KP) {A : Nat → Nat} {M : MEM} (h : AH) (hA : MA A) (hR : RG M) {c : Int} (r1 : rng c) (h1 : 0 ≤ M 0 1) (h2 : M 0 1 ≤ 6) : PM κ mX10_isCredit 2 [.ref (A 30), .int (J c)] (mset A M h) (.int (J (bI (tb (QIn c 0 (M 0 1 - 1)))))) := by
  refine mm_of (L := [some _, some _]) (by decide +kernel) rfl rfl (Nat.le_of_ble_eq_true rfl) rfl ?_
  refine r_il1 dX10_isCredit_0 ?_
  refine r_iconst dX10_isCredit_1 ?_
  refine r_al0 dX10_isCredit_2 ?_
  refine m_get dX10_isCredit_3 f_X10_7 hA rfl ?_
  refine r_iconst dX10_isCredit_6 ?_
  refine m_ald dX10_isCredit_7 hA (by decide) rfl (by first | omega | (simp only [mlen]; omega)) (by first | omega | (simp only [mlen]; omega)) ?_
  refine r_iconst dX10_isCredit_8 ?_
  refine r_isub dX10_isCredit_9 ?_
  refine r_callSP3 dX10_isCredit_10 s_X10_61 (c_in κ _ (by first | omega | exact hR _ _) (by first | omega | exact hR _ _) (by first | omega | exact hR _ _)) (by decide) rfl ?_
  refine r_iret dX10_isCredit_13 (ty := .boolean) rfl (by first | exact nar_B _ | decide) ?_
  first | exact ⟨rfl, rfl⟩ | exact ⟨ret_t (by omega), rfl⟩ | exact ⟨ret_f (by omega), rfl⟩
set_option maxRecDepth 100000 in
set_option maxHeartbeats 4000000 in
theorem c_isEqual (κ : KP) {A : Nat → Nat} {M : MEM} (h : AH) (hA : MA A) (hR : RG M) {c : Int} (r1 : rng c) (h1 : 0 ≤ M 0 2) (h2 : M 0 2 ≤ 8) : PM κ mX10_isEqual 2 [.ref (A 30), .int (J c)] (mset A M h) (.int (J (bI (tb (QIn c 0 (M 0 2 - 1)))))) := by
  refine mm_of (L := [some _, some _]) (by decide +kernel) rfl rfl (Nat.le_of_ble_eq_true rfl) rfl ?_
  refine r_il1 dX10_isEqual_0 ?_
  refine r_iconst dX10_isEqual_1 ?_
  refine r_al0 dX10_isEqual_2 ?_
  refine m_get dX10_isEqual_3 f_X10_7 hA rfl ?_
  refine r_iconst dX10_isEqual_6 ?_
  refine m_ald dX10_isEqual_7 hA (by decide) rfl (by first | omega | (simp only [mlen]; omega)) (by first | omega | (simp only [mlen]; omega)) ?_
  refine r_iconst dX10_isEqual_8 ?_
  refine r_isub dX10_isEqual_9 ?_
  refine r_callSP3 dX10_isEqual_10 s_X10_61 (c_in κ _ (by first | omega | exact hR _ _) (by first | omega | exact hR _ _) (by first | omega | exact hR _ _)) (by decide) rfl ?_
  refine r_iret dX10_isEqual_13 (ty := .boolean) rfl (by first | exact nar_B _ | decide) ?_
  first | exact ⟨rfl, rfl⟩ | exact ⟨ret_t (by omega), rfl⟩ | exact ⟨ret_f (by omega), rfl⟩
set_option maxRecDepth 100000 in
set_option maxHeartbeats 4000000 in
theorem c_isBlock (κ : KP) {A : Nat → Nat} {M : MEM} (h : AH) (hA : MA A) (hR : RG M) {c : Int} (r1 : rng c) (h1 : 0 ≤ M 0 3) (h2 : M 0 3 ≤ 8) : PM κ mX10_isBlock 2 [.ref (A 30), .int (J c)] (mset A M h) (.int (J (bI (tb (QIn c 0 (M 0 3 - 1)))))) := by
  refine mm_of (L := [some _, some _]) (by decide +kernel) rfl rfl (Nat.le_of_ble_eq_true rfl) rfl ?_
  refine r_il1 dX10_isBlock_0 ?_
  refine r_iconst dX10_isBlock_1 ?_
  refine r_al0 dX10_isBlock_2 ?_
  refine m_get dX10_isBlock_3 f_X10_7 hA rfl ?_
  refine r_iconst dX10_isBlock_6 ?_
  refine m_ald dX10_isBlock_7 hA (by decide) rfl (by first | omega | (simp only [mlen]; omega)) (by first | omega | (simp only [mlen]; omega)) ?_
  refine r_iconst dX10_isBlock_8 ?_
  refine r_isub dX10_isBlock_9 ?_
  refine r_callSP3 dX10_isBlock_10 s_X10_61 (c_in κ _ (by first | omega | exact hR _ _) (by first | omega | exact hR _ _) (by first | omega | exact hR _ _)) (by decide) rfl ?_
  refine r_iret dX10_isBlock_13 (ty := .boolean) rfl (by first | exact nar_B _ | decide) ?_
  first | exact ⟨rfl, rfl⟩ | exact ⟨ret_t (by omega), rfl⟩ | exact ⟨ret_f (by omega), rfl⟩
set_option maxRecDepth 100000 in
set_option maxHeartbeats 4000000 in
theorem c_isGroup (κ : KP) {A : Nat → Nat} {M : MEM} (h : AH) (hA : MA A) (hR : RG M) {b : Int} (b0 : 0 ≤ b) (b1 : b < 8) : PM κ mX10_isGroup 2 [.ref (A 30), .int (J b)] (mset A M h) (.int (J (bI (tb (QGr (M 0) b))))) := by
  refine mm_of (L := [some _, some _]) (by decide +kernel) rfl rfl (Nat.le_of_ble_eq_true rfl) rfl ?_
  refine r_al0 dX10_isGroup_0 ?_
  refine m_get dX10_isGroup_1 f_X10_7 hA rfl ?_
  refine r_il1 dX10_isGroup_4 ?_
  refine r_iconst dX10_isGroup_5 ?_
  refine r_callSP2 dX10_isGroup_6 s_X10_65 (c_blockAt κ _) (by decide) rfl ?_
  refine m_ald dX10_isGroup_9 hA (by decide) rfl (by first | omega | (simp only [mlen]; omega)) (by first | omega | (simp only [mlen]; omega)) ?_
  refine r_iconst dX10_isGroup_10 ?_
  refine r_icmp_ne (tgt := 18) dX10_isGroup_11 (by decide) (by first | omega | exact hR _ _) (by first | omega | exact hR _ _) (fun c_11 => ?_) (fun c_11 => ?_)
  · refine r_iconst dX10_isGroup_18 ?_
    refine r_iret dX10_isGroup_19 (ty := .boolean) rfl (by first | exact nar_B _ | decide) ?_
    first | exact ⟨rfl, rfl⟩ | exact ⟨ret_t (by (unfold QGr; omega)), rfl⟩ | exact ⟨ret_f (by (unfold QGr; omega)), rfl⟩
  · refine r_iconst dX10_isGroup_14 ?_
    refine r_goto (tgt := 19) dX10_isGroup_15 (by decide) ?_
    refine r_iret dX10_isGroup_19 (ty := .boolean) rfl (by first | exact nar_B _ | decide) ?_
    first | exact ⟨rfl, rfl⟩ | exact ⟨ret_t (by (unfold QGr; omega)), rfl⟩ | exact ⟨ret_f (by (unfold QGr; omega)), rfl⟩
set_option maxRecDepth 100000 in
set_option maxHeartbeats 4000000 in
theorem l_hasLetter (κ : KP) {A : Nat → Nat} {M : MEM} (h : AH) (hA : MA A) (hR : RG M) {b code : Int} (rc : rng code) (b0 : 0 ≤ b) (b1 : b < 8) (hm : 0 ≤ M 0 (60 + 12 * b + 5)) (hm2 : M 0 (60 + 12 * b + 5) ≤ 5) : ∀ (f : Nat) (k : Int), M 0 (60 + 12 * b + 5) - k < (f : Int) → (0 ≤ k) → (k ≤ M 0 (60 + 12 * b + 5)) → (∀ j : Int, 0 ≤ j → j < k → M 0 (60 + 12 * b + (6 + j)) ≠ code) → WW κ mX10_hasLetter 2 0 0 (fun w h' => w = some (.int (J (bI (tb (QHas (M 0) b code))))) ∧ h' = mset A M h) NoX 2 [some (.ref (A 30)), some (.int (J b)), some (.int (J code)), some (.int (J k))] [] (mset A M h) := by
  intro f
  induction f with
  | zero =>
    intro k hf k0 k1 hno
    exact absurd hf (by omega)
  | succ f ih =>
    intro k hf k0 k1 hno
    refine r_il3 dX10_hasLetter_2 ?_
    refine r_al0 dX10_hasLetter_3 ?_
    refine m_get dX10_hasLetter_4 f_X10_7 hA rfl ?_
    refine r_il1 dX10_hasLetter_7 ?_
    refine r_iconst dX10_hasLetter_8 ?_
    refine r_callSP2 dX10_hasLetter_9 s_X10_65 (c_blockAt κ _) (by decide) rfl ?_
    refine m_ald dX10_hasLetter_12 hA (by decide) rfl (by first | omega | (simp only [mlen]; omega)) (by first | omega | (simp only [mlen]; omega)) ?_
    refine r_icmp_ge (tgt := 41) dX10_hasLetter_13 (by decide) (by first | omega | exact hR _ _) (by first | omega | exact hR _ _) (fun c_13 => ?_) (fun c_13 => ?_)
    · refine r_iconst dX10_hasLetter_41 ?_
      refine r_iret dX10_hasLetter_42 (ty := .boolean) rfl (by first | exact nar_B _ | decide) ?_
      first | exact ⟨rfl, rfl⟩ | exact ⟨ret_t (by first | exact ⟨k, by omega, by omega, by omega⟩ | exact (fun ⟨j, h1, h2, h3⟩ => hno j h1 (by omega) h3)), rfl⟩ | exact ⟨ret_f (by first | exact ⟨k, by omega, by omega, by omega⟩ | exact (fun ⟨j, h1, h2, h3⟩ => hno j h1 (by omega) h3)), rfl⟩
    · refine r_al0 dX10_hasLetter_16 ?_
      refine m_get dX10_hasLetter_17 f_X10_7 hA rfl ?_
      refine r_il1 dX10_hasLetter_20 ?_
      refine r_bipush dX10_hasLetter_21 (by decide) ?_
      refine r_il3 dX10_hasLetter_23 ?_
      refine r_iadd dX10_hasLetter_24 ?_
      refine r_callSP2 dX10_hasLetter_25 s_X10_65 (c_blockAt κ _) (by decide) rfl ?_
      refine m_ald dX10_hasLetter_28 hA (by decide) rfl (by first | omega | (simp only [mlen]; omega)) (by first | omega | (simp only [mlen]; omega)) ?_
      refine r_il2 dX10_hasLetter_29 ?_
      refine r_icmp_ne (tgt := 35) dX10_hasLetter_30 (by decide) (by first | omega | exact hR _ _) (by first | omega | exact hR _ _) (fun c_30 => ?_) (fun c_30 => ?_)
      · refine r_inc3 dX10_hasLetter_35 rfl ?_
        refine r_goto (tgt := 2) dX10_hasLetter_38 (by decide) ?_
        refine ih (k + 1) (by omega) (by omega) (by omega) (fun j h1 h2 => ?_)
        rcases (show j < k ∨ j = k by omega) with q | q
        · exact hno j h1 q
        · rw [q]; exact c_30
      · refine r_iconst dX10_hasLetter_33 ?_
        refine r_iret dX10_hasLetter_34 (ty := .boolean) rfl (by first | exact nar_B _ | decide) ?_
        first | exact ⟨rfl, rfl⟩ | exact ⟨ret_t (by first | exact ⟨k, by omega, by omega, by omega⟩ | exact (fun ⟨j, h1, h2, h3⟩ => hno j h1 (by omega) h3)), rfl⟩ | exact ⟨ret_f (by first | exact ⟨k, by omega, by omega, by omega⟩ | exact (fun ⟨j, h1, h2, h3⟩ => hno j h1 (by omega) h3)), rfl⟩
set_option maxRecDepth 100000 in
set_option maxHeartbeats 4000000 in
theorem c_hasLetter (κ : KP) {A : Nat → Nat} {M : MEM} (h : AH) (hA : MA A) (hR : RG M) {b code : Int} (rc : rng code) (b0 : 0 ≤ b) (b1 : b < 8) (hm : 0 ≤ M 0 (60 + 12 * b + 5)) (hm2 : M 0 (60 + 12 * b + 5) ≤ 5) : PM κ mX10_hasLetter 2 [.ref (A 30), .int (J b), .int (J code)] (mset A M h) (.int (J (bI (tb (QHas (M 0) b code))))) := by
  refine mm_of (L := [some _, some _, some _, none]) (by decide +kernel) rfl rfl (Nat.le_of_ble_eq_true rfl) rfl ?_
  refine r_iconst dX10_hasLetter_0 ?_
  refine r_is3 dX10_hasLetter_1 rfl ?_
  exact l_hasLetter κ h hA hR rc b0 b1 hm hm2 6 0 (by omega) (by omega) (by omega) (fun j h1 h2 => by omega)
/-! sums -/
noncomputable def sm (f : Int → Int) : Nat → Int
  | 0 => 0
  | n + 1 => sm f n + f n
noncomputable def sz (f : Int → Int) (k : Int) : Int := sm f k.toNat
theorem sz_0 {f : Int → Int} : sz f 0 = 0 := rfl
theorem sz_neg {f : Int → Int} {k : Int} (h : k ≤ 0) : sz f k = 0 := by
  unfold sz
  rw [show k.toNat = 0 by omega]
  rfl
theorem sz_1 {f : Int → Int} {k : Int} (h : 0 ≤ k) : sz f (k + 1) = sz f k + f k := by
  unfold sz
  rw [show (k + 1).toNat = k.toNat + 1 by omega]
  show sm f k.toNat + f (k.toNat : Int) = _
  rw [Int.toNat_of_nonneg h]
theorem sm_cong {f f' : Int → Int} : ∀ {n : Nat}, (∀ i : Int, 0 ≤ i → i < n → f i = f' i) → sm f n = sm f' n
  | 0, _ => rfl
  | n + 1, h => by
    show sm f n + f n = sm f' n + f' n
    rw [sm_cong (n := n) (fun i h0 h1 => h i h0 (by omega)), h n (by omega) (by omega)]
theorem sz_cong {f f' : Int → Int} {k : Int} (h : ∀ i : Int, 0 ≤ i → i < k → f i = f' i) : sz f k = sz f' k := sm_cong (fun i h0 h1 => h i h0 (by omega))
theorem sm_bd {f : Int → Int} {B : Int} : ∀ {n : Nat}, (∀ i : Int, 0 ≤ i → i < n → 0 ≤ f i ∧ f i ≤ B) → 0 ≤ sm f n ∧ sm f n ≤ n * B
  | 0, _ => ⟨Int.le_refl _, by show (0 : Int) ≤ ((0 : Nat) : Int) * B; simp⟩
  | n + 1, h => by
    have h1 := sm_bd (f := f) (B := B) (n := n) (fun i h0 h1 => h i h0 (by omega))
    have h2 := h n (by omega) (by omega)
    have e : ((n + 1 : Nat) : Int) * B = n * B + B := by rw [Int.natCast_add, Int.add_mul]; simp
    show 0 ≤ sm f n + f n ∧ sm f n + f n ≤ _
    rw [e]
    constructor <;> omega
theorem sz_bd {f : Int → Int} {B k : Int} (hk : 0 ≤ k) (h : ∀ i : Int, 0 ≤ i → i < k → 0 ≤ f i ∧ f i ≤ B) : 0 ≤ sz f k ∧ sz f k ≤ k * B := by
  have := sm_bd (f := f) (B := B) (n := k.toNat) (fun i h0 h1 => h i h0 (by omega))
  rw [Int.toNat_of_nonneg hk] at this
  exact this
theorem sm_pos {f : Int → Int} : ∀ {n : Nat}, (∀ i : Int, 0 ≤ i → i < n → 0 ≤ f i) → 0 ≤ sm f n
  | 0, _ => Int.le_refl _
  | n + 1, h => by
    have h1 := sm_pos (f := f) (n := n) (fun i h0 h1 => h i h0 (by omega))
    have h2 := h n (by omega) (by omega)
    show 0 ≤ sm f n + f n
    omega
theorem sz_pos {f : Int → Int} {k : Int} (h : ∀ i : Int, 0 ≤ i → i < k → 0 ≤ f i) : 0 ≤ sz f k := sm_pos (fun i h0 h1 => h i h0 (by omega))
/-- a part of a sum -/
theorem sm_mono {f : Int → Int} {m : Nat} : ∀ {n : Nat}, m ≤ n → (∀ i : Int, 0 ≤ i → i < n → 0 ≤ f i) → sm f m ≤ sm f n
  | 0, h, _ => by rw [Nat.le_zero.mp h]; exact Int.le_refl _
  | n + 1, h, hp => by
    rcases Nat.lt_or_ge m (n + 1) with q | q
    · have h1 := sm_mono (f := f) (m := m) (n := n) (by omega) (fun i h0 h1 => hp i h0 (by omega))
      have h2 := hp n (by omega) (by omega)
      show sm f m ≤ sm f n + f n
      omega
    · rw [show m = n + 1 by omega]; exact Int.le_refl _
theorem sz_mono {f : Int → Int} {j k : Int} (hj : j ≤ k) (h : ∀ i : Int, 0 ≤ i → i < k → 0 ≤ f i) : sz f j ≤ sz f k := sm_mono (by omega) (fun i h0 h1 => h i h0 (by omega))
noncomputable def bP (P : Prop) : Int := bI (tb P)
theorem bP_t {P : Prop} (h : P) : bP P = 1 := by unfold bP; rw [tb_t.mpr h]; rfl
theorem bP_f {P : Prop} (h : ¬ P) : bP P = 0 := by unfold bP; rw [tb_f.mpr h]; rfl
theorem bP_01 (P : Prop) : 0 ≤ bP P ∧ bP P ≤ 1 := bI_01 _
theorem bP_cong {P R : Prop} (h : P ↔ R) : bP P = bP R := by unfold bP; rw [tb_congr h]
/-! the desk g: year, counts, credits, equivalences, blocks, each at its place -/
abbrev yr (g : Int → Int) : Int := g 0
abbrev nC (g : Int → Int) : Int := g 1
abbrev nE (g : Int → Int) : Int := g 2
abbrev nB (g : Int → Int) : Int := g 3
noncomputable def qparts (g : Int → Int) (b : Int) : Int := sz (fun k => bP (g (60 + 12 * k + 1) = b)) (g 3)
noncomputable def qleaves (g : Int → Int) : Int := sz (fun k => bP (¬ QGr g k)) (g 3)
def WFc (g : Int → Int) (c : Int) : Prop := (QLow (g (4 + 4 * c + 0)) ∨ QCap (g (4 + 4 * c + 0))) ∧ 0 ≤ g (4 + 4 * c + 1) ∧ g (4 + 4 * c + 1) ≤ 24 ∧ 0 ≤ g (4 + 4 * c + 2) ∧ g (4 + 4 * c + 2) ≤ 20 ∧ 0 ≤ g (4 + 4 * c + 3) ∧ g (4 + 4 * c + 3) ≤ 60
def WFe (g : Int → Int) (e : Int) : Prop := QCap (g (28 + 4 * e + 0)) ∧ (g (28 + 4 * e + 1) = 32 ∨ QCap (g (28 + 4 * e + 1))) ∧ g (28 + 4 * e + 0) ≠ g (28 + 4 * e + 1) ∧ QLow (g (28 + 4 * e + 2)) ∧ (g (28 + 4 * e + 3) = 32 ∨ QLow (g (28 + 4 * e + 3))) ∧ g (28 + 4 * e + 2) ≠ g (28 + 4 * e + 3)
def WFb (g : Int → Int) (b : Int) : Prop := (g (60 + 12 * b + 0) = 0 ∨ g (60 + 12 * b + 0) = 1) ∧ (-1 ≤ g (60 + 12 * b + 1) ∧ g (60 + 12 * b + 1) < b) ∧ (1 ≤ g (60 + 12 * b + 2) ∧ g (60 + 12 * b + 2) ≤ 30) ∧ (-1 ≤ g (60 + 12 * b + 3) ∧ g (60 + 12 * b + 3) ≤ 60) ∧ (-1 ≤ g (60 + 12 * b + 4) ∧ g (60 + 12 * b + 4) ≤ 20) ∧ (0 ≤ g (60 + 12 * b + 5) ∧ g (60 + 12 * b + 5) ≤ 5) ∧ (0 ≤ g (60 + 12 * b + 11) ∧ g (60 + 12 * b + 11) ≤ 3) ∧
  (g (60 + 12 * b + 0) = 1 → g (60 + 12 * b + 2) ≤ 9 ∧ g (60 + 12 * b + 3) = -1 ∧ g (60 + 12 * b + 4) = -1 ∧ g (60 + 12 * b + 5) = 0 ∧ g (60 + 12 * b + 2) ≤ qparts g b) ∧ (g (60 + 12 * b + 0) = 0 → 0 ≤ g (60 + 12 * b + 3) ∧ 10 ≤ g (60 + 12 * b + 4) ∧ 1 ≤ g (60 + 12 * b + 5)) ∧
  (0 ≤ g (60 + 12 * b + 1) → g (60 + 12 * g (60 + 12 * b + 1) + 0) = 1 ∧ g (60 + 12 * b + 11) = g (60 + 12 * g (60 + 12 * b + 1) + 11) + 1) ∧ (g (60 + 12 * b + 1) < 0 → g (60 + 12 * b + 11) = 0) ∧ (∀ k : Int, 0 ≤ k → k < g (60 + 12 * b + 5) → QLow (g (60 + 12 * b + (6 + k))))
def WF (g : Int → Int) : Prop := (0 ≤ g 0 ∧ g 0 ≤ 60) ∧ (0 ≤ g 1 ∧ g 1 ≤ 6) ∧ (0 ≤ g 2 ∧ g 2 ≤ 8) ∧ (0 ≤ g 3 ∧ g 3 ≤ 8) ∧ qleaves g ≤ 4 ∧ (∀ c, 0 ≤ c → c < g 1 → WFc g c) ∧ (∀ e, 0 ≤ e → e < g 2 → WFe g e) ∧ ∀ b, 0 ≤ b → b < g 3 → WFb g b
theorem WF.n {g : Int → Int} (h : WF g) : (0 ≤ g 0 ∧ g 0 ≤ 60) ∧ (0 ≤ g 1 ∧ g 1 ≤ 6) ∧ (0 ≤ g 2 ∧ g 2 ≤ 8) ∧ (0 ≤ g 3 ∧ g 3 ≤ 8) := ⟨h.1, h.2.1, h.2.2.1, h.2.2.2.1⟩
theorem WF.c {g : Int → Int} (h : WF g) {c : Int} (h0 : 0 ≤ c) (h1 : c < g 1) : WFc g c := h.2.2.2.2.2.1 c h0 h1
theorem WF.e {g : Int → Int} (h : WF g) {c : Int} (h0 : 0 ≤ c) (h1 : c < g 2) : WFe g c := h.2.2.2.2.2.2.1 c h0 h1
theorem WF.b {g : Int → Int} (h : WF g) {b : Int} (h0 : 0 ≤ b) (h1 : b < g 3) : WFb g b := h.2.2.2.2.2.2.2 b h0 h1

set_option maxRecDepth 100000 in
set_option maxHeartbeats 4000000 in
theorem c_isOld (κ : KP) {A : Nat → Nat} {M : MEM} (h : AH) (hA : MA A) (hR : RG M) {b c : Int} (hW : WF (M 0)) (b0 : 0 ≤ b) (b1 : b < M 0 3) (c0 : 0 ≤ c) (c1 : c < M 0 1) : PM κ mX10_isOld 2 [.ref (A 30), .int (J b), .int (J c)] (mset A M h) (.int (J (bI (tb (QOld (M 0) b c))))) := by
  refine mm_of (L := [some _, some _, some _]) (by decide +kernel) rfl rfl (Nat.le_of_ble_eq_true rfl) rfl ?_
  obtain ⟨⟨y0, y1⟩, ⟨n0, n1⟩, ⟨e0, e1⟩, ⟨m0, m1⟩⟩ := hW.n
  have hb := hW.b b0 b1
  have hc := hW.c c0 c1
  unfold WFb at hb
  unfold WFc at hc
  refine r_al0 dX10_isOld_0 ?_
  refine m_get dX10_isOld_1 f_X10_7 hA rfl ?_
  refine r_iconst dX10_isOld_4 ?_
  refine m_ald dX10_isOld_5 hA (by decide) rfl (by first | omega | (simp only [mlen]; omega)) (by first | omega | (simp only [mlen]; omega)) ?_
  refine r_al0 dX10_isOld_6 ?_
  refine m_get dX10_isOld_7 f_X10_7 hA rfl ?_
  refine r_il2 dX10_isOld_10 ?_
  refine r_iconst dX10_isOld_11 ?_
  refine r_callSP2 dX10_isOld_12 s_X10_83 (c_creditAt κ _) (by decide) rfl ?_
  refine m_ald dX10_isOld_15 hA (by decide) rfl (by first | omega | (simp only [mlen]; omega)) (by first | omega | (simp only [mlen]; omega)) ?_
  refine r_isub dX10_isOld_16 ?_
  refine r_al0 dX10_isOld_17 ?_
  refine m_get dX10_isOld_18 f_X10_7 hA rfl ?_
  refine r_il1 dX10_isOld_21 ?_
  refine r_iconst dX10_isOld_22 ?_
  refine r_callSP2 dX10_isOld_23 s_X10_65 (c_blockAt κ _) (by decide) rfl ?_
  refine m_ald dX10_isOld_26 hA (by decide) rfl (by first | omega | (simp only [mlen]; omega)) (by first | omega | (simp only [mlen]; omega)) ?_
  refine r_icmp_le (tgt := 34) dX10_isOld_27 (by decide) (by first | omega | exact hR _ _) (by first | omega | exact hR _ _) (fun c_27 => ?_) (fun c_27 => ?_)
  · refine r_iconst dX10_isOld_34 ?_
    refine r_iret dX10_isOld_35 (ty := .boolean) rfl (by first | exact nar_B _ | decide) ?_
    first | exact ⟨rfl, rfl⟩ | exact ⟨ret_t (by (unfold QOld; omega)), rfl⟩ | exact ⟨ret_f (by (unfold QOld; omega)), rfl⟩
  · refine r_iconst dX10_isOld_30 ?_
    refine r_goto (tgt := 35) dX10_isOld_31 (by decide) ?_
    refine r_iret dX10_isOld_35 (ty := .boolean) rfl (by first | exact nar_B _ | decide) ?_
    first | exact ⟨rfl, rfl⟩ | exact ⟨ret_t (by (unfold QOld; omega)), rfl⟩ | exact ⟨ret_f (by (unfold QOld; omega)), rfl⟩
set_option maxRecDepth 100000 in
set_option maxHeartbeats 4000000 in
theorem c_takes (κ : KP) {A : Nat → Nat} {M : MEM} (h : AH) (hA : MA A) (hR : RG M) {b c : Int} (hW : WF (M 0)) (b0 : 0 ≤ b) (b1 : b < M 0 3) (c0 : 0 ≤ c) (c1 : c < M 0 1) : PM κ mX10_takes 3 [.ref (A 30), .int (J b), .int (J c)] (mset A M h) (.int (J (bI (tb (QTk (M 0) b c))))) := by
  refine mm_of (L := [some _, some _, some _]) (by decide +kernel) rfl rfl (Nat.le_of_ble_eq_true rfl) rfl ?_
  obtain ⟨⟨y0, y1⟩, ⟨n0, n1⟩, ⟨e0, e1⟩, ⟨m0, m1⟩⟩ := hW.n
  have hb := hW.b b0 b1
  have hc := hW.c c0 c1
  unfold WFb at hb
  unfold WFc at hc
  refine r_al0 dX10_takes_0 ?_
  refine r_il1 dX10_takes_1 ?_
  refine m_callP1 dX10_takes_2 v_X10_86 hA (c_isGroup κ _ hA hR (by omega) (by omega)) (by decide) rfl ?_
  refine r_ifT_ne (tgt := 62) dX10_takes_5 (by decide) (fun c_5 => ?_) (fun c_5 => ?_)
  · refine r_iconst dX10_takes_62 ?_
    refine r_iret dX10_takes_63 (ty := .boolean) rfl (by first | exact nar_B _ | decide) ?_
    first | exact ⟨rfl, rfl⟩ | exact ⟨ret_t (by (unfold QTk; first | exact ⟨by assumption, by assumption, by omega, by assumption⟩ | (intro hh; obtain ⟨h1, h2, h3, h4⟩ := hh; first | contradiction | omega))), rfl⟩ | exact ⟨ret_f (by (unfold QTk; first | exact ⟨by assumption, by assumption, by omega, by assumption⟩ | (intro hh; obtain ⟨h1, h2, h3, h4⟩ := hh; first | contradiction | omega))), rfl⟩
  · refine r_al0 dX10_takes_8 ?_
    refine r_il1 dX10_takes_9 ?_
    refine r_al0 dX10_takes_10 ?_
    refine m_get dX10_takes_11 f_X10_7 hA rfl ?_
    refine r_il2 dX10_takes_14 ?_
    refine r_iconst dX10_takes_15 ?_
    refine r_callSP2 dX10_takes_16 s_X10_83 (c_creditAt κ _) (by decide) rfl ?_
    refine m_ald dX10_takes_19 hA (by decide) rfl (by first | omega | (simp only [mlen]; omega)) (by first | omega | (simp only [mlen]; omega)) ?_
    refine m_callP2 dX10_takes_20 v_X10_90 hA (c_hasLetter κ _ hA hR (by first | omega | exact hR _ _) (by omega) (by omega) (by omega) (by omega)) (by decide) rfl ?_
    refine r_ifT_eq (tgt := 62) dX10_takes_23 (by decide) (fun c_23 => ?_) (fun c_23 => ?_)
    · refine r_iconst dX10_takes_62 ?_
      refine r_iret dX10_takes_63 (ty := .boolean) rfl (by first | exact nar_B _ | decide) ?_
      first | exact ⟨rfl, rfl⟩ | exact ⟨ret_t (by (unfold QTk; first | exact ⟨by assumption, by assumption, by omega, by assumption⟩ | (intro hh; obtain ⟨h1, h2, h3, h4⟩ := hh; first | contradiction | omega))), rfl⟩ | exact ⟨ret_f (by (unfold QTk; first | exact ⟨by assumption, by assumption, by omega, by assumption⟩ | (intro hh; obtain ⟨h1, h2, h3, h4⟩ := hh; first | contradiction | omega))), rfl⟩
    · refine r_al0 dX10_takes_26 ?_
      refine m_get dX10_takes_27 f_X10_7 hA rfl ?_
      refine r_il2 dX10_takes_30 ?_
      refine r_iconst dX10_takes_31 ?_
      refine r_callSP2 dX10_takes_32 s_X10_83 (c_creditAt κ _) (by decide) rfl ?_
      refine m_ald dX10_takes_35 hA (by decide) rfl (by first | omega | (simp only [mlen]; omega)) (by first | omega | (simp only [mlen]; omega)) ?_
      refine r_al0 dX10_takes_36 ?_
      refine m_get dX10_takes_37 f_X10_7 hA rfl ?_
      refine r_il1 dX10_takes_40 ?_
      refine r_iconst dX10_takes_41 ?_
      refine r_callSP2 dX10_takes_42 s_X10_65 (c_blockAt κ _) (by decide) rfl ?_
      refine m_ald dX10_takes_45 hA (by decide) rfl (by first | omega | (simp only [mlen]; omega)) (by first | omega | (simp only [mlen]; omega)) ?_
      refine r_icmp_lt (tgt := 62) dX10_takes_46 (by decide) (by first | omega | exact hR _ _) (by first | omega | exact hR _ _) (fun c_46 => ?_) (fun c_46 => ?_)
      · refine r_iconst dX10_takes_62 ?_
        refine r_iret dX10_takes_63 (ty := .boolean) rfl (by first | exact nar_B _ | decide) ?_
        first | exact ⟨rfl, rfl⟩ | exact ⟨ret_t (by (unfold QTk; first | exact ⟨by assumption, by assumption, by omega, by assumption⟩ | (intro hh; obtain ⟨h1, h2, h3, h4⟩ := hh; first | contradiction | omega))), rfl⟩ | exact ⟨ret_f (by (unfold QTk; first | exact ⟨by assumption, by assumption, by omega, by assumption⟩ | (intro hh; obtain ⟨h1, h2, h3, h4⟩ := hh; first | contradiction | omega))), rfl⟩
      · refine r_al0 dX10_takes_49 ?_
        refine r_il1 dX10_takes_50 ?_
        refine r_il2 dX10_takes_51 ?_
        refine m_callP2 dX10_takes_52 v_X10_94 hA (c_isOld κ _ hA hR hW (by omega) (by omega) (by omega) (by omega)) (by decide) rfl ?_
        refine r_ifT_ne (tgt := 62) dX10_takes_55 (by decide) (fun c_55 => ?_) (fun c_55 => ?_)
        · refine r_iconst dX10_takes_62 ?_
          refine r_iret dX10_takes_63 (ty := .boolean) rfl (by first | exact nar_B _ | decide) ?_
          first | exact ⟨rfl, rfl⟩ | exact ⟨ret_t (by (unfold QTk; first | exact ⟨by assumption, by assumption, by omega, by assumption⟩ | (intro hh; obtain ⟨h1, h2, h3, h4⟩ := hh; first | contradiction | omega))), rfl⟩ | exact ⟨ret_f (by (unfold QTk; first | exact ⟨by assumption, by assumption, by omega, by assumption⟩ | (intro hh; obtain ⟨h1, h2, h3, h4⟩ := hh; first | contradiction | omega))), rfl⟩
        · refine r_iconst dX10_takes_58 ?_
          refine r_goto (tgt := 63) dX10_takes_59 (by decide) ?_
          refine r_iret dX10_takes_63 (ty := .boolean) rfl (by first | exact nar_B _ | decide) ?_
          first | exact ⟨rfl, rfl⟩ | exact ⟨ret_t (by (unfold QTk; first | exact ⟨by assumption, by assumption, by omega, by assumption⟩ | (intro hh; obtain ⟨h1, h2, h3, h4⟩ := hh; first | contradiction | omega))), rfl⟩ | exact ⟨ret_f (by (unfold QTk; first | exact ⟨by assumption, by assumption, by omega, by assumption⟩ | (intro hh; obtain ⟨h1, h2, h3, h4⟩ := hh; first | contradiction | omega))), rfl⟩
/-- p is the first place behind b for the credit c, -1 none -/
def QPl (g : Int → Int) (c b p : Int) : Prop := (p = -1 ∧ ∀ k, b < k → k < g 3 → ¬ QTk g k c) ∨ (b < p ∧ p < g 3 ∧ QTk g p c ∧ ∀ k, b < k → k < p → ¬ QTk g k c)
set_option maxRecDepth 100000 in
set_option maxHeartbeats 4000000 in
theorem l_firstPlace (κ : KP) {A : Nat → Nat} {M : MEM} (h : AH) (hA : MA A) (hR : RG M) (hW : WF (M 0)) {c : Int} (c0 : 0 ≤ c) (c1 : c < M 0 1) : ∀ (f : Nat) (k : Int), M 0 3 - k < (f : Int) → (0 ≤ k) → (k ≤ M 0 3) → (∀ j : Int, (-1) < j → j < k → ¬ QTk (M 0) j c) → WW κ mX10_firstPlace 4 0 0 (fun v h' => ∃ r M', v = some (.int (J r)) ∧ h' = mset A M' h ∧ (fun r M' => M' = M ∧ QPl (M 0) c (-1) r) r M') NoX 2 [some (.ref (A 30)), some (.int (J c)), some (.int (J k))] [] (mset A M h) := by
  intro f
  induction f with
  | zero =>
    intro k hf k0 k1 hno
    exact absurd hf (by omega)
  | succ f ih =>
    intro k hf k0 k1 hno
    obtain ⟨⟨y0, y1⟩, ⟨n0, n1⟩, ⟨e0, e1⟩, ⟨m0, m1⟩⟩ := hW.n
    refine r_il2 dX10_firstPlace_2 ?_
    refine r_al0 dX10_firstPlace_3 ?_
    refine m_get dX10_firstPlace_4 f_X10_7 hA rfl ?_
    refine r_iconst dX10_firstPlace_7 ?_
    refine m_ald dX10_firstPlace_8 hA (by decide) rfl (by first | omega | (simp only [mlen]; omega)) (by first | omega | (simp only [mlen]; omega)) ?_
    refine r_icmp_ge (tgt := 29) dX10_firstPlace_9 (by decide) (by first | omega | exact hR _ _) (by first | omega | exact hR _ _) (fun c_9 => ?_) (fun c_9 => ?_)
    · refine r_iconst dX10_firstPlace_29 ?_
      refine r_iret dX10_firstPlace_30 (ty := .int) rfl rfl ⟨_, _, rfl, rfl, ?_⟩
      first | exact ⟨rfl, Or.inr ⟨by omega, by omega, by assumption, hno⟩⟩ | exact ⟨rfl, Or.inl ⟨rfl, fun j h1 h2 => hno j h1 (by omega)⟩⟩
    · refine r_al0 dX10_firstPlace_12 ?_
      refine r_il2 dX10_firstPlace_13 ?_
      refine r_il1 dX10_firstPlace_14 ?_
      refine m_callP2 dX10_firstPlace_15 v_X10_106 hA (c_takes κ _ hA hR hW (by omega) (by omega) (by omega) (by omega)) (by decide) rfl ?_
      refine r_ifT_eq (tgt := 23) dX10_firstPlace_18 (by decide) (fun c_18 => ?_) (fun c_18 => ?_)
      · refine r_inc2 dX10_firstPlace_23 rfl ?_
        refine r_goto (tgt := 2) dX10_firstPlace_26 (by decide) ?_
        refine ih (k + 1) (by omega) (by omega) (by omega) (fun j h1 h2 => ?_)
        rcases (show j < k ∨ j = k by omega) with q | q
        · exact hno j h1 q
        · rw [q]; assumption
      · refine r_il2 dX10_firstPlace_21 ?_
        refine r_iret dX10_firstPlace_22 (ty := .int) rfl rfl ⟨_, _, rfl, rfl, ?_⟩
        first | exact ⟨rfl, Or.inr ⟨by omega, by omega, by assumption, hno⟩⟩ | exact ⟨rfl, Or.inl ⟨rfl, fun j h1 h2 => hno j h1 (by omega)⟩⟩
set_option maxRecDepth 100000 in
set_option maxHeartbeats 4000000 in
theorem l_placeAfter (κ : KP) {A : Nat → Nat} {M : MEM} (h : AH) (hA : MA A) (hR : RG M) (hW : WF (M 0)) {c : Int} (c0 : 0 ≤ c) (c1 : c < M 0 1) {b : Int} (b0 : 0 ≤ b) (b1 : b < M 0 3) : ∀ (f : Nat) (k : Int), M 0 3 - k < (f : Int) → (b < k) → (k ≤ M 0 3) → (∀ j : Int, b < j → j < k → ¬ QTk (M 0) j c) → WW κ mX10_placeAfter 4 0 0 (fun v h' => ∃ r M', v = some (.int (J r)) ∧ h' = mset A M' h ∧ (fun r M' => M' = M ∧ QPl (M 0) c b r) r M') NoX 12 [some (.ref (A 30)), some (.int (J c)), some (.int (J b)), some (.int (J k))] [] (mset A M h) := by
  intro f
  induction f with
  | zero =>
    intro k hf k0 k1 hno
    exact absurd hf (by omega)
  | succ f ih =>
    intro k hf k0 k1 hno
    obtain ⟨⟨y0, y1⟩, ⟨n0, n1⟩, ⟨e0, e1⟩, ⟨m0, m1⟩⟩ := hW.n
    refine r_il3 dX10_placeAfter_12 ?_
    refine r_al0 dX10_placeAfter_13 ?_
    refine m_get dX10_placeAfter_14 f_X10_7 hA rfl ?_
    refine r_iconst dX10_placeAfter_17 ?_
    refine m_ald dX10_placeAfter_18 hA (by decide) rfl (by first | omega | (simp only [mlen]; omega)) (by first | omega | (simp only [mlen]; omega)) ?_
    refine r_icmp_ge (tgt := 39) dX10_placeAfter_19 (by decide) (by first | omega | exact hR _ _) (by first | omega | exact hR _ _) (fun c_19 => ?_) (fun c_19 => ?_)
    · refine r_iconst dX10_placeAfter_39 ?_
      refine r_iret dX10_placeAfter_40 (ty := .int) rfl rfl ⟨_, _, rfl, rfl, ?_⟩
      first | exact ⟨rfl, Or.inr ⟨by omega, by omega, by assumption, hno⟩⟩ | exact ⟨rfl, Or.inl ⟨rfl, fun j h1 h2 => hno j h1 (by omega)⟩⟩
    · refine r_al0 dX10_placeAfter_22 ?_
      refine r_il3 dX10_placeAfter_23 ?_
      refine r_il1 dX10_placeAfter_24 ?_
      refine m_callP2 dX10_placeAfter_25 v_X10_106 hA (c_takes κ _ hA hR hW (by omega) (by omega) (by omega) (by omega)) (by decide) rfl ?_
      refine r_ifT_eq (tgt := 33) dX10_placeAfter_28 (by decide) (fun c_28 => ?_) (fun c_28 => ?_)
      · refine r_inc3 dX10_placeAfter_33 rfl ?_
        refine r_goto (tgt := 12) dX10_placeAfter_36 (by decide) ?_
        refine ih (k + 1) (by omega) (by omega) (by omega) (fun j h1 h2 => ?_)
        rcases (show j < k ∨ j = k by omega) with q | q
        · exact hno j h1 q
        · rw [q]; assumption
      · refine r_il3 dX10_placeAfter_31 ?_
        refine r_iret dX10_placeAfter_32 (ty := .int) rfl rfl ⟨_, _, rfl, rfl, ?_⟩
        first | exact ⟨rfl, Or.inr ⟨by omega, by omega, by assumption, hno⟩⟩ | exact ⟨rfl, Or.inl ⟨rfl, fun j h1 h2 => hno j h1 (by omega)⟩⟩
set_option maxRecDepth 100000 in
set_option maxHeartbeats 4000000 in
theorem c_firstPlace (κ : KP) {A : Nat → Nat} {M : MEM} (hA : MA A) (hR : RG M) (hW : WF (M 0)) {c : Int} (c0 : 0 ≤ c) (c1 : c < M 0 1) : RM κ mX10_firstPlace 4 A [.ref (A 30), .int (J c)] M (fun r M' => M' = M ∧ QPl (M 0) c (-1) r) := by
  intro h
  refine mm_of (L := [some _, some _, none]) (by decide +kernel) rfl rfl (Nat.le_of_ble_eq_true rfl) rfl ?_
  obtain ⟨⟨y0, y1⟩, ⟨n0, n1⟩, ⟨e0, e1⟩, ⟨m0, m1⟩⟩ := hW.n
  refine r_iconst dX10_firstPlace_0 ?_
  refine r_is2 dX10_firstPlace_1 rfl ?_
  exact l_firstPlace κ h hA hR hW c0 c1 9 0 (by omega) (by omega) (by omega) (fun j h1 h2 => by omega)
set_option maxRecDepth 100000 in
set_option maxHeartbeats 4000000 in
theorem c_placeAfter (κ : KP) {A : Nat → Nat} {M : MEM} (hA : MA A) (hR : RG M) (hW : WF (M 0)) {c b : Int} (c0 : 0 ≤ c) (c1 : c < M 0 1) (b0 : -1 ≤ b) (b1 : b < M 0 3) : RM κ mX10_placeAfter 4 A [.ref (A 30), .int (J c), .int (J b)] M (fun r M' => M' = M ∧ ((b = -1 ∧ r = -2) ∨ (0 ≤ b ∧ QPl (M 0) c b r))) := by
  intro h
  refine mm_of (L := [some _, some _, some _, none]) (by decide +kernel) rfl rfl (Nat.le_of_ble_eq_true rfl) rfl ?_
  obtain ⟨⟨y0, y1⟩, ⟨n0, n1⟩, ⟨e0, e1⟩, ⟨m0, m1⟩⟩ := hW.n
  refine r_il2 dX10_placeAfter_0 ?_
  refine r_iconst dX10_placeAfter_1 ?_
  refine r_icmp_ne (tgt := 8) dX10_placeAfter_2 (by decide) (by first | omega | exact hR _ _) (by first | omega | exact hR _ _) (fun c_2 => ?_) (fun c_2 => ?_)
  · refine r_il2 dX10_placeAfter_8 ?_
    refine r_iconst dX10_placeAfter_9 ?_
    refine r_iadd dX10_placeAfter_10 ?_
    refine r_is3 dX10_placeAfter_11 rfl ?_
    refine ww_postR (P := fun r M' => M' = M ∧ QPl (M 0) c b r) (fun r M' e => ⟨e.1, Or.inr ⟨by omega, e.2⟩⟩) ?_
    exact l_placeAfter κ h hA hR hW c0 c1 (b := b) (by omega) (by omega) 9 (b + 1) (by omega) (by omega) (by omega) (fun j h1 h2 => by omega)
  · refine r_bipush dX10_placeAfter_5 (by decide) ?_
    refine r_iret dX10_placeAfter_7 (ty := .int) rfl rfl ⟨_, _, rfl, rfl, ?_⟩
    exact ⟨rfl, Or.inl ⟨by omega, rfl⟩⟩
