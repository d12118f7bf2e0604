/-! ===== the history ===== -/
section CROWS2
variable {κ : KP} {mi : MI} {d k n : Nat} {Q : Option Value → AH → Prop} {E : String → AH → Prop} {pc : Nat} {L : List (Option Value)} {st : List Value} {B : Nat → Nat} {S : CST} {h : AH} {kc k9 : Nat} {fs : List Value}
/-- a field that holds a reference -/
theorem b_getR {idx j v : Nat} {z : Int} (hd : decode mi.2.1 pc = .ok (.getfield idx, 3)) (hf : FL mi.1.cls idx kc j) (hB : BA B) (hk : k9 ∈ bids) (hc : bcell B S k9 = (true, .inr (kc, fs))) (hv : fs[j]? = some (va_rf (rz z))) (hz : z = (v : Int)) (kk : WW κ mi d k n Q E (pc + 3) L (.ref v :: st) (cset B S h)) : WW κ mi d k n Q E pc L (.ref (B k9) :: st) (cset B S h) := by
  refine b_get hd hf hB hk hc hv ?_
  rw [hz, rz_c]
  exact kk
theorem b_aalR {N v : Nat} {i : Int} {Cn : String} (hd : decode mi.2.1 pc = .ok (.aaload, 1)) (hB : BA B) (hk : k9 ∈ bids) (hc : bcell B S k9 = (true, .inl (.object Cn, N, rv (fun i => rz (S k9 i))))) (hty : FieldType.object Cn ∈ arTys) (h0 : 0 ≤ i) (h1 : i < N) (h2 : N < 2147483648) (hz : S k9 i = (v : Int)) (kk : WW κ mi d k n Q E (pc + 1) L (.ref v :: st) (cset B S h)) : WW κ mi d k n Q E pc L (.int (J i) :: .ref (B k9) :: st) (cset B S h) := by
  refine b_aald hd hB hk hc hty h0 h1 h2 ?_
  rw [hz, rz_c]
  exact kk
end CROWS2
/-- the desks that are kept -/
def HK (H : AH) (S : CST) : Prop := (0 ≤ S 2 1 ∧ S 2 1 ≤ 8) ∧ ∀ p : Int, 0 ≤ p → p < S 2 1 → ∃ (v : Nat) (fs : List Value), S 11 p = (v : Int) ∧ ObF H v 7 fs
/-- a desk is kept -/
def HKp (S S' : CST) (q : Nat) : Prop := SK [2, 11] S S' ∧ (∀ j : Int, j ≠ 1 → S' 2 j = S 2 j) ∧ ((S 2 1 < 8 ∧ S' 2 1 = S 2 1 + 1 ∧ S' 11 (S 2 1) = q ∧ ∀ j : Int, j ≠ S 2 1 → S' 11 j = S 11 j) ∨ (S 2 1 = 8 ∧ S' 2 1 = 8 ∧ S' 11 7 = q ∧ ∀ j : Int, 0 ≤ j → j < 7 → S' 11 j = S 11 (j + 1)))
set_option maxRecDepth 100000 in
set_option maxHeartbeats 4000000 in
theorem l_keep (κ : KP) {B : Nat → Nat} (h : AH) (hB : BA B) {S : CST} {q : Nat} {fq : List Value} (hq : ObF (cset B S h) q 7 fq) (hK : HK (cset B S h) S) (e8 : S 2 1 = 8) : ∀ (f : Nat) (i : Int) (S1 : CST), 8 - i < (f : Int) → 1 ≤ i → i ≤ 8 → SK [2, 11] S S1 → (∀ j : Int, S1 2 j = S 2 j) → (∀ j : Int, 0 ≤ j → j < i - 1 → S1 11 j = S 11 (j + 1)) → (∀ j : Int, i - 1 ≤ j → S1 11 j = S 11 j) → WW κ mX5_keep 2 0 0 (fun v h' => v = none ∧ ∃ S' : CST, h' = cset B S' h ∧ HKp S S' q) NoX 14 [some (.ref (B 2)), some (.ref q), some (.int (J i))] [] (cset B S1 h) := by
  intro f
  induction f with
  | zero =>
    intro i S1 hf i0 i1
    exact absurd hf (by omega)
  | succ f ih =>
    intro i S1 hf i0 i1 x1 x2 x3 x4
    refine r_il2 dX5_keep_14 ?_
    refine r_al0 dX5_keep_15 ?_
    refine b_get dX5_keep_16 f_X5_11 hB (by decide) (k9 := 2) rfl rfl ?_
    refine r_alenF dX5_keep_19 (cs_arr hB (k9 := 11) (by decide) rfl) (by decide) rfl ?_
    refine r_icmp_ge (tgt := 43) dX5_keep_20 (by decide) (by (omega)) (by (omega)) (fun c_20 => ?_) (fun c_20 => ?_)
    · refine r_al0 dX5_keep_43 ?_
      refine r_al0 dX5_keep_44 ?_
      refine b_get dX5_keep_45 f_X5_11 hB (by decide) (k9 := 2) rfl rfl ?_
      refine r_alenF dX5_keep_48 (cs_arr hB (k9 := 11) (by decide) rfl) (by decide) rfl ?_
      refine r_iconst dX5_keep_49 ?_
      refine r_isub dX5_keep_50 ?_
      refine b_put (k9 := 2) (i9 := 1) dX5_keep_51 f_X5_17 p_X5_17 (ff_9_1 _) hB (by decide) rfl rfl rfl rfl rfl ?_
      refine r_al0 dX5_keep_54 ?_
      refine b_get dX5_keep_55 f_X5_11 hB (by decide) (k9 := 2) rfl rfl ?_
      refine r_al0 dX5_keep_58 ?_
      refine b_get dX5_keep_59 f_X5_17 hB (by decide) (k9 := 2) rfl rfl ?_
      rw [updm_at, show ((8 : Nat) : Int) - 1 = 7 by decide]
      refine r_al1 dX5_keep_62 ?_
      refine b_aast (k9 := 11) dX5_keep_63 hB (by decide) (fun _ => rfl) (by decide) (cfx hB hq) rfl (by omega) (by omega) (by omega) ?_
      refine r_al0 dX5_keep_64 ?_
      refine r_dup dX5_keep_65 rfl ?_
      refine b_get dX5_keep_66 f_X5_17 hB (by decide) (k9 := 2) rfl rfl ?_
      refine r_iconst dX5_keep_69 ?_
      refine r_iadd dX5_keep_70 ?_
      refine b_put (k9 := 2) (i9 := 1) dX5_keep_71 f_X5_17 p_X5_17 (ff_9_1 _) hB (by decide) rfl rfl rfl rfl rfl ?_
      refine r_ret dX5_keep_74 rfl ⟨rfl, _, rfl, ((x1.up (by decide)).up (by decide)).up (by decide), fun j hj => ?_, Or.inr ⟨e8, ?_, ?_, fun j j0 j1 => ?_⟩⟩
      · rw [updm_ne (by omega), updm_k (by decide), updm_ne (by omega), x2 j]
      · rw [updm_at, updm_k (by decide), updm_at]; omega
      · rw [updm_k (by decide), updm_at]
      · rw [updm_k (by decide), updm_ne (by omega), updm_k (by decide)]
        exact x3 j j0 (by omega)
    · refine r_al0 dX5_keep_23 ?_
      refine b_get dX5_keep_24 f_X5_11 hB (by decide) (k9 := 2) rfl rfl ?_
      refine r_il2 dX5_keep_27 ?_
      refine r_iconst dX5_keep_28 ?_
      refine r_isub dX5_keep_29 ?_
      refine r_al0 dX5_keep_30 ?_
      refine b_get dX5_keep_31 f_X5_11 hB (by decide) (k9 := 2) rfl rfl ?_
      refine r_il2 dX5_keep_34 ?_
      obtain ⟨v9, fs9, hv9, ho9⟩ := hK.2 i (by omega) (by omega)
      have hv8 : S1 11 i = (v9 : Int) := by rw [x4 i (by omega)]; exact hv9
      refine b_aalR (k9 := 11) dX5_keep_35 hB (by decide) rfl (by decide) (by omega) (by omega) (by omega) (by assumption) ?_
      refine b_aast (k9 := 11) dX5_keep_36 hB (by decide) (fun _ => rfl) (by decide) (cfx hB ho9) rfl (by omega) (by omega) (by omega) ?_
      refine r_inc2 dX5_keep_37 rfl ?_
      refine r_goto (tgt := 14) dX5_keep_40 (by decide) ?_
      refine ih (i + 1) _ (by omega) (by omega) (by omega) (x1.up (by decide)) (fun j => by rw [updm_k (by decide)]; exact x2 j) (fun j j0 j1 => ?_) (fun j j0 => ?_)
      · by_cases e : j = i - 1
        · rw [e, updm_at, show i - 1 + 1 = i by omega]; exact hv9.symm
        · rw [updm_ne (by omega)]; exact x3 j j0 (by omega)
      · rw [updm_ne (by omega)]; exact x4 j (by omega)
set_option maxRecDepth 100000 in
set_option maxHeartbeats 4000000 in
theorem c_keep (κ : KP) {B : Nat → Nat} {S : CST} (h : AH) (hB : BA B) {q : Nat} {fq : List Value} (hq : ObF (cset B S h) q 7 fq) (hK : HK (cset B S h) S) : MM κ mX5_keep 2 0 0 [.ref (B 2), .ref q] (cset B S h) (fun v h' => v = none ∧ ∃ S' : CST, h' = cset B S' h ∧ HKp S S' q) NoX := by
  refine mm_of (L := [some _, some _, none]) (by decide +kernel) rfl rfl (Nat.le_of_ble_eq_true rfl) rfl ?_
  have k1 := hK.1
  refine r_al0 dX5_keep_0 ?_
  refine b_get dX5_keep_1 f_X5_17 hB (by decide) (k9 := 2) rfl rfl ?_
  refine r_al0 dX5_keep_4 ?_
  refine b_get dX5_keep_5 f_X5_11 hB (by decide) (k9 := 2) rfl rfl ?_
  refine r_alenF dX5_keep_8 (cs_arr hB (k9 := 11) (by decide) rfl) (by decide) rfl ?_
  refine r_icmp_lt (tgt := 54) dX5_keep_9 (by decide) (by (omega)) (by (omega)) (fun c_9 => ?_) (fun c_9 => ?_)
  · refine r_al0 dX5_keep_54 ?_
    refine b_get dX5_keep_55 f_X5_11 hB (by decide) (k9 := 2) rfl rfl ?_
    refine r_al0 dX5_keep_58 ?_
    refine b_get dX5_keep_59 f_X5_17 hB (by decide) (k9 := 2) rfl rfl ?_
    refine r_al1 dX5_keep_62 ?_
    refine b_aast (k9 := 11) dX5_keep_63 hB (by decide) (fun _ => rfl) (by decide) hq rfl (by omega) (by omega) (by omega) ?_
    refine r_al0 dX5_keep_64 ?_
    refine r_dup dX5_keep_65 rfl ?_
    refine b_get dX5_keep_66 f_X5_17 hB (by decide) (k9 := 2) rfl rfl ?_
    refine r_iconst dX5_keep_69 ?_
    refine r_iadd dX5_keep_70 ?_
    refine b_put (k9 := 2) (i9 := 1) dX5_keep_71 f_X5_17 p_X5_17 (ff_9_1 _) hB (by decide) rfl rfl rfl rfl rfl ?_
    refine r_ret dX5_keep_74 rfl ⟨rfl, _, rfl, (SK.rf.up (by decide)).up (by decide), fun j hj => ?_, Or.inl ⟨by omega, ?_, ?_, fun j hj => ?_⟩⟩
    · rw [updm_ne (by omega), updm_k (by decide)]
    · rw [updm_at, updm_k (by decide)]
    · rw [updm_k (by decide), updm_at]
    · rw [updm_k (by decide), updm_ne (by omega)]
  · refine r_iconst dX5_keep_12 ?_
    refine r_is2 dX5_keep_13 rfl ?_
    exact l_keep κ h hB hq hK (by omega) 8 1 S (by omega) (by omega) (by omega) SK.rf (fun _ => rfl) (fun j j0 j1 => by omega) (fun _ _ => rfl)
set_option maxRecDepth 100000 in
set_option maxHeartbeats 4000000 in
theorem c_take (κ : KP) {B : Nat → Nat} {S : CST} (h : AH) (hB : BA B) (hK : HK (cset B S h) S) : MM κ mX5_takeLatest 1 0 0 [.ref (B 2)] (cset B S h) (fun v h' => (S 2 1 = 0 ∧ v = some .null ∧ h' = cset B S h) ∨ (0 < S 2 1 ∧ ∃ q : Nat, v = some (.ref q) ∧ S 11 (S 2 1 - 1) = (q : Int) ∧ h' = cset B (updm S 2 1 (S 2 1 - 1)) h)) NoX := by
  refine mm_of (L := [some _]) (by decide +kernel) rfl rfl (Nat.le_of_ble_eq_true rfl) rfl ?_
  have k1 := hK.1
  refine r_al0 dX5_takeLatest_0 ?_
  refine b_get dX5_takeLatest_1 f_X5_17 hB (by decide) (k9 := 2) rfl rfl ?_
  refine r_if_gt (tgt := 9) dX5_takeLatest_4 (by decide) (by (omega)) (fun c_4 => ?_) (fun c_4 => ?_)
  · refine r_al0 dX5_takeLatest_9 ?_
    refine r_dup dX5_takeLatest_10 rfl ?_
    refine b_get dX5_takeLatest_11 f_X5_17 hB (by decide) (k9 := 2) rfl rfl ?_
    refine r_iconst dX5_takeLatest_14 ?_
    refine r_isub dX5_takeLatest_15 ?_
    refine b_put (k9 := 2) (i9 := 1) dX5_takeLatest_16 f_X5_17 p_X5_17 (ff_9_1 _) hB (by decide) rfl rfl rfl rfl rfl ?_
    refine r_al0 dX5_takeLatest_19 ?_
    refine b_get dX5_takeLatest_20 f_X5_11 hB (by decide) (k9 := 2) rfl rfl ?_
    refine r_al0 dX5_takeLatest_23 ?_
    refine b_get dX5_takeLatest_24 f_X5_17 hB (by decide) (k9 := 2) rfl rfl ?_
    obtain ⟨v9, fs9, hv9, ho9⟩ := hK.2 (S 2 1 - 1) (by omega) (by omega)
    rw [updm_at]
    have hv8 : updm S 2 1 (S 2 1 - 1) 11 (S 2 1 - 1) = (v9 : Int) := by rw [updm_k (by decide)]; exact hv9
    refine b_aalR (k9 := 11) dX5_takeLatest_27 hB (by decide) rfl (by decide) (by omega) (by omega) (by omega) (by assumption) ?_
    exact r_aret dX5_takeLatest_28 rfl (Or.inr ⟨by omega, v9, rfl, hv9, rfl⟩)
  · refine r_null dX5_takeLatest_7 ?_
    exact r_aretN dX5_takeLatest_8 rfl (Or.inl ⟨by omega, rfl, rfl⟩)
set_option maxRecDepth 100000 in
set_option maxHeartbeats 4000000 in
theorem c_forget (κ : KP) {B : Nat → Nat} {S : CST} (h : AH) (hB : BA B) : MM κ mX5_forgetAll 1 0 0 [.ref (B 2)] (cset B S h) (fun v h' => v = none ∧ h' = cset B (updm S 2 1 0) h) NoX := by
  refine mm_of (L := [some _]) (by decide +kernel) rfl rfl (Nat.le_of_ble_eq_true rfl) rfl ?_
  refine r_al0 dX5_forgetAll_0 ?_
  refine r_iconst dX5_forgetAll_1 ?_
  refine b_put (k9 := 2) (i9 := 1) dX5_forgetAll_2 f_X5_17 p_X5_17 (ff_9_1 _) hB (by decide) rfl rfl rfl rfl rfl ?_
  exact r_ret dX5_forgetAll_5 rfl ⟨rfl, rfl⟩
