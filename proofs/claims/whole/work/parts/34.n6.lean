/-! ===== layers ===== -/
/-- k is the first part of b that is not met -/
def QFu (g u : Int → Int) (b k : Int) : Prop := 0 ≤ k ∧ k < g 3 ∧ g (60 + 12 * k + 1) = b ∧ ¬ qmet g u k ∧ ∀ j, 0 ≤ j → j < k → g (60 + 12 * j + 1) = b → qmet g u j
theorem QFu.uniq {g u : Int → Int} {b k k' : Int} (h : QFu g u b k) (h' : QFu g u b k') : k = k' := by
  obtain ⟨a1, a2, a3, a4, a5⟩ := h
  obtain ⟨b1, b2, b3, b4, b5⟩ := h'
  rcases Int.lt_trichotomy k k' with q | q | q
  · exact absurd (b5 k a1 q a3) a4
  · exact q
  · exact absurd (a5 k' b1 q b3) b4
/-- credit c is told of, for leaf b -/
def QLc (g u : Int → Int) (b c : Int) : Prop := u c ≠ b ∧ QHas g b (g (4 + 4 * c + 0))
noncomputable def QLk (g u : Int → Int) (b c : Int) : Int := if g (4 + 4 * c + 2) < g (60 + 12 * b + 4) then 3 else if tb (QOld g b c) = true then 4 else if 0 ≤ u c then 5 else 6
/-- the layers of b, which isn't met -/
def LyR (g u : Int → Int) : Nat → Int → List (Int × Int) → Prop
  | 0, _, _ => False
  | f + 1, b, l => (QGr g b ∧ ∃ k l', QFu g u b k ∧ LyR g u f k l' ∧ l = (1, sz (fP g u b) (g 3)) :: l') ∨
    (¬ QGr g b ∧ ((l = [(2, g (60 + 12 * b + 2) - qgets g u b)] ∧ ∀ c, 0 ≤ c → c < g 1 → ¬ QLc g u b c) ∨ ∃ c, 0 ≤ c ∧ c < g 1 ∧ QLc g u b c ∧ (∀ j, 0 ≤ j → j < c → ¬ QLc g u b j) ∧ l = [(2, g (60 + 12 * b + 2) - qgets g u b), (QLk g u b c, c)]))
def QLy (g u : Int → Int) (b : Int) (l : List (Int × Int)) : Prop := (qmet g u b ∧ l = []) ∨ (¬ qmet g u b ∧ LyR g u 4 b l)
theorem LyR.mono {g u : Int → Int} : ∀ {f : Nat} {b : Int} {l : List (Int × Int)}, LyR g u f b l → LyR g u (f + 1) b l
  | 0, _, _, h => h.elim
  | f + 1, b, l, h => by
    rcases h with ⟨a, k, l', x, y, z⟩ | h
    · exact Or.inl ⟨a, k, l', x, y.mono, z⟩
    · exact Or.inr h
theorem LyR.uniq {g u : Int → Int} : ∀ {f : Nat} {b : Int} {l l' : List (Int × Int)}, LyR g u f b l → LyR g u f b l' → l = l'
  | 0, _, _, _, h, _ => h.elim
  | f + 1, b, l, l', h, h' => by
    rcases h with ⟨a, k, m, x, y, z⟩ | ⟨a, h⟩ <;> rcases h' with ⟨a', k', m', x', y', z'⟩ | ⟨a', h'⟩
    · obtain rfl := x.uniq x'
      rw [z, z', LyR.uniq y y']
    · exact absurd a a'
    · exact absurd a' a
    · rcases h with ⟨e, n⟩ | ⟨c, c0, c1, c2, c3, e⟩ <;> rcases h' with ⟨e', n'⟩ | ⟨c', c0', c1', c2', c3', e'⟩
      · rw [e, e']
      · exact absurd c2' (n c' c0' c1')
      · exact absurd c2 (n' c c0 c1)
      · rcases Int.lt_trichotomy c c' with q | q | q
        · exact absurd c2 (c3' c c0 q)
        · rw [e, e', q]
        · exact absurd c2' (c3 c' c0' q)
/-- written from place p on -/
def LyM (M : MEM) (p : Int) (l : List (Int × Int)) : Prop := ∀ (i : Nat) (x y : Int), l[i]? = some (x, y) → M 25 (2 * (p + i)) = x ∧ M 25 (2 * (p + i) + 1) = y
/-- what laying changes -/
def LyF (M M' : MEM) : Prop := RG M' ∧ SB [25] [26] M M'
theorem LyF.kn {M M' : MEM} (h : LyF M M') (k : QKn M) : QKn M' := by
  unfold QKn QW
  rw [h.2.2 8 (by decide), h.2.1 0 (by decide) (by decide), h.2.1 10 (by decide) (by decide), h.2.1 11 (by decide) (by decide), h.2.1 12 (by decide) (by decide), h.2.2 13 (by decide), h.2.2 14 (by decide), h.2.2 15 (by decide)]
  exact k
set_option maxRecDepth 100000 in
set_option maxHeartbeats 4000000 in
theorem c_lays (κ : KP) {A : Nat → Nat} {M : MEM} (hA : MA A) (hR : RG M) {a c : Int} (ra : rng a) (rc : rng c) (p0 : 0 ≤ M 30 26) (p1 : M 30 26 ≤ 5) : UM κ mX10_lays 1 A [.ref (A 30), .int (J a), .int (J c)] M (fun M' => RG M' ∧ SB [25] [26] M M' ∧ M' 30 26 = M 30 26 + 1 ∧ M' 25 (2 * M 30 26) = a ∧ M' 25 (2 * M 30 26 + 1) = c ∧ ∀ j, j < 2 * M 30 26 → M' 25 j = M 25 j) := by
  intro h
  refine mm_of (L := [some _, some _, some _]) (by decide +kernel) rfl rfl (Nat.le_of_ble_eq_true rfl) rfl ?_
  refine r_al0 dX10_lays_0 ?_
  refine m_get dX10_lays_1 f_X10_48 hA rfl ?_
  refine r_iconst dX10_lays_4 ?_
  refine r_al0 dX10_lays_5 ?_
  refine m_get dX10_lays_6 f_X10_233 hA rfl ?_
  refine r_imul dX10_lays_9 ?_
  refine r_il1 dX10_lays_10 ?_
  refine m_ast dX10_lays_11 hA (by decide) rfl (by first | omega | (simp only [mlen]; omega)) (by first | omega | (simp only [mlen]; omega)) ?_
  refine r_al0 dX10_lays_12 ?_
  refine m_get dX10_lays_13 f_X10_48 hA rfl ?_
  refine r_iconst dX10_lays_16 ?_
  refine r_al0 dX10_lays_17 ?_
  refine m_get dX10_lays_18 f_X10_233 hA rfl ?_
  try simp only [updm_app, cpy_app, Int.reduceEq, Nat.reduceEqDiff, and_true, true_and, false_and, and_false, if_true, if_false, reduceIte]
  refine r_imul dX10_lays_21 ?_
  refine r_iconst dX10_lays_22 ?_
  refine r_iadd dX10_lays_23 ?_
  refine r_il2 dX10_lays_24 ?_
  refine m_ast dX10_lays_25 hA (by decide) rfl (by first | omega | (simp only [mlen]; omega)) (by first | omega | (simp only [mlen]; omega)) ?_
  refine r_al0 dX10_lays_26 ?_
  refine r_dup dX10_lays_27 rfl ?_
  refine m_get dX10_lays_28 f_X10_233 hA rfl ?_
  try simp only [updm_app, cpy_app, Int.reduceEq, Nat.reduceEqDiff, and_true, true_and, false_and, and_false, if_true, if_false, reduceIte]
  refine r_iconst dX10_lays_31 ?_
  refine r_iadd dX10_lays_32 ?_
  refine m_put dX10_lays_33 f_X10_233 p_X10_233 (ff_14_26 _) hA mfp_26 rfl rfl ?_
  refine r_ret dX10_lays_36 rfl ⟨_, rfl, rfl, ?_, ?_, ?_, ?_, ?_, fun j hj => ?_⟩
  · exact RG.up (RG.up (RG.up hR ra) rc) (by omega)
  · exact SB.upF (SB.upA (SB.upA SB.rf (by decide) (by decide)) (by decide) (by decide)) (by decide)
  · rw [updm_at]
  · rw [updm_k (by decide), updm_ne (by omega), updm_at]
  · rw [updm_k (by decide), updm_at]
  · rw [updm_k (by decide), updm_ne (by omega), updm_ne (by omega)]
theorem fP_all {g u : Int → Int} {b : Int} : ∀ (n : Nat), (∀ k : Int, 0 ≤ k → k < n → g (60 + 12 * k + 1) = b → qmet g u k) → sm (fP g u b) n = sm (fun k => bP (g (60 + 12 * k + 1) = b)) n
  | 0, _ => rfl
  | n + 1, h => by
    show sm (fP g u b) n + fP g u b n = sm _ n + bP (g (60 + 12 * (n : Int) + 1) = b)
    rw [fP_all n (fun k k0 k1 => h k k0 (by omega))]
    congr 1
    exact bP_cong ⟨fun z => z.1, fun z => ⟨z, h n (by omega) (by omega) z⟩⟩
/-- a group that isn't met has a part that isn't -/
theorem unmet_part {g u : Int → Int} (hW : WF g) {b : Int} (b0 : 0 ≤ b) (b1 : b < g 3) (hG : QGr g b) (hm : ¬ qmet g u b) : ∃ k, 0 ≤ k ∧ k < g 3 ∧ g (60 + 12 * k + 1) = b ∧ ¬ qmet g u k := by
  refine Classical.byContradiction fun hc => hm ?_
  have hn := hW.n
  rw [qmet_eq hW b0 b1]
  refine ⟨fun _ => ?_, fun q => absurd hG q⟩
  have hb := hW.b b0 b1
  have e : sz (fP g u b) (g 3) = qparts g b := by
    unfold sz qparts
    exact fP_all (g 3).toNat (fun k k0 k1 z => Classical.byContradiction fun y => hc ⟨k, k0, by omega, z, y⟩)
  rw [e]
  exact (hb.2.2.2.2.2.2.2.1 hG).2.2.2.2
set_option maxRecDepth 100000 in
set_option maxHeartbeats 4000000 in
theorem l_firstUnmet (κ : KP) {A : Nat → Nat} {M : MEM} (h : AH) (hA : MA A) (hR : RG M) (hW : WF (M 0)) {u : Int → Int} (hq : QW (M 0) u M) {b : Int} (rb : rng b) (b0 : 0 ≤ b) (hex : ∃ k, 0 ≤ k ∧ k < M 0 3 ∧ M 0 (60 + 12 * k + 1) = b ∧ ¬ qmet (M 0) u k) : ∀ (f : Nat) (k : Int), 8 - k < (f : Int) → (0 ≤ k) → (k ≤ M 0 3) → (∀ j, 0 ≤ j → j < k → M 0 (60 + 12 * j + 1) = b → qmet (M 0) u j) → WW κ mX10_firstUnmet 2 0 0 (fun v h' => ∃ r M', v = some (.int (J r)) ∧ h' = mset A M' h ∧ (fun r M' => M' = M ∧ QFu (M 0) u b r) r M') NoX 4 [some (.ref (A 30)), some (.int (J b)), some (.int (J k))] [] (mset A M h) := by
  intro f
  induction f with
  | zero =>
    intro k hf k0 k1 ha
    have hn := hW.n
    have hk : k < M 0 3 := by
      obtain ⟨j, j0, j1, j2, j3⟩ := hex
      rcases (show k < M 0 3 ∨ k = M 0 3 by omega) with q | q
      · exact q
      · exact absurd (ha j j0 (by omega) j2) j3
    exact absurd hf (by omega)
  | succ f ih =>
    intro k hf k0 k1 ha
    have hn := hW.n
    have hk : k < M 0 3 := by
      obtain ⟨j, j0, j1, j2, j3⟩ := hex
      rcases (show k < M 0 3 ∨ k = M 0 3 by omega) with q | q
      · exact q
      · exact absurd (ha j j0 (by omega) j2) j3
    refine r_al0 dX10_firstUnmet_4 ?_
    refine m_get dX10_firstUnmet_5 f_X10_7 hA rfl ?_
    refine r_il2 dX10_firstUnmet_8 ?_
    refine r_iconst dX10_firstUnmet_9 ?_
    refine r_callSP2 dX10_firstUnmet_10 s_X10_65 (c_blockAt κ _) (by decide) rfl ?_
    refine m_ald dX10_firstUnmet_13 hA (by decide) rfl (by first | omega | (simp only [mlen]; omega)) (by first | omega | (simp only [mlen]; omega)) ?_
    refine r_il1 dX10_firstUnmet_14 ?_
    refine r_icmp_ne (tgt := 27) dX10_firstUnmet_15 (by decide) (by first | omega | exact hR _ _) (by first | omega | exact hR _ _) (fun c_15 => ?_) (fun c_15 => ?_)
    · refine r_inc2 dX10_firstUnmet_27 rfl ?_
      refine r_goto (tgt := 4) dX10_firstUnmet_30 (by decide) ?_
      refine ih (k + 1) (by omega) (by omega) (by omega) (fun j j0 j1 z => ?_)
      rcases (show j < k ∨ j = k by omega) with y | y
      · exact ha j j0 y z
      · rw [y] at z ⊢
        first | exact absurd z (by assumption) | exact bP_ne (by rw [← (hq.1 k k0 hk).2]; assumption)
    · refine r_al0 dX10_firstUnmet_18 ?_
      refine m_get dX10_firstUnmet_19 f_X10_31 hA rfl ?_
      refine r_il2 dX10_firstUnmet_22 ?_
      refine m_zald dX10_firstUnmet_23 hA (by decide) rfl (by first | omega | (simp only [mlen]; omega)) (by first | omega | (simp only [mlen]; omega)) ?_
      refine r_if_eq (tgt := 33) dX10_firstUnmet_24 (by decide) (by first | omega | exact hR _ _) (fun c_24 => ?_) (fun c_24 => ?_)
      · refine r_il2 dX10_firstUnmet_33 ?_
        refine r_iret dX10_firstUnmet_34 (ty := .int) rfl rfl ⟨_, _, rfl, rfl, rfl, k0, hk, by assumption, bP_z (by rw [← (hq.1 k k0 hk).2]; assumption), ha⟩
      · refine r_inc2 dX10_firstUnmet_27 rfl ?_
        refine r_goto (tgt := 4) dX10_firstUnmet_30 (by decide) ?_
        refine ih (k + 1) (by omega) (by omega) (by omega) (fun j j0 j1 z => ?_)
        rcases (show j < k ∨ j = k by omega) with y | y
        · exact ha j j0 y z
        · rw [y] at z ⊢
          first | exact absurd z (by assumption) | exact bP_ne (by rw [← (hq.1 k k0 hk).2]; assumption)
set_option maxRecDepth 100000 in
set_option maxHeartbeats 4000000 in
theorem c_firstUnmet (κ : KP) {A : Nat → Nat} {M : MEM} (hA : MA A) (hR : RG M) (hW : WF (M 0)) {u : Int → Int} (hq : QW (M 0) u M) {b : Int} (rb : rng b) (b0 : 0 ≤ b) (b1 : b < M 0 3) (hex : ∃ k, 0 ≤ k ∧ k < M 0 3 ∧ M 0 (60 + 12 * k + 1) = b ∧ ¬ qmet (M 0) u k) : RM κ mX10_firstUnmet 2 A [.ref (A 30), .int (J b)] M (fun r M' => M' = M ∧ QFu (M 0) u b r) := by
  intro h
  refine mm_of (L := [some _, some _, none]) (by decide +kernel) rfl rfl (Nat.le_of_ble_eq_true rfl) rfl ?_
  have hn := hW.n
  refine r_il1 dX10_firstUnmet_0 ?_
  refine r_iconst dX10_firstUnmet_1 ?_
  refine r_iadd dX10_firstUnmet_2 ?_
  refine r_is2 dX10_firstUnmet_3 rfl ?_
  refine l_firstUnmet κ h hA hR hW hq rb b0 hex 9 (b + 1) (by omega) (by omega) (by omega) (fun j j0 j1 z => ?_)
  have := (hW.b j0 (show j < M 0 3 by omega)).up
  omega
