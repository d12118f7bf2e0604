/-! ===== uses in their order ===== -/
def rk (p : Int) : Int := if p < 0 then 8 else p
theorem rk_n {p : Int} (h : p < 0) : rk p = 8 := if_pos h
theorem rk_p {p : Int} (h : 0 ≤ p) : rk p = p := if_neg (by omega)
def QV (g u : Int → Int) : Prop := ∀ c, 0 ≤ c → c < g 1 → u c = -1 ∨ (0 ≤ u c ∧ u c < g 3 ∧ QTk g (u c) c)
def LX (n : Int) (u v : Int → Int) : Prop := ∃ c, 0 ≤ c ∧ c < n ∧ EQU c u v ∧ rk (u c) < rk (v c)
/-- u is the first of the best ones of those that S knows -/
def FM (g : Int → Int) (S : (Int → Int) → Prop) (u : Int → Int) : Prop := S u ∧ QV g u ∧ ∀ v, QV g v → S v → qkey g v ≤ qkey g u ∧ (LX (g 1) v u → qkey g v < qkey g u)
def QBest (g u : Int → Int) : Prop := FM g (fun _ => True) u
theorem EQU.symm {n : Int} {u v : Int → Int} (h : EQU n u v) : EQU n v u := fun j a b => (h j a b).symm
theorem EQU.trans {n : Int} {u v x : Int → Int} (h : EQU n u v) (h2 : EQU n v x) : EQU n u x := fun j a b => (h j a b).trans (h2 j a b)
theorem EQU.mono {n m : Int} {u v : Int → Int} (h : EQU n u v) (hm : m ≤ n) : EQU m u v := fun j a b => h j a (by omega)
theorem QV.eq {g u v : Int → Int} (h : QV g u) (e : EQU (g 1) u v) : QV g v := fun c c0 c1 => by rw [← e c c0 c1]; exact h c c0 c1
theorem QV.rg {g u : Int → Int} (h : QV g u) {c : Int} (c0 : 0 ≤ c) (c1 : c < g 1) : -1 ≤ u c ∧ (u c < 0 ∨ u c < g 3) := by
  rcases h c c0 c1 with q | ⟨q1, q2, -⟩ <;> omega
theorem LX.eqR {n : Int} {u v x : Int → Int} (h : LX n u v) (e : EQU n v x) : LX n u x := by
  obtain ⟨c, c0, c1, c2, c3⟩ := h
  exact ⟨c, c0, c1, c2.trans (e.mono (by omega)), by rw [← e c c0 c1]; exact c3⟩
theorem LX.eqL {n : Int} {u v x : Int → Int} (h : LX n u v) (e : EQU n u x) : LX n x v := by
  obtain ⟨c, c0, c1, c2, c3⟩ := h
  exact ⟨c, c0, c1, (e.mono (by omega)).symm.trans c2, by rw [← e c c0 c1]; exact c3⟩
theorem LX.irr {n : Int} {u v : Int → Int} (h : LX n u v) (e : EQU n u v) : False := by
  obtain ⟨c, c0, c1, c2, c3⟩ := h
  rw [e c c0 c1] at c3
  omega
theorem LX.trans {n : Int} {u v x : Int → Int} (h : LX n u v) (h2 : LX n v x) : LX n u x := by
  obtain ⟨c, c0, c1, c2, c3⟩ := h
  obtain ⟨d, d0, d1, d2, d3⟩ := h2
  rcases Int.lt_trichotomy c d with q | q | q
  · exact ⟨c, c0, c1, c2.trans (d2.mono (by omega)), by rw [← d2 c c0 q]; exact c3⟩
  · subst q
    exact ⟨c, c0, c1, c2.trans d2, by omega⟩
  · exact ⟨d, d0, d1, (c2.mono (by omega)).trans d2, by rw [c2 d d0 q]; exact d3⟩
theorem LX.asy {n : Int} {u v : Int → Int} (h : LX n u v) (h2 : LX n v u) : False := (h.trans h2).irr (fun _ _ _ => rfl)
theorem LX_tri {u v : Int → Int} : ∀ (m : Nat), (∀ c : Int, 0 ≤ c → c < m → (-1 ≤ u c ∧ u c < 8) ∧ (-1 ≤ v c ∧ v c < 8)) → LX m u v ∨ EQU m u v ∨ LX m v u
  | 0, _ => Or.inr (Or.inl fun j a b => by omega)
  | m + 1, h => by
    rcases LX_tri (u := u) (v := v) m (fun c c0 c1 => h c c0 (by omega)) with q | q | q
    · obtain ⟨c, c0, c1, c2⟩ := q
      exact Or.inl ⟨c, c0, by omega, c2⟩
    · have hm := h m (by omega) (by omega)
      by_cases e : u m = v m
      · refine Or.inr (Or.inl fun j a b => ?_)
        rcases (show j < m ∨ j = m by omega) with z | z
        · exact q j a z
        · rw [z]; exact e
      · have : rk (u m) < rk (v m) ∨ rk (v m) < rk (u m) := by
          unfold rk
          split <;> split <;> omega
        rcases this with z | z
        · exact Or.inl ⟨m, by omega, by omega, q, z⟩
        · exact Or.inr (Or.inr ⟨m, by omega, by omega, q.symm, z⟩)
    · obtain ⟨c, c0, c1, c2⟩ := q
      exact Or.inr (Or.inr ⟨c, c0, by omega, c2⟩)
theorem LX_triV {g u v : Int → Int} (hW : WF g) (h1 : QV g u) (h2 : QV g v) : LX (g 1) u v ∨ EQU (g 1) u v ∨ LX (g 1) v u := by
  obtain ⟨-, ⟨n0, n1⟩, -, ⟨m0, m1⟩⟩ := hW.n
  have := LX_tri (u := u) (v := v) (g 1).toNat (fun c c0 c1 => by
    have a := h1.rg c0 (show c < g 1 by omega)
    have b := h2.rg c0 (show c < g 1 by omega)
    omega)
  rw [Int.toNat_of_nonneg n0] at this
  exact this
theorem FM.uniq {g : Int → Int} (hW : WF g) {S : (Int → Int) → Prop} {u v : Int → Int} (h1 : FM g S u) (h2 : FM g S v) : EQU (g 1) u v := by
  obtain ⟨a1, a2, a3⟩ := h1
  obtain ⟨b1, b2, b3⟩ := h2
  have c1 := a3 v b2 b1
  have c2 := b3 u a2 a1
  rcases LX_triV hW a2 b2 with q | q | q
  · have := c2.2 q; omega
  · exact q
  · have := c1.2 q; omega
theorem FM.eq {g : Int → Int} {S : (Int → Int) → Prop} {u b : Int → Int} (h : FM g S u) (e : EQU (g 1) u b) (hS : S b) : FM g S b :=
  ⟨hS, h.2.1.eq e, fun v a1 a2 => by
    rw [← qkey_cong e]
    exact ⟨(h.2.2 v a1 a2).1, fun q => (h.2.2 v a1 a2).2 (q.eqR e.symm)⟩⟩
theorem FM.iff {g : Int → Int} {S T : (Int → Int) → Prop} {u : Int → Int} (h : FM g S u) (e : ∀ v, QV g v → (S v ↔ T v)) : FM g T u :=
  ⟨(e u h.2.1).mp h.1, h.2.1, fun v a1 a2 => h.2.2 v a1 ((e v a1).mpr a2)⟩
/-- the uses up to u -/
def LXE (n : Int) (u v : Int → Int) : Prop := LX n v u ∨ EQU n v u
theorem FM.first {g u : Int → Int} (hu : QV g u) (h : ∀ v, QV g v → ¬ LX (g 1) v u) : FM g (LXE (g 1) u) u :=
  ⟨Or.inr fun _ _ _ => rfl, hu, fun v a1 a2 => ⟨by
    rcases a2 with q | q
    · exact absurd q (h v a1)
    · rw [qkey_cong q]; exact Int.le_refl _, fun q => absurd q (h v a1)⟩⟩
theorem FM.new {g u b : Int → Int} (hu : QV g u) (h : FM g (fun v => LX (g 1) v u) b) (hk : qkey g b < qkey g u) : FM g (LXE (g 1) u) u :=
  ⟨Or.inr fun _ _ _ => rfl, hu, fun v a1 a2 => by
    rcases a2 with q | q
    · have := (h.2.2 v a1 q).1
      exact ⟨by omega, fun _ => by omega⟩
    · exact ⟨by rw [qkey_cong q]; exact Int.le_refl _, fun q2 => absurd q (fun e => q2.irr e)⟩⟩
theorem FM.keep {g u b : Int → Int} (h : FM g (fun v => LX (g 1) v u) b) (hk : qkey g u ≤ qkey g b) : FM g (LXE (g 1) u) b :=
  ⟨Or.inl h.1, h.2.1, fun v a1 a2 => by
    rcases a2 with q | q
    · exact h.2.2 v a1 q
    · exact ⟨by rw [qkey_cong q]; exact hk, fun q2 => absurd ((LX.eqL q2 q).asy h.1) id⟩⟩
/-- the first use -/
theorem first_ok {g u : Int → Int} (h : ∀ c, 0 ≤ c → c < g 1 → QPl g c (-1) (u c)) (hW : WF g) : QV g u ∧ ∀ v, QV g v → ¬ LX (g 1) v u := by
  constructor
  · intro c c0 c1
    rcases h c c0 c1 with ⟨q, -⟩ | ⟨q1, q2, q3, -⟩
    · exact Or.inl q
    · exact Or.inr ⟨by omega, q2, q3⟩
  · intro v hv ⟨c, c0, c1, _, c3⟩
    have hm := hW.n
    rcases hv c c0 c1 with q | ⟨q1, q2, q3⟩
    · rw [q, rk_n (by decide)] at c3
      have := (show rk (u c) ≤ 8 by
        unfold rk
        rcases h c c0 c1 with ⟨z, -⟩ | ⟨z1, z2, -⟩ <;> split <;> omega)
      omega
    · rw [rk_p q1] at c3
      rcases h c c0 c1 with ⟨z, z2⟩ | ⟨z1, z2, z3, z4⟩
      · exact z2 (v c) (by omega) q2 q3
      · rw [rk_p (by omega)] at c3
        exact z4 (v c) (by omega) c3 q3
/-- the next use -/
theorem next_ok {g u u' : Int → Int} {c : Int} (hW : WF g) (hu : QV g u) (c0 : 0 ≤ c) (c1 : c < g 1) (hlo : ∀ j, 0 ≤ j → j < c → u' j = u j) (hc0 : 0 ≤ u c) (hc : QPl g c (u c) (u' c)) (hhi : ∀ j, c < j → j < g 1 → u j = -1 ∧ QPl g j (-1) (u' j)) :
    QV g u' ∧ LX (g 1) u u' ∧ ∀ v, QV g v → LX (g 1) v u' → LXE (g 1) u v := by
  have hm := hW.n
  have huc := hu.rg c0 c1
  have hv' : QV g u' := by
    intro j j0 j1
    rcases Int.lt_trichotomy j c with q | q | q
    · rw [hlo j j0 q]; exact hu j j0 j1
    · rw [q]
      rcases hc with ⟨z, -⟩ | ⟨z1, z2, z3, -⟩
      · exact Or.inl z
      · exact Or.inr ⟨by omega, z2, z3⟩
    · rcases (hhi j q j1).2 with ⟨z, -⟩ | ⟨z1, z2, z3, -⟩
      · exact Or.inl z
      · exact Or.inr ⟨by omega, z2, z3⟩
  refine ⟨hv', ⟨c, c0, c1, fun j a b => (hlo j a b).symm, ?_⟩, ?_⟩
  · rw [rk_p hc0]
    rcases hc with ⟨z, -⟩ | ⟨z1, z2, -⟩
    · rw [z, rk_n (by decide)]; omega
    · rw [rk_p (by omega)]; exact z1
  · intro v hv ⟨d, d0, d1, d2, d3⟩
    rcases Int.lt_trichotomy d c with q | q | q
    · refine Or.inl ⟨d, d0, d1, fun j a b => (d2 j a b).trans (hlo j a (by omega)), ?_⟩
      rw [← hlo d d0 q]
      exact d3
    · subst q
      have e1 : EQU d v u := fun j a b => (d2 j a b).trans (hlo j a b)
      by_cases e : v d = u d
      · rcases LX_triV hW hv hu with z | z | z
        · exact Or.inl z
        · exact Or.inr z
        · obtain ⟨k, k0, k1, k2, k3⟩ := z
          exfalso
          rcases Int.lt_trichotomy k d with y | y | y
          · rw [e1 k k0 y] at k3; omega
          · rw [y, e] at k3; omega
          · rw [(hhi k y k1).1, rk_n (by decide)] at k3
            have := hv.rg k0 k1
            unfold rk at k3
            split at k3 <;> omega
      · have hvd := hv.rg d0 d1
        have hd' := hv'.rg d0 d1
        rcases (show rk (v d) < rk (u d) ∨ (0 ≤ v d ∧ u d < v d) ∨ v d < 0 by
          rw [rk_p hc0]
          unfold rk
          split <;> omega) with z | z | z
        · exact Or.inl ⟨d, d0, d1, e1, z⟩
        · exfalso
          rcases hv d d0 d1 with y | ⟨y1, y2, y3⟩
          · omega
          · rw [rk_p z.1] at d3
            rcases hc with ⟨x1, x2⟩ | ⟨x1, x2, x3, x4⟩
            · exact x2 (v d) z.2 y2 y3
            · rw [rk_p (by omega)] at d3
              exact x4 (v d) z.2 d3 y3
        · exfalso
          rw [rk_n z] at d3
          unfold rk at d3
          split at d3 <;> omega
    · exfalso
      have hd' := hv'.rg d0 d1
      rcases hv d d0 d1 with y | ⟨y1, y2, y3⟩
      · rw [y, rk_n (by decide)] at d3
        unfold rk at d3
        split at d3 <;> omega
      · rw [rk_p y1] at d3
        rcases (hhi d q d1).2 with ⟨z, z2⟩ | ⟨z1, z2, z3, z4⟩
        · exact z2 (v d) (by omega) y2 y3
        · rw [rk_p (by omega)] at d3
          exact z4 (v d) (by omega) d3 y3
theorem last_ok {g u : Int → Int} (hW : WF g) (hu : QV g u) (h : ∀ j, 0 ≤ j → j < g 1 → u j = -1) : ∀ v, QV g v → LXE (g 1) u v := by
  intro v hv
  rcases LX_triV hW hv hu with z | z | ⟨k, k0, k1, k2, k3⟩
  · exact Or.inl z
  · exact Or.inr z
  · exfalso
    have hm := hW.n
    rw [h k k0 k1, rk_n (by decide)] at k3
    have := hv.rg k0 k1
    unfold rk at k3
    split at k3 <;> omega
/-- uses are numbered -/
def nm (u : Int → Int) : Nat → Int
  | 0 => 0
  | k + 1 => 9 * nm u k + rk (u k)
def n9 : Nat → Int
  | 0 => 1
  | k + 1 => 9 * n9 k
theorem nm_bd {u : Int → Int} : ∀ (n : Nat), (∀ c : Int, 0 ≤ c → c < n → -1 ≤ u c ∧ u c < 8) → 0 ≤ nm u n ∧ nm u n < n9 n
  | 0, _ => by show (0 : Int) ≤ 0 ∧ (0 : Int) < 1; omega
  | n + 1, h => by
    have a := nm_bd n (fun c c0 c1 => h c c0 (by omega))
    have b := h n (by omega) (by omega)
    show 0 ≤ 9 * nm u n + rk (u n) ∧ 9 * nm u n + rk (u n) < 9 * n9 n
    unfold rk
    split <;> omega
theorem nm_eq {u v : Int → Int} : ∀ (n : Nat), EQU n u v → nm u n = nm v n
  | 0, _ => rfl
  | n + 1, h => by
    show 9 * nm u n + rk (u n) = 9 * nm v n + rk (v n)
    rw [nm_eq n (h.mono (by omega)), h n (by omega) (by omega)]
theorem nm_lt {u v : Int → Int} : ∀ (n : Nat), (∀ c : Int, 0 ≤ c → c < n → (-1 ≤ u c ∧ u c < 8) ∧ (-1 ≤ v c ∧ v c < 8)) → LX n u v → nm u n < nm v n
  | 0, _, ⟨c, c0, c1, _⟩ => by omega
  | n + 1, h, ⟨c, c0, c1, c2, c3⟩ => by
    show 9 * nm u n + rk (u n) < 9 * nm v n + rk (v n)
    have hn := h n (by omega) (by omega)
    rcases (show c < n ∨ c = n by omega) with q | q
    · have := nm_lt n (fun c c0 c1 => h c c0 (by omega)) ⟨c, c0, q, c2, c3⟩
      unfold rk
      split <;> split <;> omega
    · rw [q] at c2 c3
      rw [nm_eq n c2]
      omega
theorem nm_ltV {g u v : Int → Int} (hW : WF g) (hu : QV g u) (hv : QV g v) (h : LX (g 1) u v) : nm u (g 1).toNat < nm v (g 1).toNat := by
  obtain ⟨-, ⟨n0, n1⟩, -, ⟨m0, m1⟩⟩ := hW.n
  refine nm_lt (g 1).toNat (fun c c0 c1 => ?_) (by rw [Int.toNat_of_nonneg n0]; exact h)
  have a := hu.rg c0 (show c < g 1 by omega)
  have b := hv.rg c0 (show c < g 1 by omega)
  omega
theorem nm_bdV {g u : Int → Int} (hW : WF g) (hu : QV g u) : 0 ≤ nm u (g 1).toNat ∧ nm u (g 1).toNat < 531441 := by
  obtain ⟨-, ⟨n0, n1⟩, -, ⟨m0, m1⟩⟩ := hW.n
  have := nm_bd (u := u) (g 1).toNat (fun c c0 c1 => by
    have a := hu.rg c0 (show c < g 1 by omega)
    omega)
  refine ⟨this.1, Int.lt_of_lt_of_le this.2 ?_⟩
  obtain ⟨k, hk⟩ : ∃ k : Nat, (g 1).toNat = k := ⟨_, rfl⟩
  rw [hk]
  rcases (show k = 0 ∨ k = 1 ∨ k = 2 ∨ k = 3 ∨ k = 4 ∨ k = 5 ∨ k = 6 by omega) with rfl | rfl | rfl | rfl | rfl | rfl | rfl <;> decide
set_option maxRecDepth 100000 in
set_option maxHeartbeats 4000000 in
theorem l_w32 (κ : KP) {A : Nat → Nat} {M : MEM} (h : AH) (hA : MA A) (hR : RG M) {kr : Nat} (hk : kr ∈ mids ∧ kr ≠ 30) (ht : mty kr = .int) (hl : mlen kr = 6) (hkn : kr ∉ [11, 12]) (hW : WF (M 0)) (hv : ∀ c, 0 ≤ c → c < M 0 1 → -1 ≤ M kr c ∧ M kr c < M 0 3) : ∀ (f : Nat) (M1 : MEM) (c : Int) (v3 v4 : Option Value), M 0 1 - c < (f : Int) → (0 ≤ c) → (c ≤ M 0 1) → (RG M1) → (SB [11, 12] [13, 14, 15] M M1) → (∀ j, 0 ≤ j → j < M 0 3 → M1 11 j = sz (fun c => if M kr c = j then M 0 (4 + 4 * c + 1) else 0) c) → (M1 30 15 = sz (fun c => if 0 ≤ M kr c then M 0 (4 + 4 * c + 1) else 0) c) → WW κ mX10_weighs 3 0 0 (fun v h' => ∃ M', v = none ∧ h' = mset A M' h ∧ (fun M' => RG M' ∧ SB [11, 12] [13, 14, 15] M M' ∧ QW (M 0) (M kr) M') M') NoX 32 [some (.ref (A 30)), some (.ref (A kr)), some (.int (J c)), v3, v4] [] (mset A M1 h) := by
  intro f
  induction f with
  | zero =>
    intro M1 c v3 v4 hf c0 c1 hR1 hS hg hv15
    exact absurd hf (by omega)
  | succ f ih =>
    intro M1 c v3 v4 hf c0 c1 hR1 hS hg hv15
    obtain ⟨⟨y0, y1⟩, ⟨n0, n1⟩, ⟨q0, q1⟩, ⟨m0, m1⟩⟩ := hW.n
    have e0 : M1 0 = M 0 := hS.1 0 (by decide) (by decide)
    have ek : M1 kr = M kr := hS.1 kr hkn hk.2
    refine r_il2 dX10_weighs_32 ?_
    refine r_al0 dX10_weighs_33 ?_
    refine m_get dX10_weighs_34 f_X10_7 hA rfl ?_
    refine r_iconst dX10_weighs_37 ?_
    refine m_ald dX10_weighs_38 hA (by decide) rfl (by first | omega | (simp only [mlen]; omega) | (have hvc := hv c c0 (by omega); omega) | (have hvc := hv c c0 (by omega); simp only [mlen]; omega)) (by first | omega | (simp only [mlen]; omega) | (have hvc := hv c c0 (by omega); omega) | (have hvc := hv c c0 (by omega); simp only [mlen]; omega)) ?_
    try simp only [updm_app, Int.reduceEq, Nat.reduceEqDiff, and_true, true_and, false_and, and_false, if_true, if_false, reduceIte, e0, ek]
    refine r_icmp_ge (tgt := 94) dX10_weighs_39 (by decide) (by first | omega | exact hR1 _ _ | exact hR _ _) (by first | omega | exact hR1 _ _ | exact hR _ _) (fun c_39 => ?_) (fun c_39 => ?_)
    · refine r_al0 dX10_weighs_94 ?_
      refine r_iconst dX10_weighs_95 ?_
      refine m_put dX10_weighs_96 f_X10_100 p_X10_100 (ff_14_13 _) hA mfp_13 rfl rfl ?_
      refine r_al0 dX10_weighs_99 ?_
      refine r_iconst dX10_weighs_100 ?_
      refine m_put dX10_weighs_101 f_X10_103 p_X10_103 (ff_14_14 _) hA mfp_14 rfl rfl ?_
      refine r_al0 dX10_weighs_104 ?_
      refine m_get dX10_weighs_105 f_X10_7 hA rfl ?_
      refine r_iconst dX10_weighs_108 ?_
      refine m_ald dX10_weighs_109 hA (by decide) rfl (by first | omega | (simp only [mlen]; omega) | (have hvc := hv c c0 (by omega); omega) | (have hvc := hv c c0 (by omega); simp only [mlen]; omega)) (by first | omega | (simp only [mlen]; omega) | (have hvc := hv c c0 (by omega); omega) | (have hvc := hv c c0 (by omega); simp only [mlen]; omega)) ?_
      try simp only [updm_app, Int.reduceEq, Nat.reduceEqDiff, and_true, true_and, false_and, and_false, if_true, if_false, reduceIte, e0, ek]
      refine r_iconst dX10_weighs_110 ?_
      refine r_isub dX10_weighs_111 ?_
      refine r_is2 dX10_weighs_112 rfl ?_
      refine l_w113 κ h hA hR hk ht hl hkn hW hv 9 _ (M 0 3 - 1) _ _ (by omega) (by omega) (by omega) ⟨?_, SB.upF (SB.upF hS (by decide)) (by decide), ?_, ?_, ?_, ?_, ?_⟩
      · exact RG.up (RG.up hR1 (by decide)) (by decide)
      · intro j j0 j1
        rw [updm_k (by decide), updm_k (by decide), hg j j0 j1, show c = M 0 1 by omega]
        rfl
      · rw [updm_ne (by decide), updm_ne (by decide), hv15, show c = M 0 1 by omega]
        rfl
      · intro k k0 k1
        omega
      · rw [updm_ne (by decide), updm_at, show M 0 3 - 1 + 1 = M 0 3 by omega]
        unfold qroots
        omega
      · rw [updm_at, show M 0 3 - 1 + 1 = M 0 3 by omega]
        unfold qleav
        omega
    · refine r_al1 dX10_weighs_42 ?_
      refine r_il2 dX10_weighs_43 ?_
      refine m_ald dX10_weighs_44 hA hk ht (by omega) (by rw [hl]; omega) ?_
      rw [ek]
      refine r_if_lt (tgt := 88) dX10_weighs_45 (by decide) (by first | omega | exact hR1 _ _ | exact hR _ _) (fun c_45 => ?_) (fun c_45 => ?_)
      · refine r_inc2 dX10_weighs_88 rfl ?_
        refine r_goto (tgt := 32) dX10_weighs_91 (by decide) ?_
        have hvc := hv c c0 (by omega)
        have hcc := hW.c (c := c) c0 (by omega)
        unfold WFc at hcc
        first
          | (refine ih M1 (c + 1) _ _ (by omega) (by omega) (by omega) hR1 hS (fun j j0 j1 => ?_) ?_
             · rw [sz_1 c0, hg j j0 j1, if_neg (by omega)]; omega
             · rw [sz_1 c0, hv15, if_neg (by omega)]; omega)
          | (have b1 := qpt_bd hW (p := fun x => M kr x = M kr c) c0 c1
             have b2 := qpt_bd hW (p := fun x => 0 ≤ M kr x) c0 c1
             have hgc := hg (M kr c) (by omega) (by omega)
             refine ih _ (c + 1) _ _ (by omega) (by omega) (by omega) ?_ (SB.upF (SB.upA hS (by decide) (by decide)) (by decide)) (fun j j0 j1 => ?_) ?_
             · refine RG.up (RG.up hR1 ?_) ?_ <;> (try simp only [updm_app, Int.reduceEq, Nat.reduceEqDiff, and_true, true_and, false_and, and_false, if_true, if_false, reduceIte]) <;> omega
             · rw [updm_k (by decide), sz_1 c0]
               by_cases z : M kr c = j
               · rw [if_pos z, ← z, updm_at, hgc]
               · rw [if_neg z, updm_ne (by omega), hg j j0 j1]; omega
             · rw [updm_at, sz_1 c0, if_pos (by omega)]; omega)
      · refine r_al0 dX10_weighs_48 ?_
        refine m_get dX10_weighs_49 f_X10_28 hA rfl ?_
        refine r_al1 dX10_weighs_52 ?_
        refine r_il2 dX10_weighs_53 ?_
        refine m_ald dX10_weighs_54 hA hk ht (by omega) (by rw [hl]; omega) ?_
        rw [ek]
        refine r_dup2 dX10_weighs_55 rfl rfl ?_
        refine m_ald dX10_weighs_56 hA (by decide) rfl (by first | omega | (simp only [mlen]; omega) | (have hvc := hv c c0 (by omega); omega) | (have hvc := hv c c0 (by omega); simp only [mlen]; omega)) (by first | omega | (simp only [mlen]; omega) | (have hvc := hv c c0 (by omega); omega) | (have hvc := hv c c0 (by omega); simp only [mlen]; omega)) ?_
        try simp only [updm_app, Int.reduceEq, Nat.reduceEqDiff, and_true, true_and, false_and, and_false, if_true, if_false, reduceIte, e0, ek]
        refine r_al0 dX10_weighs_57 ?_
        refine m_get dX10_weighs_58 f_X10_7 hA rfl ?_
        refine r_il2 dX10_weighs_61 ?_
        refine r_iconst dX10_weighs_62 ?_
        refine r_callSP2 dX10_weighs_63 s_X10_83 (c_creditAt κ _) (by decide) rfl ?_
        refine m_ald dX10_weighs_66 hA (by decide) rfl (by first | omega | (simp only [mlen]; omega) | (have hvc := hv c c0 (by omega); omega) | (have hvc := hv c c0 (by omega); simp only [mlen]; omega)) (by first | omega | (simp only [mlen]; omega) | (have hvc := hv c c0 (by omega); omega) | (have hvc := hv c c0 (by omega); simp only [mlen]; omega)) ?_
        try simp only [updm_app, Int.reduceEq, Nat.reduceEqDiff, and_true, true_and, false_and, and_false, if_true, if_false, reduceIte, e0, ek]
        refine r_iadd dX10_weighs_67 ?_
        refine m_ast dX10_weighs_68 hA (by decide) rfl (by first | omega | (simp only [mlen]; omega) | (have hvc := hv c c0 (by omega); omega) | (have hvc := hv c c0 (by omega); simp only [mlen]; omega)) (by first | omega | (simp only [mlen]; omega) | (have hvc := hv c c0 (by omega); omega) | (have hvc := hv c c0 (by omega); simp only [mlen]; omega)) ?_
        refine r_al0 dX10_weighs_69 ?_
        refine r_dup dX10_weighs_70 rfl ?_
        refine m_get dX10_weighs_71 f_X10_97 hA rfl ?_
        try simp only [updm_app, Int.reduceEq, Nat.reduceEqDiff, and_true, true_and, false_and, and_false, if_true, if_false, reduceIte, e0, ek]
        refine r_al0 dX10_weighs_74 ?_
        refine m_get dX10_weighs_75 f_X10_7 hA rfl ?_
        refine r_il2 dX10_weighs_78 ?_
        refine r_iconst dX10_weighs_79 ?_
        refine r_callSP2 dX10_weighs_80 s_X10_83 (c_creditAt κ _) (by decide) rfl ?_
        refine m_ald dX10_weighs_83 hA (by decide) rfl (by first | omega | (simp only [mlen]; omega) | (have hvc := hv c c0 (by omega); omega) | (have hvc := hv c c0 (by omega); simp only [mlen]; omega)) (by first | omega | (simp only [mlen]; omega) | (have hvc := hv c c0 (by omega); omega) | (have hvc := hv c c0 (by omega); simp only [mlen]; omega)) ?_
        try simp only [updm_app, Int.reduceEq, Nat.reduceEqDiff, and_true, true_and, false_and, and_false, if_true, if_false, reduceIte, e0, ek]
        refine r_iadd dX10_weighs_84 ?_
        refine m_put dX10_weighs_85 f_X10_97 p_X10_97 (ff_14_15 _) hA mfp_15 rfl rfl ?_
        refine r_inc2 dX10_weighs_88 rfl ?_
        refine r_goto (tgt := 32) dX10_weighs_91 (by decide) ?_
        have hvc := hv c c0 (by omega)
        have hcc := hW.c (c := c) c0 (by omega)
        unfold WFc at hcc
        first
          | (refine ih M1 (c + 1) _ _ (by omega) (by omega) (by omega) hR1 hS (fun j j0 j1 => ?_) ?_
             · rw [sz_1 c0, hg j j0 j1, if_neg (by omega)]; omega
             · rw [sz_1 c0, hv15, if_neg (by omega)]; omega)
          | (have b1 := qpt_bd hW (p := fun x => M kr x = M kr c) c0 c1
             have b2 := qpt_bd hW (p := fun x => 0 ≤ M kr x) c0 c1
             have hgc := hg (M kr c) (by omega) (by omega)
             refine ih _ (c + 1) _ _ (by omega) (by omega) (by omega) ?_ (SB.upF (SB.upA hS (by decide) (by decide)) (by decide)) (fun j j0 j1 => ?_) ?_
             · refine RG.up (RG.up hR1 ?_) ?_ <;> (try simp only [updm_app, Int.reduceEq, Nat.reduceEqDiff, and_true, true_and, false_and, and_false, if_true, if_false, reduceIte]) <;> omega
             · rw [updm_k (by decide), sz_1 c0]
               by_cases z : M kr c = j
               · rw [if_pos z, ← z, updm_at, hgc]
               · rw [if_neg z, updm_ne (by omega), hg j j0 j1]; omega
             · rw [updm_at, sz_1 c0, if_pos (by omega)]; omega)
set_option maxRecDepth 100000 in
set_option maxHeartbeats 4000000 in
theorem l_w2 (κ : KP) {A : Nat → Nat} {M : MEM} (h : AH) (hA : MA A) (hR : RG M) {kr : Nat} (hk : kr ∈ mids ∧ kr ≠ 30) (ht : mty kr = .int) (hl : mlen kr = 6) (hkn : kr ∉ [11, 12]) (hW : WF (M 0)) (hv : ∀ c, 0 ≤ c → c < M 0 1 → -1 ≤ M kr c ∧ M kr c < M 0 3) : ∀ (f : Nat) (M1 : MEM) (i : Int) (v3 v4 : Option Value), M 0 3 - i < (f : Int) → (0 ≤ i) → (i ≤ M 0 3) → (RG M1) → (SB [11, 12] [13, 14, 15] M M1) → (∀ j, 0 ≤ j → j < i → M1 11 j = 0) → WW κ mX10_weighs 3 0 0 (fun v h' => ∃ M', v = none ∧ h' = mset A M' h ∧ (fun M' => RG M' ∧ SB [11, 12] [13, 14, 15] M M' ∧ QW (M 0) (M kr) M') M') NoX 2 [some (.ref (A 30)), some (.ref (A kr)), some (.int (J i)), v3, v4] [] (mset A M1 h) := by
  intro f
  induction f with
  | zero =>
    intro M1 i v3 v4 hf i0 i1 hR1 hS hz
    exact absurd hf (by omega)
  | succ f ih =>
    intro M1 i v3 v4 hf i0 i1 hR1 hS hz
    obtain ⟨⟨y0, y1⟩, ⟨n0, n1⟩, ⟨q0, q1⟩, ⟨m0, m1⟩⟩ := hW.n
    have e0 : M1 0 = M 0 := hS.1 0 (by decide) (by decide)
    have ek : M1 kr = M kr := hS.1 kr hkn hk.2
    refine r_il2 dX10_weighs_2 ?_
    refine r_al0 dX10_weighs_3 ?_
    refine m_get dX10_weighs_4 f_X10_7 hA rfl ?_
    refine r_iconst dX10_weighs_7 ?_
    refine m_ald dX10_weighs_8 hA (by decide) rfl (by first | omega | (simp only [mlen]; omega)) (by first | omega | (simp only [mlen]; omega)) ?_
    try simp only [updm_app, Int.reduceEq, Nat.reduceEqDiff, and_true, true_and, false_and, and_false, if_true, if_false, reduceIte, e0, ek]
    refine r_icmp_ge (tgt := 25) dX10_weighs_9 (by decide) (by first | omega | exact hR1 _ _ | exact hR _ _) (by first | omega | exact hR1 _ _ | exact hR _ _) (fun c_9 => ?_) (fun c_9 => ?_)
    · refine r_al0 dX10_weighs_25 ?_
      refine r_iconst dX10_weighs_26 ?_
      refine m_put dX10_weighs_27 f_X10_97 p_X10_97 (ff_14_15 _) hA mfp_15 rfl rfl ?_
      refine r_iconst dX10_weighs_30 ?_
      refine r_is2 dX10_weighs_31 rfl ?_
      refine l_w32 κ h hA hR hk ht hl hkn hW hv 7 _ 0 _ _ (by omega) (by omega) (by omega) (RG.up hR1 (by decide)) (SB.upF hS (by decide)) (fun j j0 j1 => ?_) ?_
      · rw [updm_k (by decide), hz j j0 (by omega), sz_0]
      · rw [updm_at, sz_0]
    · refine r_al0 dX10_weighs_12 ?_
      refine m_get dX10_weighs_13 f_X10_28 hA rfl ?_
      refine r_il2 dX10_weighs_16 ?_
      refine r_iconst dX10_weighs_17 ?_
      refine m_ast dX10_weighs_18 hA (by decide) rfl (by first | omega | (simp only [mlen]; omega)) (by first | omega | (simp only [mlen]; omega)) ?_
      refine r_inc2 dX10_weighs_19 rfl ?_
      refine r_goto (tgt := 2) dX10_weighs_22 (by decide) ?_
      refine ih _ (i + 1) _ _ (by omega) (by omega) (by omega) (RG.up hR1 (by decide)) (SB.upA hS (by decide) (by decide)) (fun j j0 j1 => ?_)
      rcases (show j < i ∨ j = i by omega) with z | z
      · rw [updm_ne (by omega)]; exact hz j j0 z
      · rw [z, updm_at]
set_option maxRecDepth 100000 in
set_option maxHeartbeats 4000000 in
theorem c_weighs (κ : KP) {A : Nat → Nat} {M : MEM} (hA : MA A) (hR : RG M) {kr : Nat} (hk : kr ∈ mids ∧ kr ≠ 30) (ht : mty kr = .int) (hl : mlen kr = 6) (hkn : kr ∉ [11, 12]) (hW : WF (M 0)) (hv : ∀ c, 0 ≤ c → c < M 0 1 → -1 ≤ M kr c ∧ M kr c < M 0 3) : UM κ mX10_weighs 3 A [.ref (A 30), .ref (A kr)] M (fun M' => RG M' ∧ SB [11, 12] [13, 14, 15] M M' ∧ QW (M 0) (M kr) M') := by
  intro h
  refine mm_of (L := [some _, some _, none, none, none]) (by decide +kernel) rfl rfl (Nat.le_of_ble_eq_true rfl) rfl ?_
  obtain ⟨⟨y0, y1⟩, ⟨n0, n1⟩, ⟨q0, q1⟩, ⟨m0, m1⟩⟩ := hW.n
  refine r_iconst dX10_weighs_0 ?_
  refine r_is2 dX10_weighs_1 rfl ?_
  exact l_w2 κ h hA hR hk ht hl hkn hW hv 9 M 0 _ _ (by omega) (by omega) (by omega) hR SB.rf (fun j j0 j1 => by omega)
set_option maxRecDepth 100000 in
set_option maxHeartbeats 4000000 in
theorem l_nextUse (κ : KP) {A : Nat → Nat} {M : MEM} (h : AH) (hA : MA A) (hR : RG M) (hW : WF (M 0)) (hu : QV (M 0) (M 9)) : ∀ (f : Nat) (M1 : MEM) (c : Int), c + 1 < (f : Int) → (-1 ≤ c) → (c < M 0 1) → (RG M1) → (SB [9] [] M M1) → (∀ j, 0 ≤ j → j ≤ c → M1 9 j = M 9 j) → (∀ j, c < j → j < M 0 1 → M 9 j = -1 ∧ QPl (M 0) j (-1) (M1 9 j)) → WW κ mX10_nextUse 5 0 0 (fun v h' => ∃ r M', v = some (.int (J r)) ∧ h' = mset A M' h ∧ (fun r M' => RG M' ∧ SB [9] [] M M' ∧ ((r = 1 ∧ QV (M 0) (M' 9) ∧ LX (M 0 1) (M 9) (M' 9) ∧ ∀ v, QV (M 0) v → LX (M 0 1) v (M' 9) → LXE (M 0 1) (M 9) v) ∨ (r = 0 ∧ ∀ v, QV (M 0) v → LXE (M 0 1) (M 9) v))) r M') NoX 9 [some (.ref (A 30)), some (.int (J c))] [] (mset A M1 h) := by
  intro f
  induction f with
  | zero =>
    intro M1 c hf c0 c1 hR1 hS hlo hhi
    exact absurd hf (by omega)
  | succ f ih =>
    intro M1 c hf c0 c1 hR1 hS hlo hhi
    have hn := hW.n
    have e0 : M1 0 = M 0 := hS.1 0 (by decide) (by decide)
    refine r_il1 dX10_nextUse_9 ?_
    refine r_if_lt (tgt := 59) dX10_nextUse_10 (by decide) (by first | omega | exact hR1 _ _ | exact hR _ _) (fun c_10 => ?_) (fun c_10 => ?_)
    · refine r_iconst dX10_nextUse_59 ?_
      refine r_iret dX10_nextUse_60 (ty := .boolean) rfl (by decide) ⟨_, _, rfl, rfl, hR1, hS, Or.inr ⟨rfl, last_ok hW hu (fun j j0 j1 => (hhi j (by omega) j1).1)⟩⟩
    · refine r_al0 dX10_nextUse_13 ?_
      refine m_get dX10_nextUse_14 f_X10_22 hA rfl ?_
      refine r_il1 dX10_nextUse_17 ?_
      refine r_al0 dX10_nextUse_18 ?_
      refine r_il1 dX10_nextUse_19 ?_
      refine r_al0 dX10_nextUse_20 ?_
      refine m_get dX10_nextUse_21 f_X10_22 hA rfl ?_
      refine r_il1 dX10_nextUse_24 ?_
      refine m_ald dX10_nextUse_25 hA (by decide) rfl (by first | omega | (simp only [mlen]; omega)) (by first | omega | (simp only [mlen]; omega)) ?_
      try simp only [updm_app, Int.reduceEq, Nat.reduceEqDiff, and_true, true_and, false_and, and_false, if_true, if_false, reduceIte, e0]
      have hb := hlo c (by omega) (by omega)
      rw [hb]
      have hub := hu.rg (c := c) (by omega) c1
      refine m_callR2 dX10_nextUse_26 v_X10_109 hA (c_placeAfter κ hA hR1 (by rw [e0]; exact hW) (c := c) (by omega) (by rw [e0]; omega) (by omega) (by rw [e0]; omega)) (by decide) rfl (fun r_26 M_26 h_26 => ?_)
      obtain ⟨hx1, hp⟩ := h_26
      obtain rfl := hx1.symm
      rw [e0] at hp
      have hpr : rng r_26 ∧ r_26 < 8 := by rcases hp with z | ⟨z1, z2⟩ <;> first | omega | (rcases z2 with ⟨y, -⟩ | ⟨y1, y2, -⟩ <;> omega)
      refine m_ast dX10_nextUse_29 hA (by decide) rfl (by first | omega | (simp only [mlen]; omega)) (by first | omega | (simp only [mlen]; omega)) ?_
      refine r_al0 dX10_nextUse_30 ?_
      refine m_get dX10_nextUse_31 f_X10_22 hA rfl ?_
      refine r_il1 dX10_nextUse_34 ?_
      refine m_ald dX10_nextUse_35 hA (by decide) rfl (by first | omega | (simp only [mlen]; omega)) (by first | omega | (simp only [mlen]; omega)) ?_
      try simp only [updm_app, Int.reduceEq, Nat.reduceEqDiff, and_true, true_and, false_and, and_false, if_true, if_false, reduceIte, e0]
      refine r_iconst dX10_nextUse_36 ?_
      refine r_icmp_lt (tgt := 42) dX10_nextUse_37 (by decide) (by first | omega | exact hR1 _ _ | exact hR _ _) (by first | omega | exact hR1 _ _ | exact hR _ _) (fun c_37 => ?_) (fun c_37 => ?_)
      · refine r_al0 dX10_nextUse_42 ?_
        refine m_get dX10_nextUse_43 f_X10_22 hA rfl ?_
        refine r_il1 dX10_nextUse_46 ?_
        refine r_al0 dX10_nextUse_47 ?_
        refine r_il1 dX10_nextUse_48 ?_
        refine m_callR1 dX10_nextUse_49 v_X10_112 hA (c_firstPlace κ hA (RG.up hR1 (by omega)) (by rw [updm_k (by decide), e0]; exact hW) (c := c) (by omega) (by rw [updm_k (by decide), e0]; omega)) (by decide) rfl (fun r_49 M_49 h_49 => ?_)
        obtain ⟨hx1, hp2⟩ := h_49
        obtain rfl := hx1
        rw [updm_k (by decide), e0] at hp2
        have hpr2 : rng r_49 := by rcases hp2 with ⟨y, -⟩ | ⟨y1, y2, -⟩ <;> omega
        refine m_ast dX10_nextUse_52 hA (by decide) rfl (by first | omega | (simp only [mlen]; omega)) (by first | omega | (simp only [mlen]; omega)) ?_
        refine r_inc1 dX10_nextUse_53 rfl ?_
        refine r_goto (tgt := 9) dX10_nextUse_56 (by decide) ?_
        refine ih _ (c - 1) (by omega) (by omega) (by omega) (RG.up (RG.up hR1 (by omega)) (by omega)) (SB.upA (SB.upA hS (by decide) (by decide)) (by decide) (by decide)) (fun j j0 j1 => ?_) (fun j j0 j1 => ?_)
        · rw [updm_ne (by omega), updm_ne (by omega)]; exact hlo j j0 (by omega)
        · rcases (show j = c ∨ c < j by omega) with z | z
          · subst z
            rw [updm_at]
            refine ⟨?_, hp2⟩
            rcases hp with y | ⟨y1, y2⟩
            · exact y.1
            · rcases y2 with ⟨x1, x2⟩ | ⟨x1, x2⟩ <;> omega
          · rw [updm_ne (by omega), updm_ne (by omega)]; exact hhi j z j1
      · refine r_iconst dX10_nextUse_40 ?_
        refine r_iret dX10_nextUse_41 (ty := .boolean) rfl (by decide) ⟨_, _, rfl, rfl, RG.up hR1 (by omega), SB.upA hS (by decide) (by decide), Or.inl ⟨rfl, ?_⟩⟩
        have hp2 : 0 ≤ M 9 c ∧ QPl (M 0) c (M 9 c) r_26 := by
          rcases hp with z | z
          · omega
          · exact z
        refine next_ok hW hu (by omega) c1 (fun j j0 j1 => ?_) hp2.1 ?_ (fun j j0 j1 => ?_)
        · rw [updm_ne (by omega)]; exact hlo j j0 (by omega)
        · rw [updm_at]; exact hp2.2
        · rw [updm_ne (by omega)]; exact hhi j j0 j1
set_option maxRecDepth 100000 in
set_option maxHeartbeats 4000000 in
theorem c_nextUse (κ : KP) {A : Nat → Nat} {M : MEM} (hA : MA A) (hR : RG M) (hW : WF (M 0)) (hu : QV (M 0) (M 9)) : RM κ mX10_nextUse 5 A [.ref (A 30)] M (fun r M' => RG M' ∧ SB [9] [] M M' ∧ ((r = 1 ∧ QV (M 0) (M' 9) ∧ LX (M 0 1) (M 9) (M' 9) ∧ ∀ v, QV (M 0) v → LX (M 0 1) v (M' 9) → LXE (M 0 1) (M 9) v) ∨ (r = 0 ∧ ∀ v, QV (M 0) v → LXE (M 0 1) (M 9) v))) := by
  intro h
  refine mm_of (L := [some _, none]) (by decide +kernel) rfl rfl (Nat.le_of_ble_eq_true rfl) rfl ?_
  have hn := hW.n
  refine r_al0 dX10_nextUse_0 ?_
  refine m_get dX10_nextUse_1 f_X10_7 hA rfl ?_
  refine r_iconst dX10_nextUse_4 ?_
  refine m_ald dX10_nextUse_5 hA (by decide) rfl (by first | omega | (simp only [mlen]; omega)) (by first | omega | (simp only [mlen]; omega)) ?_
  refine r_iconst dX10_nextUse_6 ?_
  refine r_isub dX10_nextUse_7 ?_
  refine r_is1 dX10_nextUse_8 rfl ?_
  exact l_nextUse κ h hA hR hW hu 7 M (M 0 1 - 1) (by omega) (by omega) (by omega) hR SB.rf (fun j _ _ => rfl) (fun j j0 j1 => by omega)
def QKn (M : MEM) : Prop := M 30 8 = 0 ∨ (M 30 8 = 1 ∧ QBest (M 0) (M 10) ∧ QW (M 0) (M 10) M)
def QFs (M M' : MEM) : Prop := RG M' ∧ SB [9, 10, 11, 12] [8, 13, 14, 15] M M' ∧ M' 30 8 = 1 ∧ QBest (M 0) (M' 10) ∧ QW (M 0) (M' 10) M'
def FI (M M1 : MEM) : Prop := RG M1 ∧ SB [9, 10, 11, 12] [8, 13, 14, 15] M M1 ∧ M1 30 8 = 1 ∧ QV (M 0) (M1 9)
theorem FI.e0 {M M1 : MEM} (h : FI M M1) : M1 0 = M 0 := h.2.1.1 0 (by decide) (by decide)
def XK (g b : Int → Int) (x1 x2 x3 : Int) : Prop := x1 = qroots g b ∧ x2 = qleav g b ∧ x3 = qgiv g b
theorem XK.eq {g b b' : Int → Int} {x1 x2 x3 : Int} (h : XK g b x1 x2 x3) (e : EQU (g 1) b b') : XK g b' x1 x2 x3 := ⟨by rw [← qroots_cong e]; exact h.1, by rw [← qleav_cong e]; exact h.2.1, by rw [← qgiv_cong e]; exact h.2.2⟩
set_option maxRecDepth 100000 in
set_option maxHeartbeats 4000000 in
theorem l_f145 (κ : KP) {A : Nat → Nat} {M : MEM} (h : AH) (hA : MA A) (hR : RG M) (hW : WF (M 0)) {M1 : MEM} {u : Int → Int} {x1 x2 x3 : Int} {v4 : Option Value} (hI : FI M M1) (hu9 : M1 9 = u) (hb : FM (M 0) (LXE (M 0 1) u) (M1 10)) (hx : XK (M 0) (M1 10) x1 x2 x3) (kk : ∀ (M2 : MEM) (v4 : Option Value), FI M M2 → LX (M 0 1) u (M2 9) → FM (M 0) (fun v => LX (M 0 1) v (M2 9)) (M2 10) → XK (M 0) (M2 10) x1 x2 x3 → WW κ mX10_finds 6 0 0 (fun v h' => ∃ M', v = none ∧ h' = mset A M' h ∧ QFs M M') NoX 48 [some (.ref (A 30)), some (.int (J x1)), some (.int (J x2)), some (.int (J x3)), v4] [] (mset A M2 h)) : WW κ mX10_finds 6 0 0 (fun v h' => ∃ M', v = none ∧ h' = mset A M' h ∧ QFs M M') NoX 145 [some (.ref (A 30)), some (.int (J x1)), some (.int (J x2)), some (.int (J x3)), v4] [] (mset A M1 h) := by
  have e0 := hI.e0
  obtain ⟨hR1, hS1, hk1, hv1⟩ := hI
  subst hu9
  obtain ⟨⟨y0, y1⟩, ⟨n0, n1⟩, ⟨q0, q1⟩, ⟨m0, m1⟩⟩ := hW.n
  refine r_al0 dX10_finds_145 ?_
  refine m_callR0 dX10_finds_146 v_X10_119 hA (c_nextUse κ hA hR1 (by rw [e0]; exact hW) (by rw [e0]; exact hv1)) (by decide) rfl (fun r_146 M_146 h_146 => ?_)
  obtain ⟨hRn, hSn, hn⟩ := h_146
  rw [e0] at hn
  have en : M_146 0 = M 0 := (hSn.1 0 (by decide) (by decide)).trans e0
  have e10 : M_146 10 = M1 10 := hSn.1 10 (by decide) (by decide)
  refine r_if_ne (tgt := 48) dX10_finds_149 (by decide) (by first | omega | exact hR1 _ _ | exact hR _ _) (fun c_149 => ?_) (fun c_149 => ?_)
  · rcases hn with ⟨-, z1, z2, z3⟩ | ⟨z, -⟩
    · refine kk M_146 _ ⟨hRn, (hS1.trans hSn).mono (by decide) (by decide), ?_, z1⟩ z2 ?_ ?_
      · rw [hSn.2 8 (by decide)]; exact hk1
      · rw [e10]
        refine hb.iff (fun v hv => ⟨fun q => ?_, fun q => z3 v hv q⟩)
        rcases q with q | q
        · exact q.trans z2
        · exact z2.eqL q.symm
      · rw [e10]; exact hx
    · omega
  · refine r_al0 dX10_finds_152 ?_
    refine r_al0 dX10_finds_153 ?_
    refine m_get dX10_finds_154 f_X10_25 hA rfl ?_
    refine m_callU1 dX10_finds_157 v_X10_115 hA (c_weighs κ hA hRn (kr := 10) (by decide) rfl rfl (by decide) (by rw [en]; exact hW) (by rw [en, e10]; intro c c0 c1; have := hb.2.1.rg c0 c1; omega)) (by decide) rfl (fun M_157 h_157 => ?_)
    obtain ⟨hRw, hSw, hw⟩ := h_157
    rw [en, e10] at hw
    refine r_ret dX10_finds_160 rfl ⟨_, rfl, rfl, hRw, (hS1.trans (hSn.trans hSw)).mono (by decide) (by decide), ?_, ?_, ?_⟩
    · rw [hSw.2 8 (by decide), hSn.2 8 (by decide)]; exact hk1
    · rw [hSw.1 10 (by decide) (by decide), e10]
      rcases hn with ⟨z, -⟩ | ⟨-, z⟩
      · omega
      · exact hb.iff (fun v hv => ⟨fun _ => trivial, fun _ => z v hv⟩)
    · rw [hSw.1 10 (by decide) (by decide), e10]; exact hw
set_option maxRecDepth 100000 in
set_option maxHeartbeats 4000000 in
theorem l_f114 (κ : KP) {A : Nat → Nat} {M : MEM} (h : AH) (hA : MA A) (hR : RG M) (hW : WF (M 0)) {u : Int → Int} {x1 x2 x3 : Int} (hnew : FM (M 0) (LXE (M 0 1) u) u) (hx : XK (M 0) u x1 x2 x3) (kk : ∀ (M2 : MEM) (v4 : Option Value), FI M M2 → LX (M 0 1) u (M2 9) → FM (M 0) (fun v => LX (M 0 1) v (M2 9)) (M2 10) → XK (M 0) (M2 10) x1 x2 x3 → WW κ mX10_finds 6 0 0 (fun v h' => ∃ M', v = none ∧ h' = mset A M' h ∧ QFs M M') NoX 48 [some (.ref (A 30)), some (.int (J x1)), some (.int (J x2)), some (.int (J x3)), v4] [] (mset A M2 h)) : ∀ (f : Nat) (M1 : MEM) (k : Int), M 0 1 - k < (f : Int) → (0 ≤ k) → (k ≤ M 0 1) → (FI M M1) → (M1 9 = u) → (∀ j, 0 ≤ j → j < k → u j = M1 10 j) → WW κ mX10_finds 6 0 0 (fun v h' => ∃ M', v = none ∧ h' = mset A M' h ∧ QFs M M') NoX 114 [some (.ref (A 30)), some (.int (J x1)), some (.int (J x2)), some (.int (J x3)), some (.int (J k))] [] (mset A M1 h) := by
  intro f
  induction f with
  | zero =>
    intro M1 k hf k0 k1 hI hu9 hc
    exact absurd hf (by omega)
  | succ f ih =>
    intro M1 k hf k0 k1 hI hu9 hc
    obtain ⟨⟨y0, y1⟩, ⟨n0, n1⟩, ⟨q0, q1⟩, ⟨m0, m1⟩⟩ := hW.n
    have e0 := hI.e0
    have hR1 := hI.1
    refine r_il4 dX10_finds_114 ?_
    refine r_al0 dX10_finds_116 ?_
    refine m_get dX10_finds_117 f_X10_7 hA rfl ?_
    refine r_iconst dX10_finds_120 ?_
    refine m_ald dX10_finds_121 hA (by decide) rfl (by first | omega | (simp only [mlen]; omega)) (by first | omega | (simp only [mlen]; omega)) ?_
    try simp only [updm_app, Int.reduceEq, Nat.reduceEqDiff, and_true, true_and, false_and, and_false, if_true, if_false, reduceIte, e0]
    refine r_icmp_ge (tgt := 145) dX10_finds_122 (by decide) (by first | omega | exact hR1 _ _ | exact hR _ _) (by first | omega | exact hR1 _ _ | exact hR _ _) (fun c_122 => ?_) (fun c_122 => ?_)
    · have e : EQU (M 0 1) u (M1 10) := fun j j0 j1 => hc j j0 (by omega)
      exact l_f145 κ h hA hR hW hI hu9 (hnew.eq e (Or.inr e.symm)) (hx.eq e) kk
    · refine r_al0 dX10_finds_125 ?_
      refine m_get dX10_finds_126 f_X10_25 hA rfl ?_
      refine r_il4 dX10_finds_129 ?_
      refine r_al0 dX10_finds_131 ?_
      refine m_get dX10_finds_132 f_X10_22 hA rfl ?_
      refine r_il4 dX10_finds_135 ?_
      refine m_ald dX10_finds_137 hA (by decide) rfl (by first | omega | (simp only [mlen]; omega)) (by first | omega | (simp only [mlen]; omega)) ?_
      try simp only [updm_app, Int.reduceEq, Nat.reduceEqDiff, and_true, true_and, false_and, and_false, if_true, if_false, reduceIte, e0]
      refine m_ast dX10_finds_138 hA (by decide) rfl (by first | omega | (simp only [mlen]; omega)) (by first | omega | (simp only [mlen]; omega)) ?_
      refine r_inc4 dX10_finds_139 rfl ?_
      refine r_goto (tgt := 114) dX10_finds_142 (by decide) ?_
      refine ih _ (k + 1) (by omega) (by omega) (by omega) ⟨RG.up hR1 (hR1 _ _), SB.upA hI.2.1 (by decide) (by decide), ?_, ?_⟩ ?_ (fun j j0 j1 => ?_)
      · rw [updm_ne (by omega)]; exact hI.2.2.1
      · rw [updm_k (by decide)]; exact hI.2.2.2
      · rw [updm_k (by decide)]; exact hu9
      · rcases (show j < k ∨ j = k by omega) with z | z
        · rw [updm_ne (by omega)]; exact hc j j0 z
        · rw [z, updm_at, hu9]
set_option maxRecDepth 100000 in
set_option maxHeartbeats 4000000 in
theorem l_f48 (κ : KP) {A : Nat → Nat} {M : MEM} (h : AH) (hA : MA A) (hR : RG M) (hW : WF (M 0)) : ∀ (f : Nat) (M1 : MEM) (x1 x2 x3 : Int) (v4 : Option Value), 531441 - nm (M1 9) (M 0 1).toNat < (f : Int) → (FI M M1) → ((x1 = -1 ∧ x2 = 0 ∧ x3 = 0 ∧ ∀ v, QV (M 0) v → ¬ LX (M 0 1) v (M1 9)) ∨ (FM (M 0) (fun v => LX (M 0 1) v (M1 9)) (M1 10) ∧ XK (M 0) (M1 10) x1 x2 x3)) → WW κ mX10_finds 6 0 0 (fun v h' => ∃ M', v = none ∧ h' = mset A M' h ∧ QFs M M') NoX 48 [some (.ref (A 30)), some (.int (J x1)), some (.int (J x2)), some (.int (J x3)), v4] [] (mset A M1 h) := by
  intro f
  induction f with
  | zero =>
    intro M1 x1 x2 x3 v4 hf hI H
    have hz := nm_bdV hW hI.2.2.2
    exact absurd hf (by omega)
  | succ f ih =>
    intro M1 x1 x2 x3 v4 hf hI H
    obtain ⟨⟨y0, y1⟩, ⟨n0, n1⟩, ⟨q0, q1⟩, ⟨m0, m1⟩⟩ := hW.n
    have e0 := hI.e0
    have hR1 := hI.1
    have bn := qk_bd (u := M1 9) hW
    have hx3 : rng x1 ∧ rng x2 ∧ rng x3 := by
      rcases H with ⟨z1, z2, z3, -⟩ | ⟨-, z1, z2, z3⟩
      · omega
      · have bo := qk_bd (u := M1 10) hW
        omega
    refine r_al0 dX10_finds_48 ?_
    refine r_al0 dX10_finds_49 ?_
    refine m_get dX10_finds_50 f_X10_22 hA rfl ?_
    refine m_callU1 dX10_finds_53 v_X10_115 hA (c_weighs κ hA hR1 (kr := 9) (by decide) rfl rfl (by decide) (by rw [e0]; exact hW) (by rw [e0]; intro c c0 c1; have := hI.2.2.2.rg c0 c1; omega)) (by decide) rfl (fun M_53 h_53 => ?_)
    obtain ⟨hRw, hSw, hqw⟩ := h_53
    rw [e0] at hqw
    have u9 : M_53 9 = M1 9 := hSw.1 9 (by decide) (by decide)
    have u10 : M_53 10 = M1 10 := hSw.1 10 (by decide) (by decide)
    have hI2 : FI M M_53 := ⟨hRw, (hI.2.1.trans hSw).mono (by decide) (by decide), by rw [hSw.2 8 (by decide)]; exact hI.2.2.1, by rw [u9]; exact hI.2.2.2⟩
    have qa := hqw.2.1
    have qb := hqw.2.2.1
    have qc := hqw.2.2.2
    refine r_al0 dX10_finds_56 ?_
    refine m_get dX10_finds_57 f_X10_100 hA rfl ?_
    refine r_il1 dX10_finds_60 ?_
    refine r_icmp_gt (tgt := 96) dX10_finds_61 (by decide) (by first | omega | exact hRw _ _) (by first | omega | exact hRw _ _) (fun c_61 => ?_) (fun c_61 => ?_)
    · refine r_al0 dX10_finds_96 ?_
      refine m_get dX10_finds_97 f_X10_100 hA rfl ?_
      refine r_is1 dX10_finds_100 rfl ?_
      refine r_al0 dX10_finds_101 ?_
      refine m_get dX10_finds_102 f_X10_103 hA rfl ?_
      refine r_is2 dX10_finds_105 rfl ?_
      refine r_al0 dX10_finds_106 ?_
      refine m_get dX10_finds_107 f_X10_97 hA rfl ?_
      refine r_is3 dX10_finds_110 rfl ?_
      refine r_iconst dX10_finds_111 ?_
      refine r_is4 dX10_finds_112 rfl ?_
      have hnew : FM (M 0) (LXE (M 0 1) (M1 9)) (M1 9) := by
        rcases H with ⟨z1, z2, z3, z4⟩ | ⟨z1, z2, z3, z4⟩
        · exact FM.first hI.2.2.2 z4
        · refine FM.new hI.2.2.2 z1 ?_
          have bo := qk_bd (u := M1 10) hW
          unfold qkey
          omega
      exact l_f114 κ h hA hR hW hnew ⟨qa, qb, qc⟩ (fun M2 v4 g1 g2 g3 g4 => ih M2 _ _ _ v4 (by have a1 := nm_ltV hW hI.2.2.2 g1.2.2.2 g2; omega) g1 (Or.inr ⟨g3, g4⟩)) 9 M_53 0 (by omega) (by omega) (by omega) hI2 u9 (fun j j0 j1 => by omega)
    · refine r_al0 dX10_finds_64 ?_
      refine m_get dX10_finds_65 f_X10_100 hA rfl ?_
      refine r_il1 dX10_finds_68 ?_
      refine r_icmp_ne (tgt := 145) dX10_finds_69 (by decide) (by first | omega | exact hRw _ _) (by first | omega | exact hRw _ _) (fun c_69 => ?_) (fun c_69 => ?_)
      · rcases H with ⟨z1, z2, z3, z4⟩ | ⟨z1, z2⟩
        · exfalso; omega
        · have hkeep : FM (M 0) (LXE (M 0 1) (M1 9)) (M_53 10) := by
            rw [u10]
            refine z1.keep ?_
            have bo := qk_bd (u := M1 10) hW
            obtain ⟨z21, z22, z23⟩ := z2
            unfold qkey
            omega
          exact l_f145 κ h hA hR hW hI2 u9 hkeep (by rw [u10]; exact z2) (fun M2 v4 g1 g2 g3 g4 => ih M2 _ _ _ v4 (by have a1 := nm_ltV hW hI.2.2.2 g1.2.2.2 g2; omega) g1 (Or.inr ⟨g3, g4⟩))
      · refine r_al0 dX10_finds_72 ?_
        refine m_get dX10_finds_73 f_X10_103 hA rfl ?_
        refine r_il2 dX10_finds_76 ?_
        refine r_icmp_gt (tgt := 96) dX10_finds_77 (by decide) (by first | omega | exact hRw _ _) (by first | omega | exact hRw _ _) (fun c_77 => ?_) (fun c_77 => ?_)
        · refine r_al0 dX10_finds_96 ?_
          refine m_get dX10_finds_97 f_X10_100 hA rfl ?_
          refine r_is1 dX10_finds_100 rfl ?_
          refine r_al0 dX10_finds_101 ?_
          refine m_get dX10_finds_102 f_X10_103 hA rfl ?_
          refine r_is2 dX10_finds_105 rfl ?_
          refine r_al0 dX10_finds_106 ?_
          refine m_get dX10_finds_107 f_X10_97 hA rfl ?_
          refine r_is3 dX10_finds_110 rfl ?_
          refine r_iconst dX10_finds_111 ?_
          refine r_is4 dX10_finds_112 rfl ?_
          have hnew : FM (M 0) (LXE (M 0 1) (M1 9)) (M1 9) := by
            rcases H with ⟨z1, z2, z3, z4⟩ | ⟨z1, z2, z3, z4⟩
            · exact FM.first hI.2.2.2 z4
            · refine FM.new hI.2.2.2 z1 ?_
              have bo := qk_bd (u := M1 10) hW
              unfold qkey
              omega
          exact l_f114 κ h hA hR hW hnew ⟨qa, qb, qc⟩ (fun M2 v4 g1 g2 g3 g4 => ih M2 _ _ _ v4 (by have a1 := nm_ltV hW hI.2.2.2 g1.2.2.2 g2; omega) g1 (Or.inr ⟨g3, g4⟩)) 9 M_53 0 (by omega) (by omega) (by omega) hI2 u9 (fun j j0 j1 => by omega)
        · refine r_al0 dX10_finds_80 ?_
          refine m_get dX10_finds_81 f_X10_103 hA rfl ?_
          refine r_il2 dX10_finds_84 ?_
          refine r_icmp_ne (tgt := 145) dX10_finds_85 (by decide) (by first | omega | exact hRw _ _) (by first | omega | exact hRw _ _) (fun c_85 => ?_) (fun c_85 => ?_)
          · rcases H with ⟨z1, z2, z3, z4⟩ | ⟨z1, z2⟩
            · exfalso; omega
            · have hkeep : FM (M 0) (LXE (M 0 1) (M1 9)) (M_53 10) := by
                rw [u10]
                refine z1.keep ?_
                have bo := qk_bd (u := M1 10) hW
                obtain ⟨z21, z22, z23⟩ := z2
                unfold qkey
                omega
              exact l_f145 κ h hA hR hW hI2 u9 hkeep (by rw [u10]; exact z2) (fun M2 v4 g1 g2 g3 g4 => ih M2 _ _ _ v4 (by have a1 := nm_ltV hW hI.2.2.2 g1.2.2.2 g2; omega) g1 (Or.inr ⟨g3, g4⟩))
          · refine r_al0 dX10_finds_88 ?_
            refine m_get dX10_finds_89 f_X10_97 hA rfl ?_
            refine r_il3 dX10_finds_92 ?_
            refine r_icmp_ge (tgt := 145) dX10_finds_93 (by decide) (by first | omega | exact hRw _ _) (by first | omega | exact hRw _ _) (fun c_93 => ?_) (fun c_93 => ?_)
            · rcases H with ⟨z1, z2, z3, z4⟩ | ⟨z1, z2⟩
              · exfalso; omega
              · have hkeep : FM (M 0) (LXE (M 0 1) (M1 9)) (M_53 10) := by
                  rw [u10]
                  refine z1.keep ?_
                  have bo := qk_bd (u := M1 10) hW
                  obtain ⟨z21, z22, z23⟩ := z2
                  unfold qkey
                  omega
                exact l_f145 κ h hA hR hW hI2 u9 hkeep (by rw [u10]; exact z2) (fun M2 v4 g1 g2 g3 g4 => ih M2 _ _ _ v4 (by have a1 := nm_ltV hW hI.2.2.2 g1.2.2.2 g2; omega) g1 (Or.inr ⟨g3, g4⟩))
            · refine r_al0 dX10_finds_96 ?_
              refine m_get dX10_finds_97 f_X10_100 hA rfl ?_
              refine r_is1 dX10_finds_100 rfl ?_
              refine r_al0 dX10_finds_101 ?_
              refine m_get dX10_finds_102 f_X10_103 hA rfl ?_
              refine r_is2 dX10_finds_105 rfl ?_
              refine r_al0 dX10_finds_106 ?_
              refine m_get dX10_finds_107 f_X10_97 hA rfl ?_
              refine r_is3 dX10_finds_110 rfl ?_
              refine r_iconst dX10_finds_111 ?_
              refine r_is4 dX10_finds_112 rfl ?_
              have hnew : FM (M 0) (LXE (M 0 1) (M1 9)) (M1 9) := by
                rcases H with ⟨z1, z2, z3, z4⟩ | ⟨z1, z2, z3, z4⟩
                · exact FM.first hI.2.2.2 z4
                · refine FM.new hI.2.2.2 z1 ?_
                  have bo := qk_bd (u := M1 10) hW
                  unfold qkey
                  omega
              exact l_f114 κ h hA hR hW hnew ⟨qa, qb, qc⟩ (fun M2 v4 g1 g2 g3 g4 => ih M2 _ _ _ v4 (by have a1 := nm_ltV hW hI.2.2.2 g1.2.2.2 g2; omega) g1 (Or.inr ⟨g3, g4⟩)) 9 M_53 0 (by omega) (by omega) (by omega) hI2 u9 (fun j j0 j1 => by omega)
set_option maxRecDepth 100000 in
set_option maxHeartbeats 4000000 in
theorem l_f15 (κ : KP) {A : Nat → Nat} {M : MEM} (h : AH) (hA : MA A) (hR : RG M) (hW : WF (M 0)) : ∀ (f : Nat) (M1 : MEM) (c : Int) (v2 v3 v4 : Option Value), M 0 1 - c < (f : Int) → (0 ≤ c) → (c ≤ M 0 1) → (RG M1) → (SB [9, 10, 11, 12] [8, 13, 14, 15] M M1) → (M1 30 8 = 1) → (∀ j, 0 ≤ j → j < c → QPl (M 0) j (-1) (M1 9 j)) → WW κ mX10_finds 6 0 0 (fun v h' => ∃ M', v = none ∧ h' = mset A M' h ∧ QFs M M') NoX 15 [some (.ref (A 30)), some (.int (J c)), v2, v3, v4] [] (mset A M1 h) := by
  intro f
  induction f with
  | zero =>
    intro M1 c v2 v3 v4 hf c0 c1 hR1 hS hk hf
    exact absurd hf (by omega)
  | succ f ih =>
    intro M1 c v2 v3 v4 hf c0 c1 hR1 hS hk hf
    have hn := hW.n
    have e0 : M1 0 = M 0 := hS.1 0 (by decide) (by decide)
    refine r_il1 dX10_finds_15 ?_
    refine r_al0 dX10_finds_16 ?_
    refine m_get dX10_finds_17 f_X10_7 hA rfl ?_
    refine r_iconst dX10_finds_20 ?_
    refine m_ald dX10_finds_21 hA (by decide) rfl (by first | omega | (simp only [mlen]; omega)) (by first | omega | (simp only [mlen]; omega)) ?_
    try simp only [updm_app, Int.reduceEq, Nat.reduceEqDiff, and_true, true_and, false_and, and_false, if_true, if_false, reduceIte, e0]
    refine r_icmp_ge (tgt := 42) dX10_finds_22 (by decide) (by first | omega | exact hR1 _ _ | exact hR _ _) (by first | omega | exact hR1 _ _ | exact hR _ _) (fun c_22 => ?_) (fun c_22 => ?_)
    · refine r_iconst dX10_finds_42 ?_
      refine r_is1 dX10_finds_43 rfl ?_
      refine r_iconst dX10_finds_44 ?_
      refine r_is2 dX10_finds_45 rfl ?_
      refine r_iconst dX10_finds_46 ?_
      refine r_is3 dX10_finds_47 rfl ?_
      have hfo := first_ok (g := M 0) (u := M1 9) (fun j j0 j1 => hf j j0 (by omega)) hW
      have hb := nm_bdV hW hfo.1
      exact l_f48 κ h hA hR hW 531442 M1 (-1) 0 0 _ (by omega) ⟨hR1, hS, hk, hfo.1⟩ (Or.inl ⟨rfl, rfl, rfl, hfo.2⟩)
    · refine r_al0 dX10_finds_25 ?_
      refine m_get dX10_finds_26 f_X10_22 hA rfl ?_
      refine r_il1 dX10_finds_29 ?_
      refine r_al0 dX10_finds_30 ?_
      refine r_il1 dX10_finds_31 ?_
      refine m_callR1 dX10_finds_32 v_X10_112 hA (c_firstPlace κ hA hR1 (by rw [e0]; exact hW) (c := c) (by omega) (by rw [e0]; omega)) (by decide) rfl (fun r_32 M_32 h_32 => ?_)
      obtain ⟨hx1, hp2⟩ := h_32
      obtain rfl := hx1.symm
      rw [e0] at hp2
      have hpr2 : rng r_32 := by rcases hp2 with ⟨y, -⟩ | ⟨y1, y2, -⟩ <;> omega
      refine m_ast dX10_finds_35 hA (by decide) rfl (by first | omega | (simp only [mlen]; omega)) (by first | omega | (simp only [mlen]; omega)) ?_
      refine r_inc1 dX10_finds_36 rfl ?_
      refine r_goto (tgt := 15) dX10_finds_39 (by decide) ?_
      refine ih _ (c + 1) _ _ _ (by omega) (by omega) (by omega) (RG.up hR1 hpr2) (SB.upA hS (by decide) (by decide)) (by rw [updm_ne (by omega)]; exact hk) (fun j j0 j1 => ?_)
      rcases (show j < c ∨ j = c by omega) with z | z
      · rw [updm_ne (by omega)]; exact hf j j0 z
      · rw [z, updm_at]; exact hp2
set_option maxRecDepth 100000 in
set_option maxHeartbeats 4000000 in
theorem c_finds (κ : KP) {A : Nat → Nat} {M : MEM} (hA : MA A) (hR : RG M) (hW : WF (M 0)) (hK : QKn M) : UM κ mX10_finds 6 A [.ref (A 30)] M (QFs M) := by
  intro h
  refine mm_of (L := [some _, none, none, none, none]) (by decide +kernel) rfl rfl (Nat.le_of_ble_eq_true rfl) rfl ?_
  have hn := hW.n
  refine r_al0 dX10_finds_0 ?_
  refine m_get dX10_finds_1 f_X10_69 hA rfl ?_
  refine r_if_eq (tgt := 8) dX10_finds_4 (by decide) (by first | omega | exact hR _ _) (fun c_4 => ?_) (fun c_4 => ?_)
  · refine r_al0 dX10_finds_8 ?_
    refine r_iconst dX10_finds_9 ?_
    refine m_putZ dX10_finds_10 f_X10_69 p_X10_69 (ff_14_8 _) hA mfp_8 (by first | omega | exact hR _ _) rfl rfl ?_
    refine r_iconst dX10_finds_13 ?_
    refine r_is1 dX10_finds_14 rfl ?_
    exact l_f15 κ h hA hR hW 7 _ 0 _ _ _ (by omega) (by omega) (by omega) (RG.up hR (by decide)) (SB.upF SB.rf (by decide)) updm_at (fun j j0 j1 => by omega)
  · refine r_ret dX10_finds_7 rfl ⟨_, rfl, rfl, ?_⟩
    rcases hK with z | ⟨z1, z2, z3⟩
    · omega
    · exact ⟨hR, SB.rf, z1, z2, z3⟩
set_option maxRecDepth 100000 in
set_option maxHeartbeats 4000000 in
theorem c_rootsNow (κ : KP) {A : Nat → Nat} {M : MEM} (hA : MA A) (hR : RG M) (hW : WF (M 0)) : RM κ mX10_rootsNow 7 A [.ref (A 30)] M (fun r M' => RG M' ∧ SB [9, 10, 11, 12] [8, 13, 14, 15] M M' ∧ M' 30 8 = 0 ∧ ∃ u, QBest (M 0) u ∧ r = qroots (M 0) u) := by
  intro h
  refine mm_of (L := [some _]) (by decide +kernel) rfl rfl (Nat.le_of_ble_eq_true rfl) rfl ?_
  refine r_al0 dX10_rootsNow_0 ?_
  refine r_iconst dX10_rootsNow_1 ?_
  refine m_putZ dX10_rootsNow_2 f_X10_69 p_X10_69 (ff_14_8 _) hA mfp_8 (by first | omega | decide | exact hR _ _) rfl rfl ?_
  refine r_al0 dX10_rootsNow_5 ?_
  refine m_callU0 dX10_rootsNow_6 v_X10_150 hA (c_finds κ hA (RG.up hR (by decide)) (by rw [updm_k (by decide)]; exact hW) (Or.inl updm_at)) (by decide) rfl (fun M_6 h_6 => ?_)
  obtain ⟨hRf, hSf, hkf, hbf, hwf⟩ := h_6
  rw [updm_k (by decide)] at hbf hwf
  refine r_al0 dX10_rootsNow_9 ?_
  refine r_iconst dX10_rootsNow_10 ?_
  refine m_putZ dX10_rootsNow_11 f_X10_69 p_X10_69 (ff_14_8 _) hA mfp_8 (by first | omega | decide | exact hR _ _) rfl rfl ?_
  refine r_al0 dX10_rootsNow_14 ?_
  refine m_get dX10_rootsNow_15 f_X10_100 hA rfl ?_
  try simp only [updm_app, cpy_app, Int.reduceEq, Nat.reduceEqDiff, and_true, true_and, false_and, and_false, if_true, if_false, reduceIte]
  refine r_iret dX10_rootsNow_18 (ty := .int) rfl rfl ⟨_, _, rfl, rfl, RG.up hRf (by decide), SB.upF ((SB.upF SB.rf (by decide) : SB [9, 10, 11, 12] [8, 13, 14, 15] M (updm M 30 8 0)).trans hSf |>.mono (by decide) (by decide)) (by decide), updm_at, _, hbf, ?_⟩
  rw [← hwf.2.1]
