/-! ===== sets of up to 8 numbers, as bits ===== -/
def bs (f : Int → Bool) : Int := bI (f 0) + 2 * bI (f 1) + 4 * bI (f 2) + 8 * bI (f 3) + 16 * bI (f 4) + 32 * bI (f 5) + 64 * bI (f 6) + 128 * bI (f 7)
def bz (a b c d e f g h : Bool) : Int := bI a + 2 * bI b + 4 * bI c + 8 * bI d + 16 * bI e + 32 * bI f + 64 * bI g + 128 * bI h
theorem bs_z {f : Int → Bool} : bs f = bz (f 0) (f 1) (f 2) (f 3) (f 4) (f 5) (f 6) (f 7) := rfl
theorem bs_bd {f : Int → Bool} : 0 ≤ bs f ∧ bs f < 256 := by
  have h0 := bI_01 (f 0); have h1 := bI_01 (f 1); have h2 := bI_01 (f 2); have h3 := bI_01 (f 3); have h4 := bI_01 (f 4); have h5 := bI_01 (f 5); have h6 := bI_01 (f 6); have h7 := bI_01 (f 7)
  unfold bs
  omega
theorem bs_cong {f g : Int → Bool} (h : ∀ i : Int, 0 ≤ i → i < 8 → f i = g i) : bs f = bs g := by
  unfold bs
  rw [h 0 (by decide) (by decide), h 1 (by decide) (by decide), h 2 (by decide) (by decide), h 3 (by decide) (by decide), h 4 (by decide) (by decide), h 5 (by decide) (by decide), h 6 (by decide) (by decide), h 7 (by decide) (by decide)]
theorem J_or0 {x : Int32} : x ||| J 0 = x := by
  rw [J_0]
  exact Int32.or_zero
set_option maxRecDepth 100000 in
theorem bs_or {f : Int → Bool} {k : Int} (h0 : 0 ≤ k) (h1 : k < 8) : J (bs f) ||| (J 1 <<< (J k &&& 31)) = J (bs (fun i => f i || i == k)) := by
  rw [bs_z, bs_z]
  rcases (show k = 0 ∨ k = 1 ∨ k = 2 ∨ k = 3 ∨ k = 4 ∨ k = 5 ∨ k = 6 ∨ k = 7 by omega) with rfl | rfl | rfl | rfl | rfl | rfl | rfl | rfl <;>
  · generalize f 0 = a0
    generalize f 1 = a1
    generalize f 2 = a2
    generalize f 3 = a3
    generalize f 4 = a4
    generalize f 5 = a5
    generalize f 6 = a6
    generalize f 7 = a7
    revert a0 a1 a2 a3 a4 a5 a6 a7
    decide +kernel
set_option maxRecDepth 100000 in
theorem bs_in {f : Int → Bool} {k : Int} (h0 : 0 ≤ k) (h1 : k < 8) : (J (bs f) >>> (J k &&& 31)) &&& J 1 = J (bI (f k)) := by
  rw [bs_z]
  rcases (show k = 0 ∨ k = 1 ∨ k = 2 ∨ k = 3 ∨ k = 4 ∨ k = 5 ∨ k = 6 ∨ k = 7 by omega) with rfl | rfl | rfl | rfl | rfl | rfl | rfl | rfl <;>
  · generalize f 0 = a0
    generalize f 1 = a1
    generalize f 2 = a2
    generalize f 3 = a3
    generalize f 4 = a4
    generalize f 5 = a5
    generalize f 6 = a6
    generalize f 7 = a7
    revert a0 a1 a2 a3 a4 a5 a6 a7
    decide +kernel
/-! ===== the desks that come of changes ===== -/
/-- what the year and the credits keep besides -/
def WG (g : Int → Int) : Prop := ∀ c, 0 ≤ c → c < g 1 → (QCap (g (4 + 4 * c + 0)) → g (4 + 4 * c + 1) ≤ 12) ∧ g (4 + 4 * c + 3) ≤ g 0
theorem WF.mod {g g' : Int → Int} (hW : WF g) (hh : ∀ i, 28 ≤ i → g' i = g i) (h2 : g' 2 = g 2) (h3 : g' 3 = g 3) (hy : 0 ≤ g' 0 ∧ g' 0 ≤ 60) (hn : 0 ≤ g' 1 ∧ g' 1 ≤ 6) (hc : ∀ c, 0 ≤ c → c < g' 1 → WFc g' c) : WF g' := by
  obtain ⟨a1, a2, a3, a4, a5, a6, a7, a8⟩ := hW
  have hb : ∀ b k : Int, 0 ≤ b → 0 ≤ k → g' (60 + 12 * b + k) = g (60 + 12 * b + k) := fun b k b0 k0 => hh _ (by omega)
  have hg : ∀ b : Int, 0 ≤ b → (QGr g' b ↔ QGr g b) := fun b b0 => by unfold QGr; rw [hb b 0 b0 (by decide)]
  refine ⟨hy, hn, by rw [h2]; exact a3, by rw [h3]; exact a4, ?_, hc, fun e e0 e1 => ?_, fun b b0 b1 => ?_⟩
  · have : qleaves g' = qleaves g := by
      unfold qleaves
      rw [h3]
      exact sz_cong (fun k k0 k1 => bP_cong (not_congr (hg k k0)))
    rw [this]
    exact a5
  · have := a7 e e0 (by rw [← h2]; exact e1)
    unfold WFe at this ⊢
    rw [hh _ (by omega), hh _ (by omega), hh _ (by omega), hh _ (by omega)]
    exact this
  · have := a8 b b0 (by rw [← h3]; exact b1)
    have hq : qparts g' b = qparts g b := by
      unfold qparts
      rw [h3]
      exact sz_cong (fun k k0 k1 => by rw [hb k 1 k0 (by decide)])
    obtain ⟨c1, c2, c3, c4, c5, c6, c7, c8, c9, c10, c11, c12⟩ := this
    refine ⟨?_, ?_, ?_, ?_, ?_, ?_, ?_, ?_, ?_, ?_, ?_, ?_⟩
    · rw [hb b 0 b0 (by decide)]; exact c1
    · rw [hb b 1 b0 (by decide)]; exact c2
    · rw [hb b 2 b0 (by decide)]; exact c3
    · rw [hb b 3 b0 (by decide)]; exact c4
    · rw [hb b 4 b0 (by decide)]; exact c5
    · rw [hb b 5 b0 (by decide)]; exact c6
    · rw [hb b 11 b0 (by decide)]; exact c7
    · rw [hb b 0 b0 (by decide), hb b 2 b0 (by decide), hb b 3 b0 (by decide), hb b 4 b0 (by decide), hb b 5 b0 (by decide), hq]; exact c8
    · rw [hb b 0 b0 (by decide), hb b 3 b0 (by decide), hb b 4 b0 (by decide), hb b 5 b0 (by decide)]; exact c9
    · rw [hb b 1 b0 (by decide), hb b 11 b0 (by decide)]
      intro z
      rw [hb _ 0 z (by decide), hb _ 11 z (by decide)]
      exact c10 z
    · rw [hb b 1 b0 (by decide), hb b 11 b0 (by decide)]; exact c11
    · rw [hb b 5 b0 (by decide)]
      intro k k0 k1
      rw [hb b (6 + k) b0 (by omega)]
      exact c12 k k0 k1
theorem gcm_lo {g : Int → Int} {a b c e i : Int} (hn : 0 ≤ g 1) (hi : i ≤ 3) (h1 : i ≠ 1) : gcm g a b c e i = g i := by
  unfold gcm upz
  rw [if_neg (by omega), if_neg (by omega), if_neg (by omega), if_neg (by omega), if_neg (by omega)]
theorem gcm_old {g : Int → Int} {a b c e k x : Int} (hk : 0 ≤ k) (hk1 : k < g 1) (hx : 0 ≤ x ∧ x ≤ 3) : gcm g a b c e (4 + 4 * k + x) = g (4 + 4 * k + x) := by
  unfold gcm upz
  rw [if_neg (by omega), if_neg (by omega), if_neg (by omega), if_neg (by omega), if_neg (by omega)]
theorem gcm_new {g : Int → Int} {a b c e : Int} (hn : 0 ≤ g 1) : gcm g a b c e (4 + 4 * g 1 + 0) = a ∧ gcm g a b c e (4 + 4 * g 1 + 1) = b ∧ gcm g a b c e (4 + 4 * g 1 + 2) = c ∧ gcm g a b c e (4 + 4 * g 1 + 3) = e := by
  unfold gcm upz
  refine ⟨?_, ?_, ?_, ?_⟩
  · rw [if_neg (by omega), if_neg (by omega), if_neg (by omega), if_pos rfl]
  · rw [if_neg (by omega), if_neg (by omega), if_pos rfl]
  · rw [if_neg (by omega), if_pos rfl]
  · rw [if_pos rfl]
def CW (g : Int → Int) : Prop := WF g ∧ WG g
theorem CW.cm {g : Int → Int} {a b c e : Int} (h : CW g) (hn : g 1 ≤ 5) (ha : QLow a ∨ QCap a) (hb : 0 ≤ b ∧ b ≤ 24) (hb2 : QCap a → b ≤ 12) (hc : 0 ≤ c ∧ c ≤ 20) (he : 0 ≤ e ∧ e ≤ g 0) : CW (gcm g a b c e) := by
  obtain ⟨hW, hG⟩ := h
  obtain ⟨⟨y0, y1⟩, ⟨n0, n1⟩, ⟨q0, q1⟩, ⟨m0, m1⟩⟩ := hW.n
  have hnew := gcm_new (a := a) (b := b) (c := c) (e := e) n0
  have g0 : gcm g a b c e 0 = g 0 := gcm_lo n0 (by decide) (by decide)
  constructor
  · refine hW.mod (fun i hi => gcm_hi hn hi) (gcm_lo n0 (by decide) (by decide)) (gcm_lo n0 (by decide) (by decide)) (by rw [g0]; omega) (by rw [gcm_n n0]; omega) (fun k k0 k1 => ?_)
    rw [gcm_n n0] at k1
    rcases (show k < g 1 ∨ k = g 1 by omega) with q | q
    · have := hW.c k0 q
      unfold WFc at this ⊢
      rw [gcm_old k0 q (by omega), gcm_old k0 q (by omega), gcm_old k0 q (by omega), gcm_old k0 q (by omega)]
      exact this
    · subst q
      unfold WFc
      rw [hnew.1, hnew.2.1, hnew.2.2.1, hnew.2.2.2]
      exact ⟨ha, by omega, by omega, by omega, by omega, by omega, by omega⟩
  · intro k k0 k1
    rw [gcm_n n0] at k1
    rw [g0]
    rcases (show k < g 1 ∨ k = g 1 by omega) with q | q
    · rw [gcm_old k0 q (by omega), gcm_old k0 q (by omega), gcm_old k0 q (by omega)]
      exact hG k k0 q
    · subst q
      rw [hnew.1, hnew.2.1, hnew.2.2.2]
      exact ⟨hb2, he.2⟩
theorem CW.go {g : Int → Int} {c : Int} (h : CW g) (hc : 0 ≤ c) (hc1 : c < g 1) : CW (ggo g c) := by
  obtain ⟨hW, hG⟩ := h
  obtain ⟨⟨y0, y1⟩, ⟨n0, n1⟩, ⟨q0, q1⟩, ⟨m0, m1⟩⟩ := hW.n
  have g0 : ggo g c 0 = g 0 := ggo_lo hc (by decide) (by decide)
  constructor
  · refine hW.mod (fun i hi => ggo_hi n1 hi) (ggo_lo hc (by decide) (by decide)) (ggo_lo hc (by decide) (by decide)) (by rw [g0]; omega) (by rw [ggo_n hc]; omega) (fun k k0 k1 => ?_)
    rw [ggo_n hc] at k1
    unfold WFc
    rw [ggo_c k0 (by omega) k1, ggo_c k0 (by omega) k1, ggo_c k0 (by omega) k1, ggo_c k0 (by omega) k1]
    exact hW.c (by split <;> omega) (by split <;> omega)
  · intro k k0 k1
    rw [ggo_n hc] at k1
    rw [g0, ggo_c k0 (by omega) k1, ggo_c k0 (by omega) k1, ggo_c k0 (by omega) k1]
    exact hG _ (by split <;> omega) (by split <;> omega)
theorem WF.FC {g : Int → Int} (h : WF g) (hr : ∀ i, rng (g i)) : FC g := ⟨hr, h.n.2.1, fun c c0 c1 => by
  have := h.c c0 c1
  unfold WFc at this
  omega⟩
theorem CW.fin {g : Int → Int} {e P gr y r : Int} {g' : Int → Int} (h : CW g) (e0 : 0 ≤ e) (e1 : e < g 2) (hP : 0 ≤ P ∧ P ≤ 24) (hgr : 0 ≤ gr ∧ gr ≤ 20) (hy : 0 ≤ y ∧ y ≤ g 0) (nn : g 1 ≤ 5) (nn2 : g (28 + 4 * e + 3) ≠ 32 → g 1 ≤ 4) (hf : QFin g e P gr y r g') : CW g' := by
  have hn := h.1.n
  have he := h.1.e e0 e1
  unfold WFe at he
  have ncap : ∀ x, QLow x → ¬ QCap x := fun x a b => by unfold QLow at a; unfold QCap at b; omega
  rcases hf with ⟨a1, -, rfl⟩ | ⟨a1, -, rfl⟩
  · exact h.cm nn (Or.inl he.2.2.2.1) hP (fun q => absurd q (ncap _ he.2.2.2.1)) hgr hy
  · have h4 := nn2 a1
    have h2 := h.cm (a := g (28 + 4 * e + 2)) (b := P / 2 + P % 2) (c := gr) (e := y) (by omega) (Or.inl he.2.2.2.1) (by omega) (fun q => absurd q (ncap _ he.2.2.2.1)) hgr hy
    have hl : QLow (g (28 + 4 * e + 3)) := by rcases he.2.2.2.2.1 with q | q; exact absurd q a1; exact q
    exact h2.cm (by rw [gcm_n (by omega)]; omega) (Or.inl hl) (by omega) (fun q => absurd q (ncap _ hl)) hgr (by rw [gcm_lo (by omega) (by decide) (by decide)]; exact hy)
theorem QRc.facts {g : Int → Int} {code c : Int} (h : QRc g code (g 1) c) (c0 : 0 ≤ c) (hC : CW g) (hq : QCap code) : c < g 1 ∧ (0 ≤ g (4 + 4 * c + 1) ∧ g (4 + 4 * c + 1) ≤ 12) ∧ (0 ≤ g (4 + 4 * c + 2) ∧ g (4 + 4 * c + 2) ≤ 20) ∧ (0 ≤ g (4 + 4 * c + 3) ∧ g (4 + 4 * c + 3) ≤ g 0) := by
  rcases h with ⟨h, -⟩ | ⟨-, h2, h3, -⟩
  · omega
  · have h4 := hC.1.c c0 h2
    have h5 := hC.2 c c0 h2
    unfold WFc at h4
    rw [h3.1] at h5
    have h6 := h5.1 hq
    omega
theorem mn_le {a b : Int} : mn a b ≤ a ∧ mn a b ≤ b := by
  unfold mn
  split <;> omega
theorem mn_nn {a b : Int} (h : 0 ≤ a) (h2 : 0 ≤ b) : 0 ≤ mn a b := by
  unfold mn
  split <;> omega
/-- an equivalence applied leaves a desk -/
theorem CW.ap {g : Int → Int} {e r : Int} {g' : Int → Int} (h : CW g) (e0 : 0 ≤ e) (e1 : e < g 2) (hag : QAga g e 0) (hf : QAp g e r g') : CW g' := by
  obtain ⟨⟨y0, y1⟩, ⟨n0, n1⟩, ⟨q0, q1⟩, ⟨m0, m1⟩⟩ := h.1.n
  have he := h.1.e e0 e1
  unfold WFe at he
  obtain ⟨-, a3⟩ : QAg g e ∧ QAgn g e ≤ 6 := by
    rcases hag with ⟨-, z⟩ | ⟨-, -, z⟩ | ⟨z1, z2, -⟩
    · omega
    · omega
    · exact ⟨z1, z2⟩
  obtain ⟨c, hc, c0, hf⟩ := hf
  obtain ⟨c1, fp, fg, fy⟩ := hc.facts c0 h he.1
  have h1 := h.go c0 c1
  have n1' := ggo_n (g := g) c0
  have m20 := mn_le (a := g (4 + 4 * c + 2)) (b := 20)
  have m60 := mn_le (a := g (4 + 4 * c + 3)) (b := 60)
  have p20 := mn_nn (a := g (4 + 4 * c + 2)) (b := 20) fg.1 (by decide)
  have p60 := mn_nn (a := g (4 + 4 * c + 3)) (b := 60) fy.1 (by decide)
  have k0 : ggo g c 0 = g 0 := ggo_lo c0 (by decide) (by decide)
  have k2 : ggo g c 2 = g 2 := ggo_lo c0 (by decide) (by decide)
  unfold QAgn at a3
  rcases hf with ⟨b1, hf⟩ | ⟨b1, d, hd, d0, hf⟩
  · rw [ggo_hi n1 (by omega)] at b1
    rw [if_pos b1] at a3
    refine h1.fin e0 (by rw [k2]; exact e1) (by omega) ⟨p20, m20.2⟩ (by rw [k0]; omega) (by omega) ?_ hf
    rw [ggo_hi n1 (by omega)]
    intro z
    rw [if_neg z] at a3
    omega
  · rw [ggo_hi n1 (by omega)] at b1 hd
    rw [if_neg b1] at a3
    have hcap : QCap (g (28 + 4 * e + 1)) := by rcases he.2.1 with q | q; exact absurd q b1; exact q
    obtain ⟨d1, fp2, fg2, fy2⟩ := hd.facts d0 h1 hcap
    have h2 := h1.go d0 d1
    have n2' := ggo_n (g := ggo g c) d0
    have m20' := mn_le (a := ggo g c (4 + 4 * d + 2)) (b := mn (g (4 + 4 * c + 2)) 20)
    have m60' := mn_le (a := ggo g c (4 + 4 * d + 3)) (b := mn (g (4 + 4 * c + 3)) 60)
    have p20' := mn_nn (a := ggo g c (4 + 4 * d + 2)) (b := mn (g (4 + 4 * c + 2)) 20) fg2.1 p20
    have p60' := mn_nn (a := ggo g c (4 + 4 * d + 3)) (b := mn (g (4 + 4 * c + 3)) 60) fy2.1 p60
    have k0' : ggo (ggo g c) d 0 = ggo g c 0 := ggo_lo d0 (by decide) (by decide)
    have k2' : ggo (ggo g c) d 2 = ggo g c 2 := ggo_lo d0 (by decide) (by decide)
    refine h2.fin e0 (by rw [k2', k2]; exact e1) (by omega) (by omega) (by rw [k0', k0]; omega) (by omega) ?_ hf
    rw [ggo_hi (by omega) (by omega), ggo_hi n1 (by omega)]
    intro z
    rw [if_neg z] at a3
    omega
