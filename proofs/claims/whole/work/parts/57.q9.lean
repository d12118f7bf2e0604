/-! ===== the desk after an equivalence ===== -/
theorem mn_min {a b : Int} : mn a b = min a b := by
  unfold mn
  split <;> omega
/-- while the credits go, from the last to the first: the later one at hi, the earlier at lo (-1: there is none) -/
def AfI (g : Int → Int) (hi lo i : Int) (gq : Int → Int) (P G Y : Int) : Prop :=
  (hi ≤ i ∧ gq = g ∧ P = 0 ∧ G = 20 ∧ Y = g 0) ∨
  (lo ≤ i ∧ i < hi ∧ gq = ggo g hi ∧ P = g (4 + 4 * hi + 1) ∧ G = min 20 (g (4 + 4 * hi + 2)) ∧ Y = min (g 0) (g (4 + 4 * hi + 3))) ∨
  (i < lo ∧ 0 ≤ lo ∧ gq = ggo (ggo g hi) lo ∧ P = g (4 + 4 * hi + 1) + g (4 + 4 * lo + 1) ∧ G = min (min 20 (g (4 + 4 * hi + 2))) (g (4 + 4 * lo + 2)) ∧ Y = min (min (g 0) (g (4 + 4 * hi + 3))) (g (4 + 4 * lo + 3)))
theorem AfI.skip {g : Int → Int} {hi lo i : Int} {gq : Int → Int} {P G Y : Int} (h : AfI g hi lo i gq P G Y) (h1 : i ≠ hi) (h2 : i ≠ lo) : AfI g hi lo (i - 1) gq P G Y := by
  rcases h with ⟨a, r⟩ | ⟨a, b, r⟩ | ⟨a, r⟩
  · exact Or.inl ⟨by omega, r⟩
  · exact Or.inr (Or.inl ⟨by omega, by omega, r⟩)
  · exact Or.inr (Or.inr ⟨by omega, r⟩)
theorem AfI.take {g : Int → Int} {hi lo i : Int} {gq : Int → Int} {P G Y : Int} (h : AfI g hi lo i gq P G Y) (hl : lo < hi) (i0 : 0 ≤ i) (h1 : i = hi ∨ i = lo) : AfI g hi lo (i - 1) (ggo gq i) (P + g (4 + 4 * i + 1)) (min G (g (4 + 4 * i + 2))) (min Y (g (4 + 4 * i + 3))) := by
  rcases h with ⟨a, rfl, rfl, rfl, rfl⟩ | ⟨a, b, rfl, rfl, rfl, rfl⟩ | ⟨a, b, r⟩
  · obtain rfl : i = hi := by omega
    exact Or.inr (Or.inl ⟨by omega, by omega, rfl, by omega, rfl, rfl⟩)
  · obtain rfl : i = lo := by omega
    exact Or.inr (Or.inr ⟨by omega, i0, rfl, rfl, rfl, rfl⟩)
  · omega
theorem AfI.n {g : Int → Int} {hi lo i : Int} {gq : Int → Int} {P G Y : Int} (h : AfI g hi lo i gq P G Y) (h0 : 0 ≤ hi) (h1 : hi < g 1) (hl : lo < hi) : gq 1 ≤ g 1 ∧ (i < gq 1 ∨ g 1 ≤ i) ∧ (i < hi → gq 1 ≤ g 1 - 1) := by
  rcases h with ⟨a, rfl, -⟩ | ⟨a, b, rfl, -⟩ | ⟨a, b, rfl, -⟩
  · omega
  · rw [ggo_n h0]
    omega
  · rw [ggo_n b, ggo_n h0]
    omega
theorem QRc.go {g : Int → Int} {code r1 n r : Int} (h : QRc g code n r) (n9 : n = g 1) (n6 : g 1 ≤ 6) (h0 : 0 ≤ r1) (h1 : r1 < n) (hc : g (4 + 4 * r1 + 0) ≠ code) (hr : 0 ≤ r) : QRc (ggo g r1) code (n - 1) (if r < r1 then r else r - 1) := by
  have e : ∀ k, 0 ≤ k → k < n - 1 → ∀ w, 0 ≤ w → w ≤ 3 → ggo g r1 (4 + 4 * k + w) = g (4 + 4 * (if k < r1 then k else k + 1) + w) := fun k k0 k1 w w0 w1 => ggo_c k0 ⟨w0, w1⟩ (by omega)
  rcases h with ⟨z, -⟩ | ⟨a, b, hm, hx⟩
  · omega
  · have hne : r ≠ r1 := fun z => hc (z ▸ hm.1)
    have er : (if (if r < r1 then r else r - 1) < r1 then (if r < r1 then r else r - 1) else (if r < r1 then r else r - 1) + 1) = r := by
      (repeat' split) <;> omega
    have r9 : 0 ≤ (if r < r1 then r else r - 1) ∧ (if r < r1 then r else r - 1) < n - 1 := by split <;> omega
    refine Or.inr ⟨r9.1, r9.2, ⟨?_, ?_⟩, fun c c0 c1 hmc => ?_⟩
    · rw [e _ r9.1 r9.2 0 (by decide) (by decide), er]; exact hm.1
    · rw [e _ r9.1 r9.2 2 (by decide) (by decide), er]; exact hm.2
    · have hm2 : QMt g code (if c < r1 then c else c + 1) := ⟨by rw [← e c c0 c1 0 (by decide) (by decide)]; exact hmc.1, by rw [← e c c0 c1 2 (by decide) (by decide)]; exact hmc.2⟩
      have hx2 := hx _ (show 0 ≤ (if c < r1 then c else c + 1) by split <;> omega) (by split <;> omega) hm2
      rw [e c c0 c1 1 (by decide) (by decide), e _ r9.1 r9.2 1 (by decide) (by decide), er]
      refine ⟨hx2.1, fun q => hx2.2 ?_⟩
      split at q <;> split <;> omega
theorem GE.gcm {a b : Int → Int} {x y z w : Int} (h : GE a b) (hn : 0 ≤ a 1 ∧ a 1 ≤ 5) : GE (gcm a x y z w) (gcm b x y z w) := by
  obtain ⟨⟨e0, e1, e2, e3⟩, h1, h2, h3⟩ := h
  refine ⟨⟨?_, ?_, ?_, ?_⟩, fun c c0 c1 v v0 v1 => ?_, fun c c0 c1 v v0 v1 => ?_, fun c c0 c1 v v0 v1 => ?_⟩
  · rw [gcm_lo hn.1 (by decide) (by decide), gcm_lo (by omega) (by decide) (by decide), e0]
  · rw [gcm_n hn.1, gcm_n (by omega), e1]
  · rw [gcm_lo hn.1 (by decide) (by decide), gcm_lo (by omega) (by decide) (by decide), e2]
  · rw [gcm_lo hn.1 (by decide) (by decide), gcm_lo (by omega) (by decide) (by decide), e3]
  · rw [gcm_n hn.1] at c1
    by_cases q : c < a 1
    · rw [gcm_old c0 q ⟨v0, v1⟩, gcm_old c0 (by omega) ⟨v0, v1⟩]
      exact h1 c c0 q v v0 v1
    · obtain rfl : c = a 1 := by omega
      have ga := gcm_new (g := a) (a := x) (b := y) (c := z) (e := w) hn.1
      have gb := gcm_new (g := b) (a := x) (b := y) (c := z) (e := w) (by omega)
      rw [← e1] at gb
      rcases (show v = 0 ∨ v = 1 ∨ v = 2 ∨ v = 3 by omega) with rfl | rfl | rfl | rfl
      · rw [ga.1, gb.1]
      · rw [ga.2.1, gb.2.1]
      · rw [ga.2.2.1, gb.2.2.1]
      · rw [ga.2.2.2, gb.2.2.2]
  · rw [gcm_lo hn.1 (by decide) (by decide)] at c1
    by_cases q : c < 8
    · rw [gcm_hi (by omega) (by omega), gcm_hi (by omega) (by omega)]
      exact h2 c c0 c1 v v0 v1
    · rw [gcm_hi (by omega) (by omega), gcm_hi (by omega) (by omega)]
      exact h2 c c0 c1 v v0 v1
  · rw [gcm_lo hn.1 (by decide) (by decide)] at c1
    rw [gcm_hi (by omega) (by omega), gcm_hi (by omega) (by omega)]
    exact h3 c c0 c1 v v0 v1
theorem ggo_swap {g : Int → Int} {hi lo : Int} (h0 : 0 ≤ lo) (hl : lo < hi) (hh : hi < g 1) (n6 : g 1 ≤ 6) : GE (ggo (ggo g hi) lo) (ggo (ggo g lo) (hi - 1)) := by
  have a1 := ggo_n (g := g) (c := hi) (by omega)
  have b1 := ggo_n (g := g) (c := lo) h0
  have c2 := ggo_n (g := ggo g hi) (c := lo) h0
  have d2 := ggo_n (g := ggo g lo) (c := hi - 1) (by omega)
  have L : ∀ i : Int, i ≤ 3 → i ≠ 1 → ggo (ggo g hi) lo i = ggo (ggo g lo) (hi - 1) i := fun i hi3 hi1 => by
    rw [ggo_lo h0 hi3 hi1, ggo_lo (by omega) hi3 hi1, ggo_lo (by omega) hi3 hi1, ggo_lo h0 hi3 hi1]
  have Hh : ∀ i : Int, 28 ≤ i → ggo (ggo g hi) lo i = ggo (ggo g lo) (hi - 1) i := fun i hi3 => by
    rw [ggo_hi (by omega) hi3, ggo_hi (by omega) hi3, ggo_hi (by omega) hi3, ggo_hi (by omega) hi3]
  refine ⟨⟨L 0 (by decide) (by decide), by omega, L 2 (by decide) (by decide), L 3 (by decide) (by decide)⟩, fun c c0 c1 v v0 v1 => ?_, fun c c0 c1 v v0 v1 => Hh _ (by omega), fun c c0 c1 v v0 v1 => Hh _ (by omega)⟩
  rw [ggo_c c0 ⟨v0, v1⟩ (by omega), ggo_c c0 ⟨v0, v1⟩ (by omega), ggo_c (by split <;> omega) ⟨v0, v1⟩ (by split <;> omega), ggo_c (by split <;> omega) ⟨v0, v1⟩ (by split <;> omega)]
  congr 3
  (repeat' split) <;> omega
/-- the class's way to the new desk comes to the model's -/
theorem after_ok {g : Int → Int} (hC : CW g) {e r1 r2 hi lo : Int} {gq : Int → Int} {P G Y : Int} (e0 : 0 ≤ e) (e1 : e < g 2) (hag : QAga g e 0) (h1 : QRc g (g (28 + 4 * e + 0)) (g 1) r1) (h2 : QRc g (g (28 + 4 * e + 1)) (g 1) r2) (hh : (0 ≤ r2 ∧ ((hi = r1 ∧ lo = r2) ∨ (hi = r2 ∧ lo = r1)) ∧ lo < hi) ∨ (r2 < 0 ∧ hi = r1 ∧ lo = -1)) (hI : AfI g hi lo (-1) gq P G Y) :
    ∃ r g', QAp g e r g' ∧ gq 1 = g 1 - (if g (28 + 4 * e + 1) = 32 then 1 else 2) ∧ ((g (28 + 4 * e + 3) = 32 ∧ GE (gcm gq (g (28 + 4 * e + 2)) (P - 0) G Y) g') ∨ (g (28 + 4 * e + 3) ≠ 32 ∧ GE (gcm (gcm gq (g (28 + 4 * e + 2)) (P - P / 2) G Y) (g (28 + 4 * e + 3)) (P / 2) G Y) g')) := by
  have hW := hC.1
  have n1 := hW.n.2.1
  have he := hW.e e0 e1
  have hd := he.d
  have k1 := h1.rg (by omega)
  have k2 := h2.rg (by omega)
  obtain ⟨hag1, hag2⟩ : QAg g e ∧ QAgn g e ≤ 6 := by
    rcases hag with ⟨_, z⟩ | ⟨_, _, z⟩ | ⟨a, b, _⟩
    · cases z
    · cases z
    · exact ⟨a, b⟩
  have r10 : 0 ≤ r1 := h1.pos hag1.1
  have m1 : QMt g (g (28 + 4 * e + 0)) r1 := by
    rcases h1 with ⟨z, -⟩ | ⟨-, -, m, -⟩
    · omega
    · exact m
  have y1 := hW.c r10 k1.2
  have z1 := (hC.2 r1 r10 k1.2).2
  unfold WFc at y1
  have ef : ∀ i : Int, 28 ≤ i → ggo g r1 i = g i := fun i hi => ggo_hi n1.2 hi
  unfold QAgn at hag2
  by_cases c : g (28 + 4 * e + 1) = 32
  · -- one letter
    have h2' := h2
    rw [c] at h2'
    have r2n := QRc32 hW (Int.le_refl _) h2'
    obtain ⟨-, rfl, rfl⟩ : r2 < 0 ∧ hi = r1 ∧ lo = -1 := by
      rcases hh with z | z
      · omega
      · exact z
    obtain ⟨-, -, rfl, rfl, rfl, rfl⟩ : -1 ≤ -1 ∧ -1 < hi ∧ gq = ggo g hi ∧ P = g (4 + 4 * hi + 1) ∧ G = min 20 (g (4 + 4 * hi + 2)) ∧ Y = min (g 0) (g (4 + 4 * hi + 3)) := by
      rcases hI with ⟨z, -⟩ | z | ⟨_, z, -⟩
      · omega
      · exact ⟨by omega, z.2⟩
      · omega
    have eG : min 20 (g (4 + 4 * hi + 2)) = mn (g (4 + 4 * hi + 2)) 20 := by rw [mn_min]; omega
    have eY : min (g 0) (g (4 + 4 * hi + 3)) = mn (g (4 + 4 * hi + 3)) 60 := by
      have := hW.n.1
      rw [mn_min]; omega
    rw [eG, eY, if_pos c]
    have gn := ggo_n (g := g) (c := hi) r10
    rw [if_pos c] at hag2
    have f2 := ef (28 + 4 * e + 2) (by omega)
    have f3 := ef (28 + 4 * e + 3) (by omega)
    have f1 := ef (28 + 4 * e + 1) (by omega)
    by_cases c3 : g (28 + 4 * e + 3) = 32
    · refine ⟨1, _, ⟨hi, h1, r10, Or.inl ⟨by rw [f1]; exact c, Or.inl ⟨by rw [f3]; exact c3, rfl, rfl⟩⟩⟩, gn, Or.inl ⟨c3, ?_⟩⟩
      rw [f2, show g (4 + 4 * hi + 1) - 0 = 0 + g (4 + 4 * hi + 1) by omega]
      exact GE.rf
    · refine ⟨2, _, ⟨hi, h1, r10, Or.inl ⟨by rw [f1]; exact c, Or.inr ⟨by rw [f3]; exact c3, rfl, rfl⟩⟩⟩, gn, Or.inr ⟨c3, ?_⟩⟩
      rw [f2, f3, show (0 + g (4 + 4 * hi + 1)) / 2 + (0 + g (4 + 4 * hi + 1)) % 2 = g (4 + 4 * hi + 1) - g (4 + 4 * hi + 1) / 2 by omega, show (0 + g (4 + 4 * hi + 1)) / 2 = g (4 + 4 * hi + 1) / 2 by omega]
      exact GE.rf
  · have r20 : 0 ≤ r2 := h2.pos (hag1.2 c)
    have m2 : QMt g (g (28 + 4 * e + 1)) r2 := by
      rcases h2 with ⟨z, -⟩ | ⟨-, -, m, -⟩
      · omega
      · exact m
    have hne : g (4 + 4 * r1 + 0) ≠ g (28 + 4 * e + 1) := fun z => hd.1 (m1.1.symm.trans z)
    have hgo := h2.go rfl n1.2 r10 k1.2 hne r20
    have hr9 : r2 ≠ r1 := fun z => hne (z ▸ m2.1)
    rw [if_neg c] at hag2 ⊢
    obtain ⟨hh1, hh2⟩ : ((hi = r1 ∧ lo = r2) ∨ (hi = r2 ∧ lo = r1)) ∧ lo < hi := by
      rcases hh with z | z
      · exact z.2
      · omega
    obtain ⟨-, -, rfl, rfl, rfl, rfl⟩ : -1 < lo ∧ 0 ≤ lo ∧ gq = ggo (ggo g hi) lo ∧ P = g (4 + 4 * hi + 1) + g (4 + 4 * lo + 1) ∧ G = min (min 20 (g (4 + 4 * hi + 2))) (g (4 + 4 * lo + 2)) ∧ Y = min (min (g 0) (g (4 + 4 * hi + 3))) (g (4 + 4 * lo + 3)) := by
      rcases hI with ⟨z, -⟩ | ⟨z, -⟩ | z
      · omega
      · omega
      · exact z
    have y2 := hW.c r20 k2.2
    have z2 := (hC.2 r2 r20 k2.2).2
    unfold WFc at y2
    generalize hs : (if r2 < r1 then r2 else r2 - 1) = s at hgo
    have s0 : 0 ≤ s ∧ s < g 1 - 1 := by subst hs; split <;> omega
    have es : (if s < r1 then s else s + 1) = r2 := by subst hs; (repeat' split) <;> omega
    have gn := ggo_n (g := g) (c := r1) r10
    have ev : ∀ w, 0 ≤ w → w ≤ 3 → ggo g r1 (4 + 4 * s + w) = g (4 + 4 * r2 + w) := fun w w0 w1 => by rw [ggo_c s0.1 ⟨w0, w1⟩ s0.2, es]
    have hGE : GE (ggo (ggo g hi) lo) (ggo (ggo g r1) s) := by
      rcases hh1 with ⟨rfl, rfl⟩ | ⟨rfl, rfl⟩
      · have : s = lo := by subst hs; rw [if_pos hh2]
        rw [this]
        exact GE.rf
      · have : s = hi - 1 := by subst hs; rw [if_neg (by omega)]
        rw [this]
        exact ggo_swap r10 hh2 k2.2 n1.2
    have f2 : ggo (ggo g r1) s (28 + 4 * e + 2) = g (28 + 4 * e + 2) := (ggo_hi (by omega) (by omega)).trans (ef _ (by omega))
    have f3 : ggo (ggo g r1) s (28 + 4 * e + 3) = g (28 + 4 * e + 3) := (ggo_hi (by omega) (by omega)).trans (ef _ (by omega))
    have f1 := ef (28 + 4 * e + 1) (by omega)
    have gn2 := ggo_n (g := ggo g hi) (c := lo) (by omega)
    have gnh := ggo_n (g := g) (c := hi) (by omega)
    have eP : g (4 + 4 * hi + 1) + g (4 + 4 * lo + 1) = 0 + g (4 + 4 * r1 + 1) + ggo g r1 (4 + 4 * s + 1) := by
      rw [ev 1 (by decide) (by decide)]
      rcases hh1 with ⟨rfl, rfl⟩ | ⟨rfl, rfl⟩ <;> omega
    have eG : min (min 20 (g (4 + 4 * hi + 2))) (g (4 + 4 * lo + 2)) = mn (ggo g r1 (4 + 4 * s + 2)) (mn (g (4 + 4 * r1 + 2)) 20) := by
      rw [ev 2 (by decide) (by decide), mn_min, mn_min]
      rcases hh1 with ⟨rfl, rfl⟩ | ⟨rfl, rfl⟩ <;> omega
    have eY : min (min (g 0) (g (4 + 4 * hi + 3))) (g (4 + 4 * lo + 3)) = mn (ggo g r1 (4 + 4 * s + 3)) (mn (g (4 + 4 * r1 + 3)) 60) := by
      have := hW.n.1
      rw [ev 3 (by decide) (by decide), mn_min, mn_min]
      rcases hh1 with ⟨rfl, rfl⟩ | ⟨rfl, rfl⟩ <;> omega
    rw [eP, eG, eY]
    have hQ1 : QRc (ggo g r1) (ggo g r1 (28 + 4 * e + 1)) (ggo g r1 1) s := by rw [f1, gn]; exact hgo
    by_cases c3 : g (28 + 4 * e + 3) = 32
    · rw [if_pos c3] at hag2
      refine ⟨1, _, ⟨r1, h1, r10, Or.inr ⟨by rw [f1]; exact c, s, hQ1, s0.1, Or.inl ⟨by rw [f3]; exact c3, rfl, rfl⟩⟩⟩, by omega, Or.inl ⟨c3, ?_⟩⟩
      rw [f2, Int.sub_zero]
      exact hGE.gcm (by omega)
    · rw [if_neg c3] at hag2
      refine ⟨2, _, ⟨r1, h1, r10, Or.inr ⟨by rw [f1]; exact c, s, hQ1, s0.1, Or.inr ⟨by rw [f3]; exact c3, rfl, rfl⟩⟩⟩, by omega, Or.inr ⟨c3, ?_⟩⟩
      rw [f2, f3]
      generalize 0 + g (4 + 4 * r1 + 1) + ggo g r1 (4 + 4 * s + 1) = PP
      rw [show PP / 2 + PP % 2 = PP - PP / 2 by omega]
      exact (hGE.gcm (by omega)).gcm (by rw [gcm_n (by omega)]; omega)
