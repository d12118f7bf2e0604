/-! ===== what the best use tells, in the model's words ===== -/
def UKU (κ : KP) (H : AH) (g : Int → Int) (S : CST) (u q : Nat) (U : Int → Int) : Prop := S u 0 = (q : Int) ∧ WF g ∧ ∃ cr eq p nc ne nb bl lv ms mr N lf fm fr, DkV κ H q g cr eq p nc ne nb ∧ PrV κ H p nb (rwg g) bl lv ms mr N lf fm fr ∧ UF g lf N nc S u ∧ U = ublk lf (S (4 * u + 3))
theorem UK.u {κ : KP} {H : AH} {g : Int → Int} {S : CST} {u q : Nat} (h : UK κ H g S u q) : ∃ U, UKU κ H g S u q U := by
  obtain ⟨a, b, cr, eq, p, nc, ne, nb, bl, lv, ms, mr, N, lf, fm, fr, c, d, e⟩ := h
  exact ⟨_, a, b, cr, eq, p, nc, ne, nb, bl, lv, ms, mr, N, lf, fm, fr, c, d, e, rfl⟩
theorem UKU.k {κ : KP} {H : AH} {g : Int → Int} {S : CST} {u q : Nat} {U : Int → Int} (h : UKU κ H g S u q U) : UK κ H g S u q := by
  obtain ⟨a, b, cr, eq, p, nc, ne, nb, bl, lv, ms, mr, N, lf, fm, fr, c, d, e, -⟩ := h
  exact ⟨a, b, cr, eq, p, nc, ne, nb, bl, lv, ms, mr, N, lf, fm, fr, c, d, e⟩
theorem UKU.fx {κ : KP} {H H' : AH} {g : Int → Int} {S S' : CST} {u q : Nat} {U : Int → Int} (x : Fx H H') (h0 : S' u = S u) (h1 : S' (4 * u + 3) = S (4 * u + 3)) (h : UKU κ H g S u q U) : UKU κ H' g S' u q U := by
  obtain ⟨a, b, cr, eq, p, nc, ne, nb, bl, lv, ms, mr, N, lf, fm, fr, c, d, e, e9⟩ := h
  refine ⟨by rw [h0]; exact a, b, cr, eq, p, nc, ne, nb, bl, lv, ms, mr, N, lf, fm, fr, c.fx x, d.fx x, ?_, by rw [h1]; exact e9⟩
  unfold UF at e ⊢
  rw [h0, h1]
  exact e
theorem UKU.best {κ : KP} {H : AH} {g : Int → Int} {S : CST} {u q : Nat} {U : Int → Int} (h : UKU κ H g S u q U) : QBest g U := by
  obtain ⟨a, b, cr, eq, p, nc, ne, nb, bl, lv, ms, mr, N, lf, fm, fr, c, d, e, rfl⟩ := h
  exact e.2.2.2.2.2
theorem use_sets {g : Int → Int} (hW : WF g) {n N : Nat} (hn : (n : Int) = g 3) {lf fm fr U : Int → Int} (hL : LFs (rwg g) n N lf) (hN : N ≤ 4) (hS : ∀ y : Int, 0 ≤ y → y < (2 ^ N : Nat) → PSet (rwg g) n N lf fm fr y) {x : Int} (hx : x = bs (uP g lf N U)) : (0 ≤ x ∧ x < (2 ^ N : Nat)) ∧ fm x = bs (bk (qmet g U) (g 3)) ∧ fr x = qroots g U := by
  subst hx
  have y0 := (bs_bd (f := uP g lf N U)).1
  have y1 : bs (uP g lf N U) < (2 ^ N : Nat) := bs_lt (f := uP g lf N U) hN (fun i hi => (bk_i.mp hi).2.1)
  obtain ⟨F, hF1, hF2, hF3, hF4⟩ := hS _ y0 y1 (uP g lf N U) rfl (fun i hi => ⟨(bk_i.mp hi).1, (bk_i.mp hi).2.1⟩)
  refine ⟨⟨y0, y1⟩, ?_, hF4.trans (use_roots hW hn hL hF3)⟩
  rw [hF1]
  congr 1
  funext b
  by_cases q : 0 ≤ b ∧ b < g 3
  · have := use_met hW hn hL hF3 q.1 q.2
    cases e : F b
    · exact (tb_f.mpr (fun z => by rw [e] at this; exact absurd (this.mpr z.2.2) (by decide))).symm
    · exact (tb_t.mpr ⟨q.1, q.2, this.mp e⟩).symm
  · cases e : F b
    · exact (tb_f.mpr (fun z => q ⟨z.1, z.2.1⟩)).symm
    · have := hF2 b e
      exact absurd ⟨this.1, by omega⟩ q
theorem pts_swap {g U : Int → Int} (hW : WF g) (hU : QV g U) {b : Int} (b0 : 0 ≤ b) : sz (fun c => if tb (QWt g (U c) b) = true then g (4 + 4 * c + 1) else 0) (g 1) = sz (qpts g U b) (g 3) := by
  have n1 := hW.n.2.1
  have e : ∀ k : Int, 0 ≤ k → k < g 3 → qpts g U b k = sz (fun c => if U c = k then (if tb (QWt g k b) = true then g (4 + 4 * c + 1) else 0) else 0) (g 1) := fun k k0 k1 => by
    unfold qpts qgets
    by_cases q : tb (QWt g k b) = true
    · rw [if_pos q]
      exact sz_cong fun c c0 c1 => by rw [if_pos q]
    · rw [if_neg q]
      exact (sz_none fun c c0 c1 => by rw [if_neg q]; simp).symm
  rw [sz_cong e, sz_swap n1.1]
  refine sz_cong fun c c0 c1 => ?_
  rcases hU c c0 c1 with q | ⟨q0, q1, -⟩
  · rw [if_neg (by rw [tb_t]; exact QWt.neg (by omega) b0)]
    exact (sz_none fun k k0 k1 => if_neg (by omega)).symm
  · rw [sz_one q0 q1 (fun j j0 j1 hj => if_neg (fun z => hj z.symm)), if_pos rfl]
theorem QWt_leaf {g : Int → Int} (hW : WF g) {b : Int} (hb : ¬ QGr g b) (b0 : 0 ≤ b) : ∀ (n : Nat) (k : Int), k < g 3 → upn g n k = b → k = b
  | 0, k, _, h => h
  | n + 1, k, hk, h => by
    by_cases q : k < 0
    · have := upn_neg (g := g) (n + 1) q
      omega
    · have hw := hW.b (b := k) (by omega) hk
      unfold WFb at hw
      have hp : prt g k = g (60 + 12 * k + 1) := by unfold prt; rw [if_neg q]
      have := QWt_leaf hW hb b0 n (prt g k) (by rw [hp]; omega) h
      rw [hp] at this
      have := (hw.2.2.2.2.2.2.2.2.2.1 (by omega)).1
      exact absurd (by unfold QGr; rw [← ‹g (60 + 12 * k + 1) = b›]; exact this) hb
theorem pts_leaf {g U : Int → Int} (hW : WF g) {b : Int} (hb : ¬ QGr g b) (b0 : 0 ≤ b) (b1 : b < g 3) : sz (qpts g U b) (g 3) = qgets g U b := by
  have e : ∀ j, 0 ≤ j → j < g 3 → j ≠ b → qpts g U b j = 0 := fun j j0 j1 hj => by
    unfold qpts
    exact if_neg (fun z => by
      rw [tb_t] at z
      obtain ⟨n, hn⟩ := z
      exact hj (QWt_leaf hW hb b0 n j j1 hn))
  rw [sz_one b0 b1 e]
  unfold qpts
  exact if_pos (tb_t.mpr QWt.rf)
section KUSE
variable {B : Nat → Nat} {S : CST} {u q : Nat} {g U : Int → Int}
theorem k_takerOf (κ : KP) (h : AH) (hB : BA B) (hu : u = 3 ∨ u = 4) (hK : UKU κ (cset B S h) g S u q U) {c : Int} (c0 : 0 ≤ c) (c1 : c < g 1) : PM κ mX0_takerOf 1 [.ref (B u), .int (J c)] (cset B S h) (.int (J (U c))) := by
  obtain ⟨s0, hW, cr, eq, p, nc, ne, nb, bl, lv, ms, mr, N, lf, fm, fr, hD, hV, ⟨s1, s2, ht, s8, s9, hQ⟩, rfl⟩ := hK
  have e1 := hD.2.2.2.2.1
  have e3 := hD.2.2.2.2.2.2
  obtain ⟨y, z, w⟩ := use_sets hW e3 hV.2.2.2.1 hV.2.2.2.2.1 hV.2.2.2.2.2.2.2 s8
  exact c_takerOf κ h hB hu hW hD hV s0 s1 s2 ht c0 (by omega)
theorem k_metSet (κ : KP) (h : AH) (hB : BA B) (hu : u = 3 ∨ u = 4) (hK : UKU κ (cset B S h) g S u q U)  : PM κ mX0_metSet 2 [.ref (B u)] (cset B S h) (.int (J (bs (bk (qmet g U) (g 3))))) := by
  obtain ⟨s0, hW, cr, eq, p, nc, ne, nb, bl, lv, ms, mr, N, lf, fm, fr, hD, hV, ⟨s1, s2, ht, s8, s9, hQ⟩, rfl⟩ := hK
  have e1 := hD.2.2.2.2.1
  have e3 := hD.2.2.2.2.2.2
  obtain ⟨y, z, w⟩ := use_sets hW e3 hV.2.2.2.1 hV.2.2.2.2.1 hV.2.2.2.2.2.2.2 s8
  rw [← z]
  exact c_metSet κ h hB hu hW hD hV s0 s1 s2 y
theorem k_meets (κ : KP) (h : AH) (hB : BA B) (hu : u = 3 ∨ u = 4) (hK : UKU κ (cset B S h) g S u q U) {b : Int} (b0 : 0 ≤ b) (b1 : b < g 3) : PM κ mX0_meets 3 [.ref (B u), .int (J b)] (cset B S h) (.int (J (bI (tb (qmet g U b))))) := by
  obtain ⟨s0, hW, cr, eq, p, nc, ne, nb, bl, lv, ms, mr, N, lf, fm, fr, hD, hV, ⟨s1, s2, ht, s8, s9, hQ⟩, rfl⟩ := hK
  have e1 := hD.2.2.2.2.1
  have e3 := hD.2.2.2.2.2.2
  obtain ⟨y, z, w⟩ := use_sets hW e3 hV.2.2.2.1 hV.2.2.2.2.1 hV.2.2.2.2.2.2.2 s8
  have := hW.n
  have e : tb (qmet g (ublk lf (S (4 * u + 3))) b) = bk (qmet g (ublk lf (S (4 * u + 3)))) (g 3) b := tb_congr ⟨fun q => ⟨b0, b1, q⟩, fun q => q.2.2⟩
  rw [e]
  exact c_meets κ h hB hu hW hD hV s0 s1 s2 y z b0 (by omega)
theorem k_rootsMet (κ : KP) (h : AH) (hB : BA B) (hu : u = 3 ∨ u = 4) (hK : UKU κ (cset B S h) g S u q U)  : PM κ mX0_rootsMet 2 [.ref (B u)] (cset B S h) (.int (J (qroots g U))) := by
  obtain ⟨s0, hW, cr, eq, p, nc, ne, nb, bl, lv, ms, mr, N, lf, fm, fr, hD, hV, ⟨s1, s2, ht, s8, s9, hQ⟩, rfl⟩ := hK
  have e1 := hD.2.2.2.2.1
  have e3 := hD.2.2.2.2.2.2
  obtain ⟨y, z, w⟩ := use_sets hW e3 hV.2.2.2.1 hV.2.2.2.2.1 hV.2.2.2.2.2.2.2 s8
  rw [← w]
  exact c_rootsMet κ h hB hu hW hD hV s0 s1 s2 y
theorem k_leavesMet (κ : KP) (h : AH) (hB : BA B) (hu : u = 3 ∨ u = 4) (hK : UKU κ (cset B S h) g S u q U)  : PM κ mX0_leavesMet 2 [.ref (B u)] (cset B S h) (.int (J (qleav g U))) := by
  obtain ⟨s0, hW, cr, eq, p, nc, ne, nb, bl, lv, ms, mr, N, lf, fm, fr, hD, hV, ⟨s1, s2, ht, s8, s9, hQ⟩, rfl⟩ := hK
  have e1 := hD.2.2.2.2.1
  have e3 := hD.2.2.2.2.2.2
  obtain ⟨y, z, w⟩ := use_sets hW e3 hV.2.2.2.1 hV.2.2.2.2.1 hV.2.2.2.2.2.2.2 s8
  rw [← use_leav hW e3 hV.2.2.2.1 hV.2.2.2.2.1]
  exact c_leavesMet κ h hB hu hW hD hV s0 s1 s2 s8
theorem k_ptGiven (κ : KP) (h : AH) (hB : BA B) (hu : u = 3 ∨ u = 4) (hK : UKU κ (cset B S h) g S u q U)  : PM κ mX0_pointsGiven 1 [.ref (B u)] (cset B S h) (.int (J (qgiv g U))) := by
  obtain ⟨s0, hW, cr, eq, p, nc, ne, nb, bl, lv, ms, mr, N, lf, fm, fr, hD, hV, ⟨s1, s2, ht, s8, s9, hQ⟩, rfl⟩ := hK
  have e1 := hD.2.2.2.2.1
  have e3 := hD.2.2.2.2.2.2
  obtain ⟨y, z, w⟩ := use_sets hW e3 hV.2.2.2.1 hV.2.2.2.2.1 hV.2.2.2.2.2.2.2 s8
  rw [← s9]
  exact c_ptGiven κ h hB hu hW hD hV s0 s1 s2
theorem k_crLeft (κ : KP) (h : AH) (hB : BA B) (hu : u = 3 ∨ u = 4) (hK : UKU κ (cset B S h) g S u q U)  : PM κ mX0_creditsLeft 2 [.ref (B u)] (cset B S h) (.int (J (qunu g U))) := by
  obtain ⟨s0, hW, cr, eq, p, nc, ne, nb, bl, lv, ms, mr, N, lf, fm, fr, hD, hV, ⟨s1, s2, ht, s8, s9, hQ⟩, rfl⟩ := hK
  have e1 := hD.2.2.2.2.1
  have e3 := hD.2.2.2.2.2.2
  obtain ⟨y, z, w⟩ := use_sets hW e3 hV.2.2.2.1 hV.2.2.2.2.1 hV.2.2.2.2.2.2.2 s8
  unfold qunu
  rw [← e1]
  exact c_crLeft κ h hB hu hW hD hV s0 s1 s2 ht
theorem k_wGrades (κ : KP) (h : AH) (hB : BA B) (hu : u = 3 ∨ u = 4) (hK : UKU κ (cset B S h) g S u q U)  : PM κ mX0_weightedGrades 2 [.ref (B u)] (cset B S h) (.int (J (sz (fun c => if U c < 0 then 0 else g (4 + 4 * c + 2) * g (4 + 4 * c + 1)) (g 1)))) := by
  obtain ⟨s0, hW, cr, eq, p, nc, ne, nb, bl, lv, ms, mr, N, lf, fm, fr, hD, hV, ⟨s1, s2, ht, s8, s9, hQ⟩, rfl⟩ := hK
  have e1 := hD.2.2.2.2.1
  have e3 := hD.2.2.2.2.2.2
  obtain ⟨y, z, w⟩ := use_sets hW e3 hV.2.2.2.1 hV.2.2.2.2.1 hV.2.2.2.2.2.2.2 s8
  rw [← e1]
  exact c_wGrades κ h hB hu hW hD hV s0 s1 s2 ht
theorem k_ptWithin (κ : KP) (h : AH) (hB : BA B) (hu : u = 3 ∨ u = 4) (hK : UKU κ (cset B S h) g S u q U) {b : Int} (b0 : 0 ≤ b) (b1 : b < g 3) : PM κ mX0_pointsWithin 2 [.ref (B u), .int (J b)] (cset B S h) (.int (J (sz (qpts g U b) (g 3)))) := by
  obtain ⟨s0, hW, cr, eq, p, nc, ne, nb, bl, lv, ms, mr, N, lf, fm, fr, hD, hV, ⟨s1, s2, ht, s8, s9, hQ⟩, rfl⟩ := hK
  have e1 := hD.2.2.2.2.1
  have e3 := hD.2.2.2.2.2.2
  obtain ⟨y, z, w⟩ := use_sets hW e3 hV.2.2.2.1 hV.2.2.2.2.1 hV.2.2.2.2.2.2.2 s8
  rw [← pts_swap hW hQ.2.1 b0, ← e1]
  exact c_ptWithin κ h hB hu hW hD hV s0 s1 s2 ht b0 (by omega)
end KUSE
