/-! ===== what holds between the class and the model ===== -/
theorem WF.ge {g g' : Int → Int} (e : GE g g') (h : WF g) : WF g' := by
  have hy := e.y
  have hl : qleaves g' = qleaves g := by
    unfold qleaves
    rw [← e.1.2.2.2]
    exact sz_cong fun b b0 b1 => bP_cong (not_congr (ge_gr hy b0 b1).symm)
  have hp : ∀ b, qparts g' b = qparts g b := fun b => by
    unfold qparts
    rw [← e.1.2.2.2]
    exact sz_cong fun k k0 k1 => by rw [hy.b k0 k1 (w := 1) (by decide) (by decide)]
  obtain ⟨⟨e0, e1, e2, e3⟩, ec, ee, eb⟩ := e
  obtain ⟨w0, w1, w2, w3, w4, wc, we, wb⟩ := h
  refine ⟨by rw [← e0]; exact w0, by rw [← e1]; exact w1, by rw [← e2]; exact w2, by rw [← e3]; exact w3, by rw [hl]; exact w4, fun c c0 c1 => ?_, fun c c0 c1 => ?_, fun b b0 b1 => ?_⟩
  · rw [← e1] at c1
    have := wc c c0 c1
    unfold WFc at this ⊢
    rw [← ec c c0 c1 0 (by decide) (by decide), ← ec c c0 c1 1 (by decide) (by decide), ← ec c c0 c1 2 (by decide) (by decide), ← ec c c0 c1 3 (by decide) (by decide)]
    exact this
  · rw [← e2] at c1
    have := we c c0 c1
    unfold WFe at this ⊢
    rw [← ee c c0 c1 0 (by decide) (by decide), ← ee c c0 c1 1 (by decide) (by decide), ← ee c c0 c1 2 (by decide) (by decide), ← ee c c0 c1 3 (by decide) (by decide)]
    exact this
  · rw [← e3] at b1
    obtain ⟨a0, a1, a2, a3, a4, a5, a6, a7, a8, a9, a10, a11⟩ := wb b b0 b1
    have x := eb b b0 b1
    unfold WFb
    rw [← x 0 (by decide) (by decide), ← x 1 (by decide) (by decide), ← x 2 (by decide) (by decide), ← x 3 (by decide) (by decide), ← x 4 (by decide) (by decide), ← x 5 (by decide) (by decide), ← x 11 (by decide) (by decide), hp]
    refine ⟨a0, a1, a2, a3, a4, a5, a6, a7, a8, fun z => ?_, a10, fun k k0 k1 => ?_⟩
    · have y := eb _ z (by omega)
      rw [← y 0 (by decide) (by decide), ← y 11 (by decide) (by decide)]
      exact a9 z
    · rw [← x (6 + k) (by omega) (by omega)]
      exact a11 k k0 k1
theorem CW.ge {g g' : Int → Int} (e : GE g g') (h : CW g) : CW g' := by
  refine ⟨h.1.ge e, fun c c0 c1 => ?_⟩
  rw [← e.1.2.1] at c1
  have := h.2 c c0 c1
  rw [← e.2.1 c c0 c1 0 (by decide) (by decide), ← e.2.1 c c0 c1 1 (by decide) (by decide), ← e.2.1 c c0 c1 3 (by decide) (by decide), ← e.1.1]
  exact this
theorem DeskAt.ne {κ : KP} {H : AH} {g : Int → Int} {q : Nat} (hI : DeskAt κ H q g) : H q ≠ none := by
  obtain ⟨cr, eq, p, nc, ne, nb, hO, -⟩ := hI
  rw [hO]
  exact fun z => by cases z
/-- a desk that is kept: its ghost, and the model's row for it -/
def KG (κ : KP) (H : AH) (G : Nat → Int → Int) (v : Nat) (m : Int → Int) : Prop := DeskAt κ H v (G v) ∧ CW (G v) ∧ GE (G v) m
def GG (H : AH) (G G' : Nat → Int → Int) : Prop := ∀ a : Nat, H a ≠ none → GE (G a) (G' a)
theorem KG.mv {κ : KP} {H H' : AH} {G G' : Nat → Int → Int} {v : Nat} {m : Int → Int} (x : Fx H H') (hg : GG H G G') (h : KG κ H G v m) : KG κ H' G' v m := by
  have e := hg v h.1.ne
  exact ⟨(h.1.fx x).ge e, h.2.1.ge e, e.symm.trans h.2.2⟩
theorem KG.row {κ : KP} {H : AH} {G : Nat → Int → Int} {v : Nat} {m m' : Int → Int} (e : GE m m') (h : KG κ H G v m) : KG κ H G v m' := ⟨h.1, h.2.1, h.2.2.trans e⟩
/-- what holds: the desk, the uses, the model's numbers, the history, the snapshot, the fault and the reason, the text -/
def LInv (κ : KP) (H : AH) (S : CST) (M : MEM) (G : Nat → Int → Int) (q : Nat) : Prop :=
  (S 0 5 = (q : Int) ∧ DeskAt κ H q (G q) ∧ G q = M 0 ∧ CW (M 0)) ∧ (∀ u : Nat, u = 3 ∨ u = 4 → ∃ q0 : Nat, UK κ H (G q0) S u q0) ∧ (RG M ∧ QKn M) ∧ (S 2 1 = M 30 5 ∧ 0 ≤ M 30 5 ∧ M 30 5 ≤ 8) ∧
  (∀ p : Int, 0 ≤ p → p < M 30 5 → ∃ v : Nat, S 11 p = (v : Int) ∧ KG κ H G v (fun j => M 4 (156 * p + j))) ∧ ((S 0 6 = -1 ∧ M 30 3 = 0) ∨ (M 30 3 = 1 ∧ ∃ v : Nat, S 0 6 = (v : Int) ∧ KG κ H G v (M 1))) ∧ (S 0 7 = M 30 20 ∧ S 0 8 = M 30 6) ∧ (S 1 1 = M 30 17 ∧ S 6 = M 16 ∧ RdB S)
theorem LInv.cl {κ : KP} {H : AH} {S : CST} {M : MEM} {G : Nat → Int → Int} {q : Nat} (I : LInv κ H S M G q) : ClS κ H S G q := by
  obtain ⟨⟨a, b, c, d⟩, u, -⟩ := I
  exact ⟨a, b, by rw [c]; exact d.1, by rw [c]; exact d.2, u⟩
theorem LInv.hk {κ : KP} {H : AH} {S : CST} {M : MEM} {G : Nat → Int → Int} {q : Nat} (I : LInv κ H S M G q) : HK H S := by
  obtain ⟨-, -, -, h5, h6, -⟩ := I
  refine ⟨by omega, fun p p0 p1 => ?_⟩
  obtain ⟨v, hv, ⟨cr, eq, p, nc, ne, nb, hO, -⟩, -⟩ := h6 p p0 (by omega)
  exact ⟨v, _, hv, hO⟩
theorem UK.gg {κ : KP} {H : AH} {G G' : Nat → Int → Int} {S : CST} {u q0 : Nat} (hg : GG H G G') (h : UK κ H (G q0) S u q0) : UK κ H (G' q0) S u q0 := h.ge (hg q0 h.ne) (h.2.1.ge (hg q0 h.ne))
theorem LInv.fx {κ : KP} {H H' : AH} {S : CST} {M : MEM} {G : Nat → Int → Int} {q : Nat} (x : Fx H H') (I : LInv κ H S M G q) : LInv κ H' S M G q := by
  obtain ⟨⟨a, b, c, d⟩, u, m, h5, h6, h7, h8, h9⟩ := I
  have gg : GG H G G := fun _ _ => GE.rf
  refine ⟨⟨a, b.fx x, c, d⟩, fun k hk => ?_, m, h5, fun p p0 p1 => ?_, ?_, h8, h9⟩
  · obtain ⟨q0, h⟩ := u k hk
    exact ⟨q0, h.fx x rfl rfl⟩
  · obtain ⟨v, hv, k⟩ := h6 p p0 p1
    exact ⟨v, hv, k.mv x gg⟩
  · rcases h7 with h | ⟨h, v, hv, k⟩
    · exact Or.inl h
    · exact Or.inr ⟨h, v, hv, k.mv x gg⟩
/-- the model after a question -/
def MQs (M M' : MEM) : Prop := RG M' ∧ QKn M' ∧ SB [0, 2, 9, 10, 11, 12, 25] [7, 8, 13, 14, 15, 26] M M' ∧ GE (M 0) (M' 0)
theorem QFx.mq {M M' : MEM} {t : Int} (h : QFx M t M') : MQs M M' := ⟨h.1, h.2.2.2, h.2.1.mono (by decide) (by decide), by rw [h.e0]; exact GE.rf⟩
theorem QFy.mq {M M' : MEM} {t : Int} (h : QFy M t M') : MQs M M' := ⟨h.1, h.2.2.2, h.2.1.mono (by decide) (by decide), by rw [h.2.1.1 0 (by decide) (by decide)]; exact GE.rf⟩
theorem LInv.ask {κ : KP} {B : Nat → Nat} {S : CST} {M M' : MEM} {G : Nat → Int → Int} {q : Nat} {h h' : AH} (hB : BA B) (I : LInv κ (cset B S h) S M G q) (hP : RP κ B S h G q h') (hM : MQs M M') : ∃ S' G', h' = cset B S' h' ∧ LInv κ h' S' M' G' q := by
  obtain ⟨S', Γ, e, f, sk, gx, cl⟩ := hP
  obtain ⟨⟨a, b, c, d⟩, u, m, h5, h6, h7, h8, h9⟩ := I
  obtain ⟨m1, m2, m3, m4⟩ := hM
  have x := f.fx hB
  have hq := b.ne
  have hd := gx q hq
  refine ⟨S', fun a => if a = q then M' 0 else Γ a, e, ?_⟩
  have g1 : GG (cset B S h) G (fun a => if a = q then M' 0 else Γ a) := fun a ha => by
    show GE (G a) (if a = q then M' 0 else Γ a)
    by_cases z : a = q
    · rw [if_pos z, z, c]
      exact m4
    · rw [if_neg z, gx a ha]
      exact GE.rf
  have g2 : ∀ a, GE (Γ a) ((fun a => if a = q then M' 0 else Γ a) a) := fun a => by
    show GE (Γ a) (if a = q then M' 0 else Γ a)
    by_cases z : a = q
    · rw [if_pos z, z, hd, c]
      exact m4
    · rw [if_neg z]
      exact GE.rf
  have s0 : S' 0 = S 0 := sk 0 (by decide)
  have s1 : S' 1 = S 1 := sk 1 (by decide)
  have s2 : S' 2 = S 2 := sk 2 (by decide)
  have s6 : S' 6 = S 6 := sk 6 (by decide)
  have s7 : S' 7 = S 7 := sk 7 (by decide)
  have s11 : S' 11 = S 11 := sk 11 (by decide)
  have n5 : M' 30 5 = M 30 5 := m3.2 5 (by decide)
  refine ⟨⟨by rw [s0]; exact a, ?_, if_pos rfl, d.ge m4⟩, fun k hk => ?_, ⟨m1, m2⟩, by rw [s2, n5]; exact h5, fun p p0 p1 => ?_, ?_, by rw [s0, m3.2 20 (by decide), m3.2 6 (by decide)]; exact h8, ?_⟩
  · rw [show (fun a => if a = q then M' 0 else Γ a) q = M' 0 from if_pos rfl]
    rw [c] at b
    exact (b.fx x).ge m4
  · obtain ⟨q0, h⟩ := cl.2.2.2.2 k hk
    exact ⟨q0, h.gg (fun a _ => g2 a)⟩
  · rw [n5] at p1
    rw [s11, m3.1 4 (by decide) (by decide)]
    obtain ⟨v, hv, k⟩ := h6 p p0 p1
    exact ⟨v, hv, k.mv x g1⟩
  · rw [s0, m3.2 3 (by decide), m3.1 1 (by decide) (by decide)]
    rcases h7 with h | ⟨h, v, hv, k⟩
    · exact Or.inl h
    · exact Or.inr ⟨h, v, hv, k.mv x g1⟩
  · unfold RdB
    rw [s1, s6, s7, m3.2 17 (by decide), m3.1 16 (by decide) (by decide)]
    exact h9
/-- a change of the desk, on both sides -/
theorem LInv.chg {κ : KP} {B : Nat → Nat} {S : CST} {M M' : MEM} {G : Nat → Int → Int} {q : Nat} {h h' : AH} {g1 : Int → Int} (hB : BA B) (I : LInv κ (cset B S h) S M G q) (hP : CP κ B S h q g1 h') (hM : QNew M g1 M') (hC : CW g1) (hr : ∀ i, rng (g1 i)) : ∃ S' G' q', h' = cset B S' h' ∧ LInv κ h' S' M' G' q' := by
  obtain ⟨S1, q1, ⟨k1, k2, k3⟩, e, f, hD, hn⟩ := hP
  obtain ⟨M1, ⟨r1, b1, n8, p9, p0, p7, n5, row, hrow⟩, rfl⟩ := hM
  obtain ⟨⟨a, b, c, d⟩, u, m, h5, h6, h7, h8, h9⟩ := I
  have x := f.fx hB
  have hq1 : ∀ a, cset B S h a ≠ none → a ≠ q1 := fun a ha z => ha (by rw [z]; exact hn)
  have gg : GG (cset B S h) G (fun a => if a = q1 then g1 else G a) := fun a ha => by
    show GE (G a) (if a = q1 then g1 else G a)
    rw [if_neg (hq1 a ha)]
    exact GE.rf
  have u7 : ∀ k, k ≠ 30 → updm M 30 7 0 k = M k := fun k hk => updm_k hk
  have f7 : ∀ i : Int, i ≠ 7 → updm M 30 7 0 30 i = M 30 i := fun i hi => updm_ne (by omega)
  have sM : ∀ k, k ≠ 0 → setg M1 g1 k = M1 k := fun k hk => setg_k hk
  have m5 := f7 5 (by decide)
  have t0 : ∀ i : Int, i ≠ 5 → updm S1 0 5 (q1 : Int) 0 i = S 0 i := fun i hi => (updm_ne (by omega)).trans (by rw [k1 0 (by decide)])
  have tk : ∀ k : Nat, k ≠ 0 → updm S1 0 5 (q1 : Int) k = S1 k := fun k hk => updm_k hk
  refine ⟨updm S1 0 5 (q1 : Int), fun a => if a = q1 then g1 else G a, q1, e, ⟨updm_at, ?_, if_pos rfl, hC⟩, fun k hk => ?_, ⟨?_, Or.inl ?_⟩, ?_, fun p p0' p1 => ?_, ?_, ?_, ?_⟩
  · rw [show (fun a => if a = q1 then g1 else G a) q1 = g1 from if_pos rfl]
    exact hD
  · obtain ⟨q0, h⟩ := u k hk
    refine ⟨q0, (h.gg gg).fx x ?_ ?_⟩
    · rw [tk k (by rcases hk with rfl | rfl <;> decide), k1 k (by rcases hk with rfl | rfl <;> decide)]
    · rw [tk _ (by rcases hk with rfl | rfl <;> decide), k1 _ (by rcases hk with rfl | rfl <;> decide)]
  · intro k i
    by_cases z : k = 0
    · rw [z]
      exact hr i
    · rw [sM k z]
      exact r1 k i
  · rw [sM 30 (by decide)]
    exact n8
  · rw [sM 30 (by decide), tk 2 (by decide), n5]
    rw [m5] at hrow
    rcases k3 with ⟨z1, z2, -⟩ | ⟨z1, z2, -⟩ <;> rcases hrow with ⟨y1, y2, -⟩ | ⟨y1, y2, -⟩ <;> omega
  · rw [sM 30 (by decide), n5] at p1
    rw [sM 4 (by decide), tk 11 (by decide)]
    rw [m5] at hrow
    rw [u7 0 (by decide)] at row
    have hE : GE (G q) (fun j => M1 4 (156 * p9 + j)) := GE.of156 (by rw [c]; exact d.1) (fun i i0 i1 => by rw [c]; exact (row i i0 i1).symm)
    have hK : KG κ (cset B S h) G q (fun j => M1 4 (156 * p9 + j)) := ⟨b, by rw [c]; exact d, hE⟩
    rcases k3 with ⟨z1, z2, z3, z4⟩ | ⟨z1, z2, z3, z4⟩ <;> rcases hrow with ⟨y1, y2, y3⟩ | ⟨y1, y2, y3⟩
    · by_cases w : p = p9
      · refine ⟨q, ?_, ?_⟩
        · rw [w, y2, ← h5.1]
          exact z3
        · rw [w]
          exact hK.mv x gg
      · obtain ⟨v, hv, k⟩ := h6 p p0' (by omega)
        refine ⟨v, by rw [z4 p (by omega)]; exact hv, (k.row ?_).mv x gg⟩
        refine GE.of156 ((k.2.1.ge k.2.2).1) (fun j j0 j1 => ?_)
        have := y3 (156 * p + j) (by omega) (by omega)
        rw [u7 4 (by decide)] at this
        exact this.symm
    · omega
    · omega
    · by_cases w : p = p9
      · refine ⟨q, ?_, ?_⟩
        · rw [w, y2]
          exact z3
        · rw [w]
          exact hK.mv x gg
      · obtain ⟨v, hv, k⟩ := h6 (p + 1) (by omega) (by omega)
        refine ⟨v, by rw [z4 p p0' (by omega)]; exact hv, (k.row ?_).mv x gg⟩
        refine GE.of156 ((k.2.1.ge k.2.2).1) (fun j j0 j1 => ?_)
        have := y3 (156 * p + j) (by omega) (by omega)
        rw [u7 4 (by decide)] at this
        show M 4 (156 * (p + 1) + j) = M1 4 (156 * p + j)
        rw [this]
        congr 1
        omega
  · rw [t0 6 (by decide), sM 30 (by decide), sM 1 (by decide), b1.2 3 (by decide), f7 3 (by decide), b1.1 1 (by decide) (by decide), u7 1 (by decide)]
    rcases h7 with h | ⟨h, v, hv, k⟩
    · exact Or.inl h
    · exact Or.inr ⟨h, v, hv, k.mv x gg⟩
  · rw [t0 7 (by decide), t0 8 (by decide), sM 30 (by decide), b1.2 20 (by decide), b1.2 6 (by decide), f7 20 (by decide), f7 6 (by decide)]
    exact h8
  · unfold RdB
    rw [tk 1 (by decide), tk 6 (by decide), tk 7 (by decide), k1 1 (by decide), k1 6 (by decide), k1 7 (by decide), sM 30 (by decide), sM 16 (by decide), b1.2 17 (by decide), f7 17 (by decide), b1.1 16 (by decide) (by decide), u7 16 (by decide)]
    exact h9
/-- refused, or nothing changed but numbers that no call sees: the reason is another, or not -/
theorem LInv.ref {κ : KP} {B : Nat → Nat} {S : CST} {M : MEM} {G : Nat → Int → Int} {q : Nat} {h : AH} {t y : Int} (hB : BA B) (I : LInv κ (cset B S h) S M G q) (ht : rng t) (hy : rng y) : LInv κ (cset B (updm S 0 8 y) h) (updm S 0 8 y) (updm (updm (updm M 30 7 0) 30 6 y) 30 7 t) G q := by
  obtain ⟨⟨a, b, c, d⟩, u, m, h5, h6, h7, h8, h9⟩ := I.fx (cfxF (S' := updm S 0 8 y) hB)
  have t0 : ∀ i : Int, i ≠ 8 → updm S 0 8 y 0 i = S 0 i := fun i hi => updm_ne (by omega)
  have tk : ∀ k : Nat, k ≠ 0 → updm S 0 8 y k = S k := fun k hk => updm_k hk
  have mk : ∀ k : Nat, k ≠ 30 → updm (updm (updm M 30 7 0) 30 6 y) 30 7 t k = M k := fun k hk => by rw [updm_k hk, updm_k hk, updm_k hk]
  have mf : ∀ i : Int, i ≠ 7 → i ≠ 6 → updm (updm (updm M 30 7 0) 30 6 y) 30 7 t 30 i = M 30 i := fun i h1 h2 => by rw [updm_ne (by omega), updm_ne (by omega), updm_ne (by omega)]
  refine ⟨⟨by rw [t0 5 (by decide)]; exact a, b, by rw [mk 0 (by decide)]; exact c, by rw [mk 0 (by decide)]; exact d⟩, fun k hk => ?_, ⟨RG.up (RG.up (RG.up m.1 (by decide)) hy) ht, ?_⟩, by rw [tk 2 (by decide), mf 5 (by decide) (by decide)]; exact h5, ?_, ?_, ⟨?_, ?_⟩, ?_⟩
  · obtain ⟨q0, h⟩ := u k hk
    exact ⟨q0, h.fx (fun _ _ z => z) (tk k (by rcases hk with rfl | rfl <;> decide)) (tk _ (by rcases hk with rfl | rfl <;> decide))⟩
  · rcases m.2 with z | ⟨z1, z2, z3⟩
    · exact Or.inl (by rw [mf 8 (by decide) (by decide)]; exact z)
    · refine Or.inr ⟨by rw [mf 8 (by decide) (by decide)]; exact z1, by rw [mk 0 (by decide), mk 10 (by decide)]; exact z2, ?_⟩
      unfold QW at z3 ⊢
      rw [mk 0 (by decide), mk 10 (by decide), mk 11 (by decide), mk 12 (by decide), mf 13 (by decide) (by decide), mf 14 (by decide) (by decide), mf 15 (by decide) (by decide)]
      exact z3
  · rw [tk 11 (by decide), mf 5 (by decide) (by decide), mk 4 (by decide)]
    exact h6
  · rw [t0 6 (by decide), mf 3 (by decide) (by decide), mk 1 (by decide)]
    exact h7
  · rw [t0 7 (by decide), mf 20 (by decide) (by decide)]
    exact h8.1
  · rw [updm_at, updm_ne (by decide), updm_at]
  · unfold RdB
    rw [tk 1 (by decide), tk 6 (by decide), tk 7 (by decide), mf 17 (by decide) (by decide), mk 16 (by decide)]
    exact h9
theorem MQs.thr {M : MEM} {t : Int} (hR : RG M) (hK : QKn M) (ht : rng t) : MQs M (updm M 30 7 t) := (QFx.thr hR hK ht).mq
theorem LInv.thr {κ : KP} {B : Nat → Nat} {S : CST} {M : MEM} {G : Nat → Int → Int} {q : Nat} {h : AH} {t : Int} (hB : BA B) (I : LInv κ (cset B S h) S M G q) (ht : rng t) : ∃ S' G', cset B S h = cset B S' (cset B S h) ∧ LInv κ (cset B S h) S' (updm M 30 7 t) G' q := I.ask hB (RP.id I.cl) (MQs.thr I.2.2.1.1 I.2.2.1.2 ht)
/-! ===== the desks' ints ===== -/
theorem rg_gcm {g : Int → Int} {a b c e : Int} (h : ∀ i, rng (g i)) (hn : 0 ≤ g 1 ∧ g 1 ≤ 6) (ha : rng a) (hb : rng b) (hc : rng c) (he : rng e) : ∀ i, rng (gcm g a b c e i) := by
  intro i
  unfold gcm
  simp only [upz_app]
  split
  · exact he
  · split
    · exact hc
    · split
      · exact hb
      · split
        · exact ha
        · split
          · omega
          · exact h i
theorem rg_geq {g : Int → Int} {a b c e : Int} (h : ∀ i, rng (g i)) (hn : 0 ≤ g 2 ∧ g 2 ≤ 8) (ha : rng a) (hb : rng b) (hc : rng c) (he : rng e) : ∀ i, rng (geq g a b c e i) := by
  intro i
  unfold geq
  simp only [upz_app]
  split
  · exact he
  · split
    · exact hc
    · split
      · exact hb
      · split
        · exact ha
        · split
          · omega
          · exact h i
theorem rg_ggo {g : Int → Int} {c : Int} (h : ∀ i, rng (g i)) (hn : 0 ≤ g 1 ∧ g 1 ≤ 6) : ∀ i, rng (ggo g c i) := by
  intro i
  unfold ggo
  split
  · exact h _
  · split
    · omega
    · exact h i
theorem rg_fin {g : Int → Int} {e P gr y r : Int} {g' : Int → Int} (h : ∀ i, rng (g i)) (hn : 0 ≤ g 1 ∧ g 1 ≤ 5) (hP : 0 ≤ P ∧ P ≤ 100) (hg : rng gr) (hy : rng y) (hf : QFin g e P gr y r g') : ∀ i, rng (g' i) := by
  rcases hf with ⟨-, -, rfl⟩ | ⟨-, -, rfl⟩
  · exact rg_gcm h (by omega) (h _) (by omega) hg hy
  · exact rg_gcm (rg_gcm h (by omega) (h _) (by omega) hg hy) (by rw [gcm_n hn.1]; omega) (h _) (by omega) hg hy
theorem rg_ap {g : Int → Int} {e r : Int} {g' : Int → Int} (h : ∀ i, rng (g i)) (hC : CW g) (e0 : 0 ≤ e) (e1 : e < g 2) (hf : QAp g e r g') : ∀ i, rng (g' i) := by
  have n0 := hC.1.n
  have he := hC.1.e e0 e1
  unfold WFe at he
  obtain ⟨c, hc, c0, hf⟩ := hf
  obtain ⟨c1, fp, fg, fy⟩ := hc.facts c0 hC he.1
  have h1 := hC.go c0 c1
  have n1' := ggo_n (g := g) c0
  have m20 := mn_le (a := g (4 + 4 * c + 2)) (b := 20)
  have m60 := mn_le (a := g (4 + 4 * c + 3)) (b := 60)
  have p20 := mn_nn (a := g (4 + 4 * c + 2)) (b := 20) fg.1 (by decide)
  have p60 := mn_nn (a := g (4 + 4 * c + 3)) (b := 60) fy.1 (by decide)
  have r1 := rg_ggo (c := c) h n0.2.1
  rcases hf with ⟨b1, hf⟩ | ⟨b1, d, hd, d0, hf⟩
  · exact rg_fin r1 (by omega) (by omega) (by omega) (by omega) hf
  · rw [ggo_hi n0.2.1.2 (by omega)] at b1 hd
    have hcap : QCap (g (28 + 4 * e + 1)) := by rcases he.2.1 with q | q; exact absurd q b1; exact q
    obtain ⟨d1, fp2, fg2, fy2⟩ := hd.facts d0 h1 hcap
    have n2' := ggo_n (g := ggo g c) d0
    have m20' := mn_le (a := ggo g c (4 + 4 * d + 2)) (b := mn (g (4 + 4 * c + 2)) 20)
    have m60' := mn_le (a := ggo g c (4 + 4 * d + 3)) (b := mn (g (4 + 4 * c + 3)) 60)
    have p20' := mn_nn (a := ggo g c (4 + 4 * d + 2)) (b := mn (g (4 + 4 * c + 2)) 20) fg2.1 p20
    have p60' := mn_nn (a := ggo g c (4 + 4 * d + 3)) (b := mn (g (4 + 4 * c + 3)) 60) fy2.1 p60
    exact rg_fin (rg_ggo r1 (by omega)) (by omega) (by omega) (by omega) (by omega) hf
