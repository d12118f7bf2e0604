/-! ===== undo, save, restore, the text ===== -/
theorem QKn.of {M M' : MEM} (h : QKn M) (e0 : M' 0 = M 0) (e10 : M' 10 = M 10) (e11 : M' 11 = M 11) (e12 : M' 12 = M 12) (f8 : M' 30 8 = M 30 8) (f13 : M' 30 13 = M 30 13) (f14 : M' 30 14 = M 30 14) (f15 : M' 30 15 = M 30 15) : QKn M' := by
  rcases h with z | ⟨z1, z2, z3⟩
  · exact Or.inl (f8.trans z)
  · refine Or.inr ⟨f8.trans z1, by rw [e0, e10]; exact z2, ?_⟩
    unfold QW at z3 ⊢
    rw [e0, e10, e11, e12, f13, f14, f15]
    exact z3
theorem LInv.t7 {κ : KP} {H : AH} {S : CST} {M : MEM} {G : Nat → Int → Int} {q : Nat} {t : Int} (ht : rng t) (I : LInv κ H S M G q) : LInv κ H S (updm M 30 7 t) G q := by
  obtain ⟨h1, u, m, h5, h6, h7, h8, h9⟩ := I
  have mk : ∀ k : Nat, k ≠ 30 → updm M 30 7 t k = M k := fun k hk => updm_k hk
  have mf : ∀ i : Int, i ≠ 7 → updm M 30 7 t 30 i = M 30 i := fun i hi => updm_ne (by omega)
  refine ⟨by rw [mk 0 (by decide)]; exact h1, u, ⟨RG.up m.1 ht, m.2.of (mk 0 (by decide)) (mk 10 (by decide)) (mk 11 (by decide)) (mk 12 (by decide)) (mf 8 (by decide)) (mf 13 (by decide)) (mf 14 (by decide)) (mf 15 (by decide))⟩, by rw [mf 5 (by decide)]; exact h5, ?_, ?_, ?_, ?_⟩
  · rw [mf 5 (by decide), mk 4 (by decide)]
    exact h6
  · rw [mf 3 (by decide), mk 1 (by decide)]
    exact h7
  · rw [mf 20 (by decide), mf 6 (by decide)]
    exact h8
  · rw [mf 17 (by decide), mk 16 (by decide)]
    exact h9
/-- the desk becomes one that is kept -/
theorem LInv.back {κ : KP} {H : AH} {S S' : CST} {M M' : MEM} {G : Nat → Int → Int} {q q1 : Nat} {row : Int → Int} {n : Int} (I : LInv κ H S M G q) (hK : KG κ H G q1 row) (k : SK [0, 2] S S') (s5 : S' 0 5 = (q1 : Int)) (s0 : ∀ i : Int, i ≠ 5 → S' 0 i = S 0 i) (s2 : S' 2 1 = n) (n0 : 0 ≤ n) (n1 : n ≤ M 30 5) (hR : RG M') (hb : SB [0] [5, 7, 8] M M') (m5 : M' 30 5 = n) (m8 : M' 30 8 = 0) (hr : ∀ i : Int, 0 ≤ i → i < 156 → M' 0 i = row i) : ∃ G', LInv κ H S' M' G' q1 := by
  obtain ⟨⟨a, b, c, d⟩, u, m, h5, h6, h7, h8, h9⟩ := I
  have hW : CW row := hK.2.1.ge hK.2.2
  have hE : GE row (M' 0) := GE.of156 hW.1 (fun i i0 i1 => (hr i i0 i1).symm)
  have gg : GG H G (fun a => if a = q1 then M' 0 else G a) := fun a ha => by
    show GE (G a) (if a = q1 then M' 0 else G a)
    by_cases z : a = q1
    · rw [if_pos z, z]
      exact hK.2.2.trans hE
    · rw [if_neg z]
      exact GE.rf
  have x : Fx H H := fun _ _ z => z
  refine ⟨fun a => if a = q1 then M' 0 else G a, ⟨s5, ?_, if_pos rfl, hW.ge hE⟩, fun w hw => ?_, ⟨hR, Or.inl m8⟩, ⟨by rw [s2, m5], by omega, by omega⟩, fun p p0 p1 => ?_, ?_, ?_, ?_⟩
  · rw [show (fun a => if a = q1 then M' 0 else G a) q1 = M' 0 from if_pos rfl]
    exact hK.1.ge (hK.2.2.trans hE)
  · obtain ⟨q0, h⟩ := u w hw
    exact ⟨q0, (h.gg gg).fx x (k w (by rcases hw with rfl | rfl <;> decide)) (k _ (by rcases hw with rfl | rfl <;> decide))⟩
  · rw [k 11 (by decide), hb.1 4 (by decide) (by decide)]
    obtain ⟨v, hv, z⟩ := h6 p p0 (by omega)
    exact ⟨v, hv, z.mv x gg⟩
  · rw [s0 6 (by decide), hb.2 3 (by decide), hb.1 1 (by decide) (by decide)]
    rcases h7 with h | ⟨h, v, hv, z⟩
    · exact Or.inl h
    · exact Or.inr ⟨h, v, hv, z.mv x gg⟩
  · rw [s0 7 (by decide), s0 8 (by decide), hb.2 20 (by decide), hb.2 6 (by decide)]
    exact h8
  · unfold RdB
    rw [k 1 (by decide), k 6 (by decide), k 7 (by decide), hb.2 17 (by decide), hb.1 16 (by decide) (by decide)]
    exact h9
theorem LInv.undo {κ : KP} {B : Nat → Nat} {S : CST} {M M' : MEM} {G : Nat → Int → Int} {q q1 : Nat} {h : AH} {r' : Int} (hB : BA B) (I : LInv κ (cset B S h) S M G q) (hp : 0 < S 2 1) (hq : S 11 (S 2 1 - 1) = (q1 : Int)) (hM : QUndo M r' M') : M' 30 7 = 0 ∧ r' = S 2 1 - 1 ∧ ∃ G', LInv κ (cset B (updm (updm S 2 1 (S 2 1 - 1)) 0 5 (q1 : Int)) h) (updm (updm S 2 1 (S 2 1 - 1)) 0 5 (q1 : Int)) M' G' q1 := by
  have h5 := I.2.2.2.1
  rcases hM with ⟨z, -⟩ | ⟨z, hr, m1, m2, m3, m4, m5, m6⟩
  · omega
  · obtain ⟨v, hv, hK⟩ := I.2.2.2.2.1 (M 30 5 - 1) (by omega) (by omega)
    obtain rfl : v = q1 := by
      rw [h5.1, hv] at hq
      exact Int.ofNat_inj.mp hq
    refine ⟨m3, by omega, ?_⟩
    refine LInv.back (n := S 2 1 - 1) (I.fx (cfxF hB)) (hK.mv (cfxF hB) (fun _ _ => GE.rf)) ((SK.rf.up (by decide)).up (by decide)) updm_at (fun i hi => (updm_ne (by omega)).trans (by rw [updm_k (by decide)])) ?_ (by omega) (by omega) m1 m2 (by omega) m5 m6
    rw [updm_k (by decide)]
    exact updm_at
theorem LInv.rest {κ : KP} {B : Nat → Nat} {S : CST} {M M' : MEM} {G : Nat → Int → Int} {q q1 : Nat} {h : AH} (hB : BA B) (I : LInv κ (cset B S h) S M G q) (hq : S 0 6 = (q1 : Int)) (hM : QRest M M') : M' 30 7 = 0 ∧ ∃ G', LInv κ (cset B (updm (updm S 0 5 (q1 : Int)) 2 1 0) h) (updm (updm S 0 5 (q1 : Int)) 2 1 0) M' G' q1 := by
  have h5 := I.2.2.2.1
  have h7 := I.2.2.2.2.2.1
  rcases h7 with ⟨z, -⟩ | ⟨z, v, hv, hK⟩
  · omega
  · obtain rfl : v = q1 := by
      rw [hv] at hq
      exact Int.ofNat_inj.mp hq
    rcases hM with ⟨z, -⟩ | ⟨-, m1, m2, m3, m4, m5, m6⟩
    · omega
    · refine ⟨m3, LInv.back (n := 0) (I.fx (cfxF hB)) (hK.mv (cfxF hB) (fun _ _ => GE.rf)) ((SK.rf.up (by decide)).up (by decide)) ?_ (fun i hi => ?_) updm_at (by omega) (by omega) m1 m2 m4 m5 m6⟩
      · rw [updm_k (by decide)]
        exact updm_at
      · rw [updm_k (by decide)]
        exact updm_ne (by omega)
theorem LInv.save {κ : KP} {B : Nat → Nat} {S : CST} {M M' : MEM} {G : Nat → Int → Int} {q : Nat} {h : AH} (hB : BA B) (I : LInv κ (cset B S h) S M G q) (hM : QSave M M') : LInv κ (cset B (updm S 0 6 (q : Int)) h) (updm S 0 6 (q : Int)) M' G q := by
  obtain ⟨⟨a, b, c, d⟩, u, m, h5, h6, h7, h8, h9⟩ := I.fx (cfxF (S' := updm S 0 6 (q : Int)) hB)
  obtain ⟨m1, m2, m3, m4, m5⟩ := hM
  have t0 : ∀ i : Int, i ≠ 6 → updm S 0 6 (q : Int) 0 i = S 0 i := fun i hi => updm_ne (by omega)
  have tk : ∀ k : Nat, k ≠ 0 → updm S 0 6 (q : Int) k = S k := fun k hk => updm_k hk
  have mk : ∀ k : Nat, k ≠ 1 → k ≠ 30 → M' k = M k := fun k h1 h2 => m2.1 k (by simpa using h1) h2
  have mf : ∀ i : Int, i ≠ 3 → i ≠ 7 → M' 30 i = M 30 i := fun i h1 h2 => m2.2 i (by simp [h1, h2])
  refine ⟨⟨by rw [t0 5 (by decide)]; exact a, b, by rw [mk 0 (by decide) (by decide)]; exact c, by rw [mk 0 (by decide) (by decide)]; exact d⟩, fun k hk => ?_, ⟨m1, m.2.of (mk 0 (by decide) (by decide)) (mk 10 (by decide) (by decide)) (mk 11 (by decide) (by decide)) (mk 12 (by decide) (by decide)) (mf 8 (by decide) (by decide)) (mf 13 (by decide) (by decide)) (mf 14 (by decide) (by decide)) (mf 15 (by decide) (by decide))⟩, by rw [tk 2 (by decide), mf 5 (by decide) (by decide)]; exact h5, ?_, Or.inr ⟨m4, q, updm_at, b, by rw [c]; exact d, ?_⟩, ?_, ?_⟩
  · obtain ⟨q0, h⟩ := u k hk
    exact ⟨q0, h.fx (fun _ _ z => z) (tk k (by rcases hk with rfl | rfl <;> decide)) (tk _ (by rcases hk with rfl | rfl <;> decide))⟩
  · rw [tk 11 (by decide), mf 5 (by decide) (by decide), mk 4 (by decide) (by decide)]
    exact h6
  · rw [c]
    exact GE.of156 d.1 (fun i i0 i1 => (m5 i i0 i1).symm)
  · rw [t0 7 (by decide), t0 8 (by decide), mf 20 (by decide) (by decide), mf 6 (by decide) (by decide)]
    exact h8
  · unfold RdB
    rw [tk 1 (by decide), tk 6 (by decide), tk 7 (by decide), mf 17 (by decide) (by decide), mk 16 (by decide) (by decide)]
    exact h9
theorem LInv.app {κ : KP} {B : Nat → Nat} {S : CST} {M : MEM} {G : Nat → Int → Int} {q : Nat} {h : AH} {c : Int} (hB : BA B) (I : LInv κ (cset B S h) S M G q) (c0 : 0 ≤ c) (c1 : c < 65536) (hn : S 1 1 ≠ 50) : LInv κ (cset B (updm (updm S 6 (S 1 1) c) 1 1 (S 1 1 + 1)) h) (updm (updm S 6 (S 1 1) c) 1 1 (S 1 1 + 1)) (updm (updm (updm M 30 7 0) 16 (M 30 17) c) 30 17 (M 30 17 + 1)) G q := by
  obtain ⟨⟨a, b, c9, d⟩, u, m, h5, h6, h7, h8, h9, h10, h11⟩ := I.fx (cfxF (S' := updm (updm S 6 (S 1 1) c) 1 1 (S 1 1 + 1)) hB)
  have tk : ∀ k : Nat, k ≠ 1 → k ≠ 6 → updm (updm S 6 (S 1 1) c) 1 1 (S 1 1 + 1) k = S k := fun k h1 h2 => (updm_k h1).trans (updm_k h2)
  have mk : ∀ k : Nat, k ≠ 16 → k ≠ 30 → updm (updm (updm M 30 7 0) 16 (M 30 17) c) 30 17 (M 30 17 + 1) k = M k := fun k h1 h2 => by rw [updm_k h2, updm_k h1, updm_k h2]
  have mf : ∀ i : Int, i ≠ 7 → i ≠ 17 → updm (updm (updm M 30 7 0) 16 (M 30 17) c) 30 17 (M 30 17 + 1) 30 i = M 30 i := fun i h1 h2 => by rw [updm_ne (by omega), updm_k (by decide), updm_ne (by omega)]
  have r0 := h11.1
  refine ⟨⟨by rw [tk 0 (by decide) (by decide)]; exact a, b, by rw [mk 0 (by decide) (by decide)]; exact c9, by rw [mk 0 (by decide) (by decide)]; exact d⟩, fun k hk => ?_, ⟨RG.up (RG.up (RG.up m.1 (by decide)) (by omega)) (by omega), m.2.of (mk 0 (by decide) (by decide)) (mk 10 (by decide) (by decide)) (mk 11 (by decide) (by decide)) (mk 12 (by decide) (by decide)) (mf 8 (by decide) (by decide)) (mf 13 (by decide) (by decide)) (mf 14 (by decide) (by decide)) (mf 15 (by decide) (by decide))⟩, by rw [tk 2 (by decide) (by decide), mf 5 (by decide) (by decide)]; exact h5, ?_, ?_, ?_, ?_, ?_, ?_, ?_, ?_⟩
  · obtain ⟨q0, h⟩ := u k hk
    exact ⟨q0, h.fx (fun _ _ z => z) (tk k (by rcases hk with rfl | rfl <;> decide) (by rcases hk with rfl | rfl <;> decide)) (tk _ (by rcases hk with rfl | rfl <;> decide) (by rcases hk with rfl | rfl <;> decide))⟩
  · rw [tk 11 (by decide) (by decide), mf 5 (by decide) (by decide), mk 4 (by decide) (by decide)]
    exact h6
  · rw [tk 0 (by decide) (by decide), mf 3 (by decide) (by decide), mk 1 (by decide) (by decide)]
    exact h7
  · rw [tk 0 (by decide) (by decide), mf 20 (by decide) (by decide), mf 6 (by decide) (by decide)]
    exact h8
  · rw [updm_at, updm_at, h9]
  · rw [updm_k (by decide), updm_k (k' := 16) (by decide), updm_up, updm_up, updm_k (k' := 16) (by decide), h10, h9]
  · rw [updm_at]
    omega
  · intro i i0 i1
    rw [updm_k (by decide), updm_up, upz_app]
    split
    · omega
    · exact h11.2.1 i i0 i1
  · rw [tk 7 (by decide) (by decide)]
    exact h11.2.2
/-- a text was read -/
theorem LInv.read {κ : KP} {H : AH} {S S1 : CST} {M M2 : MEM} {G : Nat → Int → Int} {q : Nat} {e : Int} (I : LInv κ H S M G q) (k : SK [1, 7, 8, 9, 10] S S1) (s11 : S1 1 1 = 0) (rB : RdB S1) (hR : RG M2) (hb : SB [21, 24] [7, 17, 18, 19, 20, 22, 23] M M2) (m17 : M2 30 17 = 0) (m20 : M2 30 20 = e) : LInv κ H (updm S1 0 7 e) M2 G q := by
  obtain ⟨⟨a, b, c9, d⟩, u, m, h5, h6, h7, h8, h9, h10, h11⟩ := I
  have t0 : ∀ i : Int, i ≠ 7 → updm S1 0 7 e 0 i = S 0 i := fun i hi => (updm_ne (by omega)).trans (by rw [k 0 (by decide)])
  have tk : ∀ j : Nat, j ≠ 0 → updm S1 0 7 e j = S1 j := fun j hj => updm_k hj
  refine ⟨⟨by rw [t0 5 (by decide)]; exact a, b, by rw [hb.1 0 (by decide) (by decide)]; exact c9, by rw [hb.1 0 (by decide) (by decide)]; exact d⟩, fun w hw => ?_, ⟨hR, m.2.of (hb.1 0 (by decide) (by decide)) (hb.1 10 (by decide) (by decide)) (hb.1 11 (by decide) (by decide)) (hb.1 12 (by decide) (by decide)) (hb.2 8 (by decide)) (hb.2 13 (by decide)) (hb.2 14 (by decide)) (hb.2 15 (by decide))⟩, by rw [tk 2 (by decide), k 2 (by decide), hb.2 5 (by decide)]; exact h5, ?_, ?_, ⟨by rw [updm_at, m20], by rw [t0 8 (by decide), hb.2 6 (by decide)]; exact h8.2⟩, ?_, ?_, ?_⟩
  · obtain ⟨q0, h⟩ := u w hw
    refine ⟨q0, h.fx (fun _ _ z => z) ?_ ?_⟩
    · rw [tk w (by rcases hw with rfl | rfl <;> decide), k w (by rcases hw with rfl | rfl <;> decide)]
    · rw [tk _ (by rcases hw with rfl | rfl <;> decide), k _ (by rcases hw with rfl | rfl <;> decide)]
  · rw [tk 11 (by decide), k 11 (by decide), hb.2 5 (by decide), hb.1 4 (by decide) (by decide)]
    exact h6
  · rw [t0 6 (by decide), hb.2 3 (by decide), hb.1 1 (by decide) (by decide)]
    exact h7
  · rw [tk 1 (by decide), s11, m17]
  · rw [tk 6 (by decide), k 6 (by decide), hb.1 16 (by decide) (by decide)]
    exact h10
  · unfold RdB at rB ⊢
    rw [tk 1 (by decide), tk 6 (by decide), tk 7 (by decide)]
    exact rB
theorem u67 {M : MEM} {y t : Int} : updm (updm (updm M 30 7 0) 30 6 y) 30 7 t = updm (updm M 30 6 y) 30 7 t := by
  funext k i
  unfold updm
  by_cases e : k = 30 ∧ i = 7
  · rw [if_pos e, if_pos e]
  · rw [if_neg e, if_neg e]
    by_cases e2 : k = 30 ∧ i = 6
    · rw [if_pos e2, if_neg e]
    · rw [if_neg e2, if_neg e]
theorem rg_gps {M M2 : MEM} (hR : RG M) (hR2 : RG M2) {k : Int} (hk : 0 ≤ k ∧ k ≤ 8) : ∀ i, rng (gps (M 0) (M2 21) k 96 i) := by
  intro i
  unfold gps
  split
  · omega
  · split
    · split
      · exact hR2 _ _
      · decide
    · exact hR _ _
/-- what the class's readProgram did: its answer t (thrown), r -/
def CRd (κ : KP) (B : Nat → Nat) (S : CST) (h : AH) (g : Int → Int) (q : Nat) (t r : Int) (h' : AH) : Prop := ∃ (F : Nat) (S1 : CST) (R : Sum Int (List (Int → Int))), PTop (S 6) (S 1 1) F 0 [] [] R ∧ Fr B (cset B S h) h' ∧ SK [1, 7, 8, 9, 10] S S1 ∧ S1 1 1 = 0 ∧ RdB S1 ∧
  ((t = 1 ∧ ∃ e, R = .inl e ∧ (0 ≤ e ∧ e ≤ 50) ∧ h' = cset B (updm S1 0 7 e) h') ∨ (∃ l no, R = .inr l ∧ QRR (lR l) l.length no ∧ ((t = 2 ∧ no ≠ 0 ∧ h' = cset B (updm (updm S1 0 7 (-1)) 0 8 no) h') ∨
    (t = 0 ∧ no = 0 ∧ r = l.length ∧ ∃ (S4 : CST) (q1 : Nat), HKp (updm S1 0 7 (-1)) S4 q ∧ h' = cset B (updm S4 0 5 (q1 : Int)) h' ∧ cset B S h q1 = none ∧ ∀ g', GPr g l g' → DeskAt κ h' q1 g'))))
theorem LInv.rd {κ : KP} {B : Nat → Nat} {S : CST} {M M' : MEM} {G : Nat → Int → Int} {q : Nat} {h h' : AH} {t r r' : Int} (hB : BA B) (I : LInv κ (cset B S h) S M G q) (hc : CRd κ B S h (G q) q t r h') (hM : QRd M r' M') : M' 30 7 = t ∧ (t = 0 → r = r') ∧ ∃ S' G' q', h' = cset B S' h' ∧ LInv κ h' S' M' G' q' := by
  obtain ⟨F, S1, R, hF, f, k, s11, rB, hc⟩ := hc
  obtain ⟨R2, M2, hF2, hR2, hb, m7, m17, hm⟩ := hM
  have i9 := I.2.2.2.2.2.2.2
  rw [i9.1, i9.2.1] at hF
  obtain rfl := hF.uniq hF2
  have x := f.fx hB
  have hcq := I.1.2.2.1
  rcases hc with ⟨rfl, e, rfl, he, e'⟩ | ⟨l, no, rfl, hno, hc⟩
  · rcases hm with ⟨e2, z1, z2, rfl⟩ | ⟨l, no, z, -⟩
    · cases z1
      refine ⟨updm_at, fun z => absurd z (by decide), _, G, q, e', ?_⟩
      exact ((I.fx x).read k s11 rB hR2 hb m17 z2).t7 (by decide)
    · cases z
  · rcases hm with ⟨e2, z1, -⟩ | ⟨l2, no2, z1, z2, z3, z4, z5, z6, hm⟩
    · cases z1
    · cases z1
      have hGl := hF.good0
      obtain rfl : no = no2 := hno.uniq ((QRf_rr hGl z5).mp z6)
      rcases hc with ⟨rfl, n0, e'⟩ | ⟨rfl, rfl, rfl, S4, q1, hk, e', hn, hD⟩
      · rcases hm with ⟨y1, rfl⟩ | ⟨y1, -⟩
        · refine ⟨updm_at, fun z => absurd z (by decide), _, G, q, e', ?_⟩
          have hn5 : rng no := by rcases hno with ⟨-, w⟩ | ⟨-, -, w⟩ | ⟨-, -, -, w⟩ | ⟨-, -, -, w⟩ <;> omega
          have I2 := ((I.fx (cfxF (S' := updm S1 0 7 (-1)) hB)).read k s11 rB hR2 hb m17 z2).ref (t := 2) (y := no) hB (by decide) hn5
          rw [u67] at I2
          refine I2.fx ?_
          exact (cfxF hB).trans x
        · exact absurd y1 n0
      · rcases hm with ⟨y1, -⟩ | ⟨-, y2, M4, y3, rfl⟩
        · omega
        · have h8 := hno.n8
          have I2 := (I.fx (cfxF (S' := updm S1 0 7 (-1)) hB)).read k s11 rB hR2 hb m17 z2
          have hg := gps_pr (g := M 0) (M := M2) z5 (by omega)
          have hW0 := I.1.2.2.2
          have hC1 : CW (gps (M 0) (M2 21) l.length 96) := ⟨hg.wf hW0.1 hGl hno, hg.wg hW0.1 hW0.2⟩
          have hq1 : ∀ k ∈ bids, B k ≠ q1 := new_off hB hn
          have hcp : CP κ B (updm S1 0 7 (-1)) h q (gps (M 0) (M2 21) l.length 96) h' := ⟨S4, q1, hk, e', Fr.cs.trans f, hD _ (by rw [hcq]; exact hg), by rw [cset_off hq1] at hn ⊢; exact hn⟩
          have hqn : QNew M2 (gps (M 0) (M2 21) l.length 96) (setg M4 (gps (M 0) (M2 21) l.length 96)) := ⟨M4, by rw [← m7, updm_self]; exact y3, rfl⟩
          obtain ⟨S', G', q', e9, I9⟩ := I2.chg hB hcp hqn hC1 (rg_gps I.2.2.1.1 hR2 (by omega))
          refine ⟨?_, fun _ => y2.symm, S', G', q', e9, I9⟩
          rw [setg_k (by decide)]
          have := y3.2.1.2 7 (by decide)
          rw [this]
          exact m7
