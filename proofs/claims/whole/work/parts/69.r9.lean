/-! ===== desks that show the same have the same best use ===== -/
theorem PrV.cong {κ : KP} {h : AH} {p n : Nat} {R R' : Int → Int → Int} {bl lv ms mr N : Nat} {lf fm fr : Int → Int} (e : ∀ b : Int, 0 ≤ b → b < n → ∀ i : Int, 0 ≤ i → i < 12 → R b i = R' b i) (H : PrV κ h p n R bl lv ms mr N lf fm fr) : PrV κ h p n R' bl lv ms mr N lf fm fr := by
  obtain ⟨h1, h2, h3, h4, h5, h6, h7, h8⟩ := H
  have ek : bk (fun b => R b 1 = -1) n = bk (fun b => R' b 1 = -1) n := by
    funext i
    exact tb_congr ⟨fun q => ⟨q.1, q.2.1, by show R' i 1 = -1; rw [← e i q.1 q.2.1 1 (by decide) (by decide)]; exact q.2.2⟩, fun q => ⟨q.1, q.2.1, by show R i 1 = -1; rw [e i q.1 q.2.1 1 (by decide) (by decide)]; exact q.2.2⟩⟩
  have e5 : ∀ b : Int, 0 ≤ b → b < n → R b 5 = R' b 5 := fun b b0 b1 => e b b0 b1 5 (by decide) (by decide)
  refine ⟨by rw [← ek]; exact h1, h2.cong e, h3, ⟨fun i i0 i1 => ⟨(h4.1 i i0 i1).1, by rw [← e5 _ (h4.1 i i0 i1).1.1 (h4.1 i i0 i1).1.2]; exact (h4.1 i i0 i1).2⟩, h4.2.1, fun b b0 b1 hb => h4.2.2.1 b b0 b1 (by rw [e5 b b0 b1]; exact hb), by rw [h4.2.2.2]; exact sz_cong fun b b0 b1 => by rw [e5 b b0 b1]⟩, h5, h6, h7, fun y y0 y1 Pq eq hq => ?_⟩
  obtain ⟨F, k1, k2, k3, k4⟩ := h8 y y0 y1 Pq eq hq
  refine ⟨F, k1, k2, k3.cong (fun b b0 b1 => ⟨e b b0 b1 1 (by decide) (by decide), e b b0 b1 2 (by decide) (by decide), e5 b b0 b1⟩) (fun _ _ _ => Iff.rfl), ?_⟩
  rw [k4]
  exact sz_cong fun b b0 b1 => by rw [e b b0 b1 1 (by decide) (by decide)]
def GY (g g' : Int → Int) : Prop := (g 1 = g' 1 ∧ g 2 = g' 2 ∧ g 3 = g' 3) ∧ (∀ c, 0 ≤ c → c < g 1 → ∀ w, 0 ≤ w → w ≤ 3 → g (4 + 4 * c + w) = g' (4 + 4 * c + w)) ∧ (∀ c, 0 ≤ c → c < g 2 → ∀ w, 0 ≤ w → w ≤ 3 → g (28 + 4 * c + w) = g' (28 + 4 * c + w)) ∧ ∀ b, 0 ≤ b → b < g 3 → ∀ w, 0 ≤ w → w < 12 → g (60 + 12 * b + w) = g' (60 + 12 * b + w)
theorem GE.y {g g' : Int → Int} (e : GE g g') : GY g g' := ⟨e.1.2, e.2⟩
theorem GY.b {g g' : Int → Int} (e : GY g g') {b w : Int} (b0 : 0 ≤ b) (b1 : b < g 3) (w0 : 0 ≤ w) (w1 : w < 12) : g (60 + 12 * b + w) = g' (60 + 12 * b + w) := e.2.2.2 b b0 b1 w w0 w1
theorem GY.c {g g' : Int → Int} (e : GY g g') {c w : Int} (c0 : 0 ≤ c) (c1 : c < g 1) (w0 : 0 ≤ w) (w1 : w ≤ 3) : g (4 + 4 * c + w) = g' (4 + 4 * c + w) := e.2.1 c c0 c1 w w0 w1
theorem GY.q {g g' : Int → Int} (e : GY g g') {c w : Int} (c0 : 0 ≤ c) (c1 : c < g 2) (w0 : 0 ≤ w) (w1 : w ≤ 3) : g (28 + 4 * c + w) = g' (28 + 4 * c + w) := e.2.2.1 c c0 c1 w w0 w1
theorem ge_gr {g g' : Int → Int} (e : GY g g') {b : Int} (b0 : 0 ≤ b) (b1 : b < g 3) : QGr g b ↔ QGr g' b := by
  unfold QGr
  rw [e.b b0 b1 (by decide) (by decide)]
theorem ge_has {g g' : Int → Int} (e : GY g g') (hW : WF g) {b x : Int} (b0 : 0 ≤ b) (b1 : b < g 3) : QHas g b x ↔ QHas g' b x := by
  have hw := hW.b b0 b1
  unfold WFb at hw
  have h5 := e.b b0 b1 (w := 5) (by decide) (by decide)
  exact ⟨fun ⟨k, k0, k1, k2⟩ => ⟨k, k0, by omega, by rw [← e.b b0 b1 (by omega) (by omega)]; exact k2⟩, fun ⟨k, k0, k1, k2⟩ => ⟨k, k0, by omega, by rw [e.b b0 b1 (by omega) (by omega)]; exact k2⟩⟩
theorem ge_tk {g g' : Int → Int} (e : GE g g') (hW : WF g) {b c : Int} (b0 : 0 ≤ b) (b1 : b < g 3) (c0 : 0 ≤ c) (c1 : c < g 1) : QTk g b c ↔ QTk g' b c := by
  unfold QTk QOld
  rw [ge_gr e.y b0 b1, ge_has e.y hW b0 b1, e.y.c c0 c1 (w := 0) (by decide) (by decide), e.y.c c0 c1 (w := 2) (by decide) (by decide), e.y.c c0 c1 (w := 3) (by decide) (by decide), e.y.b b0 b1 (w := 4) (by decide) (by decide), e.y.b b0 b1 (w := 3) (by decide) (by decide), e.1.1]
theorem ge_gets {g g' : Int → Int} (e : GY g g') (u : Int → Int) (b : Int) : qgets g u b = qgets g' u b := by
  unfold qgets
  rw [← e.1.1]
  exact sz_cong fun c c0 c1 => by rw [e.c c0 c1 (by decide) (by decide)]
theorem ge_giv {g g' : Int → Int} (e : GY g g') (u : Int → Int) : qgiv g u = qgiv g' u := by
  unfold qgiv
  rw [← e.1.1]
  exact sz_cong fun c c0 c1 => by rw [e.c c0 c1 (by decide) (by decide)]
theorem ge_mf {g g' : Int → Int} (e : GY g g') (u : Int → Int) : ∀ (f : Nat) (b : Int), 0 ≤ b → b < g 3 → (qmf g u f b ↔ qmf g' u f b)
  | 0, _, _, _ => Iff.rfl
  | f + 1, b, b0, b1 => by
    unfold qmf
    rw [ge_gr e b0 b1, e.b b0 b1 (w := 2) (by decide) (by decide), ge_gets e, e.1.2.2.symm, show sz (fun k => bP (g (60 + 12 * k + 1) = b ∧ qmf g u f k)) (g 3) = sz (fun k => bP (g' (60 + 12 * k + 1) = b ∧ qmf g' u f k)) (g 3) from sz_cong fun k k0 k1 => by rw [e.b k0 k1 (w := 1) (by decide) (by decide)]; exact bP_cong (and_congr_right fun _ => ge_mf e u f k k0 k1)]
theorem ge_met {g g' : Int → Int} (e : GY g g') (u : Int → Int) {b : Int} (b0 : 0 ≤ b) (b1 : b < g 3) : qmet g u b ↔ qmet g' u b := by
  unfold qmet
  rw [← e.1.2.2]
  exact ge_mf e u _ b b0 b1
theorem ge_key {g g' : Int → Int} (e : GY g g') (u : Int → Int) : qkey g u = qkey g' u := by
  unfold qkey qroots qleav
  rw [ge_giv e, ← e.1.2.2, show sz (fR g u) (g 3) = sz (fR g' u) (g 3) from sz_cong fun b b0 b1 => by unfold fR; rw [e.b b0 b1 (w := 1) (by decide) (by decide)]; exact bP_cong (and_congr_right fun _ => ge_met e u b0 b1), show sz (fL g u) (g 3) = sz (fL g' u) (g 3) from sz_cong fun b b0 b1 => bP_cong (and_congr (not_congr (ge_gr e b0 b1)) (ge_met e u b0 b1))]
theorem ge_QV {g g' : Int → Int} (e : GY g g') (ht : ∀ b c, 0 ≤ b → b < g 3 → 0 ≤ c → c < g 1 → (QTk g b c ↔ QTk g' b c)) {u : Int → Int} : QV g u ↔ QV g' u := by
  have n1 := e.1.1
  have n3 := e.1.2.2
  exact ⟨fun h c c0 c1 => (h c c0 (by omega)).imp id (fun z => ⟨z.1, by omega, (ht _ _ z.1 z.2.1 c0 (by omega)).mp z.2.2⟩), fun h c c0 c1 => (h c c0 (by omega)).imp id (fun z => ⟨z.1, by omega, (ht _ _ z.1 (by omega) c0 (by omega)).mpr z.2.2⟩)⟩
theorem gy_best {g g' : Int → Int} (e : GY g g') (ht : ∀ b c, 0 ≤ b → b < g 3 → 0 ≤ c → c < g 1 → (QTk g b c ↔ QTk g' b c)) {u : Int → Int} (h : QBest g u) : QBest g' u := by
  obtain ⟨h1, h2, h3⟩ := h
  refine ⟨h1, (ge_QV e ht).mp h2, fun v hv hs => ?_⟩
  rw [← ge_key e, ← ge_key e, ← e.1.1]
  exact h3 v ((ge_QV e ht).mpr hv) hs
theorem ge_best {g g' : Int → Int} (e : GE g g') (hW : WF g) {u : Int → Int} (h : QBest g u) : QBest g' u := gy_best e.y (fun _ _ b0 b1 c0 c1 => ge_tk e hW b0 b1 c0 c1) h
theorem gy_roots {g g' : Int → Int} (e : GY g g') (u : Int → Int) : qroots g u = qroots g' u := by
  unfold qroots
  rw [← e.1.2.2]
  exact sz_cong fun b b0 b1 => by unfold fR; rw [e.b b0 b1 (w := 1) (by decide) (by decide)]; exact bP_cong (and_congr_right fun _ => ge_met e u b0 b1)
theorem UK.ge {g g' : Int → Int} {κ : KP} {H : AH} {S : CST} {u q : Nat} (e : GE g g') (hW' : WF g') (h : UK κ H g S u q) : UK κ H g' S u q := by
  obtain ⟨a, b, cr, eq, p, nc, ne, nb, bl, lv, ms, mr, N, lf, fm, fr, c, d, s1, s2, s3, s8, s9, sq⟩ := h
  have e3 := c.2.2.2.2.2.2
  have n1 := e.1.2.1
  refine ⟨a, hW', cr, eq, p, nc, ne, nb, bl, lv, ms, mr, N, lf, fm, fr, c.ge e, d.cong (fun b b0 b1 i i0 i1 => e.y.b b0 (by omega) i0 i1), s1, s2, fun c c0 c1 => s3 c c0 (by omega), ?_, ?_, ge_best e b sq⟩
  · rw [s8]
    refine congrArg bs (funext fun l => tb_congr ?_)
    refine and_congr_right fun l0 => and_congr_right fun l1 => ?_
    have hl := (d.2.2.2.1.1 l l0 l1).1
    show g (60 + 12 * lf l + 2) ≤ qgets g _ (lf l) ↔ g' (60 + 12 * lf l + 2) ≤ qgets g' _ (lf l)
    rw [e.y.b (w := 2) hl.1 (by omega) (by decide) (by decide), ge_gets e.y]
  · rw [s9]
    exact ge_giv e.y _
/-! ===== the class's state ===== -/
/-- the desk at q stands, and Γ tells what the desks show that the uses are of -/
def ClS (κ : KP) (H : AH) (S : CST) (Γ : Nat → Int → Int) (q : Nat) : Prop := S 0 5 = (q : Int) ∧ DeskAt κ H q (Γ q) ∧ WF (Γ q) ∧ WG (Γ q) ∧ ∀ u : Nat, u = 3 ∨ u = 4 → ∃ q0 : Nat, UK κ H (Γ q0) S u q0
def GX (H : AH) (Γ Γ' : Nat → Int → Int) : Prop := ∀ a : Nat, H a ≠ none → Γ' a = Γ a
def RDL : List Nat := [3, 4, 5, 12, 13, 14, 15, 16, 17, 18, 19, 20, 21]
/-- what a question leaves -/
def RP (κ : KP) (B : Nat → Nat) (S : CST) (h : AH) (Γ : Nat → Int → Int) (q : Nat) (h' : AH) : Prop := ∃ (S' : CST) (Γ' : Nat → Int → Int), h' = cset B S' h' ∧ Fr B (cset B S h) h' ∧ SK RDL S S' ∧ GX (cset B S h) Γ Γ' ∧ ClS κ h' S' Γ' q
def RD (κ : KP) (B : Nat → Nat) (S : CST) (h : AH) (Γ : Nat → Int → Int) (q : Nat) (R : Int → Int → Prop) : Option Value → AH → Prop := fun v h' => ∃ r, v = some (.int (J r)) ∧ R 0 r ∧ RP κ B S h Γ q h'
def RE (κ : KP) (B : Nat → Nat) (S : CST) (h : AH) (Γ : Nat → Int → Int) (q : Nat) (R : Int → Int → Prop) (w : List String) : String → AH → Prop := fun E' h' => ∃ (t : Nat) (r : Int), w[t]? = some E' ∧ R (t + 1) r ∧ RP κ B S h Γ q h'
theorem ClS.ne {κ : KP} {H : AH} {S : CST} {Γ : Nat → Int → Int} {q : Nat} (hI : ClS κ H S Γ q) : H q ≠ none := by
  obtain ⟨-, ⟨cr, eq, p, nc, ne, nb, hO, -⟩, -⟩ := hI
  rw [hO]
  exact fun z => by cases z
theorem UK.ne {κ : KP} {H : AH} {S : CST} {g : Int → Int} {u q : Nat} (hI : UK κ H g S u q) : H q ≠ none := by
  obtain ⟨-, -, cr, eq, p, nc, ne, nb, bl, lv, ms, mr, N, lf, fm, fr, hD, -⟩ := hI
  rw [hD.1]
  exact fun z => by cases z
theorem RP.id {κ : KP} {B : Nat → Nat} {S : CST} {h : AH} {Γ : Nat → Int → Int} {q : Nat} (hI : ClS κ (cset B S h) S Γ q) : RP κ B S h Γ q (cset B S h) := ⟨S, Γ, cset_cset.symm, Fr.rf, SK.rf, fun _ _ => rfl, hI⟩
/-- a use was found anew, and perhaps layers were laid -/
theorem ClS.use {κ : KP} {B : Nat → Nat} {S S' : CST} {h : AH} {Γ : Nat → Int → Int} {q q1 u : Nat} (hB : BA B) (hI : ClS κ (cset B S h) S Γ q) (hu : u = 3 ∨ u = 4) (x : SK [5, 20, 21, u, 4 * u + 0, 4 * u + 1, 4 * u + 2, 4 * u + 3] S S') (hK : UK κ (cset B S' h) (Γ q1) S' u q1) : ClS κ (cset B S' h) S' Γ q := by
  obtain ⟨h1, h2, h3, h4, h5⟩ := hI
  have h0 : S' 0 = S 0 := x 0 (by rcases hu with rfl | rfl <;> decide)
  refine ⟨by rw [h0]; exact h1, h2.fx (cfxF hB), h3, h4, fun u1 hu1 => ?_⟩
  by_cases e : u1 = u
  · rw [e]
    exact ⟨q1, hK⟩
  · obtain ⟨q0, h6⟩ := h5 u1 hu1
    exact ⟨q0, h6.fx (cfxF hB) (x u1 (by rcases hu with rfl | rfl <;> rcases hu1 with rfl | rfl <;> first | decide | exact absurd rfl e)) (x _ (by rcases hu with rfl | rfl <;> rcases hu1 with rfl | rfl <;> first | decide | exact absurd rfl e))⟩
theorem RP.use {κ : KP} {B : Nat → Nat} {S S' : CST} {h : AH} {Γ : Nat → Int → Int} {q q1 u : Nat} (hB : BA B) (hI : ClS κ (cset B S h) S Γ q) (hu : u = 3 ∨ u = 4) (x : SK [5, 20, 21, u, 4 * u + 0, 4 * u + 1, 4 * u + 2, 4 * u + 3] S S') (hK : UK κ (cset B S' h) (Γ q1) S' u q1) : RP κ B S h Γ q (cset B S' h) :=
  ⟨S', Γ, cset_cset.symm, Fr.cs, x.mono (by rcases hu with rfl | rfl <;> decide), fun _ _ => rfl, hI.use hB hu x hK⟩
