/-! ===== uses as the class keeps them: by leaves ===== -/
theorem sm_add {f g : Int → Int} : ∀ n : Nat, sm (fun i => f i + g i) n = sm f n + sm g n
  | 0 => rfl
  | n + 1 => by
    have := sm_add (f := f) (g := g) n
    simp only [sm]
    omega
theorem sz_add {f g : Int → Int} {n : Int} : sz (fun i => f i + g i) n = sz f n + sz g n := sm_add _
theorem sm_0 : ∀ n : Nat, sm (fun _ => 0) n = 0
  | 0 => rfl
  | n + 1 => by
    simp only [sm, sm_0 n]
    rfl
theorem sz_00 {n : Int} : sz (fun _ => 0) n = 0 := sm_0 _
theorem sz_swap {F : Int → Int → Int} {n m : Int} (n0 : 0 ≤ n) : sz (fun l => sz (fun c => F l c) n) m = sz (fun c => sz (fun l => F l c) m) n := by
  obtain ⟨k, rfl⟩ : ∃ k : Nat, n = k := ⟨n.toNat, by omega⟩
  induction k with
  | zero =>
    show sz (fun l => (0 : Int)) m = 0
    exact sz_00
  | succ k ih =>
    have e : ((k + 1 : Nat) : Int) = (k : Int) + 1 := by omega
    rw [e, sz_1 (by omega), ← ih (by omega), ← sz_add]
    exact sz_cong fun l l0 l1 => sz_1 (by omega)
/-- a sum of which one place alone counts -/
theorem sz_one {f : Int → Int} {n i : Int} (i0 : 0 ≤ i) (i1 : i < n) (h : ∀ j, 0 ≤ j → j < n → j ≠ i → f j = 0) : sz f n = f i := by
  have a : sz f (i + 1) = f i := by
    rw [sz_1 i0, show sz f i = 0 from (sz_cong (f' := fun _ => 0) fun j j0 j1 => h j j0 (by omega) (by omega)).trans sz_00]
    omega
  rw [sz_tail (n := i + 1) (by omega) (by omega) (fun j a b => h j (by omega) b (by omega)), a]
theorem sz_none {f : Int → Int} {n : Int} (h : ∀ j, 0 ≤ j → j < n → f j = 0) : sz f n = 0 := (sz_cong h).trans sz_00
theorem LFs.inj {R : Int → Int → Int} {n N : Nat} {lf : Int → Int} (h : LFs R n N lf) {i j : Int} (i0 : 0 ≤ i) (i1 : i < N) (j0 : 0 ≤ j) (j1 : j < N) (e : lf i = lf j) : i = j := by
  rcases (show i < j ∨ i = j ∨ j < i by omega) with q | q | q
  · have := h.2.1 i j i0 q j1
    omega
  · exact q
  · have := h.2.1 j i j0 q i1
    omega
/-- a sum over the leaves is one over the blocks -/
theorem sz_leaves {R : Int → Int → Int} {n N : Nat} {lf : Int → Int} (h : LFs R n N lf) {f : Int → Int} : sz (fun l => f (lf l)) N = sz (fun b => if R b 5 = 0 then 0 else f b) n := by
  have a : ∀ l : Int, 0 ≤ l → l < N → f (lf l) = sz (fun b => if lf l = b then f b else 0) n := fun l l0 l1 => by
    have hl := (h.1 l l0 l1).1
    rw [sz_one hl.1 hl.2 (fun j _ _ hj => if_neg (fun e => hj e.symm)), if_pos rfl]
  rw [sz_cong (k := (N : Int)) a, sz_swap (by omega)]
  refine sz_cong fun b b0 b1 => ?_
  by_cases q : R b 5 = 0
  · rw [if_pos q]
    exact sz_none fun l l0 l1 => if_neg (fun e => (h.1 l l0 l1).2 (by rw [e]; exact q))
  · rw [if_neg q]
    obtain ⟨i, i0, i1, e⟩ := h.2.2.1 b b0 b1 q
    rw [sz_one i0 i1 (fun j j0 j1 hj => if_neg (fun z => hj (h.inj j0 j1 i0 i1 (z.trans e.symm)))), if_pos e]
/-- leaf numbers as blocks -/
def ublk (lf t : Int → Int) : Int → Int := fun c => if t c < 0 then -1 else lf (t c)
/-- the leaves met by the use U -/
noncomputable def uP (g lf : Int → Int) (N : Nat) (U : Int → Int) : Int → Bool := bk (fun l => g (60 + 12 * lf l + 2) ≤ qgets g U (lf l)) N
theorem uP_cong {g lf : Int → Int} {N : Nat} {U V : Int → Int} (h : EQU (g 1) U V) : uP g lf N U = uP g lf N V := by
  funext i
  refine tb_congr (and_congr_right fun _ => and_congr_right fun _ => ?_)
  show _ ≤ qgets g U _ ↔ _ ≤ qgets g V _
  rw [qgets_cong h]
theorem QTk.leaf {g : Int → Int} (hW : WF g) {b c : Int} (b0 : 0 ≤ b) (b1 : b < g 3) (h : QTk g b c) : g (60 + 12 * b + 5) ≠ 0 := fun z => h.1 ((hW.gr b0 b1).mpr z)
theorem use_giv {g : Int → Int} (hW : WF g) {n N : Nat} (hn : (n : Int) = g 3) {lf : Int → Int} (hL : LFs (rwg g) n N lf) {U : Int → Int} (hU : QV g U) : sz (fun l => qgets g U (lf l)) N = qgiv g U := by
  have n1 := hW.n.2.1
  unfold qgets qgiv
  rw [sz_swap n1.1]
  refine sz_cong fun c c0 c1 => ?_
  rcases hU c c0 c1 with e | ⟨e0, e1, e2⟩
  · rw [if_neg (by omega)]
    exact sz_none fun l l0 l1 => if_neg (fun z => by have := (hL.1 l l0 l1).1.1; omega)
  · rw [if_pos e0]
    obtain ⟨i, i0, i1, e⟩ := hL.2.2.1 (U c) e0 (by omega) (e2.leaf hW e0 e1)
    rw [sz_one i0 i1 (fun j j0 j1 hj => if_neg (fun z => hj (hL.inj j0 j1 i0 i1 (z.symm.trans e.symm)))), if_pos e.symm]
theorem use_met {g : Int → Int} (hW : WF g) {n N : Nat} (hn : (n : Int) = g 3) {lf : Int → Int} (hL : LFs (rwg g) n N lf) {U : Int → Int} {F : Int → Bool} (hF : MetEq (rwg g) n (LmP lf N (uP g lf N U)) (fun b => F b = true)) {b : Int} (b0 : 0 ≤ b) (b1 : b < g 3) : F b = true ↔ qmet g U b := by
  refine qmet_uniq hW (m := fun b => F b = true) (fun b b0 b1 => ?_) (g 3 - b).toNat b b0 b1 (by omega)
  have h := hF b b0 (by omega)
  have hg := hW.gr b0 b1
  show F b = true ↔ _
  rw [show (F b = true ↔ _) from h]
  constructor
  · rintro ⟨x, y⟩
    refine ⟨fun z => ?_, fun z => ?_⟩
    · have := x (hg.mp z)
      rw [hn] at this
      exact this
    · obtain ⟨i, i0, i1, e, hp⟩ := y (fun q => z (hg.mpr q))
      rw [← e]
      exact (bk_i.mp hp).2.2
  · rintro ⟨x, y⟩
    refine ⟨fun z => ?_, fun z => ?_⟩
    · have := x (hg.mpr z)
      rw [hn]
      exact this
    · obtain ⟨i, i0, i1, e⟩ := hL.2.2.1 b b0 (by omega) z
      refine ⟨i, i0, i1, e, bk_i.mpr ⟨i0, i1, ?_⟩⟩
      rw [e]
      exact y (fun q => z (hg.mp q))
theorem use_leav {g : Int → Int} (hW : WF g) {n N : Nat} (hn : (n : Int) = g 3) {lf : Int → Int} (hL : LFs (rwg g) n N lf) (hN : N ≤ 4) {U : Int → Int} : cn (uP g lf N U) = qleav g U := by
  rw [cn_n (f := uP g lf N U) (n := N) (by omega) (by omega) (fun i hi => (bk_i.mp hi).2.1)]
  have a : ∀ l : Int, 0 ≤ l → l < N → bI (uP g lf N U l) = bP (g (60 + 12 * lf l + 2) ≤ qgets g U (lf l)) := fun l l0 l1 => congrArg bI (tb_congr ⟨fun q => q.2.2, fun q => ⟨l0, l1, q⟩⟩)
  rw [sz_cong a, sz_leaves hL (f := fun b => bP (g (60 + 12 * b + 2) ≤ qgets g U b)), hn]
  unfold qleav
  refine sz_cong fun b b0 b1 => ?_
  have hg := hW.gr b0 b1
  show (if g (60 + 12 * b + 5) = 0 then 0 else bP (g (60 + 12 * b + 2) ≤ qgets g U b)) = fL g U b
  unfold fL
  by_cases q : g (60 + 12 * b + 5) = 0
  · rw [if_pos q, bP_f (fun z => z.1 (hg.mpr q))]
  · rw [if_neg q]
    refine bP_cong ⟨fun z => ⟨fun y => q (hg.mp y), (qmet_eq hW b0 b1).mpr ⟨fun y => absurd (hg.mp y) q, fun _ => z⟩⟩, fun z => ((qmet_eq hW b0 b1).mp z.2).2 z.1⟩
theorem use_roots {g : Int → Int} (hW : WF g) {n N : Nat} (hn : (n : Int) = g 3) {lf : Int → Int} (hL : LFs (rwg g) n N lf) {U : Int → Int} {F : Int → Bool} (hF : MetEq (rwg g) n (LmP lf N (uP g lf N U)) (fun b => F b = true)) : sz (fun b => bP (rwg g b 1 = -1 ∧ F b = true)) n = qroots g U := by
  unfold qroots
  rw [hn]
  refine sz_cong fun b b0 b1 => ?_
  have hb := hW.b b0 b1
  unfold WFb at hb
  have hm := use_met hW hn hL hF b0 b1
  unfold fR
  refine bP_cong ⟨fun z => ⟨?_, hm.mp z.2⟩, fun z => ⟨?_, hm.mpr z.2⟩⟩
  · have := z.1
    simp only [rwg] at this
    omega
  · have := z.1
    simp only [rwg]
    omega
/-- what is known of the best one so far, among the uses that T knows -/
def BR (g lf : Int → Int) (N : Nat) (T : (Int → Int) → Prop) (w ls gv : Int) (ch : Int → Int) : Prop := (w = -1000 ∧ ∀ v, QV g v → ¬ T v) ∨ (FM g T (ublk lf ch) ∧ w = qkey g (ublk lf ch) ∧ ls = bs (uP g lf N (ublk lf ch)) ∧ gv = qgiv g (ublk lf ch) ∧ ∀ c, 0 ≤ c → c < g 1 → ch c = -1 ∨ (0 ≤ ch c ∧ ch c < N))
theorem BR.iff {g lf : Int → Int} {N : Nat} {T T' : (Int → Int) → Prop} {w ls gv : Int} {ch : Int → Int} (h : BR g lf N T w ls gv ch) (e : ∀ v, QV g v → (T v ↔ T' v)) : BR g lf N T' w ls gv ch := by
  rcases h with ⟨h1, h2⟩ | ⟨h1, h2⟩
  · exact Or.inl ⟨h1, fun v hv z => h2 v hv ((e v hv).mpr z)⟩
  · exact Or.inr ⟨h1.iff e, h2⟩
theorem BR.bd {g lf : Int → Int} (hW : WF g) {N : Nat} {T : (Int → Int) → Prop} {w ls gv : Int} {ch : Int → Int} (h : BR g lf N T w ls gv ch) : -1000 ≤ w ∧ w ≤ 100000 := by
  rcases h with ⟨h1, -⟩ | ⟨-, h2, -⟩
  · omega
  · have := qk_bd (u := ublk lf ch) hW
    unfold qkey at h2
    omega
theorem BR.better {g lf : Int → Int} {N : Nat} {w ls gv : Int} {ch tr : Int → Int} (hU : QV g (ublk lf tr)) (htr : ∀ c, 0 ≤ c → c < g 1 → tr c = -1 ∨ (0 ≤ tr c ∧ tr c < N)) (h : BR g lf N (fun v => LX (g 1) v (ublk lf tr)) w ls gv ch) (hk : w < qkey g (ublk lf tr)) : BR g lf N (LXE (g 1) (ublk lf tr)) (qkey g (ublk lf tr)) (bs (uP g lf N (ublk lf tr))) (qgiv g (ublk lf tr)) tr := by
  refine Or.inr ⟨?_, rfl, rfl, rfl, htr⟩
  rcases h with ⟨h1, h2⟩ | ⟨h1, h2, -⟩
  · exact FM.first hU h2
  · exact FM.new hU h1 (by omega)
theorem BR.worse {g lf : Int → Int} (hW : WF g) {N : Nat} {w ls gv : Int} {ch U : Int → Int} (h : BR g lf N (fun v => LX (g 1) v U) w ls gv ch) (hk : qkey g U ≤ w) : BR g lf N (LXE (g 1) U) w ls gv ch := by
  rcases h with ⟨h1, h2⟩ | ⟨h1, h2, h3⟩
  · have := qk_bd (u := U) hW
    unfold qkey at hk
    omega
  · exact Or.inr ⟨FM.keep h1 (by omega), h2, h3⟩
/-! from level to level -/
def TL (c : Int) (U lf : Int → Int) (l : Int) (v : Int → Int) : Prop := LX c v U ∨ (EQU c v U ∧ 0 ≤ v c ∧ ∃ i, 0 ≤ i ∧ i < l ∧ v c = lf i)
theorem TL_0 {c : Int} {U lf v : Int → Int} : TL c U lf 0 v ↔ LX c v U := ⟨fun h => h.elim id (fun ⟨_, _, i, a, b, _⟩ => by omega), Or.inl⟩
theorem LX_1 {c : Int} (c0 : 0 ≤ c) {U v : Int → Int} {x : Int} : LX (c + 1) v (upz U c x) ↔ LX c v U ∨ (EQU c v U ∧ rk (v c) < rk x) := by
  have e : EQU c (upz U c x) U := fun j j0 j1 => upz_ne (by omega)
  constructor
  · rintro ⟨d, d0, d1, d2, d3⟩
    by_cases q : d = c
    · subst q
      rw [upz_same] at d3
      exact Or.inr ⟨d2.trans e, d3⟩
    · rw [upz_ne q] at d3
      exact Or.inl ⟨d, d0, by omega, d2.trans (e.mono (by omega)), d3⟩
  · rintro (⟨d, d0, d1, d2, d3⟩ | ⟨d2, d3⟩)
    · exact ⟨d, d0, by omega, d2.trans (e.mono (by omega)).symm, by rw [upz_ne (by omega)]; exact d3⟩
    · exact ⟨c, c0, by omega, d2.trans e.symm, by rw [upz_same]; exact d3⟩
theorem EQU_1 {c : Int} (c0 : 0 ≤ c) {U v : Int → Int} {x : Int} : EQU (c + 1) v (upz U c x) ↔ EQU c v U ∧ v c = x := by
  constructor
  · intro h
    refine ⟨fun j j0 j1 => ?_, ?_⟩
    · rw [h j j0 (by omega), upz_ne (by omega)]
    · rw [h c c0 (by omega), upz_same]
  · rintro ⟨h1, h2⟩ j j0 j1
    by_cases q : j = c
    · rw [q, upz_same, h2]
    · rw [upz_ne q]
      exact h1 j j0 (by omega)
theorem leaf_ix {g : Int → Int} (hW : WF g) {n N : Nat} (hn : (n : Int) = g 3) {lf : Int → Int} (hL : LFs (rwg g) n N lf) {v : Int → Int} (hv : QV g v) {c : Int} (c0 : 0 ≤ c) (c1 : c < g 1) (h : 0 ≤ v c) : ∃ i, 0 ≤ i ∧ i < (N : Int) ∧ v c = lf i ∧ QTk g (lf i) c := by
  rcases hv c c0 c1 with e | ⟨e0, e1, e2⟩
  · omega
  · obtain ⟨i, i0, i1, e⟩ := hL.2.2.1 (v c) e0 (by omega) (e2.leaf hW e0 e1)
    exact ⟨i, i0, i1, e.symm, by rw [e]; exact e2⟩
theorem LFs.lt {R : Int → Int → Int} {n N : Nat} {lf : Int → Int} (h : LFs R n N lf) {i j : Int} (i0 : 0 ≤ i) (i1 : i < N) (j0 : 0 ≤ j) (j1 : j < N) : lf i < lf j ↔ i < j := by
  rcases (show i < j ∨ i = j ∨ j < i by omega) with q | q | q
  · have := h.2.1 i j i0 q j1
    omega
  · subst q
    omega
  · have := h.2.1 j i j0 q i1
    omega
theorem TL_in {g : Int → Int} (hW : WF g) {n N : Nat} (hn : (n : Int) = g 3) {lf : Int → Int} (hL : LFs (rwg g) n N lf) {v U : Int → Int} (hv : QV g v) {c l : Int} (c0 : 0 ≤ c) (c1 : c < g 1) (l0 : 0 ≤ l) (l1 : l < N) : LX (c + 1) v (upz U c (lf l)) ↔ TL c U lf l v := by
  have n3 := hW.n.2.2.2
  have hl := (hL.1 l l0 l1).1
  rw [LX_1 c0]
  refine or_congr_right (and_congr_right fun _ => ?_)
  rw [rk_p hl.1]
  constructor
  · intro h
    have h0 : 0 ≤ v c := by
      rcases hv c c0 c1 with e | ⟨e, -⟩
      · rw [e, rk_n (by decide)] at h
        omega
      · exact e
    obtain ⟨i, i0, i1, e, -⟩ := leaf_ix hW hn hL hv c0 c1 h0
    rw [rk_p h0, e, hL.lt i0 i1 l0 l1] at h
    exact ⟨h0, i, i0, h, e⟩
  · rintro ⟨h0, i, i0, i1, e⟩
    rw [rk_p h0, e, hL.lt i0 (by omega) l0 l1]
    exact i1
theorem TL_out {g : Int → Int} (hW : WF g) {n N : Nat} (hn : (n : Int) = g 3) {lf : Int → Int} (hL : LFs (rwg g) n N lf) {v U : Int → Int} (hv : QV g v) {c l : Int} (c0 : 0 ≤ c) (c1 : c < g 1) (l0 : 0 ≤ l) (l1 : l < N) : LXE (c + 1) (upz U c (lf l)) v ↔ TL c U lf (l + 1) v := by
  have hl := (hL.1 l l0 l1).1
  show LX (c + 1) v (upz U c (lf l)) ∨ EQU (c + 1) v (upz U c (lf l)) ↔ _
  rw [TL_in hW hn hL hv c0 c1 l0 l1, EQU_1 c0]
  unfold TL
  constructor
  · rintro ((h | ⟨a, b, i, i0, i1, e⟩) | ⟨a, e⟩)
    · exact Or.inl h
    · exact Or.inr ⟨a, b, i, i0, by omega, e⟩
    · exact Or.inr ⟨a, by omega, l, l0, by omega, e⟩
  · rintro (h | ⟨a, b, i, i0, i1, e⟩)
    · exact Or.inl (Or.inl h)
    · by_cases q : i = l
      · exact Or.inr ⟨a, by rw [e, q]⟩
      · exact Or.inl (Or.inr ⟨a, b, i, i0, by omega, e⟩)
theorem TL_skip {g : Int → Int} {n N : Nat} {lf : Int → Int} (hL : LFs (rwg g) n N lf) {v U : Int → Int} (hv : QV g v) {c l : Int} (c0 : 0 ≤ c) (c1 : c < g 1) (l0 : 0 ≤ l) (l1 : l < N) (h : ¬ QTk g (lf l) c) : TL c U lf l v ↔ TL c U lf (l + 1) v := by
  unfold TL
  refine or_congr_right (and_congr_right fun _ => and_congr_right fun hp => ⟨fun ⟨i, a, b, e⟩ => ⟨i, a, by omega, e⟩, fun ⟨i, a, b, e⟩ => ⟨i, a, ?_, e⟩⟩)
  have : i ≠ l := fun z => by
    rcases hv c c0 c1 with e1 | ⟨-, -, e2⟩
    · omega
    · rw [e, z] at e2
      exact h e2
  omega
theorem TL_last {g : Int → Int} (hW : WF g) {n N : Nat} (hn : (n : Int) = g 3) {lf : Int → Int} (hL : LFs (rwg g) n N lf) {v U : Int → Int} (hv : QV g v) {c : Int} (c0 : 0 ≤ c) (c1 : c < g 1) : LX (c + 1) v (upz U c (-1)) ↔ TL c U lf N v := by
  have n3 := hW.n.2.2.2
  rw [LX_1 c0]
  refine or_congr_right (and_congr_right fun _ => ?_)
  rw [rk_n (p := -1) (by decide)]
  constructor
  · intro h
    have h0 : 0 ≤ v c := by
      rcases hv c c0 c1 with e | ⟨e, -⟩
      · rw [e, rk_n (by decide)] at h
        omega
      · exact e
    obtain ⟨i, i0, i1, e, -⟩ := leaf_ix hW hn hL hv c0 c1 h0
    exact ⟨h0, i, i0, i1, e⟩
  · rintro ⟨h0, i, i0, i1, e⟩
    have := (hL.1 i i0 i1).1
    rw [rk_p h0]
    omega
theorem TL_end {g : Int → Int} (hW : WF g) {n N : Nat} (hn : (n : Int) = g 3) {lf : Int → Int} (hL : LFs (rwg g) n N lf) {v U : Int → Int} (hv : QV g v) {c : Int} (c0 : 0 ≤ c) (c1 : c < g 1) : LXE (c + 1) (upz U c (-1)) v ↔ LXE c U v := by
  show LX (c + 1) v (upz U c (-1)) ∨ EQU (c + 1) v (upz U c (-1)) ↔ LX c v U ∨ EQU c v U
  rw [TL_last hW hn hL hv c0 c1, EQU_1 c0]
  unfold TL
  constructor
  · rintro ((h | ⟨a, -⟩) | ⟨a, -⟩)
    · exact Or.inl h
    · exact Or.inr a
    · exact Or.inr a
  · rintro (h | h)
    · exact Or.inl (Or.inl h)
    · by_cases q : 0 ≤ v c
      · obtain ⟨i, i0, i1, e, -⟩ := leaf_ix hW hn hL hv c0 c1 q
        exact Or.inl (Or.inr ⟨h, q, i, i0, i1, e⟩)
      · refine Or.inr ⟨h, ?_⟩
        rcases hv c c0 c1 with e | ⟨e, -⟩
        · exact e
        · omega
theorem LX_0 {u v : Int → Int} : ¬ LX 0 u v := fun ⟨c, a, b, _⟩ => by omega
theorem LXE_0 {u v : Int → Int} : LXE 0 u v := Or.inr (fun j a b => by omega)
