/-! ===== the rows of a text are good ===== -/
/-- the row r of block i among the rows l -/
def RowG (l : List (Int → Int)) (i : Nat) (r : Int → Int) : Prop := (r 0 = 0 ∨ r 0 = 1) ∧ (0 ≤ r 11 ∧ r 11 ≤ 3) ∧ ((r 1 = -1 ∧ r 11 = 0) ∨ ∃ (p : Nat) (rp : Int → Int), p < i ∧ r 1 = (p : Int) ∧ l[p]? = some rp ∧ rp 0 = 1 ∧ r 11 = rp 11 + 1) ∧ (r 0 = 1 → (1 ≤ r 2 ∧ r 2 ≤ 9) ∧ r 3 = -1 ∧ r 4 = -1 ∧ r 5 = 0) ∧ (r 0 = 0 → (0 ≤ r 2 ∧ r 2 ≤ 99) ∧ (0 ≤ r 3 ∧ r 3 ≤ 99) ∧ (0 ≤ r 4 ∧ r 4 ≤ 99) ∧ (1 ≤ r 5 ∧ r 5 ≤ 5) ∧ ∀ k : Int, 0 ≤ k → k < r 5 → QLow (r (6 + k)))
def LGo (l : List (Int → Int)) : Prop := ∀ (i : Nat) (r : Int → Int), l[i]? = some r → RowG l i r
/-- the groups that stand are rows of l -/
def SGo (l : List (Int → Int)) : List Int → Prop
  | [] => True
  | g :: st => (∃ (p : Nat) (rp : Int → Int), g = (p : Int) ∧ l[p]? = some rp ∧ rp 0 = 1 ∧ rp 11 = st.length) ∧ SGo l st
theorem get_snoc {l : List (Int → Int)} {x r : Int → Int} {p : Nat} (h : l[p]? = some r) : (l ++ [x])[p]? = some r := by
  rw [List.getElem?_append_left (List.getElem?_eq_some_iff.mp h).1]
  exact h
theorem RowG.snoc {l : List (Int → Int)} {x r : Int → Int} {i : Nat} (h : RowG l i r) : RowG (l ++ [x]) i r := by
  obtain ⟨a, b, c, d⟩ := h
  exact ⟨a, b, c.imp id (fun ⟨p, rp, c1, c2, c3, c4⟩ => ⟨p, rp, c1, c2, get_snoc c3, c4⟩), d⟩
theorem SGo.snoc {l : List (Int → Int)} {x : Int → Int} : ∀ {st : List Int}, SGo l st → SGo (l ++ [x]) st
  | [], _ => trivial
  | _ :: _, ⟨⟨p, rp, a, b, c⟩, h⟩ => ⟨⟨p, rp, a, get_snoc b, c⟩, h.snoc⟩
theorem LGo.snoc {l : List (Int → Int)} {x : Int → Int} (h : LGo l) (hx : RowG l l.length x) : LGo (l ++ [x]) := fun i r hi => by
  rcases Nat.lt_trichotomy i l.length with z | z | z
  · rw [List.getElem?_append_left z] at hi
    exact (h i r hi).snoc
  · rw [z, List.getElem?_append_right (Nat.le_refl _)] at hi
    simp at hi
    rw [← hi, z]
    exact hx.snoc
  · rw [List.getElem?_eq_none (by rw [List.length_append, List.length_singleton]; omega)] at hi
    cases hi
theorem SGo.par {l : List (Int → Int)} {st : List Int} {r1 r11 : Int} (h : SGo l st) (e1 : r1 = par st) (e2 : r11 = st.length) : (r1 = -1 ∧ r11 = 0) ∨ ∃ (p : Nat) (rp : Int → Int), p < l.length ∧ r1 = (p : Int) ∧ l[p]? = some rp ∧ rp 0 = 1 ∧ r11 = rp 11 + 1 := by
  cases st with
  | nil => exact Or.inl ⟨e1, e2⟩
  | cons g st =>
    obtain ⟨⟨p, rp, a, b, c, d⟩, -⟩ := h
    refine Or.inr ⟨p, rp, (List.getElem?_eq_some_iff.mp b).1, e1.trans a, b, c, ?_⟩
    rw [e2, d, List.length_cons]
    omega
theorem pcl_suf {T : Int → Int} {n : Int} {l : List (Int → Int)} : ∀ {st : List Int} {s s' : Int} {st' : List Int}, pcl T n st s = .inr (s', st') → SGo l st → SGo l st' ∧ st'.length ≤ st.length
  | [], s, s', st', h, g => by
    have e := (Prod.mk.inj (Sum.inr.inj (show (Sum.inr (s, []) : Sum Int (Int × List Int)) = .inr (s', st') from h))).2
    rw [← e]
    exact ⟨g, Nat.le_refl _⟩
  | k :: st, s, s', st', h, g => by
    by_cases e1 : hre T n s = 44
    · rw [pcl_44 e1] at h
      have e := (Prod.mk.inj (Sum.inr.inj h)).2
      rw [← e]
      exact ⟨g, Nat.le_refl _⟩
    · by_cases e2 : hre T n s = 93
      · rw [pcl_93 e2] at h
        obtain ⟨a, b⟩ := pcl_suf h g.2
        exact ⟨a, by rw [List.length_cons]; omega⟩
      · rw [pcl_no e1 e2] at h
        cases h
theorem popt_rg {T : Int → Int} {n c s d s' z : Int} (d0 : 0 ≤ d ∧ d ≤ 99) (h : popt T n c s d = .inr (s', z)) : 0 ≤ z ∧ z ≤ 99 := by
  by_cases e : hre T n s = c
  · cases hd : pdig T n (s + 1) with
    | none => rw [popt_e e hd] at h; cases h
    | some p =>
      rw [popt_y e hd] at h
      have e2 := Sum.inr.inj h
      rw [e2] at hd
      exact pdig_rg hd
  · rw [popt_no e] at h
    have e2 := (Prod.mk.inj (Sum.inr.inj h)).2
    rw [← e2]
    exact d0
theorem pleaf_row {T : Int → Int} {n s m pr o s3 : Int} {row : Int → Int} (h : pleaf T n s m pr o = .inr (s3, row)) : m ≠ 0 ∧ ∃ must term gr, row = mkL T s m pr must term gr o ∧ (0 ≤ must ∧ must ≤ 99) ∧ (0 ≤ term ∧ term ≤ 99) ∧ (0 ≤ gr ∧ gr ≤ 99) := by
  by_cases e : m = 0
  · rw [pleaf_0 e] at h; cases h
  · refine ⟨e, ?_⟩
    cases hd : pdig T n (s + m) with
    | none => rw [pleaf_d e hd] at h; cases h
    | some p =>
      obtain ⟨s1, must⟩ := p
      cases h1 : popt T n 60 s1 60 with
      | inl x => rw [pleaf_1 e hd h1] at h; cases h
      | inr p =>
        obtain ⟨s2, term⟩ := p
        cases h2 : popt T n 62 s2 10 with
        | inl x => rw [pleaf_2 e hd h1 h2] at h; cases h
        | inr p =>
          obtain ⟨s4, gr⟩ := p
          rw [pleaf_3 e hd h1 h2] at h
          exact ⟨must, term, gr, (Prod.mk.inj (Sum.inr.inj h)).2.symm, pdig_rg hd, popt_rg (by decide) h1, popt_rg (by decide) h2⟩
theorem pgrp_rg {T : Int → Int} {n s o d : Int} (h : pgrp T n s o = .inr d) : o ≠ 3 ∧ 1 ≤ d ∧ d ≤ 9 := by
  by_cases e : o = 3
  · rw [pgrp_3 e] at h; cases h
  · refine ⟨e, ?_⟩
    by_cases e1 : QIn (hre T n (s + 1)) 49 57
    · by_cases e2 : hre T n (s + 1 + 1) = 58
      · rw [pgrp_y e e1 e2] at h
        have := Sum.inr.inj h
        unfold QIn at e1
        omega
      · rw [pgrp_c e e1 e2] at h; cases h
    · rw [pgrp_d e e1] at h; cases h
theorem RowG.grp {l : List (Int → Int)} {st : List Int} {d : Int} (h : SGo l st) (h3 : st.length ≤ 3) (d0 : 1 ≤ d ∧ d ≤ 9) : RowG l l.length (upz (bgn 1 (par st) st.length) 2 d) := by
  have e0 : upz (bgn 1 (par st) st.length) 2 d 0 = 1 := (upz_ne (by decide)).trans rfl
  have e11 : upz (bgn 1 (par st) st.length) 2 d 11 = st.length := (upz_ne (by decide)).trans rfl
  refine ⟨Or.inr e0, by rw [e11]; omega, h.par ((upz_ne (by decide)).trans rfl) e11, fun _ => ⟨by rw [upz_same]; exact d0, (upz_ne (by decide)).trans rfl, (upz_ne (by decide)).trans rfl, (upz_ne (by decide)).trans rfl⟩, fun z => ?_⟩
  rw [e0] at z
  cases z
theorem mkL_11 {T : Int → Int} {s m pr must term gr o : Int} (m5 : m ≤ 5) : mkL T s m pr must term gr o 11 = o := by
  show (if (6 : Int) ≤ 11 ∧ (11 : Int) < 6 + m then _ else _) = _
  rw [if_neg (by omega)]
  rfl
theorem mkL_k {T : Int → Int} {s m pr must term gr o k : Int} (k0 : 0 ≤ k) (k1 : k < m) : mkL T s m pr must term gr o (6 + k) = T (s + k) := by
  unfold mkL
  rw [if_neg (by omega), if_neg (by omega), if_neg (by omega), if_neg (by omega), if_neg (by omega), if_neg (by omega), if_pos (by omega), show 6 + k - 6 = k by omega]
theorem RowG.leaf {T : Int → Int} {n s m s3 : Int} {l : List (Int → Int)} {st : List Int} {row : Int → Int} (h : SGo l st) (h3 : st.length ≤ 3) (hp : PLt T n s m) (hl : pleaf T n s m (par st) st.length = .inr (s3, row)) : RowG l l.length row := by
  obtain ⟨p1, p2, p3, -⟩ := hp
  obtain ⟨hm, must, term, gr, rfl, a, b, c⟩ := pleaf_row hl
  refine ⟨Or.inl rfl, by rw [mkL_11 p2]; omega, h.par rfl (mkL_11 p2), fun z => ?_, fun _ => ⟨a, b, c, (show 1 ≤ m ∧ m ≤ 5 by omega), fun k k0 k1 => ?_⟩⟩
  · exact absurd (show (0 : Int) = 1 from z) (by decide)
  · have k1 : k < m := k1
    rw [mkL_k k0 k1]
    have := (p3 k k0 k1).1
    unfold hre at this
    split at this
    · exact this
    · unfold QLow at this
      omega
theorem PTop.good {T : Int → Int} {n : Int} : ∀ {f : Nat} {s : Int} {st : List Int} {l l' : List (Int → Int)}, PTop T n f s st l (.inr l') → LGo l → SGo l st → st.length ≤ 3 → LGo l'
  | 0, _, _, _, _, h, _, _, _ => h.elim
  | f + 1, s, st, l, l', h, hL, hS, h3 => by
    rcases h with ⟨a, h⟩ | ⟨a, m, b, h⟩
    · rcases h with ⟨e, c, d⟩ | ⟨d, c, h⟩
      · cases d
      · obtain ⟨d1, d2⟩ := pgrp_rg c
        have hl := List.length_append (as := l) (bs := [upz (bgn 1 (par st) st.length) 2 d])
        refine h.good (hL.snoc (RowG.grp hS h3 d2)) ⟨⟨l.length, upz (bgn 1 (par st) st.length) 2 d, rfl, ?_, by rw [upz_ne (by decide)]; rfl, by rw [upz_ne (by decide)]; rfl⟩, hS.snoc⟩ (by rw [List.length_cons]; omega)
        rw [List.getElem?_append_right (Nat.le_refl _)]
        simp
    · rcases h with ⟨e, c, d⟩ | ⟨s3, row, c, h⟩
      · cases d
      · have hr := RowG.leaf hS h3 b c
        rcases h with ⟨e, x, y⟩ | ⟨s4, st4, x, h⟩
        · cases y
        · rcases h with ⟨p, q, r⟩ | ⟨p, r⟩
          · cases r
            exact hL.snoc hr
          · obtain ⟨y1, y2⟩ := pcl_suf (l := l ++ [row]) x hS.snoc
            exact r.good (hL.snoc hr) y1 (by omega)
theorem PTop.good0 {T : Int → Int} {n : Int} {f : Nat} {s : Int} {l' : List (Int → Int)} (h : PTop T n f s [] [] (.inr l')) : LGo l' := h.good (fun i r hi => by simp at hi) trivial (by decide)
theorem RowG.rw {l : List (Int → Int)} {i : Nat} {r : Int → Int} (h : RowG l i r) : RwB r (i : Int) := by
  obtain ⟨a, b, c, d, e⟩ := h
  have hp : -1 ≤ r 1 ∧ r 1 < i := by
    rcases c with ⟨c, -⟩ | ⟨p, rp, c1, c2, -⟩ <;> omega
  rcases a with a | a
  · obtain ⟨e1, e2, e3, e4, -⟩ := e a
    exact ⟨hp, e1, by omega, by omega, by omega, b⟩
  · obtain ⟨d1, d2, d3, d4⟩ := d a
    exact ⟨hp, by omega, by omega, by omega, by omega, b⟩
theorem LGo.rw {l : List (Int → Int)} (h : LGo l) : ∀ b : Int, 0 ≤ b → b < l.length → RwB (lR l b) b := fun b b0 b1 => by
  have := (h _ _ (lR_get b0 b1)).rw
  rw [Int.toNat_of_nonneg b0] at this
  exact this
theorem LGo.grp {l : List (Int → Int)} (h : LGo l) {b : Int} (b0 : 0 ≤ b) (b1 : b < l.length) : lR l b 0 = 1 ↔ lR l b 5 = 0 := by
  obtain ⟨a, -, -, d, e⟩ := h _ _ (lR_get b0 b1)
  refine ⟨fun z => (d z).2.2.2, fun z => ?_⟩
  rcases a with a | a
  · have := (e a).2.2.2.1
    omega
  · exact a
/-! ===== both sides refuse for the same reasons ===== -/
theorem TRw.row {M : MEM} {l : List (Int → Int)} (h : TRw M l) {b x : Int} (b0 : 0 ≤ b) (b1 : b < l.length) (x0 : 0 ≤ x) (x1 : x < 12) : M 21 (12 * b + x) = lR l b x := by
  have := h _ _ (lR_get b0 b1) x x0 x1
  rw [Int.toNat_of_nonneg b0] at this
  exact this
