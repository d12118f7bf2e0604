/-! ===== the brackets that come before a leaf ===== -/
/-- groups are read from s on; the outcome: where it fails, or the place, the groups, the rows -/
def POp (T : Int → Int) (n : Int) : Nat → Int → List Int → List (Int → Int) → Sum Int (Int × List Int × List (Int → Int)) → Prop
  | 0, _, _, _, _ => False
  | f + 1, s, st, l, R => (hre T n s ≠ 91 ∧ R = .inr (s, st, l)) ∨ (hre T n s = 91 ∧ ((∃ e, pgrp T n s st.length = .inl e ∧ R = .inl e) ∨ ∃ d, pgrp T n s st.length = .inr d ∧ POp T n f (s + 1 + 1 + 1) ((l.length : Int) :: st) (l ++ [upz (bgn 1 (par st) st.length) 2 d]) R))
theorem POp.bad {T : Int → Int} {n e : Int} : ∀ {f : Nat} {s : Int} {st : List Int} {l : List (Int → Int)}, POp T n f s st l (.inl e) → ∃ F, PTop T n F s st l (.inl e)
  | 0, _, _, _, h => h.elim
  | f + 1, s, st, l, h => by
    rcases h with ⟨-, h⟩ | ⟨a, ⟨e', b, c⟩ | ⟨d, b, h⟩⟩
    · cases h
    · exact ⟨1, Or.inl ⟨a, Or.inl ⟨e', b, by rw [Sum.inl.inj c]⟩⟩⟩
    · obtain ⟨F, hF⟩ := POp.bad h
      exact ⟨F + 1, Or.inl ⟨a, Or.inr ⟨d, b, hF⟩⟩⟩
theorem POp.go {T : Int → Int} {n : Int} {s' : Int} {st' : List Int} {l' : List (Int → Int)} {R : Sum Int (List (Int → Int))} : ∀ {f : Nat} {s : Int} {st : List Int} {l : List (Int → Int)}, POp T n f s st l (.inr (s', st', l')) → (∃ F, PTop T n F s' st' l' R) → ∃ F, PTop T n F s st l R
  | 0, _, _, _, h, _ => h.elim
  | f + 1, s, st, l, h, k => by
    rcases h with ⟨-, h⟩ | ⟨a, ⟨e', b, c⟩ | ⟨d, b, h⟩⟩
    · cases h
      exact k
    · cases c
    · obtain ⟨F, hF⟩ := POp.go h k
      exact ⟨F + 1, Or.inl ⟨a, Or.inr ⟨d, b, hF⟩⟩⟩
theorem POp.stop {T : Int → Int} {n : Int} {s' : Int} {st' : List Int} {l' : List (Int → Int)} : ∀ {f : Nat} {s : Int} {st : List Int} {l : List (Int → Int)}, POp T n f s st l (.inr (s', st', l')) → hre T n s' ≠ 91
  | 0, _, _, _, h => h.elim
  | f + 1, s, st, l, h => by
    rcases h with ⟨a, h⟩ | ⟨a, ⟨e', b, c⟩ | ⟨d, b, h⟩⟩
    · cases h
      exact a
    · cases c
    · exact POp.stop h
/-- the rows that were read lie in the class's row of blocks -/
def RdL (κ : KP) (H : AH) (S : CST) (l : List (Int → Int)) : Prop := S 1 5 = l.length ∧ ∀ (i : Nat) (r : Int → Int), l[i]? = some r → ∃ a : Nat, S 9 i = (a : Int) ∧ BlR κ H a r
theorem RdL.fx {κ : KP} {H H' : AH} {S S' : CST} {l : List (Int → Int)} (x : Fx H H') (h1 : S' 1 5 = S 1 5) (h2 : S' 9 = S 9) (h : RdL κ H S l) : RdL κ H' S' l := ⟨h1.trans h.1, fun i r hi => by
  obtain ⟨a, b, c⟩ := h.2 i r hi
  exact ⟨a, by rw [h2]; exact b, c.fx x⟩⟩
theorem RdL.push {κ : KP} {H : AH} {S S' : CST} {l : List (Int → Int)} {a : Nat} {row : Int → Int} (h : RdL κ H S l) (h1 : S' 1 5 = S 1 5 + 1) (h2 : S' 9 (S 1 5) = (a : Int)) (h3 : ∀ i : Int, i ≠ S 1 5 → S' 9 i = S 9 i) (hb : BlR κ H a row) : RdL κ H S' (l ++ [row]) := by
  obtain ⟨e, h⟩ := h
  refine ⟨by rw [h1, e, List.length_append, List.length_singleton]; omega, fun i r hi => ?_⟩
  rcases Nat.lt_trichotomy i l.length with z | z | z
  · rw [List.getElem?_append_left z] at hi
    obtain ⟨b, x, y⟩ := h i r hi
    exact ⟨b, by rw [h3 _ (by omega)]; exact x, y⟩
  · rw [z, List.getElem?_append_right (Nat.le_refl _)] at hi
    simp at hi
    rw [← hi]
    exact ⟨a, by rw [z, ← e]; exact h2, hb⟩
  · rw [List.getElem?_eq_none (by rw [List.length_append, List.length_singleton]; omega)] at hi
    cases hi
