/-! ===== one answer each: equivalences ===== -/
theorem QFin.uniq {g : Int → Int} {e P gr y r r' : Int} {g1 g2 : Int → Int} (h : QFin g e P gr y r g1) (h' : QFin g e P gr y r' g2) : r = r' ∧ g1 = g2 := by
  rcases h with ⟨a, b, c⟩ | ⟨a, b, c⟩ <;> rcases h' with ⟨a', b', c'⟩ | ⟨a', b', c'⟩
  · exact ⟨b.trans b'.symm, c.trans c'.symm⟩
  · exact absurd a a'
  · exact absurd a' a
  · exact ⟨b.trans b'.symm, c.trans c'.symm⟩
theorem QAp1.uniq {g : Int → Int} {e P gr y r r' : Int} {g1 g2 : Int → Int} (h : QAp1 g e P gr y r g1) (h' : QAp1 g e P gr y r' g2) : r = r' ∧ g1 = g2 := by
  rcases h with ⟨a, h⟩ | ⟨a, c, q, c0, h⟩ <;> rcases h' with ⟨a', h'⟩ | ⟨a', c', q', c0', h'⟩
  · exact h.uniq h'
  · exact absurd a a'
  · exact absurd a' a
  · obtain rfl := q.uniq q'
    exact h.uniq h'
theorem QAp.uniq {g : Int → Int} {e r r' : Int} {g1 g2 : Int → Int} (h : QAp g e r g1) (h' : QAp g e r' g2) : r = r' ∧ g1 = g2 := by
  obtain ⟨c, q, c0, h⟩ := h
  obtain ⟨c', q', c0', h'⟩ := h'
  obtain rfl := q.uniq q'
  exact QAp1.uniq h h'
theorem QRb.uniq {g : Int → Int} {e n n' : Int} (hC : CW g) (e0 : 0 ≤ e) (e1 : e < g 2) (h : QRb g e n) (h' : QRb g e n') : n = n' := by
  rcases h with ⟨a, b⟩ | ⟨a, r1, g1, u, b, c, d⟩ <;> rcases h' with ⟨a', b'⟩ | ⟨a', r2, g2, v, b', c', d'⟩
  · exact b.trans b'.symm
  · exact absurd a' a
  · exact absurd a a'
  · obtain ⟨-, rfl⟩ := b.uniq b'
    rw [d, d']
    exact qroots_cong (FM.uniq (hC.ap e0 e1 a b).1 c c')
theorem uq_rootsBy {g : Int → Int} (hC : CW g) {e : Int} : UQ (R_rootsBy g e) := by
  rintro t r t' r' (⟨a, b⟩ | ⟨a, d, b⟩ | ⟨a, b, d, h⟩) (⟨a', b'⟩ | ⟨a', d', b'⟩ | ⟨a', b', d', h'⟩)
  · exact ⟨b.trans b'.symm, fun z => by omega⟩
  · exact absurd a' a
  · exact absurd a' a
  · exact absurd a a'
  · exact ⟨b.trans b'.symm, fun z => by omega⟩
  · exact absurd d' d
  · exact absurd a a'
  · exact absurd d d'
  · unfold QIn at a
    exact ⟨b.trans b'.symm, fun _ => h.uniq hC (by omega) (by omega) h'⟩
theorem QBs.uniq {g : Int → Int} (hC : CW g) {is most is' most' : Int} (h : QBs g (g 2) is most) (h' : QBs g (g 2) is' most') : is = is' := by
  rcases h with ⟨a, b, c⟩ | ⟨a0, a1, b, c, d⟩ <;> rcases h' with ⟨a', b', c'⟩ | ⟨a0', a1', b', c', d'⟩
  · exact a.trans a'.symm
  · have := c'.uniq hC a0' a1' (c is' a0' a1')
    omega
  · have := c.uniq hC a0 a1 (c' is a0 a1)
    omega
  · obtain ⟨n, x, y, z⟩ := d is' a0' a1'
    obtain ⟨n', x', y', z'⟩ := d' is a0 a1
    have e1 := x.uniq hC a0' a1' c'
    have e2 := x'.uniq hC a0 a1 c
    rcases (show is < is' ∨ is = is' ∨ is' < is by omega) with w | w | w
    · have := z' w
      omega
    · exact w
    · have := z w
      omega
theorem uq_best {g : Int → Int} (hC : CW g) : UQ (R_best g) := by
  rintro t r t' r' ⟨is, most, h, e⟩ ⟨is', most', h', e'⟩
  have := h.uniq hC h'
  omega
