/-! ===== one answer each, more ===== -/
theorem qunu_cong {g u v : Int → Int} (h : EQU (g 1) u v) : qunu g u = qunu g v := sz_cong fun c c0 c1 => by rw [h c c0 c1]
theorem uq_lacks {g : Int → Int} (hW : WF g) {b : Int} : UQ (R_lacks g b) := by
  rintro t r t' r' (⟨a, b⟩ | ⟨a, d, b⟩ | ⟨a, d, b, u, hu, e⟩) (⟨a', b'⟩ | ⟨a', d', b'⟩ | ⟨a', d', b', v, hv, e'⟩)
  · exact ⟨b.trans b'.symm, fun z => by omega⟩
  · exact absurd a' a
  · exact absurd a' a
  · exact absurd a a'
  · exact ⟨b.trans b'.symm, fun z => by omega⟩
  · exact absurd d d'
  · exact absurd a a'
  · exact absurd d' d
  · have hE := FM.uniq hW hu hv
    refine ⟨b.trans b'.symm, fun _ => ?_⟩
    rw [← qmet_cong hE, ← qgets_cong hE] at e'
    rcases e with ⟨m, y⟩ | ⟨m, y⟩ <;> rcases e' with ⟨m', y'⟩ | ⟨m', y'⟩
    · rw [y, y']
    · exact absurd m m'
    · exact absurd m' m
    · rw [y, y']
theorem uq_account {g : Int → Int} (hW : WF g) {x : Int} : UQ (R_account g x) := by
  rintro t r t' r' (⟨a, b⟩ | ⟨a, b, u, hu, e⟩) (⟨a', b'⟩ | ⟨a', b', v, hv, e'⟩)
  · exact ⟨b.trans b'.symm, fun z => by omega⟩
  · exact absurd a' a
  · exact absurd a a'
  · have hE := FM.uniq hW hu hv
    refine ⟨b.trans b'.symm, fun _ => ?_⟩
    rw [← qroots_cong hE, ← qleav_cong hE, ← qgiv_cong hE, ← qunu_cong hE] at e'
    rcases e with ⟨x0, x1, y⟩ | ⟨x0, y⟩ | ⟨x0, y⟩ | ⟨x0, y⟩ | ⟨x0, y⟩ | ⟨x0, y⟩ | ⟨x0, y⟩ | ⟨x0, y⟩ <;> rcases e' with ⟨z0, z1, y'⟩ | ⟨z0, y'⟩ | ⟨z0, y'⟩ | ⟨z0, y'⟩ | ⟨z0, y'⟩ | ⟨z0, y'⟩ | ⟨z0, y'⟩ | ⟨z0, y'⟩ <;> first | omega | rw [y, y']
theorem uq_lapses {g : Int → Int} (hW : WF g) : UQ (R_lapses g) := by
  have hn := hW.n
  rintro t r t' r' ⟨had, hh, h⟩ ⟨had', hh', h'⟩
  obtain rfl := hh.uniq hW hh'
  have no : ∀ z : Int, g 0 < z → z ≤ 60 → (∃ n, QRo (upz g 0 z) n ∧ n < had) → (∃ n, QRo (upz g 0 z) n ∧ had ≤ n) → False := fun z z0 z1 ⟨n, a, b⟩ ⟨m, c, d⟩ => by
    have := a.uniq (hW.yr ⟨by omega, z1⟩) c
    omega
  rcases h with ⟨b, r0, r1, x, y⟩ | ⟨b, y⟩ <;> rcases h' with ⟨b', r0', r1', x', y'⟩ | ⟨b', y'⟩
  · refine ⟨b.trans b'.symm, fun _ => ?_⟩
    rcases (show r < r' ∨ r = r' ∨ r' < r by omega) with z | z | z
    · exact (no r r0 r1 x (y' r r0 z)).elim
    · exact z
    · exact (no r' r0' r1' x' (y r' r0' z)).elim
  · exact (no r r0 r1 x (y' r r0 r1)).elim
  · exact (no r' r0' r1' x' (y r' r0' r1')).elim
  · exact ⟨b.trans b'.symm, fun z => by omega⟩
theorem uq_block {g : Int → Int} {b i : Int} : UQ (R_block g b i) := by
  rintro t r t' r' (⟨a, c⟩ | ⟨a, d, c⟩ | ⟨a, c, e⟩) (⟨a', c'⟩ | ⟨a', d', c'⟩ | ⟨a', c', e'⟩)
  · exact ⟨c.trans c'.symm, fun z => by omega⟩
  · exact absurd a' a
  · exact absurd a' a
  · exact absurd a a'
  · exact ⟨c.trans c'.symm, fun z => by omega⟩
  · refine absurd ?_ d
    unfold QIn
    rcases e' with ⟨x0, -⟩ | ⟨x0, -⟩ | ⟨x0, -⟩ | ⟨x0, -⟩ | ⟨x0, -⟩ | ⟨x0, x1, -⟩ <;> omega
  · exact absurd a a'
  · refine absurd ?_ d'
    unfold QIn
    rcases e with ⟨x0, -⟩ | ⟨x0, -⟩ | ⟨x0, -⟩ | ⟨x0, -⟩ | ⟨x0, -⟩ | ⟨x0, x1, -⟩ <;> omega
  · refine ⟨c.trans c'.symm, fun _ => ?_⟩
    rcases e with ⟨x0, y⟩ | ⟨x0, y⟩ | ⟨x0, q, y⟩ | ⟨x0, q, y⟩ | ⟨x0, y⟩ | ⟨x0, x1, y⟩ <;> rcases e' with ⟨z0, y'⟩ | ⟨z0, y'⟩ | ⟨z0, q', y'⟩ | ⟨z0, q', y'⟩ | ⟨z0, y'⟩ | ⟨z0, z1, y'⟩ <;> first | omega | exact absurd q q' | exact absurd q' q | rw [y, y']
