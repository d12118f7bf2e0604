/-! ===== one answer each: layers, why, part ===== -/
theorem QLc.eqU {g u v : Int → Int} (h : EQU (g 1) u v) {b c : Int} (c0 : 0 ≤ c) (c1 : c < g 1) : QLc g u b c ↔ QLc g v b c := by
  unfold QLc
  rw [h c c0 c1]
theorem LyR.eqU {g u v : Int → Int} (hE : EQU (g 1) u v) : ∀ {f : Nat} {b : Int} {l : List (Int × Int)}, LyR g u f b l → LyR g v f b l
  | 0, _, _, h => h.elim
  | f + 1, b, l, h => by
    rcases h with ⟨a, k, l', x, y, z⟩ | ⟨a, h⟩
    · refine Or.inl ⟨a, k, l', ⟨x.1, x.2.1, x.2.2.1, fun z => x.2.2.2.1 ((qmet_cong hE k).mpr z), fun j a b c => (qmet_cong hE j).mp (x.2.2.2.2 j a b c)⟩, y.eqU hE, ?_⟩
      rw [z, show sz (fP g u b) (g 3) = sz (fP g v b) (g 3) from sz_cong fun k _ _ => bP_cong (and_congr_right fun _ => qmet_cong hE k)]
    · refine Or.inr ⟨a, ?_⟩
      rw [← qgets_cong hE]
      rcases h with ⟨x, y⟩ | ⟨c, c0, c1, x, y, z⟩
      · exact Or.inl ⟨x, fun c c0 c1 z => y c c0 c1 ((QLc.eqU hE c0 c1).mpr z)⟩
      · refine Or.inr ⟨c, c0, c1, (QLc.eqU hE c0 c1).mp x, fun j j0 j1 w => y j j0 j1 ((QLc.eqU hE j0 (by omega)).mpr w), ?_⟩
        rw [z, show QLk g u b c = QLk g v b c from by unfold QLk; rw [hE c c0 c1]]
theorem QLy.one {g u v : Int → Int} (hE : EQU (g 1) u v) {b : Int} {l l' : List (Int × Int)} (h : QLy g u b l) (h' : QLy g v b l') : l = l' := by
  rcases h with ⟨m, e⟩ | ⟨m, e⟩ <;> rcases h' with ⟨m', e'⟩ | ⟨m', e'⟩
  · rw [e, e']
  · exact absurd ((qmet_cong hE b).mp m) m'
  · exact absurd ((qmet_cong hE b).mpr m') m
  · exact (e.eqU hE).uniq e'
theorem uq_layers {g : Int → Int} (hW : WF g) {b : Int} : UQ (R_layers g b) := by
  rintro t r t' r' (⟨a, b⟩ | ⟨a, b, u, l, hu, hl, e⟩) (⟨a', b'⟩ | ⟨a', b', v, l', hv, hl', e'⟩)
  · exact ⟨b.trans b'.symm, fun z => by omega⟩
  · exact absurd a' a
  · exact absurd a a'
  · obtain rfl := QLy.one (FM.uniq hW hu hv) hl hl'
    exact ⟨b.trans b'.symm, fun _ => e.trans e'.symm⟩
theorem uq_why {g : Int → Int} (hW : WF g) {b a x : Int} : UQ (R_why g b a x) := by
  rintro t r t' r' (⟨a, b⟩ | ⟨a, u, l, hu, hl, e⟩) (⟨a', b'⟩ | ⟨a', v, l', hv, hl', e'⟩)
  · exact ⟨b.trans b'.symm, fun z => by omega⟩
  · exact absurd a' a
  · exact absurd a a'
  · obtain rfl := QLy.one (FM.uniq hW hu hv) hl hl'
    rcases e with ⟨p, q⟩ | ⟨p, s, q⟩ | ⟨p, s, q, y, z, w, e⟩ <;> rcases e' with ⟨p', q'⟩ | ⟨p', s', q'⟩ | ⟨p', s', q', y', z', w', e'⟩
    · exact ⟨q.trans q'.symm, fun z => by omega⟩
    · exact absurd p' p
    · exact absurd p' p
    · exact absurd p p'
    · exact ⟨q.trans q'.symm, fun z => by omega⟩
    · exact absurd s' s
    · exact absurd p p'
    · exact absurd s s'
    · rw [w] at w'
      cases w'
      exact ⟨q.trans q'.symm, fun _ => e.trans e'.symm⟩
theorem qpb_lt {g : Int → Int} {b r k : Int} (r0 : 0 ≤ r) (hr : g (60 + 12 * r + 1) = b) (h : r < k) : qpb g b r < qpb g b k := by
  have h1 : qpb g b (r + 1) = qpb g b r + 1 := by
    unfold qpb
    rw [sz_1 r0, bP_t hr]
  have h2 : ∀ n : Nat, qpb g b (r + 1) ≤ qpb g b (r + 1 + n) := fun n => by
    induction n with
    | zero => exact Int.le_of_eq (by rw [show r + 1 + ((0 : Nat) : Int) = r + 1 by omega])
    | succ n ih =>
      have h3 : qpb g b (r + 1 + n + 1) = qpb g b (r + 1 + n) + bP (g (60 + 12 * (r + 1 + n) + 1) = b) := by
        unfold qpb
        rw [sz_1 (by omega)]
      have h4 := bP_01 (g (60 + 12 * (r + 1 + n) + 1) = b)
      rw [show r + 1 + ((n + 1 : Nat) : Int) = r + 1 + n + 1 by omega]
      omega
  have := h2 (k - (r + 1)).toNat
  rw [show r + 1 + ((k - (r + 1)).toNat : Int) = k by omega] at this
  omega
theorem uq_part {g : Int → Int} {b i : Int} : UQ (R_part g b i) := by
  have no : ∀ r, 0 ≤ r → r < g 3 → g (60 + 12 * r + 1) = b → qpb g b r = i → 0 ≤ i ∧ i < qpb g b (g 3) := fun r r0 r1 h e => by
    have h1 := qpb_lt r0 h r1
    have h2 := (qpb_bd (g := g) (b := b) r0).1
    omega
  rintro t r t' r' (⟨a, c⟩ | ⟨a, d, c⟩ | ⟨a, c, r0, r1, h, e⟩) (⟨a', c'⟩ | ⟨a', d', c'⟩ | ⟨a', c', r0', r1', h', e'⟩)
  · exact ⟨c.trans c'.symm, fun z => by omega⟩
  · exact absurd a' a
  · exact absurd a' a
  · exact absurd a a'
  · exact ⟨c.trans c'.symm, fun z => by omega⟩
  · exact absurd (no r' r0' r1' h' e') d
  · exact absurd a a'
  · exact absurd (no r r0 r1 h e) d'
  · refine ⟨c.trans c'.symm, fun _ => ?_⟩
    rcases (show r < r' ∨ r = r' ∨ r' < r by omega) with z | z | z
    · have := qpb_lt r0 h z
      omega
    · exact z
    · have := qpb_lt r0' h' z
      omega
