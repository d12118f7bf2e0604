/-! ===== a text's blocks ===== -/
/-- the groups that are open, the innermost first, as the array a keeps them -/
def OpS (a : Int → Int) (st : List Int) : Prop := ∀ (i : Nat) (v : Int), st[i]? = some v → a ((st.length : Int) - 1 - i) = v
def par (st : List Int) : Int := match st with
  | [] => -1
  | g :: _ => g
theorem OpS.nil {a : Int → Int} : OpS a [] := fun i v h => by simp at h
theorem OpS.push {a a' : Int → Int} {st : List Int} {k : Int} (h : OpS a st) (h1 : a' st.length = k) (h2 : ∀ i, i ≠ (st.length : Int) → a' i = a i) : OpS a' (k :: st) := by
  intro i v hi
  cases i with
  | zero =>
    have e : k = v := by simpa using hi
    rw [List.length_cons, ← e, ← h1]
    congr 1
    omega
  | succ i =>
    have hi' : st[i]? = some v := by simpa using hi
    have hl : i < st.length := (List.getElem?_eq_some_iff.mp hi').1
    rw [List.length_cons, show ((st.length + 1 : Nat) : Int) - 1 - ((i + 1 : Nat) : Int) = (st.length : Int) - 1 - (i : Int) by omega, h2 _ (by omega)]
    exact h i v hi'
theorem OpS.pop {a : Int → Int} {st : List Int} {k : Int} (h : OpS a (k :: st)) : OpS a st := by
  intro i v hi
  have := h (i + 1) v (by simpa using hi)
  rw [List.length_cons, show ((st.length + 1 : Nat) : Int) - 1 - ((i + 1 : Nat) : Int) = (st.length : Int) - 1 - (i : Int) by omega] at this
  exact this
theorem OpS.par {M : MEM} {st : List Int} (h : OpS (M 24) st) (hl : M 30 23 = st.length) : ppar M = par st := by
  unfold ppar
  cases st with
  | nil => rw [if_pos (by rw [hl]; rfl)]; rfl
  | cons g st =>
    have := h 0 g rfl
    rw [List.length_cons] at this hl
    rw [if_neg (by omega), hl, show ((st.length + 1 : Nat) : Int) - 1 = ((st.length + 1 : Nat) : Int) - 1 - ((0 : Nat) : Int) by omega, this]
    rfl
/-- brackets close, a comma stands -/
def pcl (T : Int → Int) (n : Int) : List Int → Int → Sum Int (Int × List Int)
  | [], s => .inr (s, [])
  | g :: st, s => if hre T n s = 44 then .inr (s + 1, g :: st) else if hre T n s = 93 then pcl T n st (s + 1) else .inl s
/-- a text is read: from s on, with these groups open, these rows read -/
def PTop (T : Int → Int) (n : Int) : Nat → Int → List Int → List (Int → Int) → Sum Int (List (Int → Int)) → Prop
  | 0, _, _, _, _ => False
  | f + 1, s, st, l, R => (hre T n s = 91 ∧ ((∃ e, pgrp T n s st.length = .inl e ∧ R = .inl e) ∨ ∃ d, pgrp T n s st.length = .inr d ∧ PTop T n f (s + 1 + 1 + 1) ((l.length : Int) :: st) (l ++ [upz (bgn 1 (par st) st.length) 2 d]) R)) ∨
    (hre T n s ≠ 91 ∧ ∃ m, PLt T n s m ∧ ((∃ e, pleaf T n s m (par st) st.length = .inl e ∧ R = .inl e) ∨ ∃ s3 row, pleaf T n s m (par st) st.length = .inr (s3, row) ∧
      ((∃ e, pcl T n st s3 = .inl e ∧ R = .inl e) ∨ ∃ s4 st4, pcl T n st s3 = .inr (s4, st4) ∧ ((st4 = [] ∧ ¬ s4 < n ∧ R = .inr (l ++ [row])) ∨ (¬ (st4 = [] ∧ ¬ s4 < n) ∧ PTop T n f s4 st4 (l ++ [row]) R)))))
theorem PTop.uniq {T : Int → Int} {n : Int} : ∀ {f f' : Nat} {s : Int} {st : List Int} {l : List (Int → Int)} {R R' : Sum Int (List (Int → Int))}, PTop T n f s st l R → PTop T n f' s st l R' → R = R'
  | 0, _, _, _, _, _, _, h, _ => h.elim
  | _ + 1, 0, _, _, _, _, _, _, h => h.elim
  | f + 1, f' + 1, s, st, l, R, R', h, h' => by
    rcases h with ⟨a, h⟩ | ⟨a, m, b, h⟩ <;> rcases h' with ⟨a', h'⟩ | ⟨a', m', b', h'⟩
    · rcases h with ⟨e, c, d⟩ | ⟨d, c, h⟩ <;> rcases h' with ⟨e', c', d'⟩ | ⟨d', c', h'⟩ <;> rw [c] at c'
      · cases c'; rw [d, d']
      · cases c'
      · cases c'
      · cases c'; exact h.uniq h'
    · exact absurd a a'
    · exact absurd a' a
    · obtain rfl := b.uniq b'
      rcases h with ⟨e, c, d⟩ | ⟨s3, row, c, h⟩ <;> rcases h' with ⟨e', c', d'⟩ | ⟨s3', row', c', h'⟩ <;> rw [c] at c'
      · cases c'; rw [d, d']
      · cases c'
      · cases c'
      · cases c'
        rcases h with ⟨e, x, y⟩ | ⟨s4, st4, x, h⟩ <;> rcases h' with ⟨e', x', y'⟩ | ⟨s4', st4', x', h'⟩ <;> rw [x] at x'
        · cases x'; rw [y, y']
        · cases x'
        · cases x'
        · cases x'
          rcases h with ⟨p, q, r⟩ | ⟨p, r⟩ <;> rcases h' with ⟨p', q', r'⟩ | ⟨p', r'⟩
          · rw [r, r']
          · exact absurd ⟨p, q⟩ p'
          · exact absurd ⟨p', q'⟩ p
          · exact r.uniq r'
def PFo (M : MEM) (st : List Int) (r : Int) (M' : MEM) : Prop := RG M' ∧ SB [] [18, 23] M M' ∧ M 30 18 ≤ M' 30 18 ∧ M' 30 18 ≤ M 30 17 ∧ ((∃ e, pcl (M 16) (M 30 17) st (M 30 18) = .inl e ∧ r = 0 ∧ M' 30 18 = e ∧ 0 < M' 30 23) ∨
  ∃ s' st', pcl (M 16) (M 30 17) st (M 30 18) = .inr (s', st') ∧ M' 30 18 = s' ∧ M' 30 23 = st'.length ∧ st'.length ≤ st.length ∧ OpS (M 24) st' ∧ ((r = 1 ∧ ¬ (st' = [] ∧ ¬ s' < M 30 17)) ∨ (r = 0 ∧ st' = [] ∧ ¬ s' < M 30 17)))
set_option maxRecDepth 100000 in
set_option maxHeartbeats 4000000 in
theorem l_follows (κ : KP) {A : Nat → Nat} (h : AH) (hA : MA A) : ∀ (st : List Int) (M : MEM), RG M → TX M → OpS (M 24) st → M 30 23 = st.length → st.length ≤ 3 → WW κ mX10_follows 3 0 0 (fun v h' => ∃ r M', v = some (.int (J r)) ∧ h' = mset A M' h ∧ PFo M st r M') NoX 0 [some (.ref (A 30))] [] (mset A M h)
  | [], M, hR, hT, hO, hl, h3 => by
    refine r_al0 dX10_follows_0 ?_
    refine m_get dX10_follows_1 f_X10_193 hA rfl ?_
    rw [hl]
    refine r_if_le (tgt := 42) dX10_follows_4 (by decide) (by decide) (fun c => ?_) (fun c => absurd c (by decide))
    refine r_al0 dX10_follows_42 ?_
    refine m_get dX10_follows_43 f_X10_181 hA rfl ?_
    refine r_al0 dX10_follows_46 ?_
    refine m_get dX10_follows_47 f_X10_178 hA rfl ?_
    refine r_icmp_ge (tgt := 57) dX10_follows_50 (by decide) (by exact hR _ _) (by exact hR _ _) (fun c => ?_) (fun c => ?_)
    · refine r_iconst dX10_follows_57 ?_
      exact r_iret dX10_follows_58 (ty := .boolean) rfl (by decide) ⟨_, _, rfl, rfl, hR, SB.rf, Int.le_refl _, hT.2.1, Or.inr ⟨_, [], rfl, rfl, hl, Nat.le_refl _, hO, Or.inr ⟨rfl, rfl, by omega⟩⟩⟩
    · refine r_iconst dX10_follows_53 ?_
      refine r_goto (tgt := 58) dX10_follows_54 (by decide) ?_
      exact r_iret dX10_follows_58 (ty := .boolean) rfl (by decide) ⟨_, _, rfl, rfl, hR, SB.rf, Int.le_refl _, hT.2.1, Or.inr ⟨_, [], rfl, rfl, hl, Nat.le_refl _, hO, Or.inl ⟨rfl, fun z => z.2 (by omega)⟩⟩⟩
  | g :: st, M, hR, hT, hO, hl, h3 => by
    have hT' := hT
    obtain ⟨t0, t1, t2⟩ := hT'
    rw [List.length_cons] at hl h3
    refine r_al0 dX10_follows_0 ?_
    refine m_get dX10_follows_1 f_X10_193 hA rfl ?_
    refine r_if_le (tgt := 42) dX10_follows_4 (by decide) (by exact hR _ _) (fun c => absurd c (by omega)) (fun c => ?_)
    refine r_al0 dX10_follows_7 ?_
    refine r_bipush dX10_follows_8 (by decide) ?_
    refine m_callR1 dX10_follows_10 v_X10_205 hA (c_skips κ hA hR hT (c := 44) (by decide)) (by decide) rfl (fun r1 M1 h1 => ?_)
    rcases h1 with ⟨a1, rfl, rfl⟩ | ⟨a1, rfl, e1⟩
    · have hs : M 30 18 < M 30 17 := hre_in (T := M 16) (by rw [a1]; decide)
      refine r_if_eq (tgt := 18) dX10_follows_13 (by decide) (by decide) (fun c => absurd c (by decide)) (fun c => ?_)
      refine r_iconst dX10_follows_16 ?_
      exact r_iret dX10_follows_17 (ty := .boolean) rfl (by decide) ⟨_, _, rfl, rfl, RG.up hR (by omega), SB.upF SB.rf (by decide), by rw [updm_at]; omega, by rw [updm_at]; omega, Or.inr ⟨_, g :: st, if_pos a1, updm_at, by rw [updm_ne (by decide), List.length_cons]; exact hl, Nat.le_refl _, hO, Or.inl ⟨rfl, fun z => by cases z.1⟩⟩⟩
    · rw [e1]
      refine r_if_eq (tgt := 18) dX10_follows_13 (by decide) (by decide) (fun c => ?_) (fun c => absurd rfl c)
      refine r_al0 dX10_follows_18 ?_
      refine r_bipush dX10_follows_19 (by decide) ?_
      refine m_callR1 dX10_follows_21 v_X10_205 hA (c_skips κ hA hR hT (c := 93) (by decide)) (by decide) rfl (fun r1 M1 h1 => ?_)
      rcases h1 with ⟨a2, rfl, rfl⟩ | ⟨a2, rfl, e2⟩
      · have hs : M 30 18 < M 30 17 := hre_in (T := M 16) (by rw [a2]; decide)
        have e : pcl (M 16) (M 30 17) (g :: st) (M 30 18) = pcl (M 16) (M 30 17) st (M 30 18 + 1) := by
          show (if _ then _ else if _ then _ else _) = _
          rw [if_neg a1, if_pos a2]
        refine r_if_ne (tgt := 29) dX10_follows_24 (by decide) (by decide) (fun c => ?_) (fun c => absurd c (by decide))
        refine r_al0 dX10_follows_29 ?_
        refine r_dup dX10_follows_30 rfl ?_
        refine m_get dX10_follows_31 f_X10_193 hA rfl ?_
        refine r_iconst dX10_follows_34 ?_
        refine r_isub dX10_follows_35 ?_
        refine m_put dX10_follows_36 f_X10_193 p_X10_193 (ff_14_23 _) hA mfp_23 rfl rfl ?_
        refine r_goto (tgt := 0) dX10_follows_39 (by decide) ?_
        rw [updm_ne (show ¬ (30 = 30 ∧ (23 : Int) = 18) by decide)]
        have hI := l_follows κ h hA st (updm (updm M 30 18 (M 30 18 + 1)) 30 23 (M 30 23 - 1)) (RG.up (RG.up hR (by omega)) (by omega)) ?_ ?_ ?_ (by omega)
        · refine ww_postR (fun r M' q => ?_) hI
          obtain ⟨q1, q2, q3, q4, q5⟩ := q
          have z16 : (updm (updm M 30 18 (M 30 18 + 1)) 30 23 (M 30 23 - 1)) 16 = M 16 := by rw [updm_k (by decide), updm_k (by decide)]
          have z24 : (updm (updm M 30 18 (M 30 18 + 1)) 30 23 (M 30 23 - 1)) 24 = M 24 := by rw [updm_k (by decide), updm_k (by decide)]
          have z17 : (updm (updm M 30 18 (M 30 18 + 1)) 30 23 (M 30 23 - 1)) 30 17 = M 30 17 := by rw [updm_ne (by decide), updm_ne (by decide)]
          have z18 : (updm (updm M 30 18 (M 30 18 + 1)) 30 23 (M 30 23 - 1)) 30 18 = M 30 18 + 1 := by rw [updm_ne (by decide), updm_at]
          rw [z18] at q3
          rw [z17] at q4
          rw [z16, z17, z18, z24] at q5
          refine ⟨q1, (SB.upF (SB.upF SB.rf (by decide) : SB [] [18, 23] M (updm M 30 18 (M 30 18 + 1))) (by decide)).trans q2 |>.mono (by decide) (by decide), by omega, q4, ?_⟩
          rw [e]
          rcases q5 with q5 | ⟨s', st', x1, x2, x3, x4, x5, x6⟩
          · exact Or.inl q5
          · exact Or.inr ⟨s', st', x1, x2, x3, by rw [List.length_cons]; omega, x5, x6⟩
        · exact ⟨by rw [updm_ne (by decide), updm_at]; omega, by rw [updm_ne (by decide), updm_at, updm_ne (by decide), updm_ne (by decide)]; omega, by rw [updm_ne (by decide), updm_ne (by decide)]; exact t2⟩
        · rw [updm_k (by decide), updm_k (by decide)]; exact hO.pop
        · rw [updm_at]; omega
      · rw [e2]
        refine r_if_ne (tgt := 29) dX10_follows_24 (by decide) (by decide) (fun c => absurd rfl c) (fun c => ?_)
        refine r_iconst dX10_follows_27 ?_
        refine r_iret dX10_follows_28 (ty := .boolean) rfl (by decide) ⟨_, _, rfl, rfl, hR, SB.rf, Int.le_refl _, t1, Or.inl ⟨_, ?_, rfl, rfl, by omega⟩⟩
        show (if _ then _ else if _ then _ else _) = _
        rw [if_neg a1, if_neg a2]
theorem c_follows (κ : KP) {A : Nat → Nat} {M : MEM} (hA : MA A) (hR : RG M) (hT : TX M) {st : List Int} (hO : OpS (M 24) st) (hl : M 30 23 = st.length) (h3 : st.length ≤ 3) : RM κ mX10_follows 3 A [.ref (A 30)] M (PFo M st) := by
  intro h
  refine mm_of (L := [some _]) (by decide +kernel) rfl rfl (Nat.le_of_ble_eq_true rfl) rfl ?_
  exact l_follows κ h hA st M hR hT hO hl h3
