/-! ===== findLayers ===== -/
theorem LyM.nil {M : MEM} {p : Int} : LyM M p [] := fun i x y h => by simp at h
theorem LyM.cons {M : MEM} {p a b : Int} {l : List (Int × Int)} (h1 : M 25 (2 * p) = a) (h2 : M 25 (2 * p + 1) = b) (h : LyM M (p + 1) l) : LyM M p ((a, b) :: l) := by
  intro i x y hi
  cases i with
  | zero =>
    have e : (a, b) = (x, y) := by simpa using hi
    cases e
    rw [show p + ((0 : Nat) : Int) = p by omega]
    exact ⟨h1, h2⟩
  | succ i =>
    have := h i x y (by simpa using hi)
    rw [show p + ((i + 1 : Nat) : Int) = p + 1 + (i : Int) by omega]
    exact this
theorem LyR.leaf1 {g u : Int → Int} {b p : Int} (hp : p ≤ 3) (hG : ¬ QGr g b) (hno : ∀ c, 0 ≤ c → c < g 1 → ¬ QLc g u b c) : LyR g u (4 - p).toNat b [(2, g (60 + 12 * b + 2) - qgets g u b)] := by
  rw [show (4 - p).toNat = (3 - p).toNat + 1 by omega]
  exact Or.inr ⟨hG, Or.inl ⟨rfl, hno⟩⟩
theorem LyR.leaf2 {g u : Int → Int} {b p c : Int} (hp : p ≤ 3) (hG : ¬ QGr g b) (c0 : 0 ≤ c) (c1 : c < g 1) (hc : QLc g u b c) (hno : ∀ j, 0 ≤ j → j < c → ¬ QLc g u b j) : LyR g u (4 - p).toNat b [(2, g (60 + 12 * b + 2) - qgets g u b), (QLk g u b c, c)] := by
  rw [show (4 - p).toNat = (3 - p).toNat + 1 by omega]
  exact Or.inr ⟨hG, Or.inr ⟨c, c0, c1, hc, hno, rfl⟩⟩
def PLy (M : MEM) (E : Int → Int) (b p : Int) (M' : MEM) : Prop := RG M' ∧ SB [25] [26] M M' ∧ ∃ l, LyR (M 0) (M 10) (4 - p).toNat b l ∧ M' 30 26 = p + l.length ∧ LyM M' p l ∧ ∀ j, j < 2 * p → M' 25 j = E j
theorem QW.of {g u : Int → Int} {M M' : MEM} (h : QW g u M) (hs : SB [25] [26] M M') : QW g u M' := by
  unfold QW
  rw [hs.1 11 (by decide) (by decide), hs.1 12 (by decide) (by decide), hs.2 13 (by decide), hs.2 14 (by decide), hs.2 15 (by decide)]
  exact h
set_option maxRecDepth 100000 in
set_option maxHeartbeats 4000000 in
theorem l_fl125 (κ : KP) {A : Nat → Nat} {M : MEM} (h : AH) (hA : MA A) (hR : RG M) (hW : WF (M 0)) (hq : QW (M 0) (M 10) M) (hv : QV (M 0) (M 10)) {E : Int → Int} {x1 : Int} {M3 : MEM} {b p : Int} (b0 : 0 ≤ b) (b1 : b < M 0 3) (p0 : 0 ≤ p) (p1 : p ≤ 3) (hG : ¬ QGr (M 0) b) (hR3 : RG M3) (hS3 : SB [25] [26] M M3) (h26 : M3 30 26 = p + 1) (hk2 : M3 25 (2 * p) = 2) (hd2 : M3 25 (2 * p + 1) = M 0 (60 + 12 * b + 2) - qgets (M 0) (M 10) b) (hE : ∀ j, j < 2 * p → M3 25 j = E j) : ∀ (f : Nat) (c : Int) (v4 : Option Value), M 0 1 - c < (f : Int) → (0 ≤ c) → (c ≤ M 0 1) → (∀ j, 0 ≤ j → j < c → ¬ QLc (M 0) (M 10) b j) → WW κ mX10_findLayers 7 0 0 (fun v h' => ∃ M', v = none ∧ h' = mset A M' h ∧ PLy M E b p M') NoX 125 [some (.ref (A 30)), some (.int (J x1)), some (.int (J b)), some (.int (J c)), v4] [] (mset A M3 h) := by
  intro f
  induction f with
  | zero =>
    intro c v4 hf c0 c1 hno
    exact absurd hf (by omega)
  | succ f ih =>
    intro c v4 hf c0 c1 hno
    obtain ⟨⟨y0, y1⟩, ⟨n0, n1⟩, ⟨q0, q1⟩, ⟨m0, m1⟩⟩ := hW.n
    have e0 : M3 0 = M 0 := hS3.1 0 (by decide) (by decide)
    have e10 : M3 10 = M 10 := hS3.1 10 (by decide) (by decide)
    have hbb := hW.b b0 b1
    unfold WFb at hbb
    have hfu : (4 - p).toNat = (3 - p).toNat + 1 := by omega
    refine r_il3 dX10_findLayers_125 ?_
    refine r_al0 dX10_findLayers_126 ?_
    refine m_get dX10_findLayers_127 f_X10_7 hA rfl ?_
    refine r_iconst dX10_findLayers_130 ?_
    refine m_ald dX10_findLayers_131 hA (by decide) rfl (by first | omega | (simp only [mlen]; omega)) (by first | omega | (simp only [mlen]; omega)) ?_
    try simp only [e0, e10]
    refine r_icmp_ge (tgt := 230) dX10_findLayers_132 (by decide) (by first | omega | exact hR _ _ | exact hR3 _ _) (by first | omega | exact hR _ _ | exact hR3 _ _) (fun c_132 => ?_) (fun c_132 => ?_)
    · refine r_ret dX10_findLayers_230 rfl ⟨_, rfl, rfl, hR3, hS3, _, LyR.leaf1 (by omega) hG (fun k k0 k1 => hno k k0 (by omega)), ?_, LyM.cons hk2 hd2 LyM.nil, hE⟩
      rw [h26]; simp only [List.length_cons, List.length_nil]; omega
    · refine r_al0 dX10_findLayers_135 ?_
      refine m_get dX10_findLayers_136 f_X10_25 hA rfl ?_
      refine r_il3 dX10_findLayers_139 ?_
      refine m_ald dX10_findLayers_140 hA (by decide) rfl (by first | omega | (simp only [mlen]; omega)) (by first | omega | (simp only [mlen]; omega)) ?_
      try simp only [e0, e10]
      refine r_il2 dX10_findLayers_141 ?_
      refine r_icmp_eq (tgt := 224) dX10_findLayers_142 (by decide) (by first | omega | exact hR _ _ | exact hR3 _ _) (by first | omega | exact hR _ _ | exact hR3 _ _) (fun c_142 => ?_) (fun c_142 => ?_)
      · refine r_inc3 dX10_findLayers_224 rfl ?_
        refine r_goto (tgt := 125) dX10_findLayers_227 (by decide) ?_
        refine ih (c + 1) _ (by omega) (by omega) (by omega) (fun j j0 j1 => ?_)
        rcases (show j < c ∨ j = c by omega) with z | z
        · exact hno j j0 z
        · rw [z]
          exact (fun q => by first | exact q.1 (by assumption) | exact absurd q.2 (by assumption))
      · refine r_al0 dX10_findLayers_145 ?_
        refine r_il2 dX10_findLayers_146 ?_
        refine r_al0 dX10_findLayers_147 ?_
        refine m_get dX10_findLayers_148 f_X10_7 hA rfl ?_
        refine r_il3 dX10_findLayers_151 ?_
        refine r_iconst dX10_findLayers_152 ?_
        refine r_callSP2 dX10_findLayers_153 s_X10_83 (c_creditAt κ _) (by decide) rfl ?_
        refine m_ald dX10_findLayers_156 hA (by decide) rfl (by first | omega | (simp only [mlen]; omega)) (by first | omega | (simp only [mlen]; omega)) ?_
        try simp only [e0, e10]
        refine m_callP2 dX10_findLayers_157 v_X10_90 hA (c_hasLetter κ _ hA hR3 (by first | exact hR _ _ | exact hR3 _ _) (by omega) (by omega) (by rw [e0]; omega) (by rw [e0]; omega)) (by decide) rfl ?_
        simp only [e0]
        refine r_ifT_eq (tgt := 224) dX10_findLayers_160 (by decide) (fun c_160 => ?_) (fun c_160 => ?_)
        · refine r_inc3 dX10_findLayers_224 rfl ?_
          refine r_goto (tgt := 125) dX10_findLayers_227 (by decide) ?_
          refine ih (c + 1) _ (by omega) (by omega) (by omega) (fun j j0 j1 => ?_)
          rcases (show j < c ∨ j = c by omega) with z | z
          · exact hno j j0 z
          · rw [z]
            exact (fun q => by first | exact q.1 (by assumption) | exact absurd q.2 (by assumption))
        · refine r_al0 dX10_findLayers_163 ?_
          refine r_al0 dX10_findLayers_164 ?_
          refine m_get dX10_findLayers_165 f_X10_7 hA rfl ?_
          refine r_il3 dX10_findLayers_168 ?_
          refine r_iconst dX10_findLayers_169 ?_
          refine r_callSP2 dX10_findLayers_170 s_X10_83 (c_creditAt κ _) (by decide) rfl ?_
          refine m_ald dX10_findLayers_173 hA (by decide) rfl (by first | omega | (simp only [mlen]; omega)) (by first | omega | (simp only [mlen]; omega)) ?_
          try simp only [e0, e10]
          refine r_al0 dX10_findLayers_174 ?_
          refine m_get dX10_findLayers_175 f_X10_7 hA rfl ?_
          refine r_il2 dX10_findLayers_178 ?_
          refine r_iconst dX10_findLayers_179 ?_
          refine r_callSP2 dX10_findLayers_180 s_X10_65 (c_blockAt κ _) (by decide) rfl ?_
          refine m_ald dX10_findLayers_183 hA (by decide) rfl (by first | omega | (simp only [mlen]; omega)) (by first | omega | (simp only [mlen]; omega)) ?_
          try simp only [e0, e10]
          refine r_icmp_ge (tgt := 191) dX10_findLayers_184 (by decide) (by first | omega | exact hR _ _ | exact hR3 _ _) (by first | omega | exact hR _ _ | exact hR3 _ _) (fun c_184 => ?_) (fun c_184 => ?_)
          · refine r_al0 dX10_findLayers_191 ?_
            refine r_il2 dX10_findLayers_192 ?_
            refine r_il3 dX10_findLayers_193 ?_
            refine m_callP2 dX10_findLayers_194 v_X10_94 hA (c_isOld κ _ hA hR3 (by rw [e0]; exact hW) (by omega) (by rw [e0]; omega) (by omega) (by rw [e0]; omega)) (by decide) rfl ?_
            simp only [e0]
            refine r_ifT_eq (tgt := 204) dX10_findLayers_197 (by decide) (fun c_197 => ?_) (fun c_197 => ?_)
            · refine r_al0 dX10_findLayers_204 ?_
              refine m_get dX10_findLayers_205 f_X10_25 hA rfl ?_
              refine r_il3 dX10_findLayers_208 ?_
              refine m_ald dX10_findLayers_209 hA (by decide) rfl (by first | omega | (simp only [mlen]; omega)) (by first | omega | (simp only [mlen]; omega)) ?_
              try simp only [e0, e10]
              refine r_if_lt (tgt := 217) dX10_findLayers_210 (by decide) (by first | omega | exact hR _ _ | exact hR3 _ _) (fun c_210 => ?_) (fun c_210 => ?_)
              · refine r_bipush dX10_findLayers_217 (by decide) ?_
                refine r_il3 dX10_findLayers_219 ?_
                refine m_callU2 dX10_findLayers_220 v_X10_236 hA (c_lays κ hA hR3 (by decide) (by omega) (by omega) (by omega)) (by decide) rfl (fun M_220 h_220 => ?_)
                obtain ⟨l1, l2, l3, l4, l5, l6⟩ := h_220
                rw [h26] at l3 l4 l5 l6
                refine r_ret dX10_findLayers_223 rfl ⟨_, rfl, rfl, l1, (hS3.trans l2).mono (by decide) (by decide), _, LyR.leaf2 (by omega) hG c0 (by omega) ⟨by assumption, by assumption⟩ hno, ?_, ?_, fun j hj => ?_⟩
                · rw [l3]; simp only [List.length_cons, List.length_nil]; omega
                · refine LyM.cons (by rw [l6 _ (by omega)]; exact hk2) (by rw [l6 _ (by omega)]; exact hd2) (LyM.cons ?_ l5 LyM.nil)
                  rw [l4]
                  unfold QLk
                  first | rw [if_pos (by assumption)] | rw [if_neg (by omega), if_pos (tb_t.mpr (by assumption))] | rw [if_neg (by omega), if_neg (by rw [tb_f.mpr (by assumption)]; decide), if_pos (by assumption)] | rw [if_neg (by omega), if_neg (by rw [tb_f.mpr (by assumption)]; decide), if_neg (by omega)]
                · rw [l6 j (by omega)]; exact hE j hj
              · refine r_iconst dX10_findLayers_213 ?_
                refine r_goto (tgt := 219) dX10_findLayers_214 (by decide) ?_
                refine r_il3 dX10_findLayers_219 ?_
                refine m_callU2 dX10_findLayers_220 v_X10_236 hA (c_lays κ hA hR3 (by decide) (by omega) (by omega) (by omega)) (by decide) rfl (fun M_220 h_220 => ?_)
                obtain ⟨l1, l2, l3, l4, l5, l6⟩ := h_220
                rw [h26] at l3 l4 l5 l6
                refine r_ret dX10_findLayers_223 rfl ⟨_, rfl, rfl, l1, (hS3.trans l2).mono (by decide) (by decide), _, LyR.leaf2 (by omega) hG c0 (by omega) ⟨by assumption, by assumption⟩ hno, ?_, ?_, fun j hj => ?_⟩
                · rw [l3]; simp only [List.length_cons, List.length_nil]; omega
                · refine LyM.cons (by rw [l6 _ (by omega)]; exact hk2) (by rw [l6 _ (by omega)]; exact hd2) (LyM.cons ?_ l5 LyM.nil)
                  rw [l4]
                  unfold QLk
                  first | rw [if_pos (by assumption)] | rw [if_neg (by omega), if_pos (tb_t.mpr (by assumption))] | rw [if_neg (by omega), if_neg (by rw [tb_f.mpr (by assumption)]; decide), if_pos (by assumption)] | rw [if_neg (by omega), if_neg (by rw [tb_f.mpr (by assumption)]; decide), if_neg (by omega)]
                · rw [l6 j (by omega)]; exact hE j hj
            · refine r_iconst dX10_findLayers_200 ?_
              refine r_goto (tgt := 219) dX10_findLayers_201 (by decide) ?_
              refine r_il3 dX10_findLayers_219 ?_
              refine m_callU2 dX10_findLayers_220 v_X10_236 hA (c_lays κ hA hR3 (by decide) (by omega) (by omega) (by omega)) (by decide) rfl (fun M_220 h_220 => ?_)
              obtain ⟨l1, l2, l3, l4, l5, l6⟩ := h_220
              rw [h26] at l3 l4 l5 l6
              refine r_ret dX10_findLayers_223 rfl ⟨_, rfl, rfl, l1, (hS3.trans l2).mono (by decide) (by decide), _, LyR.leaf2 (by omega) hG c0 (by omega) ⟨by assumption, by assumption⟩ hno, ?_, ?_, fun j hj => ?_⟩
              · rw [l3]; simp only [List.length_cons, List.length_nil]; omega
              · refine LyM.cons (by rw [l6 _ (by omega)]; exact hk2) (by rw [l6 _ (by omega)]; exact hd2) (LyM.cons ?_ l5 LyM.nil)
                rw [l4]
                unfold QLk
                first | rw [if_pos (by assumption)] | rw [if_neg (by omega), if_pos (tb_t.mpr (by assumption))] | rw [if_neg (by omega), if_neg (by rw [tb_f.mpr (by assumption)]; decide), if_pos (by assumption)] | rw [if_neg (by omega), if_neg (by rw [tb_f.mpr (by assumption)]; decide), if_neg (by omega)]
              · rw [l6 j (by omega)]; exact hE j hj
          · refine r_iconst dX10_findLayers_187 ?_
            refine r_goto (tgt := 219) dX10_findLayers_188 (by decide) ?_
            refine r_il3 dX10_findLayers_219 ?_
            refine m_callU2 dX10_findLayers_220 v_X10_236 hA (c_lays κ hA hR3 (by decide) (by omega) (by omega) (by omega)) (by decide) rfl (fun M_220 h_220 => ?_)
            obtain ⟨l1, l2, l3, l4, l5, l6⟩ := h_220
            rw [h26] at l3 l4 l5 l6
            refine r_ret dX10_findLayers_223 rfl ⟨_, rfl, rfl, l1, (hS3.trans l2).mono (by decide) (by decide), _, LyR.leaf2 (by omega) hG c0 (by omega) ⟨by assumption, by assumption⟩ hno, ?_, ?_, fun j hj => ?_⟩
            · rw [l3]; simp only [List.length_cons, List.length_nil]; omega
            · refine LyM.cons (by rw [l6 _ (by omega)]; exact hk2) (by rw [l6 _ (by omega)]; exact hd2) (LyM.cons ?_ l5 LyM.nil)
              rw [l4]
              unfold QLk
              first | rw [if_pos (by assumption)] | rw [if_neg (by omega), if_pos (tb_t.mpr (by assumption))] | rw [if_neg (by omega), if_neg (by rw [tb_f.mpr (by assumption)]; decide), if_pos (by assumption)] | rw [if_neg (by omega), if_neg (by rw [tb_f.mpr (by assumption)]; decide), if_neg (by omega)]
            · rw [l6 j (by omega)]; exact hE j hj
set_option maxRecDepth 100000 in
set_option maxHeartbeats 4000000 in
theorem l_fl36 (κ : KP) {A : Nat → Nat} {M : MEM} (h : AH) (hA : MA A) (hR : RG M) (hW : WF (M 0)) (hq : QW (M 0) (M 10) M) (hv : QV (M 0) (M 10)) {E : Int → Int} {x1 : Int} {M3 : MEM} {b p : Int} (b0 : 0 ≤ b) (b1 : b < M 0 3) (hR3 : RG M3) (hS3 : SB [25] [26] M M3) (kk : ∀ v4, WW κ mX10_findLayers 7 0 0 (fun v h' => ∃ M', v = none ∧ h' = mset A M' h ∧ PLy M E b p M') NoX 86 [some (.ref (A 30)), some (.int (J x1)), some (.int (J b)), some (.int (J (sz (fP (M 0) (M 10) b) (M 0 3)))), v4] [] (mset A M3 h)) : ∀ (f : Nat) (k : Int), M 0 3 - k < (f : Int) → (0 ≤ k) → (k ≤ M 0 3) → WW κ mX10_findLayers 7 0 0 (fun v h' => ∃ M', v = none ∧ h' = mset A M' h ∧ PLy M E b p M') NoX 36 [some (.ref (A 30)), some (.int (J x1)), some (.int (J b)), some (.int (J (sz (fP (M 0) (M 10) b) k))), some (.int (J k))] [] (mset A M3 h) := by
  intro f
  induction f with
  | zero =>
    intro k hf k0 k1
    exact absurd hf (by omega)
  | succ f ih =>
    intro k hf k0 k1
    obtain ⟨⟨y0, y1⟩, ⟨n0, n1⟩, ⟨q0, q1⟩, ⟨m0, m1⟩⟩ := hW.n
    have e0 : M3 0 = M 0 := hS3.1 0 (by decide) (by decide)
    have e10 : M3 10 = M 10 := hS3.1 10 (by decide) (by decide)
    have hq2 := hq.of hS3
    have hsb := sz_01 (f := fP (M 0) (M 10) b) k0 (fun _ => fP_01)
    refine r_il4 dX10_findLayers_36 ?_
    refine r_al0 dX10_findLayers_38 ?_
    refine m_get dX10_findLayers_39 f_X10_7 hA rfl ?_
    refine r_iconst dX10_findLayers_42 ?_
    refine m_ald dX10_findLayers_43 hA (by decide) rfl (by first | omega | (simp only [mlen]; omega)) (by first | omega | (simp only [mlen]; omega)) ?_
    try simp only [e0, e10]
    refine r_icmp_ge (tgt := 86) dX10_findLayers_44 (by decide) (by first | omega | exact hR _ _ | exact hR3 _ _) (by first | omega | exact hR _ _ | exact hR3 _ _) (fun c_44 => ?_) (fun c_44 => ?_)
    · rw [show k = M 0 3 by omega]
      exact kk _
    · refine r_il3 dX10_findLayers_47 ?_
      refine r_al0 dX10_findLayers_48 ?_
      refine m_get dX10_findLayers_49 f_X10_7 hA rfl ?_
      refine r_il4 dX10_findLayers_52 ?_
      refine r_iconst dX10_findLayers_54 ?_
      refine r_callSP2 dX10_findLayers_55 s_X10_65 (c_blockAt κ _) (by decide) rfl ?_
      refine m_ald dX10_findLayers_58 hA (by decide) rfl (by first | omega | (simp only [mlen]; omega)) (by first | omega | (simp only [mlen]; omega)) ?_
      try simp only [e0, e10]
      refine r_il2 dX10_findLayers_59 ?_
      refine r_icmp_ne (tgt := 77) dX10_findLayers_60 (by decide) (by first | omega | exact hR _ _ | exact hR3 _ _) (by first | omega | exact hR _ _ | exact hR3 _ _) (fun c_60 => ?_) (fun c_60 => ?_)
      · refine r_iconst dX10_findLayers_77 ?_
        refine r_iadd dX10_findLayers_78 ?_
        refine r_is3 dX10_findLayers_79 rfl ?_
        refine r_inc4 dX10_findLayers_80 rfl ?_
        refine r_goto (tgt := 36) dX10_findLayers_83 (by decide) ?_
        have hm := (hq2.1 k k0 (by omega)).2
        have e := ih (k + 1) (by omega) (by omega) (by omega)
        rw [sz_1 k0] at e
        first
          | (rw [show fP (M 0) (M 10) b k = 1 from bP_t ⟨by assumption, bP_ne (by rw [← hm]; assumption)⟩] at e; exact e)
          | (rw [show fP (M 0) (M 10) b k = 0 from bP_f (fun z => by first | exact absurd z.1 (by assumption) | exact absurd z.2 (bP_z (by rw [← hm]; assumption)))] at e; exact e)
      · refine r_al0 dX10_findLayers_63 ?_
        refine m_get dX10_findLayers_64 f_X10_31 hA rfl ?_
        refine r_il4 dX10_findLayers_67 ?_
        refine m_zald dX10_findLayers_69 hA (by decide) rfl (by first | omega | (simp only [mlen]; omega)) (by first | omega | (simp only [mlen]; omega)) ?_
        try simp only [e0, e10]
        refine r_if_eq (tgt := 77) dX10_findLayers_70 (by decide) (by first | omega | exact hR _ _ | exact hR3 _ _) (fun c_70 => ?_) (fun c_70 => ?_)
        · refine r_iconst dX10_findLayers_77 ?_
          refine r_iadd dX10_findLayers_78 ?_
          refine r_is3 dX10_findLayers_79 rfl ?_
          refine r_inc4 dX10_findLayers_80 rfl ?_
          refine r_goto (tgt := 36) dX10_findLayers_83 (by decide) ?_
          have hm := (hq2.1 k k0 (by omega)).2
          have e := ih (k + 1) (by omega) (by omega) (by omega)
          rw [sz_1 k0] at e
          first
            | (rw [show fP (M 0) (M 10) b k = 1 from bP_t ⟨by assumption, bP_ne (by rw [← hm]; assumption)⟩] at e; exact e)
            | (rw [show fP (M 0) (M 10) b k = 0 from bP_f (fun z => by first | exact absurd z.1 (by assumption) | exact absurd z.2 (bP_z (by rw [← hm]; assumption)))] at e; exact e)
        · refine r_iconst dX10_findLayers_73 ?_
          refine r_goto (tgt := 78) dX10_findLayers_74 (by decide) ?_
          refine r_iadd dX10_findLayers_78 ?_
          refine r_is3 dX10_findLayers_79 rfl ?_
          refine r_inc4 dX10_findLayers_80 rfl ?_
          refine r_goto (tgt := 36) dX10_findLayers_83 (by decide) ?_
          have hm := (hq2.1 k k0 (by omega)).2
          have e := ih (k + 1) (by omega) (by omega) (by omega)
          rw [sz_1 k0] at e
          first
            | (rw [show fP (M 0) (M 10) b k = 1 from bP_t ⟨by assumption, bP_ne (by rw [← hm]; assumption)⟩] at e; exact e)
            | (rw [show fP (M 0) (M 10) b k = 0 from bP_f (fun z => by first | exact absurd z.1 (by assumption) | exact absurd z.2 (bP_z (by rw [← hm]; assumption)))] at e; exact e)
set_option maxRecDepth 100000 in
set_option maxHeartbeats 4000000 in
theorem l_fl21 (κ : KP) {A : Nat → Nat} {M : MEM} (h : AH) (hA : MA A) (hR : RG M) (hW : WF (M 0)) (hq : QW (M 0) (M 10) M) (hv : QV (M 0) (M 10)) {x1 : Int} : ∀ (f : Nat) (E : Int → Int) (M3 : MEM) (b p : Int) (v3 v4 : Option Value), M 0 3 - b < (f : Int) → (0 ≤ b) → (b < M 0 3) → (0 ≤ p) → (p ≤ M 0 (60 + 12 * b + 11)) → (¬ qmet (M 0) (M 10) b) → (RG M3) → (SB [25] [26] M M3) → (M3 30 26 = p) → (∀ j, j < 2 * p → M3 25 j = E j) → WW κ mX10_findLayers 7 0 0 (fun v h' => ∃ M', v = none ∧ h' = mset A M' h ∧ PLy M E b p M') NoX 21 [some (.ref (A 30)), some (.int (J x1)), some (.int (J b)), v3, v4] [] (mset A M3 h) := by
  intro f
  induction f with
  | zero =>
    intro E M3 b p v3 v4 hf b0 b1 p0 p1 hu hR3 hS3 h26 hE
    exact absurd hf (by omega)
  | succ f ih =>
    intro E M3 b p v3 v4 hf b0 b1 p0 p1 hu hR3 hS3 h26 hE
    obtain ⟨⟨y0, y1⟩, ⟨n0, n1⟩, ⟨q0, q1⟩, ⟨m0, m1⟩⟩ := hW.n
    have e0 : M3 0 = M 0 := hS3.1 0 (by decide) (by decide)
    have e10 : M3 10 = M 10 := hS3.1 10 (by decide) (by decide)
    have hq2 := hq.of hS3
    have hbb := hW.b b0 b1
    unfold WFb at hbb
    have hgb := qgets_bd (u := M 10) hW (k := b)
    have hg2 := (hq2.1 b b0 b1).1
    have hsb := sz_01 (f := fP (M 0) (M 10) b) m0 (fun _ => fP_01)
    refine r_al0 dX10_findLayers_21 ?_
    refine r_il2 dX10_findLayers_22 ?_
    refine m_callP1 dX10_findLayers_23 v_X10_86 hA (c_isGroup κ _ hA hR3 (by omega) (by omega)) (by decide) rfl ?_
    simp only [e0]
    refine r_ifT_eq (tgt := 101) dX10_findLayers_26 (by decide) (fun c_26 => ?_) (fun c_26 => ?_)
    · refine r_al0 dX10_findLayers_101 ?_
      refine r_iconst dX10_findLayers_102 ?_
      refine r_al0 dX10_findLayers_103 ?_
      refine m_get dX10_findLayers_104 f_X10_7 hA rfl ?_
      refine r_il2 dX10_findLayers_107 ?_
      refine r_iconst dX10_findLayers_108 ?_
      refine r_callSP2 dX10_findLayers_109 s_X10_65 (c_blockAt κ _) (by decide) rfl ?_
      refine m_ald dX10_findLayers_112 hA (by decide) rfl (by first | omega | (simp only [mlen]; omega)) (by first | omega | (simp only [mlen]; omega)) ?_
      try simp only [e0, e10]
      refine r_al0 dX10_findLayers_113 ?_
      refine m_get dX10_findLayers_114 f_X10_28 hA rfl ?_
      refine r_il2 dX10_findLayers_117 ?_
      refine m_ald dX10_findLayers_118 hA (by decide) rfl (by first | omega | (simp only [mlen]; omega)) (by first | omega | (simp only [mlen]; omega)) ?_
      try simp only [e0, e10]
      rw [hg2]
      refine r_isub dX10_findLayers_119 ?_
      refine m_callU2 dX10_findLayers_120 v_X10_236 hA (c_lays κ hA hR3 (by decide) (by omega) (by omega) (by omega)) (by decide) rfl (fun M_120 h_120 => ?_)
      obtain ⟨l1, l2, l3, l4, l5, l6⟩ := h_120
      rw [h26] at l3 l4 l5 l6
      have hS4 := (hS3.trans l2).mono (ks2 := [25]) (fs2 := [26]) (by decide) (by decide)
      refine r_iconst dX10_findLayers_123 ?_
      refine r_is3 dX10_findLayers_124 rfl ?_
      refine l_fl125 κ h hA hR hW hq hv (b := b) (p := p) b0 b1 p0 (by omega) (by assumption) l1 hS4 l3 l4 (by rw [l5]) (fun j hj => by rw [l6 j hj]; exact hE j hj) 7 0 _ (by omega) (by omega) (by omega) (fun j j0 j1 => by omega)
    · refine r_iconst dX10_findLayers_29 ?_
      refine r_is3 dX10_findLayers_30 rfl ?_
      refine r_il2 dX10_findLayers_31 ?_
      refine r_iconst dX10_findLayers_32 ?_
      refine r_iadd dX10_findLayers_33 ?_
      refine r_is4 dX10_findLayers_34 rfl ?_
      have kk : ∀ v4 : Option Value, WW κ mX10_findLayers 7 0 0 (fun v h' => ∃ M', v = none ∧ h' = mset A M' h ∧ PLy M E b p M') NoX 86 [some (.ref (A 30)), some (.int (J x1)), some (.int (J b)), some (.int (J (sz (fP (M 0) (M 10) b) (M 0 3)))), v4] [] (mset A M3 h) := by
        intro v4
        refine r_al0 dX10_findLayers_86 ?_
        refine r_iconst dX10_findLayers_87 ?_
        refine r_il3 dX10_findLayers_88 ?_
        refine m_callU2 dX10_findLayers_89 v_X10_236 hA (c_lays κ hA hR3 (by decide) (by omega) (by omega) (by omega)) (by decide) rfl (fun M_89 h_89 => ?_)
        obtain ⟨l1, l2, l3, l4, l5, l6⟩ := h_89
        rw [h26] at l3 l4 l5 l6
        have hS4 := (hS3.trans l2).mono (ks2 := [25]) (fs2 := [26]) (by decide) (by decide)
        have e04 : M_89 0 = M 0 := hS4.1 0 (by decide) (by decide)
        refine r_al0 dX10_findLayers_92 ?_
        refine r_il2 dX10_findLayers_93 ?_
        refine m_callR1 dX10_findLayers_94 v_X10_240 hA (c_firstUnmet κ hA l1 (by rw [e04]; exact hW) (u := M 10) (by rw [e04]; exact hq.of hS4) (b := b) (by omega) b0 (by rw [e04]; exact b1) (by rw [e04]; exact unmet_part hW b0 b1 (by assumption) hu)) (by decide) rfl (fun r_94 M_94 h_94 => ?_)
        obtain ⟨hx1, hfu⟩ := h_94
        obtain rfl := hx1.symm
        rw [e04] at hfu
        refine r_is2 dX10_findLayers_97 rfl ?_
        refine r_goto (tgt := 21) dX10_findLayers_98 (by decide) ?_
        obtain ⟨f1, f2, f3, f4, f5⟩ := hfu
        have hkb := hW.b f1 f2
        have hup := hkb.up
        unfold WFb at hkb
        have hop := hkb.2.2.2.2.2.2.2.2.2.1 (by omega)
        rw [f3] at hop
        refine ww_postU (fun M' z => ?_) (ih (M_89 25) M_89 r_94 (p + 1) _ _ (by omega) f1 f2 (by omega) (by omega) f4 l1 hS4 l3 (fun j hj => rfl))
        obtain ⟨z1, z2, l, z3, z4, z5, z6⟩ := z
        refine ⟨z1, z2, _, ?_, ?_, LyM.cons (a := 1) (b := sz (fP (M 0) (M 10) b) (M 0 3)) (by rw [z6 _ (by omega)]; exact l4) (by rw [z6 _ (by omega)]; exact l5) z5, fun j hj => by rw [z6 j (by omega), l6 j hj]; exact hE j hj⟩
        · rw [show (4 - p).toNat = (4 - (p + 1)).toNat + 1 by omega]
          exact Or.inl ⟨by assumption, r_94, l, ⟨f1, f2, f3, f4, f5⟩, z3, rfl⟩
        · rw [z4]; simp only [List.length_cons]; omega
      have e9 := l_fl36 κ h hA hR hW hq hv (x1 := x1) (E := E) (p := p) b0 b1 hR3 hS3 kk 9 (b + 1) (by omega) (by omega) (by omega)
      rw [fP_0 hW b0 b1] at e9
      exact e9
set_option maxRecDepth 100000 in
set_option maxHeartbeats 4000000 in
theorem c_findLayers (κ : KP) {A : Nat → Nat} {M : MEM} (hA : MA A) (hR : RG M) (hW : WF (M 0)) (hK : QKn M) {b : Int} (b0 : 0 ≤ b) (b1 : b < M 0 3) : UM κ mX10_findLayers 7 A [.ref (A 30), .int (J b)] M (fun M' => ∃ M1, QFs M M1 ∧ RG M' ∧ SB [25] [26] M1 M' ∧ ∃ l, QLy (M 0) (M1 10) b l ∧ M' 30 26 = l.length ∧ LyM M' 0 l) := by
  intro h
  refine mm_of (L := [some _, some _, none, none, none]) (by decide +kernel) rfl rfl (Nat.le_of_ble_eq_true rfl) rfl ?_
  obtain ⟨⟨y0, y1⟩, ⟨n0, n1⟩, ⟨q0, q1⟩, ⟨m0, m1⟩⟩ := hW.n
  refine r_al0 dX10_findLayers_0 ?_
  refine m_callU0 dX10_findLayers_1 v_X10_150 hA (c_finds κ hA hR hW hK) (by decide) rfl (fun M_1 h_1 => ?_)
  have e0 := h_1.e0
  have hR1 := h_1.1
  have hf := h_1
  obtain ⟨-, -, -, hbest, hw1, hw2, hw3, hw4⟩ := h_1
  refine r_al0 dX10_findLayers_4 ?_
  refine r_iconst dX10_findLayers_5 ?_
  refine m_put dX10_findLayers_6 f_X10_233 p_X10_233 (ff_14_26 _) hA mfp_26 rfl rfl ?_
  refine r_il1 dX10_findLayers_9 ?_
  refine r_is2 dX10_findLayers_10 rfl ?_
  refine r_al0 dX10_findLayers_11 ?_
  refine m_get dX10_findLayers_12 f_X10_31 hA rfl ?_
  refine r_il2 dX10_findLayers_15 ?_
  refine m_zald dX10_findLayers_16 hA (by decide) rfl (by first | omega | (simp only [mlen]; omega)) (by first | omega | (simp only [mlen]; omega)) ?_
  try simp only [updm_app, Int.reduceEq, Nat.reduceEqDiff, and_true, true_and, false_and, and_false, if_true, if_false, reduceIte, e0]
  refine r_if_eq (tgt := 21) dX10_findLayers_17 (by decide) (by first | omega | exact hR1 _ _) (fun c_17 => ?_) (fun c_17 => ?_)
  · have hnm : ¬ qmet (M 0) (M_1 10) b := bP_z (by rw [← (hw1 b b0 b1).2]; assumption)
    have hbb := hW.b b0 b1
    unfold WFb at hbb
    refine ww_postU (fun M' z => ?_) (l_fl21 κ h hA hR1 (M := M_1) (by rw [e0]; exact hW) (by rw [e0]; exact ⟨hw1, hw2, hw3, hw4⟩) (by rw [e0]; exact hbest.2.1) 9 ((updm M_1 30 26 0) 25) (updm M_1 30 26 0) b 0 _ _ (by rw [e0]; omega) b0 (by rw [e0]; exact b1) (by omega) (by rw [e0]; omega) (by rw [e0]; exact hnm) (RG.up hR1 (by decide)) (SB.upF SB.rf (by decide)) updm_at (fun j _ => rfl))
    obtain ⟨z1, z2, l, z3, z4, z5, -⟩ := z
    rw [e0] at z3
    exact ⟨M_1, hf, z1, z2, l, Or.inr ⟨hnm, z3⟩, by omega, z5⟩
  · exact r_ret dX10_findLayers_20 rfl ⟨_, rfl, rfl, M_1, hf, RG.up hR1 (by decide), SB.upF SB.rf (by decide), [], Or.inl ⟨bP_ne (by rw [← (hw1 b b0 b1).2]; assumption), rfl⟩, updm_at, LyM.nil⟩
