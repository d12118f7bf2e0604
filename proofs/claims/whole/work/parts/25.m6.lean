/-! ===== the model: equivalences are applied ===== -/
def QMt (g : Int → Int) (code c : Int) : Prop := g (4 + 4 * c + 0) = code ∧ 10 ≤ g (4 + 4 * c + 2)
/-- r is the first passed credit with the code that has the most points, of those before n; -1 none -/
def QRc (g : Int → Int) (code n r : Int) : Prop := (r = -1 ∧ ∀ c, 0 ≤ c → c < n → ¬ QMt g code c) ∨ (0 ≤ r ∧ r < n ∧ QMt g code r ∧ ∀ c, 0 ≤ c → c < n → QMt g code c → g (4 + 4 * c + 1) ≤ g (4 + 4 * r + 1) ∧ (c < r → g (4 + 4 * c + 1) < g (4 + 4 * r + 1)))
theorem QRc.rg {g : Int → Int} {code n r : Int} (h : QRc g code n r) (hn : 0 ≤ n) : -1 ≤ r ∧ r < n := by
  rcases h with ⟨h, -⟩ | ⟨h1, h2, -⟩ <;> omega
theorem QRc.uniq {g : Int → Int} {code n r r' : Int} (h : QRc g code n r) (h' : QRc g code n r') : r = r' := by
  rcases h with ⟨h, a⟩ | ⟨h1, h2, h3, a⟩ <;> rcases h' with ⟨h', a'⟩ | ⟨h1', h2', h3', a'⟩
  · omega
  · exact absurd h3' (a r' h1' h2')
  · exact absurd h3 (a' r h1 h2)
  · have e1 := a r' h1' h2' h3'
    have e2 := a' r h1 h2 h3
    rcases Int.lt_trichotomy r r' with q | q | q
    · have := e2.2 q; omega
    · exact q
    · have := e1.2 q; omega
theorem QRc.pos {g : Int → Int} {code n r : Int} (h : QRc g code n r) (he : ∃ c, 0 ≤ c ∧ c < n ∧ QMt g code c) : 0 ≤ r := by
  obtain ⟨c, c0, c1, c2⟩ := he
  rcases h with ⟨-, a⟩ | ⟨h1, -⟩
  · exact absurd c2 (a c c0 c1)
  · exact h1
theorem QRc.neg {g : Int → Int} {code n r : Int} (h : QRc g code n r) (hr : r < 0) : ¬ ∃ c, 0 ≤ c ∧ c < n ∧ QMt g code c := by
  intro ⟨c, c0, c1, c2⟩
  rcases h with ⟨-, a⟩ | ⟨h1, -⟩
  · exact a c c0 c1 c2
  · omega
theorem QRc.ex {g : Int → Int} {code n r : Int} (h : QRc g code n r) (hr : 0 ≤ r) : ∃ c, 0 ≤ c ∧ c < n ∧ QMt g code c := by
  rcases h with ⟨h1, -⟩ | ⟨h1, h2, h3, -⟩
  · omega
  · exact ⟨r, h1, h2, h3⟩
theorem QRc.z {g : Int → Int} {code : Int} : QRc g code 0 (-1) := Or.inl ⟨rfl, fun c h1 h2 => by omega⟩
theorem QRc.skip {g : Int → Int} {code n r : Int} (h : QRc g code n r) (hn : ¬ QMt g code n) : QRc g code (n + 1) r := by
  rcases h with ⟨h, a⟩ | ⟨h1, h2, h3, a⟩
  · refine Or.inl ⟨h, fun c c0 c1 => ?_⟩
    rcases (show c < n ∨ c = n by omega) with q | rfl
    · exact a c c0 q
    · exact hn
  · refine Or.inr ⟨h1, by omega, h3, fun c c0 c1 c2 => ?_⟩
    rcases (show c < n ∨ c = n by omega) with q | rfl
    · exact a c c0 q c2
    · exact absurd c2 hn
theorem QRc.less {g : Int → Int} {code n r : Int} (h : QRc g code n r) (hr : 0 ≤ r) (hn : g (4 + 4 * n + 1) ≤ g (4 + 4 * r + 1)) : QRc g code (n + 1) r := by
  rcases h with ⟨h, a⟩ | ⟨h1, h2, h3, a⟩
  · omega
  · refine Or.inr ⟨h1, by omega, h3, fun c c0 c1 c2 => ?_⟩
    rcases (show c < n ∨ c = n by omega) with q | rfl
    · exact a c c0 q c2
    · exact ⟨hn, fun q => by omega⟩
theorem QRc.more {g : Int → Int} {code n r : Int} (h : QRc g code n r) (n0 : 0 ≤ n) (hm : QMt g code n) (hn : r < 0 ∨ g (4 + 4 * r + 1) < g (4 + 4 * n + 1)) : QRc g code (n + 1) n := by
  refine Or.inr ⟨n0, by omega, hm, fun c c0 c1 c2 => ?_⟩
  rcases (show c < n ∨ c = n by omega) with q | rfl
  · rcases h with ⟨h, a⟩ | ⟨h1, h2, h3, a⟩
    · exact absurd c2 (a c c0 q)
    · have := a c c0 q c2
      omega
  · exact ⟨Int.le_refl _, fun q => by omega⟩
set_option maxRecDepth 100000 in
set_option maxHeartbeats 4000000 in
theorem l_richest (κ : KP) {A : Nat → Nat} {M : MEM} (h : AH) (hA : MA A) (hR : RG M) {code : Int} (rc : rng code) (n0 : 0 ≤ M 0 1) (n1 : M 0 1 ≤ 6) : ∀ (f : Nat) (i r : Int), M 0 1 - i < (f : Int) → (0 ≤ i) → (i ≤ M 0 1) → (QRc (M 0) code i r) → WW κ mX10_richest 2 0 0 (fun v h' => ∃ r M', v = some (.int (J r)) ∧ h' = mset A M' h ∧ (fun r M' => M' = M ∧ QRc (M 0) code (M 0 1) r) r M') NoX 4 [some (.ref (A 30)), some (.int (J code)), some (.int (J r)), some (.int (J i))] [] (mset A M h) := by
  intro f
  induction f with
  | zero =>
    intro i r hf i0 i1 hq
    exact absurd hf (by omega)
  | succ f ih =>
    intro i r hf i0 i1 hq
    have hrg := hq.rg i0
    refine r_il3 dX10_richest_4 ?_
    refine r_al0 dX10_richest_5 ?_
    refine m_get dX10_richest_6 f_X10_7 hA rfl ?_
    refine r_iconst dX10_richest_9 ?_
    refine m_ald dX10_richest_10 hA (by decide) rfl (by first | omega | (unfold QIn at *; omega) | (simp only [mlen]; unfold QIn at *; omega) | (simp only [mlen]; omega)) (by first | omega | (unfold QIn at *; omega) | (simp only [mlen]; unfold QIn at *; omega) | (simp only [mlen]; omega)) ?_
    refine r_icmp_ge (tgt := 78) dX10_richest_11 (by decide) (by first | omega | decide | exact hR _ _ | (unfold QIn at *; omega)) (by first | omega | decide | exact hR _ _ | (unfold QIn at *; omega)) (fun c_11 => ?_) (fun c_11 => ?_)
    · refine r_il2 dX10_richest_78 ?_
      refine r_iret dX10_richest_79 (ty := .int) rfl rfl ⟨_, _, rfl, rfl, rfl, ?_⟩
      rw [show M 0 1 = i by omega]
      exact hq
    · refine r_al0 dX10_richest_14 ?_
      refine m_get dX10_richest_15 f_X10_7 hA rfl ?_
      refine r_il3 dX10_richest_18 ?_
      refine r_iconst dX10_richest_19 ?_
      refine r_callSP2 dX10_richest_20 s_X10_83 (c_creditAt κ _) (by decide) rfl ?_
      refine m_ald dX10_richest_23 hA (by decide) rfl (by first | omega | (unfold QIn at *; omega) | (simp only [mlen]; unfold QIn at *; omega) | (simp only [mlen]; omega)) (by first | omega | (unfold QIn at *; omega) | (simp only [mlen]; unfold QIn at *; omega) | (simp only [mlen]; omega)) ?_
      refine r_il1 dX10_richest_24 ?_
      refine r_icmp_ne (tgt := 72) dX10_richest_25 (by decide) (by first | omega | decide | exact hR _ _ | (unfold QIn at *; omega)) (by first | omega | decide | exact hR _ _ | (unfold QIn at *; omega)) (fun c_25 => ?_) (fun c_25 => ?_)
      · refine r_inc3 dX10_richest_72 rfl ?_
        refine r_goto (tgt := 4) dX10_richest_75 (by decide) ?_
        first
          | exact ih (i + 1) i (by omega) (by omega) (by omega) (hq.more i0 (by unfold QMt; omega) (by omega))
          | exact ih (i + 1) r (by omega) (by omega) (by omega) (hq.skip (fun q => by unfold QMt at q; omega))
          | exact ih (i + 1) r (by omega) (by omega) (by omega) (hq.less (by omega) (by omega))
      · refine r_al0 dX10_richest_28 ?_
        refine m_get dX10_richest_29 f_X10_7 hA rfl ?_
        refine r_il3 dX10_richest_32 ?_
        refine r_iconst dX10_richest_33 ?_
        refine r_callSP2 dX10_richest_34 s_X10_83 (c_creditAt κ _) (by decide) rfl ?_
        refine m_ald dX10_richest_37 hA (by decide) rfl (by first | omega | (unfold QIn at *; omega) | (simp only [mlen]; unfold QIn at *; omega) | (simp only [mlen]; omega)) (by first | omega | (unfold QIn at *; omega) | (simp only [mlen]; unfold QIn at *; omega) | (simp only [mlen]; omega)) ?_
        refine r_bipush dX10_richest_38 (by decide) ?_
        refine r_icmp_lt (tgt := 72) dX10_richest_40 (by decide) (by first | omega | decide | exact hR _ _ | (unfold QIn at *; omega)) (by first | omega | decide | exact hR _ _ | (unfold QIn at *; omega)) (fun c_40 => ?_) (fun c_40 => ?_)
        · refine r_inc3 dX10_richest_72 rfl ?_
          refine r_goto (tgt := 4) dX10_richest_75 (by decide) ?_
          first
            | exact ih (i + 1) i (by omega) (by omega) (by omega) (hq.more i0 (by unfold QMt; omega) (by omega))
            | exact ih (i + 1) r (by omega) (by omega) (by omega) (hq.skip (fun q => by unfold QMt at q; omega))
            | exact ih (i + 1) r (by omega) (by omega) (by omega) (hq.less (by omega) (by omega))
        · refine r_il2 dX10_richest_43 ?_
          refine r_if_lt (tgt := 70) dX10_richest_44 (by decide) (by first | omega | decide | exact hR _ _ | (unfold QIn at *; omega)) (fun c_44 => ?_) (fun c_44 => ?_)
          · refine r_il3 dX10_richest_70 ?_
            refine r_is2 dX10_richest_71 rfl ?_
            refine r_inc3 dX10_richest_72 rfl ?_
            refine r_goto (tgt := 4) dX10_richest_75 (by decide) ?_
            first
              | exact ih (i + 1) i (by omega) (by omega) (by omega) (hq.more i0 (by unfold QMt; omega) (by omega))
              | exact ih (i + 1) r (by omega) (by omega) (by omega) (hq.skip (fun q => by unfold QMt at q; omega))
              | exact ih (i + 1) r (by omega) (by omega) (by omega) (hq.less (by omega) (by omega))
          · refine r_al0 dX10_richest_47 ?_
            refine m_get dX10_richest_48 f_X10_7 hA rfl ?_
            refine r_il3 dX10_richest_51 ?_
            refine r_iconst dX10_richest_52 ?_
            refine r_callSP2 dX10_richest_53 s_X10_83 (c_creditAt κ _) (by decide) rfl ?_
            refine m_ald dX10_richest_56 hA (by decide) rfl (by first | omega | (unfold QIn at *; omega) | (simp only [mlen]; unfold QIn at *; omega) | (simp only [mlen]; omega)) (by first | omega | (unfold QIn at *; omega) | (simp only [mlen]; unfold QIn at *; omega) | (simp only [mlen]; omega)) ?_
            refine r_al0 dX10_richest_57 ?_
            refine m_get dX10_richest_58 f_X10_7 hA rfl ?_
            refine r_il2 dX10_richest_61 ?_
            refine r_iconst dX10_richest_62 ?_
            refine r_callSP2 dX10_richest_63 s_X10_83 (c_creditAt κ _) (by decide) rfl ?_
            refine m_ald dX10_richest_66 hA (by decide) rfl (by first | omega | (unfold QIn at *; omega) | (simp only [mlen]; unfold QIn at *; omega) | (simp only [mlen]; omega)) (by first | omega | (unfold QIn at *; omega) | (simp only [mlen]; unfold QIn at *; omega) | (simp only [mlen]; omega)) ?_
            refine r_icmp_le (tgt := 72) dX10_richest_67 (by decide) (by first | omega | decide | exact hR _ _ | (unfold QIn at *; omega)) (by first | omega | decide | exact hR _ _ | (unfold QIn at *; omega)) (fun c_67 => ?_) (fun c_67 => ?_)
            · refine r_inc3 dX10_richest_72 rfl ?_
              refine r_goto (tgt := 4) dX10_richest_75 (by decide) ?_
              first
                | exact ih (i + 1) i (by omega) (by omega) (by omega) (hq.more i0 (by unfold QMt; omega) (by omega))
                | exact ih (i + 1) r (by omega) (by omega) (by omega) (hq.skip (fun q => by unfold QMt at q; omega))
                | exact ih (i + 1) r (by omega) (by omega) (by omega) (hq.less (by omega) (by omega))
            · refine r_il3 dX10_richest_70 ?_
              refine r_is2 dX10_richest_71 rfl ?_
              refine r_inc3 dX10_richest_72 rfl ?_
              refine r_goto (tgt := 4) dX10_richest_75 (by decide) ?_
              first
                | exact ih (i + 1) i (by omega) (by omega) (by omega) (hq.more i0 (by unfold QMt; omega) (by omega))
                | exact ih (i + 1) r (by omega) (by omega) (by omega) (hq.skip (fun q => by unfold QMt at q; omega))
                | exact ih (i + 1) r (by omega) (by omega) (by omega) (hq.less (by omega) (by omega))
set_option maxRecDepth 100000 in
set_option maxHeartbeats 4000000 in
theorem c_richest (κ : KP) {A : Nat → Nat} {M : MEM} (hA : MA A) (hR : RG M) {code : Int} (rc : rng code) (n0 : 0 ≤ M 0 1) (n1 : M 0 1 ≤ 6) : RM κ mX10_richest 2 A [.ref (A 30), .int (J code)] M (fun r M' => M' = M ∧ QRc (M 0) code (M 0 1) r) := by
  intro h
  refine mm_of (L := [some _, some _, none, none]) (by decide +kernel) rfl rfl (Nat.le_of_ble_eq_true rfl) rfl ?_
  refine r_iconst dX10_richest_0 ?_
  refine r_is2 dX10_richest_1 rfl ?_
  refine r_iconst dX10_richest_2 ?_
  refine r_is3 dX10_richest_3 rfl ?_
  exact l_richest κ h hA hR rc n0 n1 7 0 (-1) (by omega) (by omega) (by omega) QRc.z
/-- the credits that an equivalence takes are there -/
def QAg (g : Int → Int) (e : Int) : Prop := (∃ c, 0 ≤ c ∧ c < g 1 ∧ QMt g (g (28 + 4 * e + 0)) c) ∧ (g (28 + 4 * e + 1) ≠ 32 → ∃ c, 0 ≤ c ∧ c < g 1 ∧ QMt g (g (28 + 4 * e + 1)) c)
def QAgn (g : Int → Int) (e : Int) : Int := g 1 - (1 + if g (28 + 4 * e + 1) = 32 then 0 else 1) + (1 + if g (28 + 4 * e + 3) = 32 then 0 else 1)
def QAga (g : Int → Int) (e r : Int) : Prop := (¬ QAg g e ∧ r = 2) ∨ (QAg g e ∧ 6 < QAgn g e ∧ r = 1) ∨ (QAg g e ∧ QAgn g e ≤ 6 ∧ r = 0)
set_option maxRecDepth 100000 in
set_option maxHeartbeats 4000000 in
theorem c_against (κ : KP) {A : Nat → Nat} {M : MEM} (hA : MA A) (hR : RG M) {e : Int} (e0 : 0 ≤ e) (e1 : e < 8) (n0 : 0 ≤ M 0 1) (n1 : M 0 1 ≤ 6) : RM κ mX10_against 3 A [.ref (A 30), .int (J e)] M (fun r M' => M' = M ∧ QAga (M 0) e r) := by
  intro h
  refine mm_of (L := [some _, some _, none, none, none]) (by decide +kernel) rfl rfl (Nat.le_of_ble_eq_true rfl) rfl ?_
  refine r_iconst dX10_against_0 ?_
  refine r_al0 dX10_against_1 ?_
  refine m_get dX10_against_2 f_X10_7 hA rfl ?_
  refine r_il1 dX10_against_5 ?_
  refine r_iconst dX10_against_6 ?_
  refine r_callSP2 dX10_against_7 s_X10_156 (c_equalAt κ _) (by decide) rfl ?_
  refine m_ald dX10_against_10 hA (by decide) rfl (by first | omega | (unfold QIn at *; omega) | (simp only [mlen]; unfold QIn at *; omega) | (simp only [mlen]; omega)) (by first | omega | (unfold QIn at *; omega) | (simp only [mlen]; unfold QIn at *; omega) | (simp only [mlen]; omega)) ?_
  refine r_bipush dX10_against_11 (by decide) ?_
  refine r_icmp_ne (tgt := 20) dX10_against_13 (by decide) (by first | omega | exact hR _ _ | (have := hq.rg n0; omega)) (by first | omega | exact hR _ _ | (have := hq.rg n0; omega)) (fun c_13 => ?_) (fun c_13 => ?_)
  · refine r_iconst dX10_against_20 ?_
    refine r_iadd dX10_against_21 ?_
    refine r_is2 dX10_against_22 rfl ?_
    refine r_iconst dX10_against_23 ?_
    refine r_al0 dX10_against_24 ?_
    refine m_get dX10_against_25 f_X10_7 hA rfl ?_
    refine r_il1 dX10_against_28 ?_
    refine r_iconst dX10_against_29 ?_
    refine r_callSP2 dX10_against_30 s_X10_156 (c_equalAt κ _) (by decide) rfl ?_
    refine m_ald dX10_against_33 hA (by decide) rfl (by first | omega | (unfold QIn at *; omega) | (simp only [mlen]; unfold QIn at *; omega) | (simp only [mlen]; omega)) (by first | omega | (unfold QIn at *; omega) | (simp only [mlen]; unfold QIn at *; omega) | (simp only [mlen]; omega)) ?_
    refine r_bipush dX10_against_34 (by decide) ?_
    refine r_icmp_ne (tgt := 43) dX10_against_36 (by decide) (by first | omega | exact hR _ _ | (have := hq.rg n0; omega)) (by first | omega | exact hR _ _ | (have := hq.rg n0; omega)) (fun c_36 => ?_) (fun c_36 => ?_)
    · refine r_iconst dX10_against_43 ?_
      refine r_iadd dX10_against_44 ?_
      refine r_is3 dX10_against_45 rfl ?_
      refine r_iconst dX10_against_46 ?_
      refine r_is4 dX10_against_47 rfl ?_
      refine r_il4 dX10_against_49 ?_
      refine r_il2 dX10_against_51 ?_
      refine r_icmp_ge (tgt := 81) dX10_against_52 (by decide) (by first | omega | exact hR _ _ | (have := hq.rg n0; omega)) (by first | omega | exact hR _ _ | (have := hq.rg n0; omega)) (fun c_52 => ?_) (fun c_52 => ?_)
      · exact absurd c_52 (by decide)
      · refine r_al0 dX10_against_55 ?_
        refine r_al0 dX10_against_56 ?_
        refine m_get dX10_against_57 f_X10_7 hA rfl ?_
        refine r_il1 dX10_against_60 ?_
        refine r_il4 dX10_against_61 ?_
        refine r_callSP2 dX10_against_63 s_X10_156 (c_equalAt κ _) (by decide) rfl ?_
        refine m_ald dX10_against_66 hA (by decide) rfl (by first | omega | (unfold QIn at *; omega) | (simp only [mlen]; unfold QIn at *; omega) | (simp only [mlen]; omega)) (by first | omega | (unfold QIn at *; omega) | (simp only [mlen]; unfold QIn at *; omega) | (simp only [mlen]; omega)) ?_
        refine m_callR1 dX10_against_67 v_X10_162 hA (c_richest κ hA hR (by first | omega | exact hR _ _) (by omega) (by omega)) (by decide) rfl (fun rr Mx hx => ?_)
        obtain ⟨hx1, hq⟩ := hx
        obtain rfl := hx1.symm
        refine r_if_ge (tgt := 75) dX10_against_70 (by decide) (by first | omega | exact hR _ _ | (have := hq.rg n0; omega)) (fun c_70 => ?_) (fun c_70 => ?_)
        · have hq_1 := hq
          refine r_inc4 dX10_against_75 rfl ?_
          refine r_goto (tgt := 49) dX10_against_78 (by decide) ?_
          refine r_il4 dX10_against_49 ?_
          refine r_il2 dX10_against_51 ?_
          refine r_icmp_ge (tgt := 81) dX10_against_52 (by decide) (by first | omega | exact hR _ _ | (have := hq.rg n0; omega)) (by first | omega | exact hR _ _ | (have := hq.rg n0; omega)) (fun c_52 => ?_) (fun c_52 => ?_)
          · exact absurd c_52 (by decide)
          · refine r_al0 dX10_against_55 ?_
            refine r_al0 dX10_against_56 ?_
            refine m_get dX10_against_57 f_X10_7 hA rfl ?_
            refine r_il1 dX10_against_60 ?_
            refine r_il4 dX10_against_61 ?_
            refine r_callSP2 dX10_against_63 s_X10_156 (c_equalAt κ _) (by decide) rfl ?_
            refine m_ald dX10_against_66 hA (by decide) rfl (by first | omega | (unfold QIn at *; omega) | (simp only [mlen]; unfold QIn at *; omega) | (simp only [mlen]; omega)) (by first | omega | (unfold QIn at *; omega) | (simp only [mlen]; unfold QIn at *; omega) | (simp only [mlen]; omega)) ?_
            refine m_callR1 dX10_against_67 v_X10_162 hA (c_richest κ hA hR (by first | omega | exact hR _ _) (by omega) (by omega)) (by decide) rfl (fun rr Mx hx => ?_)
            obtain ⟨hx1, hq⟩ := hx
            obtain rfl := hx1.symm
            refine r_if_ge (tgt := 75) dX10_against_70 (by decide) (by first | omega | exact hR _ _ | (have := hq.rg n0; omega)) (fun c_70 => ?_) (fun c_70 => ?_)
            · have hq_1 := hq
              refine r_inc4 dX10_against_75 rfl ?_
              refine r_goto (tgt := 49) dX10_against_78 (by decide) ?_
              refine r_il4 dX10_against_49 ?_
              refine r_il2 dX10_against_51 ?_
              refine r_icmp_ge (tgt := 81) dX10_against_52 (by decide) (by first | omega | exact hR _ _ | (have := hq.rg n0; omega)) (by first | omega | exact hR _ _ | (have := hq.rg n0; omega)) (fun c_52 => ?_) (fun c_52 => ?_)
              · refine r_al0 dX10_against_81 ?_
                refine m_get dX10_against_82 f_X10_7 hA rfl ?_
                refine r_iconst dX10_against_85 ?_
                refine m_ald dX10_against_86 hA (by decide) rfl (by first | omega | (unfold QIn at *; omega) | (simp only [mlen]; unfold QIn at *; omega) | (simp only [mlen]; omega)) (by first | omega | (unfold QIn at *; omega) | (simp only [mlen]; unfold QIn at *; omega) | (simp only [mlen]; omega)) ?_
                refine r_il2 dX10_against_87 ?_
                refine r_isub dX10_against_88 ?_
                refine r_il3 dX10_against_89 ?_
                refine r_iadd dX10_against_90 ?_
                refine r_bipush dX10_against_91 (by decide) ?_
                refine r_icmp_le (tgt := 100) dX10_against_93 (by decide) (by first | omega | exact hR _ _ | (have := hq.rg n0; omega)) (by first | omega | exact hR _ _ | (have := hq.rg n0; omega)) (fun c_93 => ?_) (fun c_93 => ?_)
                · refine r_iconst dX10_against_100 ?_
                  refine r_iret dX10_against_101 (ty := .int) rfl rfl ⟨_, _, rfl, rfl, rfl, ?_⟩
                  have z1 : QAg (M 0) e := by first | exact ⟨QRc.ex (g := M 0) (n := M 0 1) (code := M 0 (28 + 4 * e + 0)) (by assumption) (by omega), fun _ => hq.ex (by omega)⟩ | exact ⟨hq.ex (by omega), fun z => absurd (by assumption) z⟩
                  have z2 : M 0 (28 + 4 * e + 1) = 32 → (if M 0 (28 + 4 * e + 1) = 32 then (0 : Int) else 1) = 0 := fun q => if_pos q
                  have z3 : ¬ M 0 (28 + 4 * e + 1) = 32 → (if M 0 (28 + 4 * e + 1) = 32 then (0 : Int) else 1) = 1 := fun q => if_neg q
                  have z4 : M 0 (28 + 4 * e + 3) = 32 → (if M 0 (28 + 4 * e + 3) = 32 then (0 : Int) else 1) = 0 := fun q => if_pos q
                  have z5 : ¬ M 0 (28 + 4 * e + 3) = 32 → (if M 0 (28 + 4 * e + 3) = 32 then (0 : Int) else 1) = 1 := fun q => if_neg q
                  first | exact Or.inr (Or.inl ⟨z1, by unfold QAgn; first | (rw [z2 (by assumption), z4 (by assumption)]; omega) | (rw [z2 (by assumption), z5 (by assumption)]; omega) | (rw [z3 (by assumption), z4 (by assumption)]; omega) | (rw [z3 (by assumption), z5 (by assumption)]; omega), rfl⟩) | exact Or.inr (Or.inr ⟨z1, by unfold QAgn; first | (rw [z2 (by assumption), z4 (by assumption)]; omega) | (rw [z2 (by assumption), z5 (by assumption)]; omega) | (rw [z3 (by assumption), z4 (by assumption)]; omega) | (rw [z3 (by assumption), z5 (by assumption)]; omega), rfl⟩)
                · refine r_iconst dX10_against_96 ?_
                  refine r_goto (tgt := 101) dX10_against_97 (by decide) ?_
                  refine r_iret dX10_against_101 (ty := .int) rfl rfl ⟨_, _, rfl, rfl, rfl, ?_⟩
                  have z1 : QAg (M 0) e := by first | exact ⟨QRc.ex (g := M 0) (n := M 0 1) (code := M 0 (28 + 4 * e + 0)) (by assumption) (by omega), fun _ => hq.ex (by omega)⟩ | exact ⟨hq.ex (by omega), fun z => absurd (by assumption) z⟩
                  have z2 : M 0 (28 + 4 * e + 1) = 32 → (if M 0 (28 + 4 * e + 1) = 32 then (0 : Int) else 1) = 0 := fun q => if_pos q
                  have z3 : ¬ M 0 (28 + 4 * e + 1) = 32 → (if M 0 (28 + 4 * e + 1) = 32 then (0 : Int) else 1) = 1 := fun q => if_neg q
                  have z4 : M 0 (28 + 4 * e + 3) = 32 → (if M 0 (28 + 4 * e + 3) = 32 then (0 : Int) else 1) = 0 := fun q => if_pos q
                  have z5 : ¬ M 0 (28 + 4 * e + 3) = 32 → (if M 0 (28 + 4 * e + 3) = 32 then (0 : Int) else 1) = 1 := fun q => if_neg q
                  first | exact Or.inr (Or.inl ⟨z1, by unfold QAgn; first | (rw [z2 (by assumption), z4 (by assumption)]; omega) | (rw [z2 (by assumption), z5 (by assumption)]; omega) | (rw [z3 (by assumption), z4 (by assumption)]; omega) | (rw [z3 (by assumption), z5 (by assumption)]; omega), rfl⟩) | exact Or.inr (Or.inr ⟨z1, by unfold QAgn; first | (rw [z2 (by assumption), z4 (by assumption)]; omega) | (rw [z2 (by assumption), z5 (by assumption)]; omega) | (rw [z3 (by assumption), z4 (by assumption)]; omega) | (rw [z3 (by assumption), z5 (by assumption)]; omega), rfl⟩)
              · exact absurd c_52 (by decide)
            · refine r_iconst dX10_against_73 ?_
              refine r_iret dX10_against_74 (ty := .int) rfl rfl ⟨_, _, rfl, rfl, rfl, Or.inl ⟨(fun z => ?_), rfl⟩⟩
              first | exact hq.neg (by omega) z.1 | exact hq.neg (by omega) (z.2 (by assumption))
        · refine r_iconst dX10_against_73 ?_
          refine r_iret dX10_against_74 (ty := .int) rfl rfl ⟨_, _, rfl, rfl, rfl, Or.inl ⟨(fun z => ?_), rfl⟩⟩
          first | exact hq.neg (by omega) z.1 | exact hq.neg (by omega) (z.2 (by assumption))
    · refine r_iconst dX10_against_39 ?_
      refine r_goto (tgt := 44) dX10_against_40 (by decide) ?_
      refine r_iadd dX10_against_44 ?_
      refine r_is3 dX10_against_45 rfl ?_
      refine r_iconst dX10_against_46 ?_
      refine r_is4 dX10_against_47 rfl ?_
      refine r_il4 dX10_against_49 ?_
      refine r_il2 dX10_against_51 ?_
      refine r_icmp_ge (tgt := 81) dX10_against_52 (by decide) (by first | omega | exact hR _ _ | (have := hq.rg n0; omega)) (by first | omega | exact hR _ _ | (have := hq.rg n0; omega)) (fun c_52 => ?_) (fun c_52 => ?_)
      · exact absurd c_52 (by decide)
      · refine r_al0 dX10_against_55 ?_
        refine r_al0 dX10_against_56 ?_
        refine m_get dX10_against_57 f_X10_7 hA rfl ?_
        refine r_il1 dX10_against_60 ?_
        refine r_il4 dX10_against_61 ?_
        refine r_callSP2 dX10_against_63 s_X10_156 (c_equalAt κ _) (by decide) rfl ?_
        refine m_ald dX10_against_66 hA (by decide) rfl (by first | omega | (unfold QIn at *; omega) | (simp only [mlen]; unfold QIn at *; omega) | (simp only [mlen]; omega)) (by first | omega | (unfold QIn at *; omega) | (simp only [mlen]; unfold QIn at *; omega) | (simp only [mlen]; omega)) ?_
        refine m_callR1 dX10_against_67 v_X10_162 hA (c_richest κ hA hR (by first | omega | exact hR _ _) (by omega) (by omega)) (by decide) rfl (fun rr Mx hx => ?_)
        obtain ⟨hx1, hq⟩ := hx
        obtain rfl := hx1.symm
        refine r_if_ge (tgt := 75) dX10_against_70 (by decide) (by first | omega | exact hR _ _ | (have := hq.rg n0; omega)) (fun c_70 => ?_) (fun c_70 => ?_)
        · have hq_1 := hq
          refine r_inc4 dX10_against_75 rfl ?_
          refine r_goto (tgt := 49) dX10_against_78 (by decide) ?_
          refine r_il4 dX10_against_49 ?_
          refine r_il2 dX10_against_51 ?_
          refine r_icmp_ge (tgt := 81) dX10_against_52 (by decide) (by first | omega | exact hR _ _ | (have := hq.rg n0; omega)) (by first | omega | exact hR _ _ | (have := hq.rg n0; omega)) (fun c_52 => ?_) (fun c_52 => ?_)
          · exact absurd c_52 (by decide)
          · refine r_al0 dX10_against_55 ?_
            refine r_al0 dX10_against_56 ?_
            refine m_get dX10_against_57 f_X10_7 hA rfl ?_
            refine r_il1 dX10_against_60 ?_
            refine r_il4 dX10_against_61 ?_
            refine r_callSP2 dX10_against_63 s_X10_156 (c_equalAt κ _) (by decide) rfl ?_
            refine m_ald dX10_against_66 hA (by decide) rfl (by first | omega | (unfold QIn at *; omega) | (simp only [mlen]; unfold QIn at *; omega) | (simp only [mlen]; omega)) (by first | omega | (unfold QIn at *; omega) | (simp only [mlen]; unfold QIn at *; omega) | (simp only [mlen]; omega)) ?_
            refine m_callR1 dX10_against_67 v_X10_162 hA (c_richest κ hA hR (by first | omega | exact hR _ _) (by omega) (by omega)) (by decide) rfl (fun rr Mx hx => ?_)
            obtain ⟨hx1, hq⟩ := hx
            obtain rfl := hx1.symm
            refine r_if_ge (tgt := 75) dX10_against_70 (by decide) (by first | omega | exact hR _ _ | (have := hq.rg n0; omega)) (fun c_70 => ?_) (fun c_70 => ?_)
            · have hq_1 := hq
              refine r_inc4 dX10_against_75 rfl ?_
              refine r_goto (tgt := 49) dX10_against_78 (by decide) ?_
              refine r_il4 dX10_against_49 ?_
              refine r_il2 dX10_against_51 ?_
              refine r_icmp_ge (tgt := 81) dX10_against_52 (by decide) (by first | omega | exact hR _ _ | (have := hq.rg n0; omega)) (by first | omega | exact hR _ _ | (have := hq.rg n0; omega)) (fun c_52 => ?_) (fun c_52 => ?_)
              · refine r_al0 dX10_against_81 ?_
                refine m_get dX10_against_82 f_X10_7 hA rfl ?_
                refine r_iconst dX10_against_85 ?_
                refine m_ald dX10_against_86 hA (by decide) rfl (by first | omega | (unfold QIn at *; omega) | (simp only [mlen]; unfold QIn at *; omega) | (simp only [mlen]; omega)) (by first | omega | (unfold QIn at *; omega) | (simp only [mlen]; unfold QIn at *; omega) | (simp only [mlen]; omega)) ?_
                refine r_il2 dX10_against_87 ?_
                refine r_isub dX10_against_88 ?_
                refine r_il3 dX10_against_89 ?_
                refine r_iadd dX10_against_90 ?_
                refine r_bipush dX10_against_91 (by decide) ?_
                refine r_icmp_le (tgt := 100) dX10_against_93 (by decide) (by first | omega | exact hR _ _ | (have := hq.rg n0; omega)) (by first | omega | exact hR _ _ | (have := hq.rg n0; omega)) (fun c_93 => ?_) (fun c_93 => ?_)
                · refine r_iconst dX10_against_100 ?_
                  refine r_iret dX10_against_101 (ty := .int) rfl rfl ⟨_, _, rfl, rfl, rfl, ?_⟩
                  have z1 : QAg (M 0) e := by first | exact ⟨QRc.ex (g := M 0) (n := M 0 1) (code := M 0 (28 + 4 * e + 0)) (by assumption) (by omega), fun _ => hq.ex (by omega)⟩ | exact ⟨hq.ex (by omega), fun z => absurd (by assumption) z⟩
                  have z2 : M 0 (28 + 4 * e + 1) = 32 → (if M 0 (28 + 4 * e + 1) = 32 then (0 : Int) else 1) = 0 := fun q => if_pos q
                  have z3 : ¬ M 0 (28 + 4 * e + 1) = 32 → (if M 0 (28 + 4 * e + 1) = 32 then (0 : Int) else 1) = 1 := fun q => if_neg q
                  have z4 : M 0 (28 + 4 * e + 3) = 32 → (if M 0 (28 + 4 * e + 3) = 32 then (0 : Int) else 1) = 0 := fun q => if_pos q
                  have z5 : ¬ M 0 (28 + 4 * e + 3) = 32 → (if M 0 (28 + 4 * e + 3) = 32 then (0 : Int) else 1) = 1 := fun q => if_neg q
                  first | exact Or.inr (Or.inl ⟨z1, by unfold QAgn; first | (rw [z2 (by assumption), z4 (by assumption)]; omega) | (rw [z2 (by assumption), z5 (by assumption)]; omega) | (rw [z3 (by assumption), z4 (by assumption)]; omega) | (rw [z3 (by assumption), z5 (by assumption)]; omega), rfl⟩) | exact Or.inr (Or.inr ⟨z1, by unfold QAgn; first | (rw [z2 (by assumption), z4 (by assumption)]; omega) | (rw [z2 (by assumption), z5 (by assumption)]; omega) | (rw [z3 (by assumption), z4 (by assumption)]; omega) | (rw [z3 (by assumption), z5 (by assumption)]; omega), rfl⟩)
                · refine r_iconst dX10_against_96 ?_
                  refine r_goto (tgt := 101) dX10_against_97 (by decide) ?_
                  refine r_iret dX10_against_101 (ty := .int) rfl rfl ⟨_, _, rfl, rfl, rfl, ?_⟩
                  have z1 : QAg (M 0) e := by first | exact ⟨QRc.ex (g := M 0) (n := M 0 1) (code := M 0 (28 + 4 * e + 0)) (by assumption) (by omega), fun _ => hq.ex (by omega)⟩ | exact ⟨hq.ex (by omega), fun z => absurd (by assumption) z⟩
                  have z2 : M 0 (28 + 4 * e + 1) = 32 → (if M 0 (28 + 4 * e + 1) = 32 then (0 : Int) else 1) = 0 := fun q => if_pos q
                  have z3 : ¬ M 0 (28 + 4 * e + 1) = 32 → (if M 0 (28 + 4 * e + 1) = 32 then (0 : Int) else 1) = 1 := fun q => if_neg q
                  have z4 : M 0 (28 + 4 * e + 3) = 32 → (if M 0 (28 + 4 * e + 3) = 32 then (0 : Int) else 1) = 0 := fun q => if_pos q
                  have z5 : ¬ M 0 (28 + 4 * e + 3) = 32 → (if M 0 (28 + 4 * e + 3) = 32 then (0 : Int) else 1) = 1 := fun q => if_neg q
                  first | exact Or.inr (Or.inl ⟨z1, by unfold QAgn; first | (rw [z2 (by assumption), z4 (by assumption)]; omega) | (rw [z2 (by assumption), z5 (by assumption)]; omega) | (rw [z3 (by assumption), z4 (by assumption)]; omega) | (rw [z3 (by assumption), z5 (by assumption)]; omega), rfl⟩) | exact Or.inr (Or.inr ⟨z1, by unfold QAgn; first | (rw [z2 (by assumption), z4 (by assumption)]; omega) | (rw [z2 (by assumption), z5 (by assumption)]; omega) | (rw [z3 (by assumption), z4 (by assumption)]; omega) | (rw [z3 (by assumption), z5 (by assumption)]; omega), rfl⟩)
              · exact absurd c_52 (by decide)
            · refine r_iconst dX10_against_73 ?_
              refine r_iret dX10_against_74 (ty := .int) rfl rfl ⟨_, _, rfl, rfl, rfl, Or.inl ⟨(fun z => ?_), rfl⟩⟩
              first | exact hq.neg (by omega) z.1 | exact hq.neg (by omega) (z.2 (by assumption))
        · refine r_iconst dX10_against_73 ?_
          refine r_iret dX10_against_74 (ty := .int) rfl rfl ⟨_, _, rfl, rfl, rfl, Or.inl ⟨(fun z => ?_), rfl⟩⟩
          first | exact hq.neg (by omega) z.1 | exact hq.neg (by omega) (z.2 (by assumption))
  · refine r_iconst dX10_against_16 ?_
    refine r_goto (tgt := 21) dX10_against_17 (by decide) ?_
    refine r_iadd dX10_against_21 ?_
    refine r_is2 dX10_against_22 rfl ?_
    refine r_iconst dX10_against_23 ?_
    refine r_al0 dX10_against_24 ?_
    refine m_get dX10_against_25 f_X10_7 hA rfl ?_
    refine r_il1 dX10_against_28 ?_
    refine r_iconst dX10_against_29 ?_
    refine r_callSP2 dX10_against_30 s_X10_156 (c_equalAt κ _) (by decide) rfl ?_
    refine m_ald dX10_against_33 hA (by decide) rfl (by first | omega | (unfold QIn at *; omega) | (simp only [mlen]; unfold QIn at *; omega) | (simp only [mlen]; omega)) (by first | omega | (unfold QIn at *; omega) | (simp only [mlen]; unfold QIn at *; omega) | (simp only [mlen]; omega)) ?_
    refine r_bipush dX10_against_34 (by decide) ?_
    refine r_icmp_ne (tgt := 43) dX10_against_36 (by decide) (by first | omega | exact hR _ _ | (have := hq.rg n0; omega)) (by first | omega | exact hR _ _ | (have := hq.rg n0; omega)) (fun c_36 => ?_) (fun c_36 => ?_)
    · refine r_iconst dX10_against_43 ?_
      refine r_iadd dX10_against_44 ?_
      refine r_is3 dX10_against_45 rfl ?_
      refine r_iconst dX10_against_46 ?_
      refine r_is4 dX10_against_47 rfl ?_
      refine r_il4 dX10_against_49 ?_
      refine r_il2 dX10_against_51 ?_
      refine r_icmp_ge (tgt := 81) dX10_against_52 (by decide) (by first | omega | exact hR _ _ | (have := hq.rg n0; omega)) (by first | omega | exact hR _ _ | (have := hq.rg n0; omega)) (fun c_52 => ?_) (fun c_52 => ?_)
      · exact absurd c_52 (by decide)
      · refine r_al0 dX10_against_55 ?_
        refine r_al0 dX10_against_56 ?_
        refine m_get dX10_against_57 f_X10_7 hA rfl ?_
        refine r_il1 dX10_against_60 ?_
        refine r_il4 dX10_against_61 ?_
        refine r_callSP2 dX10_against_63 s_X10_156 (c_equalAt κ _) (by decide) rfl ?_
        refine m_ald dX10_against_66 hA (by decide) rfl (by first | omega | (unfold QIn at *; omega) | (simp only [mlen]; unfold QIn at *; omega) | (simp only [mlen]; omega)) (by first | omega | (unfold QIn at *; omega) | (simp only [mlen]; unfold QIn at *; omega) | (simp only [mlen]; omega)) ?_
        refine m_callR1 dX10_against_67 v_X10_162 hA (c_richest κ hA hR (by first | omega | exact hR _ _) (by omega) (by omega)) (by decide) rfl (fun rr Mx hx => ?_)
        obtain ⟨hx1, hq⟩ := hx
        obtain rfl := hx1.symm
        refine r_if_ge (tgt := 75) dX10_against_70 (by decide) (by first | omega | exact hR _ _ | (have := hq.rg n0; omega)) (fun c_70 => ?_) (fun c_70 => ?_)
        · have hq_1 := hq
          refine r_inc4 dX10_against_75 rfl ?_
          refine r_goto (tgt := 49) dX10_against_78 (by decide) ?_
          refine r_il4 dX10_against_49 ?_
          refine r_il2 dX10_against_51 ?_
          refine r_icmp_ge (tgt := 81) dX10_against_52 (by decide) (by first | omega | exact hR _ _ | (have := hq.rg n0; omega)) (by first | omega | exact hR _ _ | (have := hq.rg n0; omega)) (fun c_52 => ?_) (fun c_52 => ?_)
          · refine r_al0 dX10_against_81 ?_
            refine m_get dX10_against_82 f_X10_7 hA rfl ?_
            refine r_iconst dX10_against_85 ?_
            refine m_ald dX10_against_86 hA (by decide) rfl (by first | omega | (unfold QIn at *; omega) | (simp only [mlen]; unfold QIn at *; omega) | (simp only [mlen]; omega)) (by first | omega | (unfold QIn at *; omega) | (simp only [mlen]; unfold QIn at *; omega) | (simp only [mlen]; omega)) ?_
            refine r_il2 dX10_against_87 ?_
            refine r_isub dX10_against_88 ?_
            refine r_il3 dX10_against_89 ?_
            refine r_iadd dX10_against_90 ?_
            refine r_bipush dX10_against_91 (by decide) ?_
            refine r_icmp_le (tgt := 100) dX10_against_93 (by decide) (by first | omega | exact hR _ _ | (have := hq.rg n0; omega)) (by first | omega | exact hR _ _ | (have := hq.rg n0; omega)) (fun c_93 => ?_) (fun c_93 => ?_)
            · refine r_iconst dX10_against_100 ?_
              refine r_iret dX10_against_101 (ty := .int) rfl rfl ⟨_, _, rfl, rfl, rfl, ?_⟩
              have z1 : QAg (M 0) e := by first | exact ⟨QRc.ex (g := M 0) (n := M 0 1) (code := M 0 (28 + 4 * e + 0)) (by assumption) (by omega), fun _ => hq.ex (by omega)⟩ | exact ⟨hq.ex (by omega), fun z => absurd (by assumption) z⟩
              have z2 : M 0 (28 + 4 * e + 1) = 32 → (if M 0 (28 + 4 * e + 1) = 32 then (0 : Int) else 1) = 0 := fun q => if_pos q
              have z3 : ¬ M 0 (28 + 4 * e + 1) = 32 → (if M 0 (28 + 4 * e + 1) = 32 then (0 : Int) else 1) = 1 := fun q => if_neg q
              have z4 : M 0 (28 + 4 * e + 3) = 32 → (if M 0 (28 + 4 * e + 3) = 32 then (0 : Int) else 1) = 0 := fun q => if_pos q
              have z5 : ¬ M 0 (28 + 4 * e + 3) = 32 → (if M 0 (28 + 4 * e + 3) = 32 then (0 : Int) else 1) = 1 := fun q => if_neg q
              first | exact Or.inr (Or.inl ⟨z1, by unfold QAgn; first | (rw [z2 (by assumption), z4 (by assumption)]; omega) | (rw [z2 (by assumption), z5 (by assumption)]; omega) | (rw [z3 (by assumption), z4 (by assumption)]; omega) | (rw [z3 (by assumption), z5 (by assumption)]; omega), rfl⟩) | exact Or.inr (Or.inr ⟨z1, by unfold QAgn; first | (rw [z2 (by assumption), z4 (by assumption)]; omega) | (rw [z2 (by assumption), z5 (by assumption)]; omega) | (rw [z3 (by assumption), z4 (by assumption)]; omega) | (rw [z3 (by assumption), z5 (by assumption)]; omega), rfl⟩)
            · refine r_iconst dX10_against_96 ?_
              refine r_goto (tgt := 101) dX10_against_97 (by decide) ?_
              refine r_iret dX10_against_101 (ty := .int) rfl rfl ⟨_, _, rfl, rfl, rfl, ?_⟩
              have z1 : QAg (M 0) e := by first | exact ⟨QRc.ex (g := M 0) (n := M 0 1) (code := M 0 (28 + 4 * e + 0)) (by assumption) (by omega), fun _ => hq.ex (by omega)⟩ | exact ⟨hq.ex (by omega), fun z => absurd (by assumption) z⟩
              have z2 : M 0 (28 + 4 * e + 1) = 32 → (if M 0 (28 + 4 * e + 1) = 32 then (0 : Int) else 1) = 0 := fun q => if_pos q
              have z3 : ¬ M 0 (28 + 4 * e + 1) = 32 → (if M 0 (28 + 4 * e + 1) = 32 then (0 : Int) else 1) = 1 := fun q => if_neg q
              have z4 : M 0 (28 + 4 * e + 3) = 32 → (if M 0 (28 + 4 * e + 3) = 32 then (0 : Int) else 1) = 0 := fun q => if_pos q
              have z5 : ¬ M 0 (28 + 4 * e + 3) = 32 → (if M 0 (28 + 4 * e + 3) = 32 then (0 : Int) else 1) = 1 := fun q => if_neg q
              first | exact Or.inr (Or.inl ⟨z1, by unfold QAgn; first | (rw [z2 (by assumption), z4 (by assumption)]; omega) | (rw [z2 (by assumption), z5 (by assumption)]; omega) | (rw [z3 (by assumption), z4 (by assumption)]; omega) | (rw [z3 (by assumption), z5 (by assumption)]; omega), rfl⟩) | exact Or.inr (Or.inr ⟨z1, by unfold QAgn; first | (rw [z2 (by assumption), z4 (by assumption)]; omega) | (rw [z2 (by assumption), z5 (by assumption)]; omega) | (rw [z3 (by assumption), z4 (by assumption)]; omega) | (rw [z3 (by assumption), z5 (by assumption)]; omega), rfl⟩)
          · exact absurd c_52 (by decide)
        · refine r_iconst dX10_against_73 ?_
          refine r_iret dX10_against_74 (ty := .int) rfl rfl ⟨_, _, rfl, rfl, rfl, Or.inl ⟨(fun z => ?_), rfl⟩⟩
          first | exact hq.neg (by omega) z.1 | exact hq.neg (by omega) (z.2 (by assumption))
    · refine r_iconst dX10_against_39 ?_
      refine r_goto (tgt := 44) dX10_against_40 (by decide) ?_
      refine r_iadd dX10_against_44 ?_
      refine r_is3 dX10_against_45 rfl ?_
      refine r_iconst dX10_against_46 ?_
      refine r_is4 dX10_against_47 rfl ?_
      refine r_il4 dX10_against_49 ?_
      refine r_il2 dX10_against_51 ?_
      refine r_icmp_ge (tgt := 81) dX10_against_52 (by decide) (by first | omega | exact hR _ _ | (have := hq.rg n0; omega)) (by first | omega | exact hR _ _ | (have := hq.rg n0; omega)) (fun c_52 => ?_) (fun c_52 => ?_)
      · exact absurd c_52 (by decide)
      · refine r_al0 dX10_against_55 ?_
        refine r_al0 dX10_against_56 ?_
        refine m_get dX10_against_57 f_X10_7 hA rfl ?_
        refine r_il1 dX10_against_60 ?_
        refine r_il4 dX10_against_61 ?_
        refine r_callSP2 dX10_against_63 s_X10_156 (c_equalAt κ _) (by decide) rfl ?_
        refine m_ald dX10_against_66 hA (by decide) rfl (by first | omega | (unfold QIn at *; omega) | (simp only [mlen]; unfold QIn at *; omega) | (simp only [mlen]; omega)) (by first | omega | (unfold QIn at *; omega) | (simp only [mlen]; unfold QIn at *; omega) | (simp only [mlen]; omega)) ?_
        refine m_callR1 dX10_against_67 v_X10_162 hA (c_richest κ hA hR (by first | omega | exact hR _ _) (by omega) (by omega)) (by decide) rfl (fun rr Mx hx => ?_)
        obtain ⟨hx1, hq⟩ := hx
        obtain rfl := hx1.symm
        refine r_if_ge (tgt := 75) dX10_against_70 (by decide) (by first | omega | exact hR _ _ | (have := hq.rg n0; omega)) (fun c_70 => ?_) (fun c_70 => ?_)
        · have hq_1 := hq
          refine r_inc4 dX10_against_75 rfl ?_
          refine r_goto (tgt := 49) dX10_against_78 (by decide) ?_
          refine r_il4 dX10_against_49 ?_
          refine r_il2 dX10_against_51 ?_
          refine r_icmp_ge (tgt := 81) dX10_against_52 (by decide) (by first | omega | exact hR _ _ | (have := hq.rg n0; omega)) (by first | omega | exact hR _ _ | (have := hq.rg n0; omega)) (fun c_52 => ?_) (fun c_52 => ?_)
          · refine r_al0 dX10_against_81 ?_
            refine m_get dX10_against_82 f_X10_7 hA rfl ?_
            refine r_iconst dX10_against_85 ?_
            refine m_ald dX10_against_86 hA (by decide) rfl (by first | omega | (unfold QIn at *; omega) | (simp only [mlen]; unfold QIn at *; omega) | (simp only [mlen]; omega)) (by first | omega | (unfold QIn at *; omega) | (simp only [mlen]; unfold QIn at *; omega) | (simp only [mlen]; omega)) ?_
            refine r_il2 dX10_against_87 ?_
            refine r_isub dX10_against_88 ?_
            refine r_il3 dX10_against_89 ?_
            refine r_iadd dX10_against_90 ?_
            refine r_bipush dX10_against_91 (by decide) ?_
            refine r_icmp_le (tgt := 100) dX10_against_93 (by decide) (by first | omega | exact hR _ _ | (have := hq.rg n0; omega)) (by first | omega | exact hR _ _ | (have := hq.rg n0; omega)) (fun c_93 => ?_) (fun c_93 => ?_)
            · refine r_iconst dX10_against_100 ?_
              refine r_iret dX10_against_101 (ty := .int) rfl rfl ⟨_, _, rfl, rfl, rfl, ?_⟩
              have z1 : QAg (M 0) e := by first | exact ⟨QRc.ex (g := M 0) (n := M 0 1) (code := M 0 (28 + 4 * e + 0)) (by assumption) (by omega), fun _ => hq.ex (by omega)⟩ | exact ⟨hq.ex (by omega), fun z => absurd (by assumption) z⟩
              have z2 : M 0 (28 + 4 * e + 1) = 32 → (if M 0 (28 + 4 * e + 1) = 32 then (0 : Int) else 1) = 0 := fun q => if_pos q
              have z3 : ¬ M 0 (28 + 4 * e + 1) = 32 → (if M 0 (28 + 4 * e + 1) = 32 then (0 : Int) else 1) = 1 := fun q => if_neg q
              have z4 : M 0 (28 + 4 * e + 3) = 32 → (if M 0 (28 + 4 * e + 3) = 32 then (0 : Int) else 1) = 0 := fun q => if_pos q
              have z5 : ¬ M 0 (28 + 4 * e + 3) = 32 → (if M 0 (28 + 4 * e + 3) = 32 then (0 : Int) else 1) = 1 := fun q => if_neg q
              first | exact Or.inr (Or.inl ⟨z1, by unfold QAgn; first | (rw [z2 (by assumption), z4 (by assumption)]; omega) | (rw [z2 (by assumption), z5 (by assumption)]; omega) | (rw [z3 (by assumption), z4 (by assumption)]; omega) | (rw [z3 (by assumption), z5 (by assumption)]; omega), rfl⟩) | exact Or.inr (Or.inr ⟨z1, by unfold QAgn; first | (rw [z2 (by assumption), z4 (by assumption)]; omega) | (rw [z2 (by assumption), z5 (by assumption)]; omega) | (rw [z3 (by assumption), z4 (by assumption)]; omega) | (rw [z3 (by assumption), z5 (by assumption)]; omega), rfl⟩)
            · refine r_iconst dX10_against_96 ?_
              refine r_goto (tgt := 101) dX10_against_97 (by decide) ?_
              refine r_iret dX10_against_101 (ty := .int) rfl rfl ⟨_, _, rfl, rfl, rfl, ?_⟩
              have z1 : QAg (M 0) e := by first | exact ⟨QRc.ex (g := M 0) (n := M 0 1) (code := M 0 (28 + 4 * e + 0)) (by assumption) (by omega), fun _ => hq.ex (by omega)⟩ | exact ⟨hq.ex (by omega), fun z => absurd (by assumption) z⟩
              have z2 : M 0 (28 + 4 * e + 1) = 32 → (if M 0 (28 + 4 * e + 1) = 32 then (0 : Int) else 1) = 0 := fun q => if_pos q
              have z3 : ¬ M 0 (28 + 4 * e + 1) = 32 → (if M 0 (28 + 4 * e + 1) = 32 then (0 : Int) else 1) = 1 := fun q => if_neg q
              have z4 : M 0 (28 + 4 * e + 3) = 32 → (if M 0 (28 + 4 * e + 3) = 32 then (0 : Int) else 1) = 0 := fun q => if_pos q
              have z5 : ¬ M 0 (28 + 4 * e + 3) = 32 → (if M 0 (28 + 4 * e + 3) = 32 then (0 : Int) else 1) = 1 := fun q => if_neg q
              first | exact Or.inr (Or.inl ⟨z1, by unfold QAgn; first | (rw [z2 (by assumption), z4 (by assumption)]; omega) | (rw [z2 (by assumption), z5 (by assumption)]; omega) | (rw [z3 (by assumption), z4 (by assumption)]; omega) | (rw [z3 (by assumption), z5 (by assumption)]; omega), rfl⟩) | exact Or.inr (Or.inr ⟨z1, by unfold QAgn; first | (rw [z2 (by assumption), z4 (by assumption)]; omega) | (rw [z2 (by assumption), z5 (by assumption)]; omega) | (rw [z3 (by assumption), z4 (by assumption)]; omega) | (rw [z3 (by assumption), z5 (by assumption)]; omega), rfl⟩)
          · exact absurd c_52 (by decide)
        · refine r_iconst dX10_against_73 ?_
          refine r_iret dX10_against_74 (ty := .int) rfl rfl ⟨_, _, rfl, rfl, rfl, Or.inl ⟨(fun z => ?_), rfl⟩⟩
          first | exact hq.neg (by omega) z.1 | exact hq.neg (by omega) (z.2 (by assumption))
def mn (a b : Int) : Int := if a < b then a else b
theorem mn_lt {a b : Int} (h : a < b) : mn a b = a := if_pos h
theorem mn_ge {a b : Int} (h : ¬ a < b) : mn a b = b := if_neg h
theorem mn_rg {a b B : Int} (h1 : 0 ≤ a ∧ a ≤ B) (h2 : 0 ≤ b ∧ b ≤ B) : 0 ≤ mn a b ∧ mn a b ≤ B := by
  unfold mn
  split <;> omega
/-- the credits' numbers are small -/
def FC (g : Int → Int) : Prop := (∀ i, rng (g i)) ∧ (0 ≤ g 1 ∧ g 1 ≤ 6) ∧ ∀ c, 0 ≤ c → c < g 1 → (0 ≤ g (4 + 4 * c + 1) ∧ g (4 + 4 * c + 1) ≤ 24) ∧ (0 ≤ g (4 + 4 * c + 2) ∧ g (4 + 4 * c + 2) ≤ 20) ∧ (0 ≤ g (4 + 4 * c + 3) ∧ g (4 + 4 * c + 3) ≤ 60)
theorem ggo_n {g : Int → Int} {c : Int} (hc : 0 ≤ c) : ggo g c 1 = g 1 - 1 := by
  unfold ggo
  rw [if_neg (by omega), if_pos rfl]
theorem ggo_hi {g : Int → Int} {c i : Int} (hn : g 1 ≤ 6) (hi : 28 ≤ i) : ggo g c i = g i := by
  unfold ggo
  rw [if_neg (by omega), if_neg (by omega)]
theorem ggo_lo {g : Int → Int} {c i : Int} (hc : 0 ≤ c) (hi : i ≤ 3) (h1 : i ≠ 1) : ggo g c i = g i := by
  unfold ggo
  rw [if_neg (by omega), if_neg h1]
theorem ggo_c {g : Int → Int} {c k x : Int} (hk : 0 ≤ k) (hx : 0 ≤ x ∧ x ≤ 3) (hk2 : k < g 1 - 1) : ggo g c (4 + 4 * k + x) = g (4 + 4 * (if k < c then k else k + 1) + x) := by
  unfold ggo
  by_cases e : k < c
  · rw [if_neg (by omega), if_neg (by omega), if_pos e]
  · rw [if_pos (by omega), if_neg e]
    congr 1
    omega
theorem FC.go {g : Int → Int} {c : Int} (h : FC g) (hc : 0 ≤ c) (hc1 : c < g 1) : FC (ggo g c) := by
  obtain ⟨h1, h2, h3⟩ := h
  refine ⟨fun i => ?_, by rw [ggo_n hc]; omega, fun k k0 k1 => ?_⟩
  · unfold ggo
    split
    · exact h1 _
    · split
      · omega
      · exact h1 _
  · rw [ggo_n hc] at k1
    rw [ggo_c k0 (by omega) k1, ggo_c k0 (by omega) k1, ggo_c k0 (by omega) k1]
    exact h3 _ (by split <;> omega) (by split <;> omega)
theorem gcm_hi {g : Int → Int} {a b c e i : Int} (hn : g 1 ≤ 5) (hi : 28 ≤ i) : gcm g a b c e i = g i := by
  unfold gcm upz
  rw [if_neg (by omega), if_neg (by omega), if_neg (by omega), if_neg (by omega), if_neg (by omega)]
theorem gcm_n {g : Int → Int} {a b c e : Int} (hn : 0 ≤ g 1) : gcm g a b c e 1 = g 1 + 1 := by
  unfold gcm upz
  rw [if_neg (by omega), if_neg (by omega), if_neg (by omega), if_neg (by omega), if_pos rfl]
def QFin (g : Int → Int) (e P gr y r : Int) (g' : Int → Int) : Prop := (g (28 + 4 * e + 3) = 32 ∧ r = 1 ∧ g' = gcm g (g (28 + 4 * e + 2)) P gr y) ∨ (g (28 + 4 * e + 3) ≠ 32 ∧ r = 2 ∧ g' = gcm (gcm g (g (28 + 4 * e + 2)) (P / 2 + P % 2) gr y) (g (28 + 4 * e + 3)) (P / 2) gr y)
def QAp1 (g : Int → Int) (e P gr y r : Int) (g' : Int → Int) : Prop := (g (28 + 4 * e + 1) = 32 ∧ QFin g e P gr y r g') ∨ (g (28 + 4 * e + 1) ≠ 32 ∧ ∃ c, QRc g (g (28 + 4 * e + 1)) (g 1) c ∧ 0 ≤ c ∧ QFin (ggo g c) e (P + g (4 + 4 * c + 1)) (mn (g (4 + 4 * c + 2)) gr) (mn (g (4 + 4 * c + 3)) y) r g')
def QAp (g : Int → Int) (e r : Int) (g' : Int → Int) : Prop := ∃ c, QRc g (g (28 + 4 * e + 0)) (g 1) c ∧ 0 ≤ c ∧ QAp1 (ggo g c) e (0 + g (4 + 4 * c + 1)) (mn (g (4 + 4 * c + 2)) 20) (mn (g (4 + 4 * c + 3)) 60) r g'
theorem QMt_go {g : Int → Int} {code r : Int} (h : ∃ c, 0 ≤ c ∧ c < g 1 ∧ QMt g code c) (hr : 0 ≤ r) (hr1 : r < g 1) (hc : g (4 + 4 * r + 0) ≠ code) : ∃ c, 0 ≤ c ∧ c < ggo g r 1 ∧ QMt (ggo g r) code c := by
  obtain ⟨k, k0, k1, k2, k3⟩ := h
  have hk : k ≠ r := by rintro rfl; exact hc k2
  rw [ggo_n hr]
  rcases (show k < r ∨ r < k by omega) with q | q
  · refine ⟨k, k0, ?_, ?_⟩
    · omega
    · unfold QMt
      rw [ggo_c k0 (by omega) (by omega), ggo_c k0 (by omega) (by omega), if_pos q]
      exact ⟨k2, k3⟩
  · refine ⟨k - 1, by omega, by omega, ?_⟩
    unfold QMt
    rw [ggo_c (by omega) (by omega) (by omega), ggo_c (by omega) (by omega) (by omega), if_neg (by omega), show k - 1 + 1 = k by omega]
    exact ⟨k2, k3⟩
theorem setg_setg {M : MEM} {g g2 : Int → Int} : setg (setg M g) g2 = setg M g2 := by
  funext k i
  unfold setg
  split <;> rfl
theorem FC.cm {g : Int → Int} {a b c e : Int} (h : ∀ i, rng (g i)) (hn : 0 ≤ g 1 ∧ g 1 ≤ 5) (ha : rng a) (hb : rng b) (hc : rng c) (he : rng e) : ∀ i, rng (gcm g a b c e i) := by
  intro i
  have := h i
  unfold gcm upz
  (repeat' split) <;> first | assumption | omega
set_option maxRecDepth 100000 in
set_option maxHeartbeats 4000000 in
theorem l_ap142 (κ : KP) {A : Nat → Nat} {M : MEM} (h : AH) (hA : MA A) (hR : RG M) {g : Int → Int} (hF : FC g) {e : Int} (e0 : 0 ≤ e) (e1 : e < 8) {P gr y : Int} {v5 v6 : Option Value} (nn : g 1 ≤ 5) (nn2 : g (28 + 4 * e + 3) ≠ 32 → g 1 ≤ 4) (P0 : 0 ≤ P) (P1 : P ≤ 48) (hgr : 0 ≤ gr ∧ gr ≤ 20) (hy : 0 ≤ y ∧ y ≤ 60) : WW κ mX10_applies 3 0 0 (fun v h' => ∃ r M', v = some (.int (J r)) ∧ h' = mset A M' h ∧ (fun r M' => ∃ g', M' = setg M g' ∧ (QFin g e P gr y) r g') r M') NoX 142 [some (.ref (A 30)), some (.int (J e)), some (.int (J P)), some (.int (J gr)), some (.int (J y)), v5, v6] [] (mset A (setg M g) h) := by
  obtain ⟨hg, ⟨n0, n1⟩, hs⟩ := hF
  have hF : FC g := ⟨hg, ⟨n0, n1⟩, hs⟩
  have hR2 : RG (setg M g) := RG_setg hR hg
  refine r_al0 dX10_applies_142 ?_
  refine m_get dX10_applies_143 f_X10_7 hA rfl ?_
  refine r_il1 dX10_applies_146 ?_
  refine r_iconst dX10_applies_147 ?_
  refine r_callSP2 dX10_applies_148 s_X10_156 (c_equalAt κ _) (by decide) rfl ?_
  refine m_ald dX10_applies_151 hA (by decide) rfl (by first | omega | (simp only [mlen]; omega)) (by first | omega | (simp only [mlen]; omega)) ?_
  try simp only [setg_0]
  refine r_bipush dX10_applies_152 (by decide) ?_
  refine r_icmp_ne (tgt := 178) dX10_applies_154 (by decide) (by first | omega | exact hg _ | (simp only [setg_0]; omega)) (by first | omega | exact hg _ | (simp only [setg_0]; omega)) (fun c_154 => ?_) (fun c_154 => ?_)
  · refine r_al0 dX10_applies_178 ?_
    refine r_al0 dX10_applies_179 ?_
    refine m_get dX10_applies_180 f_X10_7 hA rfl ?_
    refine r_il1 dX10_applies_183 ?_
    refine r_iconst dX10_applies_184 ?_
    refine r_callSP2 dX10_applies_185 s_X10_156 (c_equalAt κ _) (by decide) rfl ?_
    refine m_ald dX10_applies_188 hA (by decide) rfl (by first | omega | (simp only [mlen]; omega)) (by first | omega | (simp only [mlen]; omega)) ?_
    try simp only [setg_0]
    refine r_il2 dX10_applies_189 ?_
    refine r_iconst dX10_applies_190 ?_
    refine r_idiv dX10_applies_191 (by first | omega | exact hg _ | (simp only [setg_0]; omega)) ?_
    refine r_il2 dX10_applies_192 ?_
    refine r_iconst dX10_applies_193 ?_
    refine r_irem dX10_applies_194 (by first | omega | exact hg _ | (simp only [setg_0]; omega)) ?_
    refine r_iadd dX10_applies_195 ?_
    refine r_il3 dX10_applies_196 ?_
    refine r_il4 dX10_applies_197 ?_
    refine m_callR4 dX10_applies_199 v_X10_139 hA (c_comes κ hA hR2 (by rw [setg_0]; omega) (by rw [setg_0]; omega)) (by decide) rfl (fun r_199 M_199 h_199 => ?_)
    obtain ⟨rfl, rfl⟩ := h_199
    simp only [setg_0, setg_setg]
    have hR3 := RG_setg hR (FC.cm (a := g (28 + 4 * e + 2)) (b := P / 2 + P % 2) (c := gr) (e := y) hg ⟨n0, by omega⟩ (hg _) (by omega) (by omega) (by omega))
    refine r_pop dX10_applies_202 rfl ?_
    refine r_al0 dX10_applies_203 ?_
    refine r_al0 dX10_applies_204 ?_
    refine m_get dX10_applies_205 f_X10_7 hA rfl ?_
    refine r_il1 dX10_applies_208 ?_
    refine r_iconst dX10_applies_209 ?_
    refine r_callSP2 dX10_applies_210 s_X10_156 (c_equalAt κ _) (by decide) rfl ?_
    refine m_ald dX10_applies_213 hA (by decide) rfl (by first | omega | (simp only [mlen]; omega)) (by first | omega | (simp only [mlen]; omega)) ?_
    try simp only [setg_0]
    refine r_il2 dX10_applies_214 ?_
    refine r_iconst dX10_applies_215 ?_
    refine r_idiv dX10_applies_216 (by first | omega | exact hg _ | (simp only [setg_0]; omega)) ?_
    refine r_il3 dX10_applies_217 ?_
    refine r_il4 dX10_applies_218 ?_
    refine m_callR4 dX10_applies_220 v_X10_139 hA (c_comes κ hA hR3 (by rw [setg_0]; first | omega | (rw [gcm_n (by omega)]; omega)) (by rw [setg_0]; first | omega | (rw [gcm_n (by omega)]; omega))) (by decide) rfl (fun r_220 M_220 h_220 => ?_)
    obtain ⟨rfl, rfl⟩ := h_220
    simp only [setg_0, setg_setg]
    refine r_pop dX10_applies_223 rfl ?_
    refine r_iconst dX10_applies_224 ?_
    refine r_iret dX10_applies_225 (ty := .int) rfl rfl ⟨_, _, rfl, rfl, _, rfl, ?_⟩
    first | exact Or.inl ⟨by assumption, rfl, rfl⟩ | exact Or.inr ⟨by assumption, rfl, by first | rfl | rw [gcm_hi (by omega) (by omega)]⟩
  · refine r_al0 dX10_applies_157 ?_
    refine r_al0 dX10_applies_158 ?_
    refine m_get dX10_applies_159 f_X10_7 hA rfl ?_
    refine r_il1 dX10_applies_162 ?_
    refine r_iconst dX10_applies_163 ?_
    refine r_callSP2 dX10_applies_164 s_X10_156 (c_equalAt κ _) (by decide) rfl ?_
    refine m_ald dX10_applies_167 hA (by decide) rfl (by first | omega | (simp only [mlen]; omega)) (by first | omega | (simp only [mlen]; omega)) ?_
    try simp only [setg_0]
    refine r_il2 dX10_applies_168 ?_
    refine r_il3 dX10_applies_169 ?_
    refine r_il4 dX10_applies_170 ?_
    refine m_callR4 dX10_applies_172 v_X10_139 hA (c_comes κ hA hR2 (by rw [setg_0]; first | omega | (rw [gcm_n (by omega)]; omega)) (by rw [setg_0]; first | omega | (rw [gcm_n (by omega)]; omega))) (by decide) rfl (fun r_172 M_172 h_172 => ?_)
    obtain ⟨rfl, rfl⟩ := h_172
    simp only [setg_0, setg_setg]
    refine r_pop dX10_applies_175 rfl ?_
    refine r_iconst dX10_applies_176 ?_
    refine r_iret dX10_applies_177 (ty := .int) rfl rfl ⟨_, _, rfl, rfl, _, rfl, ?_⟩
    first | exact Or.inl ⟨by assumption, rfl, rfl⟩ | exact Or.inr ⟨by assumption, rfl, by first | rfl | rw [gcm_hi (by omega) (by omega)]⟩
set_option maxRecDepth 100000 in
set_option maxHeartbeats 4000000 in
theorem l_ap130_1 (κ : KP) {A : Nat → Nat} {M : MEM} (h : AH) (hA : MA A) (hR : RG M) {g : Int → Int} (hF : FC g) {e : Int} (e0 : 0 ≤ e) (e1 : e < 8) {P gr y c : Int} (c0 : 0 ≤ c) (c1 : c < g 1) (P0 : 0 ≤ P) (P1 : P ≤ 48) (hgr : 0 ≤ gr ∧ gr ≤ 20) (hy : 0 ≤ y ∧ y ≤ 60) (nn : g 1 ≤ 6) (nn2 : g (28 + 4 * e + 3) ≠ 32 → g 1 ≤ 5) : WW κ mX10_applies 3 0 0 (fun v h' => ∃ r M', v = some (.int (J r)) ∧ h' = mset A M' h ∧ (fun r M' => ∃ g', M' = setg M g' ∧ (QFin (ggo g c) e P gr y) r g') r M') NoX 130 [some (.ref (A 30)), some (.int (J e)), some (.int (J P)), some (.int (J gr)), some (.int (J y)), some (.int (J 1)), some (.int (J c))] [] (mset A (setg M g) h) := by
  obtain ⟨hg, ⟨n0, n1⟩, hs⟩ := hF
  have hF : FC g := ⟨hg, ⟨n0, n1⟩, hs⟩
  have hR2 : RG (setg M g) := RG_setg hR hg
  have hF2 := hF.go c0 c1
  have n2 := ggo_n (g := g) c0
  refine r_al0 dX10_applies_130 ?_
  refine r_il6 dX10_applies_131 ?_
  refine m_callU1 dX10_applies_133 v_X10_146 hA (c_goes κ hA hR2 (c := c) c0 (by rw [setg_0]; exact c1) (by rw [setg_0]; exact n1)) (by decide) rfl (fun M_133 h_133 => ?_)
  obtain rfl := h_133
  simp only [setg_0, setg_setg]
  refine r_inc5 dX10_applies_136 rfl ?_
  refine r_goto (tgt := 12) dX10_applies_139 (by decide) ?_
  refine r_il5 dX10_applies_12 ?_
  refine r_iconst dX10_applies_14 ?_
  refine r_icmp_ge (tgt := 142) dX10_applies_15 (by decide) (by first | omega | exact hg _) (by first | omega | exact hg _) (fun c_15 => ?_) (fun c_15 => ?_)
  · exact l_ap142 κ h hA hR hF2 e0 e1 (by omega) (by rw [ggo_hi n1 (by omega)]; omega) P0 P1 hgr hy
  · exact absurd c_15 (by decide)
set_option maxRecDepth 100000 in
set_option maxHeartbeats 4000000 in
theorem l_ap96_1 (κ : KP) {A : Nat → Nat} {M : MEM} (h : AH) (hA : MA A) (hR : RG M) {g : Int → Int} (hF : FC g) {e : Int} (e0 : 0 ≤ e) (e1 : e < 8) {P gr y c : Int} (c0 : 0 ≤ c) (c1 : c < g 1) (P0 : 0 ≤ P) (P1 : P ≤ 48) (hgr : 0 ≤ gr ∧ gr ≤ 20) (hy : 0 ≤ y ∧ y ≤ 60) (nn : g 1 ≤ 6) (nn2 : g (28 + 4 * e + 3) ≠ 32 → g 1 ≤ 5) : WW κ mX10_applies 3 0 0 (fun v h' => ∃ r M', v = some (.int (J r)) ∧ h' = mset A M' h ∧ (fun r M' => ∃ g', M' = setg M g' ∧ (fun r g' => (QFin (ggo g c) e P gr (mn (g (4 + 4 * c + 3)) y)) r g') r g') r M') NoX 96 [some (.ref (A 30)), some (.int (J e)), some (.int (J P)), some (.int (J gr)), some (.int (J y)), some (.int (J 1)), some (.int (J c))] [] (mset A (setg M g) h) := by
  obtain ⟨hg, ⟨n0, n1⟩, hs⟩ := hF
  have hF : FC g := ⟨hg, ⟨n0, n1⟩, hs⟩
  have hR2 : RG (setg M g) := RG_setg hR hg
  have hs2 := hs c c0 c1
  refine r_al0 dX10_applies_96 ?_
  refine m_get dX10_applies_97 f_X10_7 hA rfl ?_
  refine r_il6 dX10_applies_100 ?_
  refine r_iconst dX10_applies_102 ?_
  refine r_callSP2 dX10_applies_103 s_X10_83 (c_creditAt κ _) (by decide) rfl ?_
  refine m_ald dX10_applies_106 hA (by decide) rfl (by first | omega | (simp only [mlen]; omega)) (by first | omega | (simp only [mlen]; omega)) ?_
  try simp only [setg_0]
  refine r_il4 dX10_applies_107 ?_
  refine r_icmp_ge (tgt := 126) dX10_applies_109 (by decide) (by first | omega | exact hg _) (by first | omega | exact hg _) (fun c_109 => ?_) (fun c_109 => ?_)
  · refine r_il4 dX10_applies_126 ?_
    refine r_is4 dX10_applies_128 rfl ?_
    first
      | (rw [mn_lt (a := g (4 + 4 * c + 3)) (b := y) (by assumption)]; exact l_ap130_1 κ h hA hR hF e0 e1 c0 c1 P0 P1 hgr (by omega) nn nn2)
      | (rw [mn_ge (a := g (4 + 4 * c + 3)) (b := y) (by omega)]; exact l_ap130_1 κ h hA hR hF e0 e1 c0 c1 P0 P1 hgr hy nn nn2)
  · refine r_al0 dX10_applies_112 ?_
    refine m_get dX10_applies_113 f_X10_7 hA rfl ?_
    refine r_il6 dX10_applies_116 ?_
    refine r_iconst dX10_applies_118 ?_
    refine r_callSP2 dX10_applies_119 s_X10_83 (c_creditAt κ _) (by decide) rfl ?_
    refine m_ald dX10_applies_122 hA (by decide) rfl (by first | omega | (simp only [mlen]; omega)) (by first | omega | (simp only [mlen]; omega)) ?_
    try simp only [setg_0]
    refine r_goto (tgt := 128) dX10_applies_123 (by decide) ?_
    refine r_is4 dX10_applies_128 rfl ?_
    first
      | (rw [mn_lt (a := g (4 + 4 * c + 3)) (b := y) (by assumption)]; exact l_ap130_1 κ h hA hR hF e0 e1 c0 c1 P0 P1 hgr (by omega) nn nn2)
      | (rw [mn_ge (a := g (4 + 4 * c + 3)) (b := y) (by omega)]; exact l_ap130_1 κ h hA hR hF e0 e1 c0 c1 P0 P1 hgr hy nn nn2)
set_option maxRecDepth 100000 in
set_option maxHeartbeats 4000000 in
theorem l_ap12_1 (κ : KP) {A : Nat → Nat} {M : MEM} (h : AH) (hA : MA A) (hR : RG M) {g : Int → Int} (hF : FC g) {e : Int} (e0 : 0 ≤ e) (e1 : e < 8) {P gr y : Int} {v6 : Option Value} (hc : g (28 + 4 * e + 1) ≠ 32 → ∃ c, 0 ≤ c ∧ c < g 1 ∧ QMt g (g (28 + 4 * e + 1)) c) (nn : g 1 ≤ 6 ∧ (g (28 + 4 * e + 1) = 32 → g 1 ≤ 5)) (nn2 : g (28 + 4 * e + 3) ≠ 32 → g 1 ≤ 5 ∧ (g (28 + 4 * e + 1) = 32 → g 1 ≤ 4)) (P0 : 0 ≤ P) (P1 : P ≤ 24) (hgr : 0 ≤ gr ∧ gr ≤ 20) (hy : 0 ≤ y ∧ y ≤ 60) : WW κ mX10_applies 3 0 0 (fun v h' => ∃ r M', v = some (.int (J r)) ∧ h' = mset A M' h ∧ (fun r M' => ∃ g', M' = setg M g' ∧ (QAp1 g e P gr y) r g') r M') NoX 12 [some (.ref (A 30)), some (.int (J e)), some (.int (J P)), some (.int (J gr)), some (.int (J y)), some (.int (J 1)), v6] [] (mset A (setg M g) h) := by
  obtain ⟨hg, ⟨n0, n1⟩, hs⟩ := hF
  have hF : FC g := ⟨hg, ⟨n0, n1⟩, hs⟩
  have hR2 : RG (setg M g) := RG_setg hR hg
  refine r_il5 dX10_applies_12 ?_
  refine r_iconst dX10_applies_14 ?_
  refine r_icmp_ge (tgt := 142) dX10_applies_15 (by decide) (by first | omega | exact hg _) (by first | omega | exact hg _) (fun c_15 => ?_) (fun c_15 => ?_)
  · exact absurd c_15 (by decide)
  · refine r_al0 dX10_applies_18 ?_
    refine m_get dX10_applies_19 f_X10_7 hA rfl ?_
    refine r_il1 dX10_applies_22 ?_
    refine r_il5 dX10_applies_23 ?_
    refine r_callSP2 dX10_applies_25 s_X10_156 (c_equalAt κ _) (by decide) rfl ?_
    refine m_ald dX10_applies_28 hA (by decide) rfl (by first | omega | (simp only [mlen]; omega)) (by first | omega | (simp only [mlen]; omega)) ?_
    try simp only [setg_0]
    refine r_bipush dX10_applies_29 (by decide) ?_
    refine r_icmp_eq (tgt := 142) dX10_applies_31 (by decide) (by first | omega | exact hg _) (by first | omega | exact hg _) (fun c_31 => ?_) (fun c_31 => ?_)
    · refine ww_postR (fun r M' z => ?_) (l_ap142 κ h hA hR hF e0 e1 (by omega) (fun z => (nn2 z).2 (by assumption)) P0 (by omega) hgr hy)
      obtain ⟨g', z1, z2⟩ := z
      exact ⟨g', z1, Or.inl ⟨by assumption, z2⟩⟩
    · refine r_al0 dX10_applies_34 ?_
      refine r_al0 dX10_applies_35 ?_
      refine m_get dX10_applies_36 f_X10_7 hA rfl ?_
      refine r_il1 dX10_applies_39 ?_
      refine r_il5 dX10_applies_40 ?_
      refine r_callSP2 dX10_applies_42 s_X10_156 (c_equalAt κ _) (by decide) rfl ?_
      refine m_ald dX10_applies_45 hA (by decide) rfl (by first | omega | (simp only [mlen]; omega)) (by first | omega | (simp only [mlen]; omega)) ?_
      try simp only [setg_0]
      refine m_callR1 dX10_applies_46 v_X10_162 hA (c_richest κ hA hR2 (by first | exact hg _ | (simp only [setg_0]; exact hg _)) (by rw [setg_0]; omega) (by rw [setg_0]; omega)) (by decide) rfl (fun r_46 M_46 h_46 => ?_)
      obtain ⟨rfl, hq⟩ := h_46
      have hp := hq.pos (hc (by assumption))
      have hr := hq.rg n0
      simp only [setg_0] at hr
      have hs2 := hs r_46 hp hr.2
      refine r_is6 dX10_applies_49 rfl ?_
      refine r_il2 dX10_applies_51 ?_
      refine r_al0 dX10_applies_52 ?_
      refine m_get dX10_applies_53 f_X10_7 hA rfl ?_
      refine r_il6 dX10_applies_56 ?_
      refine r_iconst dX10_applies_58 ?_
      refine r_callSP2 dX10_applies_59 s_X10_83 (c_creditAt κ _) (by decide) rfl ?_
      refine m_ald dX10_applies_62 hA (by decide) rfl (by first | omega | (simp only [mlen]; omega)) (by first | omega | (simp only [mlen]; omega)) ?_
      try simp only [setg_0]
      refine r_iadd dX10_applies_63 ?_
      refine r_is2 dX10_applies_64 rfl ?_
      refine r_al0 dX10_applies_65 ?_
      refine m_get dX10_applies_66 f_X10_7 hA rfl ?_
      refine r_il6 dX10_applies_69 ?_
      refine r_iconst dX10_applies_71 ?_
      refine r_callSP2 dX10_applies_72 s_X10_83 (c_creditAt κ _) (by decide) rfl ?_
      refine m_ald dX10_applies_75 hA (by decide) rfl (by first | omega | (simp only [mlen]; omega)) (by first | omega | (simp only [mlen]; omega)) ?_
      try simp only [setg_0]
      refine r_il3 dX10_applies_76 ?_
      refine r_icmp_ge (tgt := 94) dX10_applies_77 (by decide) (by first | omega | exact hg _) (by first | omega | exact hg _) (fun c_77 => ?_) (fun c_77 => ?_)
      · refine r_il3 dX10_applies_94 ?_
        refine r_is3 dX10_applies_95 rfl ?_
        first
          | (have zz : g (4 + 4 * r_46 + 2) < gr := by assumption
             refine ww_postR (fun r M' z => ?_) (l_ap96_1 κ h hA hR hF e0 e1 hp hr.2 (by omega) (by omega) (by omega) hy nn.1 (fun z => (nn2 z).1))
             obtain ⟨g', z1, z2⟩ := z
             exact ⟨g', z1, Or.inr ⟨by assumption, r_46, hq, hp, by rw [mn_lt zz]; exact z2⟩⟩)
          | (have zz : ¬ g (4 + 4 * r_46 + 2) < gr := by omega
             refine ww_postR (fun r M' z => ?_) (l_ap96_1 κ h hA hR hF e0 e1 hp hr.2 (by omega) (by omega) (by omega) hy nn.1 (fun z => (nn2 z).1))
             obtain ⟨g', z1, z2⟩ := z
             exact ⟨g', z1, Or.inr ⟨by assumption, r_46, hq, hp, by rw [mn_ge zz]; exact z2⟩⟩)
      · refine r_al0 dX10_applies_80 ?_
        refine m_get dX10_applies_81 f_X10_7 hA rfl ?_
        refine r_il6 dX10_applies_84 ?_
        refine r_iconst dX10_applies_86 ?_
        refine r_callSP2 dX10_applies_87 s_X10_83 (c_creditAt κ _) (by decide) rfl ?_
        refine m_ald dX10_applies_90 hA (by decide) rfl (by first | omega | (simp only [mlen]; omega)) (by first | omega | (simp only [mlen]; omega)) ?_
        try simp only [setg_0]
        refine r_goto (tgt := 95) dX10_applies_91 (by decide) ?_
        refine r_is3 dX10_applies_95 rfl ?_
        first
          | (have zz : g (4 + 4 * r_46 + 2) < gr := by assumption
             refine ww_postR (fun r M' z => ?_) (l_ap96_1 κ h hA hR hF e0 e1 hp hr.2 (by omega) (by omega) (by omega) hy nn.1 (fun z => (nn2 z).1))
             obtain ⟨g', z1, z2⟩ := z
             exact ⟨g', z1, Or.inr ⟨by assumption, r_46, hq, hp, by rw [mn_lt zz]; exact z2⟩⟩)
          | (have zz : ¬ g (4 + 4 * r_46 + 2) < gr := by omega
             refine ww_postR (fun r M' z => ?_) (l_ap96_1 κ h hA hR hF e0 e1 hp hr.2 (by omega) (by omega) (by omega) hy nn.1 (fun z => (nn2 z).1))
             obtain ⟨g', z1, z2⟩ := z
             exact ⟨g', z1, Or.inr ⟨by assumption, r_46, hq, hp, by rw [mn_ge zz]; exact z2⟩⟩)
set_option maxRecDepth 100000 in
set_option maxHeartbeats 4000000 in
theorem l_ap130_0 (κ : KP) {A : Nat → Nat} {M : MEM} (h : AH) (hA : MA A) (hR : RG M) {g : Int → Int} (hF : FC g) {e : Int} (e0 : 0 ≤ e) (e1 : e < 8) {P gr y c : Int} (c0 : 0 ≤ c) (c1 : c < g 1) (P0 : 0 ≤ P) (P1 : P ≤ 24) (hgr : 0 ≤ gr ∧ gr ≤ 20) (hy : 0 ≤ y ∧ y ≤ 60) (hc : ggo g c (28 + 4 * e + 1) ≠ 32 → ∃ k, 0 ≤ k ∧ k < ggo g c 1 ∧ QMt (ggo g c) (ggo g c (28 + 4 * e + 1)) k) (nn : g 1 - 1 ≤ 6 ∧ (g (28 + 4 * e + 1) = 32 → g 1 - 1 ≤ 5)) (nn2 : g (28 + 4 * e + 3) ≠ 32 → g 1 - 1 ≤ 5 ∧ (g (28 + 4 * e + 1) = 32 → g 1 - 1 ≤ 4)) : WW κ mX10_applies 3 0 0 (fun v h' => ∃ r M', v = some (.int (J r)) ∧ h' = mset A M' h ∧ (fun r M' => ∃ g', M' = setg M g' ∧ (QAp1 (ggo g c) e P gr y) r g') r M') NoX 130 [some (.ref (A 30)), some (.int (J e)), some (.int (J P)), some (.int (J gr)), some (.int (J y)), some (.int (J 0)), some (.int (J c))] [] (mset A (setg M g) h) := by
  obtain ⟨hg, ⟨n0, n1⟩, hs⟩ := hF
  have hF : FC g := ⟨hg, ⟨n0, n1⟩, hs⟩
  have hR2 : RG (setg M g) := RG_setg hR hg
  have hF2 := hF.go c0 c1
  have n2 := ggo_n (g := g) c0
  refine r_al0 dX10_applies_130 ?_
  refine r_il6 dX10_applies_131 ?_
  refine m_callU1 dX10_applies_133 v_X10_146 hA (c_goes κ hA hR2 (c := c) c0 (by rw [setg_0]; exact c1) (by rw [setg_0]; exact n1)) (by decide) rfl (fun M_133 h_133 => ?_)
  obtain rfl := h_133
  simp only [setg_0, setg_setg]
  refine r_inc5 dX10_applies_136 rfl ?_
  refine r_goto (tgt := 12) dX10_applies_139 (by decide) ?_
  exact l_ap12_1 κ h hA hR hF2 e0 e1 hc (by rw [n2, ggo_hi n1 (by omega)]; exact nn) (by rw [n2, ggo_hi n1 (by omega), ggo_hi n1 (by omega)]; exact nn2) P0 P1 hgr hy
set_option maxRecDepth 100000 in
set_option maxHeartbeats 4000000 in
theorem l_ap96_0 (κ : KP) {A : Nat → Nat} {M : MEM} (h : AH) (hA : MA A) (hR : RG M) {g : Int → Int} (hF : FC g) {e : Int} (e0 : 0 ≤ e) (e1 : e < 8) {P gr y c : Int} (c0 : 0 ≤ c) (c1 : c < g 1) (P0 : 0 ≤ P) (P1 : P ≤ 24) (hgr : 0 ≤ gr ∧ gr ≤ 20) (hy : 0 ≤ y ∧ y ≤ 60) (hc : ggo g c (28 + 4 * e + 1) ≠ 32 → ∃ k, 0 ≤ k ∧ k < ggo g c 1 ∧ QMt (ggo g c) (ggo g c (28 + 4 * e + 1)) k) (nn : g 1 - 1 ≤ 6 ∧ (g (28 + 4 * e + 1) = 32 → g 1 - 1 ≤ 5)) (nn2 : g (28 + 4 * e + 3) ≠ 32 → g 1 - 1 ≤ 5 ∧ (g (28 + 4 * e + 1) = 32 → g 1 - 1 ≤ 4)) : WW κ mX10_applies 3 0 0 (fun v h' => ∃ r M', v = some (.int (J r)) ∧ h' = mset A M' h ∧ (fun r M' => ∃ g', M' = setg M g' ∧ (fun r g' => (QAp1 (ggo g c) e P gr (mn (g (4 + 4 * c + 3)) y)) r g') r g') r M') NoX 96 [some (.ref (A 30)), some (.int (J e)), some (.int (J P)), some (.int (J gr)), some (.int (J y)), some (.int (J 0)), some (.int (J c))] [] (mset A (setg M g) h) := by
  obtain ⟨hg, ⟨n0, n1⟩, hs⟩ := hF
  have hF : FC g := ⟨hg, ⟨n0, n1⟩, hs⟩
  have hR2 : RG (setg M g) := RG_setg hR hg
  have hs2 := hs c c0 c1
  refine r_al0 dX10_applies_96 ?_
  refine m_get dX10_applies_97 f_X10_7 hA rfl ?_
  refine r_il6 dX10_applies_100 ?_
  refine r_iconst dX10_applies_102 ?_
  refine r_callSP2 dX10_applies_103 s_X10_83 (c_creditAt κ _) (by decide) rfl ?_
  refine m_ald dX10_applies_106 hA (by decide) rfl (by first | omega | (simp only [mlen]; omega)) (by first | omega | (simp only [mlen]; omega)) ?_
  try simp only [setg_0]
  refine r_il4 dX10_applies_107 ?_
  refine r_icmp_ge (tgt := 126) dX10_applies_109 (by decide) (by first | omega | exact hg _) (by first | omega | exact hg _) (fun c_109 => ?_) (fun c_109 => ?_)
  · refine r_il4 dX10_applies_126 ?_
    refine r_is4 dX10_applies_128 rfl ?_
    first
      | (rw [mn_lt (a := g (4 + 4 * c + 3)) (b := y) (by assumption)]; exact l_ap130_0 κ h hA hR hF e0 e1 c0 c1 P0 P1 hgr (by omega) hc nn nn2)
      | (rw [mn_ge (a := g (4 + 4 * c + 3)) (b := y) (by omega)]; exact l_ap130_0 κ h hA hR hF e0 e1 c0 c1 P0 P1 hgr hy hc nn nn2)
  · refine r_al0 dX10_applies_112 ?_
    refine m_get dX10_applies_113 f_X10_7 hA rfl ?_
    refine r_il6 dX10_applies_116 ?_
    refine r_iconst dX10_applies_118 ?_
    refine r_callSP2 dX10_applies_119 s_X10_83 (c_creditAt κ _) (by decide) rfl ?_
    refine m_ald dX10_applies_122 hA (by decide) rfl (by first | omega | (simp only [mlen]; omega)) (by first | omega | (simp only [mlen]; omega)) ?_
    try simp only [setg_0]
    refine r_goto (tgt := 128) dX10_applies_123 (by decide) ?_
    refine r_is4 dX10_applies_128 rfl ?_
    first
      | (rw [mn_lt (a := g (4 + 4 * c + 3)) (b := y) (by assumption)]; exact l_ap130_0 κ h hA hR hF e0 e1 c0 c1 P0 P1 hgr (by omega) hc nn nn2)
      | (rw [mn_ge (a := g (4 + 4 * c + 3)) (b := y) (by omega)]; exact l_ap130_0 κ h hA hR hF e0 e1 c0 c1 P0 P1 hgr hy hc nn nn2)
set_option maxRecDepth 100000 in
set_option maxHeartbeats 4000000 in
theorem c_applies (κ : KP) {A : Nat → Nat} {M : MEM} (hA : MA A) (hR : RG M) (hF : FC (M 0)) {e : Int} (e0 : 0 ≤ e) (e1 : e < 8) (hd : M 0 (28 + 4 * e + 0) ≠ M 0 (28 + 4 * e + 1)) (h3 : M 0 (28 + 4 * e + 0) ≠ 32) (hag : QAga (M 0) e 0) : RM κ mX10_applies 3 A [.ref (A 30), .int (J e)] M (fun r M' => ∃ g', M' = setg M g' ∧ QAp (M 0) e r g') := by
  intro h
  refine mm_of (L := [some _, some _, none, none, none, none, none]) (by decide +kernel) rfl rfl (Nat.le_of_ble_eq_true rfl) rfl ?_
  obtain ⟨hg, ⟨n0, n1⟩, hs⟩ := hF
  have hF : FC (M 0) := ⟨hg, ⟨n0, n1⟩, hs⟩
  obtain ⟨⟨a1, a2⟩, a3⟩ : QAg (M 0) e ∧ QAgn (M 0) e ≤ 6 := by
    rcases hag with ⟨-, z⟩ | ⟨-, -, z⟩ | ⟨z1, z2, -⟩
    · omega
    · omega
    · exact ⟨z1, z2⟩
  refine r_iconst dX10_applies_0 ?_
  refine r_is2 dX10_applies_1 rfl ?_
  refine r_bipush dX10_applies_2 (by decide) ?_
  refine r_is3 dX10_applies_4 rfl ?_
  refine r_bipush dX10_applies_5 (by decide) ?_
  refine r_is4 dX10_applies_7 rfl ?_
  refine r_iconst dX10_applies_9 ?_
  refine r_is5 dX10_applies_10 rfl ?_
  refine r_il5 dX10_applies_12 ?_
  refine r_iconst dX10_applies_14 ?_
  refine r_icmp_ge (tgt := 142) dX10_applies_15 (by decide) (by first | omega | exact hR _ _) (by first | omega | exact hR _ _) (fun c_15 => ?_) (fun c_15 => ?_)
  · exact absurd c_15 (by decide)
  · refine r_al0 dX10_applies_18 ?_
    refine m_get dX10_applies_19 f_X10_7 hA rfl ?_
    refine r_il1 dX10_applies_22 ?_
    refine r_il5 dX10_applies_23 ?_
    refine r_callSP2 dX10_applies_25 s_X10_156 (c_equalAt κ _) (by decide) rfl ?_
    refine m_ald dX10_applies_28 hA (by decide) rfl (by first | omega | (simp only [mlen]; omega)) (by first | omega | (simp only [mlen]; omega)) ?_
    refine r_bipush dX10_applies_29 (by decide) ?_
    refine r_icmp_eq (tgt := 142) dX10_applies_31 (by decide) (by first | omega | exact hR _ _) (by first | omega | exact hR _ _) (fun c_31 => ?_) (fun c_31 => ?_)
    · exact absurd (by assumption) h3
    · refine r_al0 dX10_applies_34 ?_
      refine r_al0 dX10_applies_35 ?_
      refine m_get dX10_applies_36 f_X10_7 hA rfl ?_
      refine r_il1 dX10_applies_39 ?_
      refine r_il5 dX10_applies_40 ?_
      refine r_callSP2 dX10_applies_42 s_X10_156 (c_equalAt κ _) (by decide) rfl ?_
      refine m_ald dX10_applies_45 hA (by decide) rfl (by first | omega | (simp only [mlen]; omega)) (by first | omega | (simp only [mlen]; omega)) ?_
      refine m_callR1 dX10_applies_46 v_X10_162 hA (c_richest κ hA hR (hR _ _) n0 n1) (by decide) rfl (fun r_46 M_46 h_46 => ?_)
      obtain ⟨rfl, hq⟩ := h_46
      have hp := hq.pos a1
      have hr := hq.rg n0
      have hs2 := hs r_46 hp hr.2
      have hc2 : ggo (M_46 0) r_46 (28 + 4 * e + 1) ≠ 32 → ∃ k, 0 ≤ k ∧ k < ggo (M_46 0) r_46 1 ∧ QMt (ggo (M_46 0) r_46) (ggo (M_46 0) r_46 (28 + 4 * e + 1)) k := by
        rw [ggo_hi n1 (by omega)]
        intro z
        refine QMt_go (a2 z) hp hr.2 ?_
        rcases hq with ⟨q1, q2⟩ | ⟨q1, q2, q3, q4⟩
        · omega
        · rw [q3.1]; exact hd
      have nn : M_46 0 1 - 1 ≤ 6 ∧ (M_46 0 (28 + 4 * e + 1) = 32 → M_46 0 1 - 1 ≤ 5) := by omega
      have nn2 : M_46 0 (28 + 4 * e + 3) ≠ 32 → M_46 0 1 - 1 ≤ 5 ∧ (M_46 0 (28 + 4 * e + 1) = 32 → M_46 0 1 - 1 ≤ 4) := by
        intro z
        unfold QAgn at a3
        rw [if_neg z] at a3
        refine ⟨by omega, fun z2 => ?_⟩
        rw [if_pos z2] at a3
        omega
      refine r_is6 dX10_applies_49 rfl ?_
      refine r_il2 dX10_applies_51 ?_
      refine r_al0 dX10_applies_52 ?_
      refine m_get dX10_applies_53 f_X10_7 hA rfl ?_
      refine r_il6 dX10_applies_56 ?_
      refine r_iconst dX10_applies_58 ?_
      refine r_callSP2 dX10_applies_59 s_X10_83 (c_creditAt κ _) (by decide) rfl ?_
      refine m_ald dX10_applies_62 hA (by decide) rfl (by first | omega | (simp only [mlen]; omega)) (by first | omega | (simp only [mlen]; omega)) ?_
      refine r_iadd dX10_applies_63 ?_
      refine r_is2 dX10_applies_64 rfl ?_
      refine r_al0 dX10_applies_65 ?_
      refine m_get dX10_applies_66 f_X10_7 hA rfl ?_
      refine r_il6 dX10_applies_69 ?_
      refine r_iconst dX10_applies_71 ?_
      refine r_callSP2 dX10_applies_72 s_X10_83 (c_creditAt κ _) (by decide) rfl ?_
      refine m_ald dX10_applies_75 hA (by decide) rfl (by first | omega | (simp only [mlen]; omega)) (by first | omega | (simp only [mlen]; omega)) ?_
      refine r_il3 dX10_applies_76 ?_
      refine r_icmp_ge (tgt := 94) dX10_applies_77 (by decide) (by first | omega | exact hR _ _) (by first | omega | exact hR _ _) (fun c_77 => ?_) (fun c_77 => ?_)
      · refine r_il3 dX10_applies_94 ?_
        refine r_is3 dX10_applies_95 rfl ?_
        have e9 : mset A M_46 h = mset A (setg M_46 (M_46 0)) h := by rw [setg_self]
        rw [e9]
        first
          | (have zz : M_46 0 (4 + 4 * r_46 + 2) < 20 := by assumption
             refine ww_postR (fun r M' z => ?_) (l_ap96_0 κ h hA hR hF e0 e1 hp hr.2 (by omega) (by omega) (by omega) (by omega) hc2 nn nn2)
             obtain ⟨g', z1, z2⟩ := z
             exact ⟨g', z1, r_46, hq, hp, by rw [mn_lt zz]; exact z2⟩)
          | (have zz : ¬ M_46 0 (4 + 4 * r_46 + 2) < 20 := by omega
             refine ww_postR (fun r M' z => ?_) (l_ap96_0 κ h hA hR hF e0 e1 hp hr.2 (by omega) (by omega) (by omega) (by omega) hc2 nn nn2)
             obtain ⟨g', z1, z2⟩ := z
             exact ⟨g', z1, r_46, hq, hp, by rw [mn_ge zz]; exact z2⟩)
      · refine r_al0 dX10_applies_80 ?_
        refine m_get dX10_applies_81 f_X10_7 hA rfl ?_
        refine r_il6 dX10_applies_84 ?_
        refine r_iconst dX10_applies_86 ?_
        refine r_callSP2 dX10_applies_87 s_X10_83 (c_creditAt κ _) (by decide) rfl ?_
        refine m_ald dX10_applies_90 hA (by decide) rfl (by first | omega | (simp only [mlen]; omega)) (by first | omega | (simp only [mlen]; omega)) ?_
        refine r_goto (tgt := 95) dX10_applies_91 (by decide) ?_
        refine r_is3 dX10_applies_95 rfl ?_
        have e9 : mset A M_46 h = mset A (setg M_46 (M_46 0)) h := by rw [setg_self]
        rw [e9]
        first
          | (have zz : M_46 0 (4 + 4 * r_46 + 2) < 20 := by assumption
             refine ww_postR (fun r M' z => ?_) (l_ap96_0 κ h hA hR hF e0 e1 hp hr.2 (by omega) (by omega) (by omega) (by omega) hc2 nn nn2)
             obtain ⟨g', z1, z2⟩ := z
             exact ⟨g', z1, r_46, hq, hp, by rw [mn_lt zz]; exact z2⟩)
          | (have zz : ¬ M_46 0 (4 + 4 * r_46 + 2) < 20 := by omega
             refine ww_postR (fun r M' z => ?_) (l_ap96_0 κ h hA hR hF e0 e1 hp hr.2 (by omega) (by omega) (by omega) (by omega) hc2 nn nn2)
             obtain ⟨g', z1, z2⟩ := z
             exact ⟨g', z1, r_46, hq, hp, by rw [mn_ge zz]; exact z2⟩)
