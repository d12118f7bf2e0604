/-! ===== blocks that are refused ===== -/
noncomputable def tpb (t : Int → Int) (b : Int) (k : Int) : Int := sz (fun j => bP (t (0 + 12 * j + 1) = b)) k
theorem tpb_bd {t : Int → Int} {b k : Int} (k0 : 0 ≤ k) : 0 ≤ tpb t b k ∧ tpb t b k ≤ k := sz_01 k0 (fun _ => bP_01 _)
theorem tpb_1 {t : Int → Int} {b k : Int} (k0 : 0 ≤ k) : tpb t b (k + 1) = tpb t b k + bP (t (0 + 12 * k + 1) = b) := sz_1 k0
set_option maxRecDepth 100000 in
set_option maxHeartbeats 4000000 in
theorem l_partsT (κ : KP) {A : Nat → Nat} {M : MEM} (h : AH) (hA : MA A) (hR : RG M) {b x : Int} (rb : rng b) (m0 : 0 ≤ x) (m1 : x ≤ 25) : ∀ (f : Nat) (k : Int), x - k < (f : Int) → (0 ≤ k) → (k ≤ x) → WW κ mX10_parts 1 0 0 (fun w h' => w = some (.int (J (tpb (M 21) b x))) ∧ h' = mset A M h) NoX 6 [some (.ref (A 21)), some (.int (J 0)), some (.int (J x)), some (.int (J b)), some (.int (J (tpb (M 21) b k))), some (.int (J k))] [] (mset A M h) := by
  intro f
  induction f with
  | zero =>
    intro k hf k0 k1
    exact absurd hf (by omega)
  | succ f ih =>
    intro k hf k0 k1
    have hqb := tpb_bd (t := M 21) (b := b) k0
    refine r_il5 dX10_parts_6 ?_
    refine r_il2 dX10_parts_8 ?_
    refine r_icmp_ge (tgt := 43) dX10_parts_9 (by decide) (by first | omega | exact hR _ _) (by first | omega | exact hR _ _) (fun c_9 => ?_) (fun c_9 => ?_)
    · refine r_il4 dX10_parts_43 ?_
      refine r_iret dX10_parts_45 (ty := .int) rfl rfl ⟨?_, rfl⟩
      rw [show k = x by omega]
    · refine r_il4 dX10_parts_12 ?_
      refine r_al0 dX10_parts_14 ?_
      refine r_il1 dX10_parts_15 ?_
      refine r_bipush dX10_parts_16 (by decide) ?_
      refine r_il5 dX10_parts_18 ?_
      refine r_imul dX10_parts_20 ?_
      refine r_iadd dX10_parts_21 ?_
      refine r_iconst dX10_parts_22 ?_
      refine r_iadd dX10_parts_23 ?_
      refine m_ald dX10_parts_24 hA (by decide) rfl (by omega) (by simp only [mlen]; omega) ?_
      refine r_il3 dX10_parts_25 ?_
      refine r_icmp_ne (tgt := 33) dX10_parts_26 (by decide) (by first | omega | exact hR _ _) (by first | omega | exact hR _ _) (fun c_26 => ?_) (fun c_26 => ?_)
      · refine r_iconst dX10_parts_33 ?_
        refine r_iadd dX10_parts_34 ?_
        refine r_is4 dX10_parts_35 rfl ?_
        refine r_inc5 dX10_parts_37 rfl ?_
        refine r_goto (tgt := 6) dX10_parts_40 (by decide) ?_
        have e := ih (k + 1) (by omega) (by omega) (by omega)
        rw [tpb_1 k0] at e
        first | (rw [bP_t (by assumption)] at e; exact e) | (rw [bP_f (by assumption)] at e; exact e)
      · refine r_iconst dX10_parts_29 ?_
        refine r_goto (tgt := 34) dX10_parts_30 (by decide) ?_
        refine r_iadd dX10_parts_34 ?_
        refine r_is4 dX10_parts_35 rfl ?_
        refine r_inc5 dX10_parts_37 rfl ?_
        refine r_goto (tgt := 6) dX10_parts_40 (by decide) ?_
        have e := ih (k + 1) (by omega) (by omega) (by omega)
        rw [tpb_1 k0] at e
        first | (rw [bP_t (by assumption)] at e; exact e) | (rw [bP_f (by assumption)] at e; exact e)
set_option maxRecDepth 100000 in
set_option maxHeartbeats 4000000 in
theorem c_partsT (κ : KP) {A : Nat → Nat} {M : MEM} (h : AH) (hA : MA A) (hR : RG M) {b x : Int} (rb : rng b) (m0 : 0 ≤ x) (m1 : x ≤ 25) : PM κ mX10_parts 1 [.ref (A 21), .int (J 0), .int (J x), .int (J b)] (mset A M h) (.int (J (tpb (M 21) b x))) := by
  refine mm_of (L := [some _, some _, some _, some _, none, none]) (by decide +kernel) rfl rfl (Nat.le_of_ble_eq_true rfl) rfl ?_
  refine r_iconst dX10_parts_0 ?_
  refine r_is4 dX10_parts_1 rfl ?_
  refine r_iconst dX10_parts_3 ?_
  refine r_is5 dX10_parts_4 rfl ?_
  have e := l_partsT κ h hA hR rb m0 m1 26 0 (by omega) (by omega) (by omega)
  rw [show tpb (M 21) b 0 = 0 from sz_0] at e
  exact e
def TGr (t : Int → Int) (b : Int) : Prop := t (12 * b + 0) = 1
def TRg (t : Int → Int) (k : Int) : Prop := ∀ b, 0 ≤ b → b < k → ¬ TGr t b → QIn (t (12 * b + 2)) 1 30 ∧ QIn (t (12 * b + 3)) 0 60 ∧ QIn (t (12 * b + 4)) 10 20
def TMt (t : Int → Int) (x k : Int) : Prop := ∀ b, 0 ≤ b → b < k → TGr t b → t (12 * b + 2) ≤ tpb t b x
noncomputable def tlv (t : Int → Int) (k : Int) : Int := sz (fun b => bP (¬ TGr t b)) k
/-- for which reason the rows are refused; 0: they aren't -/
def QRf (t : Int → Int) (k r : Int) : Prop := (¬ TRg t k ∧ r = 3) ∨ (TRg t k ∧ (8 < k ∨ 4 < tlv t k) ∧ r = 4) ∨ (TRg t k ∧ ¬ (8 < k ∨ 4 < tlv t k) ∧ TMt t k k ∧ r = 0) ∨ (TRg t k ∧ ¬ (8 < k ∨ 4 < tlv t k) ∧ ¬ TMt t k k ∧ r = 5)
theorem tlv_1 {t : Int → Int} {k : Int} (k0 : 0 ≤ k) : tlv t (k + 1) = tlv t k + bP (¬ TGr t k) := sz_1 k0
theorem tlv_bd {t : Int → Int} {k : Int} (k0 : 0 ≤ k) : 0 ≤ tlv t k ∧ tlv t k ≤ k := sz_01 k0 (fun _ => bP_01 _)
theorem TRg.g {t : Int → Int} {k : Int} (h : TGr t k) : TRg t (k + 1) ↔ TRg t k := ⟨fun q b b0 b1 => q b b0 (by omega), fun q b b0 b1 hn => by
  rcases (show b < k ∨ b = k by omega) with z | z
  · exact q b b0 z hn
  · exact absurd (z ▸ h) hn⟩
theorem TRg.l {t : Int → Int} {k : Int} (k0 : 0 ≤ k) (h : ¬ TGr t k) : TRg t (k + 1) ↔ TRg t k ∧ QIn (t (12 * k + 2)) 1 30 ∧ QIn (t (12 * k + 3)) 0 60 ∧ QIn (t (12 * k + 4)) 10 20 := ⟨fun q => ⟨fun b b0 b1 => q b b0 (by omega), q k k0 (by omega) h⟩, fun q b b0 b1 hn => by
  rcases (show b < k ∨ b = k by omega) with z | z
  · exact q.1 b b0 z hn
  · rw [z]; exact q.2⟩
theorem TMt.l {t : Int → Int} {x k : Int} (h : ¬ TGr t k) : TMt t x (k + 1) ↔ TMt t x k := ⟨fun q b b0 b1 => q b b0 (by omega), fun q b b0 b1 hn => by
  rcases (show b < k ∨ b = k by omega) with z | z
  · exact q b b0 z hn
  · exact absurd hn (z ▸ h)⟩
theorem TMt.g {t : Int → Int} {x k : Int} (k0 : 0 ≤ k) (h : TGr t k) : TMt t x (k + 1) ↔ TMt t x k ∧ t (12 * k + 2) ≤ tpb t k x := ⟨fun q => ⟨fun b b0 b1 => q b b0 (by omega), q k k0 (by omega) h⟩, fun q b b0 b1 hn => by
  rcases (show b < k ∨ b = k by omega) with z | z
  · exact q.1 b b0 z hn
  · rw [z]; exact q.2⟩
set_option maxRecDepth 100000 in
set_option maxHeartbeats 4000000 in
theorem l_refusedBy (κ : KP) {A : Nat → Nat} {M : MEM} (h : AH) (hA : MA A) (hR : RG M) (k0 : 0 ≤ M 30 22) (k1 : M 30 22 ≤ 25) : ∀ (f : Nat) (b : Int) (v5 : Option Value), M 30 22 - b < (f : Int) → (0 ≤ b) → (b ≤ M 30 22) → WW κ mX10_refusedBy 2 0 0 (fun v h' => ∃ r M', v = some (.int (J r)) ∧ h' = mset A M' h ∧ (fun r M' => M' = M ∧ QRf (M 21) (M 30 22) r) r M') NoX 9 [some (.ref (A 30)), some (.int (J (tlv (M 21) b))), some (.int (J (bP (TRg (M 21) b)))), some (.int (J (bP (TMt (M 21) (M 30 22) b)))), some (.int (J b)), v5] [] (mset A M h) := by
  intro f
  induction f with
  | zero =>
    intro b v5 hf b0 b1
    exact absurd hf (by omega)
  | succ f ih =>
    intro b v5 hf b0 b1
    have hb1 := bP_01 (TRg (M 21) b)
    have hb2 := bP_01 (TMt (M 21) (M 30 22) b)
    have hb3 := tlv_bd (t := M 21) b0
    have hb4 := tpb_bd (t := M 21) (b := b) k0
    refine r_il4 dX10_refusedBy_9 ?_
    refine r_al0 dX10_refusedBy_11 ?_
    refine m_get dX10_refusedBy_12 f_X10_190 hA rfl ?_
    refine r_icmp_ge (tgt := 151) dX10_refusedBy_15 (by decide) (by first | omega | exact hR _ _) (by first | omega | exact hR _ _) (fun c_15 => ?_) (fun c_15 => ?_)
    · have ek : b = M 30 22 := by omega
      rw [ek] at hb1 hb2 hb3
      rw [ek]
      refine r_il2 dX10_refusedBy_151 ?_
      refine r_if_ne (tgt := 159) dX10_refusedBy_152 (by decide) (by first | omega | exact hR _ _) (fun c_152 => ?_) (fun c_152 => ?_)
      · refine r_al0 dX10_refusedBy_159 ?_
        refine m_get dX10_refusedBy_160 f_X10_190 hA rfl ?_
        refine r_bipush dX10_refusedBy_163 (by decide) ?_
        refine r_icmp_gt (tgt := 173) dX10_refusedBy_165 (by decide) (by first | omega | exact hR _ _) (by first | omega | exact hR _ _) (fun c_165 => ?_) (fun c_165 => ?_)
        · refine r_iconst dX10_refusedBy_173 ?_
          refine r_goto (tgt := 186) dX10_refusedBy_174 (by decide) ?_
          refine r_iret dX10_refusedBy_186 (ty := .int) rfl rfl ⟨_, _, rfl, rfl, rfl, ?_⟩
          unfold QRf
          first
            | exact Or.inl ⟨bP_z c_152, rfl⟩
            | exact Or.inr (Or.inl ⟨bP_ne c_152, by omega, rfl⟩)
            | exact Or.inr (Or.inr (Or.inl ⟨bP_ne c_152, by omega, bP_ne c_178, rfl⟩))
            | exact Or.inr (Or.inr (Or.inr ⟨bP_ne c_152, by omega, bP_z c_178, rfl⟩))
        · refine r_il1 dX10_refusedBy_168 ?_
          refine r_iconst dX10_refusedBy_169 ?_
          refine r_icmp_le (tgt := 177) dX10_refusedBy_170 (by decide) (by first | omega | exact hR _ _) (by first | omega | exact hR _ _) (fun c_170 => ?_) (fun c_170 => ?_)
          · refine r_il3 dX10_refusedBy_177 ?_
            refine r_if_eq (tgt := 185) dX10_refusedBy_178 (by decide) (by first | omega | exact hR _ _) (fun c_178 => ?_) (fun c_178 => ?_)
            · refine r_iconst dX10_refusedBy_185 ?_
              refine r_iret dX10_refusedBy_186 (ty := .int) rfl rfl ⟨_, _, rfl, rfl, rfl, ?_⟩
              unfold QRf
              first
                | exact Or.inl ⟨bP_z c_152, rfl⟩
                | exact Or.inr (Or.inl ⟨bP_ne c_152, by omega, rfl⟩)
                | exact Or.inr (Or.inr (Or.inl ⟨bP_ne c_152, by omega, bP_ne c_178, rfl⟩))
                | exact Or.inr (Or.inr (Or.inr ⟨bP_ne c_152, by omega, bP_z c_178, rfl⟩))
            · refine r_iconst dX10_refusedBy_181 ?_
              refine r_goto (tgt := 186) dX10_refusedBy_182 (by decide) ?_
              refine r_iret dX10_refusedBy_186 (ty := .int) rfl rfl ⟨_, _, rfl, rfl, rfl, ?_⟩
              unfold QRf
              first
                | exact Or.inl ⟨bP_z c_152, rfl⟩
                | exact Or.inr (Or.inl ⟨bP_ne c_152, by omega, rfl⟩)
                | exact Or.inr (Or.inr (Or.inl ⟨bP_ne c_152, by omega, bP_ne c_178, rfl⟩))
                | exact Or.inr (Or.inr (Or.inr ⟨bP_ne c_152, by omega, bP_z c_178, rfl⟩))
          · refine r_iconst dX10_refusedBy_173 ?_
            refine r_goto (tgt := 186) dX10_refusedBy_174 (by decide) ?_
            refine r_iret dX10_refusedBy_186 (ty := .int) rfl rfl ⟨_, _, rfl, rfl, rfl, ?_⟩
            unfold QRf
            first
              | exact Or.inl ⟨bP_z c_152, rfl⟩
              | exact Or.inr (Or.inl ⟨bP_ne c_152, by omega, rfl⟩)
              | exact Or.inr (Or.inr (Or.inl ⟨bP_ne c_152, by omega, bP_ne c_178, rfl⟩))
              | exact Or.inr (Or.inr (Or.inr ⟨bP_ne c_152, by omega, bP_z c_178, rfl⟩))
      · refine r_iconst dX10_refusedBy_155 ?_
        refine r_goto (tgt := 186) dX10_refusedBy_156 (by decide) ?_
        refine r_iret dX10_refusedBy_186 (ty := .int) rfl rfl ⟨_, _, rfl, rfl, rfl, ?_⟩
        unfold QRf
        first
          | exact Or.inl ⟨bP_z c_152, rfl⟩
          | exact Or.inr (Or.inl ⟨bP_ne c_152, by omega, rfl⟩)
          | exact Or.inr (Or.inr (Or.inl ⟨bP_ne c_152, by omega, bP_ne c_178, rfl⟩))
          | exact Or.inr (Or.inr (Or.inr ⟨bP_ne c_152, by omega, bP_z c_178, rfl⟩))
    · refine r_bipush dX10_refusedBy_18 (by decide) ?_
      refine r_il4 dX10_refusedBy_20 ?_
      refine r_imul dX10_refusedBy_22 ?_
      refine r_is5 dX10_refusedBy_23 rfl ?_
      refine r_al0 dX10_refusedBy_25 ?_
      refine m_get dX10_refusedBy_26 f_X10_42 hA rfl ?_
      refine r_il5 dX10_refusedBy_29 ?_
      refine r_iconst dX10_refusedBy_31 ?_
      refine r_iadd dX10_refusedBy_32 ?_
      refine m_ald dX10_refusedBy_33 hA (by decide) rfl (by first | omega | (simp only [mlen]; omega)) (by first | omega | (simp only [mlen]; omega)) ?_
      refine r_iconst dX10_refusedBy_34 ?_
      refine r_icmp_ne (tgt := 77) dX10_refusedBy_35 (by decide) (by first | omega | exact hR _ _) (by first | omega | exact hR _ _) (fun c_35 => ?_) (fun c_35 => ?_)
      · refine r_inc1 dX10_refusedBy_77 rfl ?_
        refine r_il2 dX10_refusedBy_80 ?_
        refine r_if_eq (tgt := 143) dX10_refusedBy_81 (by decide) (by first | omega | exact hR _ _) (fun c_81 => ?_) (fun c_81 => ?_)
        · refine r_iconst dX10_refusedBy_143 ?_
          refine r_is2 dX10_refusedBy_144 rfl ?_
          refine r_inc4 dX10_refusedBy_145 rfl ?_
          refine r_goto (tgt := 9) dX10_refusedBy_148 (by decide) ?_
          have e := ih (b + 1) (some (.int (J (12 * b)))) (by omega) (by omega) (by omega)
          first
            | (have hg : TGr (M 21) b := c_35
               rw [tlv_1 b0, bP_f (fun z => z hg), bP_cong (TRg.g hg), bP_cong (TMt.g b0 hg), Int.add_zero] at e
               first
                 | (rw [bP_t (P := TMt (M 21) (M 30 22) b ∧ M 21 (12 * b + 2) ≤ tpb (M 21) b (M 30 22)) ⟨bP_ne c_39, by omega⟩] at e; exact e)
                 | (rw [bP_f (P := TMt (M 21) (M 30 22) b ∧ M 21 (12 * b + 2) ≤ tpb (M 21) b (M 30 22)) (fun z => by first | exact bP_z c_39 z.1 | (have := z.2; omega))] at e; exact e))
            | (have hg : ¬ TGr (M 21) b := c_35
               rw [tlv_1 b0, bP_t hg, bP_cong (TRg.l b0 hg), bP_cong (TMt.l hg)] at e
               first
                 | (rw [bP_t (P := TRg (M 21) b ∧ QIn (M 21 (12 * b + 2)) 1 30 ∧ QIn (M 21 (12 * b + 3)) 0 60 ∧ QIn (M 21 (12 * b + 4)) 10 20) ⟨bP_ne c_81, c_99, c_117, c_136⟩] at e; exact e)
                 | (rw [bP_f (P := TRg (M 21) b ∧ QIn (M 21 (12 * b + 2)) 1 30 ∧ QIn (M 21 (12 * b + 3)) 0 60 ∧ QIn (M 21 (12 * b + 4)) 10 20) (fun z => by first | exact bP_z c_81 z.1 | exact absurd z.2.1 c_99 | exact absurd z.2.2.1 c_117 | exact absurd z.2.2.2 c_136)] at e; exact e))
        · refine r_al0 dX10_refusedBy_84 ?_
          refine m_get dX10_refusedBy_85 f_X10_42 hA rfl ?_
          refine r_il5 dX10_refusedBy_88 ?_
          refine r_iconst dX10_refusedBy_90 ?_
          refine r_iadd dX10_refusedBy_91 ?_
          refine m_ald dX10_refusedBy_92 hA (by decide) rfl (by first | omega | (simp only [mlen]; omega)) (by first | omega | (simp only [mlen]; omega)) ?_
          refine r_iconst dX10_refusedBy_93 ?_
          refine r_bipush dX10_refusedBy_94 (by decide) ?_
          refine r_callSP3 dX10_refusedBy_96 s_X10_61 (c_in κ _ (by first | omega | exact hR _ _) (by first | omega | exact hR _ _) (by first | omega | exact hR _ _)) (by decide) rfl ?_
          refine r_ifT_eq (tgt := 143) dX10_refusedBy_99 (by decide) (fun c_99 => ?_) (fun c_99 => ?_)
          · refine r_iconst dX10_refusedBy_143 ?_
            refine r_is2 dX10_refusedBy_144 rfl ?_
            refine r_inc4 dX10_refusedBy_145 rfl ?_
            refine r_goto (tgt := 9) dX10_refusedBy_148 (by decide) ?_
            have e := ih (b + 1) (some (.int (J (12 * b)))) (by omega) (by omega) (by omega)
            first
              | (have hg : TGr (M 21) b := c_35
                 rw [tlv_1 b0, bP_f (fun z => z hg), bP_cong (TRg.g hg), bP_cong (TMt.g b0 hg), Int.add_zero] at e
                 first
                   | (rw [bP_t (P := TMt (M 21) (M 30 22) b ∧ M 21 (12 * b + 2) ≤ tpb (M 21) b (M 30 22)) ⟨bP_ne c_39, by omega⟩] at e; exact e)
                   | (rw [bP_f (P := TMt (M 21) (M 30 22) b ∧ M 21 (12 * b + 2) ≤ tpb (M 21) b (M 30 22)) (fun z => by first | exact bP_z c_39 z.1 | (have := z.2; omega))] at e; exact e))
              | (have hg : ¬ TGr (M 21) b := c_35
                 rw [tlv_1 b0, bP_t hg, bP_cong (TRg.l b0 hg), bP_cong (TMt.l hg)] at e
                 first
                   | (rw [bP_t (P := TRg (M 21) b ∧ QIn (M 21 (12 * b + 2)) 1 30 ∧ QIn (M 21 (12 * b + 3)) 0 60 ∧ QIn (M 21 (12 * b + 4)) 10 20) ⟨bP_ne c_81, c_99, c_117, c_136⟩] at e; exact e)
                   | (rw [bP_f (P := TRg (M 21) b ∧ QIn (M 21 (12 * b + 2)) 1 30 ∧ QIn (M 21 (12 * b + 3)) 0 60 ∧ QIn (M 21 (12 * b + 4)) 10 20) (fun z => by first | exact bP_z c_81 z.1 | exact absurd z.2.1 c_99 | exact absurd z.2.2.1 c_117 | exact absurd z.2.2.2 c_136)] at e; exact e))
          · refine r_al0 dX10_refusedBy_102 ?_
            refine m_get dX10_refusedBy_103 f_X10_42 hA rfl ?_
            refine r_il5 dX10_refusedBy_106 ?_
            refine r_iconst dX10_refusedBy_108 ?_
            refine r_iadd dX10_refusedBy_109 ?_
            refine m_ald dX10_refusedBy_110 hA (by decide) rfl (by first | omega | (simp only [mlen]; omega)) (by first | omega | (simp only [mlen]; omega)) ?_
            refine r_iconst dX10_refusedBy_111 ?_
            refine r_bipush dX10_refusedBy_112 (by decide) ?_
            refine r_callSP3 dX10_refusedBy_114 s_X10_61 (c_in κ _ (by first | omega | exact hR _ _) (by first | omega | exact hR _ _) (by first | omega | exact hR _ _)) (by decide) rfl ?_
            refine r_ifT_eq (tgt := 143) dX10_refusedBy_117 (by decide) (fun c_117 => ?_) (fun c_117 => ?_)
            · refine r_iconst dX10_refusedBy_143 ?_
              refine r_is2 dX10_refusedBy_144 rfl ?_
              refine r_inc4 dX10_refusedBy_145 rfl ?_
              refine r_goto (tgt := 9) dX10_refusedBy_148 (by decide) ?_
              have e := ih (b + 1) (some (.int (J (12 * b)))) (by omega) (by omega) (by omega)
              first
                | (have hg : TGr (M 21) b := c_35
                   rw [tlv_1 b0, bP_f (fun z => z hg), bP_cong (TRg.g hg), bP_cong (TMt.g b0 hg), Int.add_zero] at e
                   first
                     | (rw [bP_t (P := TMt (M 21) (M 30 22) b ∧ M 21 (12 * b + 2) ≤ tpb (M 21) b (M 30 22)) ⟨bP_ne c_39, by omega⟩] at e; exact e)
                     | (rw [bP_f (P := TMt (M 21) (M 30 22) b ∧ M 21 (12 * b + 2) ≤ tpb (M 21) b (M 30 22)) (fun z => by first | exact bP_z c_39 z.1 | (have := z.2; omega))] at e; exact e))
                | (have hg : ¬ TGr (M 21) b := c_35
                   rw [tlv_1 b0, bP_t hg, bP_cong (TRg.l b0 hg), bP_cong (TMt.l hg)] at e
                   first
                     | (rw [bP_t (P := TRg (M 21) b ∧ QIn (M 21 (12 * b + 2)) 1 30 ∧ QIn (M 21 (12 * b + 3)) 0 60 ∧ QIn (M 21 (12 * b + 4)) 10 20) ⟨bP_ne c_81, c_99, c_117, c_136⟩] at e; exact e)
                     | (rw [bP_f (P := TRg (M 21) b ∧ QIn (M 21 (12 * b + 2)) 1 30 ∧ QIn (M 21 (12 * b + 3)) 0 60 ∧ QIn (M 21 (12 * b + 4)) 10 20) (fun z => by first | exact bP_z c_81 z.1 | exact absurd z.2.1 c_99 | exact absurd z.2.2.1 c_117 | exact absurd z.2.2.2 c_136)] at e; exact e))
            · refine r_al0 dX10_refusedBy_120 ?_
              refine m_get dX10_refusedBy_121 f_X10_42 hA rfl ?_
              refine r_il5 dX10_refusedBy_124 ?_
              refine r_iconst dX10_refusedBy_126 ?_
              refine r_iadd dX10_refusedBy_127 ?_
              refine m_ald dX10_refusedBy_128 hA (by decide) rfl (by first | omega | (simp only [mlen]; omega)) (by first | omega | (simp only [mlen]; omega)) ?_
              refine r_bipush dX10_refusedBy_129 (by decide) ?_
              refine r_bipush dX10_refusedBy_131 (by decide) ?_
              refine r_callSP3 dX10_refusedBy_133 s_X10_61 (c_in κ _ (by first | omega | exact hR _ _) (by first | omega | exact hR _ _) (by first | omega | exact hR _ _)) (by decide) rfl ?_
              refine r_ifT_eq (tgt := 143) dX10_refusedBy_136 (by decide) (fun c_136 => ?_) (fun c_136 => ?_)
              · refine r_iconst dX10_refusedBy_143 ?_
                refine r_is2 dX10_refusedBy_144 rfl ?_
                refine r_inc4 dX10_refusedBy_145 rfl ?_
                refine r_goto (tgt := 9) dX10_refusedBy_148 (by decide) ?_
                have e := ih (b + 1) (some (.int (J (12 * b)))) (by omega) (by omega) (by omega)
                first
                  | (have hg : TGr (M 21) b := c_35
                     rw [tlv_1 b0, bP_f (fun z => z hg), bP_cong (TRg.g hg), bP_cong (TMt.g b0 hg), Int.add_zero] at e
                     first
                       | (rw [bP_t (P := TMt (M 21) (M 30 22) b ∧ M 21 (12 * b + 2) ≤ tpb (M 21) b (M 30 22)) ⟨bP_ne c_39, by omega⟩] at e; exact e)
                       | (rw [bP_f (P := TMt (M 21) (M 30 22) b ∧ M 21 (12 * b + 2) ≤ tpb (M 21) b (M 30 22)) (fun z => by first | exact bP_z c_39 z.1 | (have := z.2; omega))] at e; exact e))
                  | (have hg : ¬ TGr (M 21) b := c_35
                     rw [tlv_1 b0, bP_t hg, bP_cong (TRg.l b0 hg), bP_cong (TMt.l hg)] at e
                     first
                       | (rw [bP_t (P := TRg (M 21) b ∧ QIn (M 21 (12 * b + 2)) 1 30 ∧ QIn (M 21 (12 * b + 3)) 0 60 ∧ QIn (M 21 (12 * b + 4)) 10 20) ⟨bP_ne c_81, c_99, c_117, c_136⟩] at e; exact e)
                       | (rw [bP_f (P := TRg (M 21) b ∧ QIn (M 21 (12 * b + 2)) 1 30 ∧ QIn (M 21 (12 * b + 3)) 0 60 ∧ QIn (M 21 (12 * b + 4)) 10 20) (fun z => by first | exact bP_z c_81 z.1 | exact absurd z.2.1 c_99 | exact absurd z.2.2.1 c_117 | exact absurd z.2.2.2 c_136)] at e; exact e))
              · refine r_iconst dX10_refusedBy_139 ?_
                refine r_goto (tgt := 144) dX10_refusedBy_140 (by decide) ?_
                refine r_is2 dX10_refusedBy_144 rfl ?_
                refine r_inc4 dX10_refusedBy_145 rfl ?_
                refine r_goto (tgt := 9) dX10_refusedBy_148 (by decide) ?_
                have e := ih (b + 1) (some (.int (J (12 * b)))) (by omega) (by omega) (by omega)
                first
                  | (have hg : TGr (M 21) b := c_35
                     rw [tlv_1 b0, bP_f (fun z => z hg), bP_cong (TRg.g hg), bP_cong (TMt.g b0 hg), Int.add_zero] at e
                     first
                       | (rw [bP_t (P := TMt (M 21) (M 30 22) b ∧ M 21 (12 * b + 2) ≤ tpb (M 21) b (M 30 22)) ⟨bP_ne c_39, by omega⟩] at e; exact e)
                       | (rw [bP_f (P := TMt (M 21) (M 30 22) b ∧ M 21 (12 * b + 2) ≤ tpb (M 21) b (M 30 22)) (fun z => by first | exact bP_z c_39 z.1 | (have := z.2; omega))] at e; exact e))
                  | (have hg : ¬ TGr (M 21) b := c_35
                     rw [tlv_1 b0, bP_t hg, bP_cong (TRg.l b0 hg), bP_cong (TMt.l hg)] at e
                     first
                       | (rw [bP_t (P := TRg (M 21) b ∧ QIn (M 21 (12 * b + 2)) 1 30 ∧ QIn (M 21 (12 * b + 3)) 0 60 ∧ QIn (M 21 (12 * b + 4)) 10 20) ⟨bP_ne c_81, c_99, c_117, c_136⟩] at e; exact e)
                       | (rw [bP_f (P := TRg (M 21) b ∧ QIn (M 21 (12 * b + 2)) 1 30 ∧ QIn (M 21 (12 * b + 3)) 0 60 ∧ QIn (M 21 (12 * b + 4)) 10 20) (fun z => by first | exact bP_z c_81 z.1 | exact absurd z.2.1 c_99 | exact absurd z.2.2.1 c_117 | exact absurd z.2.2.2 c_136)] at e; exact e))
      · refine r_il3 dX10_refusedBy_38 ?_
        refine r_if_eq (tgt := 72) dX10_refusedBy_39 (by decide) (by first | omega | exact hR _ _) (fun c_39 => ?_) (fun c_39 => ?_)
        · refine r_iconst dX10_refusedBy_72 ?_
          refine r_is3 dX10_refusedBy_73 rfl ?_
          refine r_goto (tgt := 145) dX10_refusedBy_74 (by decide) ?_
          refine r_inc4 dX10_refusedBy_145 rfl ?_
          refine r_goto (tgt := 9) dX10_refusedBy_148 (by decide) ?_
          have e := ih (b + 1) (some (.int (J (12 * b)))) (by omega) (by omega) (by omega)
          first
            | (have hg : TGr (M 21) b := c_35
               rw [tlv_1 b0, bP_f (fun z => z hg), bP_cong (TRg.g hg), bP_cong (TMt.g b0 hg), Int.add_zero] at e
               first
                 | (rw [bP_t (P := TMt (M 21) (M 30 22) b ∧ M 21 (12 * b + 2) ≤ tpb (M 21) b (M 30 22)) ⟨bP_ne c_39, by omega⟩] at e; exact e)
                 | (rw [bP_f (P := TMt (M 21) (M 30 22) b ∧ M 21 (12 * b + 2) ≤ tpb (M 21) b (M 30 22)) (fun z => by first | exact bP_z c_39 z.1 | (have := z.2; omega))] at e; exact e))
            | (have hg : ¬ TGr (M 21) b := c_35
               rw [tlv_1 b0, bP_t hg, bP_cong (TRg.l b0 hg), bP_cong (TMt.l hg)] at e
               first
                 | (rw [bP_t (P := TRg (M 21) b ∧ QIn (M 21 (12 * b + 2)) 1 30 ∧ QIn (M 21 (12 * b + 3)) 0 60 ∧ QIn (M 21 (12 * b + 4)) 10 20) ⟨bP_ne c_81, c_99, c_117, c_136⟩] at e; exact e)
                 | (rw [bP_f (P := TRg (M 21) b ∧ QIn (M 21 (12 * b + 2)) 1 30 ∧ QIn (M 21 (12 * b + 3)) 0 60 ∧ QIn (M 21 (12 * b + 4)) 10 20) (fun z => by first | exact bP_z c_81 z.1 | exact absurd z.2.1 c_99 | exact absurd z.2.2.1 c_117 | exact absurd z.2.2.2 c_136)] at e; exact e))
        · refine r_al0 dX10_refusedBy_42 ?_
          refine m_get dX10_refusedBy_43 f_X10_42 hA rfl ?_
          refine r_il5 dX10_refusedBy_46 ?_
          refine r_iconst dX10_refusedBy_48 ?_
          refine r_iadd dX10_refusedBy_49 ?_
          refine m_ald dX10_refusedBy_50 hA (by decide) rfl (by first | omega | (simp only [mlen]; omega)) (by first | omega | (simp only [mlen]; omega)) ?_
          refine r_al0 dX10_refusedBy_51 ?_
          refine m_get dX10_refusedBy_52 f_X10_42 hA rfl ?_
          refine r_iconst dX10_refusedBy_55 ?_
          refine r_al0 dX10_refusedBy_56 ?_
          refine m_get dX10_refusedBy_57 f_X10_190 hA rfl ?_
          refine r_il4 dX10_refusedBy_60 ?_
          refine r_callSP4 dX10_refusedBy_62 s_X10_217 (c_partsT κ _ hA hR (b := b) (x := M 30 22) (by omega) (by omega) (by omega)) (by decide) rfl ?_
          refine r_icmp_gt (tgt := 72) dX10_refusedBy_65 (by decide) (by first | omega | exact hR _ _) (by first | omega | exact hR _ _) (fun c_65 => ?_) (fun c_65 => ?_)
          · refine r_iconst dX10_refusedBy_72 ?_
            refine r_is3 dX10_refusedBy_73 rfl ?_
            refine r_goto (tgt := 145) dX10_refusedBy_74 (by decide) ?_
            refine r_inc4 dX10_refusedBy_145 rfl ?_
            refine r_goto (tgt := 9) dX10_refusedBy_148 (by decide) ?_
            have e := ih (b + 1) (some (.int (J (12 * b)))) (by omega) (by omega) (by omega)
            first
              | (have hg : TGr (M 21) b := c_35
                 rw [tlv_1 b0, bP_f (fun z => z hg), bP_cong (TRg.g hg), bP_cong (TMt.g b0 hg), Int.add_zero] at e
                 first
                   | (rw [bP_t (P := TMt (M 21) (M 30 22) b ∧ M 21 (12 * b + 2) ≤ tpb (M 21) b (M 30 22)) ⟨bP_ne c_39, by omega⟩] at e; exact e)
                   | (rw [bP_f (P := TMt (M 21) (M 30 22) b ∧ M 21 (12 * b + 2) ≤ tpb (M 21) b (M 30 22)) (fun z => by first | exact bP_z c_39 z.1 | (have := z.2; omega))] at e; exact e))
              | (have hg : ¬ TGr (M 21) b := c_35
                 rw [tlv_1 b0, bP_t hg, bP_cong (TRg.l b0 hg), bP_cong (TMt.l hg)] at e
                 first
                   | (rw [bP_t (P := TRg (M 21) b ∧ QIn (M 21 (12 * b + 2)) 1 30 ∧ QIn (M 21 (12 * b + 3)) 0 60 ∧ QIn (M 21 (12 * b + 4)) 10 20) ⟨bP_ne c_81, c_99, c_117, c_136⟩] at e; exact e)
                   | (rw [bP_f (P := TRg (M 21) b ∧ QIn (M 21 (12 * b + 2)) 1 30 ∧ QIn (M 21 (12 * b + 3)) 0 60 ∧ QIn (M 21 (12 * b + 4)) 10 20) (fun z => by first | exact bP_z c_81 z.1 | exact absurd z.2.1 c_99 | exact absurd z.2.2.1 c_117 | exact absurd z.2.2.2 c_136)] at e; exact e))
          · refine r_iconst dX10_refusedBy_68 ?_
            refine r_goto (tgt := 73) dX10_refusedBy_69 (by decide) ?_
            refine r_is3 dX10_refusedBy_73 rfl ?_
            refine r_goto (tgt := 145) dX10_refusedBy_74 (by decide) ?_
            refine r_inc4 dX10_refusedBy_145 rfl ?_
            refine r_goto (tgt := 9) dX10_refusedBy_148 (by decide) ?_
            have e := ih (b + 1) (some (.int (J (12 * b)))) (by omega) (by omega) (by omega)
            first
              | (have hg : TGr (M 21) b := c_35
                 rw [tlv_1 b0, bP_f (fun z => z hg), bP_cong (TRg.g hg), bP_cong (TMt.g b0 hg), Int.add_zero] at e
                 first
                   | (rw [bP_t (P := TMt (M 21) (M 30 22) b ∧ M 21 (12 * b + 2) ≤ tpb (M 21) b (M 30 22)) ⟨bP_ne c_39, by omega⟩] at e; exact e)
                   | (rw [bP_f (P := TMt (M 21) (M 30 22) b ∧ M 21 (12 * b + 2) ≤ tpb (M 21) b (M 30 22)) (fun z => by first | exact bP_z c_39 z.1 | (have := z.2; omega))] at e; exact e))
              | (have hg : ¬ TGr (M 21) b := c_35
                 rw [tlv_1 b0, bP_t hg, bP_cong (TRg.l b0 hg), bP_cong (TMt.l hg)] at e
                 first
                   | (rw [bP_t (P := TRg (M 21) b ∧ QIn (M 21 (12 * b + 2)) 1 30 ∧ QIn (M 21 (12 * b + 3)) 0 60 ∧ QIn (M 21 (12 * b + 4)) 10 20) ⟨bP_ne c_81, c_99, c_117, c_136⟩] at e; exact e)
                   | (rw [bP_f (P := TRg (M 21) b ∧ QIn (M 21 (12 * b + 2)) 1 30 ∧ QIn (M 21 (12 * b + 3)) 0 60 ∧ QIn (M 21 (12 * b + 4)) 10 20) (fun z => by first | exact bP_z c_81 z.1 | exact absurd z.2.1 c_99 | exact absurd z.2.2.1 c_117 | exact absurd z.2.2.2 c_136)] at e; exact e))
set_option maxRecDepth 100000 in
set_option maxHeartbeats 4000000 in
theorem c_refusedBy (κ : KP) {A : Nat → Nat} {M : MEM} (hA : MA A) (hR : RG M) (k0 : 0 ≤ M 30 22) (k1 : M 30 22 ≤ 25) : RM κ mX10_refusedBy 2 A [.ref (A 30)] M (fun r M' => M' = M ∧ QRf (M 21) (M 30 22) r) := by
  intro h
  refine mm_of (L := [some _, none, none, none, none, none]) (by decide +kernel) rfl rfl (Nat.le_of_ble_eq_true rfl) rfl ?_
  refine r_iconst dX10_refusedBy_0 ?_
  refine r_is1 dX10_refusedBy_1 rfl ?_
  refine r_iconst dX10_refusedBy_2 ?_
  refine r_is2 dX10_refusedBy_3 rfl ?_
  refine r_iconst dX10_refusedBy_4 ?_
  refine r_is3 dX10_refusedBy_5 rfl ?_
  refine r_iconst dX10_refusedBy_6 ?_
  refine r_is4 dX10_refusedBy_7 rfl ?_
  have e := l_refusedBy κ h hA hR k0 k1 26 0 none (by omega) (by omega) (by omega)
  rw [show tlv (M 21) 0 = 0 from sz_0, bP_t (P := TRg (M 21) 0) (fun b b0 b1 => by omega), bP_t (P := TMt (M 21) (M 30 22) 0) (fun b b0 b1 => by omega)] at e
  exact e
