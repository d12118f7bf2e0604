/-! ===== blocks that are refused ===== -/
noncomputable def tpb (t : Int → Int) (b : Int) (k : Int) : Int := sz (fun j => bP (t (0 + 12 * j + 1) = b)) k
theorem tpb_bd {t : Int → Int} {b k : Int} (k0 : 0 ≤ k) : 0 ≤ tpb t b k ∧ tpb t b k ≤ k := sz_01 k0 (fun _ => bP_01 _)
theorem tpb_1 {t : Int → Int} {b k : Int} (k0 : 0 ≤ k) : tpb t b (k + 1) = tpb t b k + bP (t (0 + 12 * k + 1) = b) := sz_1 k0
set_option maxRecDepth 100000 in
set_option maxHeartbeats 4000000 in
theorem l_partsT (κ : Nat) {A : Nat → Nat} {M : MEM} (h : AH) (hA : MA A) (hR : RG M) {b x : Int} (rb : rng b) (m0 : 0 ≤ x) (m1 : x ≤ 25) : ∀ (f : Nat) (k : Int), x - k < (f : Int) → (0 ≤ k) → (k ≤ x) → WW κ mX10_parts 1 0 0 (fun w h' => w = some (.int (J (tpb (M 21) b x))) ∧ h' = mset A M h) NoX 6 [some (.ref (A 21)), some (.int (J 0)), some (.int (J x)), some (.int (J b)), some (.int (J (tpb (M 21) b k))), some (.int (J k))] [] (mset A M h) := by
  intro f
  induction f with
  | zero =>
    intro k hf k0 k1
    exact absurd hf (by omega)
  | succ f ih =>
    intro k hf k0 k1
    have hqb := tpb_bd (t := M 21) (b := b) k0
    refine r_il5 dX10_parts_6 ?_
    refine r_il2 dX10_parts_8 ?_
    refine r_icmp_ge (tgt := 43) dX10_parts_9 (by decide) (by first | omega | exact hR _ _) (by first | omega | exact hR _ _) (fun c_9 => ?_) (fun c_9 => ?_)
    · refine r_il4 dX10_parts_43 ?_
      refine r_iret dX10_parts_45 (ty := .int) rfl rfl ⟨?_, rfl⟩
      rw [show k = x by omega]
    · refine r_il4 dX10_parts_12 ?_
      refine r_al0 dX10_parts_14 ?_
      refine r_il1 dX10_parts_15 ?_
      refine r_bipush dX10_parts_16 (by decide) ?_
      refine r_il5 dX10_parts_18 ?_
      refine r_imul dX10_parts_20 ?_
      refine r_iadd dX10_parts_21 ?_
      refine r_iconst dX10_parts_22 ?_
      refine r_iadd dX10_parts_23 ?_
      refine m_ald dX10_parts_24 hA (by decide) rfl (by omega) (by simp only [mlen]; omega) ?_
      refine r_il3 dX10_parts_25 ?_
      refine r_icmp_ne (tgt := 33) dX10_parts_26 (by decide) (by first | omega | exact hR _ _) (by first | omega | exact hR _ _) (fun c_26 => ?_) (fun c_26 => ?_)
      · refine r_iconst dX10_parts_33 ?_
        refine r_iadd dX10_parts_34 ?_
        refine r_is4 dX10_parts_35 rfl ?_
        refine r_inc5 dX10_parts_37 rfl ?_
        refine r_goto (tgt := 6) dX10_parts_40 (by decide) ?_
        have e := ih (k + 1) (by omega) (by omega) (by omega)
        rw [tpb_1 k0] at e
        first | (rw [bP_t (by assumption)] at e; exact e) | (rw [bP_f (by assumption)] at e; exact e)
      · refine r_iconst dX10_parts_29 ?_
        refine r_goto (tgt := 34) dX10_parts_30 (by decide) ?_
        refine r_iadd dX10_parts_34 ?_
        refine r_is4 dX10_parts_35 rfl ?_
        refine r_inc5 dX10_parts_37 rfl ?_
        refine r_goto (tgt := 6) dX10_parts_40 (by decide) ?_
        have e := ih (k + 1) (by omega) (by omega) (by omega)
        rw [tpb_1 k0] at e
        first | (rw [bP_t (by assumption)] at e; exact e) | (rw [bP_f (by assumption)] at e; exact e)
set_option maxRecDepth 100000 in
set_option maxHeartbeats 4000000 in
theorem c_partsT (κ : Nat) {A : Nat → Nat} {M : MEM} (h : AH) (hA : MA A) (hR : RG M) {b x : Int} (rb : rng b) (m0 : 0 ≤ x) (m1 : x ≤ 25) : PM κ mX10_parts 1 [.ref (A 21), .int (J 0), .int (J x), .int (J b)] (mset A M h) (.int (J (tpb (M 21) b x))) := by
  refine mm_of (L := [some _, some _, some _, some _, none, none]) (by decide +kernel) rfl rfl (Nat.le_of_ble_eq_true rfl) rfl ?_
  refine r_iconst dX10_parts_0 ?_
  refine r_is4 dX10_parts_1 rfl ?_
  refine r_iconst dX10_parts_3 ?_
  refine r_is5 dX10_parts_4 rfl ?_
  have e := l_partsT κ h hA hR rb m0 m1 26 0 (by omega) (by omega) (by omega)
  rw [show tpb (M 21) b 0 = 0 from sz_0] at e
  exact e
def TGr (t : Int → Int) (b : Int) : Prop := t (12 * b + 0) = 1
def TRg (t : Int → Int) (k : Int) : Prop := ∀ b, 0 ≤ b → b < k → ¬ TGr t b → QIn (t (12 * b + 2)) 1 30 ∧ QIn (t (12 * b + 3)) 0 60 ∧ QIn (t (12 * b + 4)) 10 20
def TMt (t : Int → Int) (x k : Int) : Prop := ∀ b, 0 ≤ b → b < k → TGr t b → t (12 * b + 2) ≤ tpb t b x
noncomputable def tlv (t : Int → Int) (k : Int) : Int := sz (fun b => bP (¬ TGr t b)) k
/-- for which reason the rows are refused; 0: they aren't -/
def QRf (t : Int → Int) (k r : Int) : Prop := (¬ TRg t k ∧ r = 3) ∨ (TRg t k ∧ (8 < k ∨ 4 < tlv t k) ∧ r = 4) ∨ (TRg t k ∧ ¬ (8 < k ∨ 4 < tlv t k) ∧ TMt t k k ∧ r = 0) ∨ (TRg t k ∧ ¬ (8 < k ∨ 4 < tlv t k) ∧ ¬ TMt t k k ∧ r = 5)
theorem tlv_1 {t : Int → Int} {k : Int} (k0 : 0 ≤ k) : tlv t (k + 1) = tlv t k + bP (¬ TGr t k) := sz_1 k0
theorem tlv_bd {t : Int → Int} {k : Int} (k0 : 0 ≤ k) : 0 ≤ tlv t k ∧ tlv t k ≤ k := sz_01 k0 (fun _ => bP_01 _)
theorem TRg.g {t : Int → Int} {k : Int} (h : TGr t k) : TRg t (k + 1) ↔ TRg t k := ⟨fun q b b0 b1 => q b b0 (by omega), fun q b b0 b1 hn => by
  rcases (show b < k ∨ b = k by omega) with z | z
  · exact q b b0 z hn
  · exact absurd (z ▸ h) hn⟩
theorem TRg.l {t : Int → Int} {k : Int} (k0 : 0 ≤ k) (h : ¬ TGr t k) : TRg t (k + 1) ↔ TRg t k ∧ QIn (t (12 * k + 2)) 1 30 ∧ QIn (t (12 * k + 3)) 0 60 ∧ QIn (t (12 * k + 4)) 10 20 := ⟨fun q => ⟨fun b b0 b1 => q b b0 (by omega), q k k0 (by omega) h⟩, fun q b b0 b1 hn => by
  rcases (show b < k ∨ b = k by omega) with z | z
  · exact q.1 b b0 z hn
  · rw [z]; exact q.2⟩
theorem TMt.l {t : Int → Int} {x k : Int} (h : ¬ TGr t k) : TMt t x (k + 1) ↔ TMt t x k := ⟨fun q b b0 b1 => q b b0 (by omega), fun q b b0 b1 hn => by
  rcases (show b < k ∨ b = k by omega) with z | z
  · exact q b b0 z hn
  · exact absurd hn (z ▸ h)⟩
theorem TMt.g {t : Int → Int} {x k : Int} (k0 : 0 ≤ k) (h : TGr t k) : TMt t x (k + 1) ↔ TMt t x k ∧ t (12 * k + 2) ≤ tpb t k x := ⟨fun q => ⟨fun b b0 b1 => q b b0 (by omega), q k k0 (by omega) h⟩, fun q b b0 b1 hn => by
  rcases (show b < k ∨ b = k by omega) with z | z
  · exact q.1 b b0 z hn
  · rw [z]; exact q.2⟩
