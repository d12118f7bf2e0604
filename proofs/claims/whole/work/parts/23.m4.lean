/-! ===== the desk's changes, on g ===== -/
def setg (M : MEM) (g : Int → Int) : MEM := fun k i => if k = 0 then g i else M k i
theorem setg_0 {M : MEM} {g : Int → Int} : setg M g 0 = g := rfl
theorem setg_k {M : MEM} {g : Int → Int} {k : Nat} (h : k ≠ 0) : setg M g k = M k := by
  funext i
  unfold setg
  rw [if_neg h]
theorem setg_up {M : MEM} {g : Int → Int} {i v : Int} : updm (setg M g) 0 i v = setg M (upz g i v) := by
  funext k j
  unfold updm setg upz
  by_cases e : k = 0
  · by_cases e2 : j = i <;> simp [e, e2]
  · simp [e]
theorem setg_self {M : MEM} : setg M (M 0) = M := by
  funext k i
  unfold setg
  split
  · rename_i e; rw [e]
  · rfl
theorem setg_app {M : MEM} {g : Int → Int} {k : Nat} {i : Int} : setg M g k i = if k = 0 then g i else M k i := rfl
theorem upd0 {M : MEM} {i v : Int} : updm M 0 i v = setg M (upz (M 0) i v) := by
  rw [← setg_up, setg_self]
theorem RG_setg {M : MEM} {g : Int → Int} (h : RG M) (hg : ∀ i, rng (g i)) : RG (setg M g) := by
  intro k i
  unfold setg
  split
  · exact hg i
  · exact h k i
theorem upz_app {α : Type} {g : Int → α} {i j : Int} {v : α} : upz g i v j = if j = i then v else g j := rfl
/-- a credit comes -/
def gcm (g : Int → Int) (a b c e : Int) : Int → Int := upz (upz (upz (upz (upz g 1 (g 1 + 1)) (4 + 4 * g 1 + 0) a) (4 + 4 * g 1 + 1) b) (4 + 4 * g 1 + 2) c) (4 + 4 * g 1 + 3) e
/-- a credit goes -/
def ggo (g : Int → Int) (c : Int) : Int → Int := fun i => if 4 + 4 * c + 0 ≤ i ∧ i < 4 + 4 * (g 1 - 1) + 0 then g (i + 4) else if i = 1 then g 1 - 1 else g i
/-- an equivalence comes -/
def geq (g : Int → Int) (a b c e : Int) : Int → Int := upz (upz (upz (upz (upz g 2 (g 2 + 1)) (28 + 4 * g 2 + 0) a) (28 + 4 * g 2 + 1) b) (28 + 4 * g 2 + 2) c) (28 + 4 * g 2 + 3) e
def QMay (g : Int → Int) (code p gr y : Int) : Prop := (QLow code ∨ QCap code) ∧ QIn p 1 12 ∧ QIn gr 0 20 ∧ QIn y 0 (g 0)
/-- the answer of a call that gives a number: how it is refused (0: it isn't), and the state behind it -/
abbrev thr (M : MEM) : Int := M 30 7
theorem QCh.at {M M' : MEM} (h : QCh M M') : RG M' ∧ (∀ k, k ≠ 4 → k ≠ 30 → M' k = M k) ∧ ∀ f : Int, f ≠ 5 → f ≠ 8 → M' 30 f = M 30 f :=
  ⟨h.1, fun k h1 h2 => h.2.1.1 k (by simpa using h1) h2, fun f h1 h2 => h.2.1.2 f (by simp [h1, h2])⟩
theorem J_char {z : Int} (h0 : 0 ≤ z) (h1 : z < 65536) : ((J z).toUInt32 % 65536).toInt32 = J z := by
  have e : J z = nI z.toNat := by
    have := J_nat z.toNat
    rw [Int.toNat_of_nonneg h0] at this
    exact this
  rw [e, pk_char, pk_tn (by omega), Nat.mod_eq_of_lt (by omega)]
theorem nar_C {z : Int} (h0 : 0 ≤ z) (h1 : z < 65536) : narrow .char (.int (J z)) = .int (J z) ∧ fits .char (.int (J z)) = true := by
  have e : J z = nI z.toNat := by
    have := J_nat z.toNat
    rw [Int.toNat_of_nonneg h0] at this
    exact this
  rw [e]
  exact pk_charN (by omega)
section I2C
variable {κ : KP} {mi : MI} {d k n : Nat} {Q : Option Value → AH → Prop} {E : String → AH → Prop} {pc : Nat} {L : List (Option Value)} {st : List Value} {h : AH}
theorem r_i2cJ {z : Int} (hd : decode mi.2.1 pc = .ok (.i2c, 1)) (h0 : 0 ≤ z ∧ z < 65536) (kk : WW κ mi d k n Q E (pc + 1) L (.int (J z) :: st) h) : WW κ mi d k n Q E pc L (.int (J z) :: st) h := by
  refine r_i2c hd ?_
  rw [J_char h0.1 h0.2]
  exact kk
end I2C
set_option maxRecDepth 100000 in
set_option maxHeartbeats 4000000 in
theorem c_mayBe (κ : KP) {A : Nat → Nat} {M : MEM} (h : AH) (hA : MA A) (hR : RG M) {a b c e : Int} (ra : rng a) (rb : rng b) (rc : rng c) (re : rng e) : PM κ mX10_mayBe 3 [.ref (A 30), .int (J a), .int (J b), .int (J c), .int (J e)] (mset A M h) (.int (J (bI (tb (QMay (M 0) a b c e))))) := by
  refine mm_of (L := [some _, some _, some _, some _, some _]) (by decide +kernel) rfl rfl (Nat.le_of_ble_eq_true rfl) rfl ?_
  refine r_il1 dX10_mayBe_0 ?_
  refine r_callSP1 dX10_mayBe_1 s_X10_123 (c_isLow κ _ (by first | omega | exact hR _ _)) (by decide) rfl ?_
  refine r_ifT_ne (tgt := 14) dX10_mayBe_4 (by decide) (fun c_4 => ?_) (fun c_4 => ?_)
  · refine r_il2 dX10_mayBe_14 ?_
    refine r_iconst dX10_mayBe_15 ?_
    refine r_bipush dX10_mayBe_16 (by decide) ?_
    refine r_callSP3 dX10_mayBe_18 s_X10_61 (c_in κ _ (by first | omega | exact hR _ _) (by first | omega | exact hR _ _) (by first | omega | exact hR _ _)) (by decide) rfl ?_
    refine r_ifT_eq (tgt := 53) dX10_mayBe_21 (by decide) (fun c_21 => ?_) (fun c_21 => ?_)
    · refine r_iconst dX10_mayBe_53 ?_
      refine r_iret dX10_mayBe_54 (ty := .boolean) rfl (by first | exact nar_B _ | decide) ?_
      first | exact ⟨rfl, rfl⟩ | exact ⟨ret_t (by (unfold QMay; first | exact ⟨Or.inl (by assumption), by assumption, by assumption, by assumption⟩ | exact ⟨Or.inr (by assumption), by assumption, by assumption, by assumption⟩ | (intro hh; obtain ⟨h1, h2, h3, h4⟩ := hh; first | contradiction | (rcases h1 with h1 | h1 <;> contradiction)))), rfl⟩ | exact ⟨ret_f (by (unfold QMay; first | exact ⟨Or.inl (by assumption), by assumption, by assumption, by assumption⟩ | exact ⟨Or.inr (by assumption), by assumption, by assumption, by assumption⟩ | (intro hh; obtain ⟨h1, h2, h3, h4⟩ := hh; first | contradiction | (rcases h1 with h1 | h1 <;> contradiction)))), rfl⟩
    · refine r_il3 dX10_mayBe_24 ?_
      refine r_iconst dX10_mayBe_25 ?_
      refine r_bipush dX10_mayBe_26 (by decide) ?_
      refine r_callSP3 dX10_mayBe_28 s_X10_61 (c_in κ _ (by first | omega | exact hR _ _) (by first | omega | exact hR _ _) (by first | omega | exact hR _ _)) (by decide) rfl ?_
      refine r_ifT_eq (tgt := 53) dX10_mayBe_31 (by decide) (fun c_31 => ?_) (fun c_31 => ?_)
      · refine r_iconst dX10_mayBe_53 ?_
        refine r_iret dX10_mayBe_54 (ty := .boolean) rfl (by first | exact nar_B _ | decide) ?_
        first | exact ⟨rfl, rfl⟩ | exact ⟨ret_t (by (unfold QMay; first | exact ⟨Or.inl (by assumption), by assumption, by assumption, by assumption⟩ | exact ⟨Or.inr (by assumption), by assumption, by assumption, by assumption⟩ | (intro hh; obtain ⟨h1, h2, h3, h4⟩ := hh; first | contradiction | (rcases h1 with h1 | h1 <;> contradiction)))), rfl⟩ | exact ⟨ret_f (by (unfold QMay; first | exact ⟨Or.inl (by assumption), by assumption, by assumption, by assumption⟩ | exact ⟨Or.inr (by assumption), by assumption, by assumption, by assumption⟩ | (intro hh; obtain ⟨h1, h2, h3, h4⟩ := hh; first | contradiction | (rcases h1 with h1 | h1 <;> contradiction)))), rfl⟩
      · refine r_il4 dX10_mayBe_34 ?_
        refine r_iconst dX10_mayBe_36 ?_
        refine r_al0 dX10_mayBe_37 ?_
        refine m_get dX10_mayBe_38 f_X10_7 hA rfl ?_
        refine r_iconst dX10_mayBe_41 ?_
        refine m_ald dX10_mayBe_42 hA (by decide) rfl (by first | omega | (simp only [mlen]; omega)) (by first | omega | (simp only [mlen]; omega)) ?_
        refine r_callSP3 dX10_mayBe_43 s_X10_61 (c_in κ _ (by first | omega | exact hR _ _) (by first | omega | exact hR _ _) (by first | omega | exact hR _ _)) (by decide) rfl ?_
        refine r_ifT_eq (tgt := 53) dX10_mayBe_46 (by decide) (fun c_46 => ?_) (fun c_46 => ?_)
        · refine r_iconst dX10_mayBe_53 ?_
          refine r_iret dX10_mayBe_54 (ty := .boolean) rfl (by first | exact nar_B _ | decide) ?_
          first | exact ⟨rfl, rfl⟩ | exact ⟨ret_t (by (unfold QMay; first | exact ⟨Or.inl (by assumption), by assumption, by assumption, by assumption⟩ | exact ⟨Or.inr (by assumption), by assumption, by assumption, by assumption⟩ | (intro hh; obtain ⟨h1, h2, h3, h4⟩ := hh; first | contradiction | (rcases h1 with h1 | h1 <;> contradiction)))), rfl⟩ | exact ⟨ret_f (by (unfold QMay; first | exact ⟨Or.inl (by assumption), by assumption, by assumption, by assumption⟩ | exact ⟨Or.inr (by assumption), by assumption, by assumption, by assumption⟩ | (intro hh; obtain ⟨h1, h2, h3, h4⟩ := hh; first | contradiction | (rcases h1 with h1 | h1 <;> contradiction)))), rfl⟩
        · refine r_iconst dX10_mayBe_49 ?_
          refine r_goto (tgt := 54) dX10_mayBe_50 (by decide) ?_
          refine r_iret dX10_mayBe_54 (ty := .boolean) rfl (by first | exact nar_B _ | decide) ?_
          first | exact ⟨rfl, rfl⟩ | exact ⟨ret_t (by (unfold QMay; first | exact ⟨Or.inl (by assumption), by assumption, by assumption, by assumption⟩ | exact ⟨Or.inr (by assumption), by assumption, by assumption, by assumption⟩ | (intro hh; obtain ⟨h1, h2, h3, h4⟩ := hh; first | contradiction | (rcases h1 with h1 | h1 <;> contradiction)))), rfl⟩ | exact ⟨ret_f (by (unfold QMay; first | exact ⟨Or.inl (by assumption), by assumption, by assumption, by assumption⟩ | exact ⟨Or.inr (by assumption), by assumption, by assumption, by assumption⟩ | (intro hh; obtain ⟨h1, h2, h3, h4⟩ := hh; first | contradiction | (rcases h1 with h1 | h1 <;> contradiction)))), rfl⟩
  · refine r_il1 dX10_mayBe_7 ?_
    refine r_callSP1 dX10_mayBe_8 s_X10_126 (c_isCapital κ _ (by first | omega | exact hR _ _)) (by decide) rfl ?_
    refine r_ifT_eq (tgt := 53) dX10_mayBe_11 (by decide) (fun c_11 => ?_) (fun c_11 => ?_)
    · refine r_iconst dX10_mayBe_53 ?_
      refine r_iret dX10_mayBe_54 (ty := .boolean) rfl (by first | exact nar_B _ | decide) ?_
      first | exact ⟨rfl, rfl⟩ | exact ⟨ret_t (by (unfold QMay; first | exact ⟨Or.inl (by assumption), by assumption, by assumption, by assumption⟩ | exact ⟨Or.inr (by assumption), by assumption, by assumption, by assumption⟩ | (intro hh; obtain ⟨h1, h2, h3, h4⟩ := hh; first | contradiction | (rcases h1 with h1 | h1 <;> contradiction)))), rfl⟩ | exact ⟨ret_f (by (unfold QMay; first | exact ⟨Or.inl (by assumption), by assumption, by assumption, by assumption⟩ | exact ⟨Or.inr (by assumption), by assumption, by assumption, by assumption⟩ | (intro hh; obtain ⟨h1, h2, h3, h4⟩ := hh; first | contradiction | (rcases h1 with h1 | h1 <;> contradiction)))), rfl⟩
    · refine r_il2 dX10_mayBe_14 ?_
      refine r_iconst dX10_mayBe_15 ?_
      refine r_bipush dX10_mayBe_16 (by decide) ?_
      refine r_callSP3 dX10_mayBe_18 s_X10_61 (c_in κ _ (by first | omega | exact hR _ _) (by first | omega | exact hR _ _) (by first | omega | exact hR _ _)) (by decide) rfl ?_
      refine r_ifT_eq (tgt := 53) dX10_mayBe_21 (by decide) (fun c_21 => ?_) (fun c_21 => ?_)
      · refine r_iconst dX10_mayBe_53 ?_
        refine r_iret dX10_mayBe_54 (ty := .boolean) rfl (by first | exact nar_B _ | decide) ?_
        first | exact ⟨rfl, rfl⟩ | exact ⟨ret_t (by (unfold QMay; first | exact ⟨Or.inl (by assumption), by assumption, by assumption, by assumption⟩ | exact ⟨Or.inr (by assumption), by assumption, by assumption, by assumption⟩ | (intro hh; obtain ⟨h1, h2, h3, h4⟩ := hh; first | contradiction | (rcases h1 with h1 | h1 <;> contradiction)))), rfl⟩ | exact ⟨ret_f (by (unfold QMay; first | exact ⟨Or.inl (by assumption), by assumption, by assumption, by assumption⟩ | exact ⟨Or.inr (by assumption), by assumption, by assumption, by assumption⟩ | (intro hh; obtain ⟨h1, h2, h3, h4⟩ := hh; first | contradiction | (rcases h1 with h1 | h1 <;> contradiction)))), rfl⟩
      · refine r_il3 dX10_mayBe_24 ?_
        refine r_iconst dX10_mayBe_25 ?_
        refine r_bipush dX10_mayBe_26 (by decide) ?_
        refine r_callSP3 dX10_mayBe_28 s_X10_61 (c_in κ _ (by first | omega | exact hR _ _) (by first | omega | exact hR _ _) (by first | omega | exact hR _ _)) (by decide) rfl ?_
        refine r_ifT_eq (tgt := 53) dX10_mayBe_31 (by decide) (fun c_31 => ?_) (fun c_31 => ?_)
        · refine r_iconst dX10_mayBe_53 ?_
          refine r_iret dX10_mayBe_54 (ty := .boolean) rfl (by first | exact nar_B _ | decide) ?_
          first | exact ⟨rfl, rfl⟩ | exact ⟨ret_t (by (unfold QMay; first | exact ⟨Or.inl (by assumption), by assumption, by assumption, by assumption⟩ | exact ⟨Or.inr (by assumption), by assumption, by assumption, by assumption⟩ | (intro hh; obtain ⟨h1, h2, h3, h4⟩ := hh; first | contradiction | (rcases h1 with h1 | h1 <;> contradiction)))), rfl⟩ | exact ⟨ret_f (by (unfold QMay; first | exact ⟨Or.inl (by assumption), by assumption, by assumption, by assumption⟩ | exact ⟨Or.inr (by assumption), by assumption, by assumption, by assumption⟩ | (intro hh; obtain ⟨h1, h2, h3, h4⟩ := hh; first | contradiction | (rcases h1 with h1 | h1 <;> contradiction)))), rfl⟩
        · refine r_il4 dX10_mayBe_34 ?_
          refine r_iconst dX10_mayBe_36 ?_
          refine r_al0 dX10_mayBe_37 ?_
          refine m_get dX10_mayBe_38 f_X10_7 hA rfl ?_
          refine r_iconst dX10_mayBe_41 ?_
          refine m_ald dX10_mayBe_42 hA (by decide) rfl (by first | omega | (simp only [mlen]; omega)) (by first | omega | (simp only [mlen]; omega)) ?_
          refine r_callSP3 dX10_mayBe_43 s_X10_61 (c_in κ _ (by first | omega | exact hR _ _) (by first | omega | exact hR _ _) (by first | omega | exact hR _ _)) (by decide) rfl ?_
          refine r_ifT_eq (tgt := 53) dX10_mayBe_46 (by decide) (fun c_46 => ?_) (fun c_46 => ?_)
          · refine r_iconst dX10_mayBe_53 ?_
            refine r_iret dX10_mayBe_54 (ty := .boolean) rfl (by first | exact nar_B _ | decide) ?_
            first | exact ⟨rfl, rfl⟩ | exact ⟨ret_t (by (unfold QMay; first | exact ⟨Or.inl (by assumption), by assumption, by assumption, by assumption⟩ | exact ⟨Or.inr (by assumption), by assumption, by assumption, by assumption⟩ | (intro hh; obtain ⟨h1, h2, h3, h4⟩ := hh; first | contradiction | (rcases h1 with h1 | h1 <;> contradiction)))), rfl⟩ | exact ⟨ret_f (by (unfold QMay; first | exact ⟨Or.inl (by assumption), by assumption, by assumption, by assumption⟩ | exact ⟨Or.inr (by assumption), by assumption, by assumption, by assumption⟩ | (intro hh; obtain ⟨h1, h2, h3, h4⟩ := hh; first | contradiction | (rcases h1 with h1 | h1 <;> contradiction)))), rfl⟩
          · refine r_iconst dX10_mayBe_49 ?_
            refine r_goto (tgt := 54) dX10_mayBe_50 (by decide) ?_
            refine r_iret dX10_mayBe_54 (ty := .boolean) rfl (by first | exact nar_B _ | decide) ?_
            first | exact ⟨rfl, rfl⟩ | exact ⟨ret_t (by (unfold QMay; first | exact ⟨Or.inl (by assumption), by assumption, by assumption, by assumption⟩ | exact ⟨Or.inr (by assumption), by assumption, by assumption, by assumption⟩ | (intro hh; obtain ⟨h1, h2, h3, h4⟩ := hh; first | contradiction | (rcases h1 with h1 | h1 <;> contradiction)))), rfl⟩ | exact ⟨ret_f (by (unfold QMay; first | exact ⟨Or.inl (by assumption), by assumption, by assumption, by assumption⟩ | exact ⟨Or.inr (by assumption), by assumption, by assumption, by assumption⟩ | (intro hh; obtain ⟨h1, h2, h3, h4⟩ := hh; first | contradiction | (rcases h1 with h1 | h1 <;> contradiction)))), rfl⟩
set_option maxRecDepth 100000 in
set_option maxHeartbeats 4000000 in
theorem c_comes (κ : KP) {A : Nat → Nat} {M : MEM} (hA : MA A) (hR : RG M) {a b c e : Int} (n0 : 0 ≤ M 0 1) (n1 : M 0 1 ≤ 6) : RM κ mX10_comes 2 A [.ref (A 30), .int (J a), .int (J b), .int (J c), .int (J e)] M (fun r M' => r = M 0 1 ∧ M' = setg M (gcm (M 0) a b c e)) := by
  intro h
  refine mm_of (L := [some _, some _, some _, some _, some _, none]) (by decide +kernel) rfl rfl (Nat.le_of_ble_eq_true rfl) rfl ?_
  refine r_al0 dX10_comes_0 ?_
  refine m_get dX10_comes_1 f_X10_7 hA rfl ?_
  refine r_iconst dX10_comes_4 ?_
  refine m_ald dX10_comes_5 hA (by decide) rfl (by first | omega | (simp only [mlen]; omega)) (by first | omega | (simp only [mlen]; omega)) ?_
  refine r_is5 dX10_comes_6 rfl ?_
  refine r_al0 dX10_comes_8 ?_
  refine m_get dX10_comes_9 f_X10_7 hA rfl ?_
  refine r_iconst dX10_comes_12 ?_
  refine r_dup2 dX10_comes_13 rfl rfl ?_
  refine m_ald dX10_comes_14 hA (by decide) rfl (by first | omega | (simp only [mlen]; omega)) (by first | omega | (simp only [mlen]; omega)) ?_
  refine r_iconst dX10_comes_15 ?_
  refine r_iadd dX10_comes_16 ?_
  refine m_ast dX10_comes_17 hA (by decide) rfl (by first | omega | (simp only [mlen]; omega)) (by first | omega | (simp only [mlen]; omega)) ?_
  refine r_al0 dX10_comes_18 ?_
  refine m_get dX10_comes_19 f_X10_7 hA rfl ?_
  refine r_il5 dX10_comes_22 ?_
  refine r_iconst dX10_comes_24 ?_
  refine r_callSP2 dX10_comes_25 s_X10_83 (c_creditAt κ _) (by decide) rfl ?_
  refine r_il1 dX10_comes_28 ?_
  refine m_ast dX10_comes_29 hA (by decide) rfl (by first | omega | (simp only [mlen]; omega)) (by first | omega | (simp only [mlen]; omega)) ?_
  refine r_al0 dX10_comes_30 ?_
  refine m_get dX10_comes_31 f_X10_7 hA rfl ?_
  refine r_il5 dX10_comes_34 ?_
  refine r_iconst dX10_comes_36 ?_
  refine r_callSP2 dX10_comes_37 s_X10_83 (c_creditAt κ _) (by decide) rfl ?_
  refine r_il2 dX10_comes_40 ?_
  refine m_ast dX10_comes_41 hA (by decide) rfl (by first | omega | (simp only [mlen]; omega)) (by first | omega | (simp only [mlen]; omega)) ?_
  refine r_al0 dX10_comes_42 ?_
  refine m_get dX10_comes_43 f_X10_7 hA rfl ?_
  refine r_il5 dX10_comes_46 ?_
  refine r_iconst dX10_comes_48 ?_
  refine r_callSP2 dX10_comes_49 s_X10_83 (c_creditAt κ _) (by decide) rfl ?_
  refine r_il3 dX10_comes_52 ?_
  refine m_ast dX10_comes_53 hA (by decide) rfl (by first | omega | (simp only [mlen]; omega)) (by first | omega | (simp only [mlen]; omega)) ?_
  refine r_al0 dX10_comes_54 ?_
  refine m_get dX10_comes_55 f_X10_7 hA rfl ?_
  refine r_il5 dX10_comes_58 ?_
  refine r_iconst dX10_comes_60 ?_
  refine r_callSP2 dX10_comes_61 s_X10_83 (c_creditAt κ _) (by decide) rfl ?_
  refine r_il4 dX10_comes_64 ?_
  refine m_ast dX10_comes_66 hA (by decide) rfl (by first | omega | (simp only [mlen]; omega)) (by first | omega | (simp only [mlen]; omega)) ?_
  refine r_il5 dX10_comes_67 ?_
  refine r_iret dX10_comes_69 (ty := .int) rfl rfl ⟨_, _, rfl, rfl, ?_⟩
  exact ⟨rfl, by rw [upd0 (M := M), setg_up, setg_up, setg_up, setg_up]; rfl⟩
theorem ggo_0 {g : Int → Int} {c : Int} : (fun i => if 4 + 4 * c + 0 ≤ i ∧ i < 4 + 4 * c + 0 then g (i + 4) else if i = 1 then g 1 - 1 else g i) = upz g 1 (g 1 - 1) := by
  funext i
  rw [if_neg (by omega)]
  unfold upz
  by_cases e : i = 1 <;> simp [e]
/-- on the way -/
def ggs (g : Int → Int) (c i : Int) : Int → Int := fun j => if 4 + 4 * c + 0 ≤ j ∧ j < i then g (j + 4) else if j = 1 then g 1 - 1 else g j
theorem ggs_1 {g : Int → Int} {c i : Int} (hc : 0 ≤ c) (hi : 4 + 4 * c + 0 ≤ i) : upz (ggs g c i) i (ggs g c i (i + 4)) = ggs g c (i + 1) := by
  funext j
  have l : ggs g c i (i + 4) = g (i + 4) := by
    unfold ggs
    rw [if_neg (by omega), if_neg (by omega)]
  rw [l]
  unfold upz ggs
  by_cases e : j = i
  · rw [if_pos e, if_pos (by omega), e]
  · rw [if_neg e]
    by_cases e2 : 4 + 4 * c + 0 ≤ j ∧ j < i
    · rw [if_pos e2, if_pos (by omega)]
    · rw [if_neg e2, if_neg (show ¬ (4 + 4 * c + 0 ≤ j ∧ j < i + 1) by omega)]
theorem ggs_n {g : Int → Int} {c i : Int} (hc : 0 ≤ c) : ggs g c i 1 = g 1 - 1 := by
  unfold ggs
  rw [if_neg (by omega), if_pos rfl]
set_option maxRecDepth 100000 in
set_option maxHeartbeats 4000000 in
theorem l_goes (κ : KP) {A : Nat → Nat} {M : MEM} (h : AH) (hA : MA A) (hR : RG M) {c : Int} (c0 : 0 ≤ c) (c1 : c < M 0 1) (n1 : M 0 1 ≤ 6) : ∀ (f : Nat) (i : Int), 4 + 4 * (M 0 1 - 1) + 0 - i < (f : Int) → (4 + 4 * c + 0 ≤ i) → (i ≤ 4 + 4 * (M 0 1 - 1) + 0) → WW κ mX10_goes 2 0 0 (fun v h' => ∃ M', v = none ∧ h' = mset A M' h ∧ (fun M' => M' = setg M (ggo (M 0) c)) M') NoX 16 [some (.ref (A 30)), some (.int (J c)), some (.int (J i))] [] (mset A (setg M (ggs (M 0) c i)) h) := by
  intro f
  induction f with
  | zero =>
    intro i hf i0 i1
    exact absurd hf (by omega)
  | succ f ih =>
    intro i hf i0 i1
    refine r_il2 dX10_goes_16 ?_
    refine r_al0 dX10_goes_17 ?_
    refine m_get dX10_goes_18 f_X10_7 hA rfl ?_
    refine r_iconst dX10_goes_21 ?_
    refine m_ald dX10_goes_22 hA (by decide) rfl (by first | omega | (simp only [mlen]; omega)) (by first | omega | (simp only [mlen]; omega)) ?_
    rw [setg_0, ggs_n c0]
    refine r_iconst dX10_goes_23 ?_
    refine r_callSP2 dX10_goes_24 s_X10_83 (c_creditAt κ _) (by decide) rfl ?_
    refine r_icmp_ge (tgt := 50) dX10_goes_27 (by decide) (by omega) (by omega) (fun c_27 => ?_) (fun c_27 => ?_)
    · refine r_ret dX10_goes_50 rfl ⟨_, rfl, rfl, ?_⟩
      rw [show i = 4 + 4 * (M 0 1 - 1) + 0 by omega]
      rfl
    · refine r_al0 dX10_goes_30 ?_
      refine m_get dX10_goes_31 f_X10_7 hA rfl ?_
      refine r_il2 dX10_goes_34 ?_
      refine r_al0 dX10_goes_35 ?_
      refine m_get dX10_goes_36 f_X10_7 hA rfl ?_
      refine r_il2 dX10_goes_39 ?_
      refine r_iconst dX10_goes_40 ?_
      refine r_iadd dX10_goes_41 ?_
      refine m_ald dX10_goes_42 hA (by decide) rfl (by first | omega | (simp only [mlen]; omega)) (by first | omega | (simp only [mlen]; omega)) ?_
      rw [setg_0]
      refine m_ast dX10_goes_43 hA (by decide) rfl (by first | omega | (simp only [mlen]; omega)) (by first | omega | (simp only [mlen]; omega)) ?_
      refine r_inc2 dX10_goes_44 rfl ?_
      refine r_goto (tgt := 16) dX10_goes_47 (by decide) ?_
      rw [setg_up, ggs_1 c0 i0]
      exact ih (i + 1) (by omega) (by omega) (by omega)
set_option maxRecDepth 100000 in
set_option maxHeartbeats 4000000 in
theorem c_goes (κ : KP) {A : Nat → Nat} {M : MEM} (hA : MA A) (hR : RG M) {c : Int} (c0 : 0 ≤ c) (c1 : c < M 0 1) (n1 : M 0 1 ≤ 6) : UM κ mX10_goes 2 A [.ref (A 30), .int (J c)] M (fun M' => M' = setg M (ggo (M 0) c)) := by
  intro h
  refine mm_of (L := [some _, some _, none]) (by decide +kernel) rfl rfl (Nat.le_of_ble_eq_true rfl) rfl ?_
  refine r_al0 dX10_goes_0 ?_
  refine m_get dX10_goes_1 f_X10_7 hA rfl ?_
  refine r_iconst dX10_goes_4 ?_
  refine r_dup2 dX10_goes_5 rfl rfl ?_
  refine m_ald dX10_goes_6 hA (by decide) rfl (by first | omega | (simp only [mlen]; omega)) (by first | omega | (simp only [mlen]; omega)) ?_
  refine r_iconst dX10_goes_7 ?_
  refine r_isub dX10_goes_8 ?_
  refine m_ast dX10_goes_9 hA (by decide) rfl (by first | omega | (simp only [mlen]; omega)) (by first | omega | (simp only [mlen]; omega)) ?_
  refine r_il1 dX10_goes_10 ?_
  refine r_iconst dX10_goes_11 ?_
  refine r_callSP2 dX10_goes_12 s_X10_83 (c_creditAt κ _) (by decide) rfl ?_
  refine r_is2 dX10_goes_15 rfl ?_
  rw [upd0]
  have e := l_goes κ h hA hR c0 c1 n1 100 (4 + 4 * c + 0) (by omega) (by omega) (by omega)
  rw [show ggs (M 0) c (4 + 4 * c + 0) = upz (M 0) 1 (M 0 1 - 1) from ggo_0] at e
  exact e
/-- a change of the desk: the one before is kept -/
def QNew (M : MEM) (g' : Int → Int) (M' : MEM) : Prop := ∃ M1, QCh (updm M 30 7 0) M1 ∧ M' = setg M1 g'
def XThr (M : MEM) (t : Int) (M' : MEM) : Prop := M' = updm M 30 7 t
def XRef (M : MEM) (t y : Int) (M' : MEM) : Prop := M' = updm (updm (updm M 30 7 0) 30 6 y) 30 7 t
set_option maxRecDepth 100000 in
set_option maxHeartbeats 4000000 in
theorem c_addCredit (κ : KP) {A : Nat → Nat} {M : MEM} (hA : MA A) (hR : RG M) (hW : WF (M 0)) (p0 : 0 ≤ M 30 5) (p1 : M 30 5 ≤ 8) {a b c e : Int} (ra : rng a) (rb : rng b) (rc : rng c) (re : rng e) : RM κ mX10_addCredit 4 A [.ref (A 30), .int (J a), .int (J b), .int (J c), .int (J e)] M (fun r M' => (¬ QMay (M 0) a b c e ∧ XThr M 1 M') ∨ (QMay (M 0) a b c e ∧ M 0 1 = 6 ∧ XRef M 2 1 M') ∨ (QMay (M 0) a b c e ∧ M 0 1 ≠ 6 ∧ r = M 0 1 ∧ QNew M (gcm (M 0) a b c e) M')) := by
  intro h
  refine mm_of (L := [some _, some _, some _, some _, some _]) (by decide +kernel) rfl rfl (Nat.le_of_ble_eq_true rfl) rfl ?_
  obtain ⟨⟨y0, y1⟩, ⟨n0, n1⟩, ⟨e0, e1⟩, ⟨m0, m1⟩⟩ := hW.n
  refine r_al0 dX10_addCredit_0 ?_
  refine r_al0 dX10_addCredit_1 ?_
  refine r_il1 dX10_addCredit_2 ?_
  refine r_il2 dX10_addCredit_3 ?_
  refine r_il3 dX10_addCredit_4 ?_
  refine r_il4 dX10_addCredit_5 ?_
  refine m_callP4 dX10_addCredit_7 v_X10_129 hA (c_mayBe κ _ hA hR (by omega) (by omega) (by omega) (by omega)) (by decide) rfl ?_
  refine r_ifT_eq (tgt := 17) dX10_addCredit_10 (by decide) (fun c_10 => ?_) (fun c_10 => ?_)
  · refine r_iconst dX10_addCredit_17 ?_
    refine m_put dX10_addCredit_18 f_X10_51 p_X10_51 (ff_14_7 _) hA mfp_7 rfl rfl ?_
    refine r_al0 dX10_addCredit_21 ?_
    refine m_get dX10_addCredit_22 f_X10_51 hA rfl ?_
    try simp only [updm_app, cpy_app, Int.reduceEq, Nat.reduceEqDiff, and_true, true_and, false_and, and_false, if_true, if_false, reduceIte]
    refine r_if_le (tgt := 30) dX10_addCredit_25 (by decide) (by first | omega | decide) (fun c_25 => ?_) (fun c_25 => ?_)
    · exact absurd c_25 (by decide)
    · refine r_iconst dX10_addCredit_28 ?_
      refine r_iret dX10_addCredit_29 (ty := .int) rfl rfl ⟨_, _, rfl, rfl, ?_⟩
      first | exact Or.inl ⟨by assumption, rfl⟩ | exact Or.inr (Or.inl ⟨by assumption, by omega, rfl⟩)
  · refine r_iconst dX10_addCredit_13 ?_
    refine r_goto (tgt := 18) dX10_addCredit_14 (by decide) ?_
    refine m_put dX10_addCredit_18 f_X10_51 p_X10_51 (ff_14_7 _) hA mfp_7 rfl rfl ?_
    refine r_al0 dX10_addCredit_21 ?_
    refine m_get dX10_addCredit_22 f_X10_51 hA rfl ?_
    try simp only [updm_app, cpy_app, Int.reduceEq, Nat.reduceEqDiff, and_true, true_and, false_and, and_false, if_true, if_false, reduceIte]
    refine r_if_le (tgt := 30) dX10_addCredit_25 (by decide) (by first | omega | decide) (fun c_25 => ?_) (fun c_25 => ?_)
    · refine r_al0 dX10_addCredit_30 ?_
      refine m_get dX10_addCredit_31 f_X10_7 hA rfl ?_
      refine r_iconst dX10_addCredit_34 ?_
      refine m_ald dX10_addCredit_35 hA (by decide) rfl (by first | omega | (simp only [mlen]; omega)) (by first | omega | (simp only [mlen]; omega)) ?_
      try simp only [updm_app, cpy_app, Int.reduceEq, Nat.reduceEqDiff, and_true, true_and, false_and, and_false, if_true, if_false, reduceIte]
      refine r_bipush dX10_addCredit_36 (by decide) ?_
      refine r_icmp_ne (tgt := 48) dX10_addCredit_38 (by decide) (by first | omega | decide) (by first | omega | decide) (fun c_38 => ?_) (fun c_38 => ?_)
      · refine r_al0 dX10_addCredit_48 ?_
        refine m_callU0 dX10_addCredit_49 v_X10_136 hA (c_changes κ hA (hR.up (by decide)) (by simp only [updm_app, Int.reduceEq, Nat.reduceEqDiff, and_false, if_false, reduceIte]; omega) (by simp only [updm_app, Int.reduceEq, Nat.reduceEqDiff, and_false, if_false, reduceIte]; omega)) (by decide) rfl (fun M_49 h_49 => ?_)
        have e0_49 : M_49 0 = M 0 := (h_49.at.2.1 0 (by decide) (by decide)).trans (updm_k (by decide))
        have hR_49 := h_49.at.1
        refine r_al0 dX10_addCredit_52 ?_
        refine r_il1 dX10_addCredit_53 ?_
        refine r_il2 dX10_addCredit_54 ?_
        refine r_il3 dX10_addCredit_55 ?_
        refine r_il4 dX10_addCredit_56 ?_
        refine m_callR4 dX10_addCredit_58 v_X10_139 hA (c_comes κ hA hR_49 (by rw [e0_49]; omega) (by rw [e0_49]; omega)) (by decide) rfl (fun r_58 M_58 h_58 => ?_)
        obtain ⟨rfl, rfl⟩ := h_58
        refine r_iret dX10_addCredit_61 (ty := .int) rfl rfl ⟨_, _, rfl, rfl, Or.inr (Or.inr ⟨by assumption, by omega, by rw [e0_49], M_49, h_49, by rw [e0_49]⟩)⟩
      · refine r_al0 dX10_addCredit_41 ?_
        refine r_iconst dX10_addCredit_42 ?_
        refine r_iconst dX10_addCredit_43 ?_
        refine m_callR2 dX10_addCredit_44 v_X10_133 hA (c_refuses κ hA (hR.up (by decide)) (by decide)) (by decide) rfl (fun r_44 M_44 h_44 => ?_)
        obtain ⟨rfl, rfl⟩ := h_44
        refine r_iret dX10_addCredit_47 (ty := .int) rfl rfl ⟨_, _, rfl, rfl, ?_⟩
        first | exact Or.inl ⟨by assumption, rfl⟩ | exact Or.inr (Or.inl ⟨by assumption, by omega, rfl⟩)
    · exact absurd c_25 (by decide)
set_option maxRecDepth 100000 in
set_option maxHeartbeats 4000000 in
theorem c_dropCredit (κ : KP) {A : Nat → Nat} {M : MEM} (hA : MA A) (hR : RG M) (hW : WF (M 0)) (p0 : 0 ≤ M 30 5) (p1 : M 30 5 ≤ 8) {c : Int} (rc : rng c) : RM κ mX10_dropCredit 4 A [.ref (A 30), .int (J c)] M (fun r M' => (¬ QIn c 0 (M 0 1 - 1) ∧ XThr M 1 M') ∨ (QIn c 0 (M 0 1 - 1) ∧ r = ggo (M 0) c 1 ∧ QNew M (ggo (M 0) c) M')) := by
  intro h
  refine mm_of (L := [some _, some _]) (by decide +kernel) rfl rfl (Nat.le_of_ble_eq_true rfl) rfl ?_
  obtain ⟨⟨y0, y1⟩, ⟨n0, n1⟩, ⟨e0, e1⟩, ⟨m0, m1⟩⟩ := hW.n
  refine r_al0 dX10_dropCredit_0 ?_
  refine r_al0 dX10_dropCredit_1 ?_
  refine r_il1 dX10_dropCredit_2 ?_
  refine m_callP1 dX10_dropCredit_3 v_X10_143 hA (c_isCredit κ _ hA hR (by omega) (by omega) (by omega)) (by decide) rfl ?_
  refine r_ifT_eq (tgt := 13) dX10_dropCredit_6 (by decide) (fun c_6 => ?_) (fun c_6 => ?_)
  · refine r_iconst dX10_dropCredit_13 ?_
    refine m_put dX10_dropCredit_14 f_X10_51 p_X10_51 (ff_14_7 _) hA mfp_7 rfl rfl ?_
    refine r_al0 dX10_dropCredit_17 ?_
    refine m_get dX10_dropCredit_18 f_X10_51 hA rfl ?_
    try simp only [updm_app, cpy_app, Int.reduceEq, Nat.reduceEqDiff, and_true, true_and, false_and, and_false, if_true, if_false, reduceIte]
    refine r_if_le (tgt := 26) dX10_dropCredit_21 (by decide) (by first | omega | decide) (fun c_21 => ?_) (fun c_21 => ?_)
    · exact absurd c_21 (by decide)
    · refine r_iconst dX10_dropCredit_24 ?_
      refine r_iret dX10_dropCredit_25 (ty := .int) rfl rfl ⟨_, _, rfl, rfl, ?_⟩
      exact Or.inl ⟨by assumption, rfl⟩
  · refine r_iconst dX10_dropCredit_9 ?_
    refine r_goto (tgt := 14) dX10_dropCredit_10 (by decide) ?_
    refine m_put dX10_dropCredit_14 f_X10_51 p_X10_51 (ff_14_7 _) hA mfp_7 rfl rfl ?_
    refine r_al0 dX10_dropCredit_17 ?_
    refine m_get dX10_dropCredit_18 f_X10_51 hA rfl ?_
    try simp only [updm_app, cpy_app, Int.reduceEq, Nat.reduceEqDiff, and_true, true_and, false_and, and_false, if_true, if_false, reduceIte]
    refine r_if_le (tgt := 26) dX10_dropCredit_21 (by decide) (by first | omega | decide) (fun c_21 => ?_) (fun c_21 => ?_)
    · refine r_al0 dX10_dropCredit_26 ?_
      refine m_callU0 dX10_dropCredit_27 v_X10_136 hA (c_changes κ hA (hR.up (by decide)) (by simp only [updm_app, Int.reduceEq, Nat.reduceEqDiff, and_false, if_false, reduceIte]; omega) (by simp only [updm_app, Int.reduceEq, Nat.reduceEqDiff, and_false, if_false, reduceIte]; omega)) (by decide) rfl (fun M_27 h_27 => ?_)
      have e0_27 : M_27 0 = M 0 := (h_27.at.2.1 0 (by decide) (by decide)).trans (updm_k (by decide))
      have hR_27 := h_27.at.1
      refine r_al0 dX10_dropCredit_30 ?_
      refine r_il1 dX10_dropCredit_31 ?_
      refine m_callU1 dX10_dropCredit_32 v_X10_146 hA (c_goes κ hA hR_27 (c := c) (by unfold QIn at *; omega) (by rw [e0_27]; unfold QIn at *; omega) (by rw [e0_27]; omega)) (by decide) rfl (fun M_32 h_32 => ?_)
      obtain rfl := h_32
      refine r_al0 dX10_dropCredit_35 ?_
      refine m_get dX10_dropCredit_36 f_X10_7 hA rfl ?_
      refine r_iconst dX10_dropCredit_39 ?_
      refine m_ald dX10_dropCredit_40 hA (by decide) rfl (by first | omega | (simp only [mlen]; omega)) (by first | omega | (simp only [mlen]; omega)) ?_
      try simp only [updm_app, cpy_app, Int.reduceEq, Nat.reduceEqDiff, and_true, true_and, false_and, and_false, if_true, if_false, reduceIte]
      refine r_iret dX10_dropCredit_41 (ty := .int) rfl rfl ⟨_, _, rfl, rfl, Or.inr ⟨by assumption, by rw [setg_0, e0_27], M_27, h_27, by rw [e0_27]⟩⟩
    · exact absurd c_21 (by decide)
set_option maxRecDepth 100000 in
set_option maxHeartbeats 4000000 in
theorem c_pass (κ : KP) {A : Nat → Nat} {M : MEM} (hA : MA A) (hR : RG M) (hW : WF (M 0)) (p0 : 0 ≤ M 30 5) (p1 : M 30 5 ≤ 8) {c : Int} (rc : rng c) : RM κ mX10_pass 4 A [.ref (A 30), .int (J c)] M (fun r M' => (¬ (0 ≤ c ∧ c ≤ 60 - M 0 0) ∧ XThr M 1 M') ∨ ((0 ≤ c ∧ c ≤ 60 - M 0 0) ∧ r = M 0 0 + c ∧ QNew M (upz (M 0) 0 (M 0 0 + c)) M')) := by
  intro h
  refine mm_of (L := [some _, some _]) (by decide +kernel) rfl rfl (Nat.le_of_ble_eq_true rfl) rfl ?_
  obtain ⟨⟨y0, y1⟩, ⟨n0, n1⟩, ⟨e0, e1⟩, ⟨m0, m1⟩⟩ := hW.n
  refine r_al0 dX10_pass_0 ?_
  refine r_il1 dX10_pass_1 ?_
  refine r_if_lt (tgt := 18) dX10_pass_2 (by decide) (by first | omega | decide) (fun c_2 => ?_) (fun c_2 => ?_)
  · refine r_iconst dX10_pass_18 ?_
    refine r_goto (tgt := 23) dX10_pass_19 (by decide) ?_
    refine m_put dX10_pass_23 f_X10_51 p_X10_51 (ff_14_7 _) hA mfp_7 rfl rfl ?_
    refine r_al0 dX10_pass_26 ?_
    refine m_get dX10_pass_27 f_X10_51 hA rfl ?_
    try simp only [updm_app, cpy_app, Int.reduceEq, Nat.reduceEqDiff, and_true, true_and, false_and, and_false, if_true, if_false, reduceIte]
    refine r_if_le (tgt := 35) dX10_pass_30 (by decide) (by first | omega | decide) (fun c_30 => ?_) (fun c_30 => ?_)
    · exact absurd c_30 (by decide)
    · refine r_iconst dX10_pass_33 ?_
      refine r_iret dX10_pass_34 (ty := .int) rfl rfl ⟨_, _, rfl, rfl, ?_⟩
      exact Or.inl ⟨by omega, rfl⟩
  · refine r_il1 dX10_pass_5 ?_
    refine r_bipush dX10_pass_6 (by decide) ?_
    refine r_al0 dX10_pass_8 ?_
    refine m_get dX10_pass_9 f_X10_7 hA rfl ?_
    refine r_iconst dX10_pass_12 ?_
    refine m_ald dX10_pass_13 hA (by decide) rfl (by first | omega | (simp only [mlen]; omega)) (by first | omega | (simp only [mlen]; omega)) ?_
    refine r_isub dX10_pass_14 ?_
    refine r_icmp_le (tgt := 22) dX10_pass_15 (by decide) (by first | omega | decide) (by first | omega | decide) (fun c_15 => ?_) (fun c_15 => ?_)
    · refine r_iconst dX10_pass_22 ?_
      refine m_put dX10_pass_23 f_X10_51 p_X10_51 (ff_14_7 _) hA mfp_7 rfl rfl ?_
      refine r_al0 dX10_pass_26 ?_
      refine m_get dX10_pass_27 f_X10_51 hA rfl ?_
      try simp only [updm_app, cpy_app, Int.reduceEq, Nat.reduceEqDiff, and_true, true_and, false_and, and_false, if_true, if_false, reduceIte]
      refine r_if_le (tgt := 35) dX10_pass_30 (by decide) (by first | omega | decide) (fun c_30 => ?_) (fun c_30 => ?_)
      · refine r_al0 dX10_pass_35 ?_
        refine m_callU0 dX10_pass_36 v_X10_136 hA (c_changes κ hA (hR.up (by decide)) (by simp only [updm_app, Int.reduceEq, Nat.reduceEqDiff, and_false, if_false, reduceIte]; omega) (by simp only [updm_app, Int.reduceEq, Nat.reduceEqDiff, and_false, if_false, reduceIte]; omega)) (by decide) rfl (fun M_36 h_36 => ?_)
        have e0_36 : M_36 0 = M 0 := (h_36.at.2.1 0 (by decide) (by decide)).trans (updm_k (by decide))
        have hR_36 := h_36.at.1
        refine r_al0 dX10_pass_39 ?_
        refine m_get dX10_pass_40 f_X10_7 hA rfl ?_
        refine r_iconst dX10_pass_43 ?_
        refine r_dup2 dX10_pass_44 rfl rfl ?_
        refine m_ald dX10_pass_45 hA (by decide) rfl (by first | omega | (simp only [mlen]; omega)) (by first | omega | (simp only [mlen]; omega)) ?_
        try simp only [updm_app, cpy_app, Int.reduceEq, Nat.reduceEqDiff, and_true, true_and, false_and, and_false, if_true, if_false, reduceIte]
        refine r_il1 dX10_pass_46 ?_
        refine r_iadd dX10_pass_47 ?_
        refine m_ast dX10_pass_48 hA (by decide) rfl (by first | omega | (simp only [mlen]; omega)) (by first | omega | (simp only [mlen]; omega)) ?_
        refine r_al0 dX10_pass_49 ?_
        refine m_get dX10_pass_50 f_X10_7 hA rfl ?_
        refine r_iconst dX10_pass_53 ?_
        refine m_ald dX10_pass_54 hA (by decide) rfl (by first | omega | (simp only [mlen]; omega)) (by first | omega | (simp only [mlen]; omega)) ?_
        try simp only [updm_app, cpy_app, Int.reduceEq, Nat.reduceEqDiff, and_true, true_and, false_and, and_false, if_true, if_false, reduceIte]
        refine r_iret dX10_pass_55 (ty := .int) rfl rfl ⟨_, _, rfl, rfl, Or.inr ⟨by omega, ?_, M_36, h_36, ?_⟩⟩
        · first | (rw [e0_36]) | (rw [updm_at, e0_36])
        · rw [upd0, e0_36]
      · exact absurd c_30 (by decide)
    · refine r_iconst dX10_pass_18 ?_
      refine r_goto (tgt := 23) dX10_pass_19 (by decide) ?_
      refine m_put dX10_pass_23 f_X10_51 p_X10_51 (ff_14_7 _) hA mfp_7 rfl rfl ?_
      refine r_al0 dX10_pass_26 ?_
      refine m_get dX10_pass_27 f_X10_51 hA rfl ?_
      try simp only [updm_app, cpy_app, Int.reduceEq, Nat.reduceEqDiff, and_true, true_and, false_and, and_false, if_true, if_false, reduceIte]
      refine r_if_le (tgt := 35) dX10_pass_30 (by decide) (by first | omega | decide) (fun c_30 => ?_) (fun c_30 => ?_)
      · exact absurd c_30 (by decide)
      · refine r_iconst dX10_pass_33 ?_
        refine r_iret dX10_pass_34 (ty := .int) rfl rfl ⟨_, _, rfl, rfl, ?_⟩
        exact Or.inl ⟨by omega, rfl⟩
set_option maxRecDepth 100000 in
set_option maxHeartbeats 4000000 in
theorem c_code (κ : KP) {A : Nat → Nat} {M : MEM} (hA : MA A) (hR : RG M) (hW : WF (M 0)) (p0 : 0 ≤ M 30 5) (p1 : M 30 5 ≤ 8) {c : Int} (rc : rng c) : RM κ mX10_code 4 A [.ref (A 30), .int (J c)] M (fun r M' => (¬ QIn c 0 (M 0 1 - 1) ∧ XThr M 1 M') ∨ (QIn c 0 (M 0 1 - 1) ∧ r = M 0 (4 + 4 * c + 0) ∧ XThr M 0 M')) := by
  intro h
  refine mm_of (L := [some _, some _]) (by decide +kernel) rfl rfl (Nat.le_of_ble_eq_true rfl) rfl ?_
  obtain ⟨⟨y0, y1⟩, ⟨n0, n1⟩, ⟨e0, e1⟩, ⟨m0, m1⟩⟩ := hW.n
  refine r_al0 dX10_code_0 ?_
  refine r_al0 dX10_code_1 ?_
  refine r_il1 dX10_code_2 ?_
  refine m_callP1 dX10_code_3 v_X10_143 hA (c_isCredit κ _ hA hR (by omega) (by omega) (by omega)) (by decide) rfl ?_
  refine r_ifT_eq (tgt := 13) dX10_code_6 (by decide) (fun c_6 => ?_) (fun c_6 => ?_)
  · refine r_iconst dX10_code_13 ?_
    refine m_put dX10_code_14 f_X10_51 p_X10_51 (ff_14_7 _) hA mfp_7 rfl rfl ?_
    refine r_al0 dX10_code_17 ?_
    refine m_get dX10_code_18 f_X10_51 hA rfl ?_
    try simp only [updm_app, cpy_app, Int.reduceEq, Nat.reduceEqDiff, and_true, true_and, false_and, and_false, if_true, if_false, reduceIte]
    refine r_if_le (tgt := 29) dX10_code_21 (by decide) (by first | omega | decide) (fun c_21 => ?_) (fun c_21 => ?_)
    · exact absurd c_21 (by decide)
    · refine r_bipush dX10_code_24 (by decide) ?_
      refine r_goto (tgt := 39) dX10_code_26 (by decide) ?_
      refine r_i2cJ dX10_code_39 (by first | omega | (have hc := hW.c (c := c) (by unfold QIn at *; omega) (by unfold QIn at *; omega); unfold WFc QLow QCap at hc; omega)) ?_
      first
        | (refine r_iret dX10_code_40 (ty := .char) rfl (nar_C (by omega) (by omega)).1 ⟨_, _, rfl, rfl, ?_⟩; exact Or.inl ⟨by assumption, rfl⟩)
        | (have hc := hW.c (c := c) (by unfold QIn at *; omega) (by unfold QIn at *; omega); unfold WFc QLow QCap at hc; refine r_iret dX10_code_40 (ty := .char) rfl (nar_C (by omega) (by omega)).1 ⟨_, _, rfl, rfl, ?_⟩; exact Or.inr ⟨by assumption, rfl, rfl⟩)
  · refine r_iconst dX10_code_9 ?_
    refine r_goto (tgt := 14) dX10_code_10 (by decide) ?_
    refine m_put dX10_code_14 f_X10_51 p_X10_51 (ff_14_7 _) hA mfp_7 rfl rfl ?_
    refine r_al0 dX10_code_17 ?_
    refine m_get dX10_code_18 f_X10_51 hA rfl ?_
    try simp only [updm_app, cpy_app, Int.reduceEq, Nat.reduceEqDiff, and_true, true_and, false_and, and_false, if_true, if_false, reduceIte]
    refine r_if_le (tgt := 29) dX10_code_21 (by decide) (by first | omega | decide) (fun c_21 => ?_) (fun c_21 => ?_)
    · refine r_al0 dX10_code_29 ?_
      refine m_get dX10_code_30 f_X10_7 hA rfl ?_
      refine r_il1 dX10_code_33 ?_
      refine r_iconst dX10_code_34 ?_
      refine r_callSP2 dX10_code_35 s_X10_83 (c_creditAt κ _) (by decide) rfl ?_
      refine m_ald dX10_code_38 hA (by decide) rfl (by first | (unfold QIn at *; omega) | (simp only [mlen]; unfold QIn at *; omega)) (by first | (unfold QIn at *; omega) | (simp only [mlen]; unfold QIn at *; omega)) ?_
      try simp only [updm_app, cpy_app, Int.reduceEq, Nat.reduceEqDiff, and_true, true_and, false_and, and_false, if_true, if_false, reduceIte]
      refine r_i2cJ dX10_code_39 (by first | omega | (have hc := hW.c (c := c) (by unfold QIn at *; omega) (by unfold QIn at *; omega); unfold WFc QLow QCap at hc; omega)) ?_
      first
        | (refine r_iret dX10_code_40 (ty := .char) rfl (nar_C (by omega) (by omega)).1 ⟨_, _, rfl, rfl, ?_⟩; exact Or.inl ⟨by assumption, rfl⟩)
        | (have hc := hW.c (c := c) (by unfold QIn at *; omega) (by unfold QIn at *; omega); unfold WFc QLow QCap at hc; refine r_iret dX10_code_40 (ty := .char) rfl (nar_C (by omega) (by omega)).1 ⟨_, _, rfl, rfl, ?_⟩; exact Or.inr ⟨by assumption, rfl, rfl⟩)
    · exact absurd c_21 (by decide)
