/-! ===== append; one answer each ===== -/
set_option maxRecDepth 100000 in
set_option maxHeartbeats 4000000 in
theorem x_append (κ : KP) {B : Nat → Nat} {S : CST} (h : AH) (hB : BA B) (l0 : 0 ≤ S 1 1 ∧ S 1 1 ≤ 50) {c : Int} (c0 : 0 ≤ c) (c1 : c < 65536) : MM κ mX9_append 6 1 6 [.ref (B 0), .int (J c)] (cset B S h) (fun v h' => v = none ∧ S 1 1 ≠ 50 ∧ h' = cset B (updm (updm S 6 (S 1 1) c) 1 1 (S 1 1 + 1)) h) (fun E' h' => E' = EIS ∧ S 1 1 = 50 ∧ h' = cset B S h) := by
  refine mm_of (L := [some _, some _]) (by decide +kernel) rfl rfl (Nat.le_of_ble_eq_true rfl) rfl ?_
  refine r_al0 dX9_append_0 ?_
  refine b_get dX9_append_1 f_X9_10 hB (by decide) (k9 := 0) rfl rfl ?_
  refine r_callVP0 dX9_append_4 v_X9_209 (cs_obj hB (k9 := 1) (by decide) rfl) (t_full κ h hB l0) (by decide) rfl ?_
  refine r_ifT_eq (tgt := 18) dX9_append_7 (by decide) (fun c_7 => ?_) (fun c_7 => ?_)
  · refine r_al0 dX9_append_18 ?_
    refine b_get dX9_append_19 f_X9_10 hB (by decide) (k9 := 0) rfl rfl ?_
    refine r_il1 dX9_append_22 ?_
    refine r_callV (As := [.int (J c)]) dX9_append_23 v_X9_212 (cs_obj hB (k9 := 1) (by decide) rfl) (t_put κ h hB l0.1 (by omega) c0 c1) (by decide) rfl rfl (cat_le rfl) (Nat.zero_le _) (Nat.zero_le _) (fun v h9 hq9 => ?_) (fun _ _ hx => hx.elim)
    obtain ⟨rfl, rfl⟩ := hq9
    exact r_ret dX9_append_26 rfl ⟨rfl, c_7, rfl⟩
  · exact r_throw rfl (by decide) th_X9_append_10 (by decide) (by decide) (by decide) ⟨rfl, c_7, rfl⟩
/-- a question has one answer -/
def UQ (R : Int → Int → Prop) : Prop := ∀ t r t' r', R t r → R t' r' → t = t' ∧ (t = 0 → r = r')
theorem uq_code {g : Int → Int} {c : Int} : UQ (R_code g c) := by
  rintro t r t' r' (⟨a, b⟩ | ⟨a, b, e⟩) (⟨a', b'⟩ | ⟨a', b', e'⟩) <;> unfold QIn at * <;> omega
theorem uq_equiv {g : Int → Int} {c k : Int} : UQ (R_equiv g c k) := by
  rintro t r t' r' (⟨a, b⟩ | ⟨a, d, b⟩ | ⟨a, d, b, e⟩) (⟨a', b'⟩ | ⟨a', d', b'⟩ | ⟨a', d', b', e'⟩) <;> unfold QIn at * <;> omega
theorem uq_expires {g : Int → Int} {c b : Int} : UQ (R_expires g c b) := by
  rintro t r t' r' (⟨a, b⟩ | ⟨a, d, b⟩ | ⟨a, d, b, e⟩) (⟨a', b'⟩ | ⟨a', d', b'⟩ | ⟨a', d', b', e'⟩) 
  all_goals first | exact ⟨b.trans b'.symm, fun _ => e.trans e'.symm⟩ | exact ⟨b.trans b'.symm, fun z => by omega⟩ | exact absurd a' a | exact absurd a a' | exact absurd d' d | exact absurd d d'
theorem uq_letter {g : Int → Int} {c b : Int} : UQ (R_letter g c b) := by
  rintro t r t' r' (⟨a, b⟩ | ⟨a, d, b⟩ | ⟨a, d, b, e⟩) (⟨a', b'⟩ | ⟨a', d', b'⟩ | ⟨a', d', b', e'⟩) <;> unfold QIn at * <;> omega
theorem uq_accepts {g : Int → Int} {c b : Int} : UQ (R_accepts g c b) := by
  rintro t r t' r' (⟨a, b⟩ | ⟨a, b, e⟩) (⟨a', b'⟩ | ⟨a', b', e'⟩)
  · exact ⟨b.trans b'.symm, fun z => by omega⟩
  · exact absurd a' a
  · exact absurd a a'
  · exact ⟨b.trans b'.symm, fun _ => e.trans e'.symm⟩
theorem uq_isMet {g : Int → Int} (hW : WF g) {b : Int} : UQ (R_isMet g b) := by
  rintro t r t' r' (⟨a, b⟩ | ⟨a, b, u, hu, e⟩) (⟨a', b'⟩ | ⟨a', b', v, hv, e'⟩)
  · exact ⟨b.trans b'.symm, fun z => by omega⟩
  · exact absurd a' a
  · exact absurd a a'
  · have hE := FM.uniq hW hu hv
    exact ⟨b.trans b'.symm, fun _ => by rw [e, e']; exact bP_cong (qmet_cong hE _)⟩
theorem uq_points {g : Int → Int} (hW : WF g) {b : Int} : UQ (R_points g b) := by
  rintro t r t' r' (⟨a, b⟩ | ⟨a, b, u, hu, e⟩) (⟨a', b'⟩ | ⟨a', b', v, hv, e'⟩)
  · exact ⟨b.trans b'.symm, fun z => by omega⟩
  · exact absurd a' a
  · exact absurd a a'
  · have hE := FM.uniq hW hu hv
    refine ⟨b.trans b'.symm, fun _ => ?_⟩
    rw [e, e']
    exact sz_cong fun k _ _ => by unfold qpts; rw [qgets_cong hE]
theorem uq_complete {g : Int → Int} (hW : WF g) : UQ (R_isComplete g) := by
  rintro t r t' r' ⟨b, u, hu, e⟩ ⟨b', v, hv, e'⟩
  have hE := FM.uniq hW hu hv
  exact ⟨b.trans b'.symm, fun _ => by rw [e, e', qroots_cong hE]⟩
theorem uq_rw {g : Int → Int} {a b c e : Int} (hW : QMay g a b c e → g 1 ≠ 6 → WF (gcm g a b c e)) : UQ (R_rw g a b c e) := by
  rintro t r t' r' (⟨a, b⟩ | ⟨a, d, b⟩ | ⟨a, d, b, e⟩) (⟨a', b'⟩ | ⟨a', d', b'⟩ | ⟨a', d', b', e'⟩)
  all_goals first | exact ⟨b.trans b'.symm, fun _ => e.uniq (hW a d) e'⟩ | exact ⟨b.trans b'.symm, fun z => by omega⟩ | exact absurd a' a | exact absurd a a' | exact absurd d' d | exact absurd d d'
theorem uq_credit {g : Int → Int} (hW : WF g) {c x : Int} : UQ (R_credit g c x) := by
  rintro t r t' r' (⟨a, b⟩ | ⟨a, d, b⟩ | ⟨a, b, e⟩) (⟨a', b'⟩ | ⟨a', d', b'⟩ | ⟨a', b', e'⟩)
  · exact ⟨b.trans b'.symm, fun z => by omega⟩
  · exact absurd a' a
  · exact absurd a' a
  · exact absurd a a'
  · exact ⟨b.trans b'.symm, fun z => by omega⟩
  · refine absurd ?_ d
    unfold QIn
    rcases e' with ⟨x0, x1, -⟩ | ⟨x0, -⟩ | ⟨x0, -⟩ <;> omega
  · exact absurd a a'
  · refine absurd ?_ d'
    unfold QIn
    rcases e with ⟨x0, x1, -⟩ | ⟨x0, -⟩ | ⟨x0, -⟩ <;> omega
  · refine ⟨b.trans b'.symm, fun _ => ?_⟩
    rcases e with ⟨x0, x1, y⟩ | ⟨x0, u, hu, y⟩ | ⟨x0, y⟩ <;> rcases e' with ⟨z0, z1, y'⟩ | ⟨z0, v, hv, y'⟩ | ⟨z0, y'⟩
    · rw [y, y']
    · omega
    · omega
    · omega
    · rw [y, y']
      unfold QIn at a
      exact FM.uniq hW hu hv c a.1 (by omega)
    · omega
    · omega
    · omega
    · rw [y, y']
