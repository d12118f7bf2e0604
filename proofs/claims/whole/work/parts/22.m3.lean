/-! ===== the model: copies, changes ===== -/
/-- n places of the array kf from at on go to the array kt from on on -/
def cpy (M : MEM) (kf : Nat) (at' : Int) (kt : Nat) (on n : Int) : MEM := fun k i => if k = kt ∧ on ≤ i ∧ i < on + n then M kf (at' + (i - on)) else M k i
theorem cpy_app {M : MEM} {kf kt k : Nat} {at' on n i : Int} : cpy M kf at' kt on n k i = if k = kt ∧ on ≤ i ∧ i < on + n then M kf (at' + (i - on)) else M k i := rfl
theorem updm_app {M : MEM} {k k' : Nat} {i i' v : Int} : updm M k i v k' i' = if k' = k ∧ i' = i then v else M k' i' := rfl
theorem cpy_0 {M : MEM} {kf kt : Nat} {at' on : Int} : cpy M kf at' kt on 0 = M := by
  funext k i
  unfold cpy
  rw [if_neg (by omega)]
theorem cpy_kf {M : MEM} {kf kt k : Nat} {at' on n : Int} (h : k ≠ kt) : cpy M kf at' kt on n k = M k := by
  funext i
  unfold cpy
  rw [if_neg (fun e => h e.1)]
theorem cpy_in {M : MEM} {kf kt : Nat} {at' on n i : Int} (h : on ≤ i ∧ i < on + n) : cpy M kf at' kt on n kt i = M kf (at' + (i - on)) := if_pos ⟨rfl, h⟩
theorem cpy_out {M : MEM} {kf kt : Nat} {at' on n i : Int} (h : ¬ (on ≤ i ∧ i < on + n)) : cpy M kf at' kt on n kt i = M kt i := if_neg (fun e => h e.2)
theorem cpy_1 {M : MEM} {kf kt : Nat} {at' on n : Int} (hk : kf ≠ kt) (hn : 0 ≤ n) : updm (cpy M kf at' kt on n) kt (on + n) (cpy M kf at' kt on n kf (at' + n)) = cpy M kf at' kt on (n + 1) := by
  funext k i
  rw [cpy_kf hk]
  unfold updm cpy
  by_cases e : k = kt
  · by_cases e2 : i = on + n
    · rw [if_pos ⟨e, e2⟩, if_pos ⟨e, by omega⟩, e2, show on + n - on = n by omega]
    · rw [if_neg (fun z => e2 z.2)]
      by_cases e3 : on ≤ i ∧ i < on + n
      · rw [if_pos ⟨e, e3⟩, if_pos ⟨e, by omega⟩]
      · rw [if_neg (fun z => e3 z.2), if_neg (by omega)]
  · rw [if_neg (fun z => e z.1), if_neg (fun z => e z.1), if_neg (fun z => e z.1)]
theorem RG_cpy {M : MEM} {kf kt : Nat} {at' on n : Int} (h : RG M) : RG (cpy M kf at' kt on n) := by
  intro k i
  unfold cpy
  split
  · exact h _ _
  · exact h _ _
/-- all but these arrays and numbers stays -/
def SB (ks : List Nat) (fs : List Int) (M M' : MEM) : Prop := (∀ k, k ∉ ks → k ≠ 30 → M' k = M k) ∧ ∀ f, f ∉ fs → M' 30 f = M 30 f
theorem SB.rf {ks : List Nat} {fs : List Int} {M : MEM} : SB ks fs M M := ⟨fun _ _ _ => rfl, fun _ _ => rfl⟩
theorem SB.trans {ks1 ks2 : List Nat} {fs1 fs2 : List Int} {M M' M'' : MEM} (h1 : SB ks1 fs1 M M') (h2 : SB ks2 fs2 M' M'') : SB (ks1 ++ ks2) (fs1 ++ fs2) M M'' :=
  ⟨fun k hk h3 => (h2.1 k (fun z => hk (List.mem_append_right _ z)) h3).trans (h1.1 k (fun z => hk (List.mem_append_left _ z)) h3), fun f hf => (h2.2 f (fun z => hf (List.mem_append_right _ z))).trans (h1.2 f (fun z => hf (List.mem_append_left _ z)))⟩
theorem SB.mono {ks1 ks2 : List Nat} {fs1 fs2 : List Int} {M M' : MEM} (h : SB ks1 fs1 M M') (hk : ∀ k ∈ ks1, k ∈ ks2) (hf : ∀ f ∈ fs1, f ∈ fs2) : SB ks2 fs2 M M' := ⟨fun k h1 h2 => h.1 k (fun z => h1 (hk k z)) h2, fun f h1 => h.2 f (fun z => h1 (hf f z))⟩
theorem SB.upA {ks : List Nat} {fs : List Int} {M M' : MEM} {k : Nat} {i v : Int} (h : SB ks fs M M') (hk : k ∈ ks) (h3 : k ≠ 30) : SB ks fs M (updm M' k i v) :=
  ⟨fun j hj hj3 => (updm_k (fun e => hj (by rw [e]; exact hk))).trans (h.1 j hj hj3), fun f hf => (updm_ne (fun e => h3 e.1.symm)).trans (h.2 f hf)⟩
theorem SB.upF {ks : List Nat} {fs : List Int} {M M' : MEM} {f v : Int} (h : SB ks fs M M') (hf : f ∈ fs) : SB ks fs M (updm M' 30 f v) :=
  ⟨fun j hj hj3 => (updm_k hj3).trans (h.1 j hj hj3), fun f' hf' => (updm_ne (fun e => hf' (by rw [e.2]; exact hf))).trans (h.2 f' hf')⟩
theorem SB.cp {ks : List Nat} {fs : List Int} {M M' : MEM} {kf kt : Nat} {at' on n : Int} (h : SB ks fs M M') (hk : kt ∈ ks) (h3 : kt ≠ 30) : SB ks fs M (cpy M' kf at' kt on n) :=
  ⟨fun j hj hj3 => (cpy_kf (fun e => hj (by rw [e]; exact hk))).trans (h.1 j hj hj3), fun f hf => (by rw [cpy_kf (Ne.symm h3)]; exact h.2 f hf)⟩
theorem SB_cpy {M : MEM} {kf kt : Nat} {at' on n : Int} (h3 : kt ≠ 30) : SB [kt] [] M (cpy M kf at' kt on n) :=
  ⟨fun k hk _ => cpy_kf (fun e => hk (by rw [e]; exact List.mem_cons_self)), fun f _ => by rw [cpy_kf (Ne.symm h3)]⟩
def QSeg (a b : Int → Int) (p : Int) : Prop := ∀ i : Int, 0 ≤ i → i < 156 → a i = b (156 * p + i)
set_option maxRecDepth 100000 in
set_option maxHeartbeats 4000000 in
theorem l_copies (κ : KP) {A : Nat → Nat} {M : MEM} (h : AH) (hA : MA A) {kf kt : Nat} (hkf : kf ∈ mids ∧ kf ≠ 30) (hkt : kt ∈ mids ∧ kt ≠ 30) (tf : mty kf = .int) (tt : mty kt = .int) (hne : kf ≠ kt) {a o : Int} (a0 : 0 ≤ a) (a1 : a + 156 ≤ mlen kf) (o0 : 0 ≤ o) (o1 : o + 156 ≤ mlen kt) (l1 : (mlen kf : Int) < 100000) (l2 : (mlen kt : Int) < 100000) : ∀ (f : Nat) (i : Int), 156 - i < (f : Int) → (0 ≤ i) → (i ≤ 156) → WW κ mX10_copies 1 0 0 (fun v h' => v = none ∧ h' = mset A (cpy M kf a kt o 156) h) NoX 3 [some (.ref (A kf)), some (.int (J a)), some (.ref (A kt)), some (.int (J o)), some (.int (J i))] [] (mset A (cpy M kf a kt o i) h) := by
  intro f
  induction f with
  | zero =>
    intro i hf i0 i1
    exact absurd hf (by omega)
  | succ f ih =>
    intro i hf i0 i1
    refine r_il4 dX10_copies_3 ?_
    refine r_sipush dX10_copies_5 (by decide) ?_
    refine r_icmp_ge (tgt := 29) dX10_copies_8 (by decide) (by omega) (by omega) (fun c_8 => ?_) (fun c_8 => ?_)
    · refine r_ret dX10_copies_29 rfl ⟨rfl, ?_⟩
      rw [show i = 156 by omega]
    · refine r_al2 dX10_copies_11 ?_
      refine r_il3 dX10_copies_12 ?_
      refine r_il4 dX10_copies_13 ?_
      refine r_iadd dX10_copies_15 ?_
      refine r_al0 dX10_copies_16 ?_
      refine r_il1 dX10_copies_17 ?_
      refine r_il4 dX10_copies_18 ?_
      refine r_iadd dX10_copies_20 ?_
      refine m_ald dX10_copies_21 hA hkf tf (by omega) (by omega) ?_
      refine m_ast dX10_copies_22 hA hkt tt (by omega) (by omega) ?_
      refine r_inc4 dX10_copies_23 rfl ?_
      refine r_goto (tgt := 3) dX10_copies_26 (by decide) ?_
      rw [cpy_1 hne i0]
      exact ih (i + 1) (by omega) (by omega) (by omega)
set_option maxRecDepth 100000 in
set_option maxHeartbeats 4000000 in
theorem c_copies (κ : KP) {A : Nat → Nat} {M : MEM} (h : AH) (hA : MA A) {kf kt : Nat} (hkf : kf ∈ mids ∧ kf ≠ 30) (hkt : kt ∈ mids ∧ kt ≠ 30) (tf : mty kf = .int) (tt : mty kt = .int) (hne : kf ≠ kt) {a o : Int} (a0 : 0 ≤ a) (a1 : a + 156 ≤ mlen kf) (o0 : 0 ≤ o) (o1 : o + 156 ≤ mlen kt) (l1 : (mlen kf : Int) < 100000) (l2 : (mlen kt : Int) < 100000) : MM κ mX10_copies 1 0 0 [.ref (A kf), .int (J a), .ref (A kt), .int (J o)] (mset A M h) (fun v h' => v = none ∧ h' = mset A (cpy M kf a kt o 156) h) NoX := by
  refine mm_of (L := [some _, some _, some _, some _, none]) (by decide +kernel) rfl rfl (Nat.le_of_ble_eq_true rfl) rfl ?_
  refine r_iconst dX10_copies_0 ?_
  refine r_is4 dX10_copies_1 rfl ?_
  have e := l_copies κ (M := M) h hA hkf hkt tf tt hne a0 a1 o0 o1 l1 l2 157 0 (by omega) (by omega) (by omega)
  rw [cpy_0] at e
  exact e
section COPYR
variable {κ : KP} {mi : MI} {d k n : Nat} {Q : Option Value → AH → Prop} {E : String → AH → Prop} {pc : Nat} {L : List (Option Value)} {A : Nat → Nat} {M : MEM} {h : AH} {idx : Nat} {rest : List Value}
theorem m_copies (kf kt : Nat) {a o : Int} (hd : decode mi.2.1 pc = .ok (.invokestatic idx, 3)) (hv : CS mi.1.cls idx mX10_copies 4) (hA : MA A) (hkf : kf ∈ mids ∧ kf ≠ 30) (hkt : kt ∈ mids ∧ kt ≠ 30) (tf : mty kf = .int) (tt : mty kt = .int) (hne : kf ≠ kt) (a0 : 0 ≤ a) (a1 : a + 156 ≤ mlen kf) (o0 : 0 ≤ o) (o1 : o + 156 ≤ mlen kt) (l1 : (mlen kf : Int) < 100000) (l2 : (mlen kt : Int) < 100000) (hd' : 2 ≤ d) (hcat : (catS rest).ble 8 = true) (kk : WW κ mi d k n Q E (pc + 3) L rest (mset A (cpy M kf a kt o 156) h)) : WW κ mi d k n Q E pc L (.int (J o) :: .ref (A kt) :: .int (J a) :: .ref (A kf) :: rest) (mset A M h) :=
  r_callS (As := [.ref (A kf), .int (J a), .ref (A kt), .int (J o)]) hd hv (c_copies κ h hA hkf hkt tf tt hne a0 a1 o0 o1 l1 l2) hd' rfl rfl (cat_le hcat) (Nat.zero_le _) (Nat.zero_le _) (fun v h' hq => by obtain ⟨rfl, rfl⟩ := hq; exact kk) (fun _ _ hx => hx.elim)
end COPYR
set_option maxRecDepth 100000 in
set_option maxHeartbeats 4000000 in
theorem c_fails (κ : KP) {A : Nat → Nat} {M : MEM} (hA : MA A) (hR : RG M) {c : Int} : RM κ mX10_fails 1 A [.ref (A 30), .int (J c)] M (fun r M' => r = 0 ∧ M' = updm M 30 7 c) := by
  intro h
  refine mm_of (L := [some _, some _]) (by decide +kernel) rfl rfl (Nat.le_of_ble_eq_true rfl) rfl ?_
  refine r_al0 dX10_fails_0 ?_
  refine r_il1 dX10_fails_1 ?_
  refine m_put dX10_fails_2 f_X10_51 p_X10_51 (ff_14_7 _) hA mfp_7 rfl rfl ?_
  refine r_iconst dX10_fails_5 ?_
  refine r_iret dX10_fails_6 (ty := .int) rfl rfl ⟨_, _, rfl, rfl, ?_⟩
  exact ⟨rfl, rfl⟩
set_option maxRecDepth 100000 in
set_option maxHeartbeats 4000000 in
theorem c_refuses (κ : KP) {A : Nat → Nat} {M : MEM} (hA : MA A) (hR : RG M) {c y : Int} (ry : rng y) : RM κ mX10_refuses 2 A [.ref (A 30), .int (J c), .int (J y)] M (fun r M' => r = 0 ∧ M' = updm (updm M 30 6 y) 30 7 c) := by
  intro h
  refine mm_of (L := [some _, some _, some _]) (by decide +kernel) rfl rfl (Nat.le_of_ble_eq_true rfl) rfl ?_
  refine r_al0 dX10_refuses_0 ?_
  refine r_il2 dX10_refuses_1 ?_
  refine m_put dX10_refuses_2 f_X10_54 p_X10_54 (ff_14_6 _) hA mfp_6 rfl rfl ?_
  refine r_al0 dX10_refuses_5 ?_
  refine r_il1 dX10_refuses_6 ?_
  refine m_callR1 dX10_refuses_7 v_X10_57 hA (c_fails κ hA (hR.up ry)) (by decide) rfl (fun r_7 M_7 h_7 => ?_)
  obtain ⟨rfl, rfl⟩ := h_7
  refine r_iret dX10_refuses_10 (ty := .int) rfl rfl ⟨_, _, rfl, rfl, ?_⟩
  exact ⟨rfl, rfl⟩
/-- shifting the kept desks by one -/
def shf (M : MEM) (n : Int) : MEM := fun k i => if k = 4 ∧ 0 ≤ i ∧ i < n then M 4 (i + 156) else M k i
theorem shf_app {M : MEM} {n i : Int} {k : Nat} : shf M n k i = if k = 4 ∧ 0 ≤ i ∧ i < n then M 4 (i + 156) else M k i := rfl
theorem shf_0 {M : MEM} : shf M 0 = M := by
  funext k i
  unfold shf
  rw [if_neg (by omega)]
theorem shf_1 {M : MEM} {n : Int} (hn : 0 ≤ n) : updm (shf M n) 4 n (M 4 (n + 156)) = shf M (n + 1) := by
  funext k i
  unfold updm shf
  by_cases e : k = 4
  · by_cases e2 : i = n
    · rw [if_pos ⟨e, e2⟩, if_pos ⟨e, by omega⟩, e2]
    · rw [if_neg (fun z => e2 z.2)]
      by_cases e3 : 0 ≤ i ∧ i < n
      · rw [if_pos ⟨e, e3⟩, if_pos ⟨e, by omega⟩]
      · rw [if_neg (fun z => e3 z.2), if_neg (by omega)]
  · rw [if_neg (fun z => e z.1), if_neg (fun z => e z.1), if_neg (fun z => e z.1)]
theorem RG_shf {M : MEM} {n : Int} (h : RG M) : RG (shf M n) := by
  intro k i
  unfold shf
  split
  · exact h _ _
  · exact h _ _
theorem shf_k {M : MEM} {n : Int} {k : Nat} (h : k ≠ 4) : shf M n k = M k := by
  funext i
  unfold shf
  rw [if_neg (fun e => h e.1)]
theorem SB.sh {ks : List Nat} {fs : List Int} {M M' : MEM} {n : Int} (h : SB ks fs M M') (hk : 4 ∈ ks) : SB ks fs M (shf M' n) :=
  ⟨fun j hj hj3 => (shf_k (fun e => hj (by rw [e]; exact hk))).trans (h.1 j hj hj3), fun f hf => (by rw [shf_k (by decide)]; exact h.2 f hf)⟩
def QCh (M M' : MEM) : Prop := RG M' ∧ SB [4] [5, 8] M M' ∧ M' 30 8 = 0 ∧ ∃ p : Int, 0 ≤ p ∧ p ≤ 7 ∧ M' 30 5 = p + 1 ∧ (∀ i : Int, 0 ≤ i → i < 156 → M' 4 (156 * p + i) = M 0 i) ∧ ((M 30 5 < 8 ∧ p = M 30 5 ∧ ∀ j : Int, 0 ≤ j → j < 156 * p → M' 4 j = M 4 j) ∨ (M 30 5 = 8 ∧ p = 7 ∧ ∀ j : Int, 0 ≤ j → j < 1092 → M' 4 j = M 4 (j + 156)))
set_option maxRecDepth 100000 in
set_option maxHeartbeats 4000000 in
theorem l_changes2 (κ : KP) {A : Nat → Nat} {M : MEM} (h : AH) (hA : MA A) (hR : RG M) {M1 : MEM} {p : Int} (h1 : RG M1) (hs : SB [4] [5, 8] M M1) (h8 : M1 30 8 = 0) (hp : M1 30 5 = p) (p0 : 0 ≤ p) (p1 : p ≤ 7) (hc : (M 30 5 < 8 ∧ p = M 30 5 ∧ ∀ j : Int, 0 ≤ j → j < 156 * p → M1 4 j = M 4 j) ∨ (M 30 5 = 8 ∧ p = 7 ∧ ∀ j : Int, 0 ≤ j → j < 1092 → M1 4 j = M 4 (j + 156))) (L : List (Option Value)) : WW κ mX10_changes 2 0 0 (fun v h' => ∃ M', v = none ∧ h' = mset A M' h ∧ (QCh M) M') NoX 55 (some (.ref (A 30)) :: L) [] (mset A M1 h) := by
  refine r_al0 dX10_changes_55 ?_
  refine m_get dX10_changes_56 f_X10_7 hA rfl ?_
  refine r_iconst dX10_changes_59 ?_
  refine r_al0 dX10_changes_60 ?_
  refine m_get dX10_changes_61 f_X10_19 hA rfl ?_
  refine r_sipush dX10_changes_64 (by decide) ?_
  refine r_al0 dX10_changes_67 ?_
  refine m_get dX10_changes_68 f_X10_73 hA rfl ?_
  rw [hp]
  refine r_imul dX10_changes_71 ?_
  refine m_copies 0 4 dX10_changes_72 s_X10_76 hA (by decide) (by decide) rfl rfl (by decide) (by omega) (by simp only [mlen]; omega) (by omega) (by simp only [mlen]; omega) (by simp only [mlen]; omega) (by simp only [mlen]; omega) (by decide) rfl ?_
  refine r_al0 dX10_changes_75 ?_
  refine r_dup dX10_changes_76 rfl ?_
  refine m_get dX10_changes_77 f_X10_73 hA rfl ?_
  try simp only [updm_app, cpy_app, Int.reduceEq, Nat.reduceEqDiff, and_true, true_and, false_and, and_false, if_true, if_false, reduceIte]
  first | rw [cpy_kf (by decide), hp] | rw [hp]
  refine r_iconst dX10_changes_80 ?_
  refine r_iadd dX10_changes_81 ?_
  refine m_put dX10_changes_82 f_X10_73 p_X10_73 (ff_14_5 _) hA mfp_5 rfl rfl ?_
  refine r_ret dX10_changes_85 rfl ⟨_, rfl, rfl, ?_⟩
  have hr5 := hR 30 5
  refine ⟨?_, ?_, ?_, p, p0, p1, ?_, ?_, ?_⟩
  · exact RG.up (RG_cpy h1) (by omega)
  · exact SB.upF (SB.cp hs (by decide) (by decide)) (by decide)
  · rw [updm_ne (by decide), cpy_kf (by decide), h8]
  · rw [updm_at]
  · intro i i0 i1
    rw [updm_k (by decide), cpy_in (by omega), hs.1 0 (by decide) (by decide)]
    congr 1
    omega
  · rcases hc with ⟨q1, q2, q3⟩ | ⟨q1, q2, q3⟩
    · refine Or.inl ⟨q1, q2, fun j j0 j1 => ?_⟩
      rw [updm_k (by decide), cpy_out (by omega)]
      exact q3 j j0 j1
    · refine Or.inr ⟨q1, q2, fun j j0 j1 => ?_⟩
      rw [updm_k (by decide), cpy_out (by omega)]
      exact q3 j j0 j1
set_option maxRecDepth 100000 in
set_option maxHeartbeats 4000000 in
theorem l_changes (κ : KP) {A : Nat → Nat} {M : MEM} (h : AH) (hA : MA A) (hR : RG M) (hq : M 30 5 = 8) : ∀ (f : Nat) (i : Int), 1092 - i < (f : Int) → (0 ≤ i) → (i ≤ 1092) → WW κ mX10_changes 2 0 0 (fun v h' => ∃ M', v = none ∧ h' = mset A M' h ∧ (QCh M) M') NoX 16 [some (.ref (A 30)), some (.int (J i))] [] (mset A (shf (updm M 30 8 0) i) h) := by
  intro f
  induction f with
  | zero =>
    intro i hf i0 i1
    exact absurd hf (by omega)
  | succ f ih =>
    intro i hf i0 i1
    refine r_il1 dX10_changes_16 ?_
    refine r_sipush dX10_changes_17 (by decide) ?_
    refine r_icmp_ge (tgt := 45) dX10_changes_20 (by decide) (by omega) (by omega) (fun c_20 => ?_) (fun c_20 => ?_)
    · refine r_al0 dX10_changes_45 ?_
      refine r_dup dX10_changes_46 rfl ?_
      refine m_get dX10_changes_47 f_X10_73 hA rfl ?_
      refine r_iconst dX10_changes_50 ?_
      refine r_isub dX10_changes_51 ?_
      simp only [shf_app, updm_app, Int.reduceEq, Nat.reduceEqDiff, and_true, true_and, false_and, and_false, if_true, if_false, reduceIte, hq]
      rw [show i = 1092 by omega]
      refine m_put dX10_changes_52 f_X10_73 p_X10_73 (ff_14_5 _) hA mfp_5 rfl rfl ?_
      refine l_changes2 κ h hA hR (p := 7) (RG.up (RG_shf (hR.up (by decide))) (by decide)) (SB.upF (SB.sh (SB.upF SB.rf (by decide)) (by decide)) (by decide)) ?_ ?_ (by decide) (by decide) (Or.inr ⟨hq, rfl, fun j j0 j1 => ?_⟩) _
      · rw [updm_ne (by decide), shf_k (by decide), updm_at]
      · rw [updm_at]; rfl
      · rw [updm_k (by decide), shf_app, if_pos ⟨rfl, j0, j1⟩, updm_k (by decide)]
    · refine r_al0 dX10_changes_23 ?_
      refine m_get dX10_changes_24 f_X10_19 hA rfl ?_
      refine r_il1 dX10_changes_27 ?_
      refine r_al0 dX10_changes_28 ?_
      refine m_get dX10_changes_29 f_X10_19 hA rfl ?_
      refine r_il1 dX10_changes_32 ?_
      refine r_sipush dX10_changes_33 (by decide) ?_
      refine r_iadd dX10_changes_36 ?_
      refine m_ald dX10_changes_37 hA (by decide) rfl (by first | omega | (simp only [mlen]; omega)) (by first | omega | (simp only [mlen]; omega)) ?_
      rw [shf_app, if_neg (by omega)]
      refine m_ast dX10_changes_38 hA (by decide) rfl (by first | omega | (simp only [mlen]; omega)) (by first | omega | (simp only [mlen]; omega)) ?_
      refine r_inc1 dX10_changes_39 rfl ?_
      refine r_goto (tgt := 16) dX10_changes_42 (by decide) ?_
      rw [shf_1 i0]
      exact ih (i + 1) (by omega) (by omega) (by omega)
set_option maxRecDepth 100000 in
set_option maxHeartbeats 4000000 in
theorem c_changes (κ : KP) {A : Nat → Nat} {M : MEM} (hA : MA A) (hR : RG M) (p0 : 0 ≤ M 30 5) (p1 : M 30 5 ≤ 8) : UM κ mX10_changes 2 A [.ref (A 30)] M (QCh M) := by
  intro h
  refine mm_of (L := [some _, none]) (by decide +kernel) rfl rfl (Nat.le_of_ble_eq_true rfl) rfl ?_
  refine r_al0 dX10_changes_0 ?_
  refine r_iconst dX10_changes_1 ?_
  refine m_putZ dX10_changes_2 f_X10_69 p_X10_69 (ff_14_8 _) hA mfp_8 (by omega) rfl rfl ?_
  refine r_al0 dX10_changes_5 ?_
  refine m_get dX10_changes_6 f_X10_73 hA rfl ?_
  try simp only [updm_app, cpy_app, Int.reduceEq, Nat.reduceEqDiff, and_true, true_and, false_and, and_false, if_true, if_false, reduceIte]
  refine r_bipush dX10_changes_9 (by decide) ?_
  refine r_icmp_ne (tgt := 55) dX10_changes_11 (by decide) (by omega) (by omega) (fun c_11 => ?_) (fun c_11 => ?_)
  · refine l_changes2 κ h hA hR (p := M 30 5) (hR.up (by decide)) (SB.upF SB.rf (by decide)) ?_ ?_ p0 (by omega) (Or.inl ⟨by omega, rfl, fun j j0 j1 => ?_⟩) _
    · rw [updm_at]
    · rw [updm_ne (by decide)]
    · rw [updm_k (by decide)]
  · refine r_iconst dX10_changes_14 ?_
    refine r_is1 dX10_changes_15 rfl ?_
    have e := l_changes κ h hA hR c_11 1093 0 (by omega) (by omega) (by omega)
    rw [shf_0] at e
    exact e
def QUndo (M : MEM) (r : Int) (M' : MEM) : Prop := (M 30 5 = 0 ∧ r = 0 ∧ M' = updm M 30 7 1) ∨ (0 < M 30 5 ∧ r = M 30 5 - 1 ∧ RG M' ∧ SB [0] [5, 7, 8] M M' ∧ M' 30 7 = 0 ∧ M' 30 5 = M 30 5 - 1 ∧ M' 30 8 = 0 ∧ ∀ i : Int, 0 ≤ i → i < 156 → M' 0 i = M 4 (156 * (M 30 5 - 1) + i))
def QRest (M M' : MEM) : Prop := (M 30 3 = 0 ∧ M' = updm M 30 7 1) ∨ (M 30 3 = 1 ∧ RG M' ∧ SB [0] [5, 7, 8] M M' ∧ M' 30 7 = 0 ∧ M' 30 5 = 0 ∧ M' 30 8 = 0 ∧ ∀ i : Int, 0 ≤ i → i < 156 → M' 0 i = M 1 i)
def QSave (M M' : MEM) : Prop := RG M' ∧ SB [1] [3, 7] M M' ∧ M' 30 7 = 0 ∧ M' 30 3 = 1 ∧ ∀ i : Int, 0 ≤ i → i < 156 → M' 1 i = M 0 i
set_option maxRecDepth 100000 in
set_option maxHeartbeats 4000000 in
theorem c_undo (κ : KP) {A : Nat → Nat} {M : MEM} (hA : MA A) (hR : RG M) (p0 : 0 ≤ M 30 5) (p1 : M 30 5 ≤ 8) : RM κ mX10_undo 2 A [.ref (A 30)] M (QUndo M) := by
  intro h
  refine mm_of (L := [some _]) (by decide +kernel) rfl rfl (Nat.le_of_ble_eq_true rfl) rfl ?_
  refine r_al0 dX10_undo_0 ?_
  refine r_al0 dX10_undo_1 ?_
  refine m_get dX10_undo_2 f_X10_73 hA rfl ?_
  refine r_if_ne (tgt := 12) dX10_undo_5 (by decide) (by omega) (fun c_5 => ?_) (fun c_5 => ?_)
  · refine r_iconst dX10_undo_12 ?_
    refine m_put dX10_undo_13 f_X10_51 p_X10_51 (ff_14_7 _) hA mfp_7 rfl rfl ?_
    refine r_al0 dX10_undo_16 ?_
    refine m_get dX10_undo_17 f_X10_51 hA rfl ?_
    try simp only [updm_app, cpy_app, Int.reduceEq, Nat.reduceEqDiff, and_true, true_and, false_and, and_false, if_true, if_false, reduceIte]
    refine r_if_le (tgt := 25) dX10_undo_20 (by decide) (by omega) (fun c_20 => ?_) (fun c_20 => ?_)
    · refine r_al0 dX10_undo_25 ?_
      refine r_dup dX10_undo_26 rfl ?_
      refine m_get dX10_undo_27 f_X10_73 hA rfl ?_
      try simp only [updm_app, cpy_app, Int.reduceEq, Nat.reduceEqDiff, and_true, true_and, false_and, and_false, if_true, if_false, reduceIte]
      refine r_iconst dX10_undo_30 ?_
      refine r_isub dX10_undo_31 ?_
      refine m_put dX10_undo_32 f_X10_73 p_X10_73 (ff_14_5 _) hA mfp_5 rfl rfl ?_
      refine r_al0 dX10_undo_35 ?_
      refine m_get dX10_undo_36 f_X10_19 hA rfl ?_
      refine r_sipush dX10_undo_39 (by decide) ?_
      refine r_al0 dX10_undo_42 ?_
      refine m_get dX10_undo_43 f_X10_73 hA rfl ?_
      try simp only [updm_app, cpy_app, Int.reduceEq, Nat.reduceEqDiff, and_true, true_and, false_and, and_false, if_true, if_false, reduceIte]
      refine r_imul dX10_undo_46 ?_
      refine r_al0 dX10_undo_47 ?_
      refine m_get dX10_undo_48 f_X10_7 hA rfl ?_
      refine r_iconst dX10_undo_51 ?_
      refine m_copies 4 0 dX10_undo_52 s_X10_76 hA (by decide) (by decide) rfl rfl (by decide) (by omega) (by simp only [mlen]; omega) (by omega) (by simp only [mlen]; omega) (by simp only [mlen]; omega) (by simp only [mlen]; omega) (by decide) rfl ?_
      refine r_al0 dX10_undo_55 ?_
      refine r_iconst dX10_undo_56 ?_
      refine m_putZ dX10_undo_57 f_X10_69 p_X10_69 (ff_14_8 _) hA mfp_8 (by omega) rfl rfl ?_
      refine r_al0 dX10_undo_60 ?_
      refine m_get dX10_undo_61 f_X10_73 hA rfl ?_
      try simp only [updm_app, cpy_app, Int.reduceEq, Nat.reduceEqDiff, and_true, true_and, false_and, and_false, if_true, if_false, reduceIte]
      first
        | (exfalso; omega)
        | (refine r_iret dX10_undo_64 (ty := .int) rfl rfl ⟨_, _, rfl, rfl, Or.inr ⟨by omega, by omega, ?_, ?_, ?_, ?_, ?_, ?_⟩⟩
           · repeat (first | exact hR | assumption | refine RG.up ?_ (by first | decide | omega | exact hR _ _) | refine RG_cpy ?_)
           · repeat (first | exact SB.rf | refine SB.upF ?_ (by decide) | refine SB.cp ?_ (by decide) (by decide) | refine SB.upA ?_ (by decide) (by decide))
           · simp only [updm_app, cpy_app, Int.reduceEq, Nat.reduceEqDiff, and_true, true_and, false_and, and_false, if_true, if_false, reduceIte]
           · simp only [updm_app, cpy_app, Int.reduceEq, Nat.reduceEqDiff, and_true, true_and, false_and, and_false, if_true, if_false, reduceIte]
           · simp only [updm_app, cpy_app, Int.reduceEq, Nat.reduceEqDiff, and_true, true_and, false_and, and_false, if_true, if_false, reduceIte]
           · intro i i0 i1
             rw [updm_k (by decide), cpy_in (by omega)]
             simp only [updm_app, cpy_app, Int.reduceEq, Nat.reduceEqDiff, and_true, true_and, false_and, and_false, if_true, if_false, reduceIte]
             first | done | (congr 1; omega))
    · exact absurd c_20 (by decide)
  · refine r_iconst dX10_undo_8 ?_
    refine r_goto (tgt := 13) dX10_undo_9 (by decide) ?_
    refine m_put dX10_undo_13 f_X10_51 p_X10_51 (ff_14_7 _) hA mfp_7 rfl rfl ?_
    refine r_al0 dX10_undo_16 ?_
    refine m_get dX10_undo_17 f_X10_51 hA rfl ?_
    try simp only [updm_app, cpy_app, Int.reduceEq, Nat.reduceEqDiff, and_true, true_and, false_and, and_false, if_true, if_false, reduceIte]
    refine r_if_le (tgt := 25) dX10_undo_20 (by decide) (by omega) (fun c_20 => ?_) (fun c_20 => ?_)
    · exact absurd c_20 (by decide)
    · refine r_iconst dX10_undo_23 ?_
      first | (exfalso; omega) | exact r_iret dX10_undo_24 (ty := .int) rfl rfl ⟨_, _, rfl, rfl, Or.inl ⟨by omega, rfl, rfl⟩⟩
set_option maxRecDepth 100000 in
set_option maxHeartbeats 4000000 in
theorem c_save (κ : KP) {A : Nat → Nat} {M : MEM} (hA : MA A) (hR : RG M)  : UM κ mX10_save 2 A [.ref (A 30)] M (QSave M) := by
  intro h
  refine mm_of (L := [some _]) (by decide +kernel) rfl rfl (Nat.le_of_ble_eq_true rfl) rfl ?_
  refine r_al0 dX10_save_0 ?_
  refine r_iconst dX10_save_1 ?_
  refine m_put dX10_save_2 f_X10_51 p_X10_51 (ff_14_7 _) hA mfp_7 rfl rfl ?_
  refine r_al0 dX10_save_5 ?_
  refine r_iconst dX10_save_6 ?_
  refine m_putZ dX10_save_7 f_X10_80 p_X10_80 (ff_14_3 _) hA mfp_3 (by omega) rfl rfl ?_
  refine r_al0 dX10_save_10 ?_
  refine m_get dX10_save_11 f_X10_7 hA rfl ?_
  refine r_iconst dX10_save_14 ?_
  refine r_al0 dX10_save_15 ?_
  refine m_get dX10_save_16 f_X10_13 hA rfl ?_
  refine r_iconst dX10_save_19 ?_
  refine m_copies 0 1 dX10_save_20 s_X10_76 hA (by decide) (by decide) rfl rfl (by decide) (by omega) (by simp only [mlen]; omega) (by omega) (by simp only [mlen]; omega) (by simp only [mlen]; omega) (by simp only [mlen]; omega) (by decide) rfl ?_
  refine r_ret dX10_save_23 rfl ⟨_, rfl, rfl, ?_, ?_, ?_, ?_, ?_⟩
  · repeat (first | exact hR | assumption | refine RG.up ?_ (by first | decide | omega | exact hR _ _) | refine RG_cpy ?_)
  · repeat (first | exact SB.rf | refine SB.upF ?_ (by decide) | refine SB.cp ?_ (by decide) (by decide) | refine SB.upA ?_ (by decide) (by decide))
  · simp only [updm_app, cpy_app, Int.reduceEq, Nat.reduceEqDiff, and_true, true_and, false_and, and_false, if_true, if_false, reduceIte]
  · simp only [updm_app, cpy_app, Int.reduceEq, Nat.reduceEqDiff, and_true, true_and, false_and, and_false, if_true, if_false, reduceIte]
  · intro i i0 i1
    rw [cpy_in (by omega)]
    simp only [updm_app, cpy_app, Int.reduceEq, Nat.reduceEqDiff, and_true, true_and, false_and, and_false, if_true, if_false, reduceIte]
    first | done | (congr 1; omega)
set_option maxRecDepth 100000 in
set_option maxHeartbeats 4000000 in
theorem c_restore (κ : KP) {A : Nat → Nat} {M : MEM} (hA : MA A) (hR : RG M) (p0 : 0 ≤ M 30 3) (p1 : M 30 3 ≤ 1) : UM κ mX10_restore 2 A [.ref (A 30)] M (QRest M) := by
  intro h
  refine mm_of (L := [some _]) (by decide +kernel) rfl rfl (Nat.le_of_ble_eq_true rfl) rfl ?_
  refine r_al0 dX10_restore_0 ?_
  refine r_al0 dX10_restore_1 ?_
  refine m_get dX10_restore_2 f_X10_80 hA rfl ?_
  refine r_if_eq (tgt := 12) dX10_restore_5 (by decide) (by omega) (fun c_5 => ?_) (fun c_5 => ?_)
  · refine r_iconst dX10_restore_12 ?_
    refine m_put dX10_restore_13 f_X10_51 p_X10_51 (ff_14_7 _) hA mfp_7 rfl rfl ?_
    refine r_al0 dX10_restore_16 ?_
    refine m_get dX10_restore_17 f_X10_80 hA rfl ?_
    try simp only [updm_app, cpy_app, Int.reduceEq, Nat.reduceEqDiff, and_true, true_and, false_and, and_false, if_true, if_false, reduceIte]
    refine r_if_eq (tgt := 46) dX10_restore_20 (by decide) (by omega) (fun c_20 => ?_) (fun c_20 => ?_)
    · first
        | (exfalso; omega)
        | exact r_ret dX10_restore_46 rfl ⟨_, rfl, rfl, Or.inl ⟨by omega, rfl⟩⟩
        | (refine r_ret dX10_restore_46 rfl ⟨_, rfl, rfl, Or.inr ⟨by omega, ?_, ?_, ?_, ?_, ?_, ?_⟩⟩
           · repeat (first | exact hR | assumption | refine RG.up ?_ (by first | decide | omega | exact hR _ _) | refine RG_cpy ?_)
           · repeat (first | exact SB.rf | refine SB.upF ?_ (by decide) | refine SB.cp ?_ (by decide) (by decide) | refine SB.upA ?_ (by decide) (by decide))
           · simp only [updm_app, cpy_app, Int.reduceEq, Nat.reduceEqDiff, and_true, true_and, false_and, and_false, if_true, if_false, reduceIte]
           · simp only [updm_app, cpy_app, Int.reduceEq, Nat.reduceEqDiff, and_true, true_and, false_and, and_false, if_true, if_false, reduceIte]
           · simp only [updm_app, cpy_app, Int.reduceEq, Nat.reduceEqDiff, and_true, true_and, false_and, and_false, if_true, if_false, reduceIte]
           · intro i i0 i1
             rw [updm_k (by decide), updm_k (by decide), cpy_in (by omega)]
             simp only [updm_app, cpy_app, Int.reduceEq, Nat.reduceEqDiff, and_true, true_and, false_and, and_false, if_true, if_false, reduceIte]
             first | done | (congr 1; omega))
    · refine r_al0 dX10_restore_23 ?_
      refine m_get dX10_restore_24 f_X10_13 hA rfl ?_
      refine r_iconst dX10_restore_27 ?_
      refine r_al0 dX10_restore_28 ?_
      refine m_get dX10_restore_29 f_X10_7 hA rfl ?_
      refine r_iconst dX10_restore_32 ?_
      refine m_copies 1 0 dX10_restore_33 s_X10_76 hA (by decide) (by decide) rfl rfl (by decide) (by omega) (by simp only [mlen]; omega) (by omega) (by simp only [mlen]; omega) (by simp only [mlen]; omega) (by simp only [mlen]; omega) (by decide) rfl ?_
      refine r_al0 dX10_restore_36 ?_
      refine r_iconst dX10_restore_37 ?_
      refine m_put dX10_restore_38 f_X10_73 p_X10_73 (ff_14_5 _) hA mfp_5 rfl rfl ?_
      refine r_al0 dX10_restore_41 ?_
      refine r_iconst dX10_restore_42 ?_
      refine m_putZ dX10_restore_43 f_X10_69 p_X10_69 (ff_14_8 _) hA mfp_8 (by omega) rfl rfl ?_
      first
        | (exfalso; omega)
        | exact r_ret dX10_restore_46 rfl ⟨_, rfl, rfl, Or.inl ⟨by omega, rfl⟩⟩
        | (refine r_ret dX10_restore_46 rfl ⟨_, rfl, rfl, Or.inr ⟨by omega, ?_, ?_, ?_, ?_, ?_, ?_⟩⟩
           · repeat (first | exact hR | assumption | refine RG.up ?_ (by first | decide | omega | exact hR _ _) | refine RG_cpy ?_)
           · repeat (first | exact SB.rf | refine SB.upF ?_ (by decide) | refine SB.cp ?_ (by decide) (by decide) | refine SB.upA ?_ (by decide) (by decide))
           · simp only [updm_app, cpy_app, Int.reduceEq, Nat.reduceEqDiff, and_true, true_and, false_and, and_false, if_true, if_false, reduceIte]
           · simp only [updm_app, cpy_app, Int.reduceEq, Nat.reduceEqDiff, and_true, true_and, false_and, and_false, if_true, if_false, reduceIte]
           · simp only [updm_app, cpy_app, Int.reduceEq, Nat.reduceEqDiff, and_true, true_and, false_and, and_false, if_true, if_false, reduceIte]
           · intro i i0 i1
             rw [updm_k (by decide), updm_k (by decide), cpy_in (by omega)]
             simp only [updm_app, cpy_app, Int.reduceEq, Nat.reduceEqDiff, and_true, true_and, false_and, and_false, if_true, if_false, reduceIte]
             first | done | (congr 1; omega))
  · refine r_iconst dX10_restore_8 ?_
    refine r_goto (tgt := 13) dX10_restore_9 (by decide) ?_
    refine m_put dX10_restore_13 f_X10_51 p_X10_51 (ff_14_7 _) hA mfp_7 rfl rfl ?_
    refine r_al0 dX10_restore_16 ?_
    refine m_get dX10_restore_17 f_X10_80 hA rfl ?_
    try simp only [updm_app, cpy_app, Int.reduceEq, Nat.reduceEqDiff, and_true, true_and, false_and, and_false, if_true, if_false, reduceIte]
    refine r_if_eq (tgt := 46) dX10_restore_20 (by decide) (by omega) (fun c_20 => ?_) (fun c_20 => ?_)
    · first
        | (exfalso; omega)
        | exact r_ret dX10_restore_46 rfl ⟨_, rfl, rfl, Or.inl ⟨by omega, rfl⟩⟩
        | (refine r_ret dX10_restore_46 rfl ⟨_, rfl, rfl, Or.inr ⟨by omega, ?_, ?_, ?_, ?_, ?_, ?_⟩⟩
           · repeat (first | exact hR | assumption | refine RG.up ?_ (by first | decide | omega | exact hR _ _) | refine RG_cpy ?_)
           · repeat (first | exact SB.rf | refine SB.upF ?_ (by decide) | refine SB.cp ?_ (by decide) (by decide) | refine SB.upA ?_ (by decide) (by decide))
           · simp only [updm_app, cpy_app, Int.reduceEq, Nat.reduceEqDiff, and_true, true_and, false_and, and_false, if_true, if_false, reduceIte]
           · simp only [updm_app, cpy_app, Int.reduceEq, Nat.reduceEqDiff, and_true, true_and, false_and, and_false, if_true, if_false, reduceIte]
           · simp only [updm_app, cpy_app, Int.reduceEq, Nat.reduceEqDiff, and_true, true_and, false_and, and_false, if_true, if_false, reduceIte]
           · intro i i0 i1
             rw [updm_k (by decide), updm_k (by decide), cpy_in (by omega)]
             simp only [updm_app, cpy_app, Int.reduceEq, Nat.reduceEqDiff, and_true, true_and, false_and, and_false, if_true, if_false, reduceIte]
             first | done | (congr 1; omega))
    · refine r_al0 dX10_restore_23 ?_
      refine m_get dX10_restore_24 f_X10_13 hA rfl ?_
      refine r_iconst dX10_restore_27 ?_
      refine r_al0 dX10_restore_28 ?_
      refine m_get dX10_restore_29 f_X10_7 hA rfl ?_
      refine r_iconst dX10_restore_32 ?_
      refine m_copies 1 0 dX10_restore_33 s_X10_76 hA (by decide) (by decide) rfl rfl (by decide) (by omega) (by simp only [mlen]; omega) (by omega) (by simp only [mlen]; omega) (by simp only [mlen]; omega) (by simp only [mlen]; omega) (by decide) rfl ?_
      refine r_al0 dX10_restore_36 ?_
      refine r_iconst dX10_restore_37 ?_
      refine m_put dX10_restore_38 f_X10_73 p_X10_73 (ff_14_5 _) hA mfp_5 rfl rfl ?_
      refine r_al0 dX10_restore_41 ?_
      refine r_iconst dX10_restore_42 ?_
      refine m_putZ dX10_restore_43 f_X10_69 p_X10_69 (ff_14_8 _) hA mfp_8 (by omega) rfl rfl ?_
      first
        | (exfalso; omega)
        | exact r_ret dX10_restore_46 rfl ⟨_, rfl, rfl, Or.inl ⟨by omega, rfl⟩⟩
        | (refine r_ret dX10_restore_46 rfl ⟨_, rfl, rfl, Or.inr ⟨by omega, ?_, ?_, ?_, ?_, ?_, ?_⟩⟩
           · repeat (first | exact hR | assumption | refine RG.up ?_ (by first | decide | omega | exact hR _ _) | refine RG_cpy ?_)
           · repeat (first | exact SB.rf | refine SB.upF ?_ (by decide) | refine SB.cp ?_ (by decide) (by decide) | refine SB.upA ?_ (by decide) (by decide))
           · simp only [updm_app, cpy_app, Int.reduceEq, Nat.reduceEqDiff, and_true, true_and, false_and, and_false, if_true, if_false, reduceIte]
           · simp only [updm_app, cpy_app, Int.reduceEq, Nat.reduceEqDiff, and_true, true_and, false_and, and_false, if_true, if_false, reduceIte]
           · simp only [updm_app, cpy_app, Int.reduceEq, Nat.reduceEqDiff, and_true, true_and, false_and, and_false, if_true, if_false, reduceIte]
           · intro i i0 i1
             rw [updm_k (by decide), updm_k (by decide), cpy_in (by omega)]
             simp only [updm_app, cpy_app, Int.reduceEq, Nat.reduceEqDiff, and_true, true_and, false_and, and_false, if_true, if_false, reduceIte]
             first | done | (congr 1; omega))
