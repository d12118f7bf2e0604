/-! ===== truths as numbers ===== -/
noncomputable def tb (P : Prop) : Bool := @decide P (Classical.propDecidable P)
theorem tb_t {P : Prop} : tb P = true ↔ P := by unfold tb; exact @decide_eq_true_iff P (Classical.propDecidable P)
theorem tb_f {P : Prop} : tb P = false ↔ ¬ P := by unfold tb; exact @decide_eq_false_iff_not P (Classical.propDecidable P)
theorem tb_congr {P R : Prop} (h : P ↔ R) : tb P = tb R := by rw [show P = R from propext h]
theorem ret_t {P : Prop} (h : P) : some (Value.int (J 1)) = some (.int (J (bI (tb P)))) := by rw [tb_t.mpr h]; rfl
theorem ret_f {P : Prop} (h : ¬ P) : some (Value.int (J 0)) = some (.int (J (bI (tb P)))) := by rw [tb_f.mpr h]; rfl
section TBR
variable {κ : KP} {mi : MI} {d k n : Nat} {Q : Option Value → AH → Prop} {E : String → AH → Prop} {pc : Nat} {L : List (Option Value)} {st : List Value} {h : AH}
theorem r_ifT_eq {P : Prop} {off : Int} {tgt : Nat} (hd : decode mi.2.1 pc = .ok (.ifCond .eq off, 3)) (ht : (pc : Int) + off = (tgt : Int)) (kt : ¬ P → WW κ mi d k n Q E tgt L st h) (kf : P → WW κ mi d k n Q E (pc + 3) L st h) : WW κ mi d k n Q E pc L (.int (J (bI (tb P))) :: st) h := r_ifB_eq hd ht (fun c => kt (tb_f.mp c)) (fun c => kf (tb_t.mp c))
theorem r_ifT_ne {P : Prop} {off : Int} {tgt : Nat} (hd : decode mi.2.1 pc = .ok (.ifCond .ne off, 3)) (ht : (pc : Int) + off = (tgt : Int)) (kt : P → WW κ mi d k n Q E tgt L st h) (kf : ¬ P → WW κ mi d k n Q E (pc + 3) L st h) : WW κ mi d k n Q E pc L (.int (J (bI (tb P))) :: st) h := r_ifB_ne hd ht (fun c => kt (tb_t.mp c)) (fun c => kf (tb_f.mp c))
end TBR
/-! ===== pure calls ===== -/
def catS : List Value → Nat
  | [] => 0
  | v :: r => v.category + catS r
theorem catS_eq : ∀ (l : List Value), (l.map fun v => v.category).sum = catS l
  | [] => rfl
  | v :: r => by
    have := catS_eq r
    simp only [List.map_cons, List.sum_cons, catS]
    omega
theorem cat_le {l : List Value} (h : (catS l).ble 8 = true) : (l.map fun v => v.category).sum ≤ 8 := by
  rw [catS_eq]
  exact Nat.le_of_ble_eq_true h
/-- a contract of a method that reads alone: its answer is v -/
def PM (κ : KP) (mi : MI) (d : Nat) (av : List Value) (h : AH) (v : Value) : Prop := MM κ mi d 0 0 av h (fun w h' => w = some v ∧ h' = h) NoX
section PURE
variable {κ : KP} {mi : MI} {d k n : Nat} {Q : Option Value → AH → Prop} {E : String → AH → Prop} {pc : Nat} {L : List (Option Value)} {h : AH} {mi' : MI} {d' idx : Nat} {rest : List Value} {r : Value}
theorem r_callSP0 (hd : decode mi.2.1 pc = .ok (.invokestatic idx, 3)) (hv : CS mi.1.cls idx mi' 0) (hM : PM κ mi' d' [] h r) (hd' : d' + 1 ≤ d) (hcat : (catS rest).ble 8 = true) (kk : WW κ mi d k n Q E (pc + 3) L (r :: rest) h) : WW κ mi d k n Q E pc L (rest) h :=
  r_callS (As := []) hd hv hM hd' rfl rfl (cat_le hcat) (Nat.zero_le _) (Nat.zero_le _) (fun v h' hq => by obtain ⟨rfl, rfl⟩ := hq; exact kk) (fun _ _ hx => hx.elim)
theorem r_callSNP0 (hd : decode mi.2.1 pc = .ok (.invokestatic idx, 3)) (hv : CSN mi.1.cls idx mi' 0) (hM : PM κ mi' d' [] h r) (hd' : d' + 1 ≤ d) (hcat : (catS rest).ble 8 = true) (kk : WW κ mi d k n Q E (pc + 3) L (r :: rest) h) : WW κ mi d k n Q E pc L (rest) h :=
  r_callSN (As := []) hd hv hM hd' rfl rfl (cat_le hcat) (Nat.zero_le _) (Nat.zero_le _) (fun v h' hq => by obtain ⟨rfl, rfl⟩ := hq; exact kk)
theorem r_callVP0 {b kc : Nat} {w : Bool} {fs : List Value} (hd : decode mi.2.1 pc = .ok (.invokevirtual idx, 3)) (hv : CV mi.1.cls idx kc mi' 0) (hrecv : h b = some (w, .inr (kc, fs))) (hM : PM κ mi' d' [.ref b] h r) (hd' : d' + 1 ≤ d) (hcat : (catS rest).ble 8 = true) (kk : WW κ mi d k n Q E (pc + 3) L (r :: rest) h) : WW κ mi d k n Q E pc L (.ref b :: rest) h :=
  r_callV (As := []) hd hv hrecv hM hd' rfl rfl (cat_le hcat) (Nat.zero_le _) (Nat.zero_le _) (fun v h' hq => by obtain ⟨rfl, rfl⟩ := hq; exact kk) (fun _ _ hx => hx.elim)
theorem r_callSP1 {v0 : Value} (hd : decode mi.2.1 pc = .ok (.invokestatic idx, 3)) (hv : CS mi.1.cls idx mi' 1) (hM : PM κ mi' d' [v0] h r) (hd' : d' + 1 ≤ d) (hcat : (catS rest).ble 8 = true) (kk : WW κ mi d k n Q E (pc + 3) L (r :: rest) h) : WW κ mi d k n Q E pc L (v0 :: rest) h :=
  r_callS (As := [v0]) hd hv hM hd' rfl rfl (cat_le hcat) (Nat.zero_le _) (Nat.zero_le _) (fun v h' hq => by obtain ⟨rfl, rfl⟩ := hq; exact kk) (fun _ _ hx => hx.elim)
theorem r_callSNP1 {v0 : Value} (hd : decode mi.2.1 pc = .ok (.invokestatic idx, 3)) (hv : CSN mi.1.cls idx mi' 1) (hM : PM κ mi' d' [v0] h r) (hd' : d' + 1 ≤ d) (hcat : (catS rest).ble 8 = true) (kk : WW κ mi d k n Q E (pc + 3) L (r :: rest) h) : WW κ mi d k n Q E pc L (v0 :: rest) h :=
  r_callSN (As := [v0]) hd hv hM hd' rfl rfl (cat_le hcat) (Nat.zero_le _) (Nat.zero_le _) (fun v h' hq => by obtain ⟨rfl, rfl⟩ := hq; exact kk)
theorem r_callVP1 {b kc : Nat} {w : Bool} {fs : List Value} {v0 : Value} (hd : decode mi.2.1 pc = .ok (.invokevirtual idx, 3)) (hv : CV mi.1.cls idx kc mi' 1) (hrecv : h b = some (w, .inr (kc, fs))) (hM : PM κ mi' d' [.ref b, v0] h r) (hd' : d' + 1 ≤ d) (hcat : (catS rest).ble 8 = true) (kk : WW κ mi d k n Q E (pc + 3) L (r :: rest) h) : WW κ mi d k n Q E pc L (v0 :: .ref b :: rest) h :=
  r_callV (As := [v0]) hd hv hrecv hM hd' rfl rfl (cat_le hcat) (Nat.zero_le _) (Nat.zero_le _) (fun v h' hq => by obtain ⟨rfl, rfl⟩ := hq; exact kk) (fun _ _ hx => hx.elim)
theorem r_callSP2 {v0 v1 : Value} (hd : decode mi.2.1 pc = .ok (.invokestatic idx, 3)) (hv : CS mi.1.cls idx mi' 2) (hM : PM κ mi' d' [v0, v1] h r) (hd' : d' + 1 ≤ d) (hcat : (catS rest).ble 8 = true) (kk : WW κ mi d k n Q E (pc + 3) L (r :: rest) h) : WW κ mi d k n Q E pc L (v1 :: v0 :: rest) h :=
  r_callS (As := [v0, v1]) hd hv hM hd' rfl rfl (cat_le hcat) (Nat.zero_le _) (Nat.zero_le _) (fun v h' hq => by obtain ⟨rfl, rfl⟩ := hq; exact kk) (fun _ _ hx => hx.elim)
theorem r_callSNP2 {v0 v1 : Value} (hd : decode mi.2.1 pc = .ok (.invokestatic idx, 3)) (hv : CSN mi.1.cls idx mi' 2) (hM : PM κ mi' d' [v0, v1] h r) (hd' : d' + 1 ≤ d) (hcat : (catS rest).ble 8 = true) (kk : WW κ mi d k n Q E (pc + 3) L (r :: rest) h) : WW κ mi d k n Q E pc L (v1 :: v0 :: rest) h :=
  r_callSN (As := [v0, v1]) hd hv hM hd' rfl rfl (cat_le hcat) (Nat.zero_le _) (Nat.zero_le _) (fun v h' hq => by obtain ⟨rfl, rfl⟩ := hq; exact kk)
theorem r_callVP2 {b kc : Nat} {w : Bool} {fs : List Value} {v0 v1 : Value} (hd : decode mi.2.1 pc = .ok (.invokevirtual idx, 3)) (hv : CV mi.1.cls idx kc mi' 2) (hrecv : h b = some (w, .inr (kc, fs))) (hM : PM κ mi' d' [.ref b, v0, v1] h r) (hd' : d' + 1 ≤ d) (hcat : (catS rest).ble 8 = true) (kk : WW κ mi d k n Q E (pc + 3) L (r :: rest) h) : WW κ mi d k n Q E pc L (v1 :: v0 :: .ref b :: rest) h :=
  r_callV (As := [v0, v1]) hd hv hrecv hM hd' rfl rfl (cat_le hcat) (Nat.zero_le _) (Nat.zero_le _) (fun v h' hq => by obtain ⟨rfl, rfl⟩ := hq; exact kk) (fun _ _ hx => hx.elim)
theorem r_callSP3 {v0 v1 v2 : Value} (hd : decode mi.2.1 pc = .ok (.invokestatic idx, 3)) (hv : CS mi.1.cls idx mi' 3) (hM : PM κ mi' d' [v0, v1, v2] h r) (hd' : d' + 1 ≤ d) (hcat : (catS rest).ble 8 = true) (kk : WW κ mi d k n Q E (pc + 3) L (r :: rest) h) : WW κ mi d k n Q E pc L (v2 :: v1 :: v0 :: rest) h :=
  r_callS (As := [v0, v1, v2]) hd hv hM hd' rfl rfl (cat_le hcat) (Nat.zero_le _) (Nat.zero_le _) (fun v h' hq => by obtain ⟨rfl, rfl⟩ := hq; exact kk) (fun _ _ hx => hx.elim)
theorem r_callSNP3 {v0 v1 v2 : Value} (hd : decode mi.2.1 pc = .ok (.invokestatic idx, 3)) (hv : CSN mi.1.cls idx mi' 3) (hM : PM κ mi' d' [v0, v1, v2] h r) (hd' : d' + 1 ≤ d) (hcat : (catS rest).ble 8 = true) (kk : WW κ mi d k n Q E (pc + 3) L (r :: rest) h) : WW κ mi d k n Q E pc L (v2 :: v1 :: v0 :: rest) h :=
  r_callSN (As := [v0, v1, v2]) hd hv hM hd' rfl rfl (cat_le hcat) (Nat.zero_le _) (Nat.zero_le _) (fun v h' hq => by obtain ⟨rfl, rfl⟩ := hq; exact kk)
theorem r_callVP3 {b kc : Nat} {w : Bool} {fs : List Value} {v0 v1 v2 : Value} (hd : decode mi.2.1 pc = .ok (.invokevirtual idx, 3)) (hv : CV mi.1.cls idx kc mi' 3) (hrecv : h b = some (w, .inr (kc, fs))) (hM : PM κ mi' d' [.ref b, v0, v1, v2] h r) (hd' : d' + 1 ≤ d) (hcat : (catS rest).ble 8 = true) (kk : WW κ mi d k n Q E (pc + 3) L (r :: rest) h) : WW κ mi d k n Q E pc L (v2 :: v1 :: v0 :: .ref b :: rest) h :=
  r_callV (As := [v0, v1, v2]) hd hv hrecv hM hd' rfl rfl (cat_le hcat) (Nat.zero_le _) (Nat.zero_le _) (fun v h' hq => by obtain ⟨rfl, rfl⟩ := hq; exact kk) (fun _ _ hx => hx.elim)
theorem r_callSP4 {v0 v1 v2 v3 : Value} (hd : decode mi.2.1 pc = .ok (.invokestatic idx, 3)) (hv : CS mi.1.cls idx mi' 4) (hM : PM κ mi' d' [v0, v1, v2, v3] h r) (hd' : d' + 1 ≤ d) (hcat : (catS rest).ble 8 = true) (kk : WW κ mi d k n Q E (pc + 3) L (r :: rest) h) : WW κ mi d k n Q E pc L (v3 :: v2 :: v1 :: v0 :: rest) h :=
  r_callS (As := [v0, v1, v2, v3]) hd hv hM hd' rfl rfl (cat_le hcat) (Nat.zero_le _) (Nat.zero_le _) (fun v h' hq => by obtain ⟨rfl, rfl⟩ := hq; exact kk) (fun _ _ hx => hx.elim)
theorem r_callSNP4 {v0 v1 v2 v3 : Value} (hd : decode mi.2.1 pc = .ok (.invokestatic idx, 3)) (hv : CSN mi.1.cls idx mi' 4) (hM : PM κ mi' d' [v0, v1, v2, v3] h r) (hd' : d' + 1 ≤ d) (hcat : (catS rest).ble 8 = true) (kk : WW κ mi d k n Q E (pc + 3) L (r :: rest) h) : WW κ mi d k n Q E pc L (v3 :: v2 :: v1 :: v0 :: rest) h :=
  r_callSN (As := [v0, v1, v2, v3]) hd hv hM hd' rfl rfl (cat_le hcat) (Nat.zero_le _) (Nat.zero_le _) (fun v h' hq => by obtain ⟨rfl, rfl⟩ := hq; exact kk)
theorem r_callVP4 {b kc : Nat} {w : Bool} {fs : List Value} {v0 v1 v2 v3 : Value} (hd : decode mi.2.1 pc = .ok (.invokevirtual idx, 3)) (hv : CV mi.1.cls idx kc mi' 4) (hrecv : h b = some (w, .inr (kc, fs))) (hM : PM κ mi' d' [.ref b, v0, v1, v2, v3] h r) (hd' : d' + 1 ≤ d) (hcat : (catS rest).ble 8 = true) (kk : WW κ mi d k n Q E (pc + 3) L (r :: rest) h) : WW κ mi d k n Q E pc L (v3 :: v2 :: v1 :: v0 :: .ref b :: rest) h :=
  r_callV (As := [v0, v1, v2, v3]) hd hv hrecv hM hd' rfl rfl (cat_le hcat) (Nat.zero_le _) (Nat.zero_le _) (fun v h' hq => by obtain ⟨rfl, rfl⟩ := hq; exact kk) (fun _ _ hx => hx.elim)
end PURE
/-! ===== THE MODEL'S MEMORY: M k i is place i of the array in field k; M 30 f is the number in field f ===== -/
abbrev MEM : Type := Nat → Int → Int
def mids : List Nat := [30, 0, 1, 2, 4, 9, 10, 11, 12, 16, 21, 24, 25]
def mty (k : Nat) : FieldType := if k = 12 then .boolean else .int
def mlen (k : Nat) : Nat := match k with
  | 0 => 156
  | 1 => 156
  | 2 => 156
  | 4 => 1248
  | 9 => 6
  | 10 => 6
  | 11 => 8
  | 12 => 8
  | 16 => 50
  | 21 => 312
  | 24 => 3
  | 25 => 12
  | _ => 0
def mfields (A : Nat → Nat) (M : MEM) : List Value := [.ref (A 0), .ref (A 1), .ref (A 2), .int (J (M 30 3)), .ref (A 4), .int (J (M 30 5)), .int (J (M 30 6)), .int (J (M 30 7)), .int (J (M 30 8)), .ref (A 9), .ref (A 10), .ref (A 11), .ref (A 12), .int (J (M 30 13)), .int (J (M 30 14)), .int (J (M 30 15)), .ref (A 16), .int (J (M 30 17)), .int (J (M 30 18)), .int (J (M 30 19)), .int (J (M 30 20)), .ref (A 21), .int (J (M 30 22)), .int (J (M 30 23)), .ref (A 24), .ref (A 25), .int (J (M 30 26))]
def mcell (A : Nat → Nat) (M : MEM) (k : Nat) : HC := if k = 30 then (true, .inr (14, mfields A M)) else (true, .inl (mty k, mlen k, iv (M k)))
/-- the heap h with the model's cells, at the addresses A, holding M -/
def mset (A : Nat → Nat) (M : MEM) (h : AH) : AH := fun q => match mids.find? (fun k => A k == q) with
  | some k => some (mcell A M k)
  | none => h q
def MA (A : Nat → Nat) : Prop := ∀ i ∈ mids, ∀ j ∈ mids, A i = A j → i = j
def updm (M : MEM) (k : Nat) (i v : Int) : MEM := fun k' i' => if k' = k ∧ i' = i then v else M k' i'
theorem updm_at {M : MEM} {k : Nat} {i v : Int} : updm M k i v k i = v := if_pos ⟨rfl, rfl⟩
theorem updm_ne {M : MEM} {k k' : Nat} {i i' v : Int} (h : ¬ (k' = k ∧ i' = i)) : updm M k i v k' i' = M k' i' := if_neg h
theorem updm_k {M : MEM} {k k' : Nat} {i v : Int} (h : k' ≠ k) : updm M k i v k' = M k' := by
  funext j
  exact if_neg (fun e => h e.1)
theorem updm_up {M : MEM} {k : Nat} {i v : Int} : updm M k i v k = upz (M k) i v := by
  funext j
  unfold updm upz
  by_cases e : j = i <;> simp [e]
theorem mset_at {A : Nat → Nat} {M : MEM} {h : AH} {k : Nat} (hA : MA A) (hk : k ∈ mids) : mset A M h (A k) = some (mcell A M k) := by
  have e : mids.find? (fun j => A j == A k) = some k := by
    cases e : mids.find? (fun j => A j == A k) with
    | none =>
      have := List.find?_eq_none.mp e k hk
      simp at this
    | some j =>
      have h1 := List.find?_some e
      have h2 := List.mem_of_find?_eq_some e
      rw [hA j h2 k hk (by simpa using h1)]
  unfold mset
  rw [e]
theorem mset_off {A : Nat → Nat} {M : MEM} {h : AH} {q : Nat} (hq : ∀ k ∈ mids, A k ≠ q) : mset A M h q = h q := by
  have e : mids.find? (fun j => A j == q) = none := List.find?_eq_none.mpr fun k hk => by simpa using hq k hk
  unfold mset
  rw [e]
theorem mset_mset {A : Nat → Nat} {M M' : MEM} {h : AH} : mset A M' (mset A M h) = mset A M' h := by
  funext q
  unfold mset
  cases mids.find? (fun k => A k == q) <;> rfl
theorem mset_up {A : Nat → Nat} {M M' : MEM} {h : AH} {k : Nat} {c : HC} (hA : MA A) (hk : k ∈ mids) (hc : c = mcell A M' k) (hM : ∀ j ∈ mids, j ≠ k → mcell A M' j = mcell A M j) : upA (mset A M h) (A k) c = mset A M' h := by
  funext q
  unfold upA
  by_cases e : q = A k
  · rw [if_pos e, e, mset_at hA hk, hc]
  · rw [if_neg e]
    unfold mset
    cases e2 : mids.find? (fun j => A j == q) with
    | none => rfl
    | some j =>
      have h1 := List.find?_some e2
      have h2 := List.mem_of_find?_eq_some e2
      have hj : j ≠ k := fun z => e (by rw [← z]; simpa using (by simpa using h1 : A j = q).symm)
      show some (mcell A M j) = some (mcell A M' j)
      rw [hM j h2 hj]
theorem mcell_keep {A : Nat → Nat} {M : MEM} {k j : Nat} {i v : Int} (hj : j ≠ k) (hk : k ≠ 30) : mcell A (updm M k i v) j = mcell A M j := by
  unfold mcell
  by_cases e : j = 30
  · rw [if_pos e, if_pos e]
    have : updm M k i v 30 = M 30 := updm_k (Ne.symm hk)
    unfold mfields
    rw [this]
  · rw [if_neg e, if_neg e, updm_k hj]
theorem mcell_keep30 {A : Nat → Nat} {M : MEM} {j : Nat} {i v : Int} (hj : j ≠ 30) : mcell A (updm M 30 i v) j = mcell A M j := by
  unfold mcell
  rw [if_neg hj, if_neg hj, updm_k hj]
theorem mfp_3 {A : Nat → Nat} {M : MEM} {v : Int} : (mfields A M).set 3 (.int (J v)) = mfields A (updm M 30 3 v) := by
  simp [mfields, updm]
theorem mfp_5 {A : Nat → Nat} {M : MEM} {v : Int} : (mfields A M).set 5 (.int (J v)) = mfields A (updm M 30 5 v) := by
  simp [mfields, updm]
theorem mfp_6 {A : Nat → Nat} {M : MEM} {v : Int} : (mfields A M).set 6 (.int (J v)) = mfields A (updm M 30 6 v) := by
  simp [mfields, updm]
theorem mfp_7 {A : Nat → Nat} {M : MEM} {v : Int} : (mfields A M).set 7 (.int (J v)) = mfields A (updm M 30 7 v) := by
  simp [mfields, updm]
theorem mfp_8 {A : Nat → Nat} {M : MEM} {v : Int} : (mfields A M).set 8 (.int (J v)) = mfields A (updm M 30 8 v) := by
  simp [mfields, updm]
theorem mfp_13 {A : Nat → Nat} {M : MEM} {v : Int} : (mfields A M).set 13 (.int (J v)) = mfields A (updm M 30 13 v) := by
  simp [mfields, updm]
theorem mfp_14 {A : Nat → Nat} {M : MEM} {v : Int} : (mfields A M).set 14 (.int (J v)) = mfields A (updm M 30 14 v) := by
  simp [mfields, updm]
theorem mfp_15 {A : Nat → Nat} {M : MEM} {v : Int} : (mfields A M).set 15 (.int (J v)) = mfields A (updm M 30 15 v) := by
  simp [mfields, updm]
theorem mfp_17 {A : Nat → Nat} {M : MEM} {v : Int} : (mfields A M).set 17 (.int (J v)) = mfields A (updm M 30 17 v) := by
  simp [mfields, updm]
theorem mfp_18 {A : Nat → Nat} {M : MEM} {v : Int} : (mfields A M).set 18 (.int (J v)) = mfields A (updm M 30 18 v) := by
  simp [mfields, updm]
theorem mfp_19 {A : Nat → Nat} {M : MEM} {v : Int} : (mfields A M).set 19 (.int (J v)) = mfields A (updm M 30 19 v) := by
  simp [mfields, updm]
theorem mfp_20 {A : Nat → Nat} {M : MEM} {v : Int} : (mfields A M).set 20 (.int (J v)) = mfields A (updm M 30 20 v) := by
  simp [mfields, updm]
theorem mfp_22 {A : Nat → Nat} {M : MEM} {v : Int} : (mfields A M).set 22 (.int (J v)) = mfields A (updm M 30 22 v) := by
  simp [mfields, updm]
theorem mfp_23 {A : Nat → Nat} {M : MEM} {v : Int} : (mfields A M).set 23 (.int (J v)) = mfields A (updm M 30 23 v) := by
  simp [mfields, updm]
theorem mfp_26 {A : Nat → Nat} {M : MEM} {v : Int} : (mfields A M).set 26 (.int (J v)) = mfields A (updm M 30 26 v) := by
  simp [mfields, updm]
theorem nar_Z {v : Int} (h : 0 ≤ v ∧ v ≤ 1) : narrow .boolean (.int (J v)) = .int (J v) := by
  rcases (show v = 0 ∨ v = 1 by omega) with rfl | rfl <;> decide +kernel
theorem fit_Z {v : Int} (h : 0 ≤ v ∧ v ≤ 1) : fits .boolean (.int (J v)) = true := by
  rcases (show v = 0 ∨ v = 1 by omega) with rfl | rfl <;> decide +kernel
section MROWS
variable {κ : KP} {mi : MI} {d k n : Nat} {Q : Option Value → AH → Prop} {E : String → AH → Prop} {pc : Nat} {L : List (Option Value)} {st : List Value} {A : Nat → Nat} {M : MEM} {h : AH}
theorem mset_obj (hA : MA A) : mset A M h (A 30) = some (true, .inr (14, mfields A M)) := by
  rw [mset_at hA (by decide)]
  rfl
theorem mset_arr {k9 N : Nat} {ty : FieldType} (hA : MA A) (hk : k9 ∈ mids ∧ k9 ≠ 30) (ht : mty k9 = ty) (hN : mlen k9 = N) : mset A M h (A k9) = some (true, .inl (ty, N, iv (M k9))) := by
  rw [mset_at hA hk.1]
  unfold mcell
  rw [if_neg hk.2, ht, hN]
theorem m_get {idx j : Nat} {v : Value} (hd : decode mi.2.1 pc = .ok (.getfield idx, 3)) (hf : FL mi.1.cls idx 14 j) (hA : MA A) (hv : (mfields A M)[j]? = some v) (kk : WW κ mi d k n Q E (pc + 3) L (v :: st) (mset A M h)) : WW κ mi d k n Q E pc L (.ref (A 30) :: st) (mset A M h) :=
  r_getfield hd hf (mset_obj hA) hv kk
theorem m_put {idx j : Nat} {v : Int} {jz : Int} (hd : decode mi.2.1 pc = .ok (.putfield idx, 3)) (hf : FL mi.1.cls idx 14 j) (hp : FP mi.1.cls 14 j .int) (hfi : FF 14 j mi.1.name) (hA : MA A) (hs : (mfields A M).set j (.int (J v)) = mfields A (updm M 30 jz v)) (hl : (mfields A M).length = 27) (hj : (j.blt 27) = true) (kk : WW κ mi d k n Q E (pc + 3) L st (mset A (updm M 30 jz v) h)) : WW κ mi d k n Q E pc L (.int (J v) :: .ref (A 30) :: st) (mset A M h) := by
  refine r_putfield hd hf hp hfi (mset_obj hA) rfl rfl (by rw [hl]; simpa [Nat.blt_eq] using hj) hs ?_
  rw [mset_up (k := 30) (M' := updm M 30 jz v) (c := (true, .inr (14, mfields A (updm M 30 jz v)))) hA (by decide) rfl (fun j _ hj => mcell_keep30 hj)]
  exact kk
theorem m_putZ {idx j : Nat} {v : Int} {jz : Int} (hd : decode mi.2.1 pc = .ok (.putfield idx, 3)) (hf : FL mi.1.cls idx 14 j) (hp : FP mi.1.cls 14 j .boolean) (hfi : FF 14 j mi.1.name) (hA : MA A) (hs : (mfields A M).set j (.int (J v)) = mfields A (updm M 30 jz v)) (hz : 0 ≤ v ∧ v ≤ 1) (hl : (mfields A M).length = 27) (hj : (j.blt 27) = true) (kk : WW κ mi d k n Q E (pc + 3) L st (mset A (updm M 30 jz v) h)) : WW κ mi d k n Q E pc L (.int (J v) :: .ref (A 30) :: st) (mset A M h) := by
  refine r_putfield hd hf hp hfi (mset_obj hA) (nar_Z hz) (fit_Z hz) (by rw [hl]; simpa [Nat.blt_eq] using hj) hs ?_
  rw [mset_up (k := 30) (M' := updm M 30 jz v) (c := (true, .inr (14, mfields A (updm M 30 jz v)))) hA (by decide) rfl (fun j _ hj => mcell_keep30 hj)]
  exact kk
theorem mlen_small {k9 : Nat} : mlen k9 < 2147483648 := by
  unfold mlen
  split <;> decide
theorem m_ald {k9 : Nat} {i : Int} (hd : decode mi.2.1 pc = .ok (.iaload, 1)) (hA : MA A) (hk : k9 ∈ mids ∧ k9 ≠ 30) (ht : mty k9 = .int) (h0 : 0 ≤ i) (h1 : i < mlen k9) (kk : WW κ mi d k n Q E (pc + 1) L (.int (J (M k9 i)) :: st) (mset A M h)) : WW κ mi d k n Q E pc L (.int (J i) :: .ref (A k9) :: st) (mset A M h) :=
  r_iaJ hd (mset_arr hA hk ht rfl) h0 h1 mlen_small kk
theorem m_zald {k9 : Nat} {i : Int} (hd : decode mi.2.1 pc = .ok (.baload, 1)) (hA : MA A) (hk : k9 ∈ mids ∧ k9 ≠ 30) (ht : mty k9 = .boolean) (h0 : 0 ≤ i) (h1 : i < mlen k9) (kk : WW κ mi d k n Q E (pc + 1) L (.int (J (M k9 i)) :: st) (mset A M h)) : WW κ mi d k n Q E pc L (.int (J i) :: .ref (A k9) :: st) (mset A M h) :=
  r_zald hd (mset_arr hA hk ht rfl) h0 h1 mlen_small (by show Value.int (J (M k9 (i.toNat : Int))) = _; rw [Int.toNat_of_nonneg h0]) kk
theorem m_ast {k9 : Nat} {i v : Int} (hd : decode mi.2.1 pc = .ok (.iastore, 1)) (hA : MA A) (hk : k9 ∈ mids ∧ k9 ≠ 30) (ht : mty k9 = .int) (h0 : 0 ≤ i) (h1 : i < mlen k9) (kk : WW κ mi d k n Q E (pc + 1) L st (mset A (updm M k9 i v) h)) : WW κ mi d k n Q E pc L (.int (J v) :: .int (J i) :: .ref (A k9) :: st) (mset A M h) := by
  refine r_isJ hd (mset_arr hA hk ht rfl) h0 h1 mlen_small ?_
  rw [mset_up (k := k9) (M' := updm M k9 i v) hA hk.1 (by unfold mcell; rw [if_neg hk.2, ht, updm_up]) (fun j _ hj => mcell_keep hj hk.2)]
  exact kk
theorem m_zast {k9 : Nat} {i v : Int} (hd : decode mi.2.1 pc = .ok (.bastore, 1)) (hA : MA A) (hk : k9 ∈ mids ∧ k9 ≠ 30) (ht : mty k9 = .boolean) (h0 : 0 ≤ i) (h1 : i < mlen k9) (hz : 0 ≤ v ∧ v ≤ 1) (kk : WW κ mi d k n Q E (pc + 1) L st (mset A (updm M k9 i v) h)) : WW κ mi d k n Q E pc L (.int (J v) :: .int (J i) :: .ref (A k9) :: st) (mset A M h) := by
  refine r_zast hd (mset_arr hA hk ht rfl) h0 h1 mlen_small (by rw [nar_Z hz, iv_up h0]) ?_
  rw [mset_up (k := k9) (M' := updm M k9 i v) hA hk.1 (by unfold mcell; rw [if_neg hk.2, ht, updm_up]) (fun j _ hj => mcell_keep hj hk.2)]
  exact kk
end MROWS
/-- a contract of a model's method: an answer r and a memory M' that P knows -/
def RM (κ : KP) (mi : MI) (d : Nat) (A : Nat → Nat) (av : List Value) (M : MEM) (P : Int → MEM → Prop) : Prop := ∀ h : AH, MM κ mi d 0 0 av (mset A M h) (fun v h' => ∃ r M', v = some (.int (J r)) ∧ h' = mset A M' h ∧ P r M') NoX
def UM (κ : KP) (mi : MI) (d : Nat) (A : Nat → Nat) (av : List Value) (M : MEM) (P : MEM → Prop) : Prop := ∀ h : AH, MM κ mi d 0 0 av (mset A M h) (fun v h' => ∃ M', v = none ∧ h' = mset A M' h ∧ P M') NoX
section MCALL
variable {κ : KP} {mi : MI} {d k n : Nat} {Q : Option Value → AH → Prop} {E : String → AH → Prop} {pc : Nat} {L : List (Option Value)} {A : Nat → Nat} {M : MEM} {h : AH} {mi' : MI} {d' idx : Nat} {rest : List Value}
theorem m_callP0 {r : Value} (hd : decode mi.2.1 pc = .ok (.invokevirtual idx, 3)) (hv : CV mi.1.cls idx 14 mi' 0) (hA : MA A) (hM : PM κ mi' d' [.ref (A 30)] (mset A M h) r) (hd' : d' + 1 ≤ d) (hcat : (catS rest).ble 8 = true) (kk : WW κ mi d k n Q E (pc + 3) L (r :: rest) (mset A M h)) : WW κ mi d k n Q E pc L (.ref (A 30) :: rest) (mset A M h) :=
  r_callVP0 hd hv (mset_obj hA) hM hd' hcat kk
theorem m_callR0 {P : Int → MEM → Prop} (hd : decode mi.2.1 pc = .ok (.invokevirtual idx, 3)) (hv : CV mi.1.cls idx 14 mi' 0) (hA : MA A) (hM : RM κ mi' d' A [.ref (A 30)] M P) (hd' : d' + 1 ≤ d) (hcat : (catS rest).ble 8 = true) (kk : ∀ (r : Int) (M' : MEM), P r M' → WW κ mi d k n Q E (pc + 3) L (.int (J r) :: rest) (mset A M' h)) : WW κ mi d k n Q E pc L (.ref (A 30) :: rest) (mset A M h) :=
  r_callV (As := []) hd hv (mset_obj hA) (hM h) hd' rfl rfl (cat_le hcat) (Nat.zero_le _) (Nat.zero_le _) (fun v h' hq => by obtain ⟨r, M', rfl, rfl, hP⟩ := hq; exact kk r M' hP) (fun _ _ hx => hx.elim)
theorem m_callU0 {P : MEM → Prop} (hd : decode mi.2.1 pc = .ok (.invokevirtual idx, 3)) (hv : CV mi.1.cls idx 14 mi' 0) (hA : MA A) (hM : UM κ mi' d' A [.ref (A 30)] M P) (hd' : d' + 1 ≤ d) (hcat : (catS rest).ble 8 = true) (kk : ∀ M' : MEM, P M' → WW κ mi d k n Q E (pc + 3) L rest (mset A M' h)) : WW κ mi d k n Q E pc L (.ref (A 30) :: rest) (mset A M h) :=
  r_callV (As := []) hd hv (mset_obj hA) (hM h) hd' rfl rfl (cat_le hcat) (Nat.zero_le _) (Nat.zero_le _) (fun v h' hq => by obtain ⟨M', rfl, rfl, hP⟩ := hq; exact kk M' hP) (fun _ _ hx => hx.elim)
theorem m_callP1 {r : Value} {v0 : Value} (hd : decode mi.2.1 pc = .ok (.invokevirtual idx, 3)) (hv : CV mi.1.cls idx 14 mi' 1) (hA : MA A) (hM : PM κ mi' d' [.ref (A 30), v0] (mset A M h) r) (hd' : d' + 1 ≤ d) (hcat : (catS rest).ble 8 = true) (kk : WW κ mi d k n Q E (pc + 3) L (r :: rest) (mset A M h)) : WW κ mi d k n Q E pc L (v0 :: .ref (A 30) :: rest) (mset A M h) :=
  r_callVP1 hd hv (mset_obj hA) hM hd' hcat kk
theorem m_callR1 {P : Int → MEM → Prop} {v0 : Value} (hd : decode mi.2.1 pc = .ok (.invokevirtual idx, 3)) (hv : CV mi.1.cls idx 14 mi' 1) (hA : MA A) (hM : RM κ mi' d' A [.ref (A 30), v0] M P) (hd' : d' + 1 ≤ d) (hcat : (catS rest).ble 8 = true) (kk : ∀ (r : Int) (M' : MEM), P r M' → WW κ mi d k n Q E (pc + 3) L (.int (J r) :: rest) (mset A M' h)) : WW κ mi d k n Q E pc L (v0 :: .ref (A 30) :: rest) (mset A M h) :=
  r_callV (As := [v0]) hd hv (mset_obj hA) (hM h) hd' rfl rfl (cat_le hcat) (Nat.zero_le _) (Nat.zero_le _) (fun v h' hq => by obtain ⟨r, M', rfl, rfl, hP⟩ := hq; exact kk r M' hP) (fun _ _ hx => hx.elim)
theorem m_callU1 {P : MEM → Prop} {v0 : Value} (hd : decode mi.2.1 pc = .ok (.invokevirtual idx, 3)) (hv : CV mi.1.cls idx 14 mi' 1) (hA : MA A) (hM : UM κ mi' d' A [.ref (A 30), v0] M P) (hd' : d' + 1 ≤ d) (hcat : (catS rest).ble 8 = true) (kk : ∀ M' : MEM, P M' → WW κ mi d k n Q E (pc + 3) L rest (mset A M' h)) : WW κ mi d k n Q E pc L (v0 :: .ref (A 30) :: rest) (mset A M h) :=
  r_callV (As := [v0]) hd hv (mset_obj hA) (hM h) hd' rfl rfl (cat_le hcat) (Nat.zero_le _) (Nat.zero_le _) (fun v h' hq => by obtain ⟨M', rfl, rfl, hP⟩ := hq; exact kk M' hP) (fun _ _ hx => hx.elim)
theorem m_callP2 {r : Value} {v0 v1 : Value} (hd : decode mi.2.1 pc = .ok (.invokevirtual idx, 3)) (hv : CV mi.1.cls idx 14 mi' 2) (hA : MA A) (hM : PM κ mi' d' [.ref (A 30), v0, v1] (mset A M h) r) (hd' : d' + 1 ≤ d) (hcat : (catS rest).ble 8 = true) (kk : WW κ mi d k n Q E (pc + 3) L (r :: rest) (mset A M h)) : WW κ mi d k n Q E pc L (v1 :: v0 :: .ref (A 30) :: rest) (mset A M h) :=
  r_callVP2 hd hv (mset_obj hA) hM hd' hcat kk
theorem m_callR2 {P : Int → MEM → Prop} {v0 v1 : Value} (hd : decode mi.2.1 pc = .ok (.invokevirtual idx, 3)) (hv : CV mi.1.cls idx 14 mi' 2) (hA : MA A) (hM : RM κ mi' d' A [.ref (A 30), v0, v1] M P) (hd' : d' + 1 ≤ d) (hcat : (catS rest).ble 8 = true) (kk : ∀ (r : Int) (M' : MEM), P r M' → WW κ mi d k n Q E (pc + 3) L (.int (J r) :: rest) (mset A M' h)) : WW κ mi d k n Q E pc L (v1 :: v0 :: .ref (A 30) :: rest) (mset A M h) :=
  r_callV (As := [v0, v1]) hd hv (mset_obj hA) (hM h) hd' rfl rfl (cat_le hcat) (Nat.zero_le _) (Nat.zero_le _) (fun v h' hq => by obtain ⟨r, M', rfl, rfl, hP⟩ := hq; exact kk r M' hP) (fun _ _ hx => hx.elim)
theorem m_callU2 {P : MEM → Prop} {v0 v1 : Value} (hd : decode mi.2.1 pc = .ok (.invokevirtual idx, 3)) (hv : CV mi.1.cls idx 14 mi' 2) (hA : MA A) (hM : UM κ mi' d' A [.ref (A 30), v0, v1] M P) (hd' : d' + 1 ≤ d) (hcat : (catS rest).ble 8 = true) (kk : ∀ M' : MEM, P M' → WW κ mi d k n Q E (pc + 3) L rest (mset A M' h)) : WW κ mi d k n Q E pc L (v1 :: v0 :: .ref (A 30) :: rest) (mset A M h) :=
  r_callV (As := [v0, v1]) hd hv (mset_obj hA) (hM h) hd' rfl rfl (cat_le hcat) (Nat.zero_le _) (Nat.zero_le _) (fun v h' hq => by obtain ⟨M', rfl, rfl, hP⟩ := hq; exact kk M' hP) (fun _ _ hx => hx.elim)
theorem m_callP3 {r : Value} {v0 v1 v2 : Value} (hd : decode mi.2.1 pc = .ok (.invokevirtual idx, 3)) (hv : CV mi.1.cls idx 14 mi' 3) (hA : MA A) (hM : PM κ mi' d' [.ref (A 30), v0, v1, v2] (mset A M h) r) (hd' : d' + 1 ≤ d) (hcat : (catS rest).ble 8 = true) (kk : WW κ mi d k n Q E (pc + 3) L (r :: rest) (mset A M h)) : WW κ mi d k n Q E pc L (v2 :: v1 :: v0 :: .ref (A 30) :: rest) (mset A M h) :=
  r_callVP3 hd hv (mset_obj hA) hM hd' hcat kk
theorem m_callR3 {P : Int → MEM → Prop} {v0 v1 v2 : Value} (hd : decode mi.2.1 pc = .ok (.invokevirtual idx, 3)) (hv : CV mi.1.cls idx 14 mi' 3) (hA : MA A) (hM : RM κ mi' d' A [.ref (A 30), v0, v1, v2] M P) (hd' : d' + 1 ≤ d) (hcat : (catS rest).ble 8 = true) (kk : ∀ (r : Int) (M' : MEM), P r M' → WW κ mi d k n Q E (pc + 3) L (.int (J r) :: rest) (mset A M' h)) : WW κ mi d k n Q E pc L (v2 :: v1 :: v0 :: .ref (A 30) :: rest) (mset A M h) :=
  r_callV (As := [v0, v1, v2]) hd hv (mset_obj hA) (hM h) hd' rfl rfl (cat_le hcat) (Nat.zero_le _) (Nat.zero_le _) (fun v h' hq => by obtain ⟨r, M', rfl, rfl, hP⟩ := hq; exact kk r M' hP) (fun _ _ hx => hx.elim)
theorem m_callU3 {P : MEM → Prop} {v0 v1 v2 : Value} (hd : decode mi.2.1 pc = .ok (.invokevirtual idx, 3)) (hv : CV mi.1.cls idx 14 mi' 3) (hA : MA A) (hM : UM κ mi' d' A [.ref (A 30), v0, v1, v2] M P) (hd' : d' + 1 ≤ d) (hcat : (catS rest).ble 8 = true) (kk : ∀ M' : MEM, P M' → WW κ mi d k n Q E (pc + 3) L rest (mset A M' h)) : WW κ mi d k n Q E pc L (v2 :: v1 :: v0 :: .ref (A 30) :: rest) (mset A M h) :=
  r_callV (As := [v0, v1, v2]) hd hv (mset_obj hA) (hM h) hd' rfl rfl (cat_le hcat) (Nat.zero_le _) (Nat.zero_le _) (fun v h' hq => by obtain ⟨M', rfl, rfl, hP⟩ := hq; exact kk M' hP) (fun _ _ hx => hx.elim)
theorem m_callP4 {r : Value} {v0 v1 v2 v3 : Value} (hd : decode mi.2.1 pc = .ok (.invokevirtual idx, 3)) (hv : CV mi.1.cls idx 14 mi' 4) (hA : MA A) (hM : PM κ mi' d' [.ref (A 30), v0, v1, v2, v3] (mset A M h) r) (hd' : d' + 1 ≤ d) (hcat : (catS rest).ble 8 = true) (kk : WW κ mi d k n Q E (pc + 3) L (r :: rest) (mset A M h)) : WW κ mi d k n Q E pc L (v3 :: v2 :: v1 :: v0 :: .ref (A 30) :: rest) (mset A M h) :=
  r_callVP4 hd hv (mset_obj hA) hM hd' hcat kk
theorem m_callR4 {P : Int → MEM → Prop} {v0 v1 v2 v3 : Value} (hd : decode mi.2.1 pc = .ok (.invokevirtual idx, 3)) (hv : CV mi.1.cls idx 14 mi' 4) (hA : MA A) (hM : RM κ mi' d' A [.ref (A 30), v0, v1, v2, v3] M P) (hd' : d' + 1 ≤ d) (hcat : (catS rest).ble 8 = true) (kk : ∀ (r : Int) (M' : MEM), P r M' → WW κ mi d k n Q E (pc + 3) L (.int (J r) :: rest) (mset A M' h)) : WW κ mi d k n Q E pc L (v3 :: v2 :: v1 :: v0 :: .ref (A 30) :: rest) (mset A M h) :=
  r_callV (As := [v0, v1, v2, v3]) hd hv (mset_obj hA) (hM h) hd' rfl rfl (cat_le hcat) (Nat.zero_le _) (Nat.zero_le _) (fun v h' hq => by obtain ⟨r, M', rfl, rfl, hP⟩ := hq; exact kk r M' hP) (fun _ _ hx => hx.elim)
theorem m_callU4 {P : MEM → Prop} {v0 v1 v2 v3 : Value} (hd : decode mi.2.1 pc = .ok (.invokevirtual idx, 3)) (hv : CV mi.1.cls idx 14 mi' 4) (hA : MA A) (hM : UM κ mi' d' A [.ref (A 30), v0, v1, v2, v3] M P) (hd' : d' + 1 ≤ d) (hcat : (catS rest).ble 8 = true) (kk : ∀ M' : MEM, P M' → WW κ mi d k n Q E (pc + 3) L rest (mset A M' h)) : WW κ mi d k n Q E pc L (v3 :: v2 :: v1 :: v0 :: .ref (A 30) :: rest) (mset A M h) :=
  r_callV (As := [v0, v1, v2, v3]) hd hv (mset_obj hA) (hM h) hd' rfl rfl (cat_le hcat) (Nat.zero_le _) (Nat.zero_le _) (fun v h' hq => by obtain ⟨M', rfl, rfl, hP⟩ := hq; exact kk M' hP) (fun _ _ hx => hx.elim)
theorem ww_postR {st : List Value} {h0 : AH} {P P' : Int → MEM → Prop} (hP : ∀ r M', P r M' → P' r M') (kk : WW κ mi d k n (fun v h' => ∃ r M', v = some (.int (J r)) ∧ h' = mset A M' h0 ∧ P r M') NoX pc L st h) : WW κ mi d k n (fun v h' => ∃ r M', v = some (.int (J r)) ∧ h' = mset A M' h0 ∧ P' r M') NoX pc L st h :=
  ww_post (fun _ _ ⟨r, M', e1, e2, e3⟩ => ⟨r, M', e1, e2, hP r M' e3⟩) (fun _ _ hx => hx) kk
theorem ww_postU {st : List Value} {h0 : AH} {P P' : MEM → Prop} (hP : ∀ M', P M' → P' M') (kk : WW κ mi d k n (fun v h' => ∃ M', v = none ∧ h' = mset A M' h0 ∧ P M') NoX pc L st h) : WW κ mi d k n (fun v h' => ∃ M', v = none ∧ h' = mset A M' h0 ∧ P' M') NoX pc L st h :=
  ww_post (fun _ _ ⟨M', e1, e2, e3⟩ => ⟨M', e1, e2, hP M' e3⟩) (fun _ _ hx => hx) kk
theorem RM.mono {av : List Value} {P P' : Int → MEM → Prop} (hM : RM κ mi d A av M P) (hP : ∀ r M', P r M' → P' r M') : RM κ mi d A av M P' := by
  intro h l H0 D hf
  have := hM h l H0 D hf
  intro p e ha hc hk s m args below hf1 h1 h2 h3
  obtain ⟨k, o, a1, a2, a3, hq⟩ := this p e ha hc hk s m args below hf1 h1 h2 h3
  refine ⟨k, o, a1, a2, a3, ?_⟩
  rcases hq with ⟨⟨v, h', e1, ⟨r, M', e2, e3, e4⟩, e5⟩, e6⟩ | hx
  · exact Or.inl ⟨⟨v, h', e1, ⟨r, M', e2, e3, hP r M' e4⟩, e5⟩, e6⟩
  · exact Or.inr hx
end MCALL
