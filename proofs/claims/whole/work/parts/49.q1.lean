/-! ===== the JDK's own methods: texts, Math, bitCount ===== -/
/-- the text at s: n signs, t their places' signs -/
def BytAt (κ : KP) (h : AH) (b n : Nat) (t : Int → Int) : Prop := (∃ f : Int → Int, ArF h b .byte n (iv f) ∧ ∀ i : Int, 0 ≤ i → i < n → f i = t i) ∨ (b = κ.2.1 ∧ n = 0)
def StrAt (κ : KP) (h : AH) (s n : Nat) (t : Int → Int) : Prop := n ≤ 50 ∧ (∀ i : Int, 0 ≤ i → i < n → 0 ≤ t i ∧ t i < 128) ∧ ((∃ (b : Nat) (x y : Value), ObF h s 0 [.ref b, .int (J 0), x, y] ∧ ∃ f : Int → Int, ArF h b .byte n (iv f) ∧ ∀ i : Int, 0 ≤ i → i < n → f i = t i) ∨ (s = κ.1 ∧ n = 0))
theorem StrAt.fx {κ : KP} {h h' : AH} {s n : Nat} {t : Int → Int} (x : Fx h h') (H : StrAt κ h s n t) : StrAt κ h' s n t := by
  obtain ⟨h1, h2, ⟨b, x0, y0, h3, f, h4, h5⟩ | h3⟩ := H
  · exact ⟨h1, h2, Or.inl ⟨b, x0, y0, x _ _ h3, f, x _ _ h4, h5⟩⟩
  · exact ⟨h1, h2, Or.inr h3⟩
theorem StrAt.cong {κ : KP} {h : AH} {s n : Nat} {t t' : Int → Int} (e : ∀ i : Int, 0 ≤ i → i < n → t i = t' i) (H : StrAt κ h s n t) : StrAt κ h s n t' := by
  obtain ⟨h1, h2, ⟨b, x0, y0, h3, f, h4, h5⟩ | h3⟩ := H
  · exact ⟨h1, fun i a c => by rw [← e i a c]; exact h2 i a c, Or.inl ⟨b, x0, y0, h3, f, h4, fun i a c => (h5 i a c).trans (e i a c)⟩⟩
  · exact ⟨h1, fun i a c => by rw [← e i a c]; exact h2 i a c, Or.inr h3⟩
/-- a contract of a method that reads alone, its answer an int that P knows -/
def QM (κ : KP) (mi : MI) (d : Nat) (av : List Value) (h : AH) (P : Int → Prop) : Prop := MM κ mi d 0 0 av h (fun w h' => ∃ r, w = some (.int (J r)) ∧ rng r ∧ P r ∧ h' = h) NoX
section SROWS
variable {κ : KP} {mi : MI} {d k n : Nat} {Q : Option Value → AH → Prop} {E : String → AH → Prop} {pc : Nat} {L : List (Option Value)} {h : AH} {mi' : MI} {d' idx : Nat} {rest : List Value} {r : Value} {P : Int → Prop}
theorem r_callSQ0 (hd : decode mi.2.1 pc = .ok (.invokestatic idx, 3)) (hv : CS mi.1.cls idx mi' 0) (hM : QM κ mi' d' [] h P) (hd' : d' + 1 ≤ d) (hcat : (catS rest).ble 8 = true) (kk : ∀ r : Int, rng r → P r → WW κ mi d k n Q E (pc + 3) L (.int (J r) :: rest) h) : WW κ mi d k n Q E pc L (rest) h :=
  r_callS (As := []) hd hv hM hd' rfl rfl (cat_le hcat) (Nat.zero_le _) (Nat.zero_le _) (fun v h' hq => by obtain ⟨r, rfl, hr, hp, rfl⟩ := hq; exact kk r hr hp) (fun _ _ hx => hx.elim)
theorem r_callSNQ0 (hd : decode mi.2.1 pc = .ok (.invokestatic idx, 3)) (hv : CSN mi.1.cls idx mi' 0) (hM : QM κ mi' d' [] h P) (hd' : d' + 1 ≤ d) (hcat : (catS rest).ble 8 = true) (kk : ∀ r : Int, rng r → P r → WW κ mi d k n Q E (pc + 3) L (.int (J r) :: rest) h) : WW κ mi d k n Q E pc L (rest) h :=
  r_callSN (As := []) hd hv hM hd' rfl rfl (cat_le hcat) (Nat.zero_le _) (Nat.zero_le _) (fun v h' hq => by obtain ⟨r, rfl, hr, hp, rfl⟩ := hq; exact kk r hr hp)
theorem r_callVQ0 {b kc : Nat} {w : Bool} {fs : List Value} (hd : decode mi.2.1 pc = .ok (.invokevirtual idx, 3)) (hv : CV mi.1.cls idx kc mi' 0) (hrecv : h b = some (w, .inr (kc, fs))) (hM : QM κ mi' d' [.ref b] h P) (hd' : d' + 1 ≤ d) (hcat : (catS rest).ble 8 = true) (kk : ∀ r : Int, rng r → P r → WW κ mi d k n Q E (pc + 3) L (.int (J r) :: rest) h) : WW κ mi d k n Q E pc L (.ref b :: rest) h :=
  r_callV (As := []) hd hv hrecv hM hd' rfl rfl (cat_le hcat) (Nat.zero_le _) (Nat.zero_le _) (fun v h' hq => by obtain ⟨r, rfl, hr, hp, rfl⟩ := hq; exact kk r hr hp) (fun _ _ hx => hx.elim)
theorem r_sP0 {b n9 : Nat} {t : Int → Int} (hd : decode mi.2.1 pc = .ok (.invokevirtual idx, 3)) (hv : CV mi.1.cls idx 0 mi' 0) (hS : StrAt κ h b n9 t) (hM : PM κ mi' d' [.ref b] h r) (hd' : d' + 1 ≤ d) (hcat : (catS rest).ble 8 = true) (kk : WW κ mi d k n Q E (pc + 3) L (r :: rest) h) : WW κ mi d k n Q E pc L (.ref b :: rest) h := by
  rcases hS.2.2 with ⟨x1, x2, x3, h3, h4⟩ | ⟨rfl, h3⟩
  · exact r_callVP0 hd hv h3 hM hd' hcat kk
  · exact r_callVK (As := []) hd hv hM hd' rfl rfl (cat_le hcat) (Nat.zero_le _) (Nat.zero_le _) (fun v h' hq => by obtain ⟨rfl, rfl⟩ := hq; exact kk) (fun _ _ hx => hx.elim)
theorem r_sQ0 {b n9 : Nat} {t : Int → Int} (hd : decode mi.2.1 pc = .ok (.invokevirtual idx, 3)) (hv : CV mi.1.cls idx 0 mi' 0) (hS : StrAt κ h b n9 t) (hM : QM κ mi' d' [.ref b] h P) (hd' : d' + 1 ≤ d) (hcat : (catS rest).ble 8 = true) (kk : ∀ r : Int, rng r → P r → WW κ mi d k n Q E (pc + 3) L (.int (J r) :: rest) h) : WW κ mi d k n Q E pc L (.ref b :: rest) h := by
  rcases hS.2.2 with ⟨x1, x2, x3, h3, h4⟩ | ⟨rfl, h3⟩
  · exact r_callVQ0 hd hv h3 hM hd' hcat kk
  · exact r_callVK (As := []) hd hv hM hd' rfl rfl (cat_le hcat) (Nat.zero_le _) (Nat.zero_le _) (fun v h' hq => by obtain ⟨r, rfl, hr, hp, rfl⟩ := hq; exact kk r hr hp) (fun _ _ hx => hx.elim)
theorem r_callSQ1 {v0 : Value} (hd : decode mi.2.1 pc = .ok (.invokestatic idx, 3)) (hv : CS mi.1.cls idx mi' 1) (hM : QM κ mi' d' [v0] h P) (hd' : d' + 1 ≤ d) (hcat : (catS rest).ble 8 = true) (kk : ∀ r : Int, rng r → P r → WW κ mi d k n Q E (pc + 3) L (.int (J r) :: rest) h) : WW κ mi d k n Q E pc L (v0 :: rest) h :=
  r_callS (As := [v0]) hd hv hM hd' rfl rfl (cat_le hcat) (Nat.zero_le _) (Nat.zero_le _) (fun v h' hq => by obtain ⟨r, rfl, hr, hp, rfl⟩ := hq; exact kk r hr hp) (fun _ _ hx => hx.elim)
theorem r_callSNQ1 {v0 : Value} (hd : decode mi.2.1 pc = .ok (.invokestatic idx, 3)) (hv : CSN mi.1.cls idx mi' 1) (hM : QM κ mi' d' [v0] h P) (hd' : d' + 1 ≤ d) (hcat : (catS rest).ble 8 = true) (kk : ∀ r : Int, rng r → P r → WW κ mi d k n Q E (pc + 3) L (.int (J r) :: rest) h) : WW κ mi d k n Q E pc L (v0 :: rest) h :=
  r_callSN (As := [v0]) hd hv hM hd' rfl rfl (cat_le hcat) (Nat.zero_le _) (Nat.zero_le _) (fun v h' hq => by obtain ⟨r, rfl, hr, hp, rfl⟩ := hq; exact kk r hr hp)
theorem r_callVQ1 {b kc : Nat} {w : Bool} {fs : List Value} {v0 : Value} (hd : decode mi.2.1 pc = .ok (.invokevirtual idx, 3)) (hv : CV mi.1.cls idx kc mi' 1) (hrecv : h b = some (w, .inr (kc, fs))) (hM : QM κ mi' d' [.ref b, v0] h P) (hd' : d' + 1 ≤ d) (hcat : (catS rest).ble 8 = true) (kk : ∀ r : Int, rng r → P r → WW κ mi d k n Q E (pc + 3) L (.int (J r) :: rest) h) : WW κ mi d k n Q E pc L (v0 :: .ref b :: rest) h :=
  r_callV (As := [v0]) hd hv hrecv hM hd' rfl rfl (cat_le hcat) (Nat.zero_le _) (Nat.zero_le _) (fun v h' hq => by obtain ⟨r, rfl, hr, hp, rfl⟩ := hq; exact kk r hr hp) (fun _ _ hx => hx.elim)
theorem r_sP1 {b n9 : Nat} {t : Int → Int} {v0 : Value} (hd : decode mi.2.1 pc = .ok (.invokevirtual idx, 3)) (hv : CV mi.1.cls idx 0 mi' 1) (hS : StrAt κ h b n9 t) (hM : PM κ mi' d' [.ref b, v0] h r) (hd' : d' + 1 ≤ d) (hcat : (catS rest).ble 8 = true) (kk : WW κ mi d k n Q E (pc + 3) L (r :: rest) h) : WW κ mi d k n Q E pc L (v0 :: .ref b :: rest) h := by
  rcases hS.2.2 with ⟨x1, x2, x3, h3, h4⟩ | ⟨rfl, h3⟩
  · exact r_callVP1 hd hv h3 hM hd' hcat kk
  · exact r_callVK (As := [v0]) hd hv hM hd' rfl rfl (cat_le hcat) (Nat.zero_le _) (Nat.zero_le _) (fun v h' hq => by obtain ⟨rfl, rfl⟩ := hq; exact kk) (fun _ _ hx => hx.elim)
theorem r_sQ1 {b n9 : Nat} {t : Int → Int} {v0 : Value} (hd : decode mi.2.1 pc = .ok (.invokevirtual idx, 3)) (hv : CV mi.1.cls idx 0 mi' 1) (hS : StrAt κ h b n9 t) (hM : QM κ mi' d' [.ref b, v0] h P) (hd' : d' + 1 ≤ d) (hcat : (catS rest).ble 8 = true) (kk : ∀ r : Int, rng r → P r → WW κ mi d k n Q E (pc + 3) L (.int (J r) :: rest) h) : WW κ mi d k n Q E pc L (v0 :: .ref b :: rest) h := by
  rcases hS.2.2 with ⟨x1, x2, x3, h3, h4⟩ | ⟨rfl, h3⟩
  · exact r_callVQ1 hd hv h3 hM hd' hcat kk
  · exact r_callVK (As := [v0]) hd hv hM hd' rfl rfl (cat_le hcat) (Nat.zero_le _) (Nat.zero_le _) (fun v h' hq => by obtain ⟨r, rfl, hr, hp, rfl⟩ := hq; exact kk r hr hp) (fun _ _ hx => hx.elim)
theorem r_callSQ2 {v0 v1 : Value} (hd : decode mi.2.1 pc = .ok (.invokestatic idx, 3)) (hv : CS mi.1.cls idx mi' 2) (hM : QM κ mi' d' [v0, v1] h P) (hd' : d' + 1 ≤ d) (hcat : (catS rest).ble 8 = true) (kk : ∀ r : Int, rng r → P r → WW κ mi d k n Q E (pc + 3) L (.int (J r) :: rest) h) : WW κ mi d k n Q E pc L (v1 :: v0 :: rest) h :=
  r_callS (As := [v0, v1]) hd hv hM hd' rfl rfl (cat_le hcat) (Nat.zero_le _) (Nat.zero_le _) (fun v h' hq => by obtain ⟨r, rfl, hr, hp, rfl⟩ := hq; exact kk r hr hp) (fun _ _ hx => hx.elim)
theorem r_callSNQ2 {v0 v1 : Value} (hd : decode mi.2.1 pc = .ok (.invokestatic idx, 3)) (hv : CSN mi.1.cls idx mi' 2) (hM : QM κ mi' d' [v0, v1] h P) (hd' : d' + 1 ≤ d) (hcat : (catS rest).ble 8 = true) (kk : ∀ r : Int, rng r → P r → WW κ mi d k n Q E (pc + 3) L (.int (J r) :: rest) h) : WW κ mi d k n Q E pc L (v1 :: v0 :: rest) h :=
  r_callSN (As := [v0, v1]) hd hv hM hd' rfl rfl (cat_le hcat) (Nat.zero_le _) (Nat.zero_le _) (fun v h' hq => by obtain ⟨r, rfl, hr, hp, rfl⟩ := hq; exact kk r hr hp)
theorem r_callVQ2 {b kc : Nat} {w : Bool} {fs : List Value} {v0 v1 : Value} (hd : decode mi.2.1 pc = .ok (.invokevirtual idx, 3)) (hv : CV mi.1.cls idx kc mi' 2) (hrecv : h b = some (w, .inr (kc, fs))) (hM : QM κ mi' d' [.ref b, v0, v1] h P) (hd' : d' + 1 ≤ d) (hcat : (catS rest).ble 8 = true) (kk : ∀ r : Int, rng r → P r → WW κ mi d k n Q E (pc + 3) L (.int (J r) :: rest) h) : WW κ mi d k n Q E pc L (v1 :: v0 :: .ref b :: rest) h :=
  r_callV (As := [v0, v1]) hd hv hrecv hM hd' rfl rfl (cat_le hcat) (Nat.zero_le _) (Nat.zero_le _) (fun v h' hq => by obtain ⟨r, rfl, hr, hp, rfl⟩ := hq; exact kk r hr hp) (fun _ _ hx => hx.elim)
theorem r_sP2 {b n9 : Nat} {t : Int → Int} {v0 v1 : Value} (hd : decode mi.2.1 pc = .ok (.invokevirtual idx, 3)) (hv : CV mi.1.cls idx 0 mi' 2) (hS : StrAt κ h b n9 t) (hM : PM κ mi' d' [.ref b, v0, v1] h r) (hd' : d' + 1 ≤ d) (hcat : (catS rest).ble 8 = true) (kk : WW κ mi d k n Q E (pc + 3) L (r :: rest) h) : WW κ mi d k n Q E pc L (v1 :: v0 :: .ref b :: rest) h := by
  rcases hS.2.2 with ⟨x1, x2, x3, h3, h4⟩ | ⟨rfl, h3⟩
  · exact r_callVP2 hd hv h3 hM hd' hcat kk
  · exact r_callVK (As := [v0, v1]) hd hv hM hd' rfl rfl (cat_le hcat) (Nat.zero_le _) (Nat.zero_le _) (fun v h' hq => by obtain ⟨rfl, rfl⟩ := hq; exact kk) (fun _ _ hx => hx.elim)
theorem r_sQ2 {b n9 : Nat} {t : Int → Int} {v0 v1 : Value} (hd : decode mi.2.1 pc = .ok (.invokevirtual idx, 3)) (hv : CV mi.1.cls idx 0 mi' 2) (hS : StrAt κ h b n9 t) (hM : QM κ mi' d' [.ref b, v0, v1] h P) (hd' : d' + 1 ≤ d) (hcat : (catS rest).ble 8 = true) (kk : ∀ r : Int, rng r → P r → WW κ mi d k n Q E (pc + 3) L (.int (J r) :: rest) h) : WW κ mi d k n Q E pc L (v1 :: v0 :: .ref b :: rest) h := by
  rcases hS.2.2 with ⟨x1, x2, x3, h3, h4⟩ | ⟨rfl, h3⟩
  · exact r_callVQ2 hd hv h3 hM hd' hcat kk
  · exact r_callVK (As := [v0, v1]) hd hv hM hd' rfl rfl (cat_le hcat) (Nat.zero_le _) (Nat.zero_le _) (fun v h' hq => by obtain ⟨r, rfl, hr, hp, rfl⟩ := hq; exact kk r hr hp) (fun _ _ hx => hx.elim)
theorem r_callSQ3 {v0 v1 v2 : Value} (hd : decode mi.2.1 pc = .ok (.invokestatic idx, 3)) (hv : CS mi.1.cls idx mi' 3) (hM : QM κ mi' d' [v0, v1, v2] h P) (hd' : d' + 1 ≤ d) (hcat : (catS rest).ble 8 = true) (kk : ∀ r : Int, rng r → P r → WW κ mi d k n Q E (pc + 3) L (.int (J r) :: rest) h) : WW κ mi d k n Q E pc L (v2 :: v1 :: v0 :: rest) h :=
  r_callS (As := [v0, v1, v2]) hd hv hM hd' rfl rfl (cat_le hcat) (Nat.zero_le _) (Nat.zero_le _) (fun v h' hq => by obtain ⟨r, rfl, hr, hp, rfl⟩ := hq; exact kk r hr hp) (fun _ _ hx => hx.elim)
theorem r_callSNQ3 {v0 v1 v2 : Value} (hd : decode mi.2.1 pc = .ok (.invokestatic idx, 3)) (hv : CSN mi.1.cls idx mi' 3) (hM : QM κ mi' d' [v0, v1, v2] h P) (hd' : d' + 1 ≤ d) (hcat : (catS rest).ble 8 = true) (kk : ∀ r : Int, rng r → P r → WW κ mi d k n Q E (pc + 3) L (.int (J r) :: rest) h) : WW κ mi d k n Q E pc L (v2 :: v1 :: v0 :: rest) h :=
  r_callSN (As := [v0, v1, v2]) hd hv hM hd' rfl rfl (cat_le hcat) (Nat.zero_le _) (Nat.zero_le _) (fun v h' hq => by obtain ⟨r, rfl, hr, hp, rfl⟩ := hq; exact kk r hr hp)
theorem r_callVQ3 {b kc : Nat} {w : Bool} {fs : List Value} {v0 v1 v2 : Value} (hd : decode mi.2.1 pc = .ok (.invokevirtual idx, 3)) (hv : CV mi.1.cls idx kc mi' 3) (hrecv : h b = some (w, .inr (kc, fs))) (hM : QM κ mi' d' [.ref b, v0, v1, v2] h P) (hd' : d' + 1 ≤ d) (hcat : (catS rest).ble 8 = true) (kk : ∀ r : Int, rng r → P r → WW κ mi d k n Q E (pc + 3) L (.int (J r) :: rest) h) : WW κ mi d k n Q E pc L (v2 :: v1 :: v0 :: .ref b :: rest) h :=
  r_callV (As := [v0, v1, v2]) hd hv hrecv hM hd' rfl rfl (cat_le hcat) (Nat.zero_le _) (Nat.zero_le _) (fun v h' hq => by obtain ⟨r, rfl, hr, hp, rfl⟩ := hq; exact kk r hr hp) (fun _ _ hx => hx.elim)
theorem r_callSQ4 {v0 v1 v2 v3 : Value} (hd : decode mi.2.1 pc = .ok (.invokestatic idx, 3)) (hv : CS mi.1.cls idx mi' 4) (hM : QM κ mi' d' [v0, v1, v2, v3] h P) (hd' : d' + 1 ≤ d) (hcat : (catS rest).ble 8 = true) (kk : ∀ r : Int, rng r → P r → WW κ mi d k n Q E (pc + 3) L (.int (J r) :: rest) h) : WW κ mi d k n Q E pc L (v3 :: v2 :: v1 :: v0 :: rest) h :=
  r_callS (As := [v0, v1, v2, v3]) hd hv hM hd' rfl rfl (cat_le hcat) (Nat.zero_le _) (Nat.zero_le _) (fun v h' hq => by obtain ⟨r, rfl, hr, hp, rfl⟩ := hq; exact kk r hr hp) (fun _ _ hx => hx.elim)
theorem r_callSNQ4 {v0 v1 v2 v3 : Value} (hd : decode mi.2.1 pc = .ok (.invokestatic idx, 3)) (hv : CSN mi.1.cls idx mi' 4) (hM : QM κ mi' d' [v0, v1, v2, v3] h P) (hd' : d' + 1 ≤ d) (hcat : (catS rest).ble 8 = true) (kk : ∀ r : Int, rng r → P r → WW κ mi d k n Q E (pc + 3) L (.int (J r) :: rest) h) : WW κ mi d k n Q E pc L (v3 :: v2 :: v1 :: v0 :: rest) h :=
  r_callSN (As := [v0, v1, v2, v3]) hd hv hM hd' rfl rfl (cat_le hcat) (Nat.zero_le _) (Nat.zero_le _) (fun v h' hq => by obtain ⟨r, rfl, hr, hp, rfl⟩ := hq; exact kk r hr hp)
theorem r_callVQ4 {b kc : Nat} {w : Bool} {fs : List Value} {v0 v1 v2 v3 : Value} (hd : decode mi.2.1 pc = .ok (.invokevirtual idx, 3)) (hv : CV mi.1.cls idx kc mi' 4) (hrecv : h b = some (w, .inr (kc, fs))) (hM : QM κ mi' d' [.ref b, v0, v1, v2, v3] h P) (hd' : d' + 1 ≤ d) (hcat : (catS rest).ble 8 = true) (kk : ∀ r : Int, rng r → P r → WW κ mi d k n Q E (pc + 3) L (.int (J r) :: rest) h) : WW κ mi d k n Q E pc L (v3 :: v2 :: v1 :: v0 :: .ref b :: rest) h :=
  r_callV (As := [v0, v1, v2, v3]) hd hv hrecv hM hd' rfl rfl (cat_le hcat) (Nat.zero_le _) (Nat.zero_le _) (fun v h' hq => by obtain ⟨r, rfl, hr, hp, rfl⟩ := hq; exact kk r hr hp) (fun _ _ hx => hx.elim)
/-- a text's bytes -/
theorem r_strv {s n9 : Nat} {t : Int → Int} {st : List Value} (hd : decode mi.2.1 pc = .ok (.getfield idx, 3)) (hf : FL mi.1.cls idx 0 0) (hS : StrAt κ h s n9 t) (kk : ∀ b : Nat, BytAt κ h b n9 t → WW κ mi d k n Q E (pc + 3) L (.ref b :: st) h) : WW κ mi d k n Q E pc L (.ref s :: st) h := by
  rcases hS.2.2 with ⟨b, x, y, h3, h4⟩ | ⟨rfl, h3⟩
  · exact r_getfield hd hf h3 rfl (kk b (Or.inl h4))
  · exact r_getKv hd hf (kk κ.2.1 (Or.inr ⟨rfl, h3⟩))
theorem r_strc {s n9 : Nat} {t : Int → Int} {st : List Value} (hd : decode mi.2.1 pc = .ok (.getfield idx, 3)) (hf : FL mi.1.cls idx 0 1) (hS : StrAt κ h s n9 t) (kk : WW κ mi d k n Q E (pc + 3) L (.int (J 0) :: st) h) : WW κ mi d k n Q E pc L (.ref s :: st) h := by
  rcases hS.2.2 with ⟨b, x, y, h3, h4⟩ | ⟨rfl, h3⟩
  · exact r_getfield hd hf h3 rfl kk
  · exact r_getKc hd hf kk
theorem r_byl {b n9 : Nat} {t : Int → Int} {st : List Value} (hd : decode mi.2.1 pc = .ok (.arraylength, 1)) (hB : BytAt κ h b n9 t) (kk : WW κ mi d k n Q E (pc + 1) L (.int (J (n9 : Int)) :: st) h) : WW κ mi d k n Q E pc L (.ref b :: st) h := by
  rcases hB with ⟨f, hB, -⟩ | ⟨rfl, rfl⟩
  · exact r_alenF hd hB (by decide) rfl kk
  · exact r_alenK hd kk
theorem r_byJ {a N : Nat} {i : Int} {t : Int → Int} {st : List Value} (hd : decode mi.2.1 pc = .ok (.baload, 1)) (hB : BytAt κ h a N t) (h0 : 0 ≤ i) (h1 : i < N) (h2 : N < 2147483648) (kk : WW κ mi d k n Q E (pc + 1) L (.int (J (t i)) :: st) h) : WW κ mi d k n Q E pc L (.int (J i) :: .ref a :: st) h := by
  rcases hB with ⟨f, hB, hf⟩ | ⟨rfl, rfl⟩
  · exact r_bald hd hB h0 h1 h2 (by show Value.int (J (f ((i.toNat : Nat) : Int))) = _; rw [Int.toNat_of_nonneg h0, hf i h0 h1]) kk
  · exact absurd h1 (by show ¬ i < ((0 : Nat) : Int); omega)
theorem r_isubX {x y : Int32} {st : List Value} (hd : decode mi.2.1 pc = .ok (.isub, 1)) (kk : WW κ mi d k n Q E (pc + 1) L (.int (x - y) :: st) h) : WW κ mi d k n Q E pc L (.int y :: .int x :: st) h :=
  ww_step (fun p l e R s m args below meth c Z H locs cells slots ls hx hb hL k9 => lv_isub hx hb hd k9) kk
theorem r_iaddX {x y : Int32} {st : List Value} (hd : decode mi.2.1 pc = .ok (.iadd, 1)) (kk : WW κ mi d k n Q E (pc + 1) L (.int (x + y) :: st) h) : WW κ mi d k n Q E pc L (.int y :: .int x :: st) h :=
  ww_step (fun p l e R s m args below meth c Z H locs cells slots ls hx hb hL k9 => lv_iadd hx hb hd k9) kk
end SROWS
theorem J_shr0 (x : Int32) : x >>> (J 0 &&& 31) = x := by
  have : (J 0 &&& 31 : Int32) = 0 := by decide
  rw [this]
  simp
theorem by_and {z : Int} (h0 : 0 ≤ z) (h1 : z < 128) : ((J z &&& J 255).toUInt32 % 65536).toInt32 = J z := by
  have : ∀ n : Fin 128, ((J (n : Nat) &&& J 255).toUInt32 % 65536).toInt32 = J (n : Nat) := by decide +kernel
  have := this ⟨z.toNat, by omega⟩
  simpa [Int.toNat_of_nonneg h0] using this
theorem by_i2b {z : Int} (h0 : 0 ≤ z) (h1 : z < 128) : (J z).toInt8.toInt32 = J z := by
  have : ∀ n : Fin 128, (J (n : Nat)).toInt8.toInt32 = J (n : Nat) := by decide +kernel
  have := this ⟨z.toNat, by omega⟩
  simpa [Int.toNat_of_nonneg h0] using this
theorem nar_c {z : Int} (h0 : 0 ≤ z) (h1 : z < 128) : narrow .char (.int (J z)) = .int (J z) := by
  have : ∀ n : Fin 128, narrow .char (.int (J (n : Nat))) = .int (J (n : Nat)) := by decide +kernel
  have := this ⟨z.toNat, by omega⟩
  simpa [Int.toNat_of_nonneg h0] using this
/-- how many are true -/
def cn (f : Int → Bool) : Int := bI (f 0) + bI (f 1) + bI (f 2) + bI (f 3) + bI (f 4) + bI (f 5) + bI (f 6) + bI (f 7)
theorem cn_bd {f : Int → Bool} : 0 ≤ cn f ∧ cn f ≤ 8 := by
  have h := fun i => bI_01 (f i)
  have := h 0; have := h 1; have := h 2; have := h 3; have := h 4; have := h 5; have := h 6; have := h 7
  unfold cn
  omega
set_option maxRecDepth 100000 in
set_option maxHeartbeats 4000000 in
theorem c_isEmpty (κ : KP) (h : AH) {s n : Nat} {t : Int → Int} (hS : StrAt κ h s n t) : PM κ mJ0_isEmpty_aae02 1 [.ref s] h (.int (J (bI (tb (n = 0))))) := by
  refine mm_of (L := [some _]) (by decide +kernel) rfl rfl (Nat.le_of_ble_eq_true rfl) rfl ?_
  refine r_al0 dJ0_isEmpty_aae02_0 ?_
  refine r_strv dJ0_isEmpty_aae02_1 f_J0_9 hS (fun b hB => ?_)
  refine r_byl dJ0_isEmpty_aae02_4 hB ?_
  refine r_if_ne (tgt := 12) dJ0_isEmpty_aae02_5 (by decide) (by (have := hS.1; constructor <;> omega)) (fun c_5 => ?_) (fun c_5 => ?_)
  · refine r_iconst dJ0_isEmpty_aae02_12 ?_
    refine r_iret dJ0_isEmpty_aae02_13 (ty := .boolean) rfl (by first | exact nar_B _ | decide) ?_
    first | exact ⟨rfl, rfl⟩ | exact ⟨ret_t (by omega), rfl⟩ | exact ⟨ret_f (by omega), rfl⟩
  · refine r_iconst dJ0_isEmpty_aae02_8 ?_
    refine r_goto (tgt := 13) dJ0_isEmpty_aae02_9 (by decide) ?_
    refine r_iret dJ0_isEmpty_aae02_13 (ty := .boolean) rfl (by first | exact nar_B _ | decide) ?_
    first | exact ⟨rfl, rfl⟩ | exact ⟨ret_t (by omega), rfl⟩ | exact ⟨ret_f (by omega), rfl⟩
set_option maxRecDepth 100000 in
set_option maxHeartbeats 4000000 in
theorem c_coder (κ : KP) (h : AH) {s n : Nat} {t : Int → Int} (hS : StrAt κ h s n t) : PM κ mJ0_coder_7d493 1 [.ref s] h (.int (J 0)) := by
  refine mm_of (L := [some _]) (by decide +kernel) rfl rfl (Nat.le_of_ble_eq_true rfl) rfl ?_
  refine r_compact dJ0_coder_7d493_0 gs_J0_38 (Or.inl rfl) ?_
  refine r_ifB_eq (tgt := 13) dJ0_coder_7d493_3 (by decide) (fun c => absurd c (by decide)) (fun _ => ?_)
  refine r_al0 dJ0_coder_7d493_6 ?_
  refine r_strc dJ0_coder_7d493_7 f_J0_15 hS ?_
  refine r_goto (tgt := 14) dJ0_coder_7d493_10 (by decide) ?_
  refine r_iret dJ0_coder_7d493_14 (ty := .byte) rfl (by decide +kernel) ?_
  exact ⟨rfl, rfl⟩
set_option maxRecDepth 100000 in
set_option maxHeartbeats 4000000 in
theorem c_isLat (κ : KP) (h : AH) {s n : Nat} {t : Int → Int} (hS : StrAt κ h s n t) : PM κ mJ0_isLatin1_aae02 1 [.ref s] h (.int (J (bI true))) := by
  refine mm_of (L := [some _]) (by decide +kernel) rfl rfl (Nat.le_of_ble_eq_true rfl) rfl ?_
  refine r_compact dJ0_isLatin1_aae02_0 gs_J0_38 (Or.inl rfl) ?_
  refine r_ifB_eq (tgt := 17) dJ0_isLatin1_aae02_3 (by decide) (fun c => absurd c (by decide)) (fun _ => ?_)
  refine r_al0 dJ0_isLatin1_aae02_6 ?_
  refine r_strc dJ0_isLatin1_aae02_7 f_J0_15 hS ?_
  refine r_if_ne (tgt := 17) dJ0_isLatin1_aae02_10 (by decide) (by omega) (fun c_10 => ?_) (fun c_10 => ?_)
  · exact absurd rfl c_10
  · refine r_iconst dJ0_isLatin1_aae02_13 ?_
    refine r_goto (tgt := 18) dJ0_isLatin1_aae02_14 (by decide) ?_
    refine r_iret dJ0_isLatin1_aae02_18 (ty := .boolean) rfl (by decide +kernel) ?_
    exact ⟨rfl, rfl⟩
set_option maxRecDepth 100000 in
set_option maxHeartbeats 4000000 in
theorem c_slen (κ : KP) (h : AH) {s n : Nat} {t : Int → Int} (hS : StrAt κ h s n t) : PM κ mJ0_length_8abf5 2 [.ref s] h (.int (J (n : Int))) := by
  refine mm_of (L := [some _]) (by decide +kernel) rfl rfl (Nat.le_of_ble_eq_true rfl) rfl ?_
  refine r_al0 dJ0_length_8abf5_0 ?_
  refine r_strv dJ0_length_8abf5_1 f_J0_9 hS (fun b hB => ?_)
  refine r_byl dJ0_length_8abf5_4 hB ?_
  refine r_al0 dJ0_length_8abf5_5 ?_
  refine r_sP0 dJ0_length_8abf5_6 v_J0_335 hS (c_coder κ h hS) (by decide) rfl ?_
  refine r_ishr dJ0_length_8abf5_9 ?_
  refine r_iret dJ0_length_8abf5_10 (ty := .int) rfl (rfl) ?_
  exact ⟨by rw [J_shr0], rfl⟩
theorem r_max {κ : KP} {mi : MI} {d k n : Nat} {Q : Option Value → AH → Prop} {E : String → AH → Prop} {pc : Nat} {L : List (Option Value)} {h : AH} {idx : Nat} {rest : List Value} {a b : Int} (hd : decode mi.2.1 pc = .ok (.invokestatic idx, 3)) (hv : CS mi.1.cls idx mJ9_max_7cf53 2) (ra : rng a) (rb : rng b) (hd1 : 1 ≤ d) (hcat : (catS rest).ble 8 = true) (kk : WW κ mi d k n Q E (pc + 3) L (.int (J (max a b)) :: rest) h) : WW κ mi d k n Q E pc L (.int (J b) :: .int (J a) :: rest) h := by
  intro H0 D p l e R s m args below meth c Z C F H locs cells slots ls hR hl hk hn hL hlen
  have k9 := kk H0 D p l e R s m args below meth c Z C F H locs cells slots ls hR hl hk hn hL hlen
  obtain ⟨⟨⟨h2, h3, h4, h5, h6, h7⟩, h1⟩, hml, hst⟩ := hv
  obtain ⟨hx, hfl, hb, hr, hmx, hown, hnm, hlk, htab, hts, hG, hdR, hlR, -⟩ := C
  have hc9 := cat_le hcat
  have e0 : hdOf mJ9_max_7cf53 = Cond.code Lib.Math.max.name Lib.Math.max.code 2 (some .int) := by decide +kernel
  refine va_mmax hx hb (by rw [hmx]; exact (hL.1.trans hlen).symm) hown (hts _ hml) (hts _ hst) (hts _ h3) (by rw [← e0]; exact hts _ h2) (by omega) (by omega) (by omega) (by omega) hd ?_
  have e : (if J a < J b then J b else J a) = J (max a b) := by
    by_cases q : a < b
    · rw [if_pos ((J_lt ra rb).mpr q)]
      congr 1
      omega
    · rw [if_neg (fun z => q ((J_lt ra rb).mp z))]
      congr 1
      omega
  rw [e]
  exact k9
theorem r_min {κ : KP} {mi : MI} {d k n : Nat} {Q : Option Value → AH → Prop} {E : String → AH → Prop} {pc : Nat} {L : List (Option Value)} {h : AH} {idx : Nat} {rest : List Value} {a b : Int} (hd : decode mi.2.1 pc = .ok (.invokestatic idx, 3)) (hv : CS mi.1.cls idx mJ9_min_7cf53 2) (ra : rng a) (rb : rng b) (hd1 : 1 ≤ d) (hcat : (catS rest).ble 8 = true) (kk : WW κ mi d k n Q E (pc + 3) L (.int (J (min a b)) :: rest) h) : WW κ mi d k n Q E pc L (.int (J b) :: .int (J a) :: rest) h := by
  intro H0 D p l e R s m args below meth c Z C F H locs cells slots ls hR hl hk hn hL hlen
  have k9 := kk H0 D p l e R s m args below meth c Z C F H locs cells slots ls hR hl hk hn hL hlen
  obtain ⟨⟨⟨h2, h3, h4, h5, h6, h7⟩, h1⟩, hml, hst⟩ := hv
  obtain ⟨hx, hfl, hb, hr, hmx, hown, hnm, hlk, htab, hts, hG, hdR, hlR, -⟩ := C
  have hc9 := cat_le hcat
  have e0 : hdOf mJ9_min_7cf53 = Cond.code Lib.Math.min.name Lib.Math.min.code 2 (some .int) := by decide +kernel
  refine va_mmin hx hb (by rw [hmx]; exact (hL.1.trans hlen).symm) hown (hts _ hml) (hts _ hst) (hts _ h3) (by rw [← e0]; exact hts _ h2) (by omega) (by omega) (by omega) (by omega) hd ?_
  have e : (if J b < J a then J b else J a) = J (min a b) := by
    by_cases q : b < a
    · rw [if_pos ((J_lt rb ra).mpr q)]
      congr 1
      omega
    · rw [if_neg (fun z => q ((J_lt rb ra).mp z))]
      congr 1
      omega
  rw [e]
  exact k9
set_option maxRecDepth 100000 in
set_option maxHeartbeats 4000000 in
theorem c_canEnc (κ : KP) (h : AH) {c : Int} (c0 : 0 ≤ c) (c1 : c < 256) : PM κ mJ1_canEncode_9a6ad 1 [.int (J c)] h (.int (J (bI true))) := by
  refine mm_of (L := [some _]) (by decide +kernel) rfl rfl (Nat.le_of_ble_eq_true rfl) rfl ?_
  refine r_il0 dJ1_canEncode_9a6ad_0 ?_
  refine r_if_lt (tgt := 15) dJ1_canEncode_9a6ad_1 (by decide) (by (constructor <;> omega)) (fun c_1 => ?_) (fun c_1 => ?_)
  · exact absurd c_1 (by omega)
  · refine r_il0 dJ1_canEncode_9a6ad_4 ?_
    refine r_sipush dJ1_canEncode_9a6ad_5 (by decide) ?_
    refine r_icmp_gt (tgt := 15) dJ1_canEncode_9a6ad_8 (by decide) (by (constructor <;> omega)) (by (constructor <;> omega)) (fun c_8 => ?_) (fun c_8 => ?_)
    · exact absurd c_8 (by omega)
    · refine r_iconst dJ1_canEncode_9a6ad_11 ?_
      refine r_goto (tgt := 16) dJ1_canEncode_9a6ad_12 (by decide) ?_
      refine r_iret dJ1_canEncode_9a6ad_16 (ty := .boolean) rfl (by decide +kernel) ?_
      exact ⟨rfl, rfl⟩
set_option maxRecDepth 100000 in
set_option maxHeartbeats 4000000 in
theorem l_iocs (κ : KP) (h : AH) {b n : Nat} {t : Int → Int} {c : Int} (hB : BytAt κ h b n t) (hn : n ≤ 50) (ht : ∀ i : Int, 0 ≤ i → i < n → 0 ≤ t i ∧ t i < 128) (c0 : 0 ≤ c) (c1 : c < 128) : ∀ (f : Nat) (i : Int), (n : Int) - i < (f : Int) → 0 ≤ i → i ≤ n → (∀ j : Int, 0 ≤ j → j < i → t j ≠ c) → WW κ mJ1_indexOfChar_4cfef 1 0 0 (fun w h' => ∃ r, w = some (.int (J r)) ∧ rng r ∧ (0 ≤ r ↔ ∃ j : Int, 0 ≤ j ∧ j < n ∧ t j = c) ∧ h' = h) NoX 7 [some (.ref b), some (.int (J c)), some (.int (J 0)), some (.int (J (n : Int))), some (.int (J c)), some (.int (J i))] [] h := by
  intro f
  induction f with
  | zero =>
    intro i hf i0 i1 hno
    exact absurd hf (by omega)
  | succ f ih =>
    intro i hf i0 i1 hno
    refine r_il5 dJ1_indexOfChar_4cfef_7 ?_
    refine r_il3 dJ1_indexOfChar_4cfef_9 ?_
    refine r_icmp_ge (tgt := 31) dJ1_indexOfChar_4cfef_10 (by decide) (by (first | (constructor <;> omega) | (have := ht i i0 (by omega); constructor <;> omega))) (by (first | (constructor <;> omega) | (have := ht i i0 (by omega); constructor <;> omega))) (fun c_10 => ?_) (fun c_10 => ?_)
    · refine r_iconst dJ1_indexOfChar_4cfef_31 ?_
      refine r_iret dJ1_indexOfChar_4cfef_32 (ty := .int) rfl rfl ⟨_, rfl, ?_, ?_, rfl⟩
      · constructor <;> omega
      · exact ⟨fun z => by omega, fun ⟨j, h1, h2, h3⟩ => absurd h3 (hno j h1 (by omega))⟩
    · refine r_al0 dJ1_indexOfChar_4cfef_13 ?_
      refine r_il5 dJ1_indexOfChar_4cfef_14 ?_
      refine r_byJ dJ1_indexOfChar_4cfef_16 hB (by omega) (by omega) (by omega) ?_
      refine r_il4 dJ1_indexOfChar_4cfef_17 ?_
      refine r_icmp_ne (tgt := 25) dJ1_indexOfChar_4cfef_19 (by decide) (by (first | (constructor <;> omega) | (have := ht i i0 (by omega); constructor <;> omega))) (by (first | (constructor <;> omega) | (have := ht i i0 (by omega); constructor <;> omega))) (fun c_19 => ?_) (fun c_19 => ?_)
      · refine r_inc5 dJ1_indexOfChar_4cfef_25 rfl ?_
        refine r_goto (tgt := 7) dJ1_indexOfChar_4cfef_28 (by decide) ?_
        refine ih (i + 1) (by omega) (by omega) (by omega) (fun j h1 h2 => ?_)
        rcases (show j < i ∨ j = i by omega) with q | q
        · exact hno j h1 q
        · rw [q]; exact c_19
      · refine r_il5 dJ1_indexOfChar_4cfef_22 ?_
        refine r_iret dJ1_indexOfChar_4cfef_24 (ty := .int) rfl rfl ⟨_, rfl, ?_, ?_, rfl⟩
        · constructor <;> omega
        · exact ⟨fun _ => ⟨i, i0, by omega, c_19⟩, fun _ => by omega⟩
set_option maxRecDepth 100000 in
set_option maxHeartbeats 4000000 in
theorem c_iocs (κ : KP) (h : AH) {b n : Nat} {t : Int → Int} {c : Int} (hB : BytAt κ h b n t) (hn : n ≤ 50) (ht : ∀ i : Int, 0 ≤ i → i < n → 0 ≤ t i ∧ t i < 128) (c0 : 0 ≤ c) (c1 : c < 128) : QM κ mJ1_indexOfChar_4cfef 1 [.ref b, .int (J c), .int (J 0), .int (J (n : Int))] h (fun r => 0 ≤ r ↔ ∃ j : Int, 0 ≤ j ∧ j < n ∧ t j = c) := by
  refine mm_of (L := [some _, some _, some _, some _, none, none]) (by decide +kernel) rfl rfl (Nat.le_of_ble_eq_true rfl) rfl ?_
  refine r_il1 dJ1_indexOfChar_4cfef_0 ?_
  refine r_i2b dJ1_indexOfChar_4cfef_1 ?_
  rw [by_i2b c0 c1]
  refine r_is4 dJ1_indexOfChar_4cfef_2 rfl ?_
  refine r_il2 dJ1_indexOfChar_4cfef_4 ?_
  refine r_is5 dJ1_indexOfChar_4cfef_5 rfl ?_
  exact l_iocs κ h hB hn ht c0 c1 (n + 1) 0 (by omega) (by omega) (by omega) (fun j h1 h2 => by omega)
set_option maxRecDepth 100000 in
set_option maxHeartbeats 4000000 in
theorem c_ixB (κ : KP) (h : AH) {b n : Nat} {t : Int → Int} {c : Int} (hB : BytAt κ h b n t) (hn : n ≤ 50) (ht : ∀ i : Int, 0 ≤ i → i < n → 0 ≤ t i ∧ t i < 128) (c0 : 0 ≤ c) (c1 : c < 128) : QM κ mJ1_indexOf_4cfef 2 [.ref b, .int (J c), .int (J 0), .int (J (n : Int))] h (fun r => 0 ≤ r ↔ ∃ j : Int, 0 ≤ j ∧ j < n ∧ t j = c) := by
  refine mm_of (L := [some _, some _, some _, some _]) (by decide +kernel) rfl rfl (Nat.le_of_ble_eq_true rfl) rfl ?_
  refine r_il1 dJ1_indexOf_4cfef_0 ?_
  refine r_callSP1 dJ1_indexOf_4cfef_1 s_J1_88 (c_canEnc κ h c0 (by omega)) (by decide) rfl ?_
  refine r_ifB_ne (tgt := 9) dJ1_indexOf_4cfef_4 (by decide) (fun _ => ?_) (fun c => absurd c (by decide))
  refine r_il2 dJ1_indexOf_4cfef_9 ?_
  refine r_iconst dJ1_indexOf_4cfef_10 ?_
  refine r_max dJ1_indexOf_4cfef_11 s_J1_92 (by decide) (by decide) (by decide) rfl ?_
  refine r_is2 dJ1_indexOf_4cfef_14 rfl ?_
  refine r_il3 dJ1_indexOf_4cfef_15 ?_
  refine r_al0 dJ1_indexOf_4cfef_16 ?_
  refine r_byl dJ1_indexOf_4cfef_17 hB ?_
  refine r_min dJ1_indexOf_4cfef_18 s_J1_38 (by constructor <;> omega) (by constructor <;> omega) (by decide) rfl ?_
  refine r_is3 dJ1_indexOf_4cfef_21 rfl ?_
  refine r_il2 dJ1_indexOf_4cfef_22 ?_
  refine r_il3 dJ1_indexOf_4cfef_23 ?_
  refine r_icmp_lt (tgt := 29) dJ1_indexOf_4cfef_24 (by decide) (by (constructor <;> omega)) (by (constructor <;> omega)) (fun c_24 => ?_) (fun c_24 => ?_)
  · refine r_al0 dJ1_indexOf_4cfef_29 ?_
    refine r_il1 dJ1_indexOf_4cfef_30 ?_
    refine r_il2 dJ1_indexOf_4cfef_31 ?_
    refine r_il3 dJ1_indexOf_4cfef_32 ?_
    have e1 : max (0 : Int) 0 = 0 := by decide
    have e2 : min (n : Int) n = n := by omega
    rw [e1, e2]
    refine r_callSQ4 dJ1_indexOf_4cfef_33 s_J1_95 (c_iocs κ h hB hn ht c0 c1) (by decide) rfl (fun r_33 rr_33 h_33 => ?_)
    refine r_iret dJ1_indexOf_4cfef_36 (ty := .int) rfl rfl ⟨_, rfl, ?_, ?_, rfl⟩
    · exact rr_33
    · exact h_33
  · refine r_iconst dJ1_indexOf_4cfef_27 ?_
    refine r_iret dJ1_indexOf_4cfef_28 (ty := .int) rfl rfl ⟨_, rfl, ?_, ?_, rfl⟩
    · decide
    · exact ⟨fun z => absurd z (by decide), fun ⟨j, h1, h2, h3⟩ => by omega⟩
set_option maxRecDepth 100000 in
set_option maxHeartbeats 4000000 in
theorem c_ix2 (κ : KP) (h : AH) {s n : Nat} {t : Int → Int} {c : Int} (hS : StrAt κ h s n t) (c0 : 0 ≤ c) (c1 : c < 128) : QM κ mJ0_indexOf_7cf53 3 [.ref s, .int (J c), .int (J 0)] h (fun r => 0 ≤ r ↔ ∃ j : Int, 0 ≤ j ∧ j < n ∧ t j = c) := by
  refine mm_of (L := [some _, some _, some _]) (by decide +kernel) rfl rfl (Nat.le_of_ble_eq_true rfl) rfl ?_
  refine r_al0 dJ0_indexOf_7cf53_0 ?_
  refine r_sP0 dJ0_indexOf_7cf53_1 v_J0_492 hS (c_isLat κ h hS) (by decide) rfl ?_
  refine r_ifB_eq (tgt := 23) dJ0_indexOf_7cf53_4 (by decide) (fun c => absurd c (by decide)) (fun _ => ?_)
  refine r_al0 dJ0_indexOf_7cf53_7 ?_
  refine r_strv dJ0_indexOf_7cf53_8 f_J0_9 hS (fun b hB => ?_)
  refine r_il1 dJ0_indexOf_7cf53_11 ?_
  refine r_il2 dJ0_indexOf_7cf53_12 ?_
  refine r_al0 dJ0_indexOf_7cf53_13 ?_
  refine r_sP0 dJ0_indexOf_7cf53_14 v_J0_505 hS (c_slen κ h hS) (by decide) rfl ?_
  refine r_callSQ4 dJ0_indexOf_7cf53_17 s_J0_637 (c_ixB κ h hB hS.1 hS.2.1 c0 c1) (by decide) rfl (fun r_17 rr_17 h_17 => ?_)
  refine r_goto (tgt := 36) dJ0_indexOf_7cf53_20 (by decide) ?_
  exact r_iret dJ0_indexOf_7cf53_36 (ty := .int) rfl rfl ⟨_, rfl, rr_17, h_17, rfl⟩
set_option maxRecDepth 100000 in
set_option maxHeartbeats 4000000 in
theorem c_ixOf (κ : KP) (h : AH) {s n : Nat} {t : Int → Int} {c : Int} (hS : StrAt κ h s n t) (c0 : 0 ≤ c) (c1 : c < 128) : QM κ mJ0_indexOf_0f7a4 4 [.ref s, .int (J c)] h (fun r => 0 ≤ r ↔ ∃ j : Int, 0 ≤ j ∧ j < n ∧ t j = c) := by
  refine mm_of (L := [some _, some _]) (by decide +kernel) rfl rfl (Nat.le_of_ble_eq_true rfl) rfl ?_
  refine r_al0 dJ0_indexOf_0f7a4_0 ?_
  refine r_il1 dJ0_indexOf_0f7a4_1 ?_
  refine r_iconst dJ0_indexOf_0f7a4_2 ?_
  refine r_sQ2 dJ0_indexOf_0f7a4_3 v_J0_633 hS (c_ix2 κ h hS c0 c1) (by decide) rfl (fun r_3 rr_3 h_3 => ?_)
  exact r_iret dJ0_indexOf_0f7a4_6 (ty := .int) rfl rfl ⟨_, rfl, rr_3, h_3, rfl⟩
set_option maxRecDepth 100000 in
set_option maxHeartbeats 4000000 in
theorem c_pciN (κ : KP) (h : AH) {i n : Int} {x : Nat} (i0 : 0 ≤ i) (i1 : i < n) (n1 : n < 1000000) : PM κ mJ3_checkIndex_8e157 1 [.int (J i), .int (J n), .null] h (.int (J i)) := by
  refine mm_of (L := [some _, some _, some _]) (by decide +kernel) rfl rfl (Nat.le_of_ble_eq_true rfl) rfl ?_
  refine r_il0 dJ3_checkIndex_8e157_0 ?_
  refine r_if_lt (tgt := 9) dJ3_checkIndex_8e157_1 (by decide) (by constructor <;> omega) (fun c => absurd c (by omega)) (fun _ => ?_)
  refine r_il0 dJ3_checkIndex_8e157_4 ?_
  refine r_il1 dJ3_checkIndex_8e157_5 ?_
  refine r_icmp_lt (tgt := 16) dJ3_checkIndex_8e157_6 (by decide) (by constructor <;> omega) (by constructor <;> omega) (fun _ => ?_) (fun c => absurd c (by omega))
  refine r_il0 dJ3_checkIndex_8e157_16 ?_
  exact r_iret dJ3_checkIndex_8e157_17 (ty := .int) rfl rfl ⟨rfl, rfl⟩
set_option maxRecDepth 100000 in
set_option maxHeartbeats 4000000 in
theorem c_pciR (κ : KP) (h : AH) {i n : Int} {x : Nat} (i0 : 0 ≤ i) (i1 : i < n) (n1 : n < 1000000) : PM κ mJ3_checkIndex_8e157 1 [.int (J i), .int (J n), .ref x] h (.int (J i)) := by
  refine mm_of (L := [some _, some _, some _]) (by decide +kernel) rfl rfl (Nat.le_of_ble_eq_true rfl) rfl ?_
  refine r_il0 dJ3_checkIndex_8e157_0 ?_
  refine r_if_lt (tgt := 9) dJ3_checkIndex_8e157_1 (by decide) (by constructor <;> omega) (fun c => absurd c (by omega)) (fun _ => ?_)
  refine r_il0 dJ3_checkIndex_8e157_4 ?_
  refine r_il1 dJ3_checkIndex_8e157_5 ?_
  refine r_icmp_lt (tgt := 16) dJ3_checkIndex_8e157_6 (by decide) (by constructor <;> omega) (by constructor <;> omega) (fun _ => ?_) (fun c => absurd c (by omega))
  refine r_il0 dJ3_checkIndex_8e157_16 ?_
  exact r_iret dJ3_checkIndex_8e157_17 (ty := .int) rfl rfl ⟨rfl, rfl⟩
theorem c_pci (κ : KP) (h : AH) {i n : Int} {x : Option Nat} (i0 : 0 ≤ i) (i1 : i < n) (n1 : n < 1000000) : PM κ mJ3_checkIndex_8e157 1 [.int (J i), .int (J n), va_rf x] h (.int (J i)) := by
  cases x
  · exact c_pciN κ h (x := 0) i0 i1 n1
  · exact c_pciR κ h i0 i1 n1
set_option maxRecDepth 100000 in
set_option maxHeartbeats 4000000 in
theorem c_sci (κ : KP) (h : AH) {i n : Int} (i0 : 0 ≤ i) (i1 : i < n) (n1 : n < 1000000) : MM κ mJ0_checkIndex_df160 2 0 0 [.int (J i), .int (J n)] h (fun w h' => w = none ∧ h' = h) NoX := by
  refine mm_of (L := [some _, some _]) (by decide +kernel) rfl rfl (Nat.le_of_ble_eq_true rfl) rfl ?_
  refine r_il0 dJ0_checkIndex_df160_0 ?_
  refine r_il1 dJ0_checkIndex_df160_1 ?_
  refine r_sioobe dJ0_checkIndex_df160_2 gs_J0_1053 (Or.inl rfl) (fun x => ?_)
  refine r_callSP3 dJ0_checkIndex_df160_5 s_J0_1059 (c_pci κ h i0 i1 n1) (by decide) rfl ?_
  refine r_pop dJ0_checkIndex_df160_8 rfl ?_
  exact r_ret dJ0_checkIndex_df160_9 rfl ⟨rfl, rfl⟩
theorem r_callSV2 {κ : KP} {mi : MI} {d k n : Nat} {Q : Option Value → AH → Prop} {E : String → AH → Prop} {pc : Nat} {L : List (Option Value)} {h : AH} {mi' : MI} {d' idx : Nat} {rest : List Value} {v0 v1 : Value} (hd : decode mi.2.1 pc = .ok (.invokestatic idx, 3)) (hv : CS mi.1.cls idx mi' 2) (hM : MM κ mi' d' 0 0 [v0, v1] h (fun w h' => w = none ∧ h' = h) NoX) (hd' : d' + 1 ≤ d) (hcat : (catS rest).ble 8 = true) (kk : WW κ mi d k n Q E (pc + 3) L rest h) : WW κ mi d k n Q E pc L (v1 :: v0 :: rest) h :=
  r_callS (As := [v0, v1]) hd hv hM hd' rfl rfl (cat_le hcat) (Nat.zero_le _) (Nat.zero_le _) (fun v h' hq => by obtain ⟨rfl, rfl⟩ := hq; exact kk) (fun _ _ hx => hx.elim)
set_option maxRecDepth 100000 in
set_option maxHeartbeats 4000000 in
theorem c_l1ca (κ : KP) (h : AH) {b n : Nat} {t : Int → Int} {i : Int} (hB : BytAt κ h b n t) (hn : n ≤ 50) (ht : ∀ i : Int, 0 ≤ i → i < n → 0 ≤ t i ∧ t i < 128) (i0 : 0 ≤ i) (i1 : i < n) : PM κ mJ1_charAt_3b067 3 [.ref b, .int (J i)] h (.int (J (t i))) := by
  refine mm_of (L := [some _, some _]) (by decide +kernel) rfl rfl (Nat.le_of_ble_eq_true rfl) rfl ?_
  refine r_il1 dJ1_charAt_3b067_0 ?_
  refine r_al0 dJ1_charAt_3b067_1 ?_
  refine r_byl dJ1_charAt_3b067_2 hB ?_
  refine r_callSV2 dJ1_charAt_3b067_3 s_J1_9 (c_sci κ h i0 i1 (by omega)) (by decide) rfl ?_
  refine r_al0 dJ1_charAt_3b067_6 ?_
  refine r_il1 dJ1_charAt_3b067_7 ?_
  refine r_byJ dJ1_charAt_3b067_8 hB (by omega) (by omega) (by omega) ?_
  refine r_sipush dJ1_charAt_3b067_9 (by decide) ?_
  refine r_iand dJ1_charAt_3b067_12 ?_
  refine r_i2c dJ1_charAt_3b067_13 ?_
  rw [by_and (ht i i0 i1).1 (ht i i0 i1).2]
  exact r_iret dJ1_charAt_3b067_14 (ty := .char) rfl (nar_c (ht i i0 i1).1 (ht i i0 i1).2) ⟨rfl, rfl⟩
set_option maxRecDepth 100000 in
set_option maxHeartbeats 4000000 in
theorem c_sca (κ : KP) (h : AH) {s n : Nat} {t : Int → Int} {i : Int} (hS : StrAt κ h s n t) (i0 : 0 ≤ i) (i1 : i < n) : PM κ mJ0_charAt_5068e 4 [.ref s, .int (J i)] h (.int (J (t i))) := by
  refine mm_of (L := [some _, some _]) (by decide +kernel) rfl rfl (Nat.le_of_ble_eq_true rfl) rfl ?_
  refine r_al0 dJ0_charAt_5068e_0 ?_
  refine r_sP0 dJ0_charAt_5068e_1 v_J0_492 hS (c_isLat κ h hS) (by decide) rfl ?_
  refine r_ifB_eq (tgt := 16) dJ0_charAt_5068e_4 (by decide) (fun c => absurd c (by decide)) (fun _ => ?_)
  refine r_al0 dJ0_charAt_5068e_7 ?_
  refine r_strv dJ0_charAt_5068e_8 f_J0_9 hS (fun b hB => ?_)
  refine r_il1 dJ0_charAt_5068e_11 ?_
  refine r_callSP2 dJ0_charAt_5068e_12 s_J0_495 (c_l1ca κ h hB hS.1 hS.2.1 i0 i1) (by decide) rfl ?_
  exact r_iret dJ0_charAt_5068e_15 (ty := .char) rfl (nar_c (hS.2.1 i i0 i1).1 (hS.2.1 i i0 i1).2) ⟨rfl, rfl⟩
set_option maxRecDepth 100000 in
set_option maxHeartbeats 4000000 in
theorem c_bitCount (κ : KP) (h : AH) {f : Int → Bool} : PM κ mJ6_bitCount_0f7a4 1 [.int (J (bs f))] h (.int (J (cn f))) := by
  refine mm_of (L := [some _]) (by decide +kernel) rfl rfl (Nat.le_of_ble_eq_true rfl) rfl ?_
  refine r_il0 dJ6_bitCount_0f7a4_0 ?_
  refine r_il0 dJ6_bitCount_0f7a4_1 ?_
  refine r_iconst dJ6_bitCount_0f7a4_2 ?_
  refine r_iushr dJ6_bitCount_0f7a4_3 ?_
  refine r_ldcw dJ6_bitCount_0f7a4_4 k_J6_265 (J_of _) ?_
  refine r_iand dJ6_bitCount_0f7a4_7 ?_
  refine r_isubX dJ6_bitCount_0f7a4_8 ?_
  refine r_is0 dJ6_bitCount_0f7a4_9 ?_
  refine r_il0 dJ6_bitCount_0f7a4_10 ?_
  refine r_ldcw dJ6_bitCount_0f7a4_11 k_J6_266 (J_of _) ?_
  refine r_iand dJ6_bitCount_0f7a4_14 ?_
  refine r_il0 dJ6_bitCount_0f7a4_15 ?_
  refine r_iconst dJ6_bitCount_0f7a4_16 ?_
  refine r_iushr dJ6_bitCount_0f7a4_17 ?_
  refine r_ldcw dJ6_bitCount_0f7a4_18 k_J6_266 (J_of _) ?_
  refine r_iand dJ6_bitCount_0f7a4_21 ?_
  refine r_iaddX dJ6_bitCount_0f7a4_22 ?_
  refine r_is0 dJ6_bitCount_0f7a4_23 ?_
  refine r_il0 dJ6_bitCount_0f7a4_24 ?_
  refine r_il0 dJ6_bitCount_0f7a4_25 ?_
  refine r_iconst dJ6_bitCount_0f7a4_26 ?_
  refine r_iushr dJ6_bitCount_0f7a4_27 ?_
  refine r_iaddX dJ6_bitCount_0f7a4_28 ?_
  refine r_ldcw dJ6_bitCount_0f7a4_29 k_J6_267 (J_of _) ?_
  refine r_iand dJ6_bitCount_0f7a4_32 ?_
  refine r_is0 dJ6_bitCount_0f7a4_33 ?_
  refine r_il0 dJ6_bitCount_0f7a4_34 ?_
  refine r_il0 dJ6_bitCount_0f7a4_35 ?_
  refine r_bipush dJ6_bitCount_0f7a4_36 (by decide) ?_
  refine r_iushr dJ6_bitCount_0f7a4_38 ?_
  refine r_iaddX dJ6_bitCount_0f7a4_39 ?_
  refine r_is0 dJ6_bitCount_0f7a4_40 ?_
  refine r_il0 dJ6_bitCount_0f7a4_41 ?_
  refine r_il0 dJ6_bitCount_0f7a4_42 ?_
  refine r_bipush dJ6_bitCount_0f7a4_43 (by decide) ?_
  refine r_iushr dJ6_bitCount_0f7a4_45 ?_
  refine r_iaddX dJ6_bitCount_0f7a4_46 ?_
  refine r_is0 dJ6_bitCount_0f7a4_47 ?_
  refine r_il0 dJ6_bitCount_0f7a4_48 ?_
  refine r_bipush dJ6_bitCount_0f7a4_49 (by decide) ?_
  refine r_iand dJ6_bitCount_0f7a4_51 ?_
  refine r_iret dJ6_bitCount_0f7a4_52 (ty := .int) rfl rfl ⟨?_, rfl⟩
  rw [bs_z]
  unfold cn
  generalize f 0 = a
  generalize f 1 = b
  generalize f 2 = c
  generalize f 3 = d9
  generalize f 4 = e
  generalize f 5 = f9
  generalize f 6 = g
  generalize f 7 = h9
  refine congrArg (fun x => some (Value.int x)) ?_
  revert a b c d9 e f9 g h9
  decide +kernel
set_option maxRecDepth 100000 in
set_option maxHeartbeats 4000000 in
theorem c_isInSet (κ : KP) (h : AH) {f : Int → Bool} {i : Int} (i0 : 0 ≤ i) (i1 : i < 8) : PM κ mX9_isInSet 1 [.int (J (bs f)), .int (J i)] h (.int (J (bI (f i)))) := by
  refine mm_of (L := [some _, some _]) (by decide +kernel) rfl rfl (Nat.le_of_ble_eq_true rfl) rfl ?_
  refine r_il0 dX9_isInSet_0 ?_
  refine r_il1 dX9_isInSet_1 ?_
  refine r_ishr dX9_isInSet_2 ?_
  refine r_iconst dX9_isInSet_3 ?_
  refine r_iand dX9_isInSet_4 ?_
  rw [bs_in i0 i1]
  refine r_iconst dX9_isInSet_5 ?_
  refine r_icmp_ne (tgt := 13) dX9_isInSet_6 (by decide) (by (first | exact bI_rng _ | decide)) (by (first | exact bI_rng _ | decide)) (fun c_6 => ?_) (fun c_6 => ?_)
  · refine r_iconst dX9_isInSet_13 ?_
    refine r_iret dX9_isInSet_14 (ty := .boolean) rfl (by decide) ⟨?_, rfl⟩
    cases e : f i <;> rw [e] at c_6 <;> first | rfl | exact absurd rfl c_6 | exact absurd c_6 (by decide)
  · refine r_iconst dX9_isInSet_9 ?_
    refine r_goto (tgt := 14) dX9_isInSet_10 (by decide) ?_
    refine r_iret dX9_isInSet_14 (ty := .boolean) rfl (by decide) ⟨?_, rfl⟩
    cases e : f i <;> rw [e] at c_6 <;> first | rfl | exact absurd rfl c_6 | exact absurd c_6 (by decide)
