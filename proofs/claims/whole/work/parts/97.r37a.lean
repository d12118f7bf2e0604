/-! ===== the cases of the law's loop ===== -/
abbrev mL_law : MI := (yL_law, cL_law, 9, some .boolean, [])
/-- how the loop goes on behind a case -/
def KKt (κ : KP) (A B : Nat → Nat) (po pd ps n : Nat) (f : Int → Int) (i : Int) (k n9 : Nat) (Q : Option Value → AH → Prop) : Prop := ∀ (H' : AH) (S' : CST) (M' : MEM) (G' : Nat → Int → Int) (q' : Nat) (v6 v7 v8 : Option Value) (k' m' : Nat), k ≤ k' + 400 → n9 ≤ m' + 2000 → LH κ A B po pd ps n f H' S' M' G' q' → WW κ mL_law 30 k' m' Q NoX 2007 [some (.ref ps), some (.ref (B 0)), some (.ref (A 30)), some (.ref po), some (.ref pd), some (.int (J i)), v6, v7, v8] [] H'
section OUTS
variable {κ : KP} {A B : Nat → Nat} {po pd ps n : Nat} {f : Int → Int} {H : AH} {S : CST} {M : MEM} {G : Nat → Int → Int} {q : Nat}
theorem out_Q (a : AD A B po pd) (L : LH κ A B po pd ps n f H S M G q) {Q : Option Value → AH → Prop} (h1 : ∀ v h9, Q v h9 → Fr B (cset B S H) h9) (h2 : ∀ v h9, Q v h9 → ∃ r : Int, v = some (.int (J r))) : ∀ v h9, Q v h9 → ∃ r : Int, v = some (.int (J r)) ∧ ∃ g, h9 po = some (true, .inl (.long, 1, g)) := fun v h9 hq => by
  obtain ⟨r, e⟩ := h2 v h9 hq
  obtain ⟨g, l3⟩ := L.2.2.1
  exact ⟨r, e, g, L.keep a (h1 v h9 hq) (fun k hk => (a.2.2.2.1 k hk).1) l3⟩
theorem out_D (a : AD A B po pd) (L : LH κ A B po pd ps n f H S M G q) {Q : Option Value → AH → Prop} (h1 : ∀ v h9, Q v h9 → Fr B (cset B S H) h9) (h2 : ∀ v h9, Q v h9 → ∃ x : UInt64, v = some (.double x)) : ∀ v h9, Q v h9 → ∃ x : UInt64, v = some (.double x) ∧ ∃ g, h9 pd = some (true, .inl (.double, 1, g)) := fun v h9 hq => by
  obtain ⟨r, e⟩ := h2 v h9 hq
  obtain ⟨g, l3⟩ := L.2.2.2.1
  exact ⟨r, e, g, L.keep a (h1 v h9 hq) (fun k hk => (a.2.2.2.1 k hk).2) l3⟩
theorem ask_Z (a : AD A B po pd) (L : LH κ A B po pd ps n f H S M G q) {R : Int → Int → Prop} (hz : ∀ r, R 0 r → 0 ≤ r ∧ r ≤ 1) : ∀ v h9, RD κ B S H G q R v h9 → ∃ r : Int, v = some (.int (J r)) ∧ (0 ≤ r ∧ r ≤ 1) ∧ ∃ g, h9 po = some (true, .inl (.long, 1, g)) := fun v h9 hq => by
  have x := rd_fr v h9 hq
  obtain ⟨r, e, hr, -⟩ := hq
  obtain ⟨g, l3⟩ := L.2.2.1
  exact ⟨r, e, hz r hr, g, L.keep a x (fun k hk => (a.2.2.2.1 k hk).1) l3⟩
end OUTS
theorem cp_fr {κ : KP} {B : Nat → Nat} {S : CST} {h h' : AH} {q : Nat} {g1 : Int → Int} (hP : CP κ B S h q g1 h') : Fr B (cset B S h) h' := by
  obtain ⟨S1, q1, -, -, f, -⟩ := hP
  exact f
theorem crd_fr {κ : KP} {B : Nat → Nat} {S : CST} {h h' : AH} {g : Int → Int} {q : Nat} {t r : Int} (hc : CRd κ B S h g q t r h') : Fr B (cset B S h) h' := by
  obtain ⟨F, S1, R, -, f, -⟩ := hc
  exact f
section RES
variable {κ : KP} {B : Nat → Nat} {S : CST} {h : AH} {Γ : Nat → Int → Int} {q : Nat} {R : Int → Int → Prop} {a b c : String}
theorem re_0 : ∀ X h9, RE κ B S h Γ q R [] X h9 → False := fun X h9 ⟨t, r, hx, _⟩ => by cases hx
theorem re_1 : ∀ X h9, RE κ B S h Γ q R [a] X h9 → X = a := fun X h9 ⟨t, r, hx, _⟩ => (nd1 hx).2
theorem re_2 : ∀ X h9, RE κ B S h Γ q R [a, b] X h9 → X = a ∨ X = b := fun X h9 ⟨t, r, hx, _⟩ => (nd2 hx).imp (fun z => z.2) (fun z => z.2)
theorem re_3 : ∀ X h9, RE κ B S h Γ q R [a, b, c] X h9 → X = a ∨ X = b ∨ X = c := fun X h9 ⟨t, r, hx, _⟩ => by
  match t, hx with
  | 0, hx => exact Or.inl (Option.some.inj hx).symm
  | 1, hx => exact Or.inr (Or.inl (Option.some.inj hx).symm)
  | 2, hx => exact Or.inr (Or.inr (Option.some.inj hx).symm)
  | t + 3, hx => cases hx
end RES
theorem z_accepts {g : Int → Int} {b c t r : Int} (h : R_accepts g b c t r) (ht : t = 0) : 0 ≤ r ∧ r ≤ 1 := by
  rcases h with ⟨-, z⟩ | ⟨-, -, e⟩
  · omega
  · rw [e]
    exact bP_01 _
theorem z_isMet {g : Int → Int} {b t r : Int} (h : R_isMet g b t r) (ht : t = 0) : 0 ≤ r ∧ r ≤ 1 := by
  rcases h with ⟨-, z⟩ | ⟨-, -, u, -, e⟩
  · omega
  · rw [e]
    exact bP_01 _
theorem uq_refusal {s : Int} : UQ (fun t r => (s = 0 ∧ t = 1) ∨ (s ≠ 0 ∧ t = 0 ∧ r = s)) := by
  rintro t r t' r' (⟨a, b⟩ | ⟨a, b, c⟩) (⟨a', b'⟩ | ⟨a', b', c'⟩) <;> omega
theorem w_refusal {M M' : MEM} {s r : Int} (hR : RG M) (hK : QKn M) (hs : s = M 30 6) (h : r = M 30 6 ∧ XThr M (if M 30 6 = 0 then 1 else 0) M') : ∃ t', MQs M M' ∧ M' 30 7 = t' ∧ ((s = 0 ∧ t' = 1) ∨ (s ≠ 0 ∧ t' = 0 ∧ r = s)) := by
  obtain ⟨e, h⟩ := h
  by_cases z : M 30 6 = 0
  · rw [if_pos z] at h
    exact h.w (Rf := fun _ t' r => (s = 0 ∧ t' = 1) ∨ (s ≠ 0 ∧ t' = 0 ∧ r = s)) hR hK (by decide) (Or.inl ⟨by omega, rfl⟩)
  · rw [if_neg z] at h
    exact h.w (Rf := fun _ t' r => (s = 0 ∧ t' = 1) ∨ (s ≠ 0 ∧ t' = 0 ∧ r = s)) hR hK (by decide) (Or.inr ⟨by omega, rfl, by omega⟩)
theorem dc_self (x : UInt64) : FP.dcmp x x = none ∨ FP.dcmp x x = some .eq := by
  show FP.Core.order (FP.Core.decode FP.Core.b64 x.toNat) (FP.Core.decode FP.Core.b64 x.toNat) = none ∨ FP.Core.order (FP.Core.decode FP.Core.b64 x.toNat) (FP.Core.decode FP.Core.b64 x.toNat) = some .eq
  generalize FP.Core.decode FP.Core.b64 x.toNat = d
  have hc : ∀ z : Int, compare z z = .eq := fun z => by
    rw [Int.compare_eq_ite_lt, if_neg (Int.lt_irrefl z), if_neg (Int.lt_irrefl z)]
  cases d with
  | nan => exact Or.inl rfl
  | inf s => exact Or.inr (congrArg some (hc _))
  | fin s c q => exact Or.inr (congrArg some (hc _))
section SIM2
variable {κ : KP} {B : Nat → Nat} {S : CST} {M M' : MEM} {G : Nat → Int → Int} {q : Nat} {h h1 h9 : AH} {pd : Nat} {k : Int}
theorem sim_app {c : Int} (hB : BA B) (I : LInv κ (cset B S h) S M G q) (c0 : 0 ≤ c) (c1 : c < 65536)
    (hk : HK2 (fun v h' => v = none ∧ S 1 1 ≠ 50 ∧ h' = cset B (updm (updm S 6 (S 1 1) c) 1 1 (S 1 1 + 1)) h) (fun E' h' => E' = EIS ∧ S 1 1 = 50 ∧ h' = cset B S h) [EIS] k h1)
    (hm : (M 30 17 = 50 ∧ XThr M 1 M') ∨ (M 30 17 ≠ 50 ∧ M' = updm (updm (updm M 30 7 0) 16 (M 30 17) c) 30 17 (M 30 17 + 1))) : SIMV κ B h1 k M' := by
  have h9 := I.2.2.2.2.2.2.2.1
  rcases hk with ⟨rfl, -, y1, rfl⟩ | ⟨t, X, rfl, hx, -, y1, rfl⟩
  · rcases hm with ⟨z, -⟩ | ⟨z, rfl⟩
    · omega
    · exact ⟨by rw [updm_ne (by decide), updm_k (by decide), updm_at], _, G, q, cset_cset.symm, I.app hB c0 c1 y1⟩
  · obtain ⟨rfl, -⟩ := nd1 hx
    rcases hm with ⟨-, z⟩ | ⟨z, -⟩
    · obtain rfl := z
      exact ⟨updm_at, S, G, q, cset_cset.symm, I.t7 (by decide)⟩
    · omega
theorem sim_rest (hB : BA B) (I : LInv κ (cset B S h) S M G q)
    (hk : HK2 (fun v h' => v = none ∧ ∃ q1 : Nat, S 0 6 = (q1 : Int) ∧ h' = cset B (updm (updm S 0 5 (q1 : Int)) 2 1 0) h) (fun E' h' => E' = EIS ∧ S 0 6 = -1 ∧ h' = cset B S h) [EIS] k h1)
    (hm : QRest M M') : SIMV κ B h1 k M' := by
  have h7 := I.2.2.2.2.2.1
  rcases hk with ⟨rfl, -, q1, y1, rfl⟩ | ⟨t, X, rfl, hx, -, y1, rfl⟩
  · obtain ⟨z1, G', I'⟩ := I.rest hB y1 hm
    exact ⟨z1, _, G', q1, cset_cset.symm, I'⟩
  · obtain ⟨rfl, -⟩ := nd1 hx
    rcases hm with ⟨-, rfl⟩ | ⟨z, -⟩
    · exact ⟨updm_at, S, G, q, cset_cset.symm, I.t7 (by decide)⟩
    · rcases h7 with ⟨-, w⟩ | ⟨-, v, w, -⟩ <;> omega
theorem sim_mean {x' : UInt64} (hB : BA B) (I : LInv κ (cset B S h) S M G q)
    (hk : HK3 (fun v h' => ∃ x, v = some (.double x) ∧ R_mean (G q) 0 x ∧ RP κ B S h G q h') (fun E' h' => E' = EAR ∧ (∃ x, R_mean (G q) 1 x) ∧ RP κ B S h G q h') [EAR] pd k h1 h9)
    (hm : ∃ t, QFx M t M' ∧ R_mean (M 0) t x') : M' 30 7 = k ∧ (k = 0 → ∃ f : Nat → Value, h9 = upA h1 pd (true, .inl (.double, 1, f)) ∧ f 0 = .double x') ∧ ∃ S' G' q', h1 = cset B S' h1 ∧ LInv κ h1 S' M' G' q' := by
  obtain ⟨t', m1, m3⟩ := hm
  have hC := I.1.2.2.2
  rw [show G q = M 0 from I.1.2.2.1] at hk
  rcases hk with ⟨rfl, x, f, ⟨x2, e2, hr, hP⟩, e9, hf⟩ | ⟨t, X, rfl, hx, ⟨-, ⟨x2, hr⟩, hP⟩, e9⟩
  · obtain ⟨y1, y2⟩ := uq_mean hC.1 hr m3
    obtain ⟨S', G', e, I'⟩ := I.ask hB hP m1.mq
    refine ⟨m1.2.2.1.trans y1.symm, fun _ => ⟨f, e9, ?_⟩, S', G', q, e, I'⟩
    have e3 : x = x2 := by injection e2 with e2; injection e2
    rw [hf, e3, y2 rfl]
  · obtain ⟨rfl, -⟩ := nd1 hx
    obtain ⟨y1, -⟩ := uq_mean hC.1 hr m3
    obtain ⟨S', G', e, I'⟩ := I.ask hB hP m1.mq
    exact ⟨m1.2.2.1.trans y1.symm, fun z => by omega, S', G', q, e, I'⟩
/-- readProgram's ends, in one form -/
theorem rq_Q : ∀ (v : Option Value) (h' : AH), (∃ (l : List (Int → Int)) (F : Nat) (S1 S4 : CST) (q1 : Nat), v = some (.int (J l.length)) ∧ PTop (S 6) (S 1 1) F 0 [] [] (.inr l) ∧ QRR (lR l) l.length 0 ∧ Fr B (cset B S h) h' ∧ SK [1, 7, 8, 9, 10] S S1 ∧ S1 1 1 = 0 ∧ RdB S1 ∧ HKp (updm S1 0 7 (-1)) S4 q ∧ h' = cset B (updm S4 0 5 (q1 : Int)) h' ∧ cset B S h q1 = none ∧ ∀ g', GPr (G q) l g' → DeskAt κ h' q1 g') → ∃ r : Int, v = some (.int (J r)) ∧ CRd κ B S h (G q) q 0 r h' := fun v h' ⟨l, F, S1, S4, q1, e, a1, a2, a3, a4, a5, a6, a7, a8, a9, b1⟩ => ⟨l.length, e, F, S1, .inr l, a1, a3, a4, a5, a6, Or.inr ⟨l, 0, rfl, a2, Or.inr ⟨rfl, rfl, rfl, S4, q1, a7, a8, a9, b1⟩⟩⟩
theorem rq_E : ∀ (X : String) (h' : AH), ((X = EIA ∧ ∃ (F : Nat) (S1 : CST) (r : Int), PTop (S 6) (S 1 1) F 0 [] [] (.inl r) ∧ Fr B (cset B S h) h' ∧ SK [1, 7, 8, 9, 10] S S1 ∧ S1 1 1 = 0 ∧ RdB S1 ∧ (0 ≤ r ∧ r ≤ 50) ∧ h' = cset B (updm S1 0 7 r) h') ∨ (X = EUO ∧ ∃ (l : List (Int → Int)) (F : Nat) (S1 : CST) (no : Int), PTop (S 6) (S 1 1) F 0 [] [] (.inr l) ∧ QRR (lR l) l.length no ∧ no ≠ 0 ∧ Fr B (cset B S h) h' ∧ SK [1, 7, 8, 9, 10] S S1 ∧ S1 1 1 = 0 ∧ RdB S1 ∧ h' = cset B (updm (updm S1 0 7 (-1)) 0 8 no) h')) → (X = EIA ∧ CRd κ B S h (G q) q 1 0 h') ∨ (X = EUO ∧ CRd κ B S h (G q) q 2 0 h') := fun X h' hx => by
  rcases hx with ⟨e, F, S1, r, a1, a2, a3, a4, a5, a6, a7⟩ | ⟨e, l, F, S1, no, a1, a2, a3, a4, a5, a6, a7, a8⟩
  · exact Or.inl ⟨e, F, S1, .inl r, a1, a2, a3, a4, a5, Or.inl ⟨rfl, r, rfl, a6, a7⟩⟩
  · exact Or.inr ⟨e, F, S1, .inr l, a1, a4, a5, a6, a7, Or.inr ⟨l, no, rfl, a2, Or.inl ⟨rfl, a3, a8⟩⟩⟩
end SIM2
/-- restore's helper, with a snapshot or without -/
theorem rest_H (κ : KP) {A B : Nat → Nat} {po pd ps n : Nat} {f : Int → Int} {H : AH} {S : CST} {M : MEM} {G : Nat → Int → Int} {q : Nat} (a : AD A B po pd) (L : LH κ A B po pd ps n f H S M G q) : MM κ mL_restore 7 1 6 [.ref (B 0)] (cset B S H) (HV (fun v h' => v = none ∧ ∃ q1 : Nat, S 0 6 = (q1 : Int) ∧ h' = cset B (updm (updm S 0 5 (q1 : Int)) 2 1 0) H) (fun E' h' => E' = EIS ∧ S 0 6 = -1 ∧ h' = cset B S H) [EIS]) NoX := by
  obtain ⟨x1, x2⟩ := x_restore κ H a.1 L.inv.cl
  refine h_restore κ (cs_obj a.1 (k9 := 0) (by decide) rfl) ?_ (fun v h9 hq => hq.1) (fun X h9 hE => hE.1)
  rcases L.inv.2.2.2.2.2.1 with ⟨z, -⟩ | ⟨-, v, z, -⟩
  · exact (x1 z).wk (fun v h9 hq => hq.elim) (fun X h9 hE => ⟨hE.1, z, hE.2⟩)
  · exact (x2 v z).wk (fun v9 h9 hq => ⟨hq.1, v, z, hq.2⟩) (fun X h9 hE => hE.elim)

set_option maxRecDepth 100000 in
set_option maxHeartbeats 4000000 in
theorem k_addCredit (κ : KP) {A B : Nat → Nat} {po pd ps n : Nat} {f : Int → Int} {H : AH} {S : CST} {M : MEM} {G : Nat → Int → Int} {q : Nat} (a : AD A B po pd) (L : LH κ A B po pd ps n f H S M G q) (hf : ∀ j, rng (f j)) (hn : n ≤ 2560) {i : Int} (i0 : 0 ≤ i) (i1 : i + 5 ≤ n) {k n9 : Nat} (hk : 400 ≤ k) (hn9 : 2000 ≤ n9) {Q : Option Value → AH → Prop} {v6 v7 v8 : Option Value} (KK : KKt κ A B po pd ps n f i k n9 Q) : WW κ mL_law 30 k n9 Q NoX 192 [some (.ref ps), some (.ref (B 0)), some (.ref (A 30)), some (.ref po), some (.ref pd), some (.int (J i)), v6, v7, v8] [] H := by
  have hB := a.1
  have hA := a.2.1
  have hI := L.inv.cl
  have hH := L.inv.hk
  have hR := L.inv.rg
  have hC := L.inv.1.2.2.2
  have hK := L.inv.2.2.1.2
  have p5 := L.inv.2.2.2.1.2
  have n1 := hC.1.n.2.1
  have hp0 : LSc κ ps n f := L.2.2.2.2.1
  rw [L.1]
  refine r_al1 dL_law_192 ?_
  refine r_al0 dL_law_193 ?_
  refine r_il5 dL_law_194 ?_
  refine r_iconst dL_law_196 ?_
  refine r_iadd dL_law_197 ?_
  refine r_scJ dL_law_198 hp0 (by omega) (by omega) (by omega) ?_
  refine r_i2cZ dL_law_199 ?_
  refine r_al0 dL_law_200 ?_
  refine r_il5 dL_law_201 ?_
  refine r_iconst dL_law_203 ?_
  refine r_iadd dL_law_204 ?_
  refine r_scJ dL_law_205 hp0 (by omega) (by omega) (by omega) ?_
  refine r_al0 dL_law_206 ?_
  refine r_il5 dL_law_207 ?_
  refine r_iconst dL_law_209 ?_
  refine r_iadd dL_law_210 ?_
  refine r_scJ dL_law_211 hp0 (by omega) (by omega) (by omega) ?_
  refine r_al0 dL_law_212 ?_
  refine r_il5 dL_law_213 ?_
  refine r_iconst dL_law_215 ?_
  refine r_iadd dL_law_216 ?_
  refine r_scJ dL_law_217 hp0 (by omega) (by omega) (by omega) ?_
  refine r_al3 dL_law_218 ?_
  refine r_callSX (As := [.ref (B 0), .int (J (chz (f (i + 1)))), .int (J (f (i + 2))), .int (J (f (i + 3))), .int (J (f (i + 4))), .ref po]) dL_law_219 s_L_124 (h_addCredit κ (cs_obj hB (k9 := 0) (by decide) rfl) (x_addCredit κ H hB hI hH (by have := chz_rg (f (i + 1)); omega) (hf _) (hf _) (hf _)) (out_Q a L (fun v h9 hq => by obtain ⟨r, -, -, -, -, hP⟩ := hq; exact cp_fr hP) (fun v h9 hq => by obtain ⟨r, e, -⟩ := hq; exact ⟨r, e⟩)) (fun X h9 hE => by rcases hE with ⟨e, -⟩ | ⟨e, -⟩; exact Or.inl e; exact Or.inr e)) (by decide) rfl rfl (cat_le rfl) (by omega) (by omega) (fun v h9 hq9 => ?_)
  obtain ⟨k1, h1, rfl, kb, x1, hO, hkk⟩ := HQ.out (H0 := cset B S H) (pd := pd) hq9 (by decide) (fun v h9 hq => by obtain ⟨r, -, -, -, -, hP⟩ := hq; exact cp_fr hP) (fun X h9 hE => by rcases hE with ⟨-, -, e⟩ | ⟨-, -, -, e⟩ <;> (rw [e]; exact Fr.cs))
  show WW κ _ _ _ _ _ _ _ _ (.int (J k1) :: []) h9
  obtain ⟨m1, hp9, ⟨g3, m3⟩, ⟨g4, m4⟩⟩ := L.mid a x1 hO
  refine r_is6 dL_law_222 rfl ?_
  refine r_al2 dL_law_224 ?_
  refine r_al0 dL_law_225 ?_
  refine r_il5 dL_law_226 ?_
  refine r_iconst dL_law_228 ?_
  refine r_iadd dL_law_229 ?_
  refine r_scJ dL_law_230 hp9 (by omega) (by omega) (by omega) ?_
  refine r_i2cZ dL_law_231 ?_
  refine r_al0 dL_law_232 ?_
  refine r_il5 dL_law_233 ?_
  refine r_iconst dL_law_235 ?_
  refine r_iadd dL_law_236 ?_
  refine r_scJ dL_law_237 hp9 (by omega) (by omega) (by omega) ?_
  refine r_al0 dL_law_238 ?_
  refine r_il5 dL_law_239 ?_
  refine r_iconst dL_law_241 ?_
  refine r_iadd dL_law_242 ?_
  refine r_scJ dL_law_243 hp9 (by omega) (by omega) (by omega) ?_
  refine r_al0 dL_law_244 ?_
  refine r_il5 dL_law_245 ?_
  refine r_iconst dL_law_247 ?_
  refine r_iadd dL_law_248 ?_
  refine r_scJ dL_law_249 hp9 (by omega) (by omega) (by omega) ?_
  rw [m1]
  refine m_callR4 dL_law_250 v_L_129 hA (c_addCredit κ hA hR hC.1 p5.1 p5.2 (by have := chz_rg (f (i + 1)); omega) (hf _) (hf _) (hf _)) (by decide) rfl (fun r2 M2 hm => ?_)
  obtain ⟨z7, z8, S', G', q', e1, I'⟩ : SIM κ B po h1 h9 k1 r2 M2 := (sim_add hB L.inv (by have := chz_rg (f (i + 1)); omega) (hf _) (hf _) (hf _) hkk hm)
  have L' := L.fin a x1 hO e1 I'
  refine r_is7 dL_law_253 rfl ?_
  refine r_al2 dL_law_255 ?_
  refine m_callP0 dL_law_256 v_L_130 hA (c_thrown κ _ hA I'.rg) (by decide) rfl ?_
  rw [z7]
  refine r_il6 dL_law_259 ?_
  refine r_icmp_eq (tgt := 266) dL_law_261 (by decide) (by first | omega | decide) (by first | omega | decide) (fun c_261 => ?_) (fun c_261 => ?_)
  · refine r_il6 dL_law_266 ?_
    refine r_if_ne (tgt := 283) dL_law_268 (by decide) (by first | omega | decide) (fun c_268 => ?_) (fun c_268 => ?_)
    · refine r_goto (tgt := 2007) dL_law_283 (by decide) ?_
      exact KK _ _ _ _ _ _ _ _ _ _ (by omega) (by omega) L'
    · obtain ⟨f0, e9, hf0⟩ := z8 c_268
      have hpo : mset A M2 h9 po = some (true, .inl (.long, 1, f0)) := by rw [mset_off (fun k hk => (a.2.2.2.2.1 k hk).1), e9]; exact upA_same
      refine r_al3 dL_law_271 ?_
      refine r_iconst dL_law_272 ?_
      refine r_lald dL_law_273 hpo (by decide) (by decide) (by decide) hf0 ?_
      refine r_il7 dL_law_274 ?_
      refine r_i2l dL_law_276 ?_
      refine r_lcmp dL_law_277 ?_
      rw [lcmp_self]
      refine r_if_eq (tgt := 283) dL_law_278 (by decide) (by first | omega | decide) (fun c_278 => ?_) (fun c_278 => ?_)
      · refine r_goto (tgt := 2007) dL_law_283 (by decide) ?_
        exact KK _ _ _ _ _ _ _ _ _ _ (by omega) (by omega) L'
      · exact absurd rfl c_278
  · exact absurd rfl c_261
set_option maxRecDepth 100000 in
set_option maxHeartbeats 4000000 in
theorem k_dropCredit (κ : KP) {A B : Nat → Nat} {po pd ps n : Nat} {f : Int → Int} {H : AH} {S : CST} {M : MEM} {G : Nat → Int → Int} {q : Nat} (a : AD A B po pd) (L : LH κ A B po pd ps n f H S M G q) (hf : ∀ j, rng (f j)) (hn : n ≤ 2560) {i : Int} (i0 : 0 ≤ i) (i1 : i + 5 ≤ n) {k n9 : Nat} (hk : 400 ≤ k) (hn9 : 2000 ≤ n9) {Q : Option Value → AH → Prop} {v6 v7 v8 : Option Value} (KK : KKt κ A B po pd ps n f i k n9 Q) : WW κ mL_law 30 k n9 Q NoX 286 [some (.ref ps), some (.ref (B 0)), some (.ref (A 30)), some (.ref po), some (.ref pd), some (.int (J i)), v6, v7, v8] [] H := by
  have hB := a.1
  have hA := a.2.1
  have hI := L.inv.cl
  have hH := L.inv.hk
  have hR := L.inv.rg
  have hC := L.inv.1.2.2.2
  have hK := L.inv.2.2.1.2
  have p5 := L.inv.2.2.2.1.2
  have n1 := hC.1.n.2.1
  have hp0 : LSc κ ps n f := L.2.2.2.2.1
  rw [L.1]
  refine r_al1 dL_law_286 ?_
  refine r_al0 dL_law_287 ?_
  refine r_il5 dL_law_288 ?_
  refine r_iconst dL_law_290 ?_
  refine r_iadd dL_law_291 ?_
  refine r_scJ dL_law_292 hp0 (by omega) (by omega) (by omega) ?_
  refine r_al3 dL_law_293 ?_
  refine r_callSX (As := [.ref (B 0), .int (J (f (i + 1))), .ref po]) dL_law_294 s_L_133 (h_dropCredit κ (cs_obj hB (k9 := 0) (by decide) rfl) (x_drop κ H hB hI hH (hf _)) (out_Q a L (fun v h9 hq => by obtain ⟨r, -, -, -, hP⟩ := hq; exact cp_fr hP) (fun v h9 hq => by obtain ⟨r, e, -⟩ := hq; exact ⟨r, e⟩)) (fun X h9 hE => hE.1)) (by decide) rfl rfl (cat_le rfl) (by omega) (by omega) (fun v h9 hq9 => ?_)
  obtain ⟨k1, h1, rfl, kb, x1, hO, hkk⟩ := HQ.out (H0 := cset B S H) (pd := pd) hq9 (by decide) (fun v h9 hq => by obtain ⟨r, -, -, -, hP⟩ := hq; exact cp_fr hP) (fun X h9 hE => by obtain ⟨-, -, e⟩ := hE; rw [e]; exact Fr.cs)
  show WW κ _ _ _ _ _ _ _ _ (.int (J k1) :: []) h9
  obtain ⟨m1, hp9, ⟨g3, m3⟩, ⟨g4, m4⟩⟩ := L.mid a x1 hO
  refine r_is6 dL_law_297 rfl ?_
  refine r_al2 dL_law_299 ?_
  refine r_al0 dL_law_300 ?_
  refine r_il5 dL_law_301 ?_
  refine r_iconst dL_law_303 ?_
  refine r_iadd dL_law_304 ?_
  refine r_scJ dL_law_305 hp9 (by omega) (by omega) (by omega) ?_
  rw [m1]
  refine m_callR1 dL_law_306 v_L_136 hA (c_dropCredit κ hA hR hC.1 p5.1 p5.2 (hf _)) (by decide) rfl (fun r2 M2 hm => ?_)
  obtain ⟨z7, z8, S', G', q', e1, I'⟩ : SIM κ B po h1 h9 k1 r2 M2 := (sim_drop hB L.inv hkk hm)
  have L' := L.fin a x1 hO e1 I'
  refine r_is7 dL_law_309 rfl ?_
  refine r_al2 dL_law_311 ?_
  refine m_callP0 dL_law_312 v_L_130 hA (c_thrown κ _ hA I'.rg) (by decide) rfl ?_
  rw [z7]
  refine r_il6 dL_law_315 ?_
  refine r_icmp_eq (tgt := 322) dL_law_317 (by decide) (by first | omega | decide) (by first | omega | decide) (fun c_317 => ?_) (fun c_317 => ?_)
  · refine r_il6 dL_law_322 ?_
    refine r_if_ne (tgt := 339) dL_law_324 (by decide) (by first | omega | decide) (fun c_324 => ?_) (fun c_324 => ?_)
    · refine r_goto (tgt := 2007) dL_law_339 (by decide) ?_
      exact KK _ _ _ _ _ _ _ _ _ _ (by omega) (by omega) L'
    · obtain ⟨f0, e9, hf0⟩ := z8 c_324
      have hpo : mset A M2 h9 po = some (true, .inl (.long, 1, f0)) := by rw [mset_off (fun k hk => (a.2.2.2.2.1 k hk).1), e9]; exact upA_same
      refine r_al3 dL_law_327 ?_
      refine r_iconst dL_law_328 ?_
      refine r_lald dL_law_329 hpo (by decide) (by decide) (by decide) hf0 ?_
      refine r_il7 dL_law_330 ?_
      refine r_i2l dL_law_332 ?_
      refine r_lcmp dL_law_333 ?_
      rw [lcmp_self]
      refine r_if_eq (tgt := 339) dL_law_334 (by decide) (by first | omega | decide) (fun c_334 => ?_) (fun c_334 => ?_)
      · refine r_goto (tgt := 2007) dL_law_339 (by decide) ?_
        exact KK _ _ _ _ _ _ _ _ _ _ (by omega) (by omega) L'
      · exact absurd rfl c_334
  · exact absurd rfl c_317
set_option maxRecDepth 100000 in
set_option maxHeartbeats 4000000 in
theorem k_credit (κ : KP) {A B : Nat → Nat} {po pd ps n : Nat} {f : Int → Int} {H : AH} {S : CST} {M : MEM} {G : Nat → Int → Int} {q : Nat} (a : AD A B po pd) (L : LH κ A B po pd ps n f H S M G q) (hf : ∀ j, rng (f j)) (hn : n ≤ 2560) {i : Int} (i0 : 0 ≤ i) (i1 : i + 5 ≤ n) {k n9 : Nat} (hk : 400 ≤ k) (hn9 : 2000 ≤ n9) {Q : Option Value → AH → Prop} {v6 v7 v8 : Option Value} (KK : KKt κ A B po pd ps n f i k n9 Q) : WW κ mL_law 30 k n9 Q NoX 342 [some (.ref ps), some (.ref (B 0)), some (.ref (A 30)), some (.ref po), some (.ref pd), some (.int (J i)), v6, v7, v8] [] H := by
  have hB := a.1
  have hA := a.2.1
  have hI := L.inv.cl
  have hH := L.inv.hk
  have hR := L.inv.rg
  have hC := L.inv.1.2.2.2
  have hK := L.inv.2.2.1.2
  have p5 := L.inv.2.2.2.1.2
  have n1 := hC.1.n.2.1
  have hp0 : LSc κ ps n f := L.2.2.2.2.1
  rw [L.1]
  refine r_al1 dL_law_342 ?_
  refine r_al0 dL_law_343 ?_
  refine r_il5 dL_law_344 ?_
  refine r_iconst dL_law_346 ?_
  refine r_iadd dL_law_347 ?_
  refine r_scJ dL_law_348 hp0 (by omega) (by omega) (by omega) ?_
  refine r_al0 dL_law_349 ?_
  refine r_il5 dL_law_350 ?_
  refine r_iconst dL_law_352 ?_
  refine r_iadd dL_law_353 ?_
  refine r_scJ dL_law_354 hp0 (by omega) (by omega) (by omega) ?_
  refine r_al3 dL_law_355 ?_
  refine r_callSX (As := [.ref (B 0), .int (J (f (i + 1))), .int (J (f (i + 2))), .ref po]) dL_law_356 s_L_137 (h_credit κ (cs_obj hB (k9 := 0) (by decide) rfl) (x_credit κ H hB hI (hf _) (hf _)) (out_Q a L rd_fr (fun v h9 hq => by obtain ⟨r, e, -⟩ := hq; exact ⟨r, e⟩)) re_2) (by decide) rfl rfl (cat_le rfl) (by omega) (by omega) (fun v h9 hq9 => ?_)
  obtain ⟨k1, h1, rfl, kb, x1, hO, hkk⟩ := HQ.out (H0 := cset B S H) (pd := pd) hq9 (by decide) rd_fr re_fr
  show WW κ _ _ _ _ _ _ _ _ (.int (J k1) :: []) h9
  obtain ⟨m1, hp9, ⟨g3, m3⟩, ⟨g4, m4⟩⟩ := L.mid a x1 hO
  refine r_is6 dL_law_359 rfl ?_
  refine r_al2 dL_law_361 ?_
  refine r_al0 dL_law_362 ?_
  refine r_il5 dL_law_363 ?_
  refine r_iconst dL_law_365 ?_
  refine r_iadd dL_law_366 ?_
  refine r_scJ dL_law_367 hp9 (by omega) (by omega) (by omega) ?_
  refine r_al0 dL_law_368 ?_
  refine r_il5 dL_law_369 ?_
  refine r_iconst dL_law_371 ?_
  refine r_iadd dL_law_372 ?_
  refine r_scJ dL_law_373 hp9 (by omega) (by omega) (by omega) ?_
  rw [m1]
  refine m_callR2 dL_law_374 v_L_140 hA (c_credit κ hA hR hC hK (hf _) (hf _)) (by decide) rfl (fun r2 M2 hm => ?_)
  obtain ⟨z7, z8, S', G', q', e1, I'⟩ : SIM κ B po h1 h9 k1 r2 M2 := (sim_ask (Rf := fun g => R_credit g (f (i + 1)) (f (i + 2))) hB L.inv (by decide +kernel) (uq_credit hC.1) hkk (QFx.w (Rf := fun g => R_credit g (f (i + 1)) (f (i + 2))) hm))
  have L' := L.fin a x1 hO e1 I'
  refine r_is7 dL_law_377 rfl ?_
  refine r_al2 dL_law_379 ?_
  refine m_callP0 dL_law_380 v_L_130 hA (c_thrown κ _ hA I'.rg) (by decide) rfl ?_
  rw [z7]
  refine r_il6 dL_law_383 ?_
  refine r_icmp_eq (tgt := 390) dL_law_385 (by decide) (by first | omega | decide) (by first | omega | decide) (fun c_385 => ?_) (fun c_385 => ?_)
  · refine r_il6 dL_law_390 ?_
    refine r_if_ne (tgt := 407) dL_law_392 (by decide) (by first | omega | decide) (fun c_392 => ?_) (fun c_392 => ?_)
    · refine r_goto (tgt := 2007) dL_law_407 (by decide) ?_
      exact KK _ _ _ _ _ _ _ _ _ _ (by omega) (by omega) L'
    · obtain ⟨f0, e9, hf0⟩ := z8 c_392
      have hpo : mset A M2 h9 po = some (true, .inl (.long, 1, f0)) := by rw [mset_off (fun k hk => (a.2.2.2.2.1 k hk).1), e9]; exact upA_same
      refine r_al3 dL_law_395 ?_
      refine r_iconst dL_law_396 ?_
      refine r_lald dL_law_397 hpo (by decide) (by decide) (by decide) hf0 ?_
      refine r_il7 dL_law_398 ?_
      refine r_i2l dL_law_400 ?_
      refine r_lcmp dL_law_401 ?_
      rw [lcmp_self]
      refine r_if_eq (tgt := 407) dL_law_402 (by decide) (by first | omega | decide) (fun c_402 => ?_) (fun c_402 => ?_)
      · refine r_goto (tgt := 2007) dL_law_407 (by decide) ?_
        exact KK _ _ _ _ _ _ _ _ _ _ (by omega) (by omega) L'
      · exact absurd rfl c_402
  · exact absurd rfl c_385
set_option maxRecDepth 100000 in
set_option maxHeartbeats 4000000 in
theorem k_code (κ : KP) {A B : Nat → Nat} {po pd ps n : Nat} {f : Int → Int} {H : AH} {S : CST} {M : MEM} {G : Nat → Int → Int} {q : Nat} (a : AD A B po pd) (L : LH κ A B po pd ps n f H S M G q) (hf : ∀ j, rng (f j)) (hn : n ≤ 2560) {i : Int} (i0 : 0 ≤ i) (i1 : i + 5 ≤ n) {k n9 : Nat} (hk : 400 ≤ k) (hn9 : 2000 ≤ n9) {Q : Option Value → AH → Prop} {v6 v7 v8 : Option Value} (KK : KKt κ A B po pd ps n f i k n9 Q) : WW κ mL_law 30 k n9 Q NoX 410 [some (.ref ps), some (.ref (B 0)), some (.ref (A 30)), some (.ref po), some (.ref pd), some (.int (J i)), v6, v7, v8] [] H := by
  have hB := a.1
  have hA := a.2.1
  have hI := L.inv.cl
  have hH := L.inv.hk
  have hR := L.inv.rg
  have hC := L.inv.1.2.2.2
  have hK := L.inv.2.2.1.2
  have p5 := L.inv.2.2.2.1.2
  have n1 := hC.1.n.2.1
  have hp0 : LSc κ ps n f := L.2.2.2.2.1
  rw [L.1]
  refine r_al1 dL_law_410 ?_
  refine r_al0 dL_law_411 ?_
  refine r_il5 dL_law_412 ?_
  refine r_iconst dL_law_414 ?_
  refine r_iadd dL_law_415 ?_
  refine r_scJ dL_law_416 hp0 (by omega) (by omega) (by omega) ?_
  refine r_al3 dL_law_417 ?_
  refine r_callSX (As := [.ref (B 0), .int (J (f (i + 1))), .ref po]) dL_law_418 s_L_141 (h_code κ (cs_obj hB (k9 := 0) (by decide) rfl) (x_code κ H hB hI (hf _)) (out_Q a L rd_fr (fun v h9 hq => by obtain ⟨r, e, -⟩ := hq; exact ⟨r, e⟩)) re_1) (by decide) rfl rfl (cat_le rfl) (by omega) (by omega) (fun v h9 hq9 => ?_)
  obtain ⟨k1, h1, rfl, kb, x1, hO, hkk⟩ := HQ.out (H0 := cset B S H) (pd := pd) hq9 (by decide) rd_fr re_fr
  show WW κ _ _ _ _ _ _ _ _ (.int (J k1) :: []) h9
  obtain ⟨m1, hp9, ⟨g3, m3⟩, ⟨g4, m4⟩⟩ := L.mid a x1 hO
  refine r_is6 dL_law_421 rfl ?_
  refine r_al2 dL_law_423 ?_
  refine r_al0 dL_law_424 ?_
  refine r_il5 dL_law_425 ?_
  refine r_iconst dL_law_427 ?_
  refine r_iadd dL_law_428 ?_
  refine r_scJ dL_law_429 hp9 (by omega) (by omega) (by omega) ?_
  rw [m1]
  refine m_callR1 dL_law_430 v_L_143 hA (c_code κ hA hR hC.1 p5.1 p5.2 (hf _)) (by decide) rfl (fun r2 M2 hm => ?_)
  obtain ⟨z7, z8, S', G', q', e1, I'⟩ : SIM κ B po h1 h9 k1 r2 M2 := (sim_ask (Rf := fun g => R_code g (f (i + 1))) hB L.inv (by decide +kernel) (uq_code) hkk (w_code hR hK hm))
  have L' := L.fin a x1 hO e1 I'
  refine r_is7 dL_law_433 rfl ?_
  refine r_al2 dL_law_435 ?_
  refine m_callP0 dL_law_436 v_L_130 hA (c_thrown κ _ hA I'.rg) (by decide) rfl ?_
  rw [z7]
  refine r_il6 dL_law_439 ?_
  refine r_icmp_eq (tgt := 446) dL_law_441 (by decide) (by first | omega | decide) (by first | omega | decide) (fun c_441 => ?_) (fun c_441 => ?_)
  · refine r_il6 dL_law_446 ?_
    refine r_if_ne (tgt := 463) dL_law_448 (by decide) (by first | omega | decide) (fun c_448 => ?_) (fun c_448 => ?_)
    · refine r_goto (tgt := 2007) dL_law_463 (by decide) ?_
      exact KK _ _ _ _ _ _ _ _ _ _ (by omega) (by omega) L'
    · obtain ⟨f0, e9, hf0⟩ := z8 c_448
      have hpo : mset A M2 h9 po = some (true, .inl (.long, 1, f0)) := by rw [mset_off (fun k hk => (a.2.2.2.2.1 k hk).1), e9]; exact upA_same
      refine r_al3 dL_law_451 ?_
      refine r_iconst dL_law_452 ?_
      refine r_lald dL_law_453 hpo (by decide) (by decide) (by decide) hf0 ?_
      refine r_il7 dL_law_454 ?_
      refine r_i2l dL_law_456 ?_
      refine r_lcmp dL_law_457 ?_
      rw [lcmp_self]
      refine r_if_eq (tgt := 463) dL_law_458 (by decide) (by first | omega | decide) (fun c_458 => ?_) (fun c_458 => ?_)
      · refine r_goto (tgt := 2007) dL_law_463 (by decide) ?_
        exact KK _ _ _ _ _ _ _ _ _ _ (by omega) (by omega) L'
      · exact absurd rfl c_458
  · exact absurd rfl c_441
set_option maxRecDepth 100000 in
set_option maxHeartbeats 4000000 in
theorem k_expires (κ : KP) {A B : Nat → Nat} {po pd ps n : Nat} {f : Int → Int} {H : AH} {S : CST} {M : MEM} {G : Nat → Int → Int} {q : Nat} (a : AD A B po pd) (L : LH κ A B po pd ps n f H S M G q) (hf : ∀ j, rng (f j)) (hn : n ≤ 2560) {i : Int} (i0 : 0 ≤ i) (i1 : i + 5 ≤ n) {k n9 : Nat} (hk : 400 ≤ k) (hn9 : 2000 ≤ n9) {Q : Option Value → AH → Prop} {v6 v7 v8 : Option Value} (KK : KKt κ A B po pd ps n f i k n9 Q) : WW κ mL_law 30 k n9 Q NoX 466 [some (.ref ps), some (.ref (B 0)), some (.ref (A 30)), some (.ref po), some (.ref pd), some (.int (J i)), v6, v7, v8] [] H := by
  have hB := a.1
  have hA := a.2.1
  have hI := L.inv.cl
  have hH := L.inv.hk
  have hR := L.inv.rg
  have hC := L.inv.1.2.2.2
  have hK := L.inv.2.2.1.2
  have p5 := L.inv.2.2.2.1.2
  have n1 := hC.1.n.2.1
  have hp0 : LSc κ ps n f := L.2.2.2.2.1
  rw [L.1]
  refine r_al1 dL_law_466 ?_
  refine r_al0 dL_law_467 ?_
  refine r_il5 dL_law_468 ?_
  refine r_iconst dL_law_470 ?_
  refine r_iadd dL_law_471 ?_
  refine r_scJ dL_law_472 hp0 (by omega) (by omega) (by omega) ?_
  refine r_al0 dL_law_473 ?_
  refine r_il5 dL_law_474 ?_
  refine r_iconst dL_law_476 ?_
  refine r_iadd dL_law_477 ?_
  refine r_scJ dL_law_478 hp0 (by omega) (by omega) (by omega) ?_
  refine r_al3 dL_law_479 ?_
  refine r_callSX (As := [.ref (B 0), .int (J (f (i + 1))), .int (J (f (i + 2))), .ref po]) dL_law_480 s_L_144 (h_expires κ (cs_obj hB (k9 := 0) (by decide) rfl) (x_expires κ H hB hI (hf _) (hf _)) (out_Q a L rd_fr (fun v h9 hq => by obtain ⟨r, e, -⟩ := hq; exact ⟨r, e⟩)) re_2) (by decide) rfl rfl (cat_le rfl) (by omega) (by omega) (fun v h9 hq9 => ?_)
  obtain ⟨k1, h1, rfl, kb, x1, hO, hkk⟩ := HQ.out (H0 := cset B S H) (pd := pd) hq9 (by decide) rd_fr re_fr
  show WW κ _ _ _ _ _ _ _ _ (.int (J k1) :: []) h9
  obtain ⟨m1, hp9, ⟨g3, m3⟩, ⟨g4, m4⟩⟩ := L.mid a x1 hO
  refine r_is6 dL_law_483 rfl ?_
  refine r_al2 dL_law_485 ?_
  refine r_al0 dL_law_486 ?_
  refine r_il5 dL_law_487 ?_
  refine r_iconst dL_law_489 ?_
  refine r_iadd dL_law_490 ?_
  refine r_scJ dL_law_491 hp9 (by omega) (by omega) (by omega) ?_
  refine r_al0 dL_law_492 ?_
  refine r_il5 dL_law_493 ?_
  refine r_iconst dL_law_495 ?_
  refine r_iadd dL_law_496 ?_
  refine r_scJ dL_law_497 hp9 (by omega) (by omega) (by omega) ?_
  rw [m1]
  refine m_callR2 dL_law_498 v_L_146 hA (c_expires κ hA hR hC.1 p5.1 p5.2 (hf _) (hf _)) (by decide) rfl (fun r2 M2 hm => ?_)
  obtain ⟨z7, z8, S', G', q', e1, I'⟩ : SIM κ B po h1 h9 k1 r2 M2 := (sim_ask (Rf := fun g => R_expires g (f (i + 1)) (f (i + 2))) hB L.inv (by decide +kernel) (uq_expires) hkk (w_expires hR hK hm))
  have L' := L.fin a x1 hO e1 I'
  refine r_is7 dL_law_501 rfl ?_
  refine r_al2 dL_law_503 ?_
  refine m_callP0 dL_law_504 v_L_130 hA (c_thrown κ _ hA I'.rg) (by decide) rfl ?_
  rw [z7]
  refine r_il6 dL_law_507 ?_
  refine r_icmp_eq (tgt := 514) dL_law_509 (by decide) (by first | omega | decide) (by first | omega | decide) (fun c_509 => ?_) (fun c_509 => ?_)
  · refine r_il6 dL_law_514 ?_
    refine r_if_ne (tgt := 531) dL_law_516 (by decide) (by first | omega | decide) (fun c_516 => ?_) (fun c_516 => ?_)
    · refine r_goto (tgt := 2007) dL_law_531 (by decide) ?_
      exact KK _ _ _ _ _ _ _ _ _ _ (by omega) (by omega) L'
    · obtain ⟨f0, e9, hf0⟩ := z8 c_516
      have hpo : mset A M2 h9 po = some (true, .inl (.long, 1, f0)) := by rw [mset_off (fun k hk => (a.2.2.2.2.1 k hk).1), e9]; exact upA_same
      refine r_al3 dL_law_519 ?_
      refine r_iconst dL_law_520 ?_
      refine r_lald dL_law_521 hpo (by decide) (by decide) (by decide) hf0 ?_
      refine r_il7 dL_law_522 ?_
      refine r_i2l dL_law_524 ?_
      refine r_lcmp dL_law_525 ?_
      rw [lcmp_self]
      refine r_if_eq (tgt := 531) dL_law_526 (by decide) (by first | omega | decide) (fun c_526 => ?_) (fun c_526 => ?_)
      · refine r_goto (tgt := 2007) dL_law_531 (by decide) ?_
        exact KK _ _ _ _ _ _ _ _ _ _ (by omega) (by omega) L'
      · exact absurd rfl c_526
  · exact absurd rfl c_509
set_option maxRecDepth 100000 in
set_option maxHeartbeats 4000000 in
theorem k_addEquivalence (κ : KP) {A B : Nat → Nat} {po pd ps n : Nat} {f : Int → Int} {H : AH} {S : CST} {M : MEM} {G : Nat → Int → Int} {q : Nat} (a : AD A B po pd) (L : LH κ A B po pd ps n f H S M G q) (hf : ∀ j, rng (f j)) (hn : n ≤ 2560) {i : Int} (i0 : 0 ≤ i) (i1 : i + 5 ≤ n) {k n9 : Nat} (hk : 400 ≤ k) (hn9 : 2000 ≤ n9) {Q : Option Value → AH → Prop} {v6 v7 v8 : Option Value} (KK : KKt κ A B po pd ps n f i k n9 Q) : WW κ mL_law 30 k n9 Q NoX 534 [some (.ref ps), some (.ref (B 0)), some (.ref (A 30)), some (.ref po), some (.ref pd), some (.int (J i)), v6, v7, v8] [] H := by
  have hB := a.1
  have hA := a.2.1
  have hI := L.inv.cl
  have hH := L.inv.hk
  have hR := L.inv.rg
  have hC := L.inv.1.2.2.2
  have hK := L.inv.2.2.1.2
  have p5 := L.inv.2.2.2.1.2
  have n1 := hC.1.n.2.1
  have hp0 : LSc κ ps n f := L.2.2.2.2.1
  rw [L.1]
  refine r_al1 dL_law_534 ?_
  refine r_al0 dL_law_535 ?_
  refine r_il5 dL_law_536 ?_
  refine r_iconst dL_law_538 ?_
  refine r_iadd dL_law_539 ?_
  refine r_scJ dL_law_540 hp0 (by omega) (by omega) (by omega) ?_
  refine r_i2cZ dL_law_541 ?_
  refine r_al0 dL_law_542 ?_
  refine r_il5 dL_law_543 ?_
  refine r_iconst dL_law_545 ?_
  refine r_iadd dL_law_546 ?_
  refine r_scJ dL_law_547 hp0 (by omega) (by omega) (by omega) ?_
  refine r_i2cZ dL_law_548 ?_
  refine r_al0 dL_law_549 ?_
  refine r_il5 dL_law_550 ?_
  refine r_iconst dL_law_552 ?_
  refine r_iadd dL_law_553 ?_
  refine r_scJ dL_law_554 hp0 (by omega) (by omega) (by omega) ?_
  refine r_i2cZ dL_law_555 ?_
  refine r_al0 dL_law_556 ?_
  refine r_il5 dL_law_557 ?_
  refine r_iconst dL_law_559 ?_
  refine r_iadd dL_law_560 ?_
  refine r_scJ dL_law_561 hp0 (by omega) (by omega) (by omega) ?_
  refine r_i2cZ dL_law_562 ?_
  refine r_al3 dL_law_563 ?_
  refine r_callSX (As := [.ref (B 0), .int (J (chz (f (i + 1)))), .int (J (chz (f (i + 2)))), .int (J (chz (f (i + 3)))), .int (J (chz (f (i + 4)))), .ref po]) dL_law_564 s_L_147 (h_addEquivalence κ (cs_obj hB (k9 := 0) (by decide) rfl) (x_addEq κ H hB hI hH (by have := chz_rg (f (i + 1)); omega) (by have := chz_rg (f (i + 2)); omega) (by have := chz_rg (f (i + 3)); omega) (by have := chz_rg (f (i + 4)); omega)) (out_Q a L (fun v h9 hq => by obtain ⟨r, -, -, -, -, hP⟩ := hq; exact cp_fr hP) (fun v h9 hq => by obtain ⟨r, e, -⟩ := hq; exact ⟨r, e⟩)) (fun X h9 hE => by rcases hE with ⟨e, -⟩ | ⟨e, -⟩; exact Or.inl e; exact Or.inr e)) (by decide) rfl rfl (cat_le rfl) (by omega) (by omega) (fun v h9 hq9 => ?_)
  obtain ⟨k1, h1, rfl, kb, x1, hO, hkk⟩ := HQ.out (H0 := cset B S H) (pd := pd) hq9 (by decide) (fun v h9 hq => by obtain ⟨r, -, -, -, -, hP⟩ := hq; exact cp_fr hP) (fun X h9 hE => by rcases hE with ⟨-, -, e⟩ | ⟨-, -, -, e⟩ <;> (rw [e]; exact Fr.cs))
  show WW κ _ _ _ _ _ _ _ _ (.int (J k1) :: []) h9
  obtain ⟨m1, hp9, ⟨g3, m3⟩, ⟨g4, m4⟩⟩ := L.mid a x1 hO
  refine r_is6 dL_law_567 rfl ?_
  refine r_al2 dL_law_569 ?_
  refine r_al0 dL_law_570 ?_
  refine r_il5 dL_law_571 ?_
  refine r_iconst dL_law_573 ?_
  refine r_iadd dL_law_574 ?_
  refine r_scJ dL_law_575 hp9 (by omega) (by omega) (by omega) ?_
  refine r_i2cZ dL_law_576 ?_
  refine r_al0 dL_law_577 ?_
  refine r_il5 dL_law_578 ?_
  refine r_iconst dL_law_580 ?_
  refine r_iadd dL_law_581 ?_
  refine r_scJ dL_law_582 hp9 (by omega) (by omega) (by omega) ?_
  refine r_i2cZ dL_law_583 ?_
  refine r_al0 dL_law_584 ?_
  refine r_il5 dL_law_585 ?_
  refine r_iconst dL_law_587 ?_
  refine r_iadd dL_law_588 ?_
  refine r_scJ dL_law_589 hp9 (by omega) (by omega) (by omega) ?_
  refine r_i2cZ dL_law_590 ?_
  refine r_al0 dL_law_591 ?_
  refine r_il5 dL_law_592 ?_
  refine r_iconst dL_law_594 ?_
  refine r_iadd dL_law_595 ?_
  refine r_scJ dL_law_596 hp9 (by omega) (by omega) (by omega) ?_
  refine r_i2cZ dL_law_597 ?_
  rw [m1]
  refine m_callR4 dL_law_598 v_L_150 hA (c_addEquivalence κ hA hR hC.1 p5.1 p5.2 (by have := chz_rg (f (i + 1)); omega) (by have := chz_rg (f (i + 2)); omega) (by have := chz_rg (f (i + 3)); omega) (by have := chz_rg (f (i + 4)); omega)) (by decide) rfl (fun r2 M2 hm => ?_)
  obtain ⟨z7, z8, S', G', q', e1, I'⟩ : SIM κ B po h1 h9 k1 r2 M2 := (sim_eqv hB L.inv (by have := chz_rg (f (i + 1)); omega) (by have := chz_rg (f (i + 2)); omega) (by have := chz_rg (f (i + 3)); omega) (by have := chz_rg (f (i + 4)); omega) hkk hm)
  have L' := L.fin a x1 hO e1 I'
  refine r_is7 dL_law_601 rfl ?_
  refine r_al2 dL_law_603 ?_
  refine m_callP0 dL_law_604 v_L_130 hA (c_thrown κ _ hA I'.rg) (by decide) rfl ?_
  rw [z7]
  refine r_il6 dL_law_607 ?_
  refine r_icmp_eq (tgt := 614) dL_law_609 (by decide) (by first | omega | decide) (by first | omega | decide) (fun c_609 => ?_) (fun c_609 => ?_)
  · refine r_il6 dL_law_614 ?_
    refine r_if_ne (tgt := 631) dL_law_616 (by decide) (by first | omega | decide) (fun c_616 => ?_) (fun c_616 => ?_)
    · refine r_goto (tgt := 2007) dL_law_631 (by decide) ?_
      exact KK _ _ _ _ _ _ _ _ _ _ (by omega) (by omega) L'
    · obtain ⟨f0, e9, hf0⟩ := z8 c_616
      have hpo : mset A M2 h9 po = some (true, .inl (.long, 1, f0)) := by rw [mset_off (fun k hk => (a.2.2.2.2.1 k hk).1), e9]; exact upA_same
      refine r_al3 dL_law_619 ?_
      refine r_iconst dL_law_620 ?_
      refine r_lald dL_law_621 hpo (by decide) (by decide) (by decide) hf0 ?_
      refine r_il7 dL_law_622 ?_
      refine r_i2l dL_law_624 ?_
      refine r_lcmp dL_law_625 ?_
      rw [lcmp_self]
      refine r_if_eq (tgt := 631) dL_law_626 (by decide) (by first | omega | decide) (fun c_626 => ?_) (fun c_626 => ?_)
      · refine r_goto (tgt := 2007) dL_law_631 (by decide) ?_
        exact KK _ _ _ _ _ _ _ _ _ _ (by omega) (by omega) L'
      · exact absurd rfl c_626
  · exact absurd rfl c_609
set_option maxRecDepth 100000 in
set_option maxHeartbeats 4000000 in
theorem k_equivalent (κ : KP) {A B : Nat → Nat} {po pd ps n : Nat} {f : Int → Int} {H : AH} {S : CST} {M : MEM} {G : Nat → Int → Int} {q : Nat} (a : AD A B po pd) (L : LH κ A B po pd ps n f H S M G q) (hf : ∀ j, rng (f j)) (hn : n ≤ 2560) {i : Int} (i0 : 0 ≤ i) (i1 : i + 5 ≤ n) {k n9 : Nat} (hk : 400 ≤ k) (hn9 : 2000 ≤ n9) {Q : Option Value → AH → Prop} {v6 v7 v8 : Option Value} (KK : KKt κ A B po pd ps n f i k n9 Q) : WW κ mL_law 30 k n9 Q NoX 634 [some (.ref ps), some (.ref (B 0)), some (.ref (A 30)), some (.ref po), some (.ref pd), some (.int (J i)), v6, v7, v8] [] H := by
  have hB := a.1
  have hA := a.2.1
  have hI := L.inv.cl
  have hH := L.inv.hk
  have hR := L.inv.rg
  have hC := L.inv.1.2.2.2
  have hK := L.inv.2.2.1.2
  have p5 := L.inv.2.2.2.1.2
  have n1 := hC.1.n.2.1
  have hp0 : LSc κ ps n f := L.2.2.2.2.1
  rw [L.1]
  refine r_al1 dL_law_634 ?_
  refine r_al0 dL_law_635 ?_
  refine r_il5 dL_law_636 ?_
  refine r_iconst dL_law_638 ?_
  refine r_iadd dL_law_639 ?_
  refine r_scJ dL_law_640 hp0 (by omega) (by omega) (by omega) ?_
  refine r_al0 dL_law_641 ?_
  refine r_il5 dL_law_642 ?_
  refine r_iconst dL_law_644 ?_
  refine r_iadd dL_law_645 ?_
  refine r_scJ dL_law_646 hp0 (by omega) (by omega) (by omega) ?_
  refine r_al3 dL_law_647 ?_
  refine r_callSX (As := [.ref (B 0), .int (J (f (i + 1))), .int (J (f (i + 2))), .ref po]) dL_law_648 s_L_151 (h_equivalent κ (cs_obj hB (k9 := 0) (by decide) rfl) (x_equiv κ H hB hI (hf _) (hf _)) (out_Q a L rd_fr (fun v h9 hq => by obtain ⟨r, e, -⟩ := hq; exact ⟨r, e⟩)) re_2) (by decide) rfl rfl (cat_le rfl) (by omega) (by omega) (fun v h9 hq9 => ?_)
  obtain ⟨k1, h1, rfl, kb, x1, hO, hkk⟩ := HQ.out (H0 := cset B S H) (pd := pd) hq9 (by decide) rd_fr re_fr
  show WW κ _ _ _ _ _ _ _ _ (.int (J k1) :: []) h9
  obtain ⟨m1, hp9, ⟨g3, m3⟩, ⟨g4, m4⟩⟩ := L.mid a x1 hO
  refine r_is6 dL_law_651 rfl ?_
  refine r_al2 dL_law_653 ?_
  refine r_al0 dL_law_654 ?_
  refine r_il5 dL_law_655 ?_
  refine r_iconst dL_law_657 ?_
  refine r_iadd dL_law_658 ?_
  refine r_scJ dL_law_659 hp9 (by omega) (by omega) (by omega) ?_
  refine r_al0 dL_law_660 ?_
  refine r_il5 dL_law_661 ?_
  refine r_iconst dL_law_663 ?_
  refine r_iadd dL_law_664 ?_
  refine r_scJ dL_law_665 hp9 (by omega) (by omega) (by omega) ?_
  rw [m1]
  refine m_callR2 dL_law_666 v_L_153 hA (c_equivalent κ hA hR hC.1 p5.1 p5.2 (hf _) (hf _)) (by decide) rfl (fun r2 M2 hm => ?_)
  obtain ⟨z7, z8, S', G', q', e1, I'⟩ : SIM κ B po h1 h9 k1 r2 M2 := (sim_ask (Rf := fun g => R_equiv g (f (i + 1)) (f (i + 2))) hB L.inv (by decide +kernel) (uq_equiv) hkk (w_equiv hR hK hm))
  have L' := L.fin a x1 hO e1 I'
  refine r_is7 dL_law_669 rfl ?_
  refine r_al2 dL_law_671 ?_
  refine m_callP0 dL_law_672 v_L_130 hA (c_thrown κ _ hA I'.rg) (by decide) rfl ?_
  rw [z7]
  refine r_il6 dL_law_675 ?_
  refine r_icmp_eq (tgt := 682) dL_law_677 (by decide) (by first | omega | decide) (by first | omega | decide) (fun c_677 => ?_) (fun c_677 => ?_)
  · refine r_il6 dL_law_682 ?_
    refine r_if_ne (tgt := 699) dL_law_684 (by decide) (by first | omega | decide) (fun c_684 => ?_) (fun c_684 => ?_)
    · refine r_goto (tgt := 2007) dL_law_699 (by decide) ?_
      exact KK _ _ _ _ _ _ _ _ _ _ (by omega) (by omega) L'
    · obtain ⟨f0, e9, hf0⟩ := z8 c_684
      have hpo : mset A M2 h9 po = some (true, .inl (.long, 1, f0)) := by rw [mset_off (fun k hk => (a.2.2.2.2.1 k hk).1), e9]; exact upA_same
      refine r_al3 dL_law_687 ?_
      refine r_iconst dL_law_688 ?_
      refine r_lald dL_law_689 hpo (by decide) (by decide) (by decide) hf0 ?_
      refine r_il7 dL_law_690 ?_
      refine r_i2l dL_law_692 ?_
      refine r_lcmp dL_law_693 ?_
      rw [lcmp_self]
      refine r_if_eq (tgt := 699) dL_law_694 (by decide) (by first | omega | decide) (fun c_694 => ?_) (fun c_694 => ?_)
      · refine r_goto (tgt := 2007) dL_law_699 (by decide) ?_
        exact KK _ _ _ _ _ _ _ _ _ _ (by omega) (by omega) L'
      · exact absurd rfl c_694
  · exact absurd rfl c_677
set_option maxRecDepth 100000 in
set_option maxHeartbeats 4000000 in
theorem k_apply (κ : KP) {A B : Nat → Nat} {po pd ps n : Nat} {f : Int → Int} {H : AH} {S : CST} {M : MEM} {G : Nat → Int → Int} {q : Nat} (a : AD A B po pd) (L : LH κ A B po pd ps n f H S M G q) (hf : ∀ j, rng (f j)) (hn : n ≤ 2560) {i : Int} (i0 : 0 ≤ i) (i1 : i + 5 ≤ n) {k n9 : Nat} (hk : 400 ≤ k) (hn9 : 2000 ≤ n9) {Q : Option Value → AH → Prop} {v6 v7 v8 : Option Value} (KK : KKt κ A B po pd ps n f i k n9 Q) : WW κ mL_law 30 k n9 Q NoX 702 [some (.ref ps), some (.ref (B 0)), some (.ref (A 30)), some (.ref po), some (.ref pd), some (.int (J i)), v6, v7, v8] [] H := by
  have hB := a.1
  have hA := a.2.1
  have hI := L.inv.cl
  have hH := L.inv.hk
  have hR := L.inv.rg
  have hC := L.inv.1.2.2.2
  have hK := L.inv.2.2.1.2
  have p5 := L.inv.2.2.2.1.2
  have n1 := hC.1.n.2.1
  have hp0 : LSc κ ps n f := L.2.2.2.2.1
  rw [L.1]
  refine r_al1 dL_law_702 ?_
  refine r_al0 dL_law_703 ?_
  refine r_il5 dL_law_704 ?_
  refine r_iconst dL_law_706 ?_
  refine r_iadd dL_law_707 ?_
  refine r_scJ dL_law_708 hp0 (by omega) (by omega) (by omega) ?_
  refine r_al3 dL_law_709 ?_
  refine r_callSX (As := [.ref (B 0), .int (J (f (i + 1))), .ref po]) dL_law_710 s_L_154 (h_apply κ (cs_obj hB (k9 := 0) (by decide) rfl) (x_apply κ H hB hI hH (hf _)) (out_Q a L (fun v h9 hq => by obtain ⟨r, -, -, -, g1, -, hP⟩ := hq; exact cp_fr hP) (fun v h9 hq => by obtain ⟨r, e, -⟩ := hq; exact ⟨r, e⟩)) (fun X h9 hE => by rcases hE with ⟨e, -⟩ | ⟨e, -⟩; exact Or.inl e; exact Or.inr e)) (by decide) rfl rfl (cat_le rfl) (by omega) (by omega) (fun v h9 hq9 => ?_)
  obtain ⟨k1, h1, rfl, kb, x1, hO, hkk⟩ := HQ.out (H0 := cset B S H) (pd := pd) hq9 (by decide) (fun v h9 hq => by obtain ⟨r, -, -, -, g1, -, hP⟩ := hq; exact cp_fr hP) (fun X h9 hE => by rcases hE with ⟨-, -, e⟩ | ⟨-, -, no, -, -, e⟩ <;> (rw [e]; exact Fr.cs))
  show WW κ _ _ _ _ _ _ _ _ (.int (J k1) :: []) h9
  obtain ⟨m1, hp9, ⟨g3, m3⟩, ⟨g4, m4⟩⟩ := L.mid a x1 hO
  refine r_is6 dL_law_713 rfl ?_
  refine r_al2 dL_law_715 ?_
  refine r_al0 dL_law_716 ?_
  refine r_il5 dL_law_717 ?_
  refine r_iconst dL_law_719 ?_
  refine r_iadd dL_law_720 ?_
  refine r_scJ dL_law_721 hp9 (by omega) (by omega) (by omega) ?_
  rw [m1]
  refine m_callR1 dL_law_722 v_L_156 hA (c_apply κ hA hR hC hK p5.1 p5.2 (hf _)) (by decide) rfl (fun r2 M2 hm => ?_)
  obtain ⟨z7, z8, S', G', q', e1, I'⟩ : SIM κ B po h1 h9 k1 r2 M2 := (sim_apply hB L.inv hkk hm)
  have L' := L.fin a x1 hO e1 I'
  refine r_is7 dL_law_725 rfl ?_
  refine r_al2 dL_law_727 ?_
  refine m_callP0 dL_law_728 v_L_130 hA (c_thrown κ _ hA I'.rg) (by decide) rfl ?_
  rw [z7]
  refine r_il6 dL_law_731 ?_
  refine r_icmp_eq (tgt := 738) dL_law_733 (by decide) (by first | omega | decide) (by first | omega | decide) (fun c_733 => ?_) (fun c_733 => ?_)
  · refine r_il6 dL_law_738 ?_
    refine r_if_ne (tgt := 755) dL_law_740 (by decide) (by first | omega | decide) (fun c_740 => ?_) (fun c_740 => ?_)
    · refine r_goto (tgt := 2007) dL_law_755 (by decide) ?_
      exact KK _ _ _ _ _ _ _ _ _ _ (by omega) (by omega) L'
    · obtain ⟨f0, e9, hf0⟩ := z8 c_740
      have hpo : mset A M2 h9 po = some (true, .inl (.long, 1, f0)) := by rw [mset_off (fun k hk => (a.2.2.2.2.1 k hk).1), e9]; exact upA_same
      refine r_al3 dL_law_743 ?_
      refine r_iconst dL_law_744 ?_
      refine r_lald dL_law_745 hpo (by decide) (by decide) (by decide) hf0 ?_
      refine r_il7 dL_law_746 ?_
      refine r_i2l dL_law_748 ?_
      refine r_lcmp dL_law_749 ?_
      rw [lcmp_self]
      refine r_if_eq (tgt := 755) dL_law_750 (by decide) (by first | omega | decide) (fun c_750 => ?_) (fun c_750 => ?_)
      · refine r_goto (tgt := 2007) dL_law_755 (by decide) ?_
        exact KK _ _ _ _ _ _ _ _ _ _ (by omega) (by omega) L'
      · exact absurd rfl c_750
  · exact absurd rfl c_733
set_option maxRecDepth 100000 in
set_option maxHeartbeats 4000000 in
theorem k_rootsBy (κ : KP) {A B : Nat → Nat} {po pd ps n : Nat} {f : Int → Int} {H : AH} {S : CST} {M : MEM} {G : Nat → Int → Int} {q : Nat} (a : AD A B po pd) (L : LH κ A B po pd ps n f H S M G q) (hf : ∀ j, rng (f j)) (hn : n ≤ 2560) {i : Int} (i0 : 0 ≤ i) (i1 : i + 5 ≤ n) {k n9 : Nat} (hk : 400 ≤ k) (hn9 : 2000 ≤ n9) {Q : Option Value → AH → Prop} {v6 v7 v8 : Option Value} (KK : KKt κ A B po pd ps n f i k n9 Q) : WW κ mL_law 30 k n9 Q NoX 758 [some (.ref ps), some (.ref (B 0)), some (.ref (A 30)), some (.ref po), some (.ref pd), some (.int (J i)), v6, v7, v8] [] H := by
  have hB := a.1
  have hA := a.2.1
  have hI := L.inv.cl
  have hH := L.inv.hk
  have hR := L.inv.rg
  have hC := L.inv.1.2.2.2
  have hK := L.inv.2.2.1.2
  have p5 := L.inv.2.2.2.1.2
  have n1 := hC.1.n.2.1
  have hp0 : LSc κ ps n f := L.2.2.2.2.1
  rw [L.1]
  refine r_al1 dL_law_758 ?_
  refine r_al0 dL_law_759 ?_
  refine r_il5 dL_law_760 ?_
  refine r_iconst dL_law_762 ?_
  refine r_iadd dL_law_763 ?_
  refine r_scJ dL_law_764 hp0 (by omega) (by omega) (by omega) ?_
  refine r_al3 dL_law_765 ?_
  refine r_callSX (As := [.ref (B 0), .int (J (f (i + 1))), .ref po]) dL_law_766 s_L_157 (h_rootsBy κ (cs_obj hB (k9 := 0) (by decide) rfl) (x_rootsBy κ H hB hI (hf _)) (out_Q a L rd_fr (fun v h9 hq => by obtain ⟨r, e, -⟩ := hq; exact ⟨r, e⟩)) re_2) (by decide) rfl rfl (cat_le rfl) (by omega) (by omega) (fun v h9 hq9 => ?_)
  obtain ⟨k1, h1, rfl, kb, x1, hO, hkk⟩ := HQ.out (H0 := cset B S H) (pd := pd) hq9 (by decide) rd_fr re_fr
  show WW κ _ _ _ _ _ _ _ _ (.int (J k1) :: []) h9
  obtain ⟨m1, hp9, ⟨g3, m3⟩, ⟨g4, m4⟩⟩ := L.mid a x1 hO
  refine r_is6 dL_law_769 rfl ?_
  refine r_al2 dL_law_771 ?_
  refine r_al0 dL_law_772 ?_
  refine r_il5 dL_law_773 ?_
  refine r_iconst dL_law_775 ?_
  refine r_iadd dL_law_776 ?_
  refine r_scJ dL_law_777 hp9 (by omega) (by omega) (by omega) ?_
  rw [m1]
  refine m_callR1 dL_law_778 v_L_159 hA (c_rootsBy κ hA hR hC hK (hf _)) (by decide) rfl (fun r2 M2 hm => ?_)
  obtain ⟨z7, z8, S', G', q', e1, I'⟩ : SIM κ B po h1 h9 k1 r2 M2 := (sim_ask (Rf := fun g => R_rootsBy g (f (i + 1))) hB L.inv (by decide +kernel) (uq_rootsBy hC) hkk (QFx.w (Rf := fun g => R_rootsBy g (f (i + 1))) hm))
  have L' := L.fin a x1 hO e1 I'
  refine r_is7 dL_law_781 rfl ?_
  refine r_al2 dL_law_783 ?_
  refine m_callP0 dL_law_784 v_L_130 hA (c_thrown κ _ hA I'.rg) (by decide) rfl ?_
  rw [z7]
  refine r_il6 dL_law_787 ?_
  refine r_icmp_eq (tgt := 794) dL_law_789 (by decide) (by first | omega | decide) (by first | omega | decide) (fun c_789 => ?_) (fun c_789 => ?_)
  · refine r_il6 dL_law_794 ?_
    refine r_if_ne (tgt := 811) dL_law_796 (by decide) (by first | omega | decide) (fun c_796 => ?_) (fun c_796 => ?_)
    · refine r_goto (tgt := 2007) dL_law_811 (by decide) ?_
      exact KK _ _ _ _ _ _ _ _ _ _ (by omega) (by omega) L'
    · obtain ⟨f0, e9, hf0⟩ := z8 c_796
      have hpo : mset A M2 h9 po = some (true, .inl (.long, 1, f0)) := by rw [mset_off (fun k hk => (a.2.2.2.2.1 k hk).1), e9]; exact upA_same
      refine r_al3 dL_law_799 ?_
      refine r_iconst dL_law_800 ?_
      refine r_lald dL_law_801 hpo (by decide) (by decide) (by decide) hf0 ?_
      refine r_il7 dL_law_802 ?_
      refine r_i2l dL_law_804 ?_
      refine r_lcmp dL_law_805 ?_
      rw [lcmp_self]
      refine r_if_eq (tgt := 811) dL_law_806 (by decide) (by first | omega | decide) (fun c_806 => ?_) (fun c_806 => ?_)
      · refine r_goto (tgt := 2007) dL_law_811 (by decide) ?_
        exact KK _ _ _ _ _ _ _ _ _ _ (by omega) (by omega) L'
      · exact absurd rfl c_806
  · exact absurd rfl c_789
set_option maxRecDepth 100000 in
set_option maxHeartbeats 4000000 in
theorem k_bestEquivalence (κ : KP) {A B : Nat → Nat} {po pd ps n : Nat} {f : Int → Int} {H : AH} {S : CST} {M : MEM} {G : Nat → Int → Int} {q : Nat} (a : AD A B po pd) (L : LH κ A B po pd ps n f H S M G q) (hf : ∀ j, rng (f j)) (hn : n ≤ 2560) {i : Int} (i0 : 0 ≤ i) (i1 : i + 5 ≤ n) {k n9 : Nat} (hk : 400 ≤ k) (hn9 : 2000 ≤ n9) {Q : Option Value → AH → Prop} {v6 v7 v8 : Option Value} (KK : KKt κ A B po pd ps n f i k n9 Q) : WW κ mL_law 30 k n9 Q NoX 814 [some (.ref ps), some (.ref (B 0)), some (.ref (A 30)), some (.ref po), some (.ref pd), some (.int (J i)), v6, v7, v8] [] H := by
  have hB := a.1
  have hA := a.2.1
  have hI := L.inv.cl
  have hH := L.inv.hk
  have hR := L.inv.rg
  have hC := L.inv.1.2.2.2
  have hK := L.inv.2.2.1.2
  have p5 := L.inv.2.2.2.1.2
  have n1 := hC.1.n.2.1
  have hp0 : LSc κ ps n f := L.2.2.2.2.1
  rw [L.1]
  refine r_al1 dL_law_814 ?_
  refine r_al3 dL_law_815 ?_
  refine r_callSX (As := [.ref (B 0), .ref po]) dL_law_816 s_L_160 (h_bestEquivalence κ (cs_obj hB (k9 := 0) (by decide) rfl) (x_bestEq κ H hB hI) (out_Q a L rd_fr (fun v h9 hq => by obtain ⟨r, e, -⟩ := hq; exact ⟨r, e⟩)) re_1) (by decide) rfl rfl (cat_le rfl) (by omega) (by omega) (fun v h9 hq9 => ?_)
  obtain ⟨k1, h1, rfl, kb, x1, hO, hkk⟩ := HQ.out (H0 := cset B S H) (pd := pd) hq9 (by decide) rd_fr re_fr
  show WW κ _ _ _ _ _ _ _ _ (.int (J k1) :: []) h9
  obtain ⟨m1, hp9, ⟨g3, m3⟩, ⟨g4, m4⟩⟩ := L.mid a x1 hO
  refine r_is6 dL_law_819 rfl ?_
  refine r_al2 dL_law_821 ?_
  rw [m1]
  refine m_callR0 dL_law_822 v_L_163 hA (c_bestEquivalence κ hA hR hC hK) (by decide) rfl (fun r2 M2 hm => ?_)
  obtain ⟨z7, z8, S', G', q', e1, I'⟩ : SIM κ B po h1 h9 k1 r2 M2 := (sim_ask (Rf := fun g => R_best g) hB L.inv (by decide +kernel) (uq_best hC) hkk (QFx.w (Rf := fun g => R_best g) hm))
  have L' := L.fin a x1 hO e1 I'
  refine r_is7 dL_law_825 rfl ?_
  refine r_al2 dL_law_827 ?_
  refine m_callP0 dL_law_828 v_L_130 hA (c_thrown κ _ hA I'.rg) (by decide) rfl ?_
  rw [z7]
  refine r_il6 dL_law_831 ?_
  refine r_icmp_eq (tgt := 838) dL_law_833 (by decide) (by first | omega | decide) (by first | omega | decide) (fun c_833 => ?_) (fun c_833 => ?_)
  · refine r_il6 dL_law_838 ?_
    refine r_if_ne (tgt := 855) dL_law_840 (by decide) (by first | omega | decide) (fun c_840 => ?_) (fun c_840 => ?_)
    · refine r_goto (tgt := 2007) dL_law_855 (by decide) ?_
      exact KK _ _ _ _ _ _ _ _ _ _ (by omega) (by omega) L'
    · obtain ⟨f0, e9, hf0⟩ := z8 c_840
      have hpo : mset A M2 h9 po = some (true, .inl (.long, 1, f0)) := by rw [mset_off (fun k hk => (a.2.2.2.2.1 k hk).1), e9]; exact upA_same
      refine r_al3 dL_law_843 ?_
      refine r_iconst dL_law_844 ?_
      refine r_lald dL_law_845 hpo (by decide) (by decide) (by decide) hf0 ?_
      refine r_il7 dL_law_846 ?_
      refine r_i2l dL_law_848 ?_
      refine r_lcmp dL_law_849 ?_
      rw [lcmp_self]
      refine r_if_eq (tgt := 855) dL_law_850 (by decide) (by first | omega | decide) (fun c_850 => ?_) (fun c_850 => ?_)
      · refine r_goto (tgt := 2007) dL_law_855 (by decide) ?_
        exact KK _ _ _ _ _ _ _ _ _ _ (by omega) (by omega) L'
      · exact absurd rfl c_850
  · exact absurd rfl c_833
set_option maxRecDepth 100000 in
set_option maxHeartbeats 4000000 in
theorem k_append (κ : KP) {A B : Nat → Nat} {po pd ps n : Nat} {f : Int → Int} {H : AH} {S : CST} {M : MEM} {G : Nat → Int → Int} {q : Nat} (a : AD A B po pd) (L : LH κ A B po pd ps n f H S M G q) (hf : ∀ j, rng (f j)) (hn : n ≤ 2560) {i : Int} (i0 : 0 ≤ i) (i1 : i + 5 ≤ n) {k n9 : Nat} (hk : 400 ≤ k) (hn9 : 2000 ≤ n9) {Q : Option Value → AH → Prop} {v6 v7 v8 : Option Value} (KK : KKt κ A B po pd ps n f i k n9 Q) : WW κ mL_law 30 k n9 Q NoX 858 [some (.ref ps), some (.ref (B 0)), some (.ref (A 30)), some (.ref po), some (.ref pd), some (.int (J i)), v6, v7, v8] [] H := by
  have hB := a.1
  have hA := a.2.1
  have hI := L.inv.cl
  have hH := L.inv.hk
  have hR := L.inv.rg
  have hC := L.inv.1.2.2.2
  have hK := L.inv.2.2.1.2
  have p5 := L.inv.2.2.2.1.2
  have n1 := hC.1.n.2.1
  have hp0 : LSc κ ps n f := L.2.2.2.2.1
  rw [L.1]
  have hRd := L.inv.2.2.2.2.2.2.2.2.2
  have n17 : 0 ≤ M 30 17 ∧ M 30 17 ≤ 50 := by have := L.inv.2.2.2.2.2.2.2.1; have := hRd.1; omega
  refine r_al1 dL_law_858 ?_
  refine r_al0 dL_law_859 ?_
  refine r_il5 dL_law_860 ?_
  refine r_iconst dL_law_862 ?_
  refine r_iadd dL_law_863 ?_
  refine r_scJ dL_law_864 hp0 (by omega) (by omega) (by omega) ?_
  refine r_i2cZ dL_law_865 ?_
  refine r_callSX (As := [.ref (B 0), .int (J (chz (f (i + 1))))]) dL_law_866 s_L_164 (h_append κ (cs_obj hB (k9 := 0) (by decide) rfl) (x_append κ H hB L.inv.2.2.2.2.2.2.2.2.2.1 (chz_rg (f (i + 1))).1 (chz_rg (f (i + 1))).2) (fun v h9 hq => hq.1) (fun X h9 hE => hE.1)) (by decide) rfl rfl (cat_le rfl) (by omega) (by omega) (fun v h9 hq9 => ?_)
  obtain ⟨k1, rfl, kb, x1, hkk⟩ := HV.out (H0 := cset B S H) hq9 (by decide) (fun v h9 hq => by obtain ⟨-, -, e⟩ := hq; rw [e]; exact Fr.cs) (fun X h9 hE => by obtain ⟨-, -, e⟩ := hE; rw [e]; exact Fr.cs)
  show WW κ _ _ _ _ _ _ _ _ (.int (J k1) :: []) h9
  obtain ⟨m1, hp9, ⟨g3, m3⟩, ⟨g4, m4⟩⟩ := L.mid a x1 (Or.inl rfl)
  refine r_is6 dL_law_869 rfl ?_
  refine r_al2 dL_law_871 ?_
  refine r_al0 dL_law_872 ?_
  refine r_il5 dL_law_873 ?_
  refine r_iconst dL_law_875 ?_
  refine r_iadd dL_law_876 ?_
  refine r_scJ dL_law_877 hp9 (by omega) (by omega) (by omega) ?_
  refine r_i2cZ dL_law_878 ?_
  rw [m1]
  refine m_callU1 dL_law_879 v_L_167 hA (c_append κ hA hR (by have := chz_rg (f (i + 1)); omega) n17.1 n17.2) (by decide) rfl (fun M2 hm => ?_)
  obtain ⟨z7, S', G', q', e1, I'⟩ : SIMV κ B h9 k1 M2 := sim_app hB L.inv (chz_rg (f (i + 1))).1 (chz_rg (f (i + 1))).2 hkk hm
  have L' := L.fin a x1 (Or.inl rfl) e1 I'
  refine r_al2 dL_law_882 ?_
  refine m_callP0 dL_law_883 v_L_130 hA (c_thrown κ _ hA I'.rg) (by decide) rfl ?_
  rw [z7]
  refine r_il6 dL_law_886 ?_
  refine r_icmp_eq (tgt := 893) dL_law_888 (by decide) (by omega) (by omega) (fun c_888 => ?_) (fun c_888 => ?_)
  · refine r_goto (tgt := 2007) dL_law_893 (by decide) ?_
    exact KK _ _ _ _ _ _ _ _ _ _ (by omega) (by omega) L'
  · exact absurd rfl c_888
set_option maxRecDepth 100000 in
set_option maxHeartbeats 4000000 in
theorem k_readProgram (κ : KP) {A B : Nat → Nat} {po pd ps n : Nat} {f : Int → Int} {H : AH} {S : CST} {M : MEM} {G : Nat → Int → Int} {q : Nat} (a : AD A B po pd) (L : LH κ A B po pd ps n f H S M G q) (hf : ∀ j, rng (f j)) (hn : n ≤ 2560) {i : Int} (i0 : 0 ≤ i) (i1 : i + 5 ≤ n) {k n9 : Nat} (hk : 400 ≤ k) (hn9 : 2000 ≤ n9) {Q : Option Value → AH → Prop} {v6 v7 v8 : Option Value} (KK : KKt κ A B po pd ps n f i k n9 Q) : WW κ mL_law 30 k n9 Q NoX 896 [some (.ref ps), some (.ref (B 0)), some (.ref (A 30)), some (.ref po), some (.ref pd), some (.int (J i)), v6, v7, v8] [] H := by
  have hB := a.1
  have hA := a.2.1
  have hI := L.inv.cl
  have hH := L.inv.hk
  have hR := L.inv.rg
  have hC := L.inv.1.2.2.2
  have hK := L.inv.2.2.1.2
  have p5 := L.inv.2.2.2.1.2
  have n1 := hC.1.n.2.1
  have hp0 : LSc κ ps n f := L.2.2.2.2.1
  rw [L.1]
  have hRd := L.inv.2.2.2.2.2.2.2.2.2
  have n17 : 0 ≤ M 30 17 ∧ M 30 17 ≤ 50 := by have := L.inv.2.2.2.2.2.2.2.1; have := hRd.1; omega
  refine r_al1 dL_law_896 ?_
  refine r_al3 dL_law_897 ?_
  refine r_callSX (As := [.ref (B 0), .ref po]) dL_law_898 s_L_168 (h_readProgram κ (cs_obj hB (k9 := 0) (by decide) rfl) (x_readP κ H hB hI hH hRd) (out_Q a L (fun v h9 hq => by obtain ⟨r, -, hc⟩ := rq_Q v h9 hq; exact crd_fr hc) (fun v h9 hq => by obtain ⟨r, e, -⟩ := rq_Q v h9 hq; exact ⟨r, e⟩)) (fun X h9 hE => by rcases rq_E (κ := κ) (G := G) (q := q) X h9 hE with ⟨e, -⟩ | ⟨e, -⟩; exact Or.inl e; exact Or.inr e)) (by decide) rfl rfl (cat_le rfl) (by omega) (by omega) (fun v h9 hq9 => ?_)
  obtain ⟨k1, h1, rfl, kb, x1, hO, hkk⟩ := HQ.out (H0 := cset B S H) (pd := pd) hq9 (by decide) (fun v h9 hq => by obtain ⟨r, -, hc⟩ := rq_Q v h9 hq; exact crd_fr hc) (fun X h9 hE => by rcases rq_E (κ := κ) (G := G) (q := q) X h9 hE with ⟨-, hc⟩ | ⟨-, hc⟩ <;> exact crd_fr hc)
  show WW κ _ _ _ _ _ _ _ _ (.int (J k1) :: []) h9
  obtain ⟨m1, hp9, ⟨g3, m3⟩, ⟨g4, m4⟩⟩ := L.mid a x1 hO
  refine r_is6 dL_law_901 rfl ?_
  refine r_al2 dL_law_903 ?_
  rw [m1]
  refine m_callR0 dL_law_904 v_L_170 hA (c_readProgram κ hA hR n17.1 n17.2 p5.1 p5.2) (by decide) rfl (fun r2 M2 hm => ?_)
  obtain ⟨z7, z8, S', G', q', e1, I'⟩ : SIM κ B po h1 h9 k1 r2 M2 := (sim_read hB L.inv rq_Q rq_E hkk hm)
  have L' := L.fin a x1 hO e1 I'
  refine r_is7 dL_law_907 rfl ?_
  refine r_al2 dL_law_909 ?_
  refine m_callP0 dL_law_910 v_L_130 hA (c_thrown κ _ hA I'.rg) (by decide) rfl ?_
  rw [z7]
  refine r_il6 dL_law_913 ?_
  refine r_icmp_eq (tgt := 920) dL_law_915 (by decide) (by first | omega | decide) (by first | omega | decide) (fun c_915 => ?_) (fun c_915 => ?_)
  · refine r_il6 dL_law_920 ?_
    refine r_if_ne (tgt := 937) dL_law_922 (by decide) (by first | omega | decide) (fun c_922 => ?_) (fun c_922 => ?_)
    · refine r_goto (tgt := 2007) dL_law_937 (by decide) ?_
      exact KK _ _ _ _ _ _ _ _ _ _ (by omega) (by omega) L'
    · obtain ⟨f0, e9, hf0⟩ := z8 c_922
      have hpo : mset A M2 h9 po = some (true, .inl (.long, 1, f0)) := by rw [mset_off (fun k hk => (a.2.2.2.2.1 k hk).1), e9]; exact upA_same
      refine r_al3 dL_law_925 ?_
      refine r_iconst dL_law_926 ?_
      refine r_lald dL_law_927 hpo (by decide) (by decide) (by decide) hf0 ?_
      refine r_il7 dL_law_928 ?_
      refine r_i2l dL_law_930 ?_
      refine r_lcmp dL_law_931 ?_
      rw [lcmp_self]
      refine r_if_eq (tgt := 937) dL_law_932 (by decide) (by first | omega | decide) (fun c_932 => ?_) (fun c_932 => ?_)
      · refine r_goto (tgt := 2007) dL_law_937 (by decide) ?_
        exact KK _ _ _ _ _ _ _ _ _ _ (by omega) (by omega) L'
      · exact absurd rfl c_932
  · exact absurd rfl c_915
set_option maxRecDepth 100000 in
set_option maxHeartbeats 4000000 in
theorem k_faultPosition (κ : KP) {A B : Nat → Nat} {po pd ps n : Nat} {f : Int → Int} {H : AH} {S : CST} {M : MEM} {G : Nat → Int → Int} {q : Nat} (a : AD A B po pd) (L : LH κ A B po pd ps n f H S M G q) (hf : ∀ j, rng (f j)) (hn : n ≤ 2560) {i : Int} (i0 : 0 ≤ i) (i1 : i + 5 ≤ n) {k n9 : Nat} (hk : 400 ≤ k) (hn9 : 2000 ≤ n9) {Q : Option Value → AH → Prop} {v6 v7 v8 : Option Value} (KK : KKt κ A B po pd ps n f i k n9 Q) : WW κ mL_law 30 k n9 Q NoX 940 [some (.ref ps), some (.ref (B 0)), some (.ref (A 30)), some (.ref po), some (.ref pd), some (.int (J i)), v6, v7, v8] [] H := by
  have hB := a.1
  have hA := a.2.1
  have hI := L.inv.cl
  have hH := L.inv.hk
  have hR := L.inv.rg
  have hC := L.inv.1.2.2.2
  have hK := L.inv.2.2.1.2
  have p5 := L.inv.2.2.2.1.2
  have n1 := hC.1.n.2.1
  have hp0 : LSc κ ps n f := L.2.2.2.2.1
  rw [L.1]
  refine r_al1 dL_law_940 ?_
  refine r_callV (As := []) dL_law_941 v_L_171 (cs_obj hB (k9 := 0) (by decide) rfl) (x_fault κ H hB hI) (by decide) rfl rfl (cat_le rfl) (by omega) (by omega) (fun v h9 hq9 => ?_) (fun X h9 hE => (re_0 X h9 hE).elim)
  have x1 := rd_fr _ _ hq9
  obtain ⟨r1, rfl, hr, hP⟩ := hq9
  show WW κ _ _ _ _ _ _ _ _ (.int (J r1) :: []) h9
  obtain ⟨m1, hp9, ⟨g3, m3⟩, ⟨g4, m4⟩⟩ := L.mid a x1 (Or.inl rfl)
  refine r_al2 dL_law_944 ?_
  rw [m1]
  refine m_callR0 dL_law_945 v_L_174 hA (c_faultPosition κ hA hR) (by decide) rfl (fun r2 M2 hm => ?_)
  obtain rfl : r1 = r2 := hr.2.trans (L.inv.2.2.2.2.2.2.1.1.trans hm.1.symm)
  have rr : rng r1 := by rw [hm.1]; exact hR 30 20
  obtain ⟨S', G', e1, I'⟩ := L.inv.ask hB hP (M' := M2) (by rw [show M2 = updm M 30 7 0 from hm.2]; exact MQs.thr hR hK (by decide))
  have L' := L.fin a x1 (Or.inl rfl) e1 I'
  refine r_icmp_eq (tgt := 2007) dL_law_948 (by decide) (by exact rr) (by exact rr) (fun c_948 => ?_) (fun c_948 => ?_)
  · exact KK _ _ _ _ _ _ _ _ _ _ (by omega) (by omega) L'
  · exact absurd rfl c_948
set_option maxRecDepth 100000 in
set_option maxHeartbeats 4000000 in
theorem k_refusal (κ : KP) {A B : Nat → Nat} {po pd ps n : Nat} {f : Int → Int} {H : AH} {S : CST} {M : MEM} {G : Nat → Int → Int} {q : Nat} (a : AD A B po pd) (L : LH κ A B po pd ps n f H S M G q) (hf : ∀ j, rng (f j)) (hn : n ≤ 2560) {i : Int} (i0 : 0 ≤ i) (i1 : i + 5 ≤ n) {k n9 : Nat} (hk : 400 ≤ k) (hn9 : 2000 ≤ n9) {Q : Option Value → AH → Prop} {v6 v7 v8 : Option Value} (KK : KKt κ A B po pd ps n f i k n9 Q) : WW κ mL_law 30 k n9 Q NoX 953 [some (.ref ps), some (.ref (B 0)), some (.ref (A 30)), some (.ref po), some (.ref pd), some (.int (J i)), v6, v7, v8] [] H := by
  have hB := a.1
  have hA := a.2.1
  have hI := L.inv.cl
  have hH := L.inv.hk
  have hR := L.inv.rg
  have hC := L.inv.1.2.2.2
  have hK := L.inv.2.2.1.2
  have p5 := L.inv.2.2.2.1.2
  have n1 := hC.1.n.2.1
  have hp0 : LSc κ ps n f := L.2.2.2.2.1
  rw [L.1]
  have r8 : rng (S 0 8) := by rw [L.inv.2.2.2.2.2.2.1.2]; exact hR 30 6
  refine r_al1 dL_law_953 ?_
  refine r_al3 dL_law_954 ?_
  refine r_callSX (As := [.ref (B 0), .ref po]) dL_law_955 s_L_175 (h_refusal κ (cs_obj hB (k9 := 0) (by decide) rfl) (x_refusal κ H hB hI r8) (out_Q a L rd_fr (fun v h9 hq => by obtain ⟨r, e, -⟩ := hq; exact ⟨r, e⟩)) re_1) (by decide) rfl rfl (cat_le rfl) (by omega) (by omega) (fun v h9 hq9 => ?_)
  obtain ⟨k1, h1, rfl, kb, x1, hO, hkk⟩ := HQ.out (H0 := cset B S H) (pd := pd) hq9 (by decide) rd_fr re_fr
  show WW κ _ _ _ _ _ _ _ _ (.int (J k1) :: []) h9
  obtain ⟨m1, hp9, ⟨g3, m3⟩, ⟨g4, m4⟩⟩ := L.mid a x1 hO
  refine r_is6 dL_law_958 rfl ?_
  refine r_al2 dL_law_960 ?_
  rw [m1]
  refine m_callR0 dL_law_961 v_L_177 hA (c_refusal κ hA hR) (by decide) rfl (fun r2 M2 hm => ?_)
  obtain ⟨z7, z8, S', G', q', e1, I'⟩ : SIM κ B po h1 h9 k1 r2 M2 := (sim_ask (Rf := fun _ t r => (S 0 8 = 0 ∧ t = 1) ∨ (S 0 8 ≠ 0 ∧ t = 0 ∧ r = S 0 8)) hB L.inv (by decide +kernel) uq_refusal hkk (w_refusal hR hK L.inv.2.2.2.2.2.2.1.2 hm))
  have L' := L.fin a x1 hO e1 I'
  refine r_is7 dL_law_964 rfl ?_
  refine r_al2 dL_law_966 ?_
  refine m_callP0 dL_law_967 v_L_130 hA (c_thrown κ _ hA I'.rg) (by decide) rfl ?_
  rw [z7]
  refine r_il6 dL_law_970 ?_
  refine r_icmp_eq (tgt := 977) dL_law_972 (by decide) (by first | omega | decide) (by first | omega | decide) (fun c_972 => ?_) (fun c_972 => ?_)
  · refine r_il6 dL_law_977 ?_
    refine r_if_ne (tgt := 994) dL_law_979 (by decide) (by first | omega | decide) (fun c_979 => ?_) (fun c_979 => ?_)
    · refine r_goto (tgt := 2007) dL_law_994 (by decide) ?_
      exact KK _ _ _ _ _ _ _ _ _ _ (by omega) (by omega) L'
    · obtain ⟨f0, e9, hf0⟩ := z8 c_979
      have hpo : mset A M2 h9 po = some (true, .inl (.long, 1, f0)) := by rw [mset_off (fun k hk => (a.2.2.2.2.1 k hk).1), e9]; exact upA_same
      refine r_al3 dL_law_982 ?_
      refine r_iconst dL_law_983 ?_
      refine r_lald dL_law_984 hpo (by decide) (by decide) (by decide) hf0 ?_
      refine r_il7 dL_law_985 ?_
      refine r_i2l dL_law_987 ?_
      refine r_lcmp dL_law_988 ?_
      rw [lcmp_self]
      refine r_if_eq (tgt := 994) dL_law_989 (by decide) (by first | omega | decide) (fun c_989 => ?_) (fun c_989 => ?_)
      · refine r_goto (tgt := 2007) dL_law_994 (by decide) ?_
        exact KK _ _ _ _ _ _ _ _ _ _ (by omega) (by omega) L'
      · exact absurd rfl c_989
  · exact absurd rfl c_972
set_option maxRecDepth 100000 in
set_option maxHeartbeats 4000000 in
theorem k_block (κ : KP) {A B : Nat → Nat} {po pd ps n : Nat} {f : Int → Int} {H : AH} {S : CST} {M : MEM} {G : Nat → Int → Int} {q : Nat} (a : AD A B po pd) (L : LH κ A B po pd ps n f H S M G q) (hf : ∀ j, rng (f j)) (hn : n ≤ 2560) {i : Int} (i0 : 0 ≤ i) (i1 : i + 5 ≤ n) {k n9 : Nat} (hk : 400 ≤ k) (hn9 : 2000 ≤ n9) {Q : Option Value → AH → Prop} {v6 v7 v8 : Option Value} (KK : KKt κ A B po pd ps n f i k n9 Q) : WW κ mL_law 30 k n9 Q NoX 997 [some (.ref ps), some (.ref (B 0)), some (.ref (A 30)), some (.ref po), some (.ref pd), some (.int (J i)), v6, v7, v8] [] H := by
  have hB := a.1
  have hA := a.2.1
  have hI := L.inv.cl
  have hH := L.inv.hk
  have hR := L.inv.rg
  have hC := L.inv.1.2.2.2
  have hK := L.inv.2.2.1.2
  have p5 := L.inv.2.2.2.1.2
  have n1 := hC.1.n.2.1
  have hp0 : LSc κ ps n f := L.2.2.2.2.1
  rw [L.1]
  refine r_al1 dL_law_997 ?_
  refine r_al0 dL_law_998 ?_
  refine r_il5 dL_law_999 ?_
  refine r_iconst dL_law_1001 ?_
  refine r_iadd dL_law_1002 ?_
  refine r_scJ dL_law_1003 hp0 (by omega) (by omega) (by omega) ?_
  refine r_al0 dL_law_1004 ?_
  refine r_il5 dL_law_1005 ?_
  refine r_iconst dL_law_1007 ?_
  refine r_iadd dL_law_1008 ?_
  refine r_scJ dL_law_1009 hp0 (by omega) (by omega) (by omega) ?_
  refine r_al3 dL_law_1010 ?_
  refine r_callSX (As := [.ref (B 0), .int (J (f (i + 1))), .int (J (f (i + 2))), .ref po]) dL_law_1011 s_L_178 (h_block κ (cs_obj hB (k9 := 0) (by decide) rfl) (x_block κ H hB hI (hf _) (hf _)) (out_Q a L rd_fr (fun v h9 hq => by obtain ⟨r, e, -⟩ := hq; exact ⟨r, e⟩)) re_2) (by decide) rfl rfl (cat_le rfl) (by omega) (by omega) (fun v h9 hq9 => ?_)
  obtain ⟨k1, h1, rfl, kb, x1, hO, hkk⟩ := HQ.out (H0 := cset B S H) (pd := pd) hq9 (by decide) rd_fr re_fr
  show WW κ _ _ _ _ _ _ _ _ (.int (J k1) :: []) h9
  obtain ⟨m1, hp9, ⟨g3, m3⟩, ⟨g4, m4⟩⟩ := L.mid a x1 hO
  refine r_is6 dL_law_1014 rfl ?_
  refine r_al2 dL_law_1016 ?_
  refine r_al0 dL_law_1017 ?_
  refine r_il5 dL_law_1018 ?_
  refine r_iconst dL_law_1020 ?_
  refine r_iadd dL_law_1021 ?_
  refine r_scJ dL_law_1022 hp9 (by omega) (by omega) (by omega) ?_
  refine r_al0 dL_law_1023 ?_
  refine r_il5 dL_law_1024 ?_
  refine r_iconst dL_law_1026 ?_
  refine r_iadd dL_law_1027 ?_
  refine r_scJ dL_law_1028 hp9 (by omega) (by omega) (by omega) ?_
  rw [m1]
  refine m_callR2 dL_law_1029 v_L_180 hA (c_block κ hA hR hC hK (hf _) (hf _)) (by decide) rfl (fun r2 M2 hm => ?_)
  obtain ⟨z7, z8, S', G', q', e1, I'⟩ : SIM κ B po h1 h9 k1 r2 M2 := (sim_ask (Rf := fun g => R_block g (f (i + 1)) (f (i + 2))) hB L.inv (by decide +kernel) (uq_block) hkk (QFx.w (Rf := fun g => R_block g (f (i + 1)) (f (i + 2))) hm))
  have L' := L.fin a x1 hO e1 I'
  refine r_is7 dL_law_1032 rfl ?_
  refine r_al2 dL_law_1034 ?_
  refine m_callP0 dL_law_1035 v_L_130 hA (c_thrown κ _ hA I'.rg) (by decide) rfl ?_
  rw [z7]
  refine r_il6 dL_law_1038 ?_
  refine r_icmp_eq (tgt := 1045) dL_law_1040 (by decide) (by first | omega | decide) (by first | omega | decide) (fun c_1040 => ?_) (fun c_1040 => ?_)
  · refine r_il6 dL_law_1045 ?_
    refine r_if_ne (tgt := 1062) dL_law_1047 (by decide) (by first | omega | decide) (fun c_1047 => ?_) (fun c_1047 => ?_)
    · refine r_goto (tgt := 2007) dL_law_1062 (by decide) ?_
      exact KK _ _ _ _ _ _ _ _ _ _ (by omega) (by omega) L'
    · obtain ⟨f0, e9, hf0⟩ := z8 c_1047
      have hpo : mset A M2 h9 po = some (true, .inl (.long, 1, f0)) := by rw [mset_off (fun k hk => (a.2.2.2.2.1 k hk).1), e9]; exact upA_same
      refine r_al3 dL_law_1050 ?_
      refine r_iconst dL_law_1051 ?_
      refine r_lald dL_law_1052 hpo (by decide) (by decide) (by decide) hf0 ?_
      refine r_il7 dL_law_1053 ?_
      refine r_i2l dL_law_1055 ?_
      refine r_lcmp dL_law_1056 ?_
      rw [lcmp_self]
      refine r_if_eq (tgt := 1062) dL_law_1057 (by decide) (by first | omega | decide) (fun c_1057 => ?_) (fun c_1057 => ?_)
      · refine r_goto (tgt := 2007) dL_law_1062 (by decide) ?_
        exact KK _ _ _ _ _ _ _ _ _ _ (by omega) (by omega) L'
      · exact absurd rfl c_1057
  · exact absurd rfl c_1040
set_option maxRecDepth 100000 in
set_option maxHeartbeats 4000000 in
theorem k_part (κ : KP) {A B : Nat → Nat} {po pd ps n : Nat} {f : Int → Int} {H : AH} {S : CST} {M : MEM} {G : Nat → Int → Int} {q : Nat} (a : AD A B po pd) (L : LH κ A B po pd ps n f H S M G q) (hf : ∀ j, rng (f j)) (hn : n ≤ 2560) {i : Int} (i0 : 0 ≤ i) (i1 : i + 5 ≤ n) {k n9 : Nat} (hk : 400 ≤ k) (hn9 : 2000 ≤ n9) {Q : Option Value → AH → Prop} {v6 v7 v8 : Option Value} (KK : KKt κ A B po pd ps n f i k n9 Q) : WW κ mL_law 30 k n9 Q NoX 1065 [some (.ref ps), some (.ref (B 0)), some (.ref (A 30)), some (.ref po), some (.ref pd), some (.int (J i)), v6, v7, v8] [] H := by
  have hB := a.1
  have hA := a.2.1
  have hI := L.inv.cl
  have hH := L.inv.hk
  have hR := L.inv.rg
  have hC := L.inv.1.2.2.2
  have hK := L.inv.2.2.1.2
  have p5 := L.inv.2.2.2.1.2
  have n1 := hC.1.n.2.1
  have hp0 : LSc κ ps n f := L.2.2.2.2.1
  rw [L.1]
  refine r_al1 dL_law_1065 ?_
  refine r_al0 dL_law_1066 ?_
  refine r_il5 dL_law_1067 ?_
  refine r_iconst dL_law_1069 ?_
  refine r_iadd dL_law_1070 ?_
  refine r_scJ dL_law_1071 hp0 (by omega) (by omega) (by omega) ?_
  refine r_al0 dL_law_1072 ?_
  refine r_il5 dL_law_1073 ?_
  refine r_iconst dL_law_1075 ?_
  refine r_iadd dL_law_1076 ?_
  refine r_scJ dL_law_1077 hp0 (by omega) (by omega) (by omega) ?_
  refine r_al3 dL_law_1078 ?_
  refine r_callSX (As := [.ref (B 0), .int (J (f (i + 1))), .int (J (f (i + 2))), .ref po]) dL_law_1079 s_L_181 (h_part κ (cs_obj hB (k9 := 0) (by decide) rfl) (x_part κ H hB hI (hf _) (hf _)) (out_Q a L rd_fr (fun v h9 hq => by obtain ⟨r, e, -⟩ := hq; exact ⟨r, e⟩)) re_2) (by decide) rfl rfl (cat_le rfl) (by omega) (by omega) (fun v h9 hq9 => ?_)
  obtain ⟨k1, h1, rfl, kb, x1, hO, hkk⟩ := HQ.out (H0 := cset B S H) (pd := pd) hq9 (by decide) rd_fr re_fr
  show WW κ _ _ _ _ _ _ _ _ (.int (J k1) :: []) h9
  obtain ⟨m1, hp9, ⟨g3, m3⟩, ⟨g4, m4⟩⟩ := L.mid a x1 hO
  refine r_is6 dL_law_1082 rfl ?_
  refine r_al2 dL_law_1084 ?_
  refine r_al0 dL_law_1085 ?_
  refine r_il5 dL_law_1086 ?_
  refine r_iconst dL_law_1088 ?_
  refine r_iadd dL_law_1089 ?_
  refine r_scJ dL_law_1090 hp9 (by omega) (by omega) (by omega) ?_
  refine r_al0 dL_law_1091 ?_
  refine r_il5 dL_law_1092 ?_
  refine r_iconst dL_law_1094 ?_
  refine r_iadd dL_law_1095 ?_
  refine r_scJ dL_law_1096 hp9 (by omega) (by omega) (by omega) ?_
  rw [m1]
  refine m_callR2 dL_law_1097 v_L_183 hA (c_part κ hA hR hC hK (hf _) (hf _)) (by decide) rfl (fun r2 M2 hm => ?_)
  obtain ⟨z7, z8, S', G', q', e1, I'⟩ : SIM κ B po h1 h9 k1 r2 M2 := (sim_ask (Rf := fun g => R_part g (f (i + 1)) (f (i + 2))) hB L.inv (by decide +kernel) (uq_part) hkk (QFx.w (Rf := fun g => R_part g (f (i + 1)) (f (i + 2))) hm))
  have L' := L.fin a x1 hO e1 I'
  refine r_is7 dL_law_1100 rfl ?_
  refine r_al2 dL_law_1102 ?_
  refine m_callP0 dL_law_1103 v_L_130 hA (c_thrown κ _ hA I'.rg) (by decide) rfl ?_
  rw [z7]
  refine r_il6 dL_law_1106 ?_
  refine r_icmp_eq (tgt := 1113) dL_law_1108 (by decide) (by first | omega | decide) (by first | omega | decide) (fun c_1108 => ?_) (fun c_1108 => ?_)
  · refine r_il6 dL_law_1113 ?_
    refine r_if_ne (tgt := 1130) dL_law_1115 (by decide) (by first | omega | decide) (fun c_1115 => ?_) (fun c_1115 => ?_)
    · refine r_goto (tgt := 2007) dL_law_1130 (by decide) ?_
      exact KK _ _ _ _ _ _ _ _ _ _ (by omega) (by omega) L'
    · obtain ⟨f0, e9, hf0⟩ := z8 c_1115
      have hpo : mset A M2 h9 po = some (true, .inl (.long, 1, f0)) := by rw [mset_off (fun k hk => (a.2.2.2.2.1 k hk).1), e9]; exact upA_same
      refine r_al3 dL_law_1118 ?_
      refine r_iconst dL_law_1119 ?_
      refine r_lald dL_law_1120 hpo (by decide) (by decide) (by decide) hf0 ?_
      refine r_il7 dL_law_1121 ?_
      refine r_i2l dL_law_1123 ?_
      refine r_lcmp dL_law_1124 ?_
      rw [lcmp_self]
      refine r_if_eq (tgt := 1130) dL_law_1125 (by decide) (by first | omega | decide) (fun c_1125 => ?_) (fun c_1125 => ?_)
      · refine r_goto (tgt := 2007) dL_law_1130 (by decide) ?_
        exact KK _ _ _ _ _ _ _ _ _ _ (by omega) (by omega) L'
      · exact absurd rfl c_1125
  · exact absurd rfl c_1108
set_option maxRecDepth 100000 in
set_option maxHeartbeats 4000000 in
theorem k_letter (κ : KP) {A B : Nat → Nat} {po pd ps n : Nat} {f : Int → Int} {H : AH} {S : CST} {M : MEM} {G : Nat → Int → Int} {q : Nat} (a : AD A B po pd) (L : LH κ A B po pd ps n f H S M G q) (hf : ∀ j, rng (f j)) (hn : n ≤ 2560) {i : Int} (i0 : 0 ≤ i) (i1 : i + 5 ≤ n) {k n9 : Nat} (hk : 400 ≤ k) (hn9 : 2000 ≤ n9) {Q : Option Value → AH → Prop} {v6 v7 v8 : Option Value} (KK : KKt κ A B po pd ps n f i k n9 Q) : WW κ mL_law 30 k n9 Q NoX 1133 [some (.ref ps), some (.ref (B 0)), some (.ref (A 30)), some (.ref po), some (.ref pd), some (.int (J i)), v6, v7, v8] [] H := by
  have hB := a.1
  have hA := a.2.1
  have hI := L.inv.cl
  have hH := L.inv.hk
  have hR := L.inv.rg
  have hC := L.inv.1.2.2.2
  have hK := L.inv.2.2.1.2
  have p5 := L.inv.2.2.2.1.2
  have n1 := hC.1.n.2.1
  have hp0 : LSc κ ps n f := L.2.2.2.2.1
  rw [L.1]
  refine r_al1 dL_law_1133 ?_
  refine r_al0 dL_law_1134 ?_
  refine r_il5 dL_law_1135 ?_
  refine r_iconst dL_law_1137 ?_
  refine r_iadd dL_law_1138 ?_
  refine r_scJ dL_law_1139 hp0 (by omega) (by omega) (by omega) ?_
  refine r_al0 dL_law_1140 ?_
  refine r_il5 dL_law_1141 ?_
  refine r_iconst dL_law_1143 ?_
  refine r_iadd dL_law_1144 ?_
  refine r_scJ dL_law_1145 hp0 (by omega) (by omega) (by omega) ?_
  refine r_al3 dL_law_1146 ?_
  refine r_callSX (As := [.ref (B 0), .int (J (f (i + 1))), .int (J (f (i + 2))), .ref po]) dL_law_1147 s_L_184 (h_letter κ (cs_obj hB (k9 := 0) (by decide) rfl) (x_letter κ H hB hI (hf _) (hf _)) (out_Q a L rd_fr (fun v h9 hq => by obtain ⟨r, e, -⟩ := hq; exact ⟨r, e⟩)) re_2) (by decide) rfl rfl (cat_le rfl) (by omega) (by omega) (fun v h9 hq9 => ?_)
  obtain ⟨k1, h1, rfl, kb, x1, hO, hkk⟩ := HQ.out (H0 := cset B S H) (pd := pd) hq9 (by decide) rd_fr re_fr
  show WW κ _ _ _ _ _ _ _ _ (.int (J k1) :: []) h9
  obtain ⟨m1, hp9, ⟨g3, m3⟩, ⟨g4, m4⟩⟩ := L.mid a x1 hO
  refine r_is6 dL_law_1150 rfl ?_
  refine r_al2 dL_law_1152 ?_
  refine r_al0 dL_law_1153 ?_
  refine r_il5 dL_law_1154 ?_
  refine r_iconst dL_law_1156 ?_
  refine r_iadd dL_law_1157 ?_
  refine r_scJ dL_law_1158 hp9 (by omega) (by omega) (by omega) ?_
  refine r_al0 dL_law_1159 ?_
  refine r_il5 dL_law_1160 ?_
  refine r_iconst dL_law_1162 ?_
  refine r_iadd dL_law_1163 ?_
  refine r_scJ dL_law_1164 hp9 (by omega) (by omega) (by omega) ?_
  rw [m1]
  refine m_callR2 dL_law_1165 v_L_186 hA (c_letter κ hA hR hC hK (hf _) (hf _)) (by decide) rfl (fun r2 M2 hm => ?_)
  obtain ⟨z7, z8, S', G', q', e1, I'⟩ : SIM κ B po h1 h9 k1 r2 M2 := (sim_ask (Rf := fun g => R_letter g (f (i + 1)) (f (i + 2))) hB L.inv (by decide +kernel) (uq_letter) hkk (QFx.w (Rf := fun g => R_letter g (f (i + 1)) (f (i + 2))) hm))
  have L' := L.fin a x1 hO e1 I'
  refine r_is7 dL_law_1168 rfl ?_
  refine r_al2 dL_law_1170 ?_
  refine m_callP0 dL_law_1171 v_L_130 hA (c_thrown κ _ hA I'.rg) (by decide) rfl ?_
  rw [z7]
  refine r_il6 dL_law_1174 ?_
  refine r_icmp_eq (tgt := 1181) dL_law_1176 (by decide) (by first | omega | decide) (by first | omega | decide) (fun c_1176 => ?_) (fun c_1176 => ?_)
  · refine r_il6 dL_law_1181 ?_
    refine r_if_ne (tgt := 1198) dL_law_1183 (by decide) (by first | omega | decide) (fun c_1183 => ?_) (fun c_1183 => ?_)
    · refine r_goto (tgt := 2007) dL_law_1198 (by decide) ?_
      exact KK _ _ _ _ _ _ _ _ _ _ (by omega) (by omega) L'
    · obtain ⟨f0, e9, hf0⟩ := z8 c_1183
      have hpo : mset A M2 h9 po = some (true, .inl (.long, 1, f0)) := by rw [mset_off (fun k hk => (a.2.2.2.2.1 k hk).1), e9]; exact upA_same
      refine r_al3 dL_law_1186 ?_
      refine r_iconst dL_law_1187 ?_
      refine r_lald dL_law_1188 hpo (by decide) (by decide) (by decide) hf0 ?_
      refine r_il7 dL_law_1189 ?_
      refine r_i2l dL_law_1191 ?_
      refine r_lcmp dL_law_1192 ?_
      rw [lcmp_self]
      refine r_if_eq (tgt := 1198) dL_law_1193 (by decide) (by first | omega | decide) (fun c_1193 => ?_) (fun c_1193 => ?_)
      · refine r_goto (tgt := 2007) dL_law_1198 (by decide) ?_
        exact KK _ _ _ _ _ _ _ _ _ _ (by omega) (by omega) L'
      · exact absurd rfl c_1193
  · exact absurd rfl c_1176
