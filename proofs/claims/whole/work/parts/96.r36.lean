/-! ===== a call on both sides ===== -/
/-- the addresses are apart -/
def AD (A B : Nat → Nat) (po pd : Nat) : Prop := BA B ∧ MA A ∧ (∀ i ∈ bids, ∀ k ∈ mids, B i ≠ A k) ∧ (∀ i ∈ bids, B i ≠ po ∧ B i ≠ pd) ∧ (∀ k ∈ mids, A k ≠ po ∧ A k ≠ pd) ∧ po ≠ pd
theorem cs_of {B : Nat → Nat} {S : CST} {H : AH} (h : ∀ k ∈ bids, H (B k) = some (bcell B S k)) : H = cset B S H := by
  funext q
  unfold cset
  cases e : bids.find? (fun k => B k == q) with
  | none => rfl
  | some k =>
    have h1 := List.find?_some e
    have h2 := List.mem_of_find?_eq_some e
    have h3 : B k = q := by simpa using h1
    show H q = some (bcell B S k)
    rw [← h3]
    exact h k h2
theorem ms_of {A : Nat → Nat} {M : MEM} {H : AH} (h : ∀ k ∈ mids, H (A k) = some (mcell A M k)) : H = mset A M H := by
  funext q
  unfold mset
  cases e : mids.find? (fun k => A k == q) with
  | none => rfl
  | some k =>
    have h1 := List.find?_some e
    have h2 := List.mem_of_find?_eq_some e
    have h3 : A k = q := by simpa using h1
    show H q = some (mcell A M k)
    rw [← h3]
    exact h k h2
theorem cs_at {B : Nat → Nat} {S : CST} {H : AH} (hB : BA B) (e : H = cset B S H) {k : Nat} (hk : k ∈ bids) : H (B k) = some (bcell B S k) := (congrFun e (B k)).trans (cset_at hB hk)
theorem ms_at {A : Nat → Nat} {M : MEM} {H : AH} (hA : MA A) (e : H = mset A M H) {k : Nat} (hk : k ∈ mids) : H (A k) = some (mcell A M k) := (congrFun e (A k)).trans (mset_at hA hk)
theorem mcell_w {A : Nat → Nat} {M : MEM} {k : Nat} : ∃ x, mcell A M k = (true, x) := by
  unfold mcell
  split
  · exact ⟨_, rfl⟩
  · exact ⟨_, rfl⟩
/-- what stands at the law's loop -/
def LH (κ : KP) (A B : Nat → Nat) (po pd ps n : Nat) (f : Int → Int) (H : AH) (S : CST) (M : MEM) (G : Nat → Int → Int) (q : Nat) : Prop := H = cset B S H ∧ H = mset A M H ∧ (∃ g, H po = some (true, .inl (.long, 1, g))) ∧ (∃ g, H pd = some (true, .inl (.double, 1, g))) ∧ LSc κ ps n f ∧ LInv κ H S M G q
/-- a helper wrote its row, or none -/
def OutS (po pd : Nat) (h1 H2 : AH) : Prop := H2 = h1 ∨ (∃ g, H2 = upA h1 po (true, .inl (.long, 1, g))) ∨ ∃ g, H2 = upA h1 pd (true, .inl (.double, 1, g))
theorem OutS.at {po pd : Nat} {h1 H2 : AH} (o : OutS po pd h1 H2) {a : Nat} (h : a ≠ po) (h' : a ≠ pd) : H2 a = h1 a := by
  rcases o with rfl | ⟨g, rfl⟩ | ⟨g, rfl⟩
  · rfl
  · exact upA_ne h
  · exact upA_ne h'
section LHS
variable {κ : KP} {A B : Nat → Nat} {po pd ps n : Nat} {f : Int → Int} {H h1 H2 : AH} {S S' : CST} {M M' : MEM} {G G' : Nat → Int → Int} {q q' : Nat}
theorem LH.keep (a : AD A B po pd) (L : LH κ A B po pd ps n f H S M G q) (x : Fr B (cset B S H) h1) {b : Nat} {c : HC} (hb : ∀ k ∈ bids, B k ≠ b) (h : H b = some c) : h1 b = some c := x b c hb (by rw [← L.1]; exact h)
theorem LH.mid (a : AD A B po pd) (L : LH κ A B po pd ps n f H S M G q) (x : Fr B (cset B S H) h1) (o : OutS po pd h1 H2) : H2 = mset A M H2 ∧ LSc κ ps n f ∧ (∃ g, H2 po = some (true, .inl (.long, 1, g))) ∧ ∃ g, H2 pd = some (true, .inl (.double, 1, g)) := by
  have L0 := L
  obtain ⟨l1, l2, ⟨g1, l3⟩, ⟨g2, l4⟩, l5, -⟩ := L
  have k3 := L0.keep a x (fun k hk => (a.2.2.2.1 k hk).1) l3
  have k4 := L0.keep a x (fun k hk => (a.2.2.2.1 k hk).2) l4
  refine ⟨ms_of fun k hk => ?_, l5, ?_, ?_⟩
  · rw [o.at (a.2.2.2.2.1 k hk).1 (a.2.2.2.2.1 k hk).2]
    exact L0.keep a x (fun i hi => a.2.2.1 i hi k hk) (ms_at a.2.1 l2 hk)
  · rcases o with rfl | ⟨g, rfl⟩ | ⟨g, rfl⟩
    · exact ⟨g1, k3⟩
    · exact ⟨g, upA_same⟩
    · exact ⟨g1, by rw [upA_ne a.2.2.2.2.2]; exact k3⟩
  · rcases o with rfl | ⟨g, rfl⟩ | ⟨g, rfl⟩
    · exact ⟨g2, k4⟩
    · exact ⟨g2, by rw [upA_ne (Ne.symm a.2.2.2.2.2)]; exact k4⟩
    · exact ⟨g, upA_same⟩
theorem LH.fin (a : AD A B po pd) (L : LH κ A B po pd ps n f H S M G q) (x : Fr B (cset B S H) h1) (o : OutS po pd h1 H2) (e1 : h1 = cset B S' h1) (I' : LInv κ h1 S' M' G' q') : LH κ A B po pd ps n f (mset A M' H2) S' M' G' q' := by
  obtain ⟨m1, m2, ⟨g1, m3⟩, ⟨g2, m4⟩⟩ := L.mid a x o
  have offA : ∀ b, (∀ k ∈ mids, A k ≠ b) → mset A M' H2 b = H2 b := fun b hb => mset_off hb
  have L0 := L
  obtain ⟨l1, l2, ⟨g3, l3⟩, ⟨g4, l4⟩, l5, -⟩ := L
  have k3 := L0.keep a x (fun k hk => (a.2.2.2.1 k hk).1) l3
  have k4 := L0.keep a x (fun k hk => (a.2.2.2.1 k hk).2) l4
  refine ⟨cs_of fun k hk => ?_, mset_mset.symm, ⟨g1, ?_⟩, ⟨g2, ?_⟩, m2, I'.fx fun b y hb => ?_⟩
  · rw [offA _ (fun i hi e => a.2.2.1 k hk i hi e.symm), o.at (a.2.2.2.1 k hk).1 (a.2.2.2.1 k hk).2]
    exact cs_at a.1 e1 hk
  · rw [offA _ (fun k hk => (a.2.2.2.2.1 k hk).1)]
    exact m3
  · rw [offA _ (fun k hk => (a.2.2.2.2.1 k hk).2)]
    exact m4
  · have b1 : b ≠ po := fun e => by rw [e, k3] at hb; cases hb
    have b2 : b ≠ pd := fun e => by rw [e, k4] at hb; cases hb
    have b3 : ∀ k ∈ mids, A k ≠ b := fun k hk e => by
      have := L0.keep a x (fun i hi => a.2.2.1 i hi k hk) (ms_at a.2.1 l2 hk)
      obtain ⟨z, w⟩ := mcell_w (A := A) (M := M) (k := k)
      rw [e, hb, w] at this
      cases this
    rw [offA b b3, o.at b1 b2]
    exact hb
theorem LH.inv (L : LH κ A B po pd ps n f H S M G q) : LInv κ (cset B S H) S M G q := by
  rw [← L.1]
  exact L.2.2.2.2.2
theorem LH.obj (a : AD A B po pd) (L : LH κ A B po pd ps n f H S M G q) : ∃ fs, H (B 0) = some (true, .inr (13, fs)) := ⟨_, cs_at a.1 L.1 (k := 0) (by decide)⟩
end LHS
/-! ===== what a helper leaves ===== -/
/-- k: 0 and the answer, or what was thrown -/
def HK1 (Q : Option Value → AH → Prop) (E : String → AH → Prop) (xs : List String) (po : Nat) (k : Int) (h1 h9 : AH) : Prop := (k = 0 ∧ ∃ (r : Int) (f : Nat → Value), Q (some (.int (J r))) h1 ∧ h9 = upA h1 po (true, .inl (.long, 1, f)) ∧ f 0 = .long (J r).toInt64) ∨ ∃ (t : Nat) (X : String), k = (t : Int) + 1 ∧ xs[t]? = some X ∧ E X h1 ∧ h9 = h1
theorem HQ.out {B : Nat → Nat} {H0 : AH} {Q : Option Value → AH → Prop} {E : String → AH → Prop} {xs : List String} {po pd : Nat} {v : Option Value} {h9 : AH} (h : HQ Q E xs po v h9) (hx : xs.length ≤ 3) (hQ : ∀ v h1, Q v h1 → Fr B H0 h1) (hE : ∀ X h1, E X h1 → Fr B H0 h1) : ∃ (k : Int) (h1 : AH), v = some (.int (J k)) ∧ (0 ≤ k ∧ k ≤ 3) ∧ Fr B H0 h1 ∧ OutS po pd h1 h9 ∧ HK1 Q E xs po k h1 h9 := by
  obtain ⟨k, e, ⟨rfl, r, h1, f, a, b, c⟩ | ⟨t, X, rfl, a, b⟩⟩ := h
  · exact ⟨0, h1, e, by decide, hQ _ _ a, Or.inr (Or.inl ⟨f, b⟩), Or.inl ⟨rfl, r, f, a, b, c⟩⟩
  · have ht := (List.getElem?_eq_some_iff.mp a).1
    exact ⟨_, h9, e, by omega, hE _ _ b, Or.inl rfl, Or.inr ⟨t, X, rfl, a, b, rfl⟩⟩
def HK2 (Q : Option Value → AH → Prop) (E : String → AH → Prop) (xs : List String) (k : Int) (h1 : AH) : Prop := (k = 0 ∧ Q none h1) ∨ ∃ (t : Nat) (X : String), k = (t : Int) + 1 ∧ xs[t]? = some X ∧ E X h1
theorem HV.out {B : Nat → Nat} {H0 : AH} {Q : Option Value → AH → Prop} {E : String → AH → Prop} {xs : List String} {v : Option Value} {h9 : AH} (h : HV Q E xs v h9) (hx : xs.length ≤ 3) (hQ : ∀ v h1, Q v h1 → Fr B H0 h1) (hE : ∀ X h1, E X h1 → Fr B H0 h1) : ∃ k : Int, v = some (.int (J k)) ∧ (0 ≤ k ∧ k ≤ 3) ∧ Fr B H0 h9 ∧ HK2 Q E xs k h9 := by
  obtain ⟨k, e, ⟨rfl, a⟩ | ⟨t, X, rfl, a, b⟩⟩ := h
  · exact ⟨0, e, by decide, hQ _ _ a, Or.inl ⟨rfl, a⟩⟩
  · have ht := (List.getElem?_eq_some_iff.mp a).1
    exact ⟨_, e, by omega, hE _ _ b, Or.inr ⟨t, X, rfl, a, b⟩⟩
def HK3 (Q : Option Value → AH → Prop) (E : String → AH → Prop) (xs : List String) (pd : Nat) (k : Int) (h1 h9 : AH) : Prop := (k = 0 ∧ ∃ (x : UInt64) (f : Nat → Value), Q (some (.double x)) h1 ∧ h9 = upA h1 pd (true, .inl (.double, 1, f)) ∧ f 0 = .double x) ∨ ∃ (t : Nat) (X : String), k = (t : Int) + 1 ∧ xs[t]? = some X ∧ E X h1 ∧ h9 = h1
theorem HD2.out {B : Nat → Nat} {H0 : AH} {Q : Option Value → AH → Prop} {E : String → AH → Prop} {xs : List String} {po pd : Nat} {v : Option Value} {h9 : AH} (h : HD2 Q E xs pd v h9) (hx : xs.length ≤ 3) (hQ : ∀ v h1, Q v h1 → Fr B H0 h1) (hE : ∀ X h1, E X h1 → Fr B H0 h1) : ∃ (k : Int) (h1 : AH), v = some (.int (J k)) ∧ (0 ≤ k ∧ k ≤ 3) ∧ Fr B H0 h1 ∧ OutS po pd h1 h9 ∧ HK3 Q E xs pd k h1 h9 := by
  obtain ⟨k, e, ⟨rfl, r, h1, f, a, b, c⟩ | ⟨t, X, rfl, a, b⟩⟩ := h
  · exact ⟨0, h1, e, by decide, hQ _ _ a, Or.inr (Or.inr ⟨f, b⟩), Or.inl ⟨rfl, r, f, a, b, c⟩⟩
  · have ht := (List.getElem?_eq_some_iff.mp a).1
    exact ⟨_, h9, e, by omega, hE _ _ b, Or.inl rfl, Or.inr ⟨t, X, rfl, a, b, rfl⟩⟩
theorem nd_ix {xs : List String} (hn : xs.Nodup) {i j : Nat} {X : String} (hi : xs[i]? = some X) (hj : xs[j]? = some X) : i = j := (List.getElem?_inj (List.getElem?_eq_some_iff.mp hi).1 hn).mp (hi.trans hj.symm)
/-- class and model agree, and what holds goes on -/
def SIM (κ : KP) (B : Nat → Nat) (po : Nat) (h1 h9 : AH) (k r' : Int) (M' : MEM) : Prop := M' 30 7 = k ∧ (k = 0 → ∃ f : Nat → Value, h9 = upA h1 po (true, .inl (.long, 1, f)) ∧ f 0 = .long (J r').toInt64) ∧ ∃ S' G' q', h1 = cset B S' h1 ∧ LInv κ h1 S' M' G' q'
def SIMV (κ : KP) (B : Nat → Nat) (h1 : AH) (k : Int) (M' : MEM) : Prop := M' 30 7 = k ∧ ∃ S' G' q', h1 = cset B S' h1 ∧ LInv κ h1 S' M' G' q'
theorem LInv.rg {κ : KP} {H : AH} {S : CST} {M : MEM} {G : Nat → Int → Int} {q : Nat} (I : LInv κ H S M G q) : RG M := I.2.2.1.1
theorem rp_fr {κ : KP} {B : Nat → Nat} {S : CST} {h h' : AH} {Γ : Nat → Int → Int} {q : Nat} (hP : RP κ B S h Γ q h') : Fr B (cset B S h) h' := by
  obtain ⟨S', Γ', e, f, -⟩ := hP
  exact f
theorem rd_fr {κ : KP} {B : Nat → Nat} {S : CST} {h : AH} {Γ : Nat → Int → Int} {q : Nat} {R : Int → Int → Prop} : ∀ v h1, RD κ B S h Γ q R v h1 → Fr B (cset B S h) h1 := fun v h1 ⟨_, _, _, hP⟩ => rp_fr hP
theorem re_fr {κ : KP} {B : Nat → Nat} {S : CST} {h : AH} {Γ : Nat → Int → Int} {q : Nat} {R : Int → Int → Prop} {ws : List String} : ∀ X h1, RE κ B S h Γ q R ws X h1 → Fr B (cset B S h) h1 := fun X h1 ⟨_, _, _, _, hP⟩ => rp_fr hP
theorem jr_eq {r r2 : Int} (e : some (Value.int (J r)) = some (.int (J r2))) : J r = J r2 := by
  injection e with e
  injection e
/-- a question -/
theorem sim_ask {κ : KP} {B : Nat → Nat} {S : CST} {M M' : MEM} {G : Nat → Int → Int} {q : Nat} {h h1 h9 : AH} {po : Nat} {k r' : Int} {ws : List String} {Rf : (Int → Int) → Int → Int → Prop} (hB : BA B) (I : LInv κ (cset B S h) S M G q) (hn : ws.Nodup) (hu : UQ (Rf (M 0))) (hk : HK1 (RD κ B S h G q (Rf (G q))) (RE κ B S h G q (Rf (G q)) ws) ws po k h1 h9) (hm : ∃ t', MQs M M' ∧ M' 30 7 = t' ∧ Rf (M 0) t' r') : SIM κ B po h1 h9 k r' M' := by
  obtain ⟨t', m1, m2, m3⟩ := hm
  rw [show G q = M 0 from I.1.2.2.1] at hk
  rcases hk with ⟨rfl, r, f, ⟨r2, e2, hr, hP⟩, e9, hf⟩ | ⟨t, X, rfl, hx, ⟨t2, r, hx2, hr, hP⟩, e9⟩
  · obtain ⟨y1, y2⟩ := hu _ _ _ _ hr m3
    refine ⟨m2.trans y1.symm, fun _ => ⟨f, e9, ?_⟩, ?_⟩
    · rw [hf, jr_eq e2, y2 rfl]
    · obtain ⟨S', G', e, I'⟩ := I.ask hB hP m1
      exact ⟨S', G', q, e, I'⟩
  · obtain rfl := nd_ix hn hx hx2
    obtain ⟨y1, -⟩ := hu _ _ _ _ hr m3
    refine ⟨m2.trans y1.symm, fun z => by omega, ?_⟩
    obtain ⟨S', G', e, I'⟩ := I.ask hB hP m1
    exact ⟨S', G', q, e, I'⟩
/-! ===== the model's questions, in one form ===== -/
theorem QFx.w {M M' : MEM} {Rf : (Int → Int) → Int → Int → Prop} {r : Int} (h : ∃ t, QFx M t M' ∧ Rf (M 0) t r) : ∃ t', MQs M M' ∧ M' 30 7 = t' ∧ Rf (M 0) t' r := by
  obtain ⟨t, a, b⟩ := h
  exact ⟨t, a.mq, a.2.2.1, b⟩
theorem QFy.w {M M' : MEM} {Rf : (Int → Int) → Int → Int → Prop} {r : Int} (h : ∃ t, QFy M t M' ∧ Rf (M 0) t r) : ∃ t', MQs M M' ∧ M' 30 7 = t' ∧ Rf (M 0) t' r := by
  obtain ⟨t, a, b⟩ := h
  exact ⟨t, a.mq, a.2.2.1, b⟩
theorem XThr.w {M M' : MEM} {Rf : (Int → Int) → Int → Int → Prop} {r t : Int} (hR : RG M) (hK : QKn M) (ht : rng t) (h : XThr M t M') (hr : Rf (M 0) t r) : ∃ t', MQs M M' ∧ M' 30 7 = t' ∧ Rf (M 0) t' r := by
  obtain rfl := h
  exact ⟨t, MQs.thr hR hK ht, updm_at, hr⟩
theorem w_code {M M' : MEM} {c r : Int} (hR : RG M) (hK : QKn M) (h : (¬ QIn c 0 (M 0 1 - 1) ∧ XThr M 1 M') ∨ (QIn c 0 (M 0 1 - 1) ∧ r = M 0 (4 + 4 * c + 0) ∧ XThr M 0 M')) : ∃ t', MQs M M' ∧ M' 30 7 = t' ∧ R_code (M 0) c t' r := by
  rcases h with ⟨a, b⟩ | ⟨a, e, b⟩
  · exact b.w (Rf := fun g => R_code g c) hR hK (by decide) (Or.inl ⟨a, rfl⟩)
  · exact b.w (Rf := fun g => R_code g c) hR hK (by decide) (Or.inr ⟨a, rfl, e⟩)
theorem w_expires {M M' : MEM} {c b r : Int} (hR : RG M) (hK : QKn M) (h : (¬ (QIn c 0 (M 0 1 - 1) ∧ QIn b 0 (M 0 3 - 1)) ∧ XThr M 1 M') ∨ ((QIn c 0 (M 0 1 - 1) ∧ QIn b 0 (M 0 3 - 1)) ∧ QGr (M 0) b ∧ XThr M 2 M') ∨ ((QIn c 0 (M 0 1 - 1) ∧ QIn b 0 (M 0 3 - 1)) ∧ ¬ QGr (M 0) b ∧ r = (if 60 < M 0 (4 + 4 * c + 3) + M 0 (60 + 12 * b + 3) then 60 else M 0 (4 + 4 * c + 3) + M 0 (60 + 12 * b + 3)) ∧ XThr M 0 M')) : ∃ t', MQs M M' ∧ M' 30 7 = t' ∧ R_expires (M 0) c b t' r := by
  rcases h with ⟨a, x⟩ | ⟨a, d, x⟩ | ⟨a, d, e, x⟩
  · exact x.w (Rf := fun g => R_expires g c b) hR hK (by decide) (Or.inl ⟨a, rfl⟩)
  · exact x.w (Rf := fun g => R_expires g c b) hR hK (by decide) (Or.inr (Or.inl ⟨a, d, rfl⟩))
  · exact x.w (Rf := fun g => R_expires g c b) hR hK (by decide) (Or.inr (Or.inr ⟨a, d, rfl, e⟩))
theorem w_equiv {M M' : MEM} {c k r : Int} (hR : RG M) (hK : QKn M) (h : (¬ QIn c 0 (M 0 2 - 1) ∧ XThr M 1 M') ∨ (QIn c 0 (M 0 2 - 1) ∧ ¬ QIn k 0 3 ∧ XThr M 2 M') ∨ (QIn c 0 (M 0 2 - 1) ∧ QIn k 0 3 ∧ r = M 0 (28 + 4 * c + k) ∧ XThr M 0 M')) : ∃ t', MQs M M' ∧ M' 30 7 = t' ∧ R_equiv (M 0) c k t' r := by
  rcases h with ⟨a, x⟩ | ⟨a, d, x⟩ | ⟨a, d, e, x⟩
  · exact x.w (Rf := fun g => R_equiv g c k) hR hK (by decide) (Or.inl ⟨a, rfl⟩)
  · exact x.w (Rf := fun g => R_equiv g c k) hR hK (by decide) (Or.inr (Or.inl ⟨a, d, rfl⟩))
  · exact x.w (Rf := fun g => R_equiv g c k) hR hK (by decide) (Or.inr (Or.inr ⟨a, d, rfl, e⟩))
theorem ge_cm1 {g : Int → Int} {a b c e : Int} (hn : 0 ≤ g 1 ∧ g 1 ≤ 5) : GE g (upz (gcm g a b c e) 1 (g 1)) := by
  have o : ∀ i, i ≠ 1 → upz (gcm g a b c e) 1 (g 1) i = gcm g a b c e i := fun i hi => upz_ne hi
  refine ⟨⟨?_, upz_same.symm, ?_, ?_⟩, fun k k0 k1 w w0 w1 => ?_, fun k k0 k1 w w0 w1 => ?_, fun k k0 k1 w w0 w1 => ?_⟩
  · rw [o 0 (by decide), gcm_lo hn.1 (by decide) (by decide)]
  · rw [o 2 (by decide), gcm_lo hn.1 (by decide) (by decide)]
  · rw [o 3 (by decide), gcm_lo hn.1 (by decide) (by decide)]
  · rw [o _ (by omega), gcm_old k0 k1 ⟨w0, w1⟩]
  · rw [o _ (by omega), gcm_hi hn.2 (by omega)]
  · rw [o _ (by omega), gcm_hi hn.2 (by omega)]
theorem w_rw {M M' : MEM} {a b c e r : Int} (hR : RG M) (hK : QKn M) (hW : WF (M 0)) (h : (¬ QMay (M 0) a b c e ∧ XThr M 1 M') ∨ (QMay (M 0) a b c e ∧ M 0 1 = 6 ∧ XThr M 2 M') ∨ (QMay (M 0) a b c e ∧ M 0 1 ≠ 6 ∧ QRw M a b c e r M')) : ∃ t', MQs M M' ∧ M' 30 7 = t' ∧ R_rw (M 0) a b c e t' r := by
  rcases h with ⟨a9, x⟩ | ⟨a9, d, x⟩ | ⟨a9, d, x1, x2, x3, x4, x5, x6⟩
  · exact x.w (Rf := fun g => R_rw g a b c e) hR hK (by decide) (Or.inl ⟨a9, rfl⟩)
  · exact x.w (Rf := fun g => R_rw g a b c e) hR hK (by decide) (Or.inr (Or.inl ⟨a9, d, rfl⟩))
  · have n1 := hW.n.2.1
    exact ⟨0, ⟨x1, Or.inl x5, x2.mono (by decide) (by decide), by rw [x3]; exact ge_cm1 (by omega)⟩, x4, Or.inr (Or.inr ⟨a9, d, rfl, x6⟩)⟩
/-! ===== the changes ===== -/
theorem QNew.t7 {M M' : MEM} {g : Int → Int} (h : QNew M g M') : M' 30 7 = 0 := by
  obtain ⟨M1, h1, rfl⟩ := h
  rw [setg_k (by decide), h1.2.1.2 7 (by decide)]
  exact updm_at
theorem CW.yr {g : Int → Int} {y : Int} (h : CW g) (h0 : g 0 ≤ y) (h1 : y ≤ 60) : CW (upz g 0 y) := by
  have n0 := h.1.n
  refine ⟨h.1.yr ⟨by omega, h1⟩, fun c c0 c1 => ?_⟩
  rw [upz_ne (by decide)] at c1
  have := h.2 c c0 c1
  rw [upz_ne (by omega), upz_ne (by omega), upz_ne (by omega), upz_same]
  exact ⟨this.1, by omega⟩
theorem CW.addq {g : Int → Int} {a b c e : Int} (h : CW g) (hn : g 2 ≠ 8) (hq : QEqv a b c e) : CW (geq g a b c e) := by
  have n0 := h.1.n
  have o : ∀ i, i ≠ 2 → ¬ (28 + 4 * g 2 ≤ i ∧ i < 28 + 4 * g 2 + 4) → geq g a b c e i = g i := fun i h1 h2 => by
    unfold geq
    rw [upz_ne (by omega), upz_ne (by omega), upz_ne (by omega), upz_ne (by omega), upz_ne (by omega)]
  have e2 : geq g a b c e 2 = g 2 + 1 := geq_n2 n0.2.2.1.1
  have v0 : geq g a b c e (28 + 4 * g 2 + 0) = a := by
    unfold geq
    rw [upz_ne (by omega), upz_ne (by omega), upz_ne (by omega), upz_same]
  have v1 : geq g a b c e (28 + 4 * g 2 + 1) = b := by
    unfold geq
    rw [upz_ne (by omega), upz_ne (by omega), upz_same]
  have v2 : geq g a b c e (28 + 4 * g 2 + 2) = c := by
    unfold geq
    rw [upz_ne (by omega), upz_same]
  have v3 : geq g a b c e (28 + 4 * g 2 + 3) = e := by
    unfold geq
    exact upz_same
  have ob : ∀ b', 0 ≤ b' → ∀ w, 0 ≤ w → geq g a b c e (60 + 12 * b' + w) = g (60 + 12 * b' + w) := fun b' b0 w w0 => o _ (by omega) (by omega)
  obtain ⟨w0, w1, w2, w3, w4, wc, we, wb⟩ := h.1
  have e3 : geq g a b c e 3 = g 3 := o 3 (by decide) (by omega)
  refine ⟨⟨by rw [o 0 (by decide) (by omega)]; exact w0, by rw [o 1 (by decide) (by omega)]; exact w1, by rw [e2]; omega, by rw [e3]; exact w3, ?_, fun k k0 k1 => ?_, fun k k0 k1 => ?_, fun k k0 k1 => ?_⟩, fun k k0 k1 => ?_⟩
  · have : qleaves (geq g a b c e) = qleaves g := by
      unfold qleaves
      rw [e3]
      exact sz_cong fun k k0 k1 => by unfold QGr; rw [ob k k0 0 (by decide)]
    rw [this]
    exact w4
  · rw [o 1 (by decide) (by omega)] at k1
    have := wc k k0 k1
    unfold WFc at this ⊢
    rw [o (4 + 4 * k + 0) (by omega) (by omega), o (4 + 4 * k + 1) (by omega) (by omega), o (4 + 4 * k + 2) (by omega) (by omega), o (4 + 4 * k + 3) (by omega) (by omega)]
    exact this
  · rw [e2] at k1
    unfold WFe
    by_cases z : k = g 2
    · rw [z, v0, v1, v2, v3]
      obtain ⟨q1, q2, q3, q4⟩ := hq
      refine ⟨q1, q2.imp id (fun x => x.1), ?_, q3, q4.imp id (fun x => x.1), ?_⟩
      · rcases q2 with x | x
        · unfold QCap at q1
          omega
        · exact Ne.symm x.2
      · rcases q4 with x | x
        · unfold QLow at q3
          omega
        · exact Ne.symm x.2
    · have := we k k0 (by omega)
      unfold WFe at this
      rw [o (28 + 4 * k + 0) (by omega) (by omega), o (28 + 4 * k + 1) (by omega) (by omega), o (28 + 4 * k + 2) (by omega) (by omega), o (28 + 4 * k + 3) (by omega) (by omega)]
      exact this
  · rw [e3] at k1
    have hw := wb k k0 k1
    have hp : qparts (geq g a b c e) k = qparts g k := by
      unfold qparts
      rw [e3]
      exact sz_cong fun j j0 j1 => by rw [ob j j0 1 (by decide)]
    obtain ⟨a0, a1, a2, a3, a4, a5, a6, a7, a8, a9, a10, a11⟩ := hw
    unfold WFb
    rw [ob k k0 0 (by decide), ob k k0 1 (by decide), ob k k0 2 (by decide), ob k k0 3 (by decide), ob k k0 4 (by decide), ob k k0 5 (by decide), ob k k0 11 (by decide), hp]
    refine ⟨a0, a1, a2, a3, a4, a5, a6, a7, a8, fun z => ?_, a10, fun j j0 j1 => ?_⟩
    · rw [ob _ z 0 (by decide), ob _ z 11 (by decide)]
      exact a9 z
    · rw [ob k k0 (6 + j) (by omega)]
      exact a11 j j0 j1
  · rw [o 1 (by decide) (by omega)] at k1
    have := h.2 k k0 k1
    rw [o (4 + 4 * k + 0) (by omega) (by omega), o (4 + 4 * k + 1) (by omega) (by omega), o (4 + 4 * k + 3) (by omega) (by omega), o 0 (by decide) (by omega)]
    exact this
section SIMS
variable {κ : KP} {B : Nat → Nat} {S : CST} {M M' : MEM} {G : Nat → Int → Int} {q : Nat} {h h1 h9 : AH} {po : Nat} {k r' : Int}
theorem SIM.thr {t : Int} (I : LInv κ (cset B S h) S M G q) (e : h1 = cset B S h) (hm : M' = updm M 30 7 t) (ht : rng t) (hk : k = t) (h0 : t ≠ 0) : SIM κ B po h1 h9 k r' M' := by
  subst e
  subst hm
  subst hk
  exact ⟨updm_at, fun z => absurd z h0, S, G, q, cset_cset.symm, I.t7 ht⟩
theorem SIM.ref {t y : Int} (hB : BA B) (I : LInv κ (cset B S h) S M G q) (e : h1 = cset B (updm S 0 8 y) h) (hm : M' = updm (updm (updm M 30 7 0) 30 6 y) 30 7 t) (ht : rng t) (hy : rng y) (hk : k = t) (h0 : t ≠ 0) : SIM κ B po h1 h9 k r' M' := by
  subst e
  subst hm
  subst hk
  exact ⟨updm_at, fun z => absurd z h0, _, G, q, cset_cset.symm, I.ref hB ht hy⟩
theorem SIM.chg {g1 : Int → Int} {r r2 : Int} {f : Nat → Value} (hB : BA B) (I : LInv κ (cset B S h) S M G q) (hP : CP κ B S h q g1 h1) (hN : QNew M g1 M') (hC : CW g1) (hr : ∀ i, rng (g1 i)) (e9 : h9 = upA h1 po (true, .inl (.long, 1, f))) (hf : f 0 = .long (J r).toInt64) (e2 : some (Value.int (J r)) = some (.int (J r2))) (e3 : r2 = r') (hk : k = 0) : SIM κ B po h1 h9 k r' M' := by
  subst hk
  refine ⟨hN.t7, fun _ => ⟨f, e9, by rw [hf, jr_eq e2, e3]⟩, ?_⟩
  exact I.chg hB hP hN hC hr
theorem nd2 {a b X : String} {t : Nat} (h : [a, b][t]? = some X) : (t = 0 ∧ X = a) ∨ (t = 1 ∧ X = b) := by
  match t, h with
  | 0, h => exact Or.inl ⟨rfl, (Option.some.inj h).symm⟩
  | 1, h => exact Or.inr ⟨rfl, (Option.some.inj h).symm⟩
  | t + 2, h => cases h
theorem nd1 {a X : String} {t : Nat} (h : [a][t]? = some X) : t = 0 ∧ X = a := by
  match t, h with
  | 0, h => exact ⟨rfl, (Option.some.inj h).symm⟩
  | t + 1, h => cases h
theorem x_ne : EIA ≠ EUO ∧ EIO ≠ EUO ∧ EIA ≠ EIS := by decide +kernel
theorem sim_add {a b c e : Int} (hB : BA B) (I : LInv κ (cset B S h) S M G q) (ra : rng a) (rb : rng b) (rc : rng c) (re : rng e)
    (hk : HK1 (fun v h' => ∃ r, v = some (.int (J r)) ∧ QMay (G q) a b c e ∧ G q 1 ≠ 6 ∧ r = G q 1 ∧ CP κ B S h q (gcm (G q) a b c e) h') (fun E' h' => (E' = EIA ∧ ¬ QMay (G q) a b c e ∧ h' = cset B S h) ∨ (E' = EUO ∧ QMay (G q) a b c e ∧ G q 1 = 6 ∧ h' = cset B (updm S 0 8 1) h)) [EIA, EUO] po k h1 h9)
    (hm : (¬ QMay (M 0) a b c e ∧ XThr M 1 M') ∨ (QMay (M 0) a b c e ∧ M 0 1 = 6 ∧ XRef M 2 1 M') ∨ (QMay (M 0) a b c e ∧ M 0 1 ≠ 6 ∧ r' = M 0 1 ∧ QNew M (gcm (M 0) a b c e) M')) : SIM κ B po h1 h9 k r' M' := by
  have hC := I.1.2.2.2
  have n1 := hC.1.n.2.1
  rw [show G q = M 0 from I.1.2.2.1] at hk
  rcases hk with ⟨rfl, r, f, ⟨r2, e2, y1, y2, y3, y4⟩, e9, hf⟩ | ⟨t, X, rfl, hx, hE, e9⟩
  · rcases hm with ⟨z, -⟩ | ⟨-, z, -⟩ | ⟨-, -, z, hN⟩
    · exact absurd y1 z
    · exact absurd z y2
    · exact SIM.chg hB I y4 hN (hC.may (by omega) y1) (rg_gcm (I.rg 0) n1 ra rb rc re) e9 hf e2 (y3.trans z.symm) rfl
  · rcases nd2 hx with ⟨rfl, rfl⟩ | ⟨rfl, rfl⟩
    · rcases hE with ⟨-, y1, y2⟩ | ⟨z, -⟩
      · rcases hm with ⟨-, z⟩ | ⟨z, -⟩ | ⟨z, -⟩
        · exact SIM.thr I y2 z (by decide) rfl (by decide)
        · exact absurd z y1
        · exact absurd z y1
      · exact absurd z x_ne.1
    · rcases hE with ⟨z, -⟩ | ⟨-, y1, y2, y3⟩
      · exact absurd z.symm x_ne.1
      · rcases hm with ⟨z, -⟩ | ⟨-, -, z⟩ | ⟨-, z, -⟩
        · exact absurd y1 z
        · exact SIM.ref hB I y3 z (by decide) (by decide) rfl (by decide)
        · exact absurd y2 z
theorem sim_drop {c : Int} (hB : BA B) (I : LInv κ (cset B S h) S M G q)
    (hk : HK1 (fun v h' => ∃ r, v = some (.int (J r)) ∧ QIn c 0 (G q 1 - 1) ∧ r = ggo (G q) c 1 ∧ CP κ B S h q (ggo (G q) c) h') (fun E' h' => E' = EIO ∧ ¬ QIn c 0 (G q 1 - 1) ∧ h' = cset B S h) [EIO] po k h1 h9)
    (hm : (¬ QIn c 0 (M 0 1 - 1) ∧ XThr M 1 M') ∨ (QIn c 0 (M 0 1 - 1) ∧ r' = ggo (M 0) c 1 ∧ QNew M (ggo (M 0) c) M')) : SIM κ B po h1 h9 k r' M' := by
  have hC := I.1.2.2.2
  have n1 := hC.1.n.2.1
  rw [show G q = M 0 from I.1.2.2.1] at hk
  rcases hk with ⟨rfl, r, f, ⟨r2, e2, y1, y3, y4⟩, e9, hf⟩ | ⟨t, X, rfl, hx, hE, e9⟩
  · rcases hm with ⟨z, -⟩ | ⟨-, z, hN⟩
    · exact absurd y1 z
    · have y9 := y1
      unfold QIn at y9
      exact SIM.chg hB I y4 hN (hC.go y9.1 (by omega)) (rg_ggo (I.rg 0) n1) e9 hf e2 (y3.trans z.symm) rfl
  · obtain ⟨rfl, rfl⟩ := nd1 hx
    obtain ⟨-, y1, y2⟩ := hE
    rcases hm with ⟨-, z⟩ | ⟨z, -⟩
    · exact SIM.thr I y2 z (by decide) rfl (by decide)
    · exact absurd z y1
theorem sim_eqv {a b c e : Int} (hB : BA B) (I : LInv κ (cset B S h) S M G q) (ra : rng a) (rb : rng b) (rc : rng c) (re : rng e)
    (hk : HK1 (fun v h' => ∃ r, v = some (.int (J r)) ∧ QEqv a b c e ∧ G q 2 ≠ 8 ∧ r = G q 2 ∧ CP κ B S h q (geq (G q) a b c e) h') (fun E' h' => (E' = EIA ∧ ¬ QEqv a b c e ∧ h' = cset B S h) ∨ (E' = EIS ∧ QEqv a b c e ∧ G q 2 = 8 ∧ h' = cset B S h)) [EIA, EIS] po k h1 h9)
    (hm : (¬ QEqv a b c e ∧ XThr M 1 M') ∨ (QEqv a b c e ∧ M 0 2 = 8 ∧ XThr M 2 M') ∨ (QEqv a b c e ∧ M 0 2 ≠ 8 ∧ r' = M 0 2 ∧ QNew M (geq (M 0) a b c e) M')) : SIM κ B po h1 h9 k r' M' := by
  have hC := I.1.2.2.2
  have n1 := hC.1.n.2.2.1
  rw [show G q = M 0 from I.1.2.2.1] at hk
  rcases hk with ⟨rfl, r, f, ⟨r2, e2, y1, y2, y3, y4⟩, e9, hf⟩ | ⟨t, X, rfl, hx, hE, e9⟩
  · rcases hm with ⟨z, -⟩ | ⟨-, z, -⟩ | ⟨-, -, z, hN⟩
    · exact absurd y1 z
    · exact absurd z y2
    · exact SIM.chg hB I y4 hN (hC.addq y2 y1) (rg_geq (I.rg 0) n1 ra rb rc re) e9 hf e2 (y3.trans z.symm) rfl
  · rcases nd2 hx with ⟨rfl, rfl⟩ | ⟨rfl, rfl⟩
    · rcases hE with ⟨-, y1, y2⟩ | ⟨z, -⟩
      · rcases hm with ⟨-, z⟩ | ⟨z, -⟩ | ⟨z, -⟩
        · exact SIM.thr I y2 z (by decide) rfl (by decide)
        · exact absurd z y1
        · exact absurd z y1
      · exact absurd z x_ne.2.2
    · rcases hE with ⟨z, -⟩ | ⟨-, y1, y2, y3⟩
      · exact absurd z.symm x_ne.2.2
      · rcases hm with ⟨z, -⟩ | ⟨-, -, z⟩ | ⟨-, z, -⟩
        · exact absurd y1 z
        · exact SIM.thr I y3 z (by decide) rfl (by decide)
        · exact absurd y2 z
theorem QAga.uq {g : Int → Int} {e r r2 : Int} (h : QAga g e r) (h' : QAga g e r2) : r = r2 := by
  rcases h with ⟨a, b⟩ | ⟨a, c, b⟩ | ⟨a, c, b⟩ <;> rcases h' with ⟨a', b'⟩ | ⟨a', c', b'⟩ | ⟨a', c', b'⟩
  all_goals first | exact b.trans b'.symm | exact absurd a' a | exact absurd a a' | omega
theorem sim_apply {e : Int} (hB : BA B) (I : LInv κ (cset B S h) S M G q)
    (hk : HK1 (fun v h' => ∃ r, v = some (.int (J r)) ∧ QIn e 0 (G q 2 - 1) ∧ QAga (G q) e 0 ∧ ∃ g', QAp (G q) e r g' ∧ CP κ B S h q g' h') (fun E' h' => (E' = EIO ∧ ¬ QIn e 0 (G q 2 - 1) ∧ h' = cset B S h) ∨ (E' = EUO ∧ QIn e 0 (G q 2 - 1) ∧ ∃ no, QAga (G q) e no ∧ 0 < no ∧ h' = cset B (updm S 0 8 no) h)) [EIO, EUO] po k h1 h9)
    (hm : (¬ QIn e 0 (M 0 2 - 1) ∧ XThr M 1 M') ∨ (QIn e 0 (M 0 2 - 1) ∧ ∃ no, QAga (M 0) e no ∧ 0 < no ∧ XRef M 2 no M') ∨ (QIn e 0 (M 0 2 - 1) ∧ QAga (M 0) e 0 ∧ ∃ g', QAp (M 0) e r' g' ∧ QNew M g' M')) : SIM κ B po h1 h9 k r' M' := by
  have hC := I.1.2.2.2
  rw [show G q = M 0 from I.1.2.2.1] at hk
  rcases hk with ⟨rfl, r, f, ⟨r2, e2, y1, y2, g1, y3, y4⟩, e9, hf⟩ | ⟨t, X, rfl, hx, hE, e9⟩
  · rcases hm with ⟨z, -⟩ | ⟨-, no, z1, z2, -⟩ | ⟨-, -, g2, z, hN⟩
    · exact absurd y1 z
    · have := y2.uq z1
      omega
    · obtain ⟨u1, rfl⟩ := y3.uniq z
      have y9 := y1
      unfold QIn at y9
      exact SIM.chg hB I y4 hN (hC.ap y9.1 (by omega) y2 y3) (rg_ap (I.rg 0) hC y9.1 (by omega) y3) e9 hf e2 u1 rfl
  · rcases nd2 hx with ⟨rfl, rfl⟩ | ⟨rfl, rfl⟩
    · rcases hE with ⟨-, y1, y2⟩ | ⟨z, -⟩
      · rcases hm with ⟨-, z⟩ | ⟨z, -⟩ | ⟨z, -⟩
        · exact SIM.thr I y2 z (by decide) rfl (by decide)
        · exact absurd z y1
        · exact absurd z y1
      · exact absurd z x_ne.2.1
    · rcases hE with ⟨z, -⟩ | ⟨-, y1, no, y2, y3, y4⟩
      · exact absurd z.symm x_ne.2.1
      · rcases hm with ⟨z, -⟩ | ⟨-, no2, z1, z2, z3⟩ | ⟨-, z, -⟩
        · exact absurd y1 z
        · obtain rfl := y2.uq z1
          have hno : rng no := by rcases y2 with ⟨-, w⟩ | ⟨-, -, w⟩ | ⟨-, -, w⟩ <;> omega
          exact SIM.ref hB I y4 z3 (by decide) hno rfl (by decide)
        · have := y2.uq z
          omega
theorem sim_pass {c : Int} (hB : BA B) (I : LInv κ (cset B S h) S M G q)
    (hk : HK1 (W_pass κ B S h q (G q) c) (fun E' h' => E' = EIA ∧ ¬ (0 ≤ c ∧ c ≤ 60 - G q 0) ∧ h' = cset B S h) [EIA] po k h1 h9)
    (hm : (¬ (0 ≤ c ∧ c ≤ 60 - M 0 0) ∧ XThr M 1 M') ∨ ((0 ≤ c ∧ c ≤ 60 - M 0 0) ∧ r' = M 0 0 + c ∧ QNew M (upz (M 0) 0 (M 0 0 + c)) M')) : SIM κ B po h1 h9 k r' M' := by
  have hC := I.1.2.2.2
  have n0 := hC.1.n
  rw [show G q = M 0 from I.1.2.2.1] at hk
  rcases hk with ⟨rfl, r, f, ⟨r2, e2, y1, y3, y4⟩, e9, hf⟩ | ⟨t, X, rfl, hx, hE, e9⟩
  · rcases hm with ⟨z, -⟩ | ⟨-, z, hN⟩
    · exact absurd y1 z
    · refine SIM.chg hB I y4 hN (hC.yr (by omega) (by omega)) (fun i => ?_) e9 hf e2 (y3.trans z.symm) rfl
      rw [upz_app]
      split
      · omega
      · exact I.rg 0 i
  · obtain ⟨rfl, rfl⟩ := nd1 hx
    obtain ⟨-, y1, y2⟩ := hE
    rcases hm with ⟨-, z⟩ | ⟨z, -⟩
    · exact SIM.thr I y2 z (by decide) rfl (by decide)
    · exact absurd z y1
theorem sim_undo (hB : BA B) (I : LInv κ (cset B S h) S M G q)
    (hk : HK1 (fun v h' => ∃ r, v = some (.int (J r)) ∧ 0 < S 2 1 ∧ r = S 2 1 - 1 ∧ ∃ q1 : Nat, S 11 (S 2 1 - 1) = (q1 : Int) ∧ h' = cset B (updm (updm S 2 1 (S 2 1 - 1)) 0 5 (q1 : Int)) h) (fun E' h' => E' = EIS ∧ S 2 1 = 0 ∧ h' = cset B S h) [EIS] po k h1 h9)
    (hm : QUndo M r' M') : SIM κ B po h1 h9 k r' M' := by
  have h5 := I.2.2.2.1
  rcases hk with ⟨rfl, r, f, ⟨r2, e2, y1, y3, q1, y4, y5⟩, e9, hf⟩ | ⟨t, X, rfl, hx, hE, e9⟩
  · obtain ⟨z1, z2, G', I'⟩ := I.undo hB y1 y4 hm
    subst y5
    exact ⟨z1, fun _ => ⟨f, e9, by rw [hf, jr_eq e2, y3, z2]⟩, _, G', q1, cset_cset.symm, I'⟩
  · obtain ⟨rfl, rfl⟩ := nd1 hx
    obtain ⟨-, y1, y2⟩ := hE
    rcases hm with ⟨-, -, z⟩ | ⟨z, -⟩
    · exact SIM.thr I y2 z (by decide) rfl (by decide)
    · omega
theorem sim_read (hB : BA B) (I : LInv κ (cset B S h) S M G q) {Q : Option Value → AH → Prop} {E : String → AH → Prop} (hQ : ∀ v h', Q v h' → ∃ r, v = some (.int (J r)) ∧ CRd κ B S h (G q) q 0 r h') (hE : ∀ X h', E X h' → (X = EIA ∧ CRd κ B S h (G q) q 1 0 h') ∨ (X = EUO ∧ CRd κ B S h (G q) q 2 0 h')) (hk : HK1 Q E [EIA, EUO] po k h1 h9) (hm : QRd M r' M') : SIM κ B po h1 h9 k r' M' := by
  rcases hk with ⟨rfl, r, f, hq, e9, hf⟩ | ⟨t, X, rfl, hx, he, e9⟩
  · obtain ⟨r2, e2, hc⟩ := hQ _ _ hq
    obtain ⟨z1, z2, z3⟩ := I.rd hB hc hm
    exact ⟨z1, fun _ => ⟨f, e9, by rw [hf, jr_eq e2, z2 rfl]⟩, z3⟩
  · rcases nd2 hx with ⟨rfl, rfl⟩ | ⟨rfl, rfl⟩
    · rcases hE _ _ he with ⟨-, hc⟩ | ⟨z, -⟩
      · obtain ⟨z1, -, z3⟩ := I.rd hB hc hm
        exact ⟨z1, fun z => absurd z (by decide), z3⟩
      · exact absurd z x_ne.1
    · rcases hE _ _ he with ⟨z, -⟩ | ⟨-, hc⟩
      · exact absurd z.symm x_ne.1
      · obtain ⟨z1, -, z3⟩ := I.rd hB hc hm
        exact ⟨z1, fun z => absurd z (by decide), z3⟩
end SIMS
