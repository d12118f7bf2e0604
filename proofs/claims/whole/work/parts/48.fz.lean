/-! ===== cells that stay as they are; new cells; the literal ""; inherited methods; arraycopy ===== -/
def Ext (h h' : AH) : Prop := ∀ a c, h a = some c → h' a = some c
theorem Ext.rf {h : AH} : Ext h h := fun _ _ q => q
theorem Ext.trans {h h1 h2 : AH} (x : Ext h h1) (y : Ext h1 h2) : Ext h h2 := fun a c q => y a c (x a c q)
theorem upo {h : AH} {a b : Nat} {c x : HC} (ha : h a = none) (hb : h b = some x) : upA h a c b = some x := by
  rw [upA_ne (fun e => by rw [e, ha] at hb; cases hb)]
  exact hb
theorem upn_ {h : AH} {a b : Nat} {c : HC} (ha : upA h a c b = none) : h b = none ∧ b ≠ a := by
  by_cases e : b = a
  · rw [e, upA_same] at ha
    cases ha
  · rw [upA_ne e] at ha
    exact ⟨ha, e⟩
theorem Ext.up {h : AH} {a : Nat} {c : HC} (ha : h a = none) : Ext h (upA h a c) := fun _ _ hb => upo ha hb
theorem upA_upA {h : AH} {a : Nat} {c c' : HC} : upA (upA h a c) a c' = upA h a c' := by
  funext q
  unfold upA
  by_cases e : q = a <;> simp [e]
theorem upA_self {h : AH} {a : Nat} {c : HC} (ha : h a = some c) : upA h a c = h := by
  funext q
  unfold upA
  by_cases e : q = a
  · rw [if_pos e, e, ha]
  · rw [if_neg e]
def Fx (h h' : AH) : Prop := ∀ a x, h a = some (false, x) → h' a = some (false, x)
theorem Fx.rf {h : AH} : Fx h h := fun _ _ q => q
theorem Fx.trans {h h1 h2 : AH} (x : Fx h h1) (y : Fx h1 h2) : Fx h h2 := fun a c q => y a c (x a c q)
theorem Ext.fx {h h' : AH} (x : Ext h h') : Fx h h' := fun a _ q => x a _ q
theorem Fx.put {h : AH} {a : Nat} {x} {c : HC} (ha : h a = some (true, x)) : Fx h (upA h a c) := fun b y hb => by
  rw [upA_ne (fun e => by rw [e, ha] at hb; cases hb)]
  exact hb
theorem Fx.new {h : AH} {a : Nat} {c : HC} (ha : h a = none) : Fx h (upA h a c) := (Ext.up ha).fx
abbrev ObF (h : AH) (a kc : Nat) (fs : List Value) : Prop := h a = some (false, .inr (kc, fs))
abbrev ArF (h : AH) (a : Nat) (ty : FieldType) (N : Nat) (f : Nat → Value) : Prop := h a = some (false, .inl (ty, N, f))
section FZ
variable {κ : KP} {mi : MI} {d k n : Nat} {Q : Option Value → AH → Prop} {E : String → AH → Prop} {pc : Nat} {L : List (Option Value)} {st : List Value} {h : AH}
/-- fewer rights told -/
theorem ww_frz {h' : AH} (hs : ∀ a w x, h' a = some (w, x) → ∃ w0, h a = some (w0, x) ∧ (w = true → w0 = true)) (kk : WW κ mi d k n Q E pc L st h') : WW κ mi d k n Q E pc L st h := by
  intro H0 D p l e R s m args below meth c Z C F H locs cells slots ls hR hl hk hn hL hlen
  refine kk H0 D p l e R s m args below meth c Z C F H locs cells slots ls ⟨hR.1, hR.2.1, fun a c hc => ?_⟩ hl hk hn hL hlen
  obtain ⟨w, x⟩ := c
  obtain ⟨w0, h1, h2⟩ := hs a w x hc
  obtain ⟨q1, q2⟩ := hR.2.2 a _ h1
  exact ⟨q1, fun e => q2 (h2 e)⟩
theorem ww_frz1 {a : Nat} {w : Bool} {x} (ha : h a = some (w, x)) (kk : WW κ mi d k n Q E pc L st (upA h a (false, x))) : WW κ mi d k n Q E pc L st h := by
  refine ww_frz (fun b w2 y hb => ?_) kk
  by_cases e : b = a
  · subst e
    rw [upA_same] at hb
    cases hb
    exact ⟨w, ha, fun z => by cases z⟩
  · rw [upA_ne e] at hb
    exact ⟨w2, hb, fun z => z⟩
theorem r_alenF {a N : Nat} {w : Bool} {ty : FieldType} {f : Nat → Value} (hd : decode mi.2.1 pc = .ok (.arraylength, 1)) (hc : h a = some (w, .inl (ty, N, f))) (hty : ty ∈ arTys) {z : Int} (hz : (N : Int) = z) (kk : WW κ mi d k n Q E (pc + 1) L (.int (J z) :: st) h) : WW κ mi d k n Q E pc L (.ref a :: st) h :=
  r_alen hd hty hc (by rw [hz]; exact kk)
theorem r_aaF {a N : Nat} {w : Bool} {i : Int} {Cn : String} {g : Int → Option Nat} {v : Nat} (hd : decode mi.2.1 pc = .ok (.aaload, 1)) (hc : h a = some (w, .inl (.object Cn, N, rv g))) (hty : FieldType.object Cn ∈ arTys) (hv : g i = some v) (h0 : 0 ≤ i) (h1 : i < N) (h2 : N < 2147483648) (kk : WW κ mi d k n Q E (pc + 1) L (.ref v :: st) h) : WW κ mi d k n Q E pc L (.int (J i) :: .ref a :: st) h :=
  r_aaJ hd hc hty h0 h1 h2 hv kk
/-- any array of references -/
theorem r_aaR {a N : Nat} {w : Bool} {i : Int} {Cn : String} {g : Int → Option Nat} (hd : decode mi.2.1 pc = .ok (.aaload, 1)) (hc : h a = some (w, .inl (.object Cn, N, rv g))) (hty : FieldType.object Cn ∈ arTys) (h0 : 0 ≤ i) (h1 : i < N) (h2 : N < 2147483648) (kk : WW κ mi d k n Q E (pc + 1) L (va_rf (g i) :: st) h) : WW κ mi d k n Q E pc L (.int (J i) :: .ref a :: st) h :=
  r_aald hd hc hty h0 h1 h2 (by show va_rf (g ((i.toNat : Nat) : Int)) = _; rw [Int.toNat_of_nonneg h0]) kk
/-! the literal "" -/
theorem lit_kept {H0 H : Heap} {D : HD} (hR : Rl H0 D h H) {a : Nat} {c : Cell} (hc : H0[a]? = some c) : H[a]? = some c := by
  rw [hR.2.1 a (Array.getElem?_eq_some_iff.mp hc).1]
  exact hc
theorem r_getKv {idx : Nat} (hd : decode mi.2.1 pc = .ok (.getfield idx, 3)) (hf : FL mi.1.cls idx 0 0) (kk : WW κ mi d k n Q E (pc + 3) L (.ref κ.2.1 :: st) h) : WW κ mi d k n Q E pc L (.ref κ.1 :: st) h := by
  intro H0 D p l e R s m args below meth c Z C F H locs cells slots ls hR hl hk hn hL hlen
  have k9 := kk H0 D p l e R s m args below meth c Z C F H locs cells slots ls hR hl hk hn hL hlen
  obtain ⟨hx, hfl, hb, hr, hml, hown, hnm, hlk, htab, hts, hG, -⟩ := C
  obtain ⟨Cn, T, N, ref, hcl, hj, hin, hlink, hsame⟩ := hf
  cases hcl
  obtain ⟨cf, k9, fi, f, cell, e1, e2, e3, e4, e5, e6⟩ := (hG.2.2.2.2.2.2.2.2.2.1.1 0 (by decide)).2.2.1
  exact W.getf hx hb hown (hts _ hlink) (same_of hts hsame _ e1) e2 (lit_kept hR e3) e4 (v := .ref κ.2.1) e5 rfl rfl hd (by assumption)
theorem r_getKc {idx : Nat} (hd : decode mi.2.1 pc = .ok (.getfield idx, 3)) (hf : FL mi.1.cls idx 0 1) (kk : WW κ mi d k n Q E (pc + 3) L (.int (J 0) :: st) h) : WW κ mi d k n Q E pc L (.ref κ.1 :: st) h := by
  intro H0 D p l e R s m args below meth c Z C F H locs cells slots ls hR hl hk hn hL hlen
  have k9 := kk H0 D p l e R s m args below meth c Z C F H locs cells slots ls hR hl hk hn hL hlen
  obtain ⟨hx, hfl, hb, hr, hml, hown, hnm, hlk, htab, hts, hG, -⟩ := C
  obtain ⟨Cn, T, N, ref, hcl, hj, hin, hlink, hsame⟩ := hf
  cases hcl
  obtain ⟨cf, k9, fi, f, cell, e1, e2, e3, e4, e5, e6⟩ := (hG.2.2.2.2.2.2.2.2.2.1.1 0 (by decide)).2.1
  exact W.getf hx hb hown (hts _ hlink) (same_of hts hsame _ e1) e2 (lit_kept hR e3) e4 (v := .int 0) e5 rfl rfl hd (by assumption)
theorem r_alenK (hd : decode mi.2.1 pc = .ok (.arraylength, 1)) (kk : WW κ mi d k n Q E (pc + 1) L (.int (J 0) :: st) h) : WW κ mi d k n Q E pc L (.ref κ.2.1 :: st) h := by
  intro H0 D p l e R s m args below meth c Z C F H locs cells slots ls hR hl hk hn hL hlen
  have k9 := kk H0 D p l e R s m args below meth c Z C F H locs cells slots ls hR hl hk hn hL hlen
  obtain ⟨hx, hfl, hb, hr, hml, hown, hnm, hlk, htab, hts, hG, -⟩ := C
  obtain ⟨cell, e1, e2, e3, e4, e5, e6, e7⟩ := (hG.2.2.2.2.2.2.2.2.2.1.1 0 (by decide)).2.2.2
  exact W.alen (n := J 0) hx hb (lit_kept hR e1) e2 e5 rfl rfl hd k9
theorem r_ldcK (hme : mi.1.cls = RX7) (hd : decode mi.2.1 pc = .ok (.ldc 66, 2)) (kk : WW κ mi d k n Q E (pc + 2) L (.ref κ.1 :: st) h) : WW κ mi d k n Q E pc L st h := by
  intro H0 D p l e R s m args below meth c Z C F H locs cells slots ls hR hl hk hn hL hlen
  have k9 := kk H0 D p l e R s m args below meth c Z C F H locs cells slots ls hR hl hk hn hL hlen
  obtain ⟨hx, hfl, hb, hr, hml, hown, hnm, hlk, htab, hts, hG, -⟩ := C
  rw [hme] at hown
  exact va_ldcS hx hb hown hG.2.2.2.2.2.2.2.1 hd k9
/-- a static that is a reference or null -/
theorem r_sioobe {idx : Nat} {ref : String} (hd : decode mi.2.1 pc = .ok (.getstatic idx, 3)) (hw : Cond.fieldLink mi.1.cls idx ref "SIOOBE_FORMATTER" "Ljava/util/function/BiFunction;" ∈ BIG) (hs : ref = "jdk/internal/util/Preconditions" ∨ Cond.sameField ref "jdk/internal/util/Preconditions" "SIOOBE_FORMATTER" "Ljava/util/function/BiFunction;" ∈ BIG) (kk : ∀ r : Option Nat, WW κ mi d k n Q E (pc + 3) L (va_rf r :: st) h) : WW κ mi d k n Q E pc L st h := by
  intro H0 D p l e R s m args below meth c Z C F H locs cells slots ls hR hl hk hn hL hlen
  have k9 := fun r => kk r H0 D p l e R s m args below meth c Z C F H locs cells slots ls hR hl hk hn hL hlen
  obtain ⟨hx, hfl, hb, hr, hml, hown, hnm, hlk, htab, hts, hG, -⟩ := C
  rcases hG.2.2.2.2.2.2.2.2.1 with ⟨cf, kf, fi, f, a, cell, h1, h2, h3, h4, h5, h6, h7, h8⟩ | ⟨t, cf, kf, fi, f, a, cell, h1, h2, h3, h4, h5, h6, h7, h8⟩
  · exact W.gets hx hb hown (hts _ hw) (same_of hts hs _ h1) h2 h3 h4 (lit_kept hR h5) (fun e => by rw [e] at h6; cases h6) h7 rfl hd (k9 none)
  · exact W.gets hx hb hown (hts _ hw) (same_of hts hs _ h1) h2 h3 h4 (lit_kept hR h5) (fun e => by rw [e] at h6; cases h6) h7 rfl hd (k9 (some t))
end FZ
section CALLS2
variable {κ : KP} {mi : MI} {d k n : Nat} {Q : Option Value → AH → Prop} {E : String → AH → Prop} {pc : Nat} {L : List (Option Value)} {st : List Value} {h : AH} {mi' : MI} {d' K N nA idx : Nat} {Q' : Option Value → AH → Prop} {E' : String → AH → Prop} {As rest : List Value}
/-- a call on the literal -/
theorem r_callVK (hd : decode mi.2.1 pc = .ok (.invokevirtual idx, 3)) (hv : CV mi.1.cls idx 0 mi' nA) (hM : MM κ mi' d' K N (.ref κ.1 :: As) h Q' E') (hd' : d' + 1 ≤ d) (hA : As.length = nA) (hst : st = As.reverse ++ .ref κ.1 :: rest) (hcat : (rest.map fun v => v.category).sum ≤ 8) (hK : K ≤ k) (hN : N ≤ n)
    (kq : ∀ v h', Q' v h' → WW κ mi d (k - K) (n - N) Q E (pc + 3) L (v.toList ++ rest) h') (kx : ∀ X h', E' X h' → XX κ mi d (k - K) (n - N) Q E pc L rest X h') : WW κ mi d k n Q E pc L st h := by
  intro H0 D p l e R s m args below meth c Z C F H locs cells slots ls hR hl hk hn hL hlen
  have C0 := C
  obtain ⟨hcb, hml, hin, C9, T9, N9, hse, hcl⟩ := hv
  obtain ⟨hx, hfl, hb, hr, hmx, hown, hnm, hlk, htab, hts, hG, -⟩ := C
  cases hcl
  obtain ⟨cellV, m1, m2, m3, -⟩ := (hG.2.2.2.2.2.2.2.2.2.1.1 0 (by decide)).1
  refine ww_run C0 F hl hk hn hL hlen hK hN (vx_runV (Ts := BIG) (As := As) ⟨hx, hb, hmx, hown, hts⟩ (hM l H0 D hfl) ⟨cb_of C0 hcb hd' (hts _ hml), hts _ hin, hts _ hse⟩ ⟨pc_blind, ⟨cellV, lit_kept hR m1, m2, m3⟩, fun U hU hW => ⟨rfl, Gk.warm hW hG, by rw [hU]; exact hR⟩⟩ rfl hA (ls_size C0 hL hlen) hst (lv_room hcat) hd ⟨by omega, by omega⟩) kq kx
theorem r_callSU {kc b : Nat} {w : Bool} {fs : List Value} (hd : decode mi.2.1 pc = .ok (.invokespecial idx, 3)) (hv : CSU mi.1.cls idx kc mi' nA) (hrecv : h b = some (w, .inr (kc, fs))) (hM : MM κ mi' d' K N (.ref b :: As) h Q' NoX) (hd' : d' + 1 ≤ d) (hA : As.length = nA) (hst : st = As.reverse ++ .ref b :: rest) (hcat : (rest.map fun v => v.category).sum ≤ 8) (hK : K ≤ k) (hN : N ≤ n)
    (kq : ∀ v h', Q' v h' → WW κ mi d (k - K) (n - N) Q E (pc + 3) L (v.toList ++ rest) h') : WW κ mi d k n Q E pc L st h := by
  intro H0 D p l e R s m args below meth c Z C F H locs cells slots ls hR hl hk hn hL hlen
  have C0 := C
  obtain ⟨⟨⟨h2, h3, h4, h5, h6, h7⟩, h1⟩, ⟨g1, g2, g3, g4⟩, hni, C9, T9, N9, hcl⟩ := hv
  obtain ⟨hx, hfl, hb, hr, hmx, hown, hnm, hlk, htab, hts, hG, hdR, hlR, -⟩ := C
  obtain ⟨⟨r', hr', cellV, m1, m2, m3, -⟩, -⟩ := hR.2.2 b _ hrecv
  cases hr'.symm.trans hcl
  have hat : ClassAt s C9 (D.1.1 kc) := (hG.1.1 kc _ hcl).2
  refine ww_run (E' := NoX) C0 F hl hk hn hL hlen hK hN (va_run_vx (va_runSU (Ts := BIG) (As := As) (C := C9) (n := nA) (bytes := mi'.2.1) (maxL := mi'.2.2.1) (ret := mi'.2.2.2.1) hat ⟨hx, hb, hmx, hown, hts⟩ (met_of_vx (hM l H0 D hfl) noX_not) (va_cwSU (Ts := BIG) (ws' := BIG) nA hts (fun w hw => ?_) (by rw [hd_code h1]) rfl rfl ⟨hni, h7⟩ ⟨?_, ?_⟩) ⟨pc_blind, ⟨cellV, m1, by rw [m3]; rfl, by rw [m2]; exact hat.1⟩, fun U hU hW => ⟨rfl, Gk.warm hW hG, by rw [hU]; exact hR⟩⟩ rfl hA (ls_size C0 hL hlen) hst (lv_room hcat) hd ⟨by omega, by omega⟩)) kq (fun _ _ hx => hx.elim)
  · unfold va_wsSU at hw
    rcases List.mem_append.mp hw with hw | hw
    · simp only [List.mem_cons, List.not_mem_nil, or_false] at hw
      rcases hw with rfl | rfl | rfl | rfl | rfl
      · exact ⟨g1, BIG_good _ g1⟩
      · exact ⟨g2, BIG_good _ g2⟩
      · exact ⟨g3, BIG_good _ g3⟩
      · exact ⟨g4, BIG_good _ g4⟩
      · exact ⟨h3, BIG_good _ h3⟩
    · exact big_in h2 w hw
  · show d' + 1 ≤ R.frames
    omega
  · show 8 + (mi'.2.2.1 + 11) + 46 * d' ≤ R.locals
    omega
theorem r_callU {kc b : Nat} {x : MethodName} {w : Bool} {fs : List Value} (hd : decode mi.2.1 pc = .ok (.invokevirtual idx, 3)) (hv : CU mi.1.cls idx kc x mi' nA) (hrecv : h b = some (w, .inr (kc, fs))) (hM : MM κ mi' d' K N (.ref b :: As) h Q' NoX) (hd' : d' + 1 ≤ d) (hA : As.length = nA) (hst : st = As.reverse ++ .ref b :: rest) (hcat : (rest.map fun v => v.category).sum ≤ 8) (hK : K ≤ k) (hN : N ≤ n)
    (kq : ∀ v h', Q' v h' → WW κ mi d (k - K) (n - N) Q E (pc + 3) L (v.toList ++ rest) h') : WW κ mi d k n Q E pc L st h := by
  intro H0 D p l e R s m args below meth c Z C F H locs cells slots ls hR hl hk hn hL hlen
  have C0 := C
  obtain ⟨⟨⟨h2, h3, h4, h5, h6, h7⟩, h1⟩, ⟨g1, g2, g4⟩, ⟨b0, m0, r0, hco⟩, hio, hdd, C9, T9, N9, hse, hcl⟩ := hv
  obtain ⟨hx, hfl, hb, hr, hmx, hown, hnm, hlk, htab, hts, hG, hdR, hlR, -⟩ := C
  obtain ⟨⟨r', hr', cellV, m1, m2, m3, -⟩, -⟩ := hR.2.2 b _ hrecv
  cases hr'.symm.trans hcl
  have hat : ClassAt s C9 (D.1.1 kc) := (hG.1.1 kc _ hcl).2
  refine ww_run (E' := NoX) C0 F hl hk hn hL hlen hK hN (va_run_vx (va_runU (Ts := BIG) (As := As) (C := C9) (n := nA) (owner := x.cls) (bytes := mi'.2.1) (maxL := mi'.2.2.1) (ret := mi'.2.2.2.1) ⟨hx, hb, hmx, hown, hts⟩ (met_of_vx (hM l H0 D hfl) noX_not) (va_cwO (Ts := BIG) (ws' := BIG) nA hts (fun w hw => ?_) (by rw [hd_code h1]) rfl rfl hco hdd ⟨?_, ?_⟩) ⟨pc_blind, ⟨cellV, m1, by rw [m3]; rfl, by rw [m2]; exact hat.1⟩, fun U hU hW => ⟨rfl, Gk.warm hW hG, by rw [hU]; exact hR⟩⟩ rfl hA (ls_size C0 hL hlen) hst (lv_room hcat) hd ⟨by omega, by omega⟩)) kq (fun _ _ hx => hx.elim)
  · unfold va_wsO at hw
    rcases List.mem_append.mp hw with hw | hw
    · simp only [List.mem_cons, List.not_mem_nil, or_false] at hw
      rcases hw with rfl | rfl | rfl | rfl | rfl | rfl
      · exact ⟨g1, BIG_good _ g1⟩
      · exact ⟨g2, BIG_good _ g2⟩
      · exact ⟨hio, BIG_good _ hio⟩
      · exact ⟨hse, BIG_good _ hse⟩
      · exact ⟨g4, BIG_good _ g4⟩
      · exact ⟨h3, BIG_good _ h3⟩
    · exact big_in h2 w hw
  · show d' + 1 ≤ R.frames
    omega
  · show 8 + (mi'.2.2.1 + 11) + 46 * d' ≤ R.locals
    omega
theorem fit_by {z : Int} (h0 : 0 ≤ z) (h1 : z < 128) : fits .byte (.int (J z)) = true := by
  have : ∀ n : Fin 128, fits .byte (.int (J (n : Nat))) = true := by decide +kernel
  have := this ⟨z.toNat, by omega⟩
  simpa [Int.toNat_of_nonneg h0] using this
/-- System.arraycopy over bytes, from the beginnings -/
theorem r_copyB {a b N0 N1 : Nat} {w : Bool} {f g : Int → Int} {m9 : Int} (hd : decode mi.2.1 pc = .ok (.invokestatic idx, 3)) (hl9 : Cond.methodLink mi.1.cls idx arraycopyName ∈ BIG) (hb9 : h b = some (w, .inl (.byte, N0, iv f))) (ha9 : h a = some (true, .inl (.byte, N1, iv g))) (m0 : 0 ≤ m9) (m1 : m9 ≤ N0) (m2 : m9 ≤ N1) (hN : N0 < 1000000) (hf : ∀ i : Int, 0 ≤ i → i < m9 → 0 ≤ f i ∧ f i < 128)
    (hcat : (rest.map fun v => v.category).sum ≤ 8) (hd2 : 2 ≤ d) (kk : WW κ mi d k n Q E (pc + 3) L rest (upA h a (true, .inl (.byte, N1, iv (fun i => if i < m9 then f i else g i))))) : WW κ mi d k n Q E pc L (.int (J m9) :: .int (J 0) :: .ref a :: .int (J 0) :: .ref b :: rest) h := by
  intro H0 D p l e R s m args below meth c Z C F H locs cells slots ls hR hl hk hn hL hlen
  have C0 := C
  obtain ⟨hx, hfl, hb, hr, hmx, hown, hnm, hlk, htab, hts, hG, hdR, hlR, -⟩ := C
  have hrz : rng m9 := by constructor <;> omega
  have e0 : (J m9).toNatClampNeg = m9.toNat := by rw [Int32.toNatClampNeg, J_toInt hrz]
  have g0 : ¬ J m9 < 0 := by rw [← J_0, J_lt hrz (by decide)]; omega
  have hc0 : H[b]? = some (arrV (D.2 .byte) N0 (iv f)) := (hR.2.2 b _ hb9).1
  have hc1 : H[a]? = some (arrV (D.2 .byte) N1 (iv g)) := (hR.2.2 a _ ha9).1
  obtain ⟨hs6, k0, hk0, cm0, hkk0⟩ := (hG.2.1 .byte (by decide)).1 N0 (iv f)
  obtain ⟨hs7, k1, hk1, cm1, hkk1⟩ := (hG.2.1 .byte (by decide)).1 N1 (iv g)
  have hbase : H0.size ≤ a := (hR.2.2 a _ ha9).2 rfl
  have q9 : nativeFrameWords "java/lang/System" "arraycopy" 5 + 11 ≤ 40 := by decide +kernel
  intro T hT X
  obtain ⟨vm', X', step⟩ := X.arraycopy hx hown (hts _ hl9) (hts _ acN.1) (hts _ acN.2.1) (hts _ acN.2.2) (src := b) (dst := a) (cs := arrV (D.2 .byte) N0 (iv f)) (cd := arrV (D.2 .byte) N1 (iv g)) (srcPos := J 0) (destPos := J 0) (n := J m9) (by rw [hT]; exact hc0) (by rw [hT]; exact hc1)
    hs6 hs7 (fun h => by cases h) (fun h => by cases h) hk0 hk1 hkk0 hkk1 (by simp [refKind]) (by decide) (by decide) g0
    (by rw [J_toInt hrz, arrV_size]; show ¬ 0 + m9 > (N0 : Int); omega)
    (by rw [J_toInt hrz, arrV_size]; show ¬ 0 + m9 > (N1 : Int); omega)
    (fun vm₁ _ i hi => by
      rw [e0] at hi
      have e : (arrV (D.2 .byte) N0 (iv f)).slots.getD ((J 0).toNatClampNeg + i) .null = .int (J (f i)) := by
        have z0 : (J 0).toNatClampNeg + i = i := by show 0 + i = i; omega
        rw [z0, Array.getD_eq_getD_getElem?, arrV_read _ _ (by omega)]
        rfl
      rw [e]
      refine ⟨?_, trivial⟩
      obtain ⟨q1, q2⟩ := hf i (by omega) (by omega)
      exact fit_by q1 q2)
    (g := F0 m pc ls (.int (J m9) :: .int (J 0) :: .ref a :: .int (J 0) :: .ref b :: rest)) rfl (by rw [hmx]; exact hL.1.trans hlen) (rest := rest) rfl (by rw [hb]; exact hd) (by omega) (by show 2 * 0 + _ + _ ≤ _; omega)
  have e1 : copied (arrV (D.2 .byte) N0 (iv f)) (arrV (D.2 .byte) N1 (iv g)) (J 0) (J 0) (J m9) = arrV (D.2 .byte) N1 (iv (fun i => if i < m9 then f i else g i)) := by
    have := va_copiedX (sp := 0) (dp := 0) (n := m9.toNat) (fun z : Int => Value.int (J z)) (arrV (D.2 .byte) N0 (iv f)) (D.2 .byte) (n0 := N0) (n1 := N1) (fun j => f (j : Int)) (fun j => g (j : Int)) (fun j hj => arrV_read _ _ hj) (by omega)
    show (arrV _ N1 (fun j => .int (J (g (j : Int))))).storeRun (J 0).toNatClampNeg (Cell.stretch _ (J 0).toNatClampNeg (J m9).toNatClampNeg) = _
    rw [e0]
    refine this.trans ?_
    congr 1
    funext j
    show Value.int (J (va_cpy _ _ 0 0 m9.toNat j)) = Value.int (J (if (j : Int) < m9 then f j else g j))
    unfold va_cpy
    by_cases hj : (j : Int) < m9
    · rw [if_pos (by omega), if_pos hj]
      congr 3
      omega
    · rw [if_neg (by omega), if_neg hj]
  rw [e1] at X' step
  have hl2 : a < H.size := (Array.getElem?_eq_some_iff.mp hc1).1
  have hheap : ((T.setVm vm').setCell a (arrV (D.2 .byte) N1 (iv (fun i => if i < m9 then f i else g i)))).heap = H.setIfInBounds a (arrV (D.2 .byte) N1 (iv (fun i => if i < m9 then f i else g i))) := by rw [← hT]; rfl
  have oq : ∀ q : Nat, q ≠ a → (H.setIfInBounds a (arrV (D.2 .byte) N1 (iv (fun i => if i < m9 then f i else g i))))[q]? = H[q]? := fun q hq => by simp [Array.getElem?_setIfInBounds, Ne.symm hq]
  obtain ⟨t, a1, b1⟩ := kk H0 D p l e R s m args below meth c Z C0 F _ _ cells slots ls (hR.put (c := (true, .inl (.byte, N1, iv (fun i => if i < m9 then f i else g i)))) ha9 rfl (by simp) oq (show (H.setIfInBounds a _)[a]? = some _ by simp [Array.getElem?_setIfInBounds, hl2])) (fun q hq => by
    rcases List.mem_append.mp hq with h | h
    · exact hl q h
    · obtain ⟨z, -, hz⟩ := List.mem_map.mp h
      rw [← hz]
      exact hbase) hk hn hL hlen _ hheap X'
  exact ⟨t, step t a1, b1⟩
end CALLS2
