/-! ===== calls over WW ===== -/
/-- the frame with a thrown object over it -/
def XX (κ : KP) (mi : MI) (d k n : Nat) (Q : Option Value → AH → Prop) (E : String → AH → Prop) (pc : Nat) (L : List (Option Value)) (rest : List Value) (X : String) (h : AH) : Prop :=
  ∀ (H0 : Heap) (D : HD) (p : Program) (l : Launch) (e : Env) (R : Room) (s : State) (m : MethodId) (args : Array Value) (below : List Frame) (meth : Method) (c : Code) (Z : State → Prop), CT κ mi d H0 D p l R s m args meth c → FN mi d H0 D p l e R s m args below meth c Z Q E →
    ∀ (H : Heap) (locs : List Loc) (cells slots : Nat) (ls : Array Slot) (q : Addr) (ce : Cell), Rl H0 D h H → (∀ q ∈ locs, H0.size ≤ q.base) → cells + k ≤ R.cells → slots + n ≤ R.slots → LL ls L → L.length = mi.2.2.1 → H[q]? = some ce → ce.vm = .none → s.vm.findClass X = some ce.cls → vx_W p l e R s m args below meth c H locs cells slots Z (F0 m pc ls rest) q
theorem hd_code {mi' : MI} (h : mi'.2.2.2.2 = []) : hdOf mi' = .code mi'.1 mi'.2.1 mi'.2.2.1 mi'.2.2.2.1 := by
  obtain ⟨y, cc, mL, ret, hx⟩ := mi'
  cases h
  rfl
theorem big_in {mi' : MI} (h : hdOf mi' ∈ BIG) : GoodIn BIG (hdOf mi' :: BIG) := fun w hw => by
  rcases List.mem_cons.mp hw with rfl | hw
  · exact ⟨h, BIG_good _ h⟩
  · exact ⟨hw, BIG_good _ hw⟩
theorem pc_blind {κ : KP} {H0 : Heap} {D : HD} {h : AH} {av : List Value} : FrameBlind (fun a U => a = av.toArray ∧ Gk κ H0 D U ∧ Rl H0 D h U.heap) := by
  intro a U g mk ⟨e, hG, hR⟩
  exact ⟨e, Gk.warm (State.WarmedH.refl U) hG, hR⟩
theorem met_of_vx {l : Launch} {y : MethodName} {ws : List Cond} {rm : Room} {Pc : Array Value → State → Prop} {Qc : Array Value → State → Outcome → State → Prop} {XC : String → State → State → Prop} {mc ms : Nat} {free : Addr → Prop} (h : vx_Met l y ws rm Pc Qc XC mc ms free) (hn : ∀ E s t, ¬ XC E s t) : Met l y ws rm Pc Qc mc ms free := by
  intro p e ha hc hk s m args below hf h1 h2 h3
  obtain ⟨k, o, a1, a2, a3, hq⟩ := h p e ha hc hk s m args below hf h1 h2 h3
  rcases hq with hq | ⟨q, -, E, ce, L, hx, -⟩
  · exact ⟨k, o, a1, a2, a3, hq⟩
  · exact absurd hx (hn _ _ _)
section CALLS
variable {κ : KP} {mi : MI} {d k n : Nat} {Q : Option Value → AH → Prop} {E : String → AH → Prop} {pc : Nat} {L : List (Option Value)} {st : List Value} {h : AH} {mi' : MI} {d' K N nA idx : Nat} {Q' : Option Value → AH → Prop} {E' : String → AH → Prop} {As rest : List Value}
theorem cb_of {own : String} {D : HD} {H0 : Heap} {p : Program} {l : Launch} {R : Room} {s : State} {m : MethodId} {args : Array Value} {meth : Method} {c : Code} (C : CT κ mi d H0 D p l R s m args meth c) (hb : CB own mi' nA ∧ mi'.2.2.2.2 = []) (hd' : d' + 1 ≤ d) (hl : (Cond.methodLink mi.1.cls idx mi'.1).before args s = true) : CallB R s args mi.1.cls idx mi'.1 mi'.2.1 mi'.2.2.1 mi'.2.2.2.1 (hdOf mi' :: BIG) (rmD d' K N) K N nA := by
  obtain ⟨⟨h2, h3, h4, h5, h6, h7⟩, h1⟩ := hb
  obtain ⟨hx, hfl, hbc, hr, hml, hown, hnm, hlk, htab, hts, hG, hdR, hlR, -⟩ := C
  refine callB_of nA hts (big_in h2) (by rw [hd_code h1]) rfl rfl (hts _ h3) hl ⟨h5, h6, h7⟩ ⟨?_, ?_⟩
  · show d' + 1 ≤ R.frames
    omega
  · show 8 + (mi'.2.2.1 + 11) + 46 * d' ≤ R.locals
    omega
theorem rest_room {g : JFrame} {m : MethodId} {ls : Array Slot} {rest : List Value} (hcat : (rest.map fun v => v.category).sum ≤ 8) : 2 * (F0 m pc ls st).monitorRoom + (rest.map fun v => v.category).sum ≤ 8 := lv_room hcat
theorem ls_size {ls : Array Slot} {H0 : Heap} {D : HD} {p : Program} {l : Launch} {R : Room} {s : State} {m : MethodId} {args : Array Value} {meth : Method} {c : Code} (C : CT κ mi d H0 D p l R s m args meth c) (hL : LL ls L) (hlen : L.length = mi.2.2.1) : ls.size = mi.2.2.1 := hL.1.trans hlen
/-- the run of a call, and its two ends -/
theorem ww_run {H0 : Heap} {D : HD} {p : Program} {l : Launch} {e : Env} {R : Room} {s : State} {m : MethodId} {args : Array Value} {below : List Frame} {meth : Method} {c : Code} {Z : State → Prop} {H : Heap} {locs : List Loc} {cells slots : Nat} {ls : Array Slot} {a9 : Array Value}
    (C : CT κ mi d H0 D p l R s m args meth c) (F : FN mi d H0 D p l e R s m args below meth c Z Q E) (hl : ∀ q ∈ locs, H0.size ≤ q.base) (hk : cells + k ≤ R.cells) (hn : slots + n ≤ R.slots) (hL : LL ls L) (hlen : L.length = mi.2.2.1) (hK : K ≤ k) (hN : N ≤ n)
    (hr : vx_Run p l e R s m args below meth c H locs cells slots K N (F0 m pc ls st) rest (QcOf H0 D Q' a9) (XcOf H0 D E') (fun q => H0.size ≤ q))
    (kq : ∀ v h', Q' v h' → WW κ mi d (k - K) (n - N) Q E (pc + 3) L (v.toList ++ rest) h') (kx : ∀ X h', E' X h' → XX κ mi d (k - K) (n - N) Q E pc L rest X h') : W p l e R s m args below meth c H locs cells slots Z (F0 m pc ls st) := by
  intro T hT X
  have hl2 : ∀ (L9 : List Loc), (∀ q ∈ L9, H0.size ≤ q.base) → ∀ q ∈ locs ++ L9, H0.size ≤ q.base := fun L9 h9 q hq => (List.mem_append.mp hq).elim (hl q) (h9 q)
  rcases hr T hT X with ⟨v, st₀, t, T', L9, h0, X', hL9, e1, e2, ⟨v', h', hv, hq, hR'⟩, go⟩ | ⟨q, st₀, t, T', L9, E9, ce, h0, X', hL9, e1, e2, ⟨h', hx, hR'⟩, hce, hcv, hcl, go⟩
  · cases hv
    obtain ⟨t2, a1, b1⟩ := kq v h' hq H0 D p l e R s m args below meth c Z C F T'.heap (locs ++ L9) (cells + K) (slots + N) ls (by rw [e1]; exact hR') (hl2 L9 hL9) (by omega) (by omega) hL hlen T' rfl X'
    exact ⟨t2, go t2 a1, b1⟩
  · obtain ⟨t2, a1, b1⟩ := kx E9 h' hx H0 D p l e R s m args below meth c Z C F T'.heap (locs ++ L9) (cells + K) (slots + N) ls q ce (by rw [e1]; exact hR') (hl2 L9 hL9) (by omega) (by omega) hL hlen (by rw [e1]; exact hce) hcv hcl T' rfl X'
    exact ⟨t2, go.trans a1, b1⟩
theorem va_run_vx {mc ms : Nat} {p : Program} {l : Launch} {e : Env} {R : Room} {s : State} {m : MethodId} {args : Array Value} {below : List Frame} {meth : Method} {c : Code} {H : Heap} {locs : List Loc} {cells slots : Nat} {g : JFrame} {Qa : State → Outcome → State → Prop} {XC : String → State → State → Prop} {free : Addr → Prop} (h : va_Run p l e R s m args below meth c H locs cells slots mc ms g rest Qa free) : vx_Run p l e R s m args below meth c H locs cells slots mc ms g rest Qa XC free := fun T hT X => Or.inl (h T hT X)
theorem noX_not {H0 : Heap} {D : HD} : ∀ E9 s t, ¬ XcOf H0 D NoX E9 s t := fun _ _ _ ⟨_, hx, _⟩ => hx
theorem r_callV {kc b : Nat} {w : Bool} {fs : List Value} (hd : decode mi.2.1 pc = .ok (.invokevirtual idx, 3)) (hv : CV mi.1.cls idx kc mi' nA) (hrecv : h b = some (w, .inr (kc, fs))) (hM : MM κ mi' d' K N (.ref b :: As) h Q' E') (hd' : d' + 1 ≤ d) (hA : As.length = nA) (hst : st = As.reverse ++ .ref b :: rest) (hcat : (rest.map fun v => v.category).sum ≤ 8) (hK : K ≤ k) (hN : N ≤ n)
    (kq : ∀ v h', Q' v h' → WW κ mi d (k - K) (n - N) Q E (pc + 3) L (v.toList ++ rest) h') (kx : ∀ X h', E' X h' → XX κ mi d (k - K) (n - N) Q E pc L rest X h') : WW κ mi d k n Q E pc L st h := by
  intro H0 D p l e R s m args below meth c Z C F H locs cells slots ls hR hl hk hn hL hlen
  have C0 := C
  obtain ⟨hcb, hml, hin, C9, T9, N9, hse, hcl⟩ := hv
  obtain ⟨hx, hfl, hb, hr, hmx, hown, hnm, hlk, htab, hts, hG, -⟩ := C
  obtain ⟨⟨r', hr', cellV, m1, m2, m3, -⟩, -⟩ := hR.2.2 b _ hrecv
  cases hr'.symm.trans hcl
  refine ww_run C0 F hl hk hn hL hlen hK hN (vx_runV (Ts := BIG) (As := As) ⟨hx, hb, hmx, hown, hts⟩ (hM l H0 D hfl) ⟨cb_of C0 hcb hd' (hts _ hml), hts _ hin, hts _ hse⟩ ⟨pc_blind, ⟨cellV, m1, by rw [m3]; rfl, by rw [m2]; exact (hG.1.1 kc _ hcl).2.1⟩, fun U hU hW => ⟨rfl, Gk.warm hW hG, by rw [hU]; exact hR⟩⟩ rfl hA (ls_size C0 hL hlen) hst (lv_room hcat) hd ⟨by omega, by omega⟩) kq kx
theorem r_callS (hd : decode mi.2.1 pc = .ok (.invokestatic idx, 3)) (hv : CS mi.1.cls idx mi' nA) (hM : MM κ mi' d' K N As h Q' E') (hd' : d' + 1 ≤ d) (hA : As.length = nA) (hst : st = As.reverse ++ rest) (hcat : (rest.map fun v => v.category).sum ≤ 8) (hK : K ≤ k) (hN : N ≤ n)
    (kq : ∀ v h', Q' v h' → WW κ mi d (k - K) (n - N) Q E (pc + 3) L (v.toList ++ rest) h') (kx : ∀ X h', E' X h' → XX κ mi d (k - K) (n - N) Q E pc L rest X h') : WW κ mi d k n Q E pc L st h := by
  intro H0 D p l e R s m args below meth c Z C F H locs cells slots ls hR hl hk hn hL hlen
  have C0 := C
  obtain ⟨hcb, hml, hsta⟩ := hv
  obtain ⟨hx, hfl, hb, hr, hmx, hown, hnm, hlk, htab, hts, hG, -⟩ := C
  refine ww_run C0 F hl hk hn hL hlen hK hN (vx_runS (Ts := BIG) (As := As) ⟨hx, hb, hmx, hown, hts⟩ (hM l H0 D hfl) ⟨cb_of C0 hcb hd' (hts _ hml), hts _ hsta⟩ ⟨pc_blind, fun U hU hW => ⟨rfl, Gk.warm hW hG, by rw [hU]; exact hR⟩⟩ rfl hA (ls_size C0 hL hlen) hst (lv_room hcat) hd ⟨by omega, by omega⟩) kq kx
theorem cn_of {own : String} {D : HD} {H0 : Heap} {p : Program} {l : Launch} {R : Room} {s : State} {m : MethodId} {args : Array Value} {meth : Method} {c : Code} (C : CT κ mi d H0 D p l R s m args meth c) (hb : CB own mi' nA ∧ mi'.2.2.2.2 = []) (hd' : d' + 1 ≤ d) (hw : (mi.1.cls, idx, mi'.1) ∈ nestW) : va_CN R s args mi.1.cls idx mi'.1 RX9 mi'.2.1 mi'.2.2.1 mi'.2.2.2.1 (hdOf mi' :: BIG) (rmD d' K N) K N nA := by
  obtain ⟨⟨h2, h3, h4, h5, h6, h7⟩, h1⟩ := hb
  obtain ⟨hx, hfl, hbc, hr, hml, hown, hnm, hlk, htab, hts, hG, hdR, hlR, -⟩ := C
  refine va_cnB nA hts (big_in h2) (by rw [hd_code h1]) rfl rfl (hG.2.2.2.1 _ hw) (hts _ h3) ⟨h5, h6, h7⟩ ⟨?_, ?_⟩
  · show d' + 1 ≤ R.frames
    omega
  · show 8 + (mi'.2.2.1 + 11) + 46 * d' ≤ R.locals
    omega
theorem r_callSN (hd : decode mi.2.1 pc = .ok (.invokestatic idx, 3)) (hv : CSN mi.1.cls idx mi' nA) (hM : MM κ mi' d' K N As h Q' NoX) (hd' : d' + 1 ≤ d) (hA : As.length = nA) (hst : st = As.reverse ++ rest) (hcat : (rest.map fun v => v.category).sum ≤ 8) (hK : K ≤ k) (hN : N ≤ n)
    (kq : ∀ v h', Q' v h' → WW κ mi d (k - K) (n - N) Q E (pc + 3) L (v.toList ++ rest) h') : WW κ mi d k n Q E pc L st h := by
  intro H0 D p l e R s m args below meth c Z C F H locs cells slots ls hR hl hk hn hL hlen
  have C0 := C
  obtain ⟨hcb, hml, hsta⟩ := hv
  obtain ⟨hx, hfl, hb, hr, hmx, hown, hnm, hlk, htab, hts, hG, -⟩ := C
  refine ww_run (E' := NoX) C0 F hl hk hn hL hlen hK hN (va_run_vx (va_runSN (Ts := BIG) (As := As) ⟨hx, hb, hmx, hown, hts⟩ (met_of_vx (hM l H0 D hfl) noX_not) ⟨cn_of C0 hcb hd' hml, hts _ hsta, trivial⟩ ⟨pc_blind, fun U hU hW => ⟨rfl, Gk.warm hW hG, by rw [hU]; exact hR⟩⟩ rfl hA (ls_size C0 hL hlen) hst (lv_room hcat) hd ⟨by omega, by omega⟩)) kq (fun _ _ hx => hx.elim)
theorem r_callI {b : Nat} (hd : decode mi.2.1 pc = .ok (.invokespecial idx, 3)) (hv : CI mi.1.cls idx mi' nA) (hM : MM κ mi' d' K N (.ref b :: As) h Q' NoX) (hd' : d' + 1 ≤ d) (hA : As.length = nA) (hst : st = As.reverse ++ .ref b :: rest) (hcat : (rest.map fun v => v.category).sum ≤ 8) (hK : K ≤ k) (hN : N ≤ n)
    (kq : ∀ v h', Q' v h' → WW κ mi d (k - K) (n - N) Q E (pc + 3) L (v.toList ++ rest) h') : WW κ mi d k n Q E pc L st h := by
  intro H0 D p l e R s m args below meth c Z C F H locs cells slots ls hR hl hk hn hL hlen
  have C0 := C
  obtain ⟨hcb, hml, hin, hnm9, hret⟩ := hv
  obtain ⟨hx, hfl, hb, hr, hmx, hown, hnm, hlk, htab, hts, hG, -⟩ := C
  have cb := cb_of (K := K) (N := N) C0 hcb hd' (hts _ hml)
  rw [hret] at cb
  refine ww_run (E' := NoX) C0 F hl hk hn hL hlen hK hN (va_run_vx (va_runI (Ts := BIG) (As := As) ⟨hx, hb, hmx, hown, hts⟩ (met_of_vx (hM l H0 D hfl) noX_not) ⟨cb, hnm9, hts _ hin⟩ ⟨pc_blind, fun U hU hW => ⟨rfl, Gk.warm hW hG, by rw [hU]; exact hR⟩⟩ rfl hA (ls_size C0 hL hlen) hst (lv_room hcat) hd ⟨by omega, by omega⟩)) kq (fun _ _ hx => hx.elim)
theorem r_callIN {b : Nat} (hd : decode mi.2.1 pc = .ok (.invokespecial idx, 3)) (hv : CIN mi.1.cls idx mi' nA) (hM : MM κ mi' d' K N (.ref b :: As) h Q' NoX) (hd' : d' + 1 ≤ d) (hA : As.length = nA) (hst : st = As.reverse ++ .ref b :: rest) (hcat : (rest.map fun v => v.category).sum ≤ 8) (hK : K ≤ k) (hN : N ≤ n)
    (kq : ∀ v h', Q' v h' → WW κ mi d (k - K) (n - N) Q E (pc + 3) L (v.toList ++ rest) h') : WW κ mi d k n Q E pc L st h := by
  intro H0 D p l e R s m args below meth c Z C F H locs cells slots ls hR hl hk hn hL hlen
  have C0 := C
  obtain ⟨hcb, hml, hin, hnm9, hret⟩ := hv
  obtain ⟨hx, hfl, hb, hr, hmx, hown, hnm, hlk, htab, hts, hG, -⟩ := C
  have cb := cn_of (K := K) (N := N) C0 hcb hd' hml
  rw [hret] at cb
  refine ww_run (E' := NoX) C0 F hl hk hn hL hlen hK hN (va_run_vx (va_runIN (Ts := BIG) (As := As) ⟨hx, hb, hmx, hown, hts⟩ (met_of_vx (hM l H0 D hfl) noX_not) ⟨cb, hnm9, hts _ hin⟩ ⟨pc_blind, fun U hU hW => ⟨rfl, Gk.warm hW hG, by rw [hU]; exact hR⟩⟩ rfl hA (ls_size C0 hL hlen) hst (lv_room hcat) hd ⟨by omega, by omega⟩)) kq (fun _ _ hx => hx.elim)
/-- Object.<init> -/
theorem r_objInit {a : Nat} (hd : decode mi.2.1 pc = .ok (.invokespecial idx, 3)) (hl1 : Cond.methodLink mi.1.cls idx objectInit ∈ BIG) (hl2 : Cond.instanceMethod objectInit ∈ BIG) (hl3 : Cond.code objectInit ⟨#[0xb1]⟩ 1 none ∈ BIG) (hd1 : 1 ≤ d) (hcat : (rest.map fun v => v.category).sum ≤ 8) (kk : WW κ mi d k n Q E (pc + 3) L rest h) : WW κ mi d k n Q E pc L (.ref a :: rest) h := by
  intro H0 D p l e R s m args below meth c Z C F H locs cells slots ls hR hl hk hn hL hlen
  have k9 := kk H0 D p l e R s m args below meth c Z C F H locs cells slots ls hR hl hk hn hL hlen
  obtain ⟨hx, hfl, hb, hr, hmx, hown, hnm, hlk, htab, hts, hG, hdR, hlR, -⟩ := C
  have hw := rest_room (g := F0 m pc ls (.ref a :: rest)) (m := m) (ls := ls) (pc := pc) (st := .ref a :: rest) hcat
  exact W.objInit hx hb hown (hts _ hl1) (hts _ hl2) (hts _ hl3) rfl (by rw [hmx]; exact hL.1.trans hlen) rfl hd (by omega) (by omega) k9
/-- an exception that this method doesn't catch -/
theorem x_out {X : String} (hh : mi.2.2.2.2 = []) (hE : E X h) : XX κ mi d k n Q E pc L rest X h := by
  intro H0 D p l e R s m args below meth c Z C F H locs cells slots ls q ce hR hl hk hn hL hlen hce hcv hcl
  exact F.2.1 X h H locs cells slots ls pc rest q ce hE hR hl (by omega) (by omega) hh hce hcv hcl
end CALLS
