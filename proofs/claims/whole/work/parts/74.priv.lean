/-! ===== a private method of the receiver's superclass ===== -/
theorem selects_priv {s : State} {args : Array Value} {C : String} {x0 y0 y : MethodName} (h0 : (Cond.selects C x0 y0).before args s = true) (hcls : y0.cls = y.cls) (hpriv : (Cond.privateMethod y).before args s = true) (hinst : (Cond.instanceMethod y).before args s = true) (hy : y.cls ≠ "java/lang/invoke/MethodHandle" ∧ y.cls ≠ "java/lang/invoke/VarHandle") : (Cond.selects C y y).before args s = true := by
  obtain ⟨c, r, m0, hc, -, hn0, -, mk0, hk0, hi0⟩ := Cond.selects_spec h0
  obtain ⟨mk, methM, hnamed, hmethM, -, -⟩ := Cond.instanceMethod_spec hinst
  have hfound : s.methodFound? y.cls y.name y.desc = some mk := State.methodFound?_of_named hnamed hy
  have hsel : selectMethod {} s.vm c mk = .method mk := selectMethod_private hmethM (Cond.privateMethod_at hpriv mk methM hnamed hmethM)
  have e1 := findClass_of_methodNamed hn0
  have e2 := findClass_of_methodNamed hnamed
  rw [hcls] at e1
  have e : m0.cls = mk.cls := Option.some.inj (e1.symm.trans e2)
  rw [e] at hk0
  simp only [Cond.before, Cond.holds, Cond.value, hc, hfound, hnamed, hsel, hk0]
  simp
  exact hi0
/-- a private method of the superclass: own is the superclass -/
def CUP (own : String) (idx kc : Nat) (y0 : MethodName) (mi' : MI) (nA : Nat) : Prop := (CB own mi' nA ∧ mi'.2.2.2.2 = []) ∧ (Cond.methodLink own idx mi'.1 ∈ BIG ∧ Cond.sameMethod mi'.1.cls mi'.1.cls mi'.1.name mi'.1.desc ∈ BIG ∧ Cond.instanceMethod mi'.1 ∈ BIG ∧ Cond.privateMethod mi'.1 ∈ BIK) ∧ (mi'.1.cls ≠ "java/lang/invoke/MethodHandle" ∧ mi'.1.cls ≠ "java/lang/invoke/VarHandle" ∧ (parseMethodDescriptor mi'.1.desc).map (fun d => d.parameters.length) = some nA) ∧ y0.cls = mi'.1.cls ∧ ∃ C T N, Cond.selects C y0 y0 ∈ BIG ∧ vwCl[kc]? = some (C, T, N)
section CUPS
variable {κ : KP} {mi : MI} {d k n : Nat} {Q : Option Value → AH → Prop} {E : String → AH → Prop} {pc : Nat} {L : List (Option Value)} {st : List Value} {h : AH} {mi' : MI} {d' K N nA idx : Nat} {As rest : List Value} {Q' : Option Value → AH → Prop}
theorem r_callP {kc b : Nat} {y0 : MethodName} {w : Bool} {fs : List Value} (hd : decode mi.2.1 pc = .ok (.invokevirtual idx, 3)) (hv : CUP mi.1.cls idx kc y0 mi' nA) (hrecv : h b = some (w, .inr (kc, fs))) (hM : MM κ mi' d' K N (.ref b :: As) h Q' NoX) (hd' : d' + 1 ≤ d) (hA : As.length = nA) (hst : st = As.reverse ++ .ref b :: rest) (hcat : (rest.map fun v => v.category).sum ≤ 8) (hK : K ≤ k) (hN : N ≤ n)
    (kq : ∀ v h', Q' v h' → WW κ mi d (k - K) (n - N) Q E (pc + 3) L (v.toList ++ rest) h') : WW κ mi d k n Q E pc L st h := by
  intro H0 D p l e R s m args below meth c Z C F H locs cells slots ls hR hl hk hn hL hlen
  have C0 := C
  obtain ⟨⟨⟨h2, h3, h4, h5, h6, h7⟩, h1⟩, ⟨g1, g2, g4, g5⟩, hdd, hy0, C9, T9, N9, hse, hcl⟩ := hv
  obtain ⟨hx, hfl, hb, hr, hmx, hown, hnm, hlk, htab, hts, hG, hdR, hlR, -⟩ := C
  obtain ⟨⟨r', hr', cellV, m1, m2, m3, -⟩, -⟩ := hR.2.2 b _ hrecv
  cases hr'.symm.trans hcl
  have hat : ClassAt s C9 (D.1.1 kc) := (hG.1.1 kc _ hcl).2
  have hsel : (Cond.selects C9 mi'.1 mi'.1).before args s = true := selects_priv (hts _ hse) hy0 ((hG.2.2.2.2.2.2.2.2.2.2.1 _ g5).use rfl) (hts _ g4) ⟨hdd.1, hdd.2.1⟩
  have hts2 : ∀ w ∈ Cond.selects C9 mi'.1 mi'.1 :: BIG, w.before args s = true := fun w hw => by
    rcases List.mem_cons.mp hw with rfl | hw
    · exact hsel
    · exact hts w hw
  refine ww_run (E' := NoX) C0 F hl hk hn hL hlen hK hN (va_run_vx (va_runU (Ts := Cond.selects C9 mi'.1 mi'.1 :: BIG) (As := As) (C := C9) (n := nA) (owner := mi'.1.cls) (bytes := mi'.2.1) (maxL := mi'.2.2.1) (ret := mi'.2.2.2.1) ⟨hx, hb, hmx, hown, hts2⟩ (met_of_vx (hM l H0 D hfl) noX_not) (va_cwU (Ts := Cond.selects C9 mi'.1 mi'.1 :: BIG) (ws' := BIG) nA hts2 (fun w hw => ?_) (by rw [hd_code h1]) rfl rfl rfl hdd ⟨?_, ?_⟩) ⟨pc_blind, ⟨cellV, m1, by rw [m3]; rfl, by rw [m2]; exact hat.1⟩, fun U hU hW => ⟨rfl, Gk.warm hW hG, by rw [hU]; exact hR⟩⟩ rfl hA (ls_size C0 hL hlen) hst (lv_room hcat) hd ⟨by omega, by omega⟩)) kq (fun _ _ hx => hx.elim)
  · unfold va_wsU at hw
    rcases List.mem_append.mp hw with hw | hw
    · simp only [List.mem_cons, List.not_mem_nil, or_false] at hw
      rcases hw with rfl | rfl | rfl | rfl | rfl
      · exact ⟨List.mem_cons_of_mem _ g1, BIG_good _ g1⟩
      · exact ⟨List.mem_cons_of_mem _ g2, BIG_good _ g2⟩
      · exact ⟨List.mem_cons_self, Or.inl rfl⟩
      · exact ⟨List.mem_cons_of_mem _ g4, BIG_good _ g4⟩
      · exact ⟨List.mem_cons_of_mem _ h3, BIG_good _ h3⟩
    · have := big_in h2 w hw
      exact ⟨List.mem_cons_of_mem _ this.1, this.2⟩
  · show d' + 1 ≤ R.frames
    omega
  · show 8 + (mi'.2.2.1 + 11) + 46 * d' ≤ R.locals
    omega
end CUPS
theorem cb_J5_ensureCapacityInternal_d00df (own : String) : CB own mJ5_ensureCapacityInternal_d00df 1 := ⟨inB 1041 (by decide +kernel) (by decide +kernel), (inB 70 (by decide +kernel) (by decide +kernel)), by decide, by decide +kernel, by decide +kernel, by decide +kernel⟩
theorem z_J5_100 : CUP RJ5 100 1 yJ5_isLatin1_aae02 mJ5_ensureCapacityInternal_d00df 1 := ⟨⟨cb_J5_ensureCapacityInternal_d00df _, rfl⟩, ⟨(inB 1038 (by decide +kernel) (by decide +kernel)), (inB 1971 (by decide +kernel) (by decide +kernel)), (inB 1040 (by decide +kernel) (by decide +kernel)), (inK 1039 (by decide +kernel) (by decide +kernel))⟩, by decide +kernel, rfl, RJ4, TJ4, 4, (inB 1072 (by decide +kernel) (by decide +kernel)), rfl⟩
