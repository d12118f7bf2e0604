/-! ===== fields, arrays, makings, ends over WW ===== -/
section HEAP
variable {κ : KP} {mi : MI} {d k n : Nat} {Q : Option Value → AH → Prop} {E : String → AH → Prop} {pc : Nat} {L : List (Option Value)} {st : List Value} {h : AH}
theorem same_of {s : State} {args : Array Value} {ref o nm ds : String} (hts : ∀ w ∈ BIG, w.before args s = true) (h : ref = o ∨ Cond.sameField ref o nm ds ∈ BIG) : ∀ x, s.fieldFound? o nm ds = some x → s.fieldFound? ref nm ds = some x := by
  intro x hx
  rcases h with rfl | h
  · exact hx
  · exact u_same (hts _ h) x hx
theorem r_getfield {idx a kc j : Nat} {w : Bool} {fs : List Value} {v : Value} (hd : decode mi.2.1 pc = .ok (.getfield idx, 3)) (hf : FL mi.1.cls idx kc j) (hc : h a = some (w, .inr (kc, fs))) (hv : fs[j]? = some v) (kk : WW κ mi d k n Q E (pc + 3) L (v :: st) h) : WW κ mi d k n Q E pc L (.ref a :: st) h := by
  intro H0 D p l e R s m args below meth c Z C F H locs cells slots ls hR hl hk hn hL hlen
  have k9 := kk H0 D p l e R s m args below meth c Z C F H locs cells slots ls hR hl hk hn hL hlen
  obtain ⟨hx, hfl, hb, hr, hml, hown, hnm, hlk, htab, hts, hG, -⟩ := C
  obtain ⟨Cn, T, N, ref, hcl, hj, hin, hlink, hsame⟩ := hf
  obtain ⟨r, h1, cell, q1, q2, q3, q4⟩ := (hR.2.2 a _ hc).1
  cases h1.symm.trans hcl
  obtain ⟨hS, hfc, kC, hkC, hkind⟩ := hG.1.1 kc _ hcl
  obtain ⟨cf, kf, fi, f, hi, hsl⟩ := hS j hj
  refine W.getf hx hb hown (hts _ hlink) (same_of hts hsame _ hi) (u_facts hfc hkC (u_lays hts hin hj) hi).1 q1 (by rw [q3]; exact fun h => by cases h) (v := v) ?_ rfl rfl hd k9
  rw [hsl, q4 j hj]
  simp [vp_V, hv]
theorem r_putfield {idx a kc j : Nat} {fs fs' : List Value} {ty : FieldType} {v : Value} (hd : decode mi.2.1 pc = .ok (.putfield idx, 3)) (hf : FL mi.1.cls idx kc j) (hp : FP mi.1.cls kc j ty) (hfi : FF kc j mi.1.name) (hc : h a = some (true, .inr (kc, fs))) (hn2 : narrow ty v = v) (hfit : fits ty v = true) (hlen2 : j < fs.length) (hfs : fs.set j v = fs') (kk : WW κ mi d k n Q E (pc + 3) L st (upA h a (true, .inr (kc, fs')))) : WW κ mi d k n Q E pc L (v :: .ref a :: st) h := by
  intro H0 D p l e R s m args below meth c Z C F H locs cells slots ls hR hl hk hn hL hlen
  have C0 := C
  obtain ⟨hx, hfl, hb, hr, hml, hown, hnm, hlk, htab, hts, hG, -⟩ := C
  obtain ⟨Cn, T, N, ref, hcl, hj, hin, hlink, hsame⟩ := hf
  obtain ⟨Cn2, T2, N2, ty0, hcl2, hty, hnms, hdp, hfo⟩ := hp
  cases hcl.symm.trans hcl2
  have hap := va_apart (own := mi.1.cls) hts hin ty0 hty hnms hG.1 hcl
  obtain ⟨⟨r, h1, cell, q1, q2, q3, q4⟩, hw⟩ := hR.2.2 a _ hc
  cases h1.symm.trans hcl
  obtain ⟨hS, hfc, kC, hkC, hkind⟩ := hG.1.1 kc _ hcl
  obtain ⟨cf, kf, fi, f, hi, hsl⟩ := hS j hj
  have hst := (u_facts hfc hkC (u_lays hts hin hj) hi).1
  have hlt : f.slot < cell.slots.size := by rw [hsl]; exact k2_hasslot (q4 j hj)
  have hlay := hts _ (hin _ (u_in_lay hj))
  have fin : ∀ (H1 : Heap), H1[a]? = some (cell.setSlot f.slot v) → H1.size = H.size → (∀ q, q ≠ a → H1[q]? = H[q]?) → W p l e R s m args below meth c H1 (locs ++ [⟨a, f.slot⟩]) cells slots Z { F0 m pc ls (v :: .ref a :: st) with pc := pc + 3, stack := st } := by
    intro H1 e1 e2 e3
    rw [hsl] at e1
    refine kk H0 D p l e R s m args below meth c Z C0 F H1 _ cells slots ls (hR.put hc rfl e2 e3 ⟨_, hcl, ?_⟩) (fun q hq => ?_) hk hn hL hlen
    · rw [← hfs]
      exact t_OB.to (V := updV (vp_V fs) j v) ⟨_, e1, q2, q3, t_set q4 hap hj v⟩ (fun i _ => vp_updV_set hlen2 v i)
    · rcases List.mem_append.mp hq with h9 | h9
      · exact hl q h9
      · rw [List.mem_singleton.mp h9]
        exact hw rfl
  unfold u_lay at hlay
  by_cases hfin : (T j).2.2.2 = true
  · rw [if_pos hfin] at hlay
    have hcf : m.cls = cf := by
      obtain ⟨_, _, c', _, _, _, -, -, hf', -, -, -, hown2, -⟩ := Cond.laysFinal_spec hlay
      have e1 : c' = cf := by have := hi.symm.trans hf'; simp at this; exact this.1.symm
      rw [hfo hfin] at hown2
      rw [← e1]; exact Option.some.inj (hown.symm.trans hown2)
    have h6 := u_fits hfc hkC hkind (Or.inr hlay) hi hdp hn2 hfit
    exact W.putFinK hx hb hown (hts _ hlink) (same_of hts hsame _ hi) hst hcf (hnm.trans (hfi _ _ _ hcl hfin)) (by rw [q2]; exact h6) q1 q3 hlt rfl rfl hd fin
  · rw [if_neg hfin] at hlay
    have h6 := u_store hfc hkC hkind hlay hi hdp hn2 hfit
    exact W.putK hx hb (f := f) ⟨hown, hts _ hlink, ⟨_, _, _, same_of hts hsame _ hi⟩, hst⟩ (by rw [q2]; exact h6) q1 q3 hlt rfl rfl hd fin
theorem r_new {idx kc N : Nat} {fs : List Value} (hd : decode mi.2.1 pc = .ok (.new idx, 3)) (hw : NW mi.1.cls idx kc N fs) (h1 : 1 ≤ k) (h2 : N ≤ n) (kk : ∀ a : Nat, h a = none → WW κ mi d (k - 1) (n - N) Q E (pc + 3) L (.ref a :: st) (upA h a (true, .inr (kc, fs)))) : WW κ mi d k n Q E pc L st h := by
  intro H0 D p l e R s m args below meth c Z C F H locs cells slots ls hR hl hk hn hL hlen
  have C0 := C
  obtain ⟨hx, hfl, hb, hr, hml, hown, hnm, hlk, htab, hts, hG, -⟩ := C
  obtain ⟨Cn, T, ty0, hcl, hin, hty, hdf, hcla, hins, hini⟩ := hw
  have hKn := hG.1.1 kc _ hcl
  refine W.newcK hx hb hown (hts _ hcla) (hts _ hins) (hts _ hini) rfl hd (by omega) (by omega) hKn.2.1 rfl fun H1 kC hkC e1 z1 o1 => ?_
  exact kk H.size hR.fresh H0 D p l e R s m args below meth c Z C0 F H1 locs _ _ ls (hR.new z1 o1 ⟨_, hcl, (u_born ty0 hts hin hKn hkC e1 hty).to hdf⟩) hl (by omega) (by omega) hL hlen
theorem r_newa {at9 : ArrayType} {z : Int} (hd : decode mi.2.1 pc = .ok (.newarray at9, 2)) (hty : newarray.typeOf at9 ∈ arTys) (hw : Cond.arrayClass (newarray.typeOf at9) ∈ BIG) (hz : 0 ≤ z) (hz2 : z.toNat * componentBytes (newarray.typeOf at9) ≤ 536870912) (hz3 : z < 2147483648) (h1 : 1 ≤ k) (h2 : z.toNat ≤ n) (kk : ∀ a : Nat, h a = none → WW κ mi d (k - 1) (n - z.toNat) Q E (pc + 2) L (.ref a :: st) (upA h a (true, .inl (newarray.typeOf at9, z.toNat, fun _ => defaultValue (newarray.typeOf at9))))) : WW κ mi d k n Q E pc L (.int (J z) :: st) h := by
  intro H0 D p l e R s m args below meth c Z C F H locs cells slots ls hR hl hk hn hL hlen
  have C0 := C
  obtain ⟨hx, hfl, hb, hr, hml, hown, hnm, hlk, htab, hts, hG, -⟩ := C
  have hrz : rng z := by constructor <;> omega
  have e0 : (J z).toNatClampNeg = z.toNat := by rw [Int32.toNatClampNeg, J_toInt hrz]
  have g0 : ¬ J z < 0 := by rw [← J_0, J_lt hrz (by decide)]; omega
  refine W.newa hx hb (hts _ hw) rfl hd rfl g0 (by rw [e0]; exact hz2) (by omega) (by rw [e0]; omega) fun cA kA comp f1 f2 f3 => ?_
  rw [e0]
  have hA := (hG.2.1 _ hty).2
  have eA : D.2 (newarray.typeOf at9) = cA := by
    cases at9 <;> exact Option.some.inj (Eq.trans (Eq.symm hA) f1)
  generalize hH1 : H.push ({ cls := cA, slots := Array.replicate z.toNat (defaultValue (newarray.typeOf at9)), vm := .none } : Cell) = H1
  have z1 : H1.size = H.size + 1 := by rw [← hH1, Array.size_push]
  have e1 : H1[H.size]? = some (arrV cA z.toNat (fun _ => defaultValue (newarray.typeOf at9))) := by rw [← hH1, Array.getElem?_push_size, ← arrV_new]
  have o1 : ∀ q, q < H.size → H1[q]? = H[q]? := fun q hq => by rw [← hH1, Array.getElem?_push, if_neg (Nat.ne_of_lt hq)]
  exact kk H.size hR.fresh H0 D p l e R s m args below meth c Z C0 F H1 locs _ _ ls (hR.new z1 o1 (by show H1[H.size]? = some (arrV (D.2 _) _ _); rw [eA]; exact e1)) hl (by omega) (by omega) hL hlen
theorem r_anewa {Cn : String} {idx : Nat} {z : Int} (hd : decode mi.2.1 pc = .ok (.anewarray idx, 3)) (hw : Cond.classLink mi.1.cls idx Cn ∈ BIG) (hao : Cn ∈ aoCls) (hty : FieldType.object Cn ∈ arTys) (hz : 0 ≤ z) (hz3 : z ≤ 100000000) (h1 : 1 ≤ k) (h2 : z.toNat ≤ n) (kk : ∀ a : Nat, h a = none → WW κ mi d (k - 1) (n - z.toNat) Q E (pc + 3) L (.ref a :: st) (upA h a (true, .inl (.object Cn, z.toNat, rv (fun _ => none))))) : WW κ mi d k n Q E pc L (.int (J z) :: st) h := by
  intro H0 D p l e R s m args below meth c Z C F H locs cells slots ls hR hl hk hn hL hlen
  have C0 := C
  obtain ⟨hx, hfl, hb, hr, hml, hown, hnm, hlk, htab, hts, hG, -⟩ := C
  have hrz : rng z := by constructor <;> omega
  have e0 : (J z).toNatClampNeg = z.toNat := by rw [Int32.toNatClampNeg, J_toInt hrz]
  have g0 : ¬ J z < 0 := by rw [← J_0, J_lt hrz (by decide)]; omega
  refine W.anew hx hb hown (hts _ hw) (va_AO.use (hG.2.2.1 _ hao)) rfl hd rfl g0 (by rw [e0]; omega) (by omega) (by rw [e0]; omega) fun cA kA comp f1 f2 f3 f4 => ?_
  rw [e0]
  obtain ⟨kA9, comp9, g1, g2, g3, g4⟩ := (hG.2.1 _ hty).2
  have eA : D.2 (.object Cn) = cA := Option.some.inj (g4.symm.trans f1)
  generalize hH1 : H.push ({ cls := cA, slots := Array.replicate z.toNat .null, vm := .none } : Cell) = H1
  have z1 : H1.size = H.size + 1 := by rw [← hH1, Array.size_push]
  have e1 : H1[H.size]? = some (arrV cA z.toNat (fun _ => .null)) := by rw [← hH1, Array.getElem?_push_size, ← arrV_new]
  have o1 : ∀ q, q < H.size → H1[q]? = H[q]? := fun q hq => by rw [← hH1, Array.getElem?_push, if_neg (Nat.ne_of_lt hq)]
  exact kk H.size hR.fresh H0 D p l e R s m args below meth c Z C0 F H1 locs _ _ ls (hR.new z1 o1 (by show H1[H.size]? = some (arrV (D.2 _) _ _); rw [eA]; exact e1)) hl (by omega) (by omega) hL hlen
theorem r_alen {a N : Nat} {w : Bool} {ty : FieldType} {f : Nat → Value} (hd : decode mi.2.1 pc = .ok (.arraylength, 1)) (hty : ty ∈ arTys) (hc : h a = some (w, .inl (ty, N, f))) (kk : WW κ mi d k n Q E (pc + 1) L (.int (J (N : Int)) :: st) h) : WW κ mi d k n Q E pc L (.ref a :: st) h := by
  intro H0 D p l e R s m args below meth c Z C F H locs cells slots ls hR hl hk hn hL hlen
  have k9 := kk H0 D p l e R s m args below meth c Z C F H locs cells slots ls hR hl hk hn hL hlen
  obtain ⟨hx, hfl, hb, hr, hml, hown, hnm, hlk, htab, hts, hG, -⟩ := C
  rw [J_nat] at k9
  exact W.alen (n := Int32.ofNat N) hx hb (hR.2.2 a _ hc).1 ((hG.2.1 _ hty).1 N f) (by rw [arrV_size] <;> rfl) rfl rfl hd k9

theorem r_iald {a N : Nat} {w : Bool} {i : Int} {f : Nat → Value} {v : Value} (hd : decode mi.2.1 pc = .ok (.iaload, 1)) (hc : h a = some (w, .inl (.int, N, f))) (h0 : 0 ≤ i) (h1 : i < N) (h2 : N < 2147483648) (hv : f i.toNat = v) (kk : WW κ mi d k n Q E (pc + 1) L (v :: st) h) : WW κ mi d k n Q E pc L (.int (J i) :: .ref a :: st) h := by
  intro H0 D p l e R s m args below meth c Z C F H locs cells slots ls hR hl hk hn hL hlen
  have k9 := kk H0 D p l e R s m args below meth c Z C F H locs cells slots ls hR hl hk hn hL hlen
  obtain ⟨hx, hfl, hb, hr, hml, hown, hnm, hlk, htab, hts, hG, -⟩ := C
  obtain ⟨g1, g2, g3⟩ := J_idx h0 h1 h2
  have qc : H[a]? = some (arrV (D.2 (.int)) N f) := (hR.2.2 a _ hc).1
  exact W.iald hx hb qc ((hG.2.1 (.int) (by decide)).1 N f) (fun q => by cases q) (by rw [arrV_size]; exact g1) (by rw [g2, arrV_read _ _ g3, hv]) rfl rfl hd k9
theorem r_lald {a N : Nat} {w : Bool} {i : Int} {f : Nat → Value} {v : Value} (hd : decode mi.2.1 pc = .ok (.laload, 1)) (hc : h a = some (w, .inl (.long, N, f))) (h0 : 0 ≤ i) (h1 : i < N) (h2 : N < 2147483648) (hv : f i.toNat = v) (kk : WW κ mi d k n Q E (pc + 1) L (v :: st) h) : WW κ mi d k n Q E pc L (.int (J i) :: .ref a :: st) h := by
  intro H0 D p l e R s m args below meth c Z C F H locs cells slots ls hR hl hk hn hL hlen
  have k9 := kk H0 D p l e R s m args below meth c Z C F H locs cells slots ls hR hl hk hn hL hlen
  obtain ⟨hx, hfl, hb, hr, hml, hown, hnm, hlk, htab, hts, hG, -⟩ := C
  obtain ⟨g1, g2, g3⟩ := J_idx h0 h1 h2
  have qc : H[a]? = some (arrV (D.2 (.long)) N f) := (hR.2.2 a _ hc).1
  exact W.lald hx hb qc ((hG.2.1 (.long) (by decide)).1 N f) (fun q => by cases q) (by rw [arrV_size]; exact g1) (by rw [g2, arrV_read _ _ g3, hv]) rfl rfl hd k9
theorem r_cald {a N : Nat} {w : Bool} {i : Int} {f : Nat → Value} {v : Value} (hd : decode mi.2.1 pc = .ok (.caload, 1)) (hc : h a = some (w, .inl (.char, N, f))) (h0 : 0 ≤ i) (h1 : i < N) (h2 : N < 2147483648) (hv : f i.toNat = v) (kk : WW κ mi d k n Q E (pc + 1) L (v :: st) h) : WW κ mi d k n Q E pc L (.int (J i) :: .ref a :: st) h := by
  intro H0 D p l e R s m args below meth c Z C F H locs cells slots ls hR hl hk hn hL hlen
  have k9 := kk H0 D p l e R s m args below meth c Z C F H locs cells slots ls hR hl hk hn hL hlen
  obtain ⟨hx, hfl, hb, hr, hml, hown, hnm, hlk, htab, hts, hG, -⟩ := C
  obtain ⟨g1, g2, g3⟩ := J_idx h0 h1 h2
  have qc : H[a]? = some (arrV (D.2 (.char)) N f) := (hR.2.2 a _ hc).1
  exact W.cald hx hb qc ((hG.2.1 (.char) (by decide)).1 N f) (fun q => by cases q) (by rw [arrV_size]; exact g1) (by rw [g2, arrV_read _ _ g3, hv]) rfl rfl hd k9
theorem r_bald {a N : Nat} {w : Bool} {i : Int} {f : Nat → Value} {v : Value} (hd : decode mi.2.1 pc = .ok (.baload, 1)) (hc : h a = some (w, .inl (.byte, N, f))) (h0 : 0 ≤ i) (h1 : i < N) (h2 : N < 2147483648) (hv : f i.toNat = v) (kk : WW κ mi d k n Q E (pc + 1) L (v :: st) h) : WW κ mi d k n Q E pc L (.int (J i) :: .ref a :: st) h := by
  intro H0 D p l e R s m args below meth c Z C F H locs cells slots ls hR hl hk hn hL hlen
  have k9 := kk H0 D p l e R s m args below meth c Z C F H locs cells slots ls hR hl hk hn hL hlen
  obtain ⟨hx, hfl, hb, hr, hml, hown, hnm, hlk, htab, hts, hG, -⟩ := C
  obtain ⟨g1, g2, g3⟩ := J_idx h0 h1 h2
  have qc : H[a]? = some (arrV (D.2 (.byte)) N f) := (hR.2.2 a _ hc).1
  exact W.bald hx hb qc ((hG.2.1 (.byte) (by decide)).1 N f) (fun q => by cases q) (by rw [arrV_size]; exact g1) (by rw [g2, arrV_read _ _ g3, hv]) rfl rfl hd k9
theorem r_zald {a N : Nat} {w : Bool} {i : Int} {f : Nat → Value} {v : Value} (hd : decode mi.2.1 pc = .ok (.baload, 1)) (hc : h a = some (w, .inl (.boolean, N, f))) (h0 : 0 ≤ i) (h1 : i < N) (h2 : N < 2147483648) (hv : f i.toNat = v) (kk : WW κ mi d k n Q E (pc + 1) L (v :: st) h) : WW κ mi d k n Q E pc L (.int (J i) :: .ref a :: st) h := by
  intro H0 D p l e R s m args below meth c Z C F H locs cells slots ls hR hl hk hn hL hlen
  have k9 := kk H0 D p l e R s m args below meth c Z C F H locs cells slots ls hR hl hk hn hL hlen
  obtain ⟨hx, hfl, hb, hr, hml, hown, hnm, hlk, htab, hts, hG, -⟩ := C
  obtain ⟨g1, g2, g3⟩ := J_idx h0 h1 h2
  have qc : H[a]? = some (arrV (D.2 (.boolean)) N f) := (hR.2.2 a _ hc).1
  exact W.zald hx hb qc ((hG.2.1 (.boolean) (by decide)).1 N f) (fun q => by cases q) (by rw [arrV_size]; exact g1) (by rw [g2, arrV_read _ _ g3, hv]) rfl rfl hd k9
theorem r_dald {a N : Nat} {w : Bool} {i : Int} {f : Nat → Value} {v : Value} (hd : decode mi.2.1 pc = .ok (.daload, 1)) (hc : h a = some (w, .inl (.double, N, f))) (h0 : 0 ≤ i) (h1 : i < N) (h2 : N < 2147483648) (hv : f i.toNat = v) (kk : WW κ mi d k n Q E (pc + 1) L (v :: st) h) : WW κ mi d k n Q E pc L (.int (J i) :: .ref a :: st) h := by
  intro H0 D p l e R s m args below meth c Z C F H locs cells slots ls hR hl hk hn hL hlen
  have k9 := kk H0 D p l e R s m args below meth c Z C F H locs cells slots ls hR hl hk hn hL hlen
  obtain ⟨hx, hfl, hb, hr, hml, hown, hnm, hlk, htab, hts, hG, -⟩ := C
  obtain ⟨g1, g2, g3⟩ := J_idx h0 h1 h2
  have qc : H[a]? = some (arrV (D.2 (.double)) N f) := (hR.2.2 a _ hc).1
  exact W.dald hx hb qc ((hG.2.1 (.double) (by decide)).1 N f) (fun q => by cases q) (by rw [arrV_size]; exact g1) (by rw [g2, arrV_read _ _ g3, hv]) rfl rfl hd k9
theorem r_aald {a N : Nat} {w : Bool} {Cn : String} {i : Int} {f : Nat → Value} {v : Value} (hd : decode mi.2.1 pc = .ok (.aaload, 1)) (hc : h a = some (w, .inl (.object Cn, N, f))) (hty : FieldType.object Cn ∈ arTys) (h0 : 0 ≤ i) (h1 : i < N) (h2 : N < 2147483648) (hv : f i.toNat = v) (kk : WW κ mi d k n Q E (pc + 1) L (v :: st) h) : WW κ mi d k n Q E pc L (.int (J i) :: .ref a :: st) h := by
  intro H0 D p l e R s m args below meth c Z C F H locs cells slots ls hR hl hk hn hL hlen
  have k9 := kk H0 D p l e R s m args below meth c Z C F H locs cells slots ls hR hl hk hn hL hlen
  obtain ⟨hx, hfl, hb, hr, hml, hown, hnm, hlk, htab, hts, hG, -⟩ := C
  obtain ⟨g1, g2, g3⟩ := J_idx h0 h1 h2
  have qc : H[a]? = some (arrV (D.2 (.object Cn)) N f) := (hR.2.2 a _ hc).1
  exact W.aald hx hb qc ((hG.2.1 (.object Cn) hty).1 N f) rfl (fun q => by cases q) (by rw [arrV_size]; exact g1) (by rw [g2, arrV_read _ _ g3, hv]) rfl rfl hd k9
theorem r_iast {a N : Nat} {i : Int} {x : Int32} {f : Nat → Value} {c' : HC} (hd : decode mi.2.1 pc = .ok (.iastore, 1)) (hc : h a = some (true, .inl (.int, N, f))) (h0 : 0 ≤ i) (h1 : i < N) (h2 : N < 2147483648) (hf : (true, .inl (.int, N, updV f i.toNat (.int x))) = c') (kk : WW κ mi d k n Q E (pc + 1) L st (upA h a c')) : WW κ mi d k n Q E pc L (.int x :: .int (J i) :: .ref a :: st) h := by
  intro H0 D p l e0 R s m args below meth c Z C F H locs cells slots ls hR hl hk hn hL hlen
  have C0 := C
  obtain ⟨hx, hfl, hb, hr, hml, hown, hnm, hlk, htab, hts, hG, -⟩ := C
  obtain ⟨g1, g2, g3⟩ := J_idx h0 h1 h2
  obtain ⟨q1, hw⟩ := hR.2.2 a _ hc
  have qc : H[a]? = some (arrV (D.2 (.int)) N f) := q1
  refine W.iast hx hb qc ((hG.2.1 (.int) (by decide)).1 N f) (fun q => by cases q) (by rw [arrV_size]; exact g1) rfl rfl hd fun H1 e z oq => ?_
  rw [arrV_store, g2] at e
  refine kk H0 D p l e0 R s m args below meth c Z C0 F H1 _ cells slots ls (hR.put hc rfl z oq (by rw [← hf]; exact e)) (fun q hq => ?_) hk hn hL hlen
  rcases List.mem_append.mp hq with h9 | h9
  · exact hl q h9
  · rw [List.mem_singleton.mp h9]
    exact hw rfl
theorem r_last {a N : Nat} {i : Int} {x : Int64} {f : Nat → Value} {c' : HC} (hd : decode mi.2.1 pc = .ok (.lastore, 1)) (hc : h a = some (true, .inl (.long, N, f))) (h0 : 0 ≤ i) (h1 : i < N) (h2 : N < 2147483648) (hf : (true, .inl (.long, N, updV f i.toNat (.long x))) = c') (kk : WW κ mi d k n Q E (pc + 1) L st (upA h a c')) : WW κ mi d k n Q E pc L (.long x :: .int (J i) :: .ref a :: st) h := by
  intro H0 D p l e0 R s m args below meth c Z C F H locs cells slots ls hR hl hk hn hL hlen
  have C0 := C
  obtain ⟨hx, hfl, hb, hr, hml, hown, hnm, hlk, htab, hts, hG, -⟩ := C
  obtain ⟨g1, g2, g3⟩ := J_idx h0 h1 h2
  obtain ⟨q1, hw⟩ := hR.2.2 a _ hc
  have qc : H[a]? = some (arrV (D.2 (.long)) N f) := q1
  refine W.last hx hb qc ((hG.2.1 (.long) (by decide)).1 N f) (fun q => by cases q) (by rw [arrV_size]; exact g1) rfl rfl hd fun H1 e z oq => ?_
  rw [arrV_store, g2] at e
  refine kk H0 D p l e0 R s m args below meth c Z C0 F H1 _ cells slots ls (hR.put hc rfl z oq (by rw [← hf]; exact e)) (fun q hq => ?_) hk hn hL hlen
  rcases List.mem_append.mp hq with h9 | h9
  · exact hl q h9
  · rw [List.mem_singleton.mp h9]
    exact hw rfl
theorem r_cast {a N : Nat} {i : Int} {x : Int32} {f : Nat → Value} {c' : HC} (hd : decode mi.2.1 pc = .ok (.castore, 1)) (hc : h a = some (true, .inl (.char, N, f))) (h0 : 0 ≤ i) (h1 : i < N) (h2 : N < 2147483648) (hf : (true, .inl (.char, N, updV f i.toNat (narrow .char (.int x)))) = c') (kk : WW κ mi d k n Q E (pc + 1) L st (upA h a c')) : WW κ mi d k n Q E pc L (.int x :: .int (J i) :: .ref a :: st) h := by
  intro H0 D p l e0 R s m args below meth c Z C F H locs cells slots ls hR hl hk hn hL hlen
  have C0 := C
  obtain ⟨hx, hfl, hb, hr, hml, hown, hnm, hlk, htab, hts, hG, -⟩ := C
  obtain ⟨g1, g2, g3⟩ := J_idx h0 h1 h2
  obtain ⟨q1, hw⟩ := hR.2.2 a _ hc
  have qc : H[a]? = some (arrV (D.2 (.char)) N f) := q1
  refine W.cast hx hb qc ((hG.2.1 (.char) (by decide)).1 N f) (fun q => by cases q) (by rw [arrV_size]; exact g1) rfl rfl hd fun H1 e z oq => ?_
  rw [arrV_store, g2] at e
  refine kk H0 D p l e0 R s m args below meth c Z C0 F H1 _ cells slots ls (hR.put hc rfl z oq (by rw [← hf]; exact e)) (fun q hq => ?_) hk hn hL hlen
  rcases List.mem_append.mp hq with h9 | h9
  · exact hl q h9
  · rw [List.mem_singleton.mp h9]
    exact hw rfl
theorem r_bast {a N : Nat} {i : Int} {x : Int32} {f : Nat → Value} {c' : HC} (hd : decode mi.2.1 pc = .ok (.bastore, 1)) (hc : h a = some (true, .inl (.byte, N, f))) (h0 : 0 ≤ i) (h1 : i < N) (h2 : N < 2147483648) (hf : (true, .inl (.byte, N, updV f i.toNat (narrow .byte (.int x)))) = c') (kk : WW κ mi d k n Q E (pc + 1) L st (upA h a c')) : WW κ mi d k n Q E pc L (.int x :: .int (J i) :: .ref a :: st) h := by
  intro H0 D p l e0 R s m args below meth c Z C F H locs cells slots ls hR hl hk hn hL hlen
  have C0 := C
  obtain ⟨hx, hfl, hb, hr, hml, hown, hnm, hlk, htab, hts, hG, -⟩ := C
  obtain ⟨g1, g2, g3⟩ := J_idx h0 h1 h2
  obtain ⟨q1, hw⟩ := hR.2.2 a _ hc
  have qc : H[a]? = some (arrV (D.2 (.byte)) N f) := q1
  refine W.bast hx hb qc ((hG.2.1 (.byte) (by decide)).1 N f) (fun q => by cases q) (by rw [arrV_size]; exact g1) rfl rfl hd fun H1 e z oq => ?_
  rw [arrV_store, g2] at e
  refine kk H0 D p l e0 R s m args below meth c Z C0 F H1 _ cells slots ls (hR.put hc rfl z oq (by rw [← hf]; exact e)) (fun q hq => ?_) hk hn hL hlen
  rcases List.mem_append.mp hq with h9 | h9
  · exact hl q h9
  · rw [List.mem_singleton.mp h9]
    exact hw rfl
theorem r_zast {a N : Nat} {i : Int} {x : Int32} {f : Nat → Value} {c' : HC} (hd : decode mi.2.1 pc = .ok (.bastore, 1)) (hc : h a = some (true, .inl (.boolean, N, f))) (h0 : 0 ≤ i) (h1 : i < N) (h2 : N < 2147483648) (hf : (true, .inl (.boolean, N, updV f i.toNat (narrow .boolean (.int x)))) = c') (kk : WW κ mi d k n Q E (pc + 1) L st (upA h a c')) : WW κ mi d k n Q E pc L (.int x :: .int (J i) :: .ref a :: st) h := by
  intro H0 D p l e0 R s m args below meth c Z C F H locs cells slots ls hR hl hk hn hL hlen
  have C0 := C
  obtain ⟨hx, hfl, hb, hr, hml, hown, hnm, hlk, htab, hts, hG, -⟩ := C
  obtain ⟨g1, g2, g3⟩ := J_idx h0 h1 h2
  obtain ⟨q1, hw⟩ := hR.2.2 a _ hc
  have qc : H[a]? = some (arrV (D.2 (.boolean)) N f) := q1
  refine W.zast hx hb qc ((hG.2.1 (.boolean) (by decide)).1 N f) (fun q => by cases q) (by rw [arrV_size]; exact g1) rfl rfl hd fun H1 e z oq => ?_
  rw [arrV_store, g2] at e
  refine kk H0 D p l e0 R s m args below meth c Z C0 F H1 _ cells slots ls (hR.put hc rfl z oq (by rw [← hf]; exact e)) (fun q hq => ?_) hk hn hL hlen
  rcases List.mem_append.mp hq with h9 | h9
  · exact hl q h9
  · rw [List.mem_singleton.mp h9]
    exact hw rfl
theorem r_dast {a N : Nat} {i : Int} {x : UInt64} {f : Nat → Value} {c' : HC} (hd : decode mi.2.1 pc = .ok (.dastore, 1)) (hc : h a = some (true, .inl (.double, N, f))) (h0 : 0 ≤ i) (h1 : i < N) (h2 : N < 2147483648) (hf : (true, .inl (.double, N, updV f i.toNat (.double x))) = c') (kk : WW κ mi d k n Q E (pc + 1) L st (upA h a c')) : WW κ mi d k n Q E pc L (.double x :: .int (J i) :: .ref a :: st) h := by
  intro H0 D p l e0 R s m args below meth c Z C F H locs cells slots ls hR hl hk hn hL hlen
  have C0 := C
  obtain ⟨hx, hfl, hb, hr, hml, hown, hnm, hlk, htab, hts, hG, -⟩ := C
  obtain ⟨g1, g2, g3⟩ := J_idx h0 h1 h2
  obtain ⟨q1, hw⟩ := hR.2.2 a _ hc
  have qc : H[a]? = some (arrV (D.2 (.double)) N f) := q1
  refine W.dast hx hb qc ((hG.2.1 (.double) (by decide)).1 N f) (fun q => by cases q) (by rw [arrV_size]; exact g1) rfl rfl hd fun H1 e z oq => ?_
  rw [arrV_store, g2] at e
  refine kk H0 D p l e0 R s m args below meth c Z C0 F H1 _ cells slots ls (hR.put hc rfl z oq (by rw [← hf]; exact e)) (fun q hq => ?_) hk hn hL hlen
  rcases List.mem_append.mp hq with h9 | h9
  · exact hl q h9
  · rw [List.mem_singleton.mp h9]
    exact hw rfl
theorem r_aast {a N v : Nat} {w2 : Bool} {kv N2 : Nat} {T2 : u_T} {fs : List Value} {i : Int} {Cn : String} {f : Nat → Value} {c' : HC} (hd : decode mi.2.1 pc = .ok (.aastore, 1)) (hc : h a = some (true, .inl (.object Cn, N, f))) (hty : FieldType.object Cn ∈ arTys) (hv : h v = some (w2, .inr (kv, fs))) (hkv : vwCl[kv]? = some (Cn, T2, N2)) (h0 : 0 ≤ i) (h1 : i < N) (h2 : N < 2147483648) (hf : (true, .inl (.object Cn, N, updV f i.toNat (.ref v))) = c') (kk : WW κ mi d k n Q E (pc + 1) L st (upA h a c')) : WW κ mi d k n Q E pc L (.ref v :: .int (J i) :: .ref a :: st) h := by
  intro H0 D p l e0 R s m args below meth c Z C F H locs cells slots ls hR hl hk hn hL hlen
  have C0 := C
  obtain ⟨hx, hfl, hb, hr, hml, hown, hnm, hlk, htab, hts, hG, -⟩ := C
  obtain ⟨g1, g2, g3⟩ := J_idx h0 h1 h2
  obtain ⟨q1, hw⟩ := hR.2.2 a _ hc
  obtain ⟨⟨r', hr', cellV, m1, m2, m3, -⟩, -⟩ := hR.2.2 v _ hv
  cases hr'.symm.trans hkv
  have hcls := (hG.1.1 kv _ hkv).2
  obtain ⟨kA, comp, k1, k2, k3, -⟩ := (hG.2.1 _ hty).2
  have hcomp : comp = D.1.1 kv := Option.some.inj (k3.symm.trans hcls.1)
  subst hcomp
  obtain ⟨kC, hkC, -⟩ := id hcls.2
  refine W.aast hx hb q1 (fun q h => by cases h) (fun h => by cases h) k1 k2 rfl hkC ⟨fun z9 => g1 (Or.inl z9), by rw [arrV_size, g2]; exact g3⟩ m1 (fun q h => by rw [m3] at h; cases h) (by rw [m2]; exact hkC) (by rw [m2]; exact va_assign hcls) rfl rfl hd fun H1 e z oq => ?_
  rw [arrV_store, g2] at e
  refine kk H0 D p l e0 R s m args below meth c Z C0 F H1 _ cells slots ls (hR.put hc rfl z oq (by rw [← hf]; exact e)) (fun q hq => ?_) hk hn hL hlen
  rcases List.mem_append.mp hq with h9 | h9
  · exact hl q h9
  · rw [List.mem_singleton.mp h9]
    exact hw rfl
theorem r_iaJ {a N : Nat} {w : Bool} {i : Int} {g : Int → Int} (hd : decode mi.2.1 pc = .ok (.iaload, 1)) (hc : h a = some (w, .inl (.int, N, iv g))) (h0 : 0 ≤ i) (h1 : i < N) (h2 : N < 2147483648) (kk : WW κ mi d k n Q E (pc + 1) L (.int (J (g i)) :: st) h) : WW κ mi d k n Q E pc L (.int (J i) :: .ref a :: st) h :=
  r_iald hd hc h0 h1 h2 (by show Value.int (J (g (i.toNat : Int))) = _; rw [Int.toNat_of_nonneg h0]) kk
theorem r_isJ {a N : Nat} {i v : Int} {g : Int → Int} (hd : decode mi.2.1 pc = .ok (.iastore, 1)) (hc : h a = some (true, .inl (.int, N, iv g))) (h0 : 0 ≤ i) (h1 : i < N) (h2 : N < 2147483648) (kk : WW κ mi d k n Q E (pc + 1) L st (upA h a (true, .inl (.int, N, iv (upz g i v))))) : WW κ mi d k n Q E pc L (.int (J v) :: .int (J i) :: .ref a :: st) h :=
  r_iast hd hc h0 h1 h2 (by rw [iv_up h0]) kk
theorem r_aaJ {a N : Nat} {w : Bool} {i : Int} {Cn : String} {g : Int → Option Nat} {v : Nat} (hd : decode mi.2.1 pc = .ok (.aaload, 1)) (hc : h a = some (w, .inl (.object Cn, N, rv g))) (hty : FieldType.object Cn ∈ arTys) (h0 : 0 ≤ i) (h1 : i < N) (h2 : N < 2147483648) (hv : g i = some v) (kk : WW κ mi d k n Q E (pc + 1) L (.ref v :: st) h) : WW κ mi d k n Q E pc L (.int (J i) :: .ref a :: st) h :=
  r_aald hd hc hty h0 h1 h2 (by show va_rf (g (i.toNat : Int)) = _; rw [Int.toNat_of_nonneg h0, hv]; rfl) kk
theorem r_asJ {a N v : Nat} {w2 : Bool} {kv N2 : Nat} {T2 : u_T} {fs : List Value} {i : Int} {Cn : String} {g : Int → Option Nat} (hd : decode mi.2.1 pc = .ok (.aastore, 1)) (hc : h a = some (true, .inl (.object Cn, N, rv g))) (hty : FieldType.object Cn ∈ arTys) (hv : h v = some (w2, .inr (kv, fs))) (hkv : vwCl[kv]? = some (Cn, T2, N2)) (h0 : 0 ≤ i) (h1 : i < N) (h2 : N < 2147483648) (kk : WW κ mi d k n Q E (pc + 1) L st (upA h a (true, .inl (.object Cn, N, rv (upz g i (some v)))))) : WW κ mi d k n Q E pc L (.ref v :: .int (J i) :: .ref a :: st) h :=
  r_aast hd hc hty hv hkv h0 h1 h2 (by rw [show (Value.ref v) = va_rf (some v) from rfl, rv_up h0]) kk
/-! ends -/
theorem r_end {v : Option Value} {st' : List Value} {i : Instr} (hd : decode mi.2.1 pc = .ok (i, 1)) (hok : rOK mi.2.2.2.1 v i) (hs : v.toList = st) (hQ : Q v h) : WW κ mi d k n Q E pc L st h := by
  intro H0 D p l e R s m args below meth c Z C F H locs cells slots ls hR hl hk hn hL hlen
  rw [← hs]
  exact F.1 v h H locs cells slots ls pc i hQ hR hl (by omega) (by omega) hd hok
theorem r_ret (hd : decode mi.2.1 pc = .ok (.return_, 1)) (hr : mi.2.2.2.1 = none) (hQ : Q none h) : WW κ mi d k n Q E pc L [] h := r_end (st' := []) hd (Or.inl ⟨hr, rfl, rfl⟩) rfl hQ
theorem r_iret {x : Int32} (hd : decode mi.2.1 pc = .ok (.ireturn, 1)) {ty : FieldType} (hr : mi.2.2.2.1 = some ty) (hnr : narrow ty (.int x) = .int x) (hQ : Q (some (.int x)) h) : WW κ mi d k n Q E pc L [.int x] h := r_end (st' := []) hd (Or.inr (Or.inl ⟨ty, x, hr, hnr, rfl, rfl⟩)) rfl hQ
theorem r_dret {x : UInt64} (hd : decode mi.2.1 pc = .ok (.dreturn, 1)) (hr : mi.2.2.2.1 = some .double) (hQ : Q (some (.double x)) h) : WW κ mi d k n Q E pc L [.double x] h := r_end (st' := []) hd (Or.inr (Or.inr (Or.inl ⟨x, hr, rfl, rfl⟩))) rfl hQ
theorem r_aret {a : Nat} {nm : String} (hd : decode mi.2.1 pc = .ok (.areturn, 1)) (hr : mi.2.2.2.1 = some (.object nm)) (hQ : Q (some (.ref a)) h) : WW κ mi d k n Q E pc L [.ref a] h := r_end (st' := []) hd (Or.inr (Or.inr (Or.inr ⟨_, _, hr, Or.inl ⟨nm, rfl⟩, Or.inr ⟨a, rfl⟩, rfl, rfl⟩))) rfl hQ
theorem r_aretA {a : Nat} {t : FieldType} (hd : decode mi.2.1 pc = .ok (.areturn, 1)) (hr : mi.2.2.2.1 = some (.array t)) (hQ : Q (some (.ref a)) h) : WW κ mi d k n Q E pc L [.ref a] h := r_end (st' := []) hd (Or.inr (Or.inr (Or.inr ⟨_, _, hr, Or.inr ⟨t, rfl⟩, Or.inr ⟨a, rfl⟩, rfl, rfl⟩))) rfl hQ
theorem r_aretN {nm : String} (hd : decode mi.2.1 pc = .ok (.areturn, 1)) (hr : mi.2.2.2.1 = some (.object nm)) (hQ : Q (some .null) h) : WW κ mi d k n Q E pc L [.null] h := r_end (st' := []) hd (Or.inr (Or.inr (Or.inr ⟨_, _, hr, Or.inl ⟨nm, rfl⟩, Or.inl rfl, rfl, rfl⟩))) rfl hQ
theorem nar_int (x : Int32) : narrow .int (.int x) = .int x := rfl
theorem nar_B (b : Bool) : narrow .boolean (.int (J (bI b))) = .int (J (bI b)) := by cases b <;> decide +kernel
theorem fit_B (b : Bool) : fits .boolean (.int (J (bI b))) = true := by cases b <;> decide +kernel
theorem r_throw {E' : String} (hh : mi.2.2.2.2 = []) (hd6 : 6 ≤ d) (hi : isThrow mi.2.1 mi.1.cls pc E') (h1 : 1 ≤ k) (h2 : 6 ≤ n) (hrest : (st.map fun v => v.category).sum ≤ 8) (hE : E E' h) : WW κ mi d k n Q E pc L st h := by
  intro H0 D p l e R s m args below meth c Z C F H locs cells slots ls hR hl hk hn hL hlen
  have hml := C.2.2.2.2.1
  exact F.2.2 E' h H locs cells slots ls pc st hE hR hl (by omega) (by omega) hh (by rw [hL.1, hlen, hml]) hd6 hrest hi
/-- an int of the constant pool -/
theorem r_ldc {idx : Nat} {v : Int32} {z : Int} (hd : decode mi.2.1 pc = .ok (.ldc idx, 2)) (hw : Cond.constant mi.1.cls idx v ∈ BIG) (hv : v = J z) (kk : WW κ mi d k n Q E (pc + 2) L (.int (J z) :: st) h) : WW κ mi d k n Q E pc L st h := by
  intro H0 D p l e R s m args below meth c Z C F H locs cells slots ls hR hl hk hn hL hlen
  exact lv_ldc C.1 C.2.2.1 C.2.2.2.2.2.1 (C.2.2.2.2.2.2.2.2.2.1 _ hw) hd (by rw [hv]; exact kk H0 D p l e R s m args below meth c Z C F H locs cells slots ls hR hl hk hn hL hlen)
theorem r_ldcw {idx : Nat} {v : Int32} {z : Int} (hd : decode mi.2.1 pc = .ok (.ldc_w idx, 3)) (hw : Cond.constant mi.1.cls idx v ∈ BIG) (hv : v = J z) (kk : WW κ mi d k n Q E (pc + 3) L (.int (J z) :: st) h) : WW κ mi d k n Q E pc L st h := by
  intro H0 D p l e R s m args below meth c Z C F H locs cells slots ls hR hl hk hn hL hlen
  exact lv_ldcw C.1 C.2.2.1 C.2.2.2.2.2.1 (C.2.2.2.2.2.2.2.2.2.1 _ hw) hd (by rw [hv]; exact kk H0 D p l e R s m args below meth c Z C F H locs cells slots ls hR hl hk hn hL hlen)
/-- String.COMPACT_STRINGS -/
theorem r_compact {idx : Nat} {ref : String} (hd : decode mi.2.1 pc = .ok (.getstatic idx, 3)) (hw : Cond.fieldLink mi.1.cls idx ref "COMPACT_STRINGS" "Z" ∈ BIG) (hs : ref = "java/lang/String" ∨ Cond.sameField ref "java/lang/String" "COMPACT_STRINGS" "Z" ∈ BIG) (kk : WW κ mi d k n Q E (pc + 3) L (.int (J (bI true)) :: st) h) : WW κ mi d k n Q E pc L st h := by
  intro H0 D p l e R s m args below meth c Z C F H locs cells slots ls hR hl hk hn hL hlen
  have k9 := kk H0 D p l e R s m args below meth c Z C F H locs cells slots ls hR hl hk hn hL hlen
  obtain ⟨hx, hfl, hb, hr, hml, hown, hnm, hlk, htab, hts, hG, -⟩ := C
  obtain ⟨cf, kf, fi, f, a, cell, h1, h2, h3, h4, h5, h6, h7, h8⟩ := hG.2.2.2.2.1
  exact W.gets hx hb hown (hts _ hw) (same_of hts hs _ h1) h2 h3 h4 (by rw [hR.2.1 a (Array.getElem?_eq_some_iff.mp h5).1]; exact h5) (fun e => by rw [e] at h6; cases h6) h7 rfl hd (by
    have e : J (bI true) = (1 : Int32) := by decide
    rw [e] at k9
    exact k9)
end HEAP
