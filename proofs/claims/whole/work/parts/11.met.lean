/-! ===== contracts out of walks, and the ends ===== -/
theorem LL_of_has {ls : Array Slot} {L : List (Option Value)} {l : List (Nat × Value)} (h : lv_has ls L.length l) (hm : ∀ (k : Nat) (v : Value), L[k]? = some (some v) → (k, v) ∈ l) : LL ls L := ⟨h.1, h.2.1, fun k v hk => h.2.2 (k, v) (hm k v hk)⟩
def asL (L : List (Option Value)) : List (Nat × Value) := (List.range L.length).filterMap (fun k => match L[k]? with | some (some v) => some (k, v) | _ => none)
theorem asL_mem {L : List (Option Value)} {k : Nat} {v : Value} : (k, v) ∈ asL L ↔ L[k]? = some (some v) := by
  unfold asL
  rw [List.mem_filterMap]
  constructor
  · rintro ⟨j, -, hj⟩
    split at hj
    · rename_i w hw
      cases hj
      exact hw
    · cases hj
  · intro h
    refine ⟨k, List.mem_range.mpr (List.getElem?_eq_some_iff.mp h).1, ?_⟩
    rw [h]
theorem LL.has {ls : Array Slot} {L : List (Option Value)} (h : LL ls L) : lv_has ls L.length (asL L) := ⟨h.1, h.2.1, fun q hq => h.2.2 q.1 q.2 (asL_mem.mp hq)⟩
theorem lv_args_mem : ∀ (vs : List Value) (i k : Nat) (v : Value), (∀ w ∈ vs, w.category = 1) → vs[k]? = some v → (i + k, v) ∈ lv_args i vs
  | [], i, k, v, _, h => by simp at h
  | w :: vs, i, 0, v, hc, h => by
    have e : w = v := by simpa using h
    subst e
    rw [lv_args]
    exact List.mem_cons_self
  | w :: vs, i, k + 1, v, hc, h => by
    have h1 : vs[k]? = some v := by simpa using h
    have h2 : w.category = 1 := hc w List.mem_cons_self
    have := lv_args_mem vs (i + 1) k v (fun x hx => hc x (List.mem_cons_of_mem _ hx)) h1
    rw [lv_args, if_neg (by omega)]
    have e : i + (k + 1) = i + 1 + k := by omega
    rw [e]
    exact List.mem_cons_of_mem _ this
theorem lg_sl_len : ∀ (vs : List Value), (∀ w ∈ vs, w.category = 1) → (lg_sl vs).length = vs.length
  | [], _ => rfl
  | w :: vs, h => by
    have h1 : w.category = 1 := h w List.mem_cons_self
    have h2 := lg_sl_len vs (fun x hx => h x (List.mem_cons_of_mem _ hx))
    unfold lg_sl at h2 ⊢
    rw [List.flatMap_cons, if_neg (by omega)]
    simp [h2]
theorem LL_entry (vs : List Value) {n : Nat} (hc : ∀ w ∈ vs, w.category = 1) (hn : vs.length ≤ n) : LL ((lg_sl vs ++ List.replicate (n - (lg_sl vs).length) Slot.unset).toArray) (vs.map some ++ List.replicate (n - vs.length) none) := by
  have h := lv_entry vs (n := n) (by rw [lg_sl_len vs hc]; exact hn)
  refine LL_of_has (l := lv_args 0 vs) ?_ fun k v hk => ?_
  · rw [show (vs.map some ++ List.replicate (n - vs.length) (none : Option Value)).length = n by simp; omega]
    exact h
  · have hk2 : k < vs.length := by
      by_cases e : k < vs.length
      · exact e
      · rw [List.getElem?_append_right (by simpa using Nat.not_lt.mp e)] at hk
        rw [List.getElem?_replicate] at hk
        split at hk <;> cases hk
    rw [List.getElem?_append_left (by simpa using hk2), List.getElem?_map] at hk
    have := lv_args_mem vs 0 k v hc (by
      cases e : vs[k]? with
      | none => rw [e] at hk; cases hk
      | some x => rw [e] at hk; cases hk; rfl)
    rwa [Nat.zero_add] at this
section ENDS
variable {κ : KP} {mi : MI} {d : Nat} {H0 : Heap} {D : HD} {p : Program} {l : Launch} {e : Env} {s : State} {m : MethodId} {args : Array Value} {below : List Frame} {meth : Method} {c : Code} {Q : Option Value → AH → Prop} {E : String → AH → Prop} {K N : Nat}
abbrev QcOf (H0 : Heap) (D : HD) (Q : Option Value → AH → Prop) : Array Value → State → Outcome → State → Prop := fun _ _ o t => ∃ v h', o = .returned v ∧ Q v h' ∧ Rl H0 D h' t.heap
abbrev XcOf (H0 : Heap) (D : HD) (E : String → AH → Prop) : String → State → State → Prop := fun E' _ t => ∃ h', E E' h' ∧ Rl H0 D h' t.heap
theorem fn_met (C : CT κ mi d H0 D p l (rmD d K N) s m args meth c) : FN mi d H0 D p l e (rmD d K N) s m args below meth c (vx_MQ below (QcOf H0 D Q) (XcOf H0 D E) args s K N (fun q => H0.size ≤ q)) Q E := by
  obtain ⟨hx, hf, hb, hr, hml, hown, hnm, hlocks, htab, hts, hG, hd, hlo, hz, ho⟩ := C
  refine ⟨?_, ?_, ?_⟩
  · intro v h' H locs cells slots ls pc i hQ hR hl hc hs hdg hok
    refine W.widen (k := K) (n := N) hc hs (vx_ret ?_)
    rcases hok with ⟨r1, rfl, rfl⟩ | ⟨ty, x, r1, r2, rfl, rfl⟩ | ⟨x, r1, rfl, rfl⟩ | ⟨rt, w, r1, r2, r3, rfl, rfl⟩
    · exact W.vret hx hb (hr.trans r1) (fun t ht _ => ⟨none, h', rfl, hQ, by rw [ht]; exact hR⟩) hl hdg hlocks
    · exact W.zret hx hb (hr.trans r1) r2 (fun t ht _ => ⟨_, h', rfl, hQ, by rw [ht]; exact hR⟩) hl hdg hlocks
    · exact W.dret hx hb (hr.trans r1) (fun t ht _ => ⟨_, h', rfl, hQ, by rw [ht]; exact hR⟩) hl hdg hlocks
    · exact W.aret hx hb (hr.trans r1) r2 r3 (fun t ht _ => ⟨_, h', rfl, hQ, by rw [ht]; exact hR⟩) hl hdg hlocks
  · intro E' h' H locs cells slots ls pc rest q ce hE hR hl hc hs hh hce hcv hcl
    refine vx_out (E := E') (fun x hx => ?_) hlocks hce hcv hcl (fun t ht _ => ⟨h', hE, by rw [ht]; exact hR⟩) hl hc hs
    rw [htab, hh] at hx
    cases hx
  · intro E' h' H locs cells slots ls pc rest hE hR hl hc hs hh hsz hd6 hrest ⟨ik, ic, d0, d3, d4, d7, ⟨hk, hini⟩, hfit, names, hnl, hnames, hat⟩
    intro T hT X
    obtain ⟨f1, f2⟩ := vx_frame X.same
    have f1 : s.heap.size ≤ H.size := by rw [← hT]; exact f1
    have hS : va_S (fun q => H0.size ≤ q) s.heap H locs := ⟨f1, fun q h1 h2 => by
      have h3 : q < H0.size := Nat.not_le.mp h2
      rw [hR.2.1 q h3, ho q h3], hl⟩
    have kp : ∀ a : Nat, a < H0.size → ¬ H0.size ≤ a → s.heap[a]? = H0[a]? := fun a h1 _ => ho a h1
    obtain ⟨-, -, -, -, -, g6, g7, -, -, -, g11, -⟩ := hG
    have ok : ∀ w ∈ BIG, vx_ot w = true := fun w hw => by
      have := (List.mem_filter.mp hw).2
      unfold vx_ot
      rw [this, Bool.or_true]
    refine vx_throw0 hx hb (st_off hf) (A := fun q => H0.size ≤ q) hown hfit hnames (hts _ hk) (hts _ hini) (fun w hw => (hat w hw).elim (fun z => hts w z) (fun z => va_Nw.use (kew_tab z) (g11 w z))) (fun w hw => ?_) (g6.kept kp) (g7.kept kp) hS hsz d0 d3 d4 d7 (fun x hx9 => ?_) ?_ ?_ hc hs hlocks
      (fun t _ hz9 hq9 => ⟨h', hE, hR.grow hz9 hq9⟩) hl hc hs T hT X
    · rcases List.mem_cons.mp hw with rfl | hw
      · exact ok _ hk
      rcases List.mem_cons.mp hw with rfl | hw
      · exact ok _ hini
      · rcases hat w hw with z | z
        · exact ok _ z
        · unfold vx_ot
          rw [kew_tab z, Bool.true_or]
    · rw [htab, hh] at hx9
      cases hx9
    · show names.length + 3 < d
      omega
    · show _ ≤ 46 * d
      omega
theorem ct_of (hex : p.tables.exec = Jvm.exec) (hf : l.flags = flags0) (hb : c.code = mi.2.1) (hr : meth.sig.returnType = mi.2.2.2.1) (hml : c.maxLocals = mi.2.2.1) (hown : s.vm.findClass mi.1.cls = some m.cls) (hnm : meth.name = mi.1.name) (hlocks : meth.locks = false) (htab : c.exceptionTable.toList = tableOf mi.2.2.2.2) (hts : ∀ w ∈ BIG, w.before args s = true) (hG : Gk κ H0 D s) {h : AH} (hR : Rl H0 D h s.heap) : CT κ mi d H0 D p l (rmD d K N) s m args meth c :=
  ⟨hex, hf, hb, hr, hml, hown, hnm, hlocks, htab, hts, hG, Nat.le_refl _, Nat.le_refl _, hR.1, hR.2.1⟩
/-- a contract out of the walk of a body without handlers -/
theorem mm_of {av : List Value} {h : AH} {L : List (Option Value)} (hp : plainName mi.1.cls = true) (hh : mi.2.2.2.2 = []) (hcat : (av.all fun v => v.category == 1) = true) (hn : av.length ≤ mi.2.2.1) (hL : av.map some ++ List.replicate (mi.2.2.1 - av.length) none = L) (body : WW κ mi d K N Q E 0 L [] h) : MM κ mi d K N av h Q E := by
  intro l H0 D hf
  have hhd : hdOf mi = .code mi.1 mi.2.1 mi.2.2.1 mi.2.2.2.1 := by
    obtain ⟨y, cc, mL, ret, hx⟩ := mi
    cases hh
    rfl
  refine vx_ofW (cc := mi.2.1) (maxL := mi.2.2.1) (ret := mi.2.2.2.1) (ws' := BIG) hp (by rw [hhd]) ?_
  intro p e s m args below meth c s₁ B hml htab hv
  obtain ⟨rfl, hG, hR⟩ := hv
  have hts0 := atoms_spec (ws := hdOf mi :: BIG) B.pre
  have C : CT κ mi d H0 D p l (rmD d K N) s m av.toArray meth c := ct_of B.exec hf B.bytes B.returns hml (findClass_of_methodNamed B.named) (name_of_methodNamed B.named B.method).1 B.notSynchronized (by
    rw [hh]
    exact List.eq_nil_iff_forall_not_mem.mpr fun x hx => htab x hx) (fun w hw => hts0 w (List.mem_cons_of_mem _ hw)) hG hR
  have hc1 : ∀ w ∈ av, w.category = 1 := fun w hw => by simpa using List.all_eq_true.mp hcat w hw
  rw [lg_entry_eq]
  subst hL
  exact body H0 D p l e _ s m _ below meth c _ C (fn_met C) s.heap [] 0 0 _ hR (fun _ h => nomatch h) (Nat.le_of_eq (Nat.zero_add _)) (Nat.le_of_eq (Nat.zero_add _)) (LL_entry av hc1 hn) (by simp; omega)
/-- .. of a body with handlers -/
theorem mm_ofH {av : List Value} {h : AH} {L : List (Option Value)} (hp : plainName mi.1.cls = true) (hhd : hdOf mi = .codeWith mi.1 mi.2.1 mi.2.2.1 mi.2.2.2.1 mi.2.2.2.2) (hcat : (av.all fun v => v.category == 1) = true) (hn : av.length ≤ mi.2.2.1) (hL : av.map some ++ List.replicate (mi.2.2.1 - av.length) none = L) (body : WW κ mi d K N Q E 0 L [] h) : MM κ mi d K N av h Q E := by
  intro l H0 D hf
  refine vx_ofWH (cc := mi.2.1) (maxL := mi.2.2.1) (ret := mi.2.2.2.1) (hh := mi.2.2.2.2) (ws' := BIG) hp (by rw [hhd]) ?_
  intro p e s m args below meth c s₁ B hml hv
  obtain ⟨rfl, hG, hR⟩ := hv
  have hts0 := atoms_spec (ws := hdOf mi :: BIG) B.pre
  have C : CT κ mi d H0 D p l (rmD d K N) s m av.toArray meth c := ct_of B.exec hf B.bytes B.returns hml (findClass_of_methodNamed B.named) (name_of_methodNamed B.named B.method).1 B.notSynchronized (vx_table (x := mi.1) B (by
    have := hts0 (hdOf mi) List.mem_cons_self
    rw [hhd] at this
    exact this)) (fun w hw => hts0 w (List.mem_cons_of_mem _ hw)) hG hR
  have hc1 : ∀ w ∈ av, w.category = 1 := fun w hw => by simpa using List.all_eq_true.mp hcat w hw
  rw [lg_entry_eq]
  subst hL
  exact body H0 D p l e _ s m _ below meth c _ C (fn_met C) s.heap [] 0 0 _ hR (fun _ h => nomatch h) (Nat.le_of_eq (Nat.zero_add _)) (Nat.le_of_eq (Nat.zero_add _)) (LL_entry av hc1 hn) (by simp; omega)
end ENDS
