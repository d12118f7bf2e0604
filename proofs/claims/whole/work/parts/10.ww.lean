/-! ===== the abstract heap, and a judgement over it: a frame's walk without machine, tables, room and frame rule ===== -/
/-- a cell: may it be written; an array by its type, length, contents; an object by its class's place in vwCl, its fields -/
def upA (h : AH) (a : Nat) (c : HC) : AH := fun q => if q = a then some c else h q
theorem upA_same {h : AH} {a : Nat} {c : HC} : upA h a c a = some c := if_pos rfl
theorem upA_ne {h : AH} {a b : Nat} {c : HC} (hn : b ≠ a) : upA h a c b = h b := if_neg hn
def cAt (D : HD) (a : Nat) (c : HC) (H : Heap) : Prop := match c.2 with
  | .inl x => H[a]? = some (arrV (D.2 x.1) x.2.1 x.2.2)
  | .inr o => ∃ r : vw_C, vwCl[o.1]? = some r ∧ t_OB a (D.1.1 o.1) r.2.2 (D.1.2 o.1) H (vp_V o.2)
def Rl (H0 : Heap) (D : HD) (h : AH) (H : Heap) : Prop := H0.size ≤ H.size ∧ (∀ q : Nat, q < H0.size → H[q]? = H0[q]?) ∧ ∀ (a : Nat) (c : HC), h a = some c → cAt D a c H ∧ (c.1 = true → H0.size ≤ a)
theorem cAt.kept {D : HD} {a : Nat} {c : HC} {H H1 : Heap} (h : cAt D a c H) (hq : H1[a]? = H[a]?) : cAt D a c H1 := by
  obtain ⟨w, x | o⟩ := c
  · exact hq.trans h
  · obtain ⟨r, h1, h2⟩ := h
    exact ⟨r, h1, h2.kept hq⟩
theorem cAt.lt {D : HD} {a : Nat} {c : HC} {H : Heap} (h : cAt D a c H) : a < H.size := by
  obtain ⟨w, x | o⟩ := c
  · exact (Array.getElem?_eq_some_iff.mp h).1
  · obtain ⟨r, h1, cell, h2, -⟩ := h
    exact (Array.getElem?_eq_some_iff.mp h2).1
/-- a cell is written -/
theorem Rl.put {H0 : Heap} {D : HD} {h : AH} {H H1 : Heap} {a : Nat} {c0 c : HC} (R : Rl H0 D h H) (ha : h a = some c0) (hw : c0.1 = true) (hs : H1.size = H.size) (oq : ∀ q : Nat, q ≠ a → H1[q]? = H[q]?) (hc : cAt D a c H1) : Rl H0 D (upA h a c) H1 := by
  obtain ⟨r1, r2, r3⟩ := R
  have hb : H0.size ≤ a := (r3 a c0 ha).2 hw
  refine ⟨by rw [hs]; exact r1, fun q hq => by rw [oq q (by omega)]; exact r2 q hq, fun b d hd => ?_⟩
  by_cases e : b = a
  · subst e
    rw [upA_same] at hd
    cases hd
    exact ⟨hc, fun _ => hb⟩
  · rw [upA_ne e] at hd
    obtain ⟨k1, k2⟩ := r3 b d hd
    exact ⟨k1.kept (oq b e), k2⟩
/-- a cell comes -/
theorem Rl.new {H0 : Heap} {D : HD} {h : AH} {H H1 : Heap} {c : HC} (R : Rl H0 D h H) (hs : H1.size = H.size + 1) (oq : ∀ q : Nat, q < H.size → H1[q]? = H[q]?) (hc : cAt D H.size c H1) : Rl H0 D (upA h H.size c) H1 := by
  obtain ⟨r1, r2, r3⟩ := R
  refine ⟨by omega, fun q hq => by rw [oq q (by omega)]; exact r2 q hq, fun b d hd => ?_⟩
  by_cases e : b = H.size
  · subst e
    rw [upA_same] at hd
    cases hd
    exact ⟨hc, fun _ => r1⟩
  · rw [upA_ne e] at hd
    obtain ⟨k1, k2⟩ := r3 b d hd
    exact ⟨k1.kept (oq b k1.lt), k2⟩
theorem Rl.fresh {H0 : Heap} {D : HD} {h : AH} {H : Heap} (R : Rl H0 D h H) : h H.size = none := by
  cases e : h H.size with
  | none => rfl
  | some c => exact absurd (R.2.2 _ c e).1.lt (Nat.lt_irrefl _)
/-- more cells than are told -/
theorem Rl.grow {H0 : Heap} {D : HD} {h : AH} {H H1 : Heap} (R : Rl H0 D h H) (hs : H.size ≤ H1.size) (oq : ∀ q : Nat, q < H.size → H1[q]? = H[q]?) : Rl H0 D h H1 := by
  obtain ⟨r1, r2, r3⟩ := R
  refine ⟨by omega, fun q hq => by rw [oq q (by omega)]; exact r2 q hq, fun b d hd => ?_⟩
  obtain ⟨k1, k2⟩ := r3 b d hd
  exact ⟨k1.kept (oq b k1.lt), k2⟩
/-- words that the tables alone decide, but whose staying wants a word of its own -/
def kew : Cond → Bool
  | .castable _ _ => true
  | .declares _ => true
  | .privateMethod _ => true
  | _ => false
def BIK : List Cond := lw_tbl.filter kew
theorem inK {w : Cond} (i : Nat) (h : lw_tbl[i]? = some w) (hg : kew w = true) : w ∈ BIK := List.mem_filter.mpr ⟨List.mem_of_getElem? h, hg⟩
theorem kew_tab {w : Cond} (h : w ∈ BIK) : w.onTables = true := by
  have := (List.mem_filter.mp h).2
  cases w <;> first | rfl | (simp [kew] at this)
theorem kew_warm {w : Cond} {s U : State} (h : w ∈ BIK) (hW : s.WarmedH U.vm) (hw : va_Nw w s) : va_Nw w U := by
  have := (List.mem_filter.mp h).2
  cases w <;> first | exact va_Nw.warmC hW hw | exact va_Nw.warmD hW hw | exact Cond.privateMethod_warm hW hw | (simp [kew] at this)
def exN : List String := ["java/lang/IndexOutOfBoundsException", "java/lang/IllegalStateException", "java/util/NoSuchElementException", "java/lang/ArithmeticException", "java/lang/IllegalArgumentException", "java/lang/UnsupportedOperationException"]
/-- the literal "" and its bytes; the script: its address, its length, its ints -/
abbrev KP : Type := Nat × Nat × Nat × Nat × (Nat → Int32)
theorem va_X_moved {b L : Nat} {xs : Nat → Int32} {u U : State} {H : Heap} (hvm : u.vm.Alike U.vm) (h : va_X b L xs u H) : va_X b L xs U H := by
  obtain ⟨scr, h1, h2, h3⟩ := h
  exact ⟨scr, h1, State.isArrayOf_alike hvm h2, h3⟩
def Gk (κ : KP) (H0 : Heap) (D : HD) (U : State) : Prop :=
  va_K D.1 vwCl [] U ∧ (∀ ty ∈ arTys, ArrOfT U (D.2 ty) ty ∧ va_RA U (D.2 ty) ty) ∧ (∀ C ∈ aoCls, va_AO C U) ∧ (∀ w ∈ nestW, va_Nw (.methodLinkNest w.1 w.2.1 w.2.2 RX9) U) ∧
  va_Z "java/lang/String" "COMPACT_STRINGS" "Z" (.int 1) (fun q => H0.size ≤ q) U H0 ∧ vx_Zq Bundle.tN "UNASSIGNED_STACK" Bundle.steD (fun q => H0.size ≤ q) U H0 ∧ vx_Zq Bundle.tN "SUPPRESSED_SENTINEL" Bundle.listD (fun q => H0.size ≤ q) U H0 ∧ vk_R RX7 66 "" κ.1 U ∧
  va_Zq "jdk/internal/util/Preconditions" "SIOOBE_FORMATTER" "Ljava/util/function/BiFunction;" (fun q => H0.size ≤ q) U H0 ∧ vk_S 1 [0] [[]] (fun _ => κ.1) (fun _ => κ.2.1) (fun q => H0.size ≤ q) U H0 ∧
  (∀ w ∈ BIK, va_Nw w U) ∧ (∀ a ∈ exN, ∀ b ∈ exN, a ≠ b → va_Nc a b U) ∧ κ.2.2.1 < H0.size ∧ va_X κ.2.2.1 κ.2.2.2.1 κ.2.2.2.2 U H0
theorem Gk.warm {κ : KP} {H0 : Heap} {D : HD} {s U : State} (hW : s.WarmedH U.vm) (h : Gk κ H0 D s) : Gk κ H0 D U := by
  obtain ⟨h1, h2, h3, h4, h5, h6, h7, h8, h9, h10, h11, h12, h13, h14⟩ := h
  have ha := hW.alike
  exact ⟨h1.moved ha, fun ty hty => ⟨arrOfT_moved ha (h2 ty hty).1, (h2 ty hty).2.moved ha⟩, fun C hC => (h3 C hC).moved ha, fun w hw => va_Nw.warmM hW (h4 w hw), h5.moved ha, h6.moved ha, h7.moved ha, h8.warm hW, h9.moved ha, h10.moved ha, fun w hw => kew_warm hw hW (h11 w hw), fun a ha2 b hb2 hn => (h12 a ha2 b hb2 hn).moved ha, h13, va_X_moved ha h14⟩
def rmD (d K N : Nat) : Room := { frames := d, cells := K, slots := N, locals := 46 * d }
/-- what an end's instruction gives -/
def rOK (ret : Option FieldType) (v : Option Value) (i : Instr) : Prop :=
  (ret = none ∧ v = none ∧ i = .return_) ∨ (∃ ty x, ret = some ty ∧ narrow ty (.int x) = .int x ∧ v = some (.int x) ∧ i = .ireturn) ∨ (∃ x, ret = some .double ∧ v = some (.double x) ∧ i = .dreturn) ∨
  ∃ rt w, ret = some rt ∧ ((∃ n, rt = .object n) ∨ ∃ t, rt = .array t) ∧ (w = .null ∨ ∃ a, w = .ref a) ∧ v = some w ∧ i = .areturn
def LL (ls : Array Slot) (L : List (Option Value)) : Prop := ls.size = L.length ∧ lv_wf ls ∧ ∀ (k : Nat) (v : Value), L[k]? = some (some v) → ls[k]? = some (.val v)
/-- a class's own 'throw new E()' at pc -/
def isThrow (cc : ByteArray) (own : String) (pc : Nat) (E : String) : Prop := ∃ ik ic : Nat, decode cc pc = .ok (.new ik, 3) ∧ decode cc (pc + 3) = .ok (.dup, 1) ∧ decode cc (pc + 4) = .ok (.invokespecial ic, 3) ∧ decode cc (pc + 7) = .ok (.athrow, 1) ∧
  (Cond.classLink own ik E ∈ BIG ∧ Cond.initialized E ∈ BIG) ∧ Bundle.fit E = true ∧ ∃ names : List String, names.length ≤ 2 ∧ (∀ n ∈ names, Bundle.fit n = true) ∧ ∀ w ∈ vx_at0 own ic E names, w ∈ BIG ∨ w ∈ BIK
section WWD
variable (κ : KP) (mi : MI) (d : Nat) (H0 : Heap) (D : HD) (p : Program) (l : Launch) (e : Env) (R : Room) (s : State) (m : MethodId) (args : Array Value) (below : List Frame) (meth : Method) (c : Code) (Z : State → Prop) (Q : Option Value → AH → Prop) (E : String → AH → Prop)
def CT : Prop := p.tables.exec = Jvm.exec ∧ l.flags = flags0 ∧ c.code = mi.2.1 ∧ meth.sig.returnType = mi.2.2.2.1 ∧ c.maxLocals = mi.2.2.1 ∧ s.vm.findClass mi.1.cls = some m.cls ∧ meth.name = mi.1.name ∧ meth.locks = false ∧ c.exceptionTable.toList = tableOf mi.2.2.2.2 ∧
  (∀ w ∈ BIG, w.before args s = true) ∧ Gk κ H0 D s ∧ d ≤ R.frames ∧ 46 * d ≤ R.locals ∧ H0.size ≤ s.heap.size ∧ ∀ q : Nat, q < H0.size → s.heap[q]? = H0[q]?
def FN : Prop :=
  (∀ (v : Option Value) (h' : AH) (H : Heap) (locs : List Loc) (cells slots : Nat) (ls : Array Slot) (pc : Nat) (i : Instr), Q v h' → Rl H0 D h' H → (∀ q ∈ locs, H0.size ≤ q.base) → cells ≤ R.cells → slots ≤ R.slots → decode mi.2.1 pc = .ok (i, 1) → rOK mi.2.2.2.1 v i →
    W p l e R s m args below meth c H locs cells slots Z (F0 m pc ls v.toList)) ∧
  (∀ (E' : String) (h' : AH) (H : Heap) (locs : List Loc) (cells slots : Nat) (ls : Array Slot) (pc : Nat) (rest : List Value) (q : Addr) (ce : Cell), E E' h' → Rl H0 D h' H → (∀ q ∈ locs, H0.size ≤ q.base) → cells ≤ R.cells → slots ≤ R.slots → mi.2.2.2.2 = [] → H[q]? = some ce → ce.vm = .none → s.vm.findClass E' = some ce.cls →
    vx_W p l e R s m args below meth c H locs cells slots Z (F0 m pc ls rest) q) ∧
  (∀ (E' : String) (h' : AH) (H : Heap) (locs : List Loc) (cells slots : Nat) (ls : Array Slot) (pc : Nat) (rest : List Value), E E' h' → Rl H0 D h' H → (∀ q ∈ locs, H0.size ≤ q.base) → cells + 1 ≤ R.cells → slots + 6 ≤ R.slots → mi.2.2.2.2 = [] → ls.size = c.maxLocals → 6 ≤ d → (rest.map fun v => v.category).sum ≤ 8 → isThrow mi.2.1 mi.1.cls pc E' →
    W p l e R s m args below meth c H locs cells slots Z (F0 m pc ls rest))
end WWD
/-- THE JUDGEMENT: from this frame, over a heap that holds h, with k cells of n slots left to make, the method comes to an end that Q (or E, thrown) knows -/
def WW (κ : KP) (mi : MI) (d k n : Nat) (Q : Option Value → AH → Prop) (E : String → AH → Prop) (pc : Nat) (L : List (Option Value)) (st : List Value) (h : AH) : Prop :=
  ∀ (H0 : Heap) (D : HD) (p : Program) (l : Launch) (e : Env) (R : Room) (s : State) (m : MethodId) (args : Array Value) (below : List Frame) (meth : Method) (c : Code) (Z : State → Prop), CT κ mi d H0 D p l R s m args meth c → FN mi d H0 D p l e R s m args below meth c Z Q E →
    ∀ (H : Heap) (locs : List Loc) (cells slots : Nat) (ls : Array Slot), Rl H0 D h H → (∀ q ∈ locs, H0.size ≤ q.base) → cells + k ≤ R.cells → slots + n ≤ R.slots → LL ls L → L.length = mi.2.2.1 → W p l e R s m args below meth c H locs cells slots Z (F0 m pc ls st)
/-- A METHOD'S CONTRACT, at this heap and these arguments -/
def MM (κ : KP) (mi : MI) (d K N : Nat) (av : List Value) (h : AH) (Q : Option Value → AH → Prop) (E : String → AH → Prop) : Prop :=
  ∀ (l : Launch) (H0 : Heap) (D : HD), l.flags = flags0 → vx_Met l mi.1 (hdOf mi :: BIG) (rmD d K N) (fun a U => a = av.toArray ∧ Gk κ H0 D U ∧ Rl H0 D h U.heap) (fun _ _ o t => ∃ v h', o = .returned v ∧ Q v h' ∧ Rl H0 D h' t.heap) (fun E' _ t => ∃ h', E E' h' ∧ Rl H0 D h' t.heap) K N (fun q => H0.size ≤ q)
def NoX : String → AH → Prop := fun _ _ => False
theorem st_off {l : Launch} (h : l.flags = flags0) : l.stackTraces = false := by
  unfold Launch.stackTraces
  rw [h]
  decide +kernel
