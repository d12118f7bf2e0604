/-! ===== the words in which the tables' facts are said ===== -/
/-- a cell: may it be written; an array by its type, length, contents; an object by its class's place in vwCl, its fields -/
abbrev HC : Type := Bool × ((FieldType × Nat × (Nat → Value)) ⊕ (Nat × List Value))
abbrev AH : Type := Nat → Option HC
abbrev HD : Type := va_G × (FieldType → ClassId)
abbrev MI : Type := MethodName × ByteArray × Nat × Option FieldType × List (Nat × Nat × Nat × Nat)
def J (z : Int) : Int32 := Int32.ofInt z
/-! the tables' words that go from method to method, and what the state must be -/
def BIG : List Cond := lw_tbl.filter goodWord
theorem BIG_good : ∀ w ∈ BIG, (w.onTables && w.keeps) = true ∨ ∃ ty, w = .arrayClass ty := fun w hw => good_of_word (List.mem_filter.mp hw).2
theorem inB {w : Cond} (i : Nat) (h : lw_tbl[i]? = some w) (hg : goodWord w = true) : w ∈ BIG := List.mem_filter.mpr ⟨List.mem_of_getElem? h, hg⟩
def arTys : List FieldType := [.int, .long, .double, .char, .byte, .boolean, .object RX2, .object RX4, .object RX1, .object RX3]
def aoCls : List String := [RX2, RX4, RX1, RX3]
def nestW : List (String × Nat × MethodName) := [(RX9, 9, yX7_init), (RX9, 18, yX5_init), (RX6, 72, yX9_isInSet), (RX9, 57, yX8_init), (RX0, 77, yX9_isInSet), (RX3, 51, yX9_isInSet), (RX7, 89, yX9_isOwnLetter)]
def hdOf (mi : MI) : Cond := match mi.2.2.2.2 with
  | [] => .code mi.1 mi.2.1 mi.2.2.1 mi.2.2.2.1
  | x :: r => .codeWith mi.1 mi.2.1 mi.2.2.1 mi.2.2.2.1 (x :: r)
/-- the constant pool's entry idx of the class own is field j of the class in place k -/
def FL (own : String) (idx k j : Nat) : Prop := ∃ (C : String) (T : u_T) (N : Nat) (ref : String), vwCl[k]? = some (C, T, N) ∧ j < N ∧ (∀ w ∈ u_ws C T N, w ∈ BIG) ∧ Cond.fieldLink own idx ref (T j).2.1 (T j).2.2.1 ∈ BIG ∧ (ref = (T j).1 ∨ Cond.sameField ref (T j).1 (T j).2.1 (T j).2.2.1 ∈ BIG)
/-- what a write needs beside: types, names, and whether the field is final -/
def FP (own : String) (k j : Nat) (ty : FieldType) : Prop := ∃ (C : String) (T : u_T) (N : Nat) (ty0 : Nat → FieldType), vwCl[k]? = some (C, T, N) ∧ (∀ i, i < N → parseFieldDescriptor (T i).2.2.1 = some (ty0 i)) ∧ (∀ a, a < N → ∀ b, b < N → a ≠ b → (T a).2.1 ≠ (T b).2.1) ∧ parseFieldDescriptor (T j).2.2.1 = some ty ∧ ((T j).2.2.2 = true → (T j).1 = own)
/-- .. and that only constructors write a final one -/
def FF (k j : Nat) (nm : String) : Prop := ∀ (C : String) (T : u_T) (N : Nat), vwCl[k]? = some (C, T, N) → (T j).2.2.2 = true → nm = "<init>"
/-- the class in place k is made by the entry idx of the class own, with these fields -/
def NW (own : String) (idx k N : Nat) (fs : List Value) : Prop := ∃ (C : String) (T : u_T) (ty0 : Nat → FieldType), vwCl[k]? = some (C, T, N) ∧ (∀ w ∈ u_ws C T N, w ∈ BIG) ∧ (∀ i, i < N → parseFieldDescriptor (T i).2.2.1 = some (ty0 i)) ∧ (∀ j, j < N → defaultValue (ty0 j) = vp_V fs j) ∧ Cond.classLink own idx C ∈ BIG ∧ Cond.instantiable C N ∈ BIG ∧ Cond.initialized C ∈ BIG
/-- what every call needs: the callee's code, n arguments -/
def CB (own : String) (mi' : MI) (nA : Nat) : Prop := hdOf mi' ∈ BIG ∧ Cond.initialized mi'.1.cls ∈ BIG ∧ mi'.2.2.1 ≤ 27 ∧ mi'.1.cls ≠ "java/lang/invoke/MethodHandle" ∧ mi'.1.cls ≠ "java/lang/invoke/VarHandle" ∧ (parseMethodDescriptor mi'.1.desc).map (fun d => d.parameters.length) = some nA
def CV (own : String) (idx kc : Nat) (mi' : MI) (nA : Nat) : Prop := (CB own mi' nA ∧ mi'.2.2.2.2 = []) ∧ Cond.methodLink own idx mi'.1 ∈ BIG ∧ Cond.instanceMethod mi'.1 ∈ BIG ∧ ∃ C T N, Cond.selects C mi'.1 mi'.1 ∈ BIG ∧ vwCl[kc]? = some (C, T, N)
def CS (own : String) (idx : Nat) (mi' : MI) (nA : Nat) : Prop := (CB own mi' nA ∧ mi'.2.2.2.2 = []) ∧ Cond.methodLink own idx mi'.1 ∈ BIG ∧ Cond.static mi'.1 ∈ BIG
def CSN (own : String) (idx : Nat) (mi' : MI) (nA : Nat) : Prop := (CB own mi' nA ∧ mi'.2.2.2.2 = []) ∧ (own, idx, mi'.1) ∈ nestW ∧ Cond.static mi'.1 ∈ BIG
def CI (own : String) (idx : Nat) (mi' : MI) (nA : Nat) : Prop := (CB own mi' nA ∧ mi'.2.2.2.2 = []) ∧ Cond.methodLink own idx mi'.1 ∈ BIG ∧ Cond.instanceMethod mi'.1 ∈ BIG ∧ mi'.1.name = "<init>" ∧ mi'.2.2.2.1 = none
def CIN (own : String) (idx : Nat) (mi' : MI) (nA : Nat) : Prop := (CB own mi' nA ∧ mi'.2.2.2.2 = []) ∧ (own, idx, mi'.1) ∈ nestW ∧ Cond.instanceMethod mi'.1 ∈ BIG ∧ mi'.1.name = "<init>" ∧ mi'.2.2.2.1 = none
def CSX (own : String) (idx : Nat) (mi' : MI) (nA : Nat) : Prop := (CB own mi' nA ∧ hdOf mi' = .codeWith mi'.1 mi'.2.1 mi'.2.2.1 mi'.2.2.2.1 mi'.2.2.2.2) ∧ Cond.methodLink own idx mi'.1 ∈ BIG ∧ Cond.static mi'.1 ∈ BIG
