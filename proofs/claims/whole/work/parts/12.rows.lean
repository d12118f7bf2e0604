/-! ===== numbers: J z is the int z ===== -/
abbrev rng (z : Int) : Prop := -2147483648 ≤ z ∧ z ≤ 2147483647
theorem bm32 {z : Int} (h1 : -2147483648 ≤ z) (h2 : z ≤ 2147483647) : z.bmod (2 ^ 32) = z := by
  rw [Int.bmod_eq_of_le (by omega) (by omega)]
theorem J_toInt {z : Int} (h : rng z) : (J z).toInt = z := by
  have h1 := h.1
  have h2 := h.2
  unfold J
  rw [Int32.toInt_ofInt]
  exact bm32 h1 h2
theorem J_of (x : Int32) : x = J x.toInt := (Int32.ofInt_toInt x).symm
theorem rng_of (x : Int32) : rng x.toInt := by
  have h1 := Int32.le_toInt x
  have h2 := Int32.toInt_lt x
  constructor <;> omega
theorem J_ext {x : Int32} {z : Int} (h : rng z) (e : x.toInt = z) : x = J z := by
  rw [← Int32.toInt_inj, J_toInt h, e]
theorem J_inj {a b : Int} (ha : rng a) (hb : rng b) : J a = J b ↔ a = b := by
  rw [← Int32.toInt_inj, J_toInt ha, J_toInt hb]
theorem J_lt {a b : Int} (ha : rng a) (hb : rng b) : J a < J b ↔ a < b := by
  rw [Int32.lt_iff_toInt_lt, J_toInt ha, J_toInt hb]
theorem J_le {a b : Int} (ha : rng a) (hb : rng b) : J a ≤ J b ↔ a ≤ b := by
  rw [Int32.le_iff_toInt_le, J_toInt ha, J_toInt hb]
theorem J_0 : J 0 = 0 := by decide
theorem J_add (a b : Int) : J a + J b = J (a + b) := by
  rw [← Int32.toInt_inj]
  simp [J, Int32.toInt_add, Int32.toInt_ofInt]
theorem J_sub (a b : Int) : J a - J b = J (a - b) := by
  rw [← Int32.toInt_inj]
  simp [J, Int32.toInt_sub, Int32.toInt_ofInt]
theorem J_mul (a b : Int) : J a * J b = J (a * b) := by
  rw [← Int32.toInt_inj]
  simp [J, Int32.toInt_mul, Int32.toInt_ofInt]
theorem J_neg (a : Int) : - J a = J (- a) := by
  rw [← Int32.toInt_inj]
  simp [J, Int32.toInt_neg, Int32.toInt_ofInt]
theorem J_nat (n : Nat) : J (n : Int) = Int32.ofNat n := by
  rw [← Int32.toInt_inj]
  simp [J, Int32.toInt_ofInt, Int32.toInt_ofNat']
theorem J_idx {i : Int} {n : Nat} (h0 : 0 ≤ i) (h1 : i < n) (hn : n < 2147483648) : ¬ (J i < 0 ∨ n ≤ (J i).toNatClampNeg) ∧ (J i).toNatClampNeg = i.toNat ∧ i.toNat < n := by
  have hr : rng i := by constructor <;> omega
  have e : (J i).toNatClampNeg = i.toNat := by
    rw [Int32.toNatClampNeg, J_toInt hr]
  refine ⟨?_, e, by omega⟩
  rw [← J_0, J_lt hr (by decide), e]
  omega
theorem J_div {a b : Int} (ha : 0 ≤ a) (ha2 : a < 2147483648) (hb : 0 < b) (hb2 : b < 2147483648) : J a / J b = J (a / b) := by
  have hd : 0 ≤ a / b := Int.ediv_nonneg ha (by omega)
  have hd2 : a / b ≤ a := Int.ediv_le_self b ha
  refine J_ext (by constructor <;> omega) ?_
  rw [Int32.toInt_div, J_toInt (by constructor <;> omega), J_toInt (by constructor <;> omega), Int.tdiv_eq_ediv_of_nonneg ha, bm32 (by omega) (by omega)]
theorem J_rem {a b : Int} (ha : 0 ≤ a) (ha2 : a < 2147483648) (hb : 0 < b) (hb2 : b < 2147483648) : J a - J a / J b * J b = J (a % b) := by
  rw [J_div ha ha2 hb hb2, J_mul, J_sub]
  congr 1
  rw [Int.emod_def, Int.mul_comm]
def bI (b : Bool) : Int := if b then 1 else 0
theorem bI_t : bI true = 1 := rfl
theorem bI_f : bI false = 0 := rfl
theorem bI_rng (b : Bool) : rng (bI b) := by cases b <;> decide
theorem bI_0 {b : Bool} : bI b = 0 ↔ b = false := by cases b <;> decide
theorem bI_01 (b : Bool) : 0 ≤ bI b ∧ bI b ≤ 1 := by cases b <;> decide
theorem bI_if (P : Prop) (i : Decidable P) : bI (decide P) = if P then 1 else 0 := by
  by_cases h : P <;> simp [bI, h]
/-! contents of arrays -/
def iv (g : Int → Int) : Nat → Value := fun q => .int (J (g q))
def rv (g : Int → Option Nat) : Nat → Value := fun q => va_rf (g q)
def upz {α : Type} (g : Int → α) (i : Int) (v : α) : Int → α := fun j => if j = i then v else g j
theorem upz_same {α : Type} {g : Int → α} {i : Int} {v : α} : upz g i v i = v := if_pos rfl
theorem upz_ne {α : Type} {g : Int → α} {i j : Int} {v : α} (h : j ≠ i) : upz g i v j = g j := if_neg h
theorem iv_up {g : Int → Int} {i v : Int} (h : 0 ≤ i) : updV (iv g) i.toNat (.int (J v)) = iv (upz g i v) := by
  funext q
  unfold updV iv upz
  by_cases e : q = i.toNat
  · rw [if_pos e, if_pos (by omega)]
  · rw [if_neg e, if_neg (by omega)]
theorem rv_up {g : Int → Option Nat} {i : Int} {v : Option Nat} (h : 0 ≤ i) : updV (rv g) i.toNat (va_rf v) = rv (upz g i v) := by
  funext q
  unfold updV rv upz
  by_cases e : q = i.toNat
  · rw [if_pos e, if_pos (by omega)]
  · rw [if_neg e, if_neg (by omega)]
/-- a value known in a field is what it must be -/
def c1 : Option Value → Bool
  | some v => v.category == 1
  | none => true
/-- fewer locals told -/
def LSub : List (Option Value) → List (Option Value) → Prop
  | [], [] => True
  | a :: r, b :: t => (b = none ∨ b = a) ∧ LSub r t
  | _, _ => False
theorem LSub.len : ∀ {L L' : List (Option Value)}, LSub L L' → L.length = L'.length
  | [], [], _ => rfl
  | a :: r, b :: t, h => by simp [LSub.len h.2]
  | [], _ :: _, h => h.elim
  | _ :: _, [], h => h.elim
theorem LSub.get : ∀ {L L' : List (Option Value)} {k : Nat} {v : Value}, LSub L L' → L'[k]? = some (some v) → L[k]? = some (some v)
  | [], [], _, _, _, h => by simp at h
  | a :: r, b :: t, 0, v, h, e => by
    have e1 : b = some v := by simpa using e
    rcases h.1 with h1 | h1
    · rw [h1] at e1; cases e1
    · rw [← h1, e1]; rfl
  | a :: r, b :: t, k + 1, v, h, e => by
    have e1 : t[k]? = some (some v) := by simpa using e
    have := LSub.get h.2 e1
    simpa using this
  | [], _ :: _, _, _, h, _ => h.elim
  | _ :: _, [], _, _, h, _ => h.elim
section ROWS
variable {κ : KP} {mi : MI} {d k n : Nat} {Q : Option Value → AH → Prop} {E : String → AH → Prop} {pc : Nat} {L : List (Option Value)} {st : List Value} {h : AH}
theorem ww_step {pc' : Nat} {st' : List Value} (f : ∀ (p : Program) (l : Launch) (e : Env) (R : Room) (s : State) (m : MethodId) (args : Array Value) (below : List Frame) (meth : Method) (c : Code) (Z : State → Prop) (H : Heap) (locs : List Loc) (cells slots : Nat) (ls : Array Slot), p.tables.exec = Jvm.exec → c.code = mi.2.1 → LL ls L → W p l e R s m args below meth c H locs cells slots Z (F0 m pc' ls st') → W p l e R s m args below meth c H locs cells slots Z (F0 m pc ls st)) (kk : WW κ mi d k n Q E pc' L st' h) : WW κ mi d k n Q E pc L st h := by
  intro H0 D p l e R s m args below meth c Z C F H locs cells slots ls hR hl hk hn hL hlen
  exact f p l e R s m args below meth c Z H locs cells slots ls C.1 C.2.2.1 hL (kk H0 D p l e R s m args below meth c Z C F H locs cells slots ls hR hl hk hn hL hlen)
theorem ww_bud {k' n' : Nat} (h1 : k' ≤ k) (h2 : n' ≤ n) (kk : WW κ mi d k' n' Q E pc L st h) : WW κ mi d k n Q E pc L st h := by
  intro H0 D p l e R s m args below meth c Z C F H locs cells slots ls hR hl hk hn hL hlen
  exact kk H0 D p l e R s m args below meth c Z C F H locs cells slots ls hR hl (by omega) (by omega) hL hlen
theorem ww_post {Q' : Option Value → AH → Prop} {E' : String → AH → Prop} (hQ : ∀ v h', Q v h' → Q' v h') (hE : ∀ X h', E X h' → E' X h') (kk : WW κ mi d k n Q E pc L st h) : WW κ mi d k n Q' E' pc L st h := by
  intro H0 D p l e R s m args below meth c Z C F H locs cells slots ls hR hl hk hn hL hlen
  exact kk H0 D p l e R s m args below meth c Z C ⟨fun v h' H locs cells slots ls pc i q => F.1 v h' H locs cells slots ls pc i (hQ v h' q), fun X h' H locs cells slots ls pc rest q ce q1 => F.2.1 X h' H locs cells slots ls pc rest q ce (hE X h' q1), fun X h' H locs cells slots ls pc rest q1 => F.2.2 X h' H locs cells slots ls pc rest (hE X h' q1)⟩ H locs cells slots ls hR hl hk hn hL hlen
theorem ww_ls {L' : List (Option Value)} (hs : LSub L L') (kk : WW κ mi d k n Q E pc L' st h) : WW κ mi d k n Q E pc L st h := by
  intro H0 D p l e R s m args below meth c Z C F H locs cells slots ls hR hl hk hn hL hlen
  exact kk H0 D p l e R s m args below meth c Z C F H locs cells slots ls hR hl hk hn ⟨hL.1.trans hs.len, hL.2.1, fun k v hk => hL.2.2 k v (hs.get hk)⟩ (hs.len.symm.trans hlen)
theorem ww_heq {h' : AH} (e : h = h') (kk : WW κ mi d k n Q E pc L st h') : WW κ mi d k n Q E pc L st h := e ▸ kk
/-- less of the heap told -/
theorem ww_sub {h' : AH} (hs : ∀ a c, h' a = some c → h a = some c) (kk : WW κ mi d k n Q E pc L st h') : WW κ mi d k n Q E pc L st h := by
  intro H0 D p l e R s m args below meth c Z C F H locs cells slots ls hR hl hk hn hL hlen
  exact kk H0 D p l e R s m args below meth c Z C F H locs cells slots ls ⟨hR.1, hR.2.1, fun a c hc => hR.2.2 a c (hs a c hc)⟩ hl hk hn hL hlen
theorem ww_top {x : Int32} {z : Int} (he : x = J z) (kk : WW κ mi d k n Q E pc L (.int (J z) :: st) h) : WW κ mi d k n Q E pc L (.int x :: st) h := he ▸ kk
theorem ww_topz {x z : Int} (he : x = z) (kk : WW κ mi d k n Q E pc L (.int (J z) :: st) h) : WW κ mi d k n Q E pc L (.int (J x) :: st) h := he ▸ kk
theorem ww_topv {x z : Value} (he : x = z) (kk : WW κ mi d k n Q E pc L (z :: st) h) : WW κ mi d k n Q E pc L (x :: st) h := he ▸ kk

theorem r_iconst {z : Int} (hd : decode mi.2.1 pc = .ok (.iconst z, 1)) (kk : WW κ mi d k n Q E (pc + 1) L (.int (J z) :: st) h) : WW κ mi d k n Q E pc L (st) h :=
  ww_step (fun p l e R s m args below meth c Z H locs cells slots ls hx hb hL k9 => lv_iconst (v := J z) hx hb hd rfl k9) kk
theorem r_bipush {z : Int} (hd : decode mi.2.1 pc = .ok (.bipush z, 2)) (hv : (Int8.ofInt z).toInt32 = J z) (kk : WW κ mi d k n Q E (pc + 2) L (.int (J z) :: st) h) : WW κ mi d k n Q E pc L st h :=
  ww_step (fun p l e R s m args below meth c Z H locs cells slots ls hx hb hL k9 => lv_bipush hx hb hd hv k9) kk
theorem r_sipush {z : Int} (hd : decode mi.2.1 pc = .ok (.sipush z, 3)) (hv : (Int16.ofInt z).toInt32 = J z) (kk : WW κ mi d k n Q E (pc + 3) L (.int (J z) :: st) h) : WW κ mi d k n Q E pc L st h :=
  ww_step (fun p l e R s m args below meth c Z H locs cells slots ls hx hb hL k9 => lv_sipush hx hb hd hv k9) kk
theorem r_lconst {z : Fin 2} (hd : decode mi.2.1 pc = .ok (.lconst z, 1)) (kk : WW κ mi d k n Q E (pc + 1) L (.long (Int64.ofNat (z : Nat)) :: st) h) : WW κ mi d k n Q E pc L (st) h :=
  ww_step (fun p l e R s m args below meth c Z H locs cells slots ls hx hb hL k9 => lv_lconst hx hb hd rfl k9) kk
theorem r_null (hd : decode mi.2.1 pc = .ok (.aconst_null, 1)) (kk : WW κ mi d k n Q E (pc + 1) L (.null :: st) h) : WW κ mi d k n Q E pc L (st) h :=
  ww_step (fun p l e R s m args below meth c Z H locs cells slots ls hx hb hL k9 => lv_null hx hb hd k9) kk
theorem r_dconst0 (hd : decode mi.2.1 pc = .ok (.dconst 0, 1)) (kk : WW κ mi d k n Q E (pc + 1) L (.double 0 :: st) h) : WW κ mi d k n Q E pc L (st) h :=
  ww_step (fun p l e R s m args below meth c Z H locs cells slots ls hx hb hL k9 => lv_dconst0 hx hb hd k9) kk
theorem r_iadd {a b : Int} (hd : decode mi.2.1 pc = .ok (.iadd, 1)) (kk : WW κ mi d k n Q E (pc + 1) L (.int (J (a + b)) :: st) h) : WW κ mi d k n Q E pc L (.int (J b) :: .int (J a) :: st) h :=
  ww_step (fun p l e R s m args below meth c Z H locs cells slots ls hx hb hL k9 => lv_iadd hx hb hd (by rw [J_add]; exact k9)) kk
theorem r_isub {a b : Int} (hd : decode mi.2.1 pc = .ok (.isub, 1)) (kk : WW κ mi d k n Q E (pc + 1) L (.int (J (a - b)) :: st) h) : WW κ mi d k n Q E pc L (.int (J b) :: .int (J a) :: st) h :=
  ww_step (fun p l e R s m args below meth c Z H locs cells slots ls hx hb hL k9 => lv_isub hx hb hd (by rw [J_sub]; exact k9)) kk
theorem r_imul {a b : Int} (hd : decode mi.2.1 pc = .ok (.imul, 1)) (kk : WW κ mi d k n Q E (pc + 1) L (.int (J (a * b)) :: st) h) : WW κ mi d k n Q E pc L (.int (J b) :: .int (J a) :: st) h :=
  ww_step (fun p l e R s m args below meth c Z H locs cells slots ls hx hb hL k9 => lv_imul hx hb hd (by rw [J_mul]; exact k9)) kk
theorem r_ineg {a : Int} (hd : decode mi.2.1 pc = .ok (.ineg, 1)) (kk : WW κ mi d k n Q E (pc + 1) L (.int (J (- a)) :: st) h) : WW κ mi d k n Q E pc L (.int (J a) :: st) h :=
  ww_step (fun p l e R s m args below meth c Z H locs cells slots ls hx hb hL k9 => lv_ineg hx hb hd (by rw [J_neg]; exact k9)) kk
theorem r_idiv {a b : Int} (hd : decode mi.2.1 pc = .ok (.idiv, 1)) (h1 : 0 ≤ a ∧ a < 2147483648 ∧ 0 < b ∧ b < 2147483648) (kk : WW κ mi d k n Q E (pc + 1) L (.int (J (a / b)) :: st) h) : WW κ mi d k n Q E pc L (.int (J b) :: .int (J a) :: st) h :=
  ww_step (fun p l e R s m args below meth c Z H locs cells slots ls hx hb hL k9 => lv_idiv hx hb hd (by rw [← J_0, J_inj (by omega) (by decide)]; omega) (by rw [J_div h1.1 h1.2.1 h1.2.2.1 h1.2.2.2]; exact k9)) kk
theorem r_irem {a b : Int} (hd : decode mi.2.1 pc = .ok (.irem, 1)) (h1 : 0 ≤ a ∧ a < 2147483648 ∧ 0 < b ∧ b < 2147483648) (kk : WW κ mi d k n Q E (pc + 1) L (.int (J (a % b)) :: st) h) : WW κ mi d k n Q E pc L (.int (J b) :: .int (J a) :: st) h :=
  ww_step (fun p l e R s m args below meth c Z H locs cells slots ls hx hb hL k9 => lv_irem hx hb hd (by rw [← J_0, J_inj (by omega) (by decide)]; omega) (by rw [J_rem h1.1 h1.2.1 h1.2.2.1 h1.2.2.2]; exact k9)) kk
theorem r_iand {x y : Int32} (hd : decode mi.2.1 pc = .ok (.iand, 1)) (kk : WW κ mi d k n Q E (pc + 1) L (.int (x &&& y) :: st) h) : WW κ mi d k n Q E pc L (.int y :: .int x :: st) h :=
  ww_step (fun p l e R s m args below meth c Z H locs cells slots ls hx hb hL k9 => lv_iand hx hb hd k9) kk
theorem r_ior {x y : Int32} (hd : decode mi.2.1 pc = .ok (.ior, 1)) (kk : WW κ mi d k n Q E (pc + 1) L (.int (x ||| y) :: st) h) : WW κ mi d k n Q E pc L (.int y :: .int x :: st) h :=
  ww_step (fun p l e R s m args below meth c Z H locs cells slots ls hx hb hL k9 => lv_ior hx hb hd k9) kk
theorem r_ixor {x y : Int32} (hd : decode mi.2.1 pc = .ok (.ixor, 1)) (kk : WW κ mi d k n Q E (pc + 1) L (.int (x ^^^ y) :: st) h) : WW κ mi d k n Q E pc L (.int y :: .int x :: st) h :=
  ww_step (fun p l e R s m args below meth c Z H locs cells slots ls hx hb hL k9 => lv_ixor hx hb hd k9) kk
theorem r_ishl {x y : Int32} (hd : decode mi.2.1 pc = .ok (.ishl, 1)) (kk : WW κ mi d k n Q E (pc + 1) L (.int (x <<< (y &&& 31)) :: st) h) : WW κ mi d k n Q E pc L (.int y :: .int x :: st) h :=
  ww_step (fun p l e R s m args below meth c Z H locs cells slots ls hx hb hL k9 => lv_ishl hx hb hd k9) kk
theorem r_ishr {x y : Int32} (hd : decode mi.2.1 pc = .ok (.ishr, 1)) (kk : WW κ mi d k n Q E (pc + 1) L (.int (x >>> (y &&& 31)) :: st) h) : WW κ mi d k n Q E pc L (.int y :: .int x :: st) h :=
  ww_step (fun p l e R s m args below meth c Z H locs cells slots ls hx hb hL k9 => lv_ishr hx hb hd k9) kk
theorem r_iushr {x y : Int32} (hd : decode mi.2.1 pc = .ok (.iushr, 1)) (kk : WW κ mi d k n Q E (pc + 1) L (.int ((x.toUInt32 >>> (y.toUInt32 &&& Int32.toUInt32 31)).toInt32) :: st) h) : WW κ mi d k n Q E pc L (.int y :: .int x :: st) h :=
  ww_step (fun p l e R s m args below meth c Z H locs cells slots ls hx hb hL k9 => lv_iushr hx hb hd rfl k9) kk
theorem r_i2l {x : Int32} (hd : decode mi.2.1 pc = .ok (.i2l, 1)) (kk : WW κ mi d k n Q E (pc + 1) L (.long x.toInt64 :: st) h) : WW κ mi d k n Q E pc L (.int x :: st) h :=
  ww_step (fun p l e R s m args below meth c Z H locs cells slots ls hx hb hL k9 => lv_i2l hx hb hd rfl k9) kk
theorem r_i2b {x : Int32} (hd : decode mi.2.1 pc = .ok (.i2b, 1)) (kk : WW κ mi d k n Q E (pc + 1) L (.int x.toInt8.toInt32 :: st) h) : WW κ mi d k n Q E pc L (.int x :: st) h :=
  ww_step (fun p l e R s m args below meth c Z H locs cells slots ls hx hb hL k9 => lv_i2b hx hb hd rfl k9) kk
theorem r_i2c {x : Int32} (hd : decode mi.2.1 pc = .ok (.i2c, 1)) (kk : WW κ mi d k n Q E (pc + 1) L (.int (x.toUInt32 % 65536).toInt32 :: st) h) : WW κ mi d k n Q E pc L (.int x :: st) h :=
  ww_step (fun p l e R s m args below meth c Z H locs cells slots ls hx hb hL k9 => lv_i2c hx hb hd rfl k9) kk
theorem r_i2d {x : Int32} (hd : decode mi.2.1 pc = .ok (.i2d, 1)) (kk : WW κ mi d k n Q E (pc + 1) L (.double (FP.i2d x) :: st) h) : WW κ mi d k n Q E pc L (.int x :: st) h :=
  ww_step (fun p l e R s m args below meth c Z H locs cells slots ls hx hb hL k9 => lv_i2d hx hb hd k9) kk
theorem r_ddiv {x y : UInt64} (hd : decode mi.2.1 pc = .ok (.ddiv, 1)) (hne : vf_n64 (FP.ddiv x y)) (kk : WW κ mi d k n Q E (pc + 1) L (.double (FP.ddiv x y) :: st) h) : WW κ mi d k n Q E pc L (.double y :: .double x :: st) h :=
  ww_step (fun p l e R s m args below meth c Z H locs cells slots ls hx hb hL k9 => lv_ddiv hx hb hd hne k9) kk
theorem r_dup {va : Value} (hd : decode mi.2.1 pc = .ok (.dup, 1)) (hva : va.category = 1) (kk : WW κ mi d k n Q E (pc + 1) L (va :: va :: st) h) : WW κ mi d k n Q E pc L (va :: st) h :=
  ww_step (fun p l e R s m args below meth c Z H locs cells slots ls hx hb hL k9 => lv_dup hx hb hd hva k9) kk
theorem r_pop {va : Value} (hd : decode mi.2.1 pc = .ok (.pop, 1)) (hva : va.category = 1) (kk : WW κ mi d k n Q E (pc + 1) L (st) h) : WW κ mi d k n Q E pc L (va :: st) h :=
  ww_step (fun p l e R s m args below meth c Z H locs cells slots ls hx hb hL k9 => lv_pop hx hb hd hva k9) kk
theorem r_dup_x1 {va vb : Value} (hd : decode mi.2.1 pc = .ok (.dup_x1, 1)) (hva : va.category = 1) (hvb : vb.category = 1) (kk : WW κ mi d k n Q E (pc + 1) L (va :: vb :: va :: st) h) : WW κ mi d k n Q E pc L (va :: vb :: st) h :=
  ww_step (fun p l e R s m args below meth c Z H locs cells slots ls hx hb hL k9 => lv_dup_x1 hx hb hd hva hvb k9) kk
theorem r_dup2 {va vb : Value} (hd : decode mi.2.1 pc = .ok (.dup2, 1)) (hva : va.category = 1) (hvb : vb.category = 1) (kk : WW κ mi d k n Q E (pc + 1) L (va :: vb :: va :: vb :: st) h) : WW κ mi d k n Q E pc L (va :: vb :: st) h :=
  ww_step (fun p l e R s m args below meth c Z H locs cells slots ls hx hb hL k9 => lv_dup2_11 hx hb hd hva hvb k9) kk
theorem r_goto {off : Int} {tgt : Nat} (hd : decode mi.2.1 pc = .ok (.goto off, 3)) (ht : (pc : Int) + off = (tgt : Int)) (kk : WW κ mi d k n Q E tgt L st h) : WW κ mi d k n Q E pc L st h :=
  ww_step (fun p l e R s m args below meth c Z H locs cells slots ls hx hb hL k9 => lv_goto hx hb hd ht k9) kk
theorem r_if_eq {a : Int} {off : Int} {tgt : Nat} (hd : decode mi.2.1 pc = .ok (.ifCond .eq off, 3)) (ht : (pc : Int) + off = (tgt : Int)) (ra : rng a) (kt : a = 0 → WW κ mi d k n Q E tgt L st h) (kf : a ≠ 0 → WW κ mi d k n Q E (pc + 3) L st h) : WW κ mi d k n Q E pc L (.int (J a) :: st) h := by
  intro H0 D p l e R s m args below meth c Z C F H locs cells slots ls hR hl hk hn hL hlen
  have hx := C.1
  have hb := C.2.2.1
  exact lv_if_eq hx hb hd ht (fun q => kt (by
    have q2 := q
    rw [← J_0] at q2
    simp only [ge_iff_le, gt_iff_lt, ne_eq, J_inj ra (by decide : rng 0), J_lt ra (by decide : rng 0), J_le ra (by decide : rng 0), J_lt (by decide : rng 0) ra, J_le (by decide : rng 0) ra] at q2
    omega) H0 D p l e R s m args below meth c Z C F H locs cells slots ls hR hl hk hn hL hlen) (fun q => kf (by
    have q2 := q
    rw [← J_0] at q2
    simp only [ge_iff_le, gt_iff_lt, ne_eq, J_inj ra (by decide : rng 0), J_lt ra (by decide : rng 0), J_le ra (by decide : rng 0), J_lt (by decide : rng 0) ra, J_le (by decide : rng 0) ra] at q2
    omega) H0 D p l e R s m args below meth c Z C F H locs cells slots ls hR hl hk hn hL hlen)
theorem r_icmp_eq {a b : Int} {off : Int} {tgt : Nat} (hd : decode mi.2.1 pc = .ok (.if_icmp .eq off, 3)) (ht : (pc : Int) + off = (tgt : Int)) (ra : rng a) (rb : rng b) (kt : a = b → WW κ mi d k n Q E tgt L st h) (kf : a ≠ b → WW κ mi d k n Q E (pc + 3) L st h) : WW κ mi d k n Q E pc L (.int (J b) :: .int (J a) :: st) h := by
  intro H0 D p l e R s m args below meth c Z C F H locs cells slots ls hR hl hk hn hL hlen
  have hx := C.1
  have hb := C.2.2.1
  exact lv_icmp_eq hx hb hd ht (fun q => kt (by
    have q2 := q
    simp only [ge_iff_le, gt_iff_lt, ne_eq, J_inj ra rb, J_lt ra rb, J_le ra rb, J_lt rb ra, J_le rb ra] at q2
    omega) H0 D p l e R s m args below meth c Z C F H locs cells slots ls hR hl hk hn hL hlen) (fun q => kf (by
    have q2 := q
    simp only [ge_iff_le, gt_iff_lt, ne_eq, J_inj ra rb, J_lt ra rb, J_le ra rb, J_lt rb ra, J_le rb ra] at q2
    omega) H0 D p l e R s m args below meth c Z C F H locs cells slots ls hR hl hk hn hL hlen)
theorem r_if_ne {a : Int} {off : Int} {tgt : Nat} (hd : decode mi.2.1 pc = .ok (.ifCond .ne off, 3)) (ht : (pc : Int) + off = (tgt : Int)) (ra : rng a) (kt : a ≠ 0 → WW κ mi d k n Q E tgt L st h) (kf : a = 0 → WW κ mi d k n Q E (pc + 3) L st h) : WW κ mi d k n Q E pc L (.int (J a) :: st) h := by
  intro H0 D p l e R s m args below meth c Z C F H locs cells slots ls hR hl hk hn hL hlen
  have hx := C.1
  have hb := C.2.2.1
  exact lv_if_ne hx hb hd ht (fun q => kt (by
    have q2 := q
    rw [← J_0] at q2
    simp only [ge_iff_le, gt_iff_lt, ne_eq, J_inj ra (by decide : rng 0), J_lt ra (by decide : rng 0), J_le ra (by decide : rng 0), J_lt (by decide : rng 0) ra, J_le (by decide : rng 0) ra] at q2
    omega) H0 D p l e R s m args below meth c Z C F H locs cells slots ls hR hl hk hn hL hlen) (fun q => kf (by
    have q2 := q
    rw [← J_0] at q2
    simp only [ge_iff_le, gt_iff_lt, ne_eq, J_inj ra (by decide : rng 0), J_lt ra (by decide : rng 0), J_le ra (by decide : rng 0), J_lt (by decide : rng 0) ra, J_le (by decide : rng 0) ra] at q2
    omega) H0 D p l e R s m args below meth c Z C F H locs cells slots ls hR hl hk hn hL hlen)
theorem r_icmp_ne {a b : Int} {off : Int} {tgt : Nat} (hd : decode mi.2.1 pc = .ok (.if_icmp .ne off, 3)) (ht : (pc : Int) + off = (tgt : Int)) (ra : rng a) (rb : rng b) (kt : a ≠ b → WW κ mi d k n Q E tgt L st h) (kf : a = b → WW κ mi d k n Q E (pc + 3) L st h) : WW κ mi d k n Q E pc L (.int (J b) :: .int (J a) :: st) h := by
  intro H0 D p l e R s m args below meth c Z C F H locs cells slots ls hR hl hk hn hL hlen
  have hx := C.1
  have hb := C.2.2.1
  exact lv_icmp_ne hx hb hd ht (fun q => kt (by
    have q2 := q
    simp only [ge_iff_le, gt_iff_lt, ne_eq, J_inj ra rb, J_lt ra rb, J_le ra rb, J_lt rb ra, J_le rb ra] at q2
    omega) H0 D p l e R s m args below meth c Z C F H locs cells slots ls hR hl hk hn hL hlen) (fun q => kf (by
    have q2 := q
    simp only [ge_iff_le, gt_iff_lt, ne_eq, J_inj ra rb, J_lt ra rb, J_le ra rb, J_lt rb ra, J_le rb ra] at q2
    omega) H0 D p l e R s m args below meth c Z C F H locs cells slots ls hR hl hk hn hL hlen)
theorem r_if_lt {a : Int} {off : Int} {tgt : Nat} (hd : decode mi.2.1 pc = .ok (.ifCond .lt off, 3)) (ht : (pc : Int) + off = (tgt : Int)) (ra : rng a) (kt : a < 0 → WW κ mi d k n Q E tgt L st h) (kf : 0 ≤ a → WW κ mi d k n Q E (pc + 3) L st h) : WW κ mi d k n Q E pc L (.int (J a) :: st) h := by
  intro H0 D p l e R s m args below meth c Z C F H locs cells slots ls hR hl hk hn hL hlen
  have hx := C.1
  have hb := C.2.2.1
  exact lv_if_lt hx hb hd ht (fun q => kt (by
    have q2 := q
    rw [← J_0] at q2
    simp only [ge_iff_le, gt_iff_lt, ne_eq, J_inj ra (by decide : rng 0), J_lt ra (by decide : rng 0), J_le ra (by decide : rng 0), J_lt (by decide : rng 0) ra, J_le (by decide : rng 0) ra] at q2
    omega) H0 D p l e R s m args below meth c Z C F H locs cells slots ls hR hl hk hn hL hlen) (fun q => kf (by
    have q2 := q
    rw [← J_0] at q2
    simp only [ge_iff_le, gt_iff_lt, ne_eq, J_inj ra (by decide : rng 0), J_lt ra (by decide : rng 0), J_le ra (by decide : rng 0), J_lt (by decide : rng 0) ra, J_le (by decide : rng 0) ra] at q2
    omega) H0 D p l e R s m args below meth c Z C F H locs cells slots ls hR hl hk hn hL hlen)
theorem r_icmp_lt {a b : Int} {off : Int} {tgt : Nat} (hd : decode mi.2.1 pc = .ok (.if_icmp .lt off, 3)) (ht : (pc : Int) + off = (tgt : Int)) (ra : rng a) (rb : rng b) (kt : a < b → WW κ mi d k n Q E tgt L st h) (kf : b ≤ a → WW κ mi d k n Q E (pc + 3) L st h) : WW κ mi d k n Q E pc L (.int (J b) :: .int (J a) :: st) h := by
  intro H0 D p l e R s m args below meth c Z C F H locs cells slots ls hR hl hk hn hL hlen
  have hx := C.1
  have hb := C.2.2.1
  exact lv_icmp_lt hx hb hd ht (fun q => kt (by
    have q2 := q
    simp only [ge_iff_le, gt_iff_lt, ne_eq, J_inj ra rb, J_lt ra rb, J_le ra rb, J_lt rb ra, J_le rb ra] at q2
    omega) H0 D p l e R s m args below meth c Z C F H locs cells slots ls hR hl hk hn hL hlen) (fun q => kf (by
    have q2 := q
    simp only [ge_iff_le, gt_iff_lt, ne_eq, J_inj ra rb, J_lt ra rb, J_le ra rb, J_lt rb ra, J_le rb ra] at q2
    omega) H0 D p l e R s m args below meth c Z C F H locs cells slots ls hR hl hk hn hL hlen)
theorem r_if_ge {a : Int} {off : Int} {tgt : Nat} (hd : decode mi.2.1 pc = .ok (.ifCond .ge off, 3)) (ht : (pc : Int) + off = (tgt : Int)) (ra : rng a) (kt : 0 ≤ a → WW κ mi d k n Q E tgt L st h) (kf : a < 0 → WW κ mi d k n Q E (pc + 3) L st h) : WW κ mi d k n Q E pc L (.int (J a) :: st) h := by
  intro H0 D p l e R s m args below meth c Z C F H locs cells slots ls hR hl hk hn hL hlen
  have hx := C.1
  have hb := C.2.2.1
  exact lv_if_ge hx hb hd ht (fun q => kt (by
    have q2 := q
    rw [← J_0] at q2
    simp only [ge_iff_le, gt_iff_lt, ne_eq, J_inj ra (by decide : rng 0), J_lt ra (by decide : rng 0), J_le ra (by decide : rng 0), J_lt (by decide : rng 0) ra, J_le (by decide : rng 0) ra] at q2
    omega) H0 D p l e R s m args below meth c Z C F H locs cells slots ls hR hl hk hn hL hlen) (fun q => kf (by
    have q2 := q
    rw [← J_0] at q2
    simp only [ge_iff_le, gt_iff_lt, ne_eq, J_inj ra (by decide : rng 0), J_lt ra (by decide : rng 0), J_le ra (by decide : rng 0), J_lt (by decide : rng 0) ra, J_le (by decide : rng 0) ra] at q2
    omega) H0 D p l e R s m args below meth c Z C F H locs cells slots ls hR hl hk hn hL hlen)
theorem r_icmp_ge {a b : Int} {off : Int} {tgt : Nat} (hd : decode mi.2.1 pc = .ok (.if_icmp .ge off, 3)) (ht : (pc : Int) + off = (tgt : Int)) (ra : rng a) (rb : rng b) (kt : b ≤ a → WW κ mi d k n Q E tgt L st h) (kf : a < b → WW κ mi d k n Q E (pc + 3) L st h) : WW κ mi d k n Q E pc L (.int (J b) :: .int (J a) :: st) h := by
  intro H0 D p l e R s m args below meth c Z C F H locs cells slots ls hR hl hk hn hL hlen
  have hx := C.1
  have hb := C.2.2.1
  exact lv_icmp_ge hx hb hd ht (fun q => kt (by
    have q2 := q
    simp only [ge_iff_le, gt_iff_lt, ne_eq, J_inj ra rb, J_lt ra rb, J_le ra rb, J_lt rb ra, J_le rb ra] at q2
    omega) H0 D p l e R s m args below meth c Z C F H locs cells slots ls hR hl hk hn hL hlen) (fun q => kf (by
    have q2 := q
    simp only [ge_iff_le, gt_iff_lt, ne_eq, J_inj ra rb, J_lt ra rb, J_le ra rb, J_lt rb ra, J_le rb ra] at q2
    omega) H0 D p l e R s m args below meth c Z C F H locs cells slots ls hR hl hk hn hL hlen)
theorem r_if_gt {a : Int} {off : Int} {tgt : Nat} (hd : decode mi.2.1 pc = .ok (.ifCond .gt off, 3)) (ht : (pc : Int) + off = (tgt : Int)) (ra : rng a) (kt : 0 < a → WW κ mi d k n Q E tgt L st h) (kf : a ≤ 0 → WW κ mi d k n Q E (pc + 3) L st h) : WW κ mi d k n Q E pc L (.int (J a) :: st) h := by
  intro H0 D p l e R s m args below meth c Z C F H locs cells slots ls hR hl hk hn hL hlen
  have hx := C.1
  have hb := C.2.2.1
  exact lv_if_gt hx hb hd ht (fun q => kt (by
    have q2 := q
    rw [← J_0] at q2
    simp only [ge_iff_le, gt_iff_lt, ne_eq, J_inj ra (by decide : rng 0), J_lt ra (by decide : rng 0), J_le ra (by decide : rng 0), J_lt (by decide : rng 0) ra, J_le (by decide : rng 0) ra] at q2
    omega) H0 D p l e R s m args below meth c Z C F H locs cells slots ls hR hl hk hn hL hlen) (fun q => kf (by
    have q2 := q
    rw [← J_0] at q2
    simp only [ge_iff_le, gt_iff_lt, ne_eq, J_inj ra (by decide : rng 0), J_lt ra (by decide : rng 0), J_le ra (by decide : rng 0), J_lt (by decide : rng 0) ra, J_le (by decide : rng 0) ra] at q2
    omega) H0 D p l e R s m args below meth c Z C F H locs cells slots ls hR hl hk hn hL hlen)
theorem r_icmp_gt {a b : Int} {off : Int} {tgt : Nat} (hd : decode mi.2.1 pc = .ok (.if_icmp .gt off, 3)) (ht : (pc : Int) + off = (tgt : Int)) (ra : rng a) (rb : rng b) (kt : b < a → WW κ mi d k n Q E tgt L st h) (kf : a ≤ b → WW κ mi d k n Q E (pc + 3) L st h) : WW κ mi d k n Q E pc L (.int (J b) :: .int (J a) :: st) h := by
  intro H0 D p l e R s m args below meth c Z C F H locs cells slots ls hR hl hk hn hL hlen
  have hx := C.1
  have hb := C.2.2.1
  exact lv_icmp_gt hx hb hd ht (fun q => kt (by
    have q2 := q
    simp only [ge_iff_le, gt_iff_lt, ne_eq, J_inj ra rb, J_lt ra rb, J_le ra rb, J_lt rb ra, J_le rb ra] at q2
    omega) H0 D p l e R s m args below meth c Z C F H locs cells slots ls hR hl hk hn hL hlen) (fun q => kf (by
    have q2 := q
    simp only [ge_iff_le, gt_iff_lt, ne_eq, J_inj ra rb, J_lt ra rb, J_le ra rb, J_lt rb ra, J_le rb ra] at q2
    omega) H0 D p l e R s m args below meth c Z C F H locs cells slots ls hR hl hk hn hL hlen)
theorem r_if_le {a : Int} {off : Int} {tgt : Nat} (hd : decode mi.2.1 pc = .ok (.ifCond .le off, 3)) (ht : (pc : Int) + off = (tgt : Int)) (ra : rng a) (kt : a ≤ 0 → WW κ mi d k n Q E tgt L st h) (kf : 0 < a → WW κ mi d k n Q E (pc + 3) L st h) : WW κ mi d k n Q E pc L (.int (J a) :: st) h := by
  intro H0 D p l e R s m args below meth c Z C F H locs cells slots ls hR hl hk hn hL hlen
  have hx := C.1
  have hb := C.2.2.1
  exact lv_if_le hx hb hd ht (fun q => kt (by
    have q2 := q
    rw [← J_0] at q2
    simp only [ge_iff_le, gt_iff_lt, ne_eq, J_inj ra (by decide : rng 0), J_lt ra (by decide : rng 0), J_le ra (by decide : rng 0), J_lt (by decide : rng 0) ra, J_le (by decide : rng 0) ra] at q2
    omega) H0 D p l e R s m args below meth c Z C F H locs cells slots ls hR hl hk hn hL hlen) (fun q => kf (by
    have q2 := q
    rw [← J_0] at q2
    simp only [ge_iff_le, gt_iff_lt, ne_eq, J_inj ra (by decide : rng 0), J_lt ra (by decide : rng 0), J_le ra (by decide : rng 0), J_lt (by decide : rng 0) ra, J_le (by decide : rng 0) ra] at q2
    omega) H0 D p l e R s m args below meth c Z C F H locs cells slots ls hR hl hk hn hL hlen)
theorem r_icmp_le {a b : Int} {off : Int} {tgt : Nat} (hd : decode mi.2.1 pc = .ok (.if_icmp .le off, 3)) (ht : (pc : Int) + off = (tgt : Int)) (ra : rng a) (rb : rng b) (kt : a ≤ b → WW κ mi d k n Q E tgt L st h) (kf : b < a → WW κ mi d k n Q E (pc + 3) L st h) : WW κ mi d k n Q E pc L (.int (J b) :: .int (J a) :: st) h := by
  intro H0 D p l e R s m args below meth c Z C F H locs cells slots ls hR hl hk hn hL hlen
  have hx := C.1
  have hb := C.2.2.1
  exact lv_icmp_le hx hb hd ht (fun q => kt (by
    have q2 := q
    simp only [ge_iff_le, gt_iff_lt, ne_eq, J_inj ra rb, J_lt ra rb, J_le ra rb, J_lt rb ra, J_le rb ra] at q2
    omega) H0 D p l e R s m args below meth c Z C F H locs cells slots ls hR hl hk hn hL hlen) (fun q => kf (by
    have q2 := q
    simp only [ge_iff_le, gt_iff_lt, ne_eq, J_inj ra rb, J_lt ra rb, J_le ra rb, J_lt rb ra, J_le rb ra] at q2
    omega) H0 D p l e R s m args below meth c Z C F H locs cells slots ls hR hl hk hn hL hlen)
theorem r_ifB_eq {b : Bool} {off : Int} {tgt : Nat} (hd : decode mi.2.1 pc = .ok (.ifCond .eq off, 3)) (ht : (pc : Int) + off = (tgt : Int)) (kt : b = false → WW κ mi d k n Q E tgt L st h) (kf : b = true → WW κ mi d k n Q E (pc + 3) L st h) : WW κ mi d k n Q E pc L (.int (J (bI b)) :: st) h := by
  intro H0 D p l e R s m args below meth c Z C F H locs cells slots ls hR hl hk hn hL hlen
  have hx := C.1
  have hb := C.2.2.1
  exact lv_if_eq hx hb hd ht (fun q => kt (by
    rw [← J_0, J_inj (bI_rng b) (by decide), bI_0] at q
    exact q) H0 D p l e R s m args below meth c Z C F H locs cells slots ls hR hl hk hn hL hlen) (fun q => kf (by
    rw [← J_0, J_inj (bI_rng b) (by decide), bI_0] at q
    simpa using q) H0 D p l e R s m args below meth c Z C F H locs cells slots ls hR hl hk hn hL hlen)
theorem r_ifB_ne {b : Bool} {off : Int} {tgt : Nat} (hd : decode mi.2.1 pc = .ok (.ifCond .ne off, 3)) (ht : (pc : Int) + off = (tgt : Int)) (kt : b = true → WW κ mi d k n Q E tgt L st h) (kf : b = false → WW κ mi d k n Q E (pc + 3) L st h) : WW κ mi d k n Q E pc L (.int (J (bI b)) :: st) h := by
  intro H0 D p l e R s m args below meth c Z C F H locs cells slots ls hR hl hk hn hL hlen
  have hx := C.1
  have hb := C.2.2.1
  exact lv_if_ne hx hb hd ht (fun q => kt (by
    rw [← J_0, J_inj (bI_rng b) (by decide), bI_0] at q
    simpa using q) H0 D p l e R s m args below meth c Z C F H locs cells slots ls hR hl hk hn hL hlen) (fun q => kf (by
    rw [← J_0, J_inj (bI_rng b) (by decide), bI_0] at q
    exact q) H0 D p l e R s m args below meth c Z C F H locs cells slots ls hR hl hk hn hL hlen)
theorem r_acmp_ne {rx ry : Option Nat} {off : Int} {tgt : Nat} (hd : decode mi.2.1 pc = .ok (.if_acmp .ne off, 3)) (ht : (pc : Int) + off = (tgt : Int)) (kt : rx ≠ ry → WW κ mi d k n Q E tgt L st h) (kf : rx = ry → WW κ mi d k n Q E (pc + 3) L st h) : WW κ mi d k n Q E pc L (va_rf ry :: va_rf rx :: st) h := by
  intro H0 D p l e R s m args below meth c Z C F H locs cells slots ls hR hl hk hn hL hlen
  have hx := C.1
  have hb := C.2.2.1
  exact lv_acmp_ne hx hb hd ht (fun q => kt (q) H0 D p l e R s m args below meth c Z C F H locs cells slots ls hR hl hk hn hL hlen) (fun q => kf (q) H0 D p l e R s m args below meth c Z C F H locs cells slots ls hR hl hk hn hL hlen)
theorem r_ifnn {x : Nat} {off : Int} {tgt : Nat} (hd : decode mi.2.1 pc = .ok (.ifnonnull off, 3)) (ht : (pc : Int) + off = (tgt : Int)) (kk : WW κ mi d k n Q E tgt L st h) : WW κ mi d k n Q E pc L (.ref x :: st) h :=
  ww_step (fun p l e R s m args below meth c Z H locs cells slots ls hx hb hL k9 => lv_ifnonnull hx hb hd ht k9) kk
theorem r_ifnnN {off : Int} (hd : decode mi.2.1 pc = .ok (.ifnonnull off, 3)) (kk : WW κ mi d k n Q E (pc + 3) L st h) : WW κ mi d k n Q E pc L (.null :: st) h :=
  ww_step (fun p l e R s m args below meth c Z H locs cells slots ls hx hb hL k9 => lv_ifnonnullN hx hb hd k9) kk
theorem r_tabOut {a : Int} {dflt lo hi : Int} {offs : Array Int} {len tgt : Nat} (hd : decode mi.2.1 pc = .ok (.tableswitch dflt lo hi offs, len)) (ra : rng a) (h1 : a < lo ∨ hi < a) (ht : (pc : Int) + dflt = (tgt : Int)) (kk : WW κ mi d k n Q E tgt L st h) : WW κ mi d k n Q E pc L (.int (J a) :: st) h :=
  ww_step (fun p l e R s m args below meth c Z H locs cells slots ls hx hb hL k9 => lv_tableOut hx hb hd (by rw [J_toInt ra]; exact h1) ht k9) kk
theorem r_tabIn {a : Int} {dflt lo hi : Int} {offs : Array Int} {len tgt : Nat} {off : Int} (hd : decode mi.2.1 pc = .ok (.tableswitch dflt lo hi offs, len)) (z : Int) (hz : a = z) (rz : rng z) (h1 : ¬ z < lo ∧ ¬ hi < z) (ho : offs[(z - lo).toNat]? = some off) (ht : (pc : Int) + off = (tgt : Int)) (kk : WW κ mi d k n Q E tgt L st h) : WW κ mi d k n Q E pc L (.int (J a) :: st) h := by
  subst hz
  exact ww_step (fun p l e R s m args below meth c Z H locs cells slots ls hx hb hL k9 => lv_tableIn hx hb hd (by rw [J_toInt rz]; exact h1.1) (by rw [J_toInt rz]; exact h1.2) (by rw [J_toInt rz]; exact ho) ht k9) kk
theorem r_il0 {r : List (Option Value)} {v : Int32} (hd : decode mi.2.1 pc = .ok (.iload_n 0, 1)) (kk : WW κ mi d k n Q E (pc + 1) (some (.int v) :: r) (.int v :: st) h) : WW κ mi d k n Q E pc (some (.int v) :: r) st h :=
  ww_step (fun p l e R s m args below meth c Z H locs cells slots ls hx hb hL k9 => lv_iload_n hx hb hd rfl (hL.2.2 0 _ rfl) k9) kk
theorem r_al0 {r : List (Option Value)} {v : Nat} (hd : decode mi.2.1 pc = .ok (.aload_n 0, 1)) (kk : WW κ mi d k n Q E (pc + 1) (some (.ref v) :: r) (.ref v :: st) h) : WW κ mi d k n Q E pc (some (.ref v) :: r) st h :=
  ww_step (fun p l e R s m args below meth c Z H locs cells slots ls hx hb hL k9 => lv_aload_n hx hb hd rfl (hL.2.2 0 _ rfl) k9) kk
theorem r_aNl0 {r : List (Option Value)} (hd : decode mi.2.1 pc = .ok (.aload_n 0, 1)) (kk : WW κ mi d k n Q E (pc + 1) (some (.null) :: r) (.null :: st) h) : WW κ mi d k n Q E pc (some (.null) :: r) st h :=
  ww_step (fun p l e R s m args below meth c Z H locs cells slots ls hx hb hL k9 => lv_aload_nN hx hb hd rfl (hL.2.2 0 _ rfl) k9) kk
theorem r_dl0 {r : List (Option Value)} {v : UInt64} (hd : decode mi.2.1 pc = .ok (.dload_n 0, 1)) (kk : WW κ mi d k n Q E (pc + 1) (some (.double v) :: r) (.double v :: st) h) : WW κ mi d k n Q E pc (some (.double v) :: r) st h :=
  ww_step (fun p l e R s m args below meth c Z H locs cells slots ls hx hb hL k9 => lv_dload_n hx hb hd rfl (hL.2.2 0 _ rfl) k9) kk
theorem r_il1 {x0 : Option Value} {r : List (Option Value)} {v : Int32} (hd : decode mi.2.1 pc = .ok (.iload_n 1, 1)) (kk : WW κ mi d k n Q E (pc + 1) (x0 :: some (.int v) :: r) (.int v :: st) h) : WW κ mi d k n Q E pc (x0 :: some (.int v) :: r) st h :=
  ww_step (fun p l e R s m args below meth c Z H locs cells slots ls hx hb hL k9 => lv_iload_n hx hb hd rfl (hL.2.2 1 _ rfl) k9) kk
theorem r_al1 {x0 : Option Value} {r : List (Option Value)} {v : Nat} (hd : decode mi.2.1 pc = .ok (.aload_n 1, 1)) (kk : WW κ mi d k n Q E (pc + 1) (x0 :: some (.ref v) :: r) (.ref v :: st) h) : WW κ mi d k n Q E pc (x0 :: some (.ref v) :: r) st h :=
  ww_step (fun p l e R s m args below meth c Z H locs cells slots ls hx hb hL k9 => lv_aload_n hx hb hd rfl (hL.2.2 1 _ rfl) k9) kk
theorem r_aNl1 {x0 : Option Value} {r : List (Option Value)} (hd : decode mi.2.1 pc = .ok (.aload_n 1, 1)) (kk : WW κ mi d k n Q E (pc + 1) (x0 :: some (.null) :: r) (.null :: st) h) : WW κ mi d k n Q E pc (x0 :: some (.null) :: r) st h :=
  ww_step (fun p l e R s m args below meth c Z H locs cells slots ls hx hb hL k9 => lv_aload_nN hx hb hd rfl (hL.2.2 1 _ rfl) k9) kk
theorem r_dl1 {x0 : Option Value} {r : List (Option Value)} {v : UInt64} (hd : decode mi.2.1 pc = .ok (.dload_n 1, 1)) (kk : WW κ mi d k n Q E (pc + 1) (x0 :: some (.double v) :: r) (.double v :: st) h) : WW κ mi d k n Q E pc (x0 :: some (.double v) :: r) st h :=
  ww_step (fun p l e R s m args below meth c Z H locs cells slots ls hx hb hL k9 => lv_dload_n hx hb hd rfl (hL.2.2 1 _ rfl) k9) kk
theorem r_il2 {x0 x1 : Option Value} {r : List (Option Value)} {v : Int32} (hd : decode mi.2.1 pc = .ok (.iload_n 2, 1)) (kk : WW κ mi d k n Q E (pc + 1) (x0 :: x1 :: some (.int v) :: r) (.int v :: st) h) : WW κ mi d k n Q E pc (x0 :: x1 :: some (.int v) :: r) st h :=
  ww_step (fun p l e R s m args below meth c Z H locs cells slots ls hx hb hL k9 => lv_iload_n hx hb hd rfl (hL.2.2 2 _ rfl) k9) kk
theorem r_al2 {x0 x1 : Option Value} {r : List (Option Value)} {v : Nat} (hd : decode mi.2.1 pc = .ok (.aload_n 2, 1)) (kk : WW κ mi d k n Q E (pc + 1) (x0 :: x1 :: some (.ref v) :: r) (.ref v :: st) h) : WW κ mi d k n Q E pc (x0 :: x1 :: some (.ref v) :: r) st h :=
  ww_step (fun p l e R s m args below meth c Z H locs cells slots ls hx hb hL k9 => lv_aload_n hx hb hd rfl (hL.2.2 2 _ rfl) k9) kk
theorem r_aNl2 {x0 x1 : Option Value} {r : List (Option Value)} (hd : decode mi.2.1 pc = .ok (.aload_n 2, 1)) (kk : WW κ mi d k n Q E (pc + 1) (x0 :: x1 :: some (.null) :: r) (.null :: st) h) : WW κ mi d k n Q E pc (x0 :: x1 :: some (.null) :: r) st h :=
  ww_step (fun p l e R s m args below meth c Z H locs cells slots ls hx hb hL k9 => lv_aload_nN hx hb hd rfl (hL.2.2 2 _ rfl) k9) kk
theorem r_dl2 {x0 x1 : Option Value} {r : List (Option Value)} {v : UInt64} (hd : decode mi.2.1 pc = .ok (.dload_n 2, 1)) (kk : WW κ mi d k n Q E (pc + 1) (x0 :: x1 :: some (.double v) :: r) (.double v :: st) h) : WW κ mi d k n Q E pc (x0 :: x1 :: some (.double v) :: r) st h :=
  ww_step (fun p l e R s m args below meth c Z H locs cells slots ls hx hb hL k9 => lv_dload_n hx hb hd rfl (hL.2.2 2 _ rfl) k9) kk
theorem r_il3 {x0 x1 x2 : Option Value} {r : List (Option Value)} {v : Int32} (hd : decode mi.2.1 pc = .ok (.iload_n 3, 1)) (kk : WW κ mi d k n Q E (pc + 1) (x0 :: x1 :: x2 :: some (.int v) :: r) (.int v :: st) h) : WW κ mi d k n Q E pc (x0 :: x1 :: x2 :: some (.int v) :: r) st h :=
  ww_step (fun p l e R s m args below meth c Z H locs cells slots ls hx hb hL k9 => lv_iload_n hx hb hd rfl (hL.2.2 3 _ rfl) k9) kk
theorem r_al3 {x0 x1 x2 : Option Value} {r : List (Option Value)} {v : Nat} (hd : decode mi.2.1 pc = .ok (.aload_n 3, 1)) (kk : WW κ mi d k n Q E (pc + 1) (x0 :: x1 :: x2 :: some (.ref v) :: r) (.ref v :: st) h) : WW κ mi d k n Q E pc (x0 :: x1 :: x2 :: some (.ref v) :: r) st h :=
  ww_step (fun p l e R s m args below meth c Z H locs cells slots ls hx hb hL k9 => lv_aload_n hx hb hd rfl (hL.2.2 3 _ rfl) k9) kk
theorem r_aNl3 {x0 x1 x2 : Option Value} {r : List (Option Value)} (hd : decode mi.2.1 pc = .ok (.aload_n 3, 1)) (kk : WW κ mi d k n Q E (pc + 1) (x0 :: x1 :: x2 :: some (.null) :: r) (.null :: st) h) : WW κ mi d k n Q E pc (x0 :: x1 :: x2 :: some (.null) :: r) st h :=
  ww_step (fun p l e R s m args below meth c Z H locs cells slots ls hx hb hL k9 => lv_aload_nN hx hb hd rfl (hL.2.2 3 _ rfl) k9) kk
theorem r_dl3 {x0 x1 x2 : Option Value} {r : List (Option Value)} {v : UInt64} (hd : decode mi.2.1 pc = .ok (.dload_n 3, 1)) (kk : WW κ mi d k n Q E (pc + 1) (x0 :: x1 :: x2 :: some (.double v) :: r) (.double v :: st) h) : WW κ mi d k n Q E pc (x0 :: x1 :: x2 :: some (.double v) :: r) st h :=
  ww_step (fun p l e R s m args below meth c Z H locs cells slots ls hx hb hL k9 => lv_dload_n hx hb hd rfl (hL.2.2 3 _ rfl) k9) kk
theorem r_il4 {x0 x1 x2 x3 : Option Value} {r : List (Option Value)} {v : Int32} (hd : decode mi.2.1 pc = .ok (.iload 4, 2)) (kk : WW κ mi d k n Q E (pc + 2) (x0 :: x1 :: x2 :: x3 :: some (.int v) :: r) (.int v :: st) h) : WW κ mi d k n Q E pc (x0 :: x1 :: x2 :: x3 :: some (.int v) :: r) st h :=
  ww_step (fun p l e R s m args below meth c Z H locs cells slots ls hx hb hL k9 => lv_iload hx hb hd (hL.2.2 4 _ rfl) k9) kk
theorem r_al4 {x0 x1 x2 x3 : Option Value} {r : List (Option Value)} {v : Nat} (hd : decode mi.2.1 pc = .ok (.aload 4, 2)) (kk : WW κ mi d k n Q E (pc + 2) (x0 :: x1 :: x2 :: x3 :: some (.ref v) :: r) (.ref v :: st) h) : WW κ mi d k n Q E pc (x0 :: x1 :: x2 :: x3 :: some (.ref v) :: r) st h :=
  ww_step (fun p l e R s m args below meth c Z H locs cells slots ls hx hb hL k9 => lv_aload hx hb hd (hL.2.2 4 _ rfl) k9) kk
theorem r_aNl4 {x0 x1 x2 x3 : Option Value} {r : List (Option Value)} (hd : decode mi.2.1 pc = .ok (.aload 4, 2)) (kk : WW κ mi d k n Q E (pc + 2) (x0 :: x1 :: x2 :: x3 :: some (.null) :: r) (.null :: st) h) : WW κ mi d k n Q E pc (x0 :: x1 :: x2 :: x3 :: some (.null) :: r) st h :=
  ww_step (fun p l e R s m args below meth c Z H locs cells slots ls hx hb hL k9 => lv_aloadN hx hb hd (hL.2.2 4 _ rfl) k9) kk
theorem r_dl4 {x0 x1 x2 x3 : Option Value} {r : List (Option Value)} {v : UInt64} (hd : decode mi.2.1 pc = .ok (.dload 4, 2)) (kk : WW κ mi d k n Q E (pc + 2) (x0 :: x1 :: x2 :: x3 :: some (.double v) :: r) (.double v :: st) h) : WW κ mi d k n Q E pc (x0 :: x1 :: x2 :: x3 :: some (.double v) :: r) st h :=
  ww_step (fun p l e R s m args below meth c Z H locs cells slots ls hx hb hL k9 => lv_dload hx hb hd (hL.2.2 4 _ rfl) k9) kk
theorem r_il5 {x0 x1 x2 x3 x4 : Option Value} {r : List (Option Value)} {v : Int32} (hd : decode mi.2.1 pc = .ok (.iload 5, 2)) (kk : WW κ mi d k n Q E (pc + 2) (x0 :: x1 :: x2 :: x3 :: x4 :: some (.int v) :: r) (.int v :: st) h) : WW κ mi d k n Q E pc (x0 :: x1 :: x2 :: x3 :: x4 :: some (.int v) :: r) st h :=
  ww_step (fun p l e R s m args below meth c Z H locs cells slots ls hx hb hL k9 => lv_iload hx hb hd (hL.2.2 5 _ rfl) k9) kk
theorem r_al5 {x0 x1 x2 x3 x4 : Option Value} {r : List (Option Value)} {v : Nat} (hd : decode mi.2.1 pc = .ok (.aload 5, 2)) (kk : WW κ mi d k n Q E (pc + 2) (x0 :: x1 :: x2 :: x3 :: x4 :: some (.ref v) :: r) (.ref v :: st) h) : WW κ mi d k n Q E pc (x0 :: x1 :: x2 :: x3 :: x4 :: some (.ref v) :: r) st h :=
  ww_step (fun p l e R s m args below meth c Z H locs cells slots ls hx hb hL k9 => lv_aload hx hb hd (hL.2.2 5 _ rfl) k9) kk
theorem r_aNl5 {x0 x1 x2 x3 x4 : Option Value} {r : List (Option Value)} (hd : decode mi.2.1 pc = .ok (.aload 5, 2)) (kk : WW κ mi d k n Q E (pc + 2) (x0 :: x1 :: x2 :: x3 :: x4 :: some (.null) :: r) (.null :: st) h) : WW κ mi d k n Q E pc (x0 :: x1 :: x2 :: x3 :: x4 :: some (.null) :: r) st h :=
  ww_step (fun p l e R s m args below meth c Z H locs cells slots ls hx hb hL k9 => lv_aloadN hx hb hd (hL.2.2 5 _ rfl) k9) kk
theorem r_dl5 {x0 x1 x2 x3 x4 : Option Value} {r : List (Option Value)} {v : UInt64} (hd : decode mi.2.1 pc = .ok (.dload 5, 2)) (kk : WW κ mi d k n Q E (pc + 2) (x0 :: x1 :: x2 :: x3 :: x4 :: some (.double v) :: r) (.double v :: st) h) : WW κ mi d k n Q E pc (x0 :: x1 :: x2 :: x3 :: x4 :: some (.double v) :: r) st h :=
  ww_step (fun p l e R s m args below meth c Z H locs cells slots ls hx hb hL k9 => lv_dload hx hb hd (hL.2.2 5 _ rfl) k9) kk
theorem r_il6 {x0 x1 x2 x3 x4 x5 : Option Value} {r : List (Option Value)} {v : Int32} (hd : decode mi.2.1 pc = .ok (.iload 6, 2)) (kk : WW κ mi d k n Q E (pc + 2) (x0 :: x1 :: x2 :: x3 :: x4 :: x5 :: some (.int v) :: r) (.int v :: st) h) : WW κ mi d k n Q E pc (x0 :: x1 :: x2 :: x3 :: x4 :: x5 :: some (.int v) :: r) st h :=
  ww_step (fun p l e R s m args below meth c Z H locs cells slots ls hx hb hL k9 => lv_iload hx hb hd (hL.2.2 6 _ rfl) k9) kk
theorem r_al6 {x0 x1 x2 x3 x4 x5 : Option Value} {r : List (Option Value)} {v : Nat} (hd : decode mi.2.1 pc = .ok (.aload 6, 2)) (kk : WW κ mi d k n Q E (pc + 2) (x0 :: x1 :: x2 :: x3 :: x4 :: x5 :: some (.ref v) :: r) (.ref v :: st) h) : WW κ mi d k n Q E pc (x0 :: x1 :: x2 :: x3 :: x4 :: x5 :: some (.ref v) :: r) st h :=
  ww_step (fun p l e R s m args below meth c Z H locs cells slots ls hx hb hL k9 => lv_aload hx hb hd (hL.2.2 6 _ rfl) k9) kk
theorem r_aNl6 {x0 x1 x2 x3 x4 x5 : Option Value} {r : List (Option Value)} (hd : decode mi.2.1 pc = .ok (.aload 6, 2)) (kk : WW κ mi d k n Q E (pc + 2) (x0 :: x1 :: x2 :: x3 :: x4 :: x5 :: some (.null) :: r) (.null :: st) h) : WW κ mi d k n Q E pc (x0 :: x1 :: x2 :: x3 :: x4 :: x5 :: some (.null) :: r) st h :=
  ww_step (fun p l e R s m args below meth c Z H locs cells slots ls hx hb hL k9 => lv_aloadN hx hb hd (hL.2.2 6 _ rfl) k9) kk
theorem r_dl6 {x0 x1 x2 x3 x4 x5 : Option Value} {r : List (Option Value)} {v : UInt64} (hd : decode mi.2.1 pc = .ok (.dload 6, 2)) (kk : WW κ mi d k n Q E (pc + 2) (x0 :: x1 :: x2 :: x3 :: x4 :: x5 :: some (.double v) :: r) (.double v :: st) h) : WW κ mi d k n Q E pc (x0 :: x1 :: x2 :: x3 :: x4 :: x5 :: some (.double v) :: r) st h :=
  ww_step (fun p l e R s m args below meth c Z H locs cells slots ls hx hb hL k9 => lv_dload hx hb hd (hL.2.2 6 _ rfl) k9) kk
theorem r_il7 {x0 x1 x2 x3 x4 x5 x6 : Option Value} {r : List (Option Value)} {v : Int32} (hd : decode mi.2.1 pc = .ok (.iload 7, 2)) (kk : WW κ mi d k n Q E (pc + 2) (x0 :: x1 :: x2 :: x3 :: x4 :: x5 :: x6 :: some (.int v) :: r) (.int v :: st) h) : WW κ mi d k n Q E pc (x0 :: x1 :: x2 :: x3 :: x4 :: x5 :: x6 :: some (.int v) :: r) st h :=
  ww_step (fun p l e R s m args below meth c Z H locs cells slots ls hx hb hL k9 => lv_iload hx hb hd (hL.2.2 7 _ rfl) k9) kk
theorem r_al7 {x0 x1 x2 x3 x4 x5 x6 : Option Value} {r : List (Option Value)} {v : Nat} (hd : decode mi.2.1 pc = .ok (.aload 7, 2)) (kk : WW κ mi d k n Q E (pc + 2) (x0 :: x1 :: x2 :: x3 :: x4 :: x5 :: x6 :: some (.ref v) :: r) (.ref v :: st) h) : WW κ mi d k n Q E pc (x0 :: x1 :: x2 :: x3 :: x4 :: x5 :: x6 :: some (.ref v) :: r) st h :=
  ww_step (fun p l e R s m args below meth c Z H locs cells slots ls hx hb hL k9 => lv_aload hx hb hd (hL.2.2 7 _ rfl) k9) kk
theorem r_aNl7 {x0 x1 x2 x3 x4 x5 x6 : Option Value} {r : List (Option Value)} (hd : decode mi.2.1 pc = .ok (.aload 7, 2)) (kk : WW κ mi d k n Q E (pc + 2) (x0 :: x1 :: x2 :: x3 :: x4 :: x5 :: x6 :: some (.null) :: r) (.null :: st) h) : WW κ mi d k n Q E pc (x0 :: x1 :: x2 :: x3 :: x4 :: x5 :: x6 :: some (.null) :: r) st h :=
  ww_step (fun p l e R s m args below meth c Z H locs cells slots ls hx hb hL k9 => lv_aloadN hx hb hd (hL.2.2 7 _ rfl) k9) kk
theorem r_dl7 {x0 x1 x2 x3 x4 x5 x6 : Option Value} {r : List (Option Value)} {v : UInt64} (hd : decode mi.2.1 pc = .ok (.dload 7, 2)) (kk : WW κ mi d k n Q E (pc + 2) (x0 :: x1 :: x2 :: x3 :: x4 :: x5 :: x6 :: some (.double v) :: r) (.double v :: st) h) : WW κ mi d k n Q E pc (x0 :: x1 :: x2 :: x3 :: x4 :: x5 :: x6 :: some (.double v) :: r) st h :=
  ww_step (fun p l e R s m args below meth c Z H locs cells slots ls hx hb hL k9 => lv_dload hx hb hd (hL.2.2 7 _ rfl) k9) kk
theorem r_il8 {x0 x1 x2 x3 x4 x5 x6 x7 : Option Value} {r : List (Option Value)} {v : Int32} (hd : decode mi.2.1 pc = .ok (.iload 8, 2)) (kk : WW κ mi d k n Q E (pc + 2) (x0 :: x1 :: x2 :: x3 :: x4 :: x5 :: x6 :: x7 :: some (.int v) :: r) (.int v :: st) h) : WW κ mi d k n Q E pc (x0 :: x1 :: x2 :: x3 :: x4 :: x5 :: x6 :: x7 :: some (.int v) :: r) st h :=
  ww_step (fun p l e R s m args below meth c Z H locs cells slots ls hx hb hL k9 => lv_iload hx hb hd (hL.2.2 8 _ rfl) k9) kk
theorem r_al8 {x0 x1 x2 x3 x4 x5 x6 x7 : Option Value} {r : List (Option Value)} {v : Nat} (hd : decode mi.2.1 pc = .ok (.aload 8, 2)) (kk : WW κ mi d k n Q E (pc + 2) (x0 :: x1 :: x2 :: x3 :: x4 :: x5 :: x6 :: x7 :: some (.ref v) :: r) (.ref v :: st) h) : WW κ mi d k n Q E pc (x0 :: x1 :: x2 :: x3 :: x4 :: x5 :: x6 :: x7 :: some (.ref v) :: r) st h :=
  ww_step (fun p l e R s m args below meth c Z H locs cells slots ls hx hb hL k9 => lv_aload hx hb hd (hL.2.2 8 _ rfl) k9) kk
theorem r_aNl8 {x0 x1 x2 x3 x4 x5 x6 x7 : Option Value} {r : List (Option Value)} (hd : decode mi.2.1 pc = .ok (.aload 8, 2)) (kk : WW κ mi d k n Q E (pc + 2) (x0 :: x1 :: x2 :: x3 :: x4 :: x5 :: x6 :: x7 :: some (.null) :: r) (.null :: st) h) : WW κ mi d k n Q E pc (x0 :: x1 :: x2 :: x3 :: x4 :: x5 :: x6 :: x7 :: some (.null) :: r) st h :=
  ww_step (fun p l e R s m args below meth c Z H locs cells slots ls hx hb hL k9 => lv_aloadN hx hb hd (hL.2.2 8 _ rfl) k9) kk
theorem r_dl8 {x0 x1 x2 x3 x4 x5 x6 x7 : Option Value} {r : List (Option Value)} {v : UInt64} (hd : decode mi.2.1 pc = .ok (.dload 8, 2)) (kk : WW κ mi d k n Q E (pc + 2) (x0 :: x1 :: x2 :: x3 :: x4 :: x5 :: x6 :: x7 :: some (.double v) :: r) (.double v :: st) h) : WW κ mi d k n Q E pc (x0 :: x1 :: x2 :: x3 :: x4 :: x5 :: x6 :: x7 :: some (.double v) :: r) st h :=
  ww_step (fun p l e R s m args below meth c Z H locs cells slots ls hx hb hL k9 => lv_dload hx hb hd (hL.2.2 8 _ rfl) k9) kk
theorem LL_set {ls' : Array Slot} {L : List (Option Value)} {i : Nat} {v : Value} (hi : i < L.length) (hc : ∀ (j : Nat) (w : Value), j + 1 = i → L[j]? = some (some w) → w.category = 1) (hv : lv_has ls' L.length ((i, v) :: (asL L).filter (fun q => !(q.1 == i) && !(q.1 + 1 == i && q.2.category == 2)))) : LL ls' (L.set i (some v)) := by
  refine LL_of_has (by rw [List.length_set]; exact hv) fun k w hk => ?_
  by_cases e : k = i
  · subst e
    rw [List.getElem?_set_self hi] at hk
    cases hk
    exact List.mem_cons_self
  · rw [List.getElem?_set_ne (Ne.symm e)] at hk
    refine List.mem_cons_of_mem _ (List.mem_filter.mpr ⟨asL_mem.mpr hk, ?_⟩)
    simp only [Bool.and_eq_true, Bool.not_eq_true', beq_eq_false_iff_ne, ne_eq, Bool.and_eq_false_iff]
    refine ⟨e, ?_⟩
    by_cases e2 : k + 1 = i
    · exact Or.inr (by rw [hc k w e2 hk]; decide)
    · exact Or.inl e2
theorem c1_at {i : Nat} {L : List (Option Value)} {x : Option Value} (hx : L[i]? = some x) (hc : c1 x = true) : ∀ (j : Nat) (w : Value), j + 1 = i + 1 → L[j]? = some (some w) → w.category = 1 := by
  intro j w hj hw
  have : j = i := by omega
  subst this
  rw [hx] at hw
  cases hw
  simpa [c1] using hc
theorem r_is0 {r : List (Option Value)} {x0 : Option Value} {v : Int32} (hd : decode mi.2.1 pc = .ok (.istore_n 0, 1)) (kk : WW κ mi d k n Q E (pc + 1) (some (.int v) :: r) st h) : WW κ mi d k n Q E pc (x0 :: r) (.int v :: st) h := by
  intro H0 D p l e R s m args below meth c Z C F H locs cells slots ls hR hl hk hn hL hlen
  exact lv_istore_n (i := 0) C.1 C.2.2.1 hd rfl hL.has (show 0 < _ by simp) rfl fun ls9 h9 => kk H0 D p l e R s m args below meth c Z C F H locs cells slots ls9 hR hl hk hn (LL_set (i := 0) (by simp) (fun j w hj _ => absurd hj (by omega)) h9) (by simpa using hlen)
theorem r_as0 {r : List (Option Value)} {x0 : Option Value} {v : Nat} (hd : decode mi.2.1 pc = .ok (.astore_n 0, 1)) (kk : WW κ mi d k n Q E (pc + 1) (some (.ref v) :: r) st h) : WW κ mi d k n Q E pc (x0 :: r) (.ref v :: st) h := by
  intro H0 D p l e R s m args below meth c Z C F H locs cells slots ls hR hl hk hn hL hlen
  exact lv_astore_n (i := 0) C.1 C.2.2.1 hd rfl hL.has (show 0 < _ by simp) rfl fun ls9 h9 => kk H0 D p l e R s m args below meth c Z C F H locs cells slots ls9 hR hl hk hn (LL_set (i := 0) (by simp) (fun j w hj _ => absurd hj (by omega)) h9) (by simpa using hlen)
theorem r_aNs0 {r : List (Option Value)} {x0 : Option Value} (hd : decode mi.2.1 pc = .ok (.astore_n 0, 1)) (kk : WW κ mi d k n Q E (pc + 1) (some (.null) :: r) st h) : WW κ mi d k n Q E pc (x0 :: r) (.null :: st) h := by
  intro H0 D p l e R s m args below meth c Z C F H locs cells slots ls hR hl hk hn hL hlen
  exact lv_astore_nN (i := 0) C.1 C.2.2.1 hd rfl hL.has (show 0 < _ by simp) rfl fun ls9 h9 => kk H0 D p l e R s m args below meth c Z C F H locs cells slots ls9 hR hl hk hn (LL_set (i := 0) (by simp) (fun j w hj _ => absurd hj (by omega)) h9) (by simpa using hlen)
theorem r_is1 {x0 : Option Value} {r : List (Option Value)} {x1 : Option Value} {v : Int32} (hd : decode mi.2.1 pc = .ok (.istore_n 1, 1)) (hc : c1 x0 = true) (kk : WW κ mi d k n Q E (pc + 1) (x0 :: some (.int v) :: r) st h) : WW κ mi d k n Q E pc (x0 :: x1 :: r) (.int v :: st) h := by
  intro H0 D p l e R s m args below meth c Z C F H locs cells slots ls hR hl hk hn hL hlen
  exact lv_istore_n (i := 1) C.1 C.2.2.1 hd rfl hL.has (show 1 < _ by simp) rfl fun ls9 h9 => kk H0 D p l e R s m args below meth c Z C F H locs cells slots ls9 hR hl hk hn (LL_set (i := 1) (by simp) (c1_at (i := 0) rfl hc) h9) (by simpa using hlen)
theorem r_as1 {x0 : Option Value} {r : List (Option Value)} {x1 : Option Value} {v : Nat} (hd : decode mi.2.1 pc = .ok (.astore_n 1, 1)) (hc : c1 x0 = true) (kk : WW κ mi d k n Q E (pc + 1) (x0 :: some (.ref v) :: r) st h) : WW κ mi d k n Q E pc (x0 :: x1 :: r) (.ref v :: st) h := by
  intro H0 D p l e R s m args below meth c Z C F H locs cells slots ls hR hl hk hn hL hlen
  exact lv_astore_n (i := 1) C.1 C.2.2.1 hd rfl hL.has (show 1 < _ by simp) rfl fun ls9 h9 => kk H0 D p l e R s m args below meth c Z C F H locs cells slots ls9 hR hl hk hn (LL_set (i := 1) (by simp) (c1_at (i := 0) rfl hc) h9) (by simpa using hlen)
theorem r_aNs1 {x0 : Option Value} {r : List (Option Value)} {x1 : Option Value} (hd : decode mi.2.1 pc = .ok (.astore_n 1, 1)) (hc : c1 x0 = true) (kk : WW κ mi d k n Q E (pc + 1) (x0 :: some (.null) :: r) st h) : WW κ mi d k n Q E pc (x0 :: x1 :: r) (.null :: st) h := by
  intro H0 D p l e R s m args below meth c Z C F H locs cells slots ls hR hl hk hn hL hlen
  exact lv_astore_nN (i := 1) C.1 C.2.2.1 hd rfl hL.has (show 1 < _ by simp) rfl fun ls9 h9 => kk H0 D p l e R s m args below meth c Z C F H locs cells slots ls9 hR hl hk hn (LL_set (i := 1) (by simp) (c1_at (i := 0) rfl hc) h9) (by simpa using hlen)
theorem r_is2 {x0 x1 : Option Value} {r : List (Option Value)} {x2 : Option Value} {v : Int32} (hd : decode mi.2.1 pc = .ok (.istore_n 2, 1)) (hc : c1 x1 = true) (kk : WW κ mi d k n Q E (pc + 1) (x0 :: x1 :: some (.int v) :: r) st h) : WW κ mi d k n Q E pc (x0 :: x1 :: x2 :: r) (.int v :: st) h := by
  intro H0 D p l e R s m args below meth c Z C F H locs cells slots ls hR hl hk hn hL hlen
  exact lv_istore_n (i := 2) C.1 C.2.2.1 hd rfl hL.has (show 2 < _ by simp) rfl fun ls9 h9 => kk H0 D p l e R s m args below meth c Z C F H locs cells slots ls9 hR hl hk hn (LL_set (i := 2) (by simp) (c1_at (i := 1) rfl hc) h9) (by simpa using hlen)
theorem r_as2 {x0 x1 : Option Value} {r : List (Option Value)} {x2 : Option Value} {v : Nat} (hd : decode mi.2.1 pc = .ok (.astore_n 2, 1)) (hc : c1 x1 = true) (kk : WW κ mi d k n Q E (pc + 1) (x0 :: x1 :: some (.ref v) :: r) st h) : WW κ mi d k n Q E pc (x0 :: x1 :: x2 :: r) (.ref v :: st) h := by
  intro H0 D p l e R s m args below meth c Z C F H locs cells slots ls hR hl hk hn hL hlen
  exact lv_astore_n (i := 2) C.1 C.2.2.1 hd rfl hL.has (show 2 < _ by simp) rfl fun ls9 h9 => kk H0 D p l e R s m args below meth c Z C F H locs cells slots ls9 hR hl hk hn (LL_set (i := 2) (by simp) (c1_at (i := 1) rfl hc) h9) (by simpa using hlen)
theorem r_aNs2 {x0 x1 : Option Value} {r : List (Option Value)} {x2 : Option Value} (hd : decode mi.2.1 pc = .ok (.astore_n 2, 1)) (hc : c1 x1 = true) (kk : WW κ mi d k n Q E (pc + 1) (x0 :: x1 :: some (.null) :: r) st h) : WW κ mi d k n Q E pc (x0 :: x1 :: x2 :: r) (.null :: st) h := by
  intro H0 D p l e R s m args below meth c Z C F H locs cells slots ls hR hl hk hn hL hlen
  exact lv_astore_nN (i := 2) C.1 C.2.2.1 hd rfl hL.has (show 2 < _ by simp) rfl fun ls9 h9 => kk H0 D p l e R s m args below meth c Z C F H locs cells slots ls9 hR hl hk hn (LL_set (i := 2) (by simp) (c1_at (i := 1) rfl hc) h9) (by simpa using hlen)
theorem r_is3 {x0 x1 x2 : Option Value} {r : List (Option Value)} {x3 : Option Value} {v : Int32} (hd : decode mi.2.1 pc = .ok (.istore_n 3, 1)) (hc : c1 x2 = true) (kk : WW κ mi d k n Q E (pc + 1) (x0 :: x1 :: x2 :: some (.int v) :: r) st h) : WW κ mi d k n Q E pc (x0 :: x1 :: x2 :: x3 :: r) (.int v :: st) h := by
  intro H0 D p l e R s m args below meth c Z C F H locs cells slots ls hR hl hk hn hL hlen
  exact lv_istore_n (i := 3) C.1 C.2.2.1 hd rfl hL.has (show 3 < _ by simp) rfl fun ls9 h9 => kk H0 D p l e R s m args below meth c Z C F H locs cells slots ls9 hR hl hk hn (LL_set (i := 3) (by simp) (c1_at (i := 2) rfl hc) h9) (by simpa using hlen)
theorem r_as3 {x0 x1 x2 : Option Value} {r : List (Option Value)} {x3 : Option Value} {v : Nat} (hd : decode mi.2.1 pc = .ok (.astore_n 3, 1)) (hc : c1 x2 = true) (kk : WW κ mi d k n Q E (pc + 1) (x0 :: x1 :: x2 :: some (.ref v) :: r) st h) : WW κ mi d k n Q E pc (x0 :: x1 :: x2 :: x3 :: r) (.ref v :: st) h := by
  intro H0 D p l e R s m args below meth c Z C F H locs cells slots ls hR hl hk hn hL hlen
  exact lv_astore_n (i := 3) C.1 C.2.2.1 hd rfl hL.has (show 3 < _ by simp) rfl fun ls9 h9 => kk H0 D p l e R s m args below meth c Z C F H locs cells slots ls9 hR hl hk hn (LL_set (i := 3) (by simp) (c1_at (i := 2) rfl hc) h9) (by simpa using hlen)
theorem r_aNs3 {x0 x1 x2 : Option Value} {r : List (Option Value)} {x3 : Option Value} (hd : decode mi.2.1 pc = .ok (.astore_n 3, 1)) (hc : c1 x2 = true) (kk : WW κ mi d k n Q E (pc + 1) (x0 :: x1 :: x2 :: some (.null) :: r) st h) : WW κ mi d k n Q E pc (x0 :: x1 :: x2 :: x3 :: r) (.null :: st) h := by
  intro H0 D p l e R s m args below meth c Z C F H locs cells slots ls hR hl hk hn hL hlen
  exact lv_astore_nN (i := 3) C.1 C.2.2.1 hd rfl hL.has (show 3 < _ by simp) rfl fun ls9 h9 => kk H0 D p l e R s m args below meth c Z C F H locs cells slots ls9 hR hl hk hn (LL_set (i := 3) (by simp) (c1_at (i := 2) rfl hc) h9) (by simpa using hlen)
theorem r_is4 {x0 x1 x2 x3 : Option Value} {r : List (Option Value)} {x4 : Option Value} {v : Int32} (hd : decode mi.2.1 pc = .ok (.istore 4, 2)) (hc : c1 x3 = true) (kk : WW κ mi d k n Q E (pc + 2) (x0 :: x1 :: x2 :: x3 :: some (.int v) :: r) st h) : WW κ mi d k n Q E pc (x0 :: x1 :: x2 :: x3 :: x4 :: r) (.int v :: st) h := by
  intro H0 D p l e R s m args below meth c Z C F H locs cells slots ls hR hl hk hn hL hlen
  exact lv_istore (i := 4) C.1 C.2.2.1 hd hL.has (show 4 < _ by simp) rfl fun ls9 h9 => kk H0 D p l e R s m args below meth c Z C F H locs cells slots ls9 hR hl hk hn (LL_set (i := 4) (by simp) (c1_at (i := 3) rfl hc) h9) (by simpa using hlen)
theorem r_as4 {x0 x1 x2 x3 : Option Value} {r : List (Option Value)} {x4 : Option Value} {v : Nat} (hd : decode mi.2.1 pc = .ok (.astore 4, 2)) (hc : c1 x3 = true) (kk : WW κ mi d k n Q E (pc + 2) (x0 :: x1 :: x2 :: x3 :: some (.ref v) :: r) st h) : WW κ mi d k n Q E pc (x0 :: x1 :: x2 :: x3 :: x4 :: r) (.ref v :: st) h := by
  intro H0 D p l e R s m args below meth c Z C F H locs cells slots ls hR hl hk hn hL hlen
  exact lv_astore (i := 4) C.1 C.2.2.1 hd hL.has (show 4 < _ by simp) rfl fun ls9 h9 => kk H0 D p l e R s m args below meth c Z C F H locs cells slots ls9 hR hl hk hn (LL_set (i := 4) (by simp) (c1_at (i := 3) rfl hc) h9) (by simpa using hlen)
theorem r_aNs4 {x0 x1 x2 x3 : Option Value} {r : List (Option Value)} {x4 : Option Value} (hd : decode mi.2.1 pc = .ok (.astore 4, 2)) (hc : c1 x3 = true) (kk : WW κ mi d k n Q E (pc + 2) (x0 :: x1 :: x2 :: x3 :: some (.null) :: r) st h) : WW κ mi d k n Q E pc (x0 :: x1 :: x2 :: x3 :: x4 :: r) (.null :: st) h := by
  intro H0 D p l e R s m args below meth c Z C F H locs cells slots ls hR hl hk hn hL hlen
  exact lv_astoreN (i := 4) C.1 C.2.2.1 hd hL.has (show 4 < _ by simp) rfl fun ls9 h9 => kk H0 D p l e R s m args below meth c Z C F H locs cells slots ls9 hR hl hk hn (LL_set (i := 4) (by simp) (c1_at (i := 3) rfl hc) h9) (by simpa using hlen)
theorem r_is5 {x0 x1 x2 x3 x4 : Option Value} {r : List (Option Value)} {x5 : Option Value} {v : Int32} (hd : decode mi.2.1 pc = .ok (.istore 5, 2)) (hc : c1 x4 = true) (kk : WW κ mi d k n Q E (pc + 2) (x0 :: x1 :: x2 :: x3 :: x4 :: some (.int v) :: r) st h) : WW κ mi d k n Q E pc (x0 :: x1 :: x2 :: x3 :: x4 :: x5 :: r) (.int v :: st) h := by
  intro H0 D p l e R s m args below meth c Z C F H locs cells slots ls hR hl hk hn hL hlen
  exact lv_istore (i := 5) C.1 C.2.2.1 hd hL.has (show 5 < _ by simp) rfl fun ls9 h9 => kk H0 D p l e R s m args below meth c Z C F H locs cells slots ls9 hR hl hk hn (LL_set (i := 5) (by simp) (c1_at (i := 4) rfl hc) h9) (by simpa using hlen)
theorem r_as5 {x0 x1 x2 x3 x4 : Option Value} {r : List (Option Value)} {x5 : Option Value} {v : Nat} (hd : decode mi.2.1 pc = .ok (.astore 5, 2)) (hc : c1 x4 = true) (kk : WW κ mi d k n Q E (pc + 2) (x0 :: x1 :: x2 :: x3 :: x4 :: some (.ref v) :: r) st h) : WW κ mi d k n Q E pc (x0 :: x1 :: x2 :: x3 :: x4 :: x5 :: r) (.ref v :: st) h := by
  intro H0 D p l e R s m args below meth c Z C F H locs cells slots ls hR hl hk hn hL hlen
  exact lv_astore (i := 5) C.1 C.2.2.1 hd hL.has (show 5 < _ by simp) rfl fun ls9 h9 => kk H0 D p l e R s m args below meth c Z C F H locs cells slots ls9 hR hl hk hn (LL_set (i := 5) (by simp) (c1_at (i := 4) rfl hc) h9) (by simpa using hlen)
theorem r_aNs5 {x0 x1 x2 x3 x4 : Option Value} {r : List (Option Value)} {x5 : Option Value} (hd : decode mi.2.1 pc = .ok (.astore 5, 2)) (hc : c1 x4 = true) (kk : WW κ mi d k n Q E (pc + 2) (x0 :: x1 :: x2 :: x3 :: x4 :: some (.null) :: r) st h) : WW κ mi d k n Q E pc (x0 :: x1 :: x2 :: x3 :: x4 :: x5 :: r) (.null :: st) h := by
  intro H0 D p l e R s m args below meth c Z C F H locs cells slots ls hR hl hk hn hL hlen
  exact lv_astoreN (i := 5) C.1 C.2.2.1 hd hL.has (show 5 < _ by simp) rfl fun ls9 h9 => kk H0 D p l e R s m args below meth c Z C F H locs cells slots ls9 hR hl hk hn (LL_set (i := 5) (by simp) (c1_at (i := 4) rfl hc) h9) (by simpa using hlen)
theorem r_is6 {x0 x1 x2 x3 x4 x5 : Option Value} {r : List (Option Value)} {x6 : Option Value} {v : Int32} (hd : decode mi.2.1 pc = .ok (.istore 6, 2)) (hc : c1 x5 = true) (kk : WW κ mi d k n Q E (pc + 2) (x0 :: x1 :: x2 :: x3 :: x4 :: x5 :: some (.int v) :: r) st h) : WW κ mi d k n Q E pc (x0 :: x1 :: x2 :: x3 :: x4 :: x5 :: x6 :: r) (.int v :: st) h := by
  intro H0 D p l e R s m args below meth c Z C F H locs cells slots ls hR hl hk hn hL hlen
  exact lv_istore (i := 6) C.1 C.2.2.1 hd hL.has (show 6 < _ by simp) rfl fun ls9 h9 => kk H0 D p l e R s m args below meth c Z C F H locs cells slots ls9 hR hl hk hn (LL_set (i := 6) (by simp) (c1_at (i := 5) rfl hc) h9) (by simpa using hlen)
theorem r_as6 {x0 x1 x2 x3 x4 x5 : Option Value} {r : List (Option Value)} {x6 : Option Value} {v : Nat} (hd : decode mi.2.1 pc = .ok (.astore 6, 2)) (hc : c1 x5 = true) (kk : WW κ mi d k n Q E (pc + 2) (x0 :: x1 :: x2 :: x3 :: x4 :: x5 :: some (.ref v) :: r) st h) : WW κ mi d k n Q E pc (x0 :: x1 :: x2 :: x3 :: x4 :: x5 :: x6 :: r) (.ref v :: st) h := by
  intro H0 D p l e R s m args below meth c Z C F H locs cells slots ls hR hl hk hn hL hlen
  exact lv_astore (i := 6) C.1 C.2.2.1 hd hL.has (show 6 < _ by simp) rfl fun ls9 h9 => kk H0 D p l e R s m args below meth c Z C F H locs cells slots ls9 hR hl hk hn (LL_set (i := 6) (by simp) (c1_at (i := 5) rfl hc) h9) (by simpa using hlen)
theorem r_aNs6 {x0 x1 x2 x3 x4 x5 : Option Value} {r : List (Option Value)} {x6 : Option Value} (hd : decode mi.2.1 pc = .ok (.astore 6, 2)) (hc : c1 x5 = true) (kk : WW κ mi d k n Q E (pc + 2) (x0 :: x1 :: x2 :: x3 :: x4 :: x5 :: some (.null) :: r) st h) : WW κ mi d k n Q E pc (x0 :: x1 :: x2 :: x3 :: x4 :: x5 :: x6 :: r) (.null :: st) h := by
  intro H0 D p l e R s m args below meth c Z C F H locs cells slots ls hR hl hk hn hL hlen
  exact lv_astoreN (i := 6) C.1 C.2.2.1 hd hL.has (show 6 < _ by simp) rfl fun ls9 h9 => kk H0 D p l e R s m args below meth c Z C F H locs cells slots ls9 hR hl hk hn (LL_set (i := 6) (by simp) (c1_at (i := 5) rfl hc) h9) (by simpa using hlen)
theorem r_is7 {x0 x1 x2 x3 x4 x5 x6 : Option Value} {r : List (Option Value)} {x7 : Option Value} {v : Int32} (hd : decode mi.2.1 pc = .ok (.istore 7, 2)) (hc : c1 x6 = true) (kk : WW κ mi d k n Q E (pc + 2) (x0 :: x1 :: x2 :: x3 :: x4 :: x5 :: x6 :: some (.int v) :: r) st h) : WW κ mi d k n Q E pc (x0 :: x1 :: x2 :: x3 :: x4 :: x5 :: x6 :: x7 :: r) (.int v :: st) h := by
  intro H0 D p l e R s m args below meth c Z C F H locs cells slots ls hR hl hk hn hL hlen
  exact lv_istore (i := 7) C.1 C.2.2.1 hd hL.has (show 7 < _ by simp) rfl fun ls9 h9 => kk H0 D p l e R s m args below meth c Z C F H locs cells slots ls9 hR hl hk hn (LL_set (i := 7) (by simp) (c1_at (i := 6) rfl hc) h9) (by simpa using hlen)
theorem r_as7 {x0 x1 x2 x3 x4 x5 x6 : Option Value} {r : List (Option Value)} {x7 : Option Value} {v : Nat} (hd : decode mi.2.1 pc = .ok (.astore 7, 2)) (hc : c1 x6 = true) (kk : WW κ mi d k n Q E (pc + 2) (x0 :: x1 :: x2 :: x3 :: x4 :: x5 :: x6 :: some (.ref v) :: r) st h) : WW κ mi d k n Q E pc (x0 :: x1 :: x2 :: x3 :: x4 :: x5 :: x6 :: x7 :: r) (.ref v :: st) h := by
  intro H0 D p l e R s m args below meth c Z C F H locs cells slots ls hR hl hk hn hL hlen
  exact lv_astore (i := 7) C.1 C.2.2.1 hd hL.has (show 7 < _ by simp) rfl fun ls9 h9 => kk H0 D p l e R s m args below meth c Z C F H locs cells slots ls9 hR hl hk hn (LL_set (i := 7) (by simp) (c1_at (i := 6) rfl hc) h9) (by simpa using hlen)
theorem r_aNs7 {x0 x1 x2 x3 x4 x5 x6 : Option Value} {r : List (Option Value)} {x7 : Option Value} (hd : decode mi.2.1 pc = .ok (.astore 7, 2)) (hc : c1 x6 = true) (kk : WW κ mi d k n Q E (pc + 2) (x0 :: x1 :: x2 :: x3 :: x4 :: x5 :: x6 :: some (.null) :: r) st h) : WW κ mi d k n Q E pc (x0 :: x1 :: x2 :: x3 :: x4 :: x5 :: x6 :: x7 :: r) (.null :: st) h := by
  intro H0 D p l e R s m args below meth c Z C F H locs cells slots ls hR hl hk hn hL hlen
  exact lv_astoreN (i := 7) C.1 C.2.2.1 hd hL.has (show 7 < _ by simp) rfl fun ls9 h9 => kk H0 D p l e R s m args below meth c Z C F H locs cells slots ls9 hR hl hk hn (LL_set (i := 7) (by simp) (c1_at (i := 6) rfl hc) h9) (by simpa using hlen)
theorem r_is8 {x0 x1 x2 x3 x4 x5 x6 x7 : Option Value} {r : List (Option Value)} {x8 : Option Value} {v : Int32} (hd : decode mi.2.1 pc = .ok (.istore 8, 2)) (hc : c1 x7 = true) (kk : WW κ mi d k n Q E (pc + 2) (x0 :: x1 :: x2 :: x3 :: x4 :: x5 :: x6 :: x7 :: some (.int v) :: r) st h) : WW κ mi d k n Q E pc (x0 :: x1 :: x2 :: x3 :: x4 :: x5 :: x6 :: x7 :: x8 :: r) (.int v :: st) h := by
  intro H0 D p l e R s m args below meth c Z C F H locs cells slots ls hR hl hk hn hL hlen
  exact lv_istore (i := 8) C.1 C.2.2.1 hd hL.has (show 8 < _ by simp) rfl fun ls9 h9 => kk H0 D p l e R s m args below meth c Z C F H locs cells slots ls9 hR hl hk hn (LL_set (i := 8) (by simp) (c1_at (i := 7) rfl hc) h9) (by simpa using hlen)
theorem r_as8 {x0 x1 x2 x3 x4 x5 x6 x7 : Option Value} {r : List (Option Value)} {x8 : Option Value} {v : Nat} (hd : decode mi.2.1 pc = .ok (.astore 8, 2)) (hc : c1 x7 = true) (kk : WW κ mi d k n Q E (pc + 2) (x0 :: x1 :: x2 :: x3 :: x4 :: x5 :: x6 :: x7 :: some (.ref v) :: r) st h) : WW κ mi d k n Q E pc (x0 :: x1 :: x2 :: x3 :: x4 :: x5 :: x6 :: x7 :: x8 :: r) (.ref v :: st) h := by
  intro H0 D p l e R s m args below meth c Z C F H locs cells slots ls hR hl hk hn hL hlen
  exact lv_astore (i := 8) C.1 C.2.2.1 hd hL.has (show 8 < _ by simp) rfl fun ls9 h9 => kk H0 D p l e R s m args below meth c Z C F H locs cells slots ls9 hR hl hk hn (LL_set (i := 8) (by simp) (c1_at (i := 7) rfl hc) h9) (by simpa using hlen)
theorem r_aNs8 {x0 x1 x2 x3 x4 x5 x6 x7 : Option Value} {r : List (Option Value)} {x8 : Option Value} (hd : decode mi.2.1 pc = .ok (.astore 8, 2)) (hc : c1 x7 = true) (kk : WW κ mi d k n Q E (pc + 2) (x0 :: x1 :: x2 :: x3 :: x4 :: x5 :: x6 :: x7 :: some (.null) :: r) st h) : WW κ mi d k n Q E pc (x0 :: x1 :: x2 :: x3 :: x4 :: x5 :: x6 :: x7 :: x8 :: r) (.null :: st) h := by
  intro H0 D p l e R s m args below meth c Z C F H locs cells slots ls hR hl hk hn hL hlen
  exact lv_astoreN (i := 8) C.1 C.2.2.1 hd hL.has (show 8 < _ by simp) rfl fun ls9 h9 => kk H0 D p l e R s m args below meth c Z C F H locs cells slots ls9 hR hl hk hn (LL_set (i := 8) (by simp) (c1_at (i := 7) rfl hc) h9) (by simpa using hlen)
theorem r_inc0 {r : List (Option Value)} {a z : Int} (hd : decode mi.2.1 pc = .ok (.iinc 0 z, 3)) (kk : WW κ mi d k n Q E (pc + 3) (some (.int (J (a + z))) :: r) st h) : WW κ mi d k n Q E pc (some (.int (J a)) :: r) st h := by
  intro H0 D p l e R s m args below meth c Z C F H locs cells slots ls hR hl hk hn hL hlen
  obtain ⟨j, hj⟩ := List.getElem?_of_mem (asL_mem.mpr (show (some (Value.int (J a)) :: r)[0]? = some (some (.int (J a))) from rfl))
  exact lv_iinc (v := J (a + z)) C.1 C.2.2.1 hd hL.has hj (J_add a z) (by simp) rfl fun ls9 h9 => kk H0 D p l e R s m args below meth c Z C F H locs cells slots ls9 hR hl hk hn (LL_set (i := 0) (by simp) (fun j w hj _ => absurd hj (by omega)) h9) (by simpa using hlen)
theorem r_inc1 {x0 : Option Value} {r : List (Option Value)} {a z : Int} (hd : decode mi.2.1 pc = .ok (.iinc 1 z, 3)) (hc : c1 x0 = true) (kk : WW κ mi d k n Q E (pc + 3) (x0 :: some (.int (J (a + z))) :: r) st h) : WW κ mi d k n Q E pc (x0 :: some (.int (J a)) :: r) st h := by
  intro H0 D p l e R s m args below meth c Z C F H locs cells slots ls hR hl hk hn hL hlen
  obtain ⟨j, hj⟩ := List.getElem?_of_mem (asL_mem.mpr (show (x0 :: some (Value.int (J a)) :: r)[1]? = some (some (.int (J a))) from rfl))
  exact lv_iinc (v := J (a + z)) C.1 C.2.2.1 hd hL.has hj (J_add a z) (by simp) rfl fun ls9 h9 => kk H0 D p l e R s m args below meth c Z C F H locs cells slots ls9 hR hl hk hn (LL_set (i := 1) (by simp) (c1_at (i := 0) rfl hc) h9) (by simpa using hlen)
theorem r_inc2 {x0 x1 : Option Value} {r : List (Option Value)} {a z : Int} (hd : decode mi.2.1 pc = .ok (.iinc 2 z, 3)) (hc : c1 x1 = true) (kk : WW κ mi d k n Q E (pc + 3) (x0 :: x1 :: some (.int (J (a + z))) :: r) st h) : WW κ mi d k n Q E pc (x0 :: x1 :: some (.int (J a)) :: r) st h := by
  intro H0 D p l e R s m args below meth c Z C F H locs cells slots ls hR hl hk hn hL hlen
  obtain ⟨j, hj⟩ := List.getElem?_of_mem (asL_mem.mpr (show (x0 :: x1 :: some (Value.int (J a)) :: r)[2]? = some (some (.int (J a))) from rfl))
  exact lv_iinc (v := J (a + z)) C.1 C.2.2.1 hd hL.has hj (J_add a z) (by simp) rfl fun ls9 h9 => kk H0 D p l e R s m args below meth c Z C F H locs cells slots ls9 hR hl hk hn (LL_set (i := 2) (by simp) (c1_at (i := 1) rfl hc) h9) (by simpa using hlen)
theorem r_inc3 {x0 x1 x2 : Option Value} {r : List (Option Value)} {a z : Int} (hd : decode mi.2.1 pc = .ok (.iinc 3 z, 3)) (hc : c1 x2 = true) (kk : WW κ mi d k n Q E (pc + 3) (x0 :: x1 :: x2 :: some (.int (J (a + z))) :: r) st h) : WW κ mi d k n Q E pc (x0 :: x1 :: x2 :: some (.int (J a)) :: r) st h := by
  intro H0 D p l e R s m args below meth c Z C F H locs cells slots ls hR hl hk hn hL hlen
  obtain ⟨j, hj⟩ := List.getElem?_of_mem (asL_mem.mpr (show (x0 :: x1 :: x2 :: some (Value.int (J a)) :: r)[3]? = some (some (.int (J a))) from rfl))
  exact lv_iinc (v := J (a + z)) C.1 C.2.2.1 hd hL.has hj (J_add a z) (by simp) rfl fun ls9 h9 => kk H0 D p l e R s m args below meth c Z C F H locs cells slots ls9 hR hl hk hn (LL_set (i := 3) (by simp) (c1_at (i := 2) rfl hc) h9) (by simpa using hlen)
theorem r_inc4 {x0 x1 x2 x3 : Option Value} {r : List (Option Value)} {a z : Int} (hd : decode mi.2.1 pc = .ok (.iinc 4 z, 3)) (hc : c1 x3 = true) (kk : WW κ mi d k n Q E (pc + 3) (x0 :: x1 :: x2 :: x3 :: some (.int (J (a + z))) :: r) st h) : WW κ mi d k n Q E pc (x0 :: x1 :: x2 :: x3 :: some (.int (J a)) :: r) st h := by
  intro H0 D p l e R s m args below meth c Z C F H locs cells slots ls hR hl hk hn hL hlen
  obtain ⟨j, hj⟩ := List.getElem?_of_mem (asL_mem.mpr (show (x0 :: x1 :: x2 :: x3 :: some (Value.int (J a)) :: r)[4]? = some (some (.int (J a))) from rfl))
  exact lv_iinc (v := J (a + z)) C.1 C.2.2.1 hd hL.has hj (J_add a z) (by simp) rfl fun ls9 h9 => kk H0 D p l e R s m args below meth c Z C F H locs cells slots ls9 hR hl hk hn (LL_set (i := 4) (by simp) (c1_at (i := 3) rfl hc) h9) (by simpa using hlen)
theorem r_inc5 {x0 x1 x2 x3 x4 : Option Value} {r : List (Option Value)} {a z : Int} (hd : decode mi.2.1 pc = .ok (.iinc 5 z, 3)) (hc : c1 x4 = true) (kk : WW κ mi d k n Q E (pc + 3) (x0 :: x1 :: x2 :: x3 :: x4 :: some (.int (J (a + z))) :: r) st h) : WW κ mi d k n Q E pc (x0 :: x1 :: x2 :: x3 :: x4 :: some (.int (J a)) :: r) st h := by
  intro H0 D p l e R s m args below meth c Z C F H locs cells slots ls hR hl hk hn hL hlen
  obtain ⟨j, hj⟩ := List.getElem?_of_mem (asL_mem.mpr (show (x0 :: x1 :: x2 :: x3 :: x4 :: some (Value.int (J a)) :: r)[5]? = some (some (.int (J a))) from rfl))
  exact lv_iinc (v := J (a + z)) C.1 C.2.2.1 hd hL.has hj (J_add a z) (by simp) rfl fun ls9 h9 => kk H0 D p l e R s m args below meth c Z C F H locs cells slots ls9 hR hl hk hn (LL_set (i := 5) (by simp) (c1_at (i := 4) rfl hc) h9) (by simpa using hlen)
theorem r_inc6 {x0 x1 x2 x3 x4 x5 : Option Value} {r : List (Option Value)} {a z : Int} (hd : decode mi.2.1 pc = .ok (.iinc 6 z, 3)) (hc : c1 x5 = true) (kk : WW κ mi d k n Q E (pc + 3) (x0 :: x1 :: x2 :: x3 :: x4 :: x5 :: some (.int (J (a + z))) :: r) st h) : WW κ mi d k n Q E pc (x0 :: x1 :: x2 :: x3 :: x4 :: x5 :: some (.int (J a)) :: r) st h := by
  intro H0 D p l e R s m args below meth c Z C F H locs cells slots ls hR hl hk hn hL hlen
  obtain ⟨j, hj⟩ := List.getElem?_of_mem (asL_mem.mpr (show (x0 :: x1 :: x2 :: x3 :: x4 :: x5 :: some (Value.int (J a)) :: r)[6]? = some (some (.int (J a))) from rfl))
  exact lv_iinc (v := J (a + z)) C.1 C.2.2.1 hd hL.has hj (J_add a z) (by simp) rfl fun ls9 h9 => kk H0 D p l e R s m args below meth c Z C F H locs cells slots ls9 hR hl hk hn (LL_set (i := 6) (by simp) (c1_at (i := 5) rfl hc) h9) (by simpa using hlen)
theorem r_inc7 {x0 x1 x2 x3 x4 x5 x6 : Option Value} {r : List (Option Value)} {a z : Int} (hd : decode mi.2.1 pc = .ok (.iinc 7 z, 3)) (hc : c1 x6 = true) (kk : WW κ mi d k n Q E (pc + 3) (x0 :: x1 :: x2 :: x3 :: x4 :: x5 :: x6 :: some (.int (J (a + z))) :: r) st h) : WW κ mi d k n Q E pc (x0 :: x1 :: x2 :: x3 :: x4 :: x5 :: x6 :: some (.int (J a)) :: r) st h := by
  intro H0 D p l e R s m args below meth c Z C F H locs cells slots ls hR hl hk hn hL hlen
  obtain ⟨j, hj⟩ := List.getElem?_of_mem (asL_mem.mpr (show (x0 :: x1 :: x2 :: x3 :: x4 :: x5 :: x6 :: some (Value.int (J a)) :: r)[7]? = some (some (.int (J a))) from rfl))
  exact lv_iinc (v := J (a + z)) C.1 C.2.2.1 hd hL.has hj (J_add a z) (by simp) rfl fun ls9 h9 => kk H0 D p l e R s m args below meth c Z C F H locs cells slots ls9 hR hl hk hn (LL_set (i := 7) (by simp) (c1_at (i := 6) rfl hc) h9) (by simpa using hlen)
theorem r_inc8 {x0 x1 x2 x3 x4 x5 x6 x7 : Option Value} {r : List (Option Value)} {a z : Int} (hd : decode mi.2.1 pc = .ok (.iinc 8 z, 3)) (hc : c1 x7 = true) (kk : WW κ mi d k n Q E (pc + 3) (x0 :: x1 :: x2 :: x3 :: x4 :: x5 :: x6 :: x7 :: some (.int (J (a + z))) :: r) st h) : WW κ mi d k n Q E pc (x0 :: x1 :: x2 :: x3 :: x4 :: x5 :: x6 :: x7 :: some (.int (J a)) :: r) st h := by
  intro H0 D p l e R s m args below meth c Z C F H locs cells slots ls hR hl hk hn hL hlen
  obtain ⟨j, hj⟩ := List.getElem?_of_mem (asL_mem.mpr (show (x0 :: x1 :: x2 :: x3 :: x4 :: x5 :: x6 :: x7 :: some (Value.int (J a)) :: r)[8]? = some (some (.int (J a))) from rfl))
  exact lv_iinc (v := J (a + z)) C.1 C.2.2.1 hd hL.has hj (J_add a z) (by simp) rfl fun ls9 h9 => kk H0 D p l e R s m args below meth c Z C F H locs cells slots ls9 hR hl hk hn (LL_set (i := 8) (by simp) (c1_at (i := 7) rfl hc) h9) (by simpa using hlen)
end ROWS
