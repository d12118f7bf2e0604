/-! ===== THE CLASS'S OWN CELLS: S k i is place i of array k, or field i of object k (a reference as a number; -1: null) ===== -/
def rz (z : Int) : Option Nat := if z < 0 then none else some z.toNat
theorem rz_n {z : Int} (h : z < 0) : rz z = none := if_pos h
theorem rz_p {z : Int} (h : 0 ≤ z) : rz z = some z.toNat := if_neg (by omega)
theorem rz_c (n : Nat) : rz (n : Int) = some n := by
  rw [rz_p (by omega)]
  rfl
theorem rz_inj {a b : Int} (ha : -1 ≤ a) (hb : -1 ≤ b) (h : rz a = rz b) : a = b := by
  unfold rz at h
  by_cases x : a < 0 <;> by_cases y : b < 0
  · omega
  · rw [if_pos x, if_neg y] at h; cases h
  · rw [if_neg x, if_pos y] at h; cases h
  · rw [if_neg x, if_neg y] at h
    have := Option.some.inj h
    omega
abbrev CST : Type := Nat → Int → Int
def bids : List Nat := [0, 1, 2, 3, 4, 5, 6, 7, 8, 9, 10, 11, 12, 13, 14, 15, 16, 17, 18, 19, 20, 21]
def bcell (B : Nat → Nat) (S : CST) (k : Nat) : HC := match k with
  | 0 => (true, .inr (13, [.ref (B 1), .ref (B 2), .ref (B 3), .ref (B 4), .ref (B 5), va_rf (rz (S 0 5)), va_rf (rz (S 0 6)), .int (J (S 0 7)), .int (J (S 0 8))]))
  | 1 => (true, .inr (11, [.ref (B 6), .int (J (S 1 1)), .int (J (S 1 2)), .ref (B 7), .ref (B 9), .int (J (S 1 5)), .ref (B 10), .int (J (S 1 7))]))
  | 2 => (true, .inr (9, [.ref (B 11), .int (J (S 2 1))]))
  | 3 => (true, .inr (4, [va_rf (rz (S 3 0)), .int (J (S 3 1)), .int (J (S 3 2)), .ref (B 12), .ref (B 13), .ref (B 14), .ref (B 15), .int (J (S 3 7)), .int (J (S 3 8)), .int (J (S 3 9))]))
  | 4 => (true, .inr (4, [va_rf (rz (S 4 0)), .int (J (S 4 1)), .int (J (S 4 2)), .ref (B 16), .ref (B 17), .ref (B 18), .ref (B 19), .int (J (S 4 7)), .int (J (S 4 8)), .int (J (S 4 9))]))
  | 5 => (true, .inr (12, [.ref (B 20), .ref (B 21), .int (J (S 5 2))]))
  | 6 => (true, .inl (.char, 50, iv (S 6)))
  | 7 => (true, .inr (1, [.ref (B 8), .int (J 0), .int (J (S 7 2)), .int (J (S 7 3))]))
  | 8 => (true, .inl (.byte, 16, iv (S 8)))
  | 9 => (true, .inl (.object RX1, 50, rv (fun i => rz (S 9 i))))
  | 10 => (true, .inl (.int, 3, iv (S 10)))
  | 11 => (true, .inl (.object RX3, 8, rv (fun i => rz (S 11 i))))
  | 12 => (true, .inl (.int, 6, iv (S 12)))
  | 13 => (true, .inl (.int, 6, iv (S 13)))
  | 14 => (true, .inl (.int, 4, iv (S 14)))
  | 15 => (true, .inl (.int, 6, iv (S 15)))
  | 16 => (true, .inl (.int, 6, iv (S 16)))
  | 17 => (true, .inl (.int, 6, iv (S 17)))
  | 18 => (true, .inl (.int, 4, iv (S 18)))
  | 19 => (true, .inl (.int, 6, iv (S 19)))
  | 20 => (true, .inl (.int, 5, iv (S 20)))
  | 21 => (true, .inl (.int, 5, iv (S 21)))
  | _ => (true, .inl (.int, 0, iv (fun _ => 0)))
def cset (B : Nat → Nat) (S : CST) (h : AH) : AH := fun q => match bids.find? (fun k => B k == q) with
  | some k => some (bcell B S k)
  | none => h q
def BA (B : Nat → Nat) : Prop := ∀ i ∈ bids, ∀ j ∈ bids, B i = B j → i = j
theorem cset_at {B : Nat → Nat} {S : CST} {h : AH} {k : Nat} (hB : BA B) (hk : k ∈ bids) : cset B S h (B k) = some (bcell B S k) := by
  have e : bids.find? (fun j => B j == B k) = some k := by
    cases e : bids.find? (fun j => B j == B k) with
    | none =>
      have := List.find?_eq_none.mp e k hk
      simp at this
    | some j =>
      have h1 := List.find?_some e
      have h2 := List.mem_of_find?_eq_some e
      rw [hB j h2 k hk (by simpa using h1)]
  unfold cset
  rw [e]
theorem cset_off {B : Nat → Nat} {S : CST} {h : AH} {q : Nat} (hq : ∀ k ∈ bids, B k ≠ q) : cset B S h q = h q := by
  have e : bids.find? (fun k => B k == q) = none := List.find?_eq_none.mpr fun k hk => by simpa using hq k hk
  unfold cset
  rw [e]
theorem cset_cset {B : Nat → Nat} {S S' : CST} {h : AH} : cset B S' (cset B S h) = cset B S' h := by
  funext q
  unfold cset
  cases bids.find? (fun k => B k == q) <;> rfl
theorem cset_up {B : Nat → Nat} {S S' : CST} {h : AH} {k : Nat} {c : HC} (hB : BA B) (hk : k ∈ bids) (hc : c = bcell B S' k) (hS : ∀ j ∈ bids, j ≠ k → bcell B S' j = bcell B S j) : upA (cset B S h) (B k) c = cset B S' h := by
  funext q
  unfold upA
  by_cases e : q = B k
  · rw [if_pos e, e, cset_at hB hk, hc]
  · rw [if_neg e]
    unfold cset
    cases e2 : bids.find? (fun j => B j == q) with
    | none => rfl
    | some j =>
      have h1 := List.find?_some e2
      have h2 := List.mem_of_find?_eq_some e2
      have hj : j ≠ k := fun z => e (by rw [← z]; simpa using (by simpa using h1 : B j = q).symm)
      show some (bcell B S j) = some (bcell B S' j)
      rw [hS j h2 hj]
theorem bcell_w {B : Nat → Nat} {S : CST} {k : Nat} : (bcell B S k).1 = true := by
  unfold bcell
  split <;> rfl
theorem bcell_k {B : Nat → Nat} {S S' : CST} {k : Nat} (h : S' k = S k) : bcell B S' k = bcell B S k := by
  unfold bcell
  split <;> first | rfl | rw [h]
theorem upc_k {S : CST} {k j : Nat} {i v : Int} (h : j ≠ k) : updm S k i v j = S j := updm_k h
/-- what may not be written is none of the class's own cells -/
theorem cset_fz {B : Nat → Nat} {S : CST} {h : AH} {a : Nat} {x} (hB : BA B) (ha : cset B S h a = some (false, x)) : ∀ k ∈ bids, B k ≠ a := fun k hk e => by
  rw [← e, cset_at hB hk] at ha
  have := bcell_w (B := B) (S := S) (k := k)
  rw [Option.some.inj ha] at this
  cases this
theorem cfx {B : Nat → Nat} {S S' : CST} {h : AH} {a : Nat} {x} (hB : BA B) (ha : cset B S h a = some (false, x)) : cset B S' h a = some (false, x) := by
  have := cset_fz hB ha
  rw [cset_off this] at ha ⊢
  exact ha
theorem cfxF {B : Nat → Nat} {S S' : CST} {h : AH} (hB : BA B) : Fx (cset B S h) (cset B S' h) := fun _ _ ha => cfx hB ha
/-- what lies outside the class's own cells stays -/
def Fr (B : Nat → Nat) (h h' : AH) : Prop := ∀ a c, (∀ k ∈ bids, B k ≠ a) → h a = some c → h' a = some c
theorem Fr.rf {B : Nat → Nat} {h : AH} : Fr B h h := fun _ _ _ q => q
theorem Fr.trans {B : Nat → Nat} {h h1 h2 : AH} (x : Fr B h h1) (y : Fr B h1 h2) : Fr B h h2 := fun a c hk q => y a c hk (x a c hk q)
theorem Ext.fr {B : Nat → Nat} {h h' : AH} (x : Ext h h') : Fr B h h' := fun a c _ q => x a c q
theorem Fr.cs {B : Nat → Nat} {S S' : CST} {h : AH} : Fr B (cset B S h) (cset B S' h) := fun a c hk q => by
  rw [cset_off hk] at q ⊢
  exact q
theorem Fr.fx {B : Nat → Nat} {S : CST} {h h' : AH} (hB : BA B) (x : Fr B (cset B S h) h') : Fx (cset B S h) h' := fun a y ha => x a _ (cset_fz hB ha) ha
/-- a heap that holds the cells is of their form -/
theorem Ext.cs {B : Nat → Nat} {S : CST} {h h' : AH} (hB : BA B) (x : Ext (cset B S h) h') : h' = cset B S h' := by
  funext q
  unfold cset
  cases e : bids.find? (fun k => B k == q) with
  | none => rfl
  | some k =>
    have h1 := List.find?_some e
    have h2 := List.mem_of_find?_eq_some e
    have h3 : B k = q := by simpa using h1
    show h' q = some (bcell B S k)
    rw [← h3]
    exact x _ _ (cset_at hB h2)
def SK (ks : List Nat) (S S' : CST) : Prop := ∀ k, k ∉ ks → S' k = S k
theorem SK.rf {ks : List Nat} {S : CST} : SK ks S S := fun _ _ => rfl
theorem SK.trans {k1 k2 : List Nat} {S S1 S2 : CST} (x : SK k1 S S1) (y : SK k2 S1 S2) : SK (k1 ++ k2) S S2 := fun k hk => (y k (fun z => hk (List.mem_append_right _ z))).trans (x k (fun z => hk (List.mem_append_left _ z)))
theorem SK.same {ks : List Nat} {S S1 S2 : CST} (x : SK ks S S1) (y : SK ks S1 S2) : SK ks S S2 := fun k hk => (y k hk).trans (x k hk)
theorem SK.mono {k1 k2 : List Nat} {S S' : CST} (x : SK k1 S S') (h : ∀ k ∈ k1, k ∈ k2) : SK k2 S S' := fun k hk => x k (fun z => hk (h k z))
theorem SK.up {ks : List Nat} {S S' : CST} {k : Nat} {i v : Int} (x : SK ks S S') (hk : k ∈ ks) : SK ks S (updm S' k i v) := fun j hj => by
  have hn : j ≠ k := fun e => hj (by rw [e]; exact hk)
  rw [upc_k hn]
  exact x j hj
section CROWS
variable {κ : KP} {mi : MI} {d k n : Nat} {Q : Option Value → AH → Prop} {E : String → AH → Prop} {pc : Nat} {L : List (Option Value)} {st : List Value} {B : Nat → Nat} {S : CST} {h : AH} {kc k9 : Nat} {fs fs' : List Value}
theorem cs_obj (hB : BA B) (hk : k9 ∈ bids) (hc : bcell B S k9 = (true, .inr (kc, fs))) : cset B S h (B k9) = some (true, .inr (kc, fs)) := by
  rw [cset_at hB hk, hc]
theorem cs_arr {ty : FieldType} {N : Nat} {f : Nat → Value} (hB : BA B) (hk : k9 ∈ bids) (hc : bcell B S k9 = (true, .inl (ty, N, f))) : cset B S h (B k9) = some (true, .inl (ty, N, f)) := by
  rw [cset_at hB hk, hc]
theorem b_get {idx j : Nat} {v : Value} (hd : decode mi.2.1 pc = .ok (.getfield idx, 3)) (hf : FL mi.1.cls idx kc j) (hB : BA B) (hk : k9 ∈ bids) (hc : bcell B S k9 = (true, .inr (kc, fs))) (hv : fs[j]? = some v) (kk : WW κ mi d k n Q E (pc + 3) L (v :: st) (cset B S h)) : WW κ mi d k n Q E pc L (.ref (B k9) :: st) (cset B S h) :=
  r_getfield hd hf (cs_obj hB hk hc) hv kk
theorem b_put {idx j : Nat} {v : Value} {ty : FieldType} {i9 v9 : Int} (hd : decode mi.2.1 pc = .ok (.putfield idx, 3)) (hf : FL mi.1.cls idx kc j) (hp : FP mi.1.cls kc j ty) (hfi : FF kc j mi.1.name) (hB : BA B) (hk : k9 ∈ bids) (hc : bcell B S k9 = (true, .inr (kc, fs))) (hn2 : narrow ty v = v) (hfit : fits ty v = true) (hl : (j.blt fs.length) = true) (hs : bcell B (updm S k9 i9 v9) k9 = (true, .inr (kc, fs.set j v))) (kk : WW κ mi d k n Q E (pc + 3) L st (cset B (updm S k9 i9 v9) h)) : WW κ mi d k n Q E pc L (v :: .ref (B k9) :: st) (cset B S h) := by
  refine r_putfield hd hf hp hfi (cs_obj hB hk hc) hn2 hfit (by simpa [Nat.blt_eq] using hl) rfl ?_
  rw [cset_up (k := k9) (S' := updm S k9 i9 v9) hB hk hs.symm (fun j _ hj => bcell_k (upc_k hj))]
  exact kk
theorem b_ald {N : Nat} {i : Int} (hd : decode mi.2.1 pc = .ok (.iaload, 1)) (hB : BA B) (hk : k9 ∈ bids) (hc : bcell B S k9 = (true, .inl (.int, N, iv (S k9)))) (h0 : 0 ≤ i) (h1 : i < N) (h2 : N < 2147483648) (kk : WW κ mi d k n Q E (pc + 1) L (.int (J (S k9 i)) :: st) (cset B S h)) : WW κ mi d k n Q E pc L (.int (J i) :: .ref (B k9) :: st) (cset B S h) :=
  r_iaJ hd (cs_arr hB hk hc) h0 h1 h2 kk
theorem b_ast {N : Nat} {i v : Int} (hd : decode mi.2.1 pc = .ok (.iastore, 1)) (hB : BA B) (hk : k9 ∈ bids) (hc : ∀ S : CST, bcell B S k9 = (true, .inl (.int, N, iv (S k9)))) (h0 : 0 ≤ i) (h1 : i < N) (h2 : N < 2147483648) (kk : WW κ mi d k n Q E (pc + 1) L st (cset B (updm S k9 i v) h)) : WW κ mi d k n Q E pc L (.int (J v) :: .int (J i) :: .ref (B k9) :: st) (cset B S h) := by
  refine r_isJ hd (cs_arr hB hk (hc S)) h0 h1 h2 ?_
  rw [cset_up (k := k9) (S' := updm S k9 i v) hB hk (by rw [hc, updm_up]) (fun j _ hj => bcell_k (upc_k hj))]
  exact kk
theorem b_cald {N : Nat} {i : Int} (hd : decode mi.2.1 pc = .ok (.caload, 1)) (hB : BA B) (hk : k9 ∈ bids) (hc : bcell B S k9 = (true, .inl (.char, N, iv (S k9)))) (h0 : 0 ≤ i) (h1 : i < N) (h2 : N < 2147483648) (kk : WW κ mi d k n Q E (pc + 1) L (.int (J (S k9 i)) :: st) (cset B S h)) : WW κ mi d k n Q E pc L (.int (J i) :: .ref (B k9) :: st) (cset B S h) :=
  r_cald hd (cs_arr hB hk hc) h0 h1 h2 (by show Value.int (J (S k9 ((i.toNat : Nat) : Int))) = _; rw [Int.toNat_of_nonneg h0]) kk
theorem b_cast {N : Nat} {i v : Int} (hd : decode mi.2.1 pc = .ok (.castore, 1)) (hB : BA B) (hk : k9 ∈ bids) (hc : ∀ S : CST, bcell B S k9 = (true, .inl (.char, N, iv (S k9)))) (h0 : 0 ≤ i) (h1 : i < N) (h2 : N < 2147483648) (hn : narrow .char (.int (J v)) = .int (J v)) (kk : WW κ mi d k n Q E (pc + 1) L st (cset B (updm S k9 i v) h)) : WW κ mi d k n Q E pc L (.int (J v) :: .int (J i) :: .ref (B k9) :: st) (cset B S h) := by
  refine r_cast hd (cs_arr hB hk (hc S)) h0 h1 h2 (by rw [hn, iv_up h0]) ?_
  rw [cset_up (k := k9) (S' := updm S k9 i v) hB hk (by rw [hc, updm_up]) (fun j _ hj => bcell_k (upc_k hj))]
  exact kk
theorem b_bald {N : Nat} {i : Int} (hd : decode mi.2.1 pc = .ok (.baload, 1)) (hB : BA B) (hk : k9 ∈ bids) (hc : bcell B S k9 = (true, .inl (.byte, N, iv (S k9)))) (h0 : 0 ≤ i) (h1 : i < N) (h2 : N < 2147483648) (kk : WW κ mi d k n Q E (pc + 1) L (.int (J (S k9 i)) :: st) (cset B S h)) : WW κ mi d k n Q E pc L (.int (J i) :: .ref (B k9) :: st) (cset B S h) :=
  r_bald hd (cs_arr hB hk hc) h0 h1 h2 (by show Value.int (J (S k9 ((i.toNat : Nat) : Int))) = _; rw [Int.toNat_of_nonneg h0]) kk
theorem b_bast {N : Nat} {i v : Int} (hd : decode mi.2.1 pc = .ok (.bastore, 1)) (hB : BA B) (hk : k9 ∈ bids) (hc : ∀ S : CST, bcell B S k9 = (true, .inl (.byte, N, iv (S k9)))) (h0 : 0 ≤ i) (h1 : i < N) (h2 : N < 2147483648) (hn : narrow .byte (.int (J v)) = .int (J v)) (kk : WW κ mi d k n Q E (pc + 1) L st (cset B (updm S k9 i v) h)) : WW κ mi d k n Q E pc L (.int (J v) :: .int (J i) :: .ref (B k9) :: st) (cset B S h) := by
  refine r_bast hd (cs_arr hB hk (hc S)) h0 h1 h2 (by rw [hn, iv_up h0]) ?_
  rw [cset_up (k := k9) (S' := updm S k9 i v) hB hk (by rw [hc, updm_up]) (fun j _ hj => bcell_k (upc_k hj))]
  exact kk
theorem b_aald {N : Nat} {i : Int} {Cn : String} (hd : decode mi.2.1 pc = .ok (.aaload, 1)) (hB : BA B) (hk : k9 ∈ bids) (hc : bcell B S k9 = (true, .inl (.object Cn, N, rv (fun i => rz (S k9 i))))) (hty : FieldType.object Cn ∈ arTys) (h0 : 0 ≤ i) (h1 : i < N) (h2 : N < 2147483648) (kk : WW κ mi d k n Q E (pc + 1) L (va_rf (rz (S k9 i)) :: st) (cset B S h)) : WW κ mi d k n Q E pc L (.int (J i) :: .ref (B k9) :: st) (cset B S h) :=
  r_aaR hd (cs_arr hB hk hc) hty h0 h1 h2 kk
theorem b_aast {N v kv N2 : Nat} {T2 : u_T} {w2 : Bool} {gs : List Value} {i : Int} {Cn : String} (hd : decode mi.2.1 pc = .ok (.aastore, 1)) (hB : BA B) (hk : k9 ∈ bids) (hc : ∀ S : CST, bcell B S k9 = (true, .inl (.object Cn, N, rv (fun i => rz (S k9 i))))) (hty : FieldType.object Cn ∈ arTys) (hv : cset B S h v = some (w2, .inr (kv, gs))) (hkv : vwCl[kv]? = some (Cn, T2, N2)) (h0 : 0 ≤ i) (h1 : i < N) (h2 : N < 2147483648) (kk : WW κ mi d k n Q E (pc + 1) L st (cset B (updm S k9 i (v : Int)) h)) : WW κ mi d k n Q E pc L (.ref v :: .int (J i) :: .ref (B k9) :: st) (cset B S h) := by
  refine r_asJ hd (cs_arr hB hk (hc S)) hty hv hkv h0 h1 h2 ?_
  rw [cset_up (k := k9) (S' := updm S k9 i (v : Int)) hB hk (by
    rw [hc, updm_up]
    have e : upz (fun i => rz (S k9 i)) i (some v) = fun j => rz (upz (S k9) i (v : Int) j) := by
      funext j
      unfold upz
      by_cases e : j = i
      · rw [if_pos e, if_pos e, rz_c]
      · rw [if_neg e, if_neg e]
    rw [e]) (fun j _ hj => bcell_k (upc_k hj))]
  exact kk
/-- a new cell beside the class's own -/
theorem cset_new {a : Nat} {c : HC} (ha : cset B S h a = none) (hB : BA B) : upA (cset B S h) a c = cset B S (upA h a c) := by
  have hk : ∀ k ∈ bids, B k ≠ a := fun k hk e => by
    rw [← e, cset_at hB hk] at ha
    cases ha
  funext q
  by_cases e : q = a
  · subst e
    rw [upA_same, cset_off hk, upA_same]
  · rw [upA_ne e]
    unfold cset
    cases e2 : bids.find? (fun k => B k == q) with
    | none => show h q = upA h a c q; rw [upA_ne e]
    | some k => rfl
end CROWS
