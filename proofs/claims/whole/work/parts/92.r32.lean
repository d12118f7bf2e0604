/-! ===== the constructors ===== -/
/-- from h to h', the object a apart: the cells of l came, what stood stays -/
def NewX (a : Nat) (h h' : AH) (l : List (Nat × HC)) : Prop := (l.map Prod.fst).Nodup ∧ (∀ p ∈ l, h p.1 = none ∧ h' p.1 = some p.2) ∧ ExA a h h'
theorem NewX.rf {a : Nat} {h : AH} : NewX a h h [] := ⟨List.nodup_nil, fun _ hp => by simp at hp, ExA.rf⟩
theorem NewX.ne {a : Nat} {h h' : AH} {l : List (Nat × HC)} {c : HC} (N : NewX a h h' l) (ha : h a = some c) : ∀ p ∈ l, p.1 ≠ a := fun p hp e => by
  have := (N.2.1 p hp).1
  rw [e, ha] at this
  cases this
/-- the object itself is written -/
theorem NewX.put {a : Nat} {h h' : AH} {l : List (Nat × HC)} {c d : HC} (N : NewX a h h' l) (ha : h a = some c) : NewX a h (upA h' a d) l := ⟨N.1, fun p hp => ⟨(N.2.1 p hp).1, by rw [upA_ne (N.ne ha p hp)]; exact (N.2.1 p hp).2⟩, N.2.2.put⟩
theorem NewX.old {a b : Nat} {h h' : AH} {l : List (Nat × HC)} {c : HC} (N : NewX a h h' l) (hc : h' a = some c) (hb : h' b = none) : h b = none ∧ b ≠ a ∧ b ∉ l.map Prod.fst := by
  have hba : b ≠ a := fun e => by rw [e, hc] at hb; cases hb
  refine ⟨?_, hba, fun hm => ?_⟩
  · cases e : h b with
    | none => rfl
    | some x => rw [N.2.2 b x hba e] at hb; cases hb
  · obtain ⟨p, hp, rfl⟩ := List.mem_map.mp hm
    rw [(N.2.1 p hp).2] at hb
    cases hb
/-- a cell comes -/
theorem NewX.new {a b : Nat} {h h' : AH} {l : List (Nat × HC)} {c x : HC} (N : NewX a h h' l) (hc : h' a = some c) (hb : h' b = none) : NewX a h (upA h' b x) ((b, x) :: l) := by
  obtain ⟨h1, h2, h3⟩ := N.old hc hb
  refine ⟨List.nodup_cons.mpr ⟨h3, N.1⟩, fun p hp => ?_, N.2.2.new hb⟩
  rcases List.mem_cons.mp hp with rfl | hp
  · exact ⟨h1, upA_same⟩
  · have hn : p.1 ≠ b := fun e => h3 (List.mem_map.mpr ⟨p, hp, e⟩)
    exact ⟨(N.2.1 p hp).1, by rw [upA_ne hn]; exact (N.2.1 p hp).2⟩
/-- a cell comes that is not told -/
theorem NewX.hid {a b : Nat} {h h' : AH} {l : List (Nat × HC)} {c x : HC} (N : NewX a h h' l) (hc : h' a = some c) (hb : h' b = none) : NewX a h (upA h' b x) l := by
  obtain ⟨h1, h2, h3⟩ := N.new (x := x) hc hb
  exact ⟨(List.nodup_cons.mp h1).2, fun p hp => h2 p (List.mem_cons_of_mem _ hp), h3⟩
theorem NewX.hx {a b : Nat} {h h' h'' : AH} {l : List (Nat × HC)} (N : NewX a h h' l) (o : h b = none ∧ b ≠ a ∧ b ∉ l.map Prod.fst) (x : ExA b h' h'') : NewX a h h'' l := ⟨N.1, fun p hp => ⟨(N.2.1 p hp).1, x _ _ (fun e => o.2.2 (List.mem_map.mpr ⟨p, hp, e⟩)) (N.2.1 p hp).2⟩, fun y c hy hc => x y c (fun e => by rw [e, o.1] at hc; cases hc) (N.2.2 y c hy hc)⟩
/-- .. and is written -/
theorem NewX.hput {a b : Nat} {h h' : AH} {l : List (Nat × HC)} {x : HC} (N : NewX a h h' l) (hb : h b = none) (hl : b ∉ l.map Prod.fst) : NewX a h (upA h' b x) l := ⟨N.1, fun p hp => ⟨(N.2.1 p hp).1, by
  rw [upA_ne (fun e => hl (List.mem_map.mpr ⟨p, hp, e⟩))]
  exact (N.2.1 p hp).2⟩, N.2.2.upd hb⟩
/-- an object that came was built -/
theorem NewX.sub {a b : Nat} {h h' h'' : AH} {l l' : List (Nat × HC)} {c d d' : HC} (N : NewX a h h' l) (hc : h' a = some c) (hb : h' b = none) (K : NewX b (upA h' b d) h'' l') (hd : h'' b = some d') : NewX a h h'' (l' ++ (b, d') :: l) ∧ h'' a = some c := by
  obtain ⟨h1, h2, h3⟩ := N.old hc hb
  have hk : ∀ x y, x ≠ b → h' x = some y → h'' x = some y := fun x y hx hy => K.2.2 x y hx (by rw [upA_ne hx]; exact hy)
  have hfr : ∀ p ∈ l', h p.1 = none ∧ p.1 ≠ b ∧ p.1 ∉ l.map Prod.fst := fun p hp => by
    have q := (K.2.1 p hp).1
    have hn : p.1 ≠ b := fun e => by rw [e, upA_same] at q; cases q
    rw [upA_ne hn] at q
    obtain ⟨z1, -, z3⟩ := N.old hc q
    exact ⟨z1, hn, z3⟩
  refine ⟨⟨?_, fun p hp => ?_, fun x y hx hy => hk x y (fun e => by rw [e, h1] at hy; cases hy) (N.2.2 x y hx hy)⟩, hk a c (Ne.symm h2) hc⟩
  · rw [List.map_append, List.map_cons]
    refine List.nodup_append.mpr ⟨K.1, List.nodup_cons.mpr ⟨h3, N.1⟩, fun x hx y hy e => ?_⟩
    obtain ⟨p, hp, rfl⟩ := List.mem_map.mp hx
    obtain ⟨-, z2, z3⟩ := hfr p hp
    rcases List.mem_cons.mp hy with w | w
    · exact z2 (e.trans w)
    · exact z3 (e ▸ w)
  · rcases List.mem_append.mp hp with hp | hp
    · exact ⟨(hfr p hp).1, (K.2.1 p hp).2⟩
    · rcases List.mem_cons.mp hp with rfl | hp
      · exact ⟨h1, hd⟩
      · exact ⟨(N.2.1 p hp).1, hk _ _ (fun e => h3 (List.mem_map.mpr ⟨p, hp, e⟩)) (N.2.1 p hp).2⟩
theorem dv_iv {ty : FieldType} (h : defaultValue ty = .int 0) : (fun _ : Nat => defaultValue ty) = iv (fun _ => 0) := by
  funext q
  rw [h]
  show Value.int 0 = .int (J 0)
  rw [J_0]
set_option maxRecDepth 100000 in
set_option maxHeartbeats 4000000 in
theorem n_sb5 (κ : KP) (h : AH) {a : Nat} (ha : h a = some (true, .inr (1, [.null, .int (J 0), .int (J 0), .int (J 0)]))) : MM κ mJ5_init_d00df 1 1 16 [.ref a, .int (J 16)] h (fun v h' => v = none ∧ ∃ b : Nat, NewX a h h' [(b, (true, .inl (.byte, 16, iv (fun _ => 0))))] ∧ h' a = some (true, .inr (1, [.ref b, .int (J 0), .int (J 0), .int (J 0)]))) NoX := by
  refine mm_of (L := [some _, some _]) (by decide +kernel) rfl rfl (Nat.le_of_ble_eq_true rfl) rfl ?_
  refine r_al0 dJ5_init_d00df_0 ?_
  refine r_objInit dJ5_init_d00df_1 o_J5_3 oI oC (by decide) (cat_le rfl) ?_
  refine r_compact dJ5_init_d00df_4 gs_J5_18 (Or.inl rfl) ?_
  refine r_ifB_eq (tgt := 25) dJ5_init_d00df_7 (by decide) (fun c => absurd c (by decide)) (fun _ => ?_)
  refine r_al0 dJ5_init_d00df_10 ?_
  refine r_il1 dJ5_init_d00df_11 ?_
  refine r_newa dJ5_init_d00df_12 (by decide) ac_B (by decide) (by decide) (by decide) (by omega) (by first | omega | decide) (fun b hb => ?_)
  change WW κ _ _ _ _ _ _ _ _ _ (upA h b (true, .inl (.byte, 16, iv (fun _ => 0))))
  have N1 := NewX.new (x := (true, .inl (.byte, 16, iv (fun _ => 0)))) (NewX.rf (a := a) (h := h)) ha hb
  have ha1 : upA h b (true, .inl (.byte, 16, iv (fun _ => 0))) a = some (true, .inr (1, [.null, .int (J 0), .int (J 0), .int (J 0)])) := upo hb ha
  refine r_putfield dJ5_init_d00df_14 f_J5_15 p_J5_15 (ff_1_0 _) ha1 rfl rfl (Nat.le_of_ble_eq_true rfl) rfl ?_
  refine r_al0 dJ5_init_d00df_17 ?_
  refine r_iconst dJ5_init_d00df_18 ?_
  refine r_putfield dJ5_init_d00df_19 f_J5_22 p_J5_22 (ff_1_1 _) upA_same rfl (by decide) (Nat.le_of_ble_eq_true rfl) rfl ?_
  rw [upA_upA]
  refine r_goto (tgt := 38) dJ5_init_d00df_22 (by decide) ?_
  exact r_ret dJ5_init_d00df_38 rfl ⟨rfl, b, N1.put ha, upA_same⟩
set_option maxRecDepth 100000 in
set_option maxHeartbeats 4000000 in
theorem n_sb4 (κ : KP) (h : AH) {a : Nat} (ha : h a = some (true, .inr (1, [.null, .int (J 0), .int (J 0), .int (J 0)]))) : MM κ mJ4_init_da8c8 2 1 16 [.ref a] h (fun v h' => v = none ∧ ∃ b : Nat, NewX a h h' [(b, (true, .inl (.byte, 16, iv (fun _ => 0))))] ∧ h' a = some (true, .inr (1, [.ref b, .int (J 0), .int (J 0), .int (J 0)]))) NoX := by
  refine mm_of (L := [some _]) (by decide +kernel) rfl rfl (Nat.le_of_ble_eq_true rfl) rfl ?_
  refine r_al0 dJ4_init_da8c8_0 ?_
  refine r_bipush dJ4_init_da8c8_1 (by decide) ?_
  refine r_callI (As := [.int (J 16)]) dJ4_init_da8c8_3 i_J4_1 (n_sb5 κ h ha) (by decide) rfl rfl (cat_le rfl) (by decide) (by decide) (fun v h1 hq => ?_)
  obtain ⟨rfl, hq⟩ := hq
  exact r_ret dJ4_init_da8c8_6 rfl ⟨rfl, hq⟩
set_option maxRecDepth 100000 in
set_option maxHeartbeats 4000000 in
theorem n_x7 (κ : KP) (h : AH) {a : Nat} (ha : h a = some (true, .inr (11, [.null, .int (J 0), .int (J 0), .null, .null, .int (J 0), .null, .int (J 0)]))) : MM κ mX7_init 4 6 200 [.ref a] h (fun v h' => v = none ∧ ∃ b6 b7 b8 b9 b10 : Nat, NewX a h h' [(b10, (true, .inl (.int, 3, iv (fun _ => 0)))), (b9, (true, .inl (.object RX1, 50, rv (fun _ => none)))), (b8, (true, .inl (.byte, 16, iv (fun _ => 0)))), (b7, (true, .inr (1, [.ref b8, .int (J 0), .int (J 0), .int (J 0)]))), (b6, (true, .inl (.char, 50, iv (fun _ => 0))))] ∧ h' a = some (true, .inr (11, [.ref b6, .int (J 0), .int (J 0), .ref b7, .ref b9, .int (J 0), .ref b10, .int (J 0)]))) NoX := by
  refine mm_of (L := [some _]) (by decide +kernel) rfl rfl (Nat.le_of_ble_eq_true rfl) rfl ?_
  refine r_al0 dX7_init_0 ?_
  refine r_objInit dX7_init_1 o_X7_3 oI oC (by decide) (cat_le rfl) ?_
  refine r_al0 dX7_init_4 ?_
  refine r_bipush dX7_init_5 (by decide) ?_
  refine r_newa dX7_init_7 (by decide) ac_C (by decide) (by decide) (by decide) (by omega) (by first | omega | decide) (fun b6 hb6 => ?_)
  change WW κ _ _ _ _ _ _ _ _ _ (upA h b6 (true, .inl (.char, 50, iv (fun _ => 0))))
  have N1 := NewX.new (x := (true, .inl (.char, 50, iv (fun _ => 0)))) (NewX.rf (a := a) (h := h)) ha hb6
  have a1 := upo (c := (true, .inl (.char, 50, iv (fun _ => 0)))) hb6 ha
  generalize upA h b6 (true, .inl (.char, 50, iv (fun _ => 0))) = g1 at N1 a1 ⊢
  refine r_putfield (fs' := [.ref b6, .int (J 0), .int (J 0), .null, .null, .int (J 0), .null, .int (J 0)]) dX7_init_9 f_X7_9 p_X7_9 ff_11_0 a1 rfl (by first | rfl | decide) (Nat.le_of_ble_eq_true rfl) rfl ?_
  have N2 := NewX.put (d := (true, .inr (11, [.ref b6, .int (J 0), .int (J 0), .null, .null, .int (J 0), .null, .int (J 0)]))) N1 ha
  have a2 : upA g1 a (true, .inr (11, [.ref b6, .int (J 0), .int (J 0), .null, .null, .int (J 0), .null, .int (J 0)])) a = some (true, .inr (11, [.ref b6, .int (J 0), .int (J 0), .null, .null, .int (J 0), .null, .int (J 0)])) := upA_same
  generalize upA g1 a (true, .inr (11, [.ref b6, .int (J 0), .int (J 0), .null, .null, .int (J 0), .null, .int (J 0)])) = g2 at N2 a2 ⊢
  refine r_al0 dX7_init_12 ?_
  refine r_iconst dX7_init_13 ?_
  refine r_putfield (fs' := [.ref b6, .int (J 0), .int (J 0), .null, .null, .int (J 0), .null, .int (J 0)]) dX7_init_14 f_X7_15 p_X7_15 (ff_11_1 _) a2 rfl (by first | rfl | decide) (Nat.le_of_ble_eq_true rfl) rfl ?_
  have N3 := NewX.put (d := (true, .inr (11, [.ref b6, .int (J 0), .int (J 0), .null, .null, .int (J 0), .null, .int (J 0)]))) N2 ha
  have a3 : upA g2 a (true, .inr (11, [.ref b6, .int (J 0), .int (J 0), .null, .null, .int (J 0), .null, .int (J 0)])) a = some (true, .inr (11, [.ref b6, .int (J 0), .int (J 0), .null, .null, .int (J 0), .null, .int (J 0)])) := upA_same
  generalize upA g2 a (true, .inr (11, [.ref b6, .int (J 0), .int (J 0), .null, .null, .int (J 0), .null, .int (J 0)])) = g3 at N3 a3 ⊢
  refine r_al0 dX7_init_17 ?_
  refine r_iconst dX7_init_18 ?_
  refine r_putfield (fs' := [.ref b6, .int (J 0), .int (J 0), .null, .null, .int (J 0), .null, .int (J 0)]) dX7_init_19 f_X7_19 p_X7_19 (ff_11_2 _) a3 rfl (by first | rfl | decide) (Nat.le_of_ble_eq_true rfl) rfl ?_
  have N4 := NewX.put (d := (true, .inr (11, [.ref b6, .int (J 0), .int (J 0), .null, .null, .int (J 0), .null, .int (J 0)]))) N3 ha
  have a4 : upA g3 a (true, .inr (11, [.ref b6, .int (J 0), .int (J 0), .null, .null, .int (J 0), .null, .int (J 0)])) a = some (true, .inr (11, [.ref b6, .int (J 0), .int (J 0), .null, .null, .int (J 0), .null, .int (J 0)])) := upA_same
  generalize upA g3 a (true, .inr (11, [.ref b6, .int (J 0), .int (J 0), .null, .null, .int (J 0), .null, .int (J 0)])) = g4 at N4 a4 ⊢
  refine r_al0 dX7_init_22 ?_
  refine r_new dX7_init_23 n_X7_22 (by omega) (by first | omega | decide) (fun b7 hb7 => ?_)
  refine r_dup dX7_init_26 rfl ?_
  refine r_callI (As := []) dX7_init_27 i_X7_24 (n_sb4 κ _ upA_same) (by decide) rfl rfl (cat_le rfl) (by omega) (by first | omega | decide) (fun v g5 hq5 => ?_)
  obtain ⟨rfl, b8, K5, e5⟩ := hq5
  obtain ⟨N5, a5⟩ := NewX.sub N4 a4 hb7 K5 e5
  rw [List.cons_append, List.nil_append] at N5
  refine r_putfield (fs' := [.ref b6, .int (J 0), .int (J 0), .ref b7, .null, .int (J 0), .null, .int (J 0)]) dX7_init_30 f_X7_25 p_X7_25 ff_11_3 a5 rfl (by first | rfl | decide) (Nat.le_of_ble_eq_true rfl) rfl ?_
  have N6 := NewX.put (d := (true, .inr (11, [.ref b6, .int (J 0), .int (J 0), .ref b7, .null, .int (J 0), .null, .int (J 0)]))) N5 ha
  have a6 : upA g5 a (true, .inr (11, [.ref b6, .int (J 0), .int (J 0), .ref b7, .null, .int (J 0), .null, .int (J 0)])) a = some (true, .inr (11, [.ref b6, .int (J 0), .int (J 0), .ref b7, .null, .int (J 0), .null, .int (J 0)])) := upA_same
  generalize upA g5 a (true, .inr (11, [.ref b6, .int (J 0), .int (J 0), .ref b7, .null, .int (J 0), .null, .int (J 0)])) = g6 at N6 a6 ⊢
  refine r_al0 dX7_init_33 ?_
  refine r_bipush dX7_init_34 (by decide) ?_
  refine r_anewa dX7_init_36 a_X7_29 (by decide) (by decide) (by decide) (by decide) (by omega) (by first | omega | decide) (fun b9 hb9 => ?_)
  change WW κ _ _ _ _ _ _ _ _ _ (upA g6 b9 (true, .inl (.object RX1, 50, rv (fun _ => none))))
  have N7 := NewX.new (x := (true, .inl (.object RX1, 50, rv (fun _ => none)))) N6 a6 hb9
  have a7 := upo (c := (true, .inl (.object RX1, 50, rv (fun _ => none)))) hb9 a6
  generalize upA g6 b9 (true, .inl (.object RX1, 50, rv (fun _ => none))) = g7 at N7 a7 ⊢
  refine r_putfield (fs' := [.ref b6, .int (J 0), .int (J 0), .ref b7, .ref b9, .int (J 0), .null, .int (J 0)]) dX7_init_39 f_X7_31 p_X7_31 ff_11_4 a7 rfl (by first | rfl | decide) (Nat.le_of_ble_eq_true rfl) rfl ?_
  have N8 := NewX.put (d := (true, .inr (11, [.ref b6, .int (J 0), .int (J 0), .ref b7, .ref b9, .int (J 0), .null, .int (J 0)]))) N7 ha
  have a8 : upA g7 a (true, .inr (11, [.ref b6, .int (J 0), .int (J 0), .ref b7, .ref b9, .int (J 0), .null, .int (J 0)])) a = some (true, .inr (11, [.ref b6, .int (J 0), .int (J 0), .ref b7, .ref b9, .int (J 0), .null, .int (J 0)])) := upA_same
  generalize upA g7 a (true, .inr (11, [.ref b6, .int (J 0), .int (J 0), .ref b7, .ref b9, .int (J 0), .null, .int (J 0)])) = g8 at N8 a8 ⊢
  refine r_al0 dX7_init_42 ?_
  refine r_iconst dX7_init_43 ?_
  refine r_putfield (fs' := [.ref b6, .int (J 0), .int (J 0), .ref b7, .ref b9, .int (J 0), .null, .int (J 0)]) dX7_init_44 f_X7_35 p_X7_35 (ff_11_5 _) a8 rfl (by first | rfl | decide) (Nat.le_of_ble_eq_true rfl) rfl ?_
  have N9 := NewX.put (d := (true, .inr (11, [.ref b6, .int (J 0), .int (J 0), .ref b7, .ref b9, .int (J 0), .null, .int (J 0)]))) N8 ha
  have a9 : upA g8 a (true, .inr (11, [.ref b6, .int (J 0), .int (J 0), .ref b7, .ref b9, .int (J 0), .null, .int (J 0)])) a = some (true, .inr (11, [.ref b6, .int (J 0), .int (J 0), .ref b7, .ref b9, .int (J 0), .null, .int (J 0)])) := upA_same
  generalize upA g8 a (true, .inr (11, [.ref b6, .int (J 0), .int (J 0), .ref b7, .ref b9, .int (J 0), .null, .int (J 0)])) = g9 at N9 a9 ⊢
  refine r_al0 dX7_init_47 ?_
  refine r_iconst dX7_init_48 ?_
  refine r_newa dX7_init_49 (by decide) ac_I (by decide) (by decide) (by decide) (by omega) (by first | omega | decide) (fun b10 hb10 => ?_)
  change WW κ _ _ _ _ _ _ _ _ _ (upA g9 b10 (true, .inl (.int, 3, iv (fun _ => 0))))
  have N10 := NewX.new (x := (true, .inl (.int, 3, iv (fun _ => 0)))) N9 a9 hb10
  have a10 := upo (c := (true, .inl (.int, 3, iv (fun _ => 0)))) hb10 a9
  generalize upA g9 b10 (true, .inl (.int, 3, iv (fun _ => 0))) = g10 at N10 a10 ⊢
  refine r_putfield (fs' := [.ref b6, .int (J 0), .int (J 0), .ref b7, .ref b9, .int (J 0), .ref b10, .int (J 0)]) dX7_init_51 f_X7_38 p_X7_38 ff_11_6 a10 rfl (by first | rfl | decide) (Nat.le_of_ble_eq_true rfl) rfl ?_
  have N11 := NewX.put (d := (true, .inr (11, [.ref b6, .int (J 0), .int (J 0), .ref b7, .ref b9, .int (J 0), .ref b10, .int (J 0)]))) N10 ha
  have a11 : upA g10 a (true, .inr (11, [.ref b6, .int (J 0), .int (J 0), .ref b7, .ref b9, .int (J 0), .ref b10, .int (J 0)])) a = some (true, .inr (11, [.ref b6, .int (J 0), .int (J 0), .ref b7, .ref b9, .int (J 0), .ref b10, .int (J 0)])) := upA_same
  generalize upA g10 a (true, .inr (11, [.ref b6, .int (J 0), .int (J 0), .ref b7, .ref b9, .int (J 0), .ref b10, .int (J 0)])) = g11 at N11 a11 ⊢
  refine r_al0 dX7_init_54 ?_
  refine r_iconst dX7_init_55 ?_
  refine r_putfield (fs' := [.ref b6, .int (J 0), .int (J 0), .ref b7, .ref b9, .int (J 0), .ref b10, .int (J 0)]) dX7_init_56 f_X7_42 p_X7_42 (ff_11_7 _) a11 rfl (by first | rfl | decide) (Nat.le_of_ble_eq_true rfl) rfl ?_
  have N12 := NewX.put (d := (true, .inr (11, [.ref b6, .int (J 0), .int (J 0), .ref b7, .ref b9, .int (J 0), .ref b10, .int (J 0)]))) N11 ha
  have a12 : upA g11 a (true, .inr (11, [.ref b6, .int (J 0), .int (J 0), .ref b7, .ref b9, .int (J 0), .ref b10, .int (J 0)])) a = some (true, .inr (11, [.ref b6, .int (J 0), .int (J 0), .ref b7, .ref b9, .int (J 0), .ref b10, .int (J 0)])) := upA_same
  generalize upA g11 a (true, .inr (11, [.ref b6, .int (J 0), .int (J 0), .ref b7, .ref b9, .int (J 0), .ref b10, .int (J 0)])) = g12 at N12 a12 ⊢
  exact r_ret dX7_init_59 rfl ⟨rfl, b6, b7, b8, b9, b10, N12, a12⟩
set_option maxRecDepth 100000 in
set_option maxHeartbeats 4000000 in
theorem n_x5 (κ : KP) (h : AH) {a : Nat} (ha : h a = some (true, .inr (9, [.null, .int (J 0)]))) : MM κ mX5_init 1 1 8 [.ref a] h (fun v h' => v = none ∧ ∃ b11 : Nat, NewX a h h' [(b11, (true, .inl (.object RX3, 8, rv (fun _ => none))))] ∧ h' a = some (true, .inr (9, [.ref b11, .int (J 0)]))) NoX := by
  refine mm_of (L := [some _]) (by decide +kernel) rfl rfl (Nat.le_of_ble_eq_true rfl) rfl ?_
  refine r_al0 dX5_init_0 ?_
  refine r_objInit dX5_init_1 o_X5_3 oI oC (by decide) (cat_le rfl) ?_
  refine r_al0 dX5_init_4 ?_
  refine r_bipush dX5_init_5 (by decide) ?_
  refine r_anewa dX5_init_7 a_X5_9 (by decide) (by decide) (by decide) (by decide) (by omega) (by first | omega | decide) (fun b11 hb11 => ?_)
  change WW κ _ _ _ _ _ _ _ _ _ (upA h b11 (true, .inl (.object RX3, 8, rv (fun _ => none))))
  have N1 := NewX.new (x := (true, .inl (.object RX3, 8, rv (fun _ => none)))) (NewX.rf (a := a) (h := h)) ha hb11
  have a1 := upo (c := (true, .inl (.object RX3, 8, rv (fun _ => none)))) hb11 ha
  generalize upA h b11 (true, .inl (.object RX3, 8, rv (fun _ => none))) = g1 at N1 a1 ⊢
  refine r_putfield (fs' := [.ref b11, .int (J 0)]) dX5_init_10 f_X5_11 p_X5_11 ff_9_0 a1 rfl (by first | rfl | decide) (Nat.le_of_ble_eq_true rfl) rfl ?_
  have N2 := NewX.put (d := (true, .inr (9, [.ref b11, .int (J 0)]))) N1 ha
  have a2 : upA g1 a (true, .inr (9, [.ref b11, .int (J 0)])) a = some (true, .inr (9, [.ref b11, .int (J 0)])) := upA_same
  generalize upA g1 a (true, .inr (9, [.ref b11, .int (J 0)])) = g2 at N2 a2 ⊢
  refine r_al0 dX5_init_13 ?_
  refine r_iconst dX5_init_14 ?_
  refine r_putfield (fs' := [.ref b11, .int (J 0)]) dX5_init_15 f_X5_17 p_X5_17 (ff_9_1 _) a2 rfl (by first | rfl | decide) (Nat.le_of_ble_eq_true rfl) rfl ?_
  have N3 := NewX.put (d := (true, .inr (9, [.ref b11, .int (J 0)]))) N2 ha
  have a3 : upA g2 a (true, .inr (9, [.ref b11, .int (J 0)])) a = some (true, .inr (9, [.ref b11, .int (J 0)])) := upA_same
  generalize upA g2 a (true, .inr (9, [.ref b11, .int (J 0)])) = g3 at N3 a3 ⊢
  exact r_ret dX5_init_18 rfl ⟨rfl, b11, N3, a3⟩
set_option maxRecDepth 100000 in
set_option maxHeartbeats 4000000 in
theorem n_x8 (κ : KP) (h : AH) {a : Nat} (ha : h a = some (true, .inr (12, [.null, .null, .int (J 0)]))) : MM κ mX8_init 1 2 10 [.ref a] h (fun v h' => v = none ∧ ∃ b20 b21 : Nat, NewX a h h' [(b21, (true, .inl (.int, 5, iv (fun _ => 0)))), (b20, (true, .inl (.int, 5, iv (fun _ => 0))))] ∧ h' a = some (true, .inr (12, [.ref b20, .ref b21, .int (J 0)]))) NoX := by
  refine mm_of (L := [some _]) (by decide +kernel) rfl rfl (Nat.le_of_ble_eq_true rfl) rfl ?_
  refine r_al0 dX8_init_0 ?_
  refine r_objInit dX8_init_1 o_X8_3 oI oC (by decide) (cat_le rfl) ?_
  refine r_al0 dX8_init_4 ?_
  refine r_iconst dX8_init_5 ?_
  refine r_newa dX8_init_6 (by decide) ac_I (by decide) (by decide) (by decide) (by omega) (by first | omega | decide) (fun b20 hb20 => ?_)
  change WW κ _ _ _ _ _ _ _ _ _ (upA h b20 (true, .inl (.int, 5, iv (fun _ => 0))))
  have N1 := NewX.new (x := (true, .inl (.int, 5, iv (fun _ => 0)))) (NewX.rf (a := a) (h := h)) ha hb20
  have a1 := upo (c := (true, .inl (.int, 5, iv (fun _ => 0)))) hb20 ha
  generalize upA h b20 (true, .inl (.int, 5, iv (fun _ => 0))) = g1 at N1 a1 ⊢
  refine r_putfield (fs' := [.ref b20, .null, .int (J 0)]) dX8_init_8 f_X8_11 p_X8_11 ff_12_0 a1 rfl (by first | rfl | decide) (Nat.le_of_ble_eq_true rfl) rfl ?_
  have N2 := NewX.put (d := (true, .inr (12, [.ref b20, .null, .int (J 0)]))) N1 ha
  have a2 : upA g1 a (true, .inr (12, [.ref b20, .null, .int (J 0)])) a = some (true, .inr (12, [.ref b20, .null, .int (J 0)])) := upA_same
  generalize upA g1 a (true, .inr (12, [.ref b20, .null, .int (J 0)])) = g2 at N2 a2 ⊢
  refine r_al0 dX8_init_11 ?_
  refine r_iconst dX8_init_12 ?_
  refine r_newa dX8_init_13 (by decide) ac_I (by decide) (by decide) (by decide) (by omega) (by first | omega | decide) (fun b21 hb21 => ?_)
  change WW κ _ _ _ _ _ _ _ _ _ (upA g2 b21 (true, .inl (.int, 5, iv (fun _ => 0))))
  have N3 := NewX.new (x := (true, .inl (.int, 5, iv (fun _ => 0)))) N2 a2 hb21
  have a3 := upo (c := (true, .inl (.int, 5, iv (fun _ => 0)))) hb21 a2
  generalize upA g2 b21 (true, .inl (.int, 5, iv (fun _ => 0))) = g3 at N3 a3 ⊢
  refine r_putfield (fs' := [.ref b20, .ref b21, .int (J 0)]) dX8_init_15 f_X8_15 p_X8_15 ff_12_1 a3 rfl (by first | rfl | decide) (Nat.le_of_ble_eq_true rfl) rfl ?_
  have N4 := NewX.put (d := (true, .inr (12, [.ref b20, .ref b21, .int (J 0)]))) N3 ha
  have a4 : upA g3 a (true, .inr (12, [.ref b20, .ref b21, .int (J 0)])) a = some (true, .inr (12, [.ref b20, .ref b21, .int (J 0)])) := upA_same
  generalize upA g3 a (true, .inr (12, [.ref b20, .ref b21, .int (J 0)])) = g4 at N4 a4 ⊢
  refine r_al0 dX8_init_18 ?_
  refine r_iconst dX8_init_19 ?_
  refine r_putfield (fs' := [.ref b20, .ref b21, .int (J 0)]) dX8_init_20 f_X8_18 p_X8_18 (ff_12_2 _) a4 rfl (by first | rfl | decide) (Nat.le_of_ble_eq_true rfl) rfl ?_
  have N5 := NewX.put (d := (true, .inr (12, [.ref b20, .ref b21, .int (J 0)]))) N4 ha
  have a5 : upA g4 a (true, .inr (12, [.ref b20, .ref b21, .int (J 0)])) a = some (true, .inr (12, [.ref b20, .ref b21, .int (J 0)])) := upA_same
  generalize upA g4 a (true, .inr (12, [.ref b20, .ref b21, .int (J 0)])) = g5 at N5 a5 ⊢
  exact r_ret dX8_init_23 rfl ⟨rfl, b20, b21, N5, a5⟩
set_option maxRecDepth 100000 in
set_option maxHeartbeats 4000000 in
theorem n_x0 (κ : KP) (h : AH) {a : Nat} (ha : h a = some (true, .inr (4, [.null, .int (J 0), .int (J 0), .null, .null, .null, .null, .int (J 0), .int (J 0), .int (J 0)]))) {q : Nat} : MM κ mX0_init 1 4 22 [.ref a, .ref q] h (fun v h' => v = none ∧ ∃ u0 u1 u2 u3 : Nat, NewX a h h' [(u3, (true, .inl (.int, 6, iv (fun _ => 0)))), (u2, (true, .inl (.int, 4, iv (fun _ => 0)))), (u1, (true, .inl (.int, 6, iv (fun _ => 0)))), (u0, (true, .inl (.int, 6, iv (fun _ => 0))))] ∧ h' a = some (true, .inr (4, [.ref q, .int (J 0), .int (J 0), .ref u0, .ref u1, .ref u2, .ref u3, .int (J 0), .int (J 0), .int (J 0)]))) NoX := by
  refine mm_of (L := [some _, some _]) (by decide +kernel) rfl rfl (Nat.le_of_ble_eq_true rfl) rfl ?_
  refine r_al0 dX0_init_0 ?_
  refine r_objInit dX0_init_1 o_X0_3 oI oC (by decide) (cat_le rfl) ?_
  refine r_al0 dX0_init_4 ?_
  refine r_iconst dX0_init_5 ?_
  refine r_putfield (fs' := [.null, .int (J 0), .int (J 0), .null, .null, .null, .null, .int (J 0), .int (J 0), .int (J 0)]) dX0_init_6 f_X0_9 p_X0_9 (ff_4_1 _) ha rfl (by first | rfl | decide) (Nat.le_of_ble_eq_true rfl) rfl ?_
  have N1 := NewX.put (d := (true, .inr (4, [.null, .int (J 0), .int (J 0), .null, .null, .null, .null, .int (J 0), .int (J 0), .int (J 0)]))) (NewX.rf (a := a) (h := h)) ha
  have a1 : upA h a (true, .inr (4, [.null, .int (J 0), .int (J 0), .null, .null, .null, .null, .int (J 0), .int (J 0), .int (J 0)])) a = some (true, .inr (4, [.null, .int (J 0), .int (J 0), .null, .null, .null, .null, .int (J 0), .int (J 0), .int (J 0)])) := upA_same
  generalize upA h a (true, .inr (4, [.null, .int (J 0), .int (J 0), .null, .null, .null, .null, .int (J 0), .int (J 0), .int (J 0)])) = g1 at N1 a1 ⊢
  refine r_al0 dX0_init_9 ?_
  refine r_iconst dX0_init_10 ?_
  refine r_putfield (fs' := [.null, .int (J 0), .int (J 0), .null, .null, .null, .null, .int (J 0), .int (J 0), .int (J 0)]) dX0_init_11 f_X0_15 p_X0_15 (ff_4_2 _) a1 rfl (by first | rfl | decide) (Nat.le_of_ble_eq_true rfl) rfl ?_
  have N2 := NewX.put (d := (true, .inr (4, [.null, .int (J 0), .int (J 0), .null, .null, .null, .null, .int (J 0), .int (J 0), .int (J 0)]))) N1 ha
  have a2 : upA g1 a (true, .inr (4, [.null, .int (J 0), .int (J 0), .null, .null, .null, .null, .int (J 0), .int (J 0), .int (J 0)])) a = some (true, .inr (4, [.null, .int (J 0), .int (J 0), .null, .null, .null, .null, .int (J 0), .int (J 0), .int (J 0)])) := upA_same
  generalize upA g1 a (true, .inr (4, [.null, .int (J 0), .int (J 0), .null, .null, .null, .null, .int (J 0), .int (J 0), .int (J 0)])) = g2 at N2 a2 ⊢
  refine r_al0 dX0_init_14 ?_
  refine r_bipush dX0_init_15 (by decide) ?_
  refine r_newa dX0_init_17 (by decide) ac_I (by decide) (by decide) (by decide) (by omega) (by first | omega | decide) (fun u0 hu0 => ?_)
  change WW κ _ _ _ _ _ _ _ _ _ (upA g2 u0 (true, .inl (.int, 6, iv (fun _ => 0))))
  have N3 := NewX.new (x := (true, .inl (.int, 6, iv (fun _ => 0)))) N2 a2 hu0
  have a3 := upo (c := (true, .inl (.int, 6, iv (fun _ => 0)))) hu0 a2
  generalize upA g2 u0 (true, .inl (.int, 6, iv (fun _ => 0))) = g3 at N3 a3 ⊢
  refine r_putfield (fs' := [.null, .int (J 0), .int (J 0), .ref u0, .null, .null, .null, .int (J 0), .int (J 0), .int (J 0)]) dX0_init_19 f_X0_18 p_X0_18 ff_4_3 a3 rfl (by first | rfl | decide) (Nat.le_of_ble_eq_true rfl) rfl ?_
  have N4 := NewX.put (d := (true, .inr (4, [.null, .int (J 0), .int (J 0), .ref u0, .null, .null, .null, .int (J 0), .int (J 0), .int (J 0)]))) N3 ha
  have a4 : upA g3 a (true, .inr (4, [.null, .int (J 0), .int (J 0), .ref u0, .null, .null, .null, .int (J 0), .int (J 0), .int (J 0)])) a = some (true, .inr (4, [.null, .int (J 0), .int (J 0), .ref u0, .null, .null, .null, .int (J 0), .int (J 0), .int (J 0)])) := upA_same
  generalize upA g3 a (true, .inr (4, [.null, .int (J 0), .int (J 0), .ref u0, .null, .null, .null, .int (J 0), .int (J 0), .int (J 0)])) = g4 at N4 a4 ⊢
  refine r_al0 dX0_init_22 ?_
  refine r_bipush dX0_init_23 (by decide) ?_
  refine r_newa dX0_init_25 (by decide) ac_I (by decide) (by decide) (by decide) (by omega) (by first | omega | decide) (fun u1 hu1 => ?_)
  change WW κ _ _ _ _ _ _ _ _ _ (upA g4 u1 (true, .inl (.int, 6, iv (fun _ => 0))))
  have N5 := NewX.new (x := (true, .inl (.int, 6, iv (fun _ => 0)))) N4 a4 hu1
  have a5 := upo (c := (true, .inl (.int, 6, iv (fun _ => 0)))) hu1 a4
  generalize upA g4 u1 (true, .inl (.int, 6, iv (fun _ => 0))) = g5 at N5 a5 ⊢
  refine r_putfield (fs' := [.null, .int (J 0), .int (J 0), .ref u0, .ref u1, .null, .null, .int (J 0), .int (J 0), .int (J 0)]) dX0_init_27 f_X0_22 p_X0_22 ff_4_4 a5 rfl (by first | rfl | decide) (Nat.le_of_ble_eq_true rfl) rfl ?_
  have N6 := NewX.put (d := (true, .inr (4, [.null, .int (J 0), .int (J 0), .ref u0, .ref u1, .null, .null, .int (J 0), .int (J 0), .int (J 0)]))) N5 ha
  have a6 : upA g5 a (true, .inr (4, [.null, .int (J 0), .int (J 0), .ref u0, .ref u1, .null, .null, .int (J 0), .int (J 0), .int (J 0)])) a = some (true, .inr (4, [.null, .int (J 0), .int (J 0), .ref u0, .ref u1, .null, .null, .int (J 0), .int (J 0), .int (J 0)])) := upA_same
  generalize upA g5 a (true, .inr (4, [.null, .int (J 0), .int (J 0), .ref u0, .ref u1, .null, .null, .int (J 0), .int (J 0), .int (J 0)])) = g6 at N6 a6 ⊢
  refine r_al0 dX0_init_30 ?_
  refine r_iconst dX0_init_31 ?_
  refine r_newa dX0_init_32 (by decide) ac_I (by decide) (by decide) (by decide) (by omega) (by first | omega | decide) (fun u2 hu2 => ?_)
  change WW κ _ _ _ _ _ _ _ _ _ (upA g6 u2 (true, .inl (.int, 4, iv (fun _ => 0))))
  have N7 := NewX.new (x := (true, .inl (.int, 4, iv (fun _ => 0)))) N6 a6 hu2
  have a7 := upo (c := (true, .inl (.int, 4, iv (fun _ => 0)))) hu2 a6
  generalize upA g6 u2 (true, .inl (.int, 4, iv (fun _ => 0))) = g7 at N7 a7 ⊢
  refine r_putfield (fs' := [.null, .int (J 0), .int (J 0), .ref u0, .ref u1, .ref u2, .null, .int (J 0), .int (J 0), .int (J 0)]) dX0_init_34 f_X0_25 p_X0_25 ff_4_5 a7 rfl (by first | rfl | decide) (Nat.le_of_ble_eq_true rfl) rfl ?_
  have N8 := NewX.put (d := (true, .inr (4, [.null, .int (J 0), .int (J 0), .ref u0, .ref u1, .ref u2, .null, .int (J 0), .int (J 0), .int (J 0)]))) N7 ha
  have a8 : upA g7 a (true, .inr (4, [.null, .int (J 0), .int (J 0), .ref u0, .ref u1, .ref u2, .null, .int (J 0), .int (J 0), .int (J 0)])) a = some (true, .inr (4, [.null, .int (J 0), .int (J 0), .ref u0, .ref u1, .ref u2, .null, .int (J 0), .int (J 0), .int (J 0)])) := upA_same
  generalize upA g7 a (true, .inr (4, [.null, .int (J 0), .int (J 0), .ref u0, .ref u1, .ref u2, .null, .int (J 0), .int (J 0), .int (J 0)])) = g8 at N8 a8 ⊢
  refine r_al0 dX0_init_37 ?_
  refine r_bipush dX0_init_38 (by decide) ?_
  refine r_newa dX0_init_40 (by decide) ac_I (by decide) (by decide) (by decide) (by omega) (by first | omega | decide) (fun u3 hu3 => ?_)
  change WW κ _ _ _ _ _ _ _ _ _ (upA g8 u3 (true, .inl (.int, 6, iv (fun _ => 0))))
  have N9 := NewX.new (x := (true, .inl (.int, 6, iv (fun _ => 0)))) N8 a8 hu3
  have a9 := upo (c := (true, .inl (.int, 6, iv (fun _ => 0)))) hu3 a8
  generalize upA g8 u3 (true, .inl (.int, 6, iv (fun _ => 0))) = g9 at N9 a9 ⊢
  refine r_putfield (fs' := [.null, .int (J 0), .int (J 0), .ref u0, .ref u1, .ref u2, .ref u3, .int (J 0), .int (J 0), .int (J 0)]) dX0_init_42 f_X0_28 p_X0_28 ff_4_6 a9 rfl (by first | rfl | decide) (Nat.le_of_ble_eq_true rfl) rfl ?_
  have N10 := NewX.put (d := (true, .inr (4, [.null, .int (J 0), .int (J 0), .ref u0, .ref u1, .ref u2, .ref u3, .int (J 0), .int (J 0), .int (J 0)]))) N9 ha
  have a10 : upA g9 a (true, .inr (4, [.null, .int (J 0), .int (J 0), .ref u0, .ref u1, .ref u2, .ref u3, .int (J 0), .int (J 0), .int (J 0)])) a = some (true, .inr (4, [.null, .int (J 0), .int (J 0), .ref u0, .ref u1, .ref u2, .ref u3, .int (J 0), .int (J 0), .int (J 0)])) := upA_same
  generalize upA g9 a (true, .inr (4, [.null, .int (J 0), .int (J 0), .ref u0, .ref u1, .ref u2, .ref u3, .int (J 0), .int (J 0), .int (J 0)])) = g10 at N10 a10 ⊢
  refine r_al0 dX0_init_45 ?_
  refine r_iconst dX0_init_46 ?_
  refine r_putfield (fs' := [.null, .int (J 0), .int (J 0), .ref u0, .ref u1, .ref u2, .ref u3, .int (J 0), .int (J 0), .int (J 0)]) dX0_init_47 f_X0_31 p_X0_31 (ff_4_7 _) a10 rfl (by first | rfl | decide) (Nat.le_of_ble_eq_true rfl) rfl ?_
  have N11 := NewX.put (d := (true, .inr (4, [.null, .int (J 0), .int (J 0), .ref u0, .ref u1, .ref u2, .ref u3, .int (J 0), .int (J 0), .int (J 0)]))) N10 ha
  have a11 : upA g10 a (true, .inr (4, [.null, .int (J 0), .int (J 0), .ref u0, .ref u1, .ref u2, .ref u3, .int (J 0), .int (J 0), .int (J 0)])) a = some (true, .inr (4, [.null, .int (J 0), .int (J 0), .ref u0, .ref u1, .ref u2, .ref u3, .int (J 0), .int (J 0), .int (J 0)])) := upA_same
  generalize upA g10 a (true, .inr (4, [.null, .int (J 0), .int (J 0), .ref u0, .ref u1, .ref u2, .ref u3, .int (J 0), .int (J 0), .int (J 0)])) = g11 at N11 a11 ⊢
  refine r_al0 dX0_init_50 ?_
  refine r_iconst dX0_init_51 ?_
  refine r_putfield (fs' := [.null, .int (J 0), .int (J 0), .ref u0, .ref u1, .ref u2, .ref u3, .int (J 0), .int (J 0), .int (J 0)]) dX0_init_52 f_X0_34 p_X0_34 (ff_4_8 _) a11 rfl (by first | rfl | decide) (Nat.le_of_ble_eq_true rfl) rfl ?_
  have N12 := NewX.put (d := (true, .inr (4, [.null, .int (J 0), .int (J 0), .ref u0, .ref u1, .ref u2, .ref u3, .int (J 0), .int (J 0), .int (J 0)]))) N11 ha
  have a12 : upA g11 a (true, .inr (4, [.null, .int (J 0), .int (J 0), .ref u0, .ref u1, .ref u2, .ref u3, .int (J 0), .int (J 0), .int (J 0)])) a = some (true, .inr (4, [.null, .int (J 0), .int (J 0), .ref u0, .ref u1, .ref u2, .ref u3, .int (J 0), .int (J 0), .int (J 0)])) := upA_same
  generalize upA g11 a (true, .inr (4, [.null, .int (J 0), .int (J 0), .ref u0, .ref u1, .ref u2, .ref u3, .int (J 0), .int (J 0), .int (J 0)])) = g12 at N12 a12 ⊢
  refine r_al0 dX0_init_55 ?_
  refine r_iconst dX0_init_56 ?_
  refine r_putfield (fs' := [.null, .int (J 0), .int (J 0), .ref u0, .ref u1, .ref u2, .ref u3, .int (J 0), .int (J 0), .int (J 0)]) dX0_init_57 f_X0_37 p_X0_37 (ff_4_9 _) a12 rfl (by first | rfl | decide) (Nat.le_of_ble_eq_true rfl) rfl ?_
  have N13 := NewX.put (d := (true, .inr (4, [.null, .int (J 0), .int (J 0), .ref u0, .ref u1, .ref u2, .ref u3, .int (J 0), .int (J 0), .int (J 0)]))) N12 ha
  have a13 : upA g12 a (true, .inr (4, [.null, .int (J 0), .int (J 0), .ref u0, .ref u1, .ref u2, .ref u3, .int (J 0), .int (J 0), .int (J 0)])) a = some (true, .inr (4, [.null, .int (J 0), .int (J 0), .ref u0, .ref u1, .ref u2, .ref u3, .int (J 0), .int (J 0), .int (J 0)])) := upA_same
  generalize upA g12 a (true, .inr (4, [.null, .int (J 0), .int (J 0), .ref u0, .ref u1, .ref u2, .ref u3, .int (J 0), .int (J 0), .int (J 0)])) = g13 at N13 a13 ⊢
  refine r_al0 dX0_init_60 ?_
  refine r_al1 dX0_init_61 ?_
  refine r_putfield (fs' := [.ref q, .int (J 0), .int (J 0), .ref u0, .ref u1, .ref u2, .ref u3, .int (J 0), .int (J 0), .int (J 0)]) dX0_init_62 f_X0_40 p_X0_40 (ff_4_0 _) a13 rfl (by first | rfl | decide) (Nat.le_of_ble_eq_true rfl) rfl ?_
  have N14 := NewX.put (d := (true, .inr (4, [.ref q, .int (J 0), .int (J 0), .ref u0, .ref u1, .ref u2, .ref u3, .int (J 0), .int (J 0), .int (J 0)]))) N13 ha
  have a14 : upA g13 a (true, .inr (4, [.ref q, .int (J 0), .int (J 0), .ref u0, .ref u1, .ref u2, .ref u3, .int (J 0), .int (J 0), .int (J 0)])) a = some (true, .inr (4, [.ref q, .int (J 0), .int (J 0), .ref u0, .ref u1, .ref u2, .ref u3, .int (J 0), .int (J 0), .int (J 0)])) := upA_same
  generalize upA g13 a (true, .inr (4, [.ref q, .int (J 0), .int (J 0), .ref u0, .ref u1, .ref u2, .ref u3, .int (J 0), .int (J 0), .int (J 0)])) = g14 at N14 a14 ⊢
  exact r_ret dX0_init_65 rfl ⟨rfl, u0, u1, u2, u3, N14, a14⟩
set_option maxRecDepth 100000 in
set_option maxHeartbeats 4000000 in
theorem n_x9 (κ : KP) (h : AH) {a : Nat} (ha : h a = some (true, .inr (13, [.null, .null, .null, .null, .null, .null, .null, .int (J 0), .int (J 0)]))) : MM κ mX9_init 8 40 600 [.ref a] h (fun v h' => v = none ∧ ∃ b1 b2 b3 b4 b5 b6 b7 b8 b9 b10 b11 u0 u1 u2 u3 v0 v1 v2 v3 b20 b21 q : Nat, NewX a h h' [(b21, (true, .inl (.int, 5, iv (fun _ => 0)))), (b20, (true, .inl (.int, 5, iv (fun _ => 0)))), (b5, (true, .inr (12, [.ref b20, .ref b21, .int (J 0)]))), (v3, (true, .inl (.int, 6, iv (fun _ => 0)))), (v2, (true, .inl (.int, 4, iv (fun _ => 0)))), (v1, (true, .inl (.int, 6, iv (fun _ => 0)))), (v0, (true, .inl (.int, 6, iv (fun _ => 0)))), (b4, (true, .inr (4, [.ref q, .int (J 0), .int (J 0), .ref v0, .ref v1, .ref v2, .ref v3, .int (J 0), .int (J 0), .int (J 0)]))), (u3, (true, .inl (.int, 6, iv (fun _ => 0)))), (u2, (true, .inl (.int, 4, iv (fun _ => 0)))), (u1, (true, .inl (.int, 6, iv (fun _ => 0)))), (u0, (true, .inl (.int, 6, iv (fun _ => 0)))), (b3, (true, .inr (4, [.ref q, .int (J 0), .int (J 0), .ref u0, .ref u1, .ref u2, .ref u3, .int (J 0), .int (J 0), .int (J 0)]))), (b11, (true, .inl (.object RX3, 8, rv (fun _ => none)))), (b2, (true, .inr (9, [.ref b11, .int (J 0)]))), (b10, (true, .inl (.int, 3, iv (fun _ => 0)))), (b9, (true, .inl (.object RX1, 50, rv (fun _ => none)))), (b8, (true, .inl (.byte, 16, iv (fun _ => 0)))), (b7, (true, .inr (1, [.ref b8, .int (J 0), .int (J 0), .int (J 0)]))), (b6, (true, .inl (.char, 50, iv (fun _ => 0)))), (b1, (true, .inr (11, [.ref b6, .int (J 0), .int (J 0), .ref b7, .ref b9, .int (J 0), .ref b10, .int (J 0)])))] ∧ h' a = some (true, .inr (13, [.ref b1, .ref b2, .ref b3, .ref b4, .ref b5, .ref q, .null, .int (J (-1)), .int (J 0)])) ∧ ∀ g : Int → Int, g 0 = 0 → g 1 = 0 → g 2 = 0 → g 3 = 0 → DeskAt κ h' q g) NoX := by
  refine mm_of (L := [some _]) (by decide +kernel) rfl rfl (Nat.le_of_ble_eq_true rfl) rfl ?_
  refine r_al0 dX9_init_0 ?_
  refine r_objInit dX9_init_1 o_X9_1 oI oC (by decide) (cat_le rfl) ?_
  refine r_al0 dX9_init_4 ?_
  refine r_new dX9_init_5 n_X9_7 (by omega) (by first | omega | decide) (fun b1 hb1 => ?_)
  refine r_dup dX9_init_8 rfl ?_
  refine r_callIN (As := []) dX9_init_9 i_X9_9 (n_x7 κ _ upA_same) (by decide) rfl rfl (cat_le rfl) (by omega) (by first | omega | decide) (fun v g1 hq1 => ?_)
  obtain ⟨rfl, b6, b7, b8, b9, b10, K1, e1⟩ := hq1
  obtain ⟨N1, a1⟩ := NewX.sub (NewX.rf (a := a) (h := h)) ha hb1 K1 e1
  rw [List.cons_append, List.cons_append, List.cons_append, List.cons_append, List.cons_append, List.nil_append] at N1
  refine r_putfield (fs' := [.ref b1, .null, .null, .null, .null, .null, .null, .int (J 0), .int (J 0)]) dX9_init_12 f_X9_10 p_X9_10 ff_13_0 a1 rfl (by first | rfl | decide) (Nat.le_of_ble_eq_true rfl) rfl ?_
  have N2 := NewX.put (d := (true, .inr (13, [.ref b1, .null, .null, .null, .null, .null, .null, .int (J 0), .int (J 0)]))) N1 ha
  have a2 : upA g1 a (true, .inr (13, [.ref b1, .null, .null, .null, .null, .null, .null, .int (J 0), .int (J 0)])) a = some (true, .inr (13, [.ref b1, .null, .null, .null, .null, .null, .null, .int (J 0), .int (J 0)])) := upA_same
  generalize upA g1 a (true, .inr (13, [.ref b1, .null, .null, .null, .null, .null, .null, .int (J 0), .int (J 0)])) = g2 at N2 a2 ⊢
  refine r_al0 dX9_init_15 ?_
  refine r_new dX9_init_16 n_X9_16 (by omega) (by first | omega | decide) (fun b2 hb2 => ?_)
  refine r_dup dX9_init_19 rfl ?_
  refine r_callIN (As := []) dX9_init_20 i_X9_18 (n_x5 κ _ upA_same) (by decide) rfl rfl (cat_le rfl) (by omega) (by first | omega | decide) (fun v g3 hq3 => ?_)
  obtain ⟨rfl, b11, K3, e3⟩ := hq3
  obtain ⟨N3, a3⟩ := NewX.sub N2 a2 hb2 K3 e3
  rw [List.cons_append, List.nil_append] at N3
  refine r_putfield (fs' := [.ref b1, .ref b2, .null, .null, .null, .null, .null, .int (J 0), .int (J 0)]) dX9_init_23 f_X9_19 p_X9_19 ff_13_1 a3 rfl (by first | rfl | decide) (Nat.le_of_ble_eq_true rfl) rfl ?_
  have N4 := NewX.put (d := (true, .inr (13, [.ref b1, .ref b2, .null, .null, .null, .null, .null, .int (J 0), .int (J 0)]))) N3 ha
  have a4 : upA g3 a (true, .inr (13, [.ref b1, .ref b2, .null, .null, .null, .null, .null, .int (J 0), .int (J 0)])) a = some (true, .inr (13, [.ref b1, .ref b2, .null, .null, .null, .null, .null, .int (J 0), .int (J 0)])) := upA_same
  generalize upA g3 a (true, .inr (13, [.ref b1, .ref b2, .null, .null, .null, .null, .null, .int (J 0), .int (J 0)])) = g4 at N4 a4 ⊢
  refine r_al0 dX9_init_26 ?_
  refine r_new dX9_init_27 n_X9_23 (by omega) (by first | omega | decide) (fun q hq => ?_)
  have oq := NewX.old N4 a4 hq
  have N5 := NewX.hid (x := (true, .inr (7, [.int (J 0), .null, .null, .null]))) N4 a4 hq
  have a5 := upo (c := (true, .inr (7, [.int (J 0), .null, .null, .null]))) hq a4
  have cq : upA g4 q (true, .inr (7, [.int (J 0), .null, .null, .null])) q = some (true, .inr (7, [.int (J 0), .null, .null, .null])) := upA_same
  generalize upA g4 q (true, .inr (7, [.int (J 0), .null, .null, .null])) = g5 at N5 a5 cq  ⊢
  refine r_dup dX9_init_30 rfl ?_
  refine r_iconst dX9_init_31 ?_
  refine r_iconst dX9_init_32 ?_
  refine r_anewa dX9_init_33 a_X9_25 (by decide) (by decide) (by decide) (by decide) (by omega) (by omega) (fun cr hcr => ?_)
  change WW κ _ _ _ _ _ _ _ _ _ (upA g5 cr (true, .inl (.object RX2, 0, rv (fun _ => none))))
  have ocr := NewX.old N5 a5 hcr
  have N6 := NewX.hid (x := (true, .inl (.object RX2, 0, rv (fun _ => none)))) N5 a5 hcr
  have a6 := upo (c := (true, .inl (.object RX2, 0, rv (fun _ => none)))) hcr a5
  have cq := upo (c := (true, .inl (.object RX2, 0, rv (fun _ => none)))) hcr cq
  have ccr : upA g5 cr (true, .inl (.object RX2, 0, rv (fun _ => none))) cr = some (true, .inl (.object RX2, 0, rv (fun _ => none))) := upA_same
  generalize upA g5 cr (true, .inl (.object RX2, 0, rv (fun _ => none))) = g6 at N6 a6 ccr cq ⊢
  refine ww_frz1 (a := cr) ccr ?_
  have N7 := NewX.hx N6 ocr (ExA.put (c := (false, .inl (.object RX2, 0, rv (fun _ => none)))) ExA.rf)
  have a7 : upA g6 cr (false, .inl (.object RX2, 0, rv (fun _ => none))) a = some (true, .inr (13, [.ref b1, .ref b2, .null, .null, .null, .null, .null, .int (J 0), .int (J 0)])) := by rw [upA_ne (Ne.symm ocr.2.1)]; exact a6
  have cq : upA g6 cr (false, .inl (.object RX2, 0, rv (fun _ => none))) q = some (true, .inr (7, [.int (J 0), .null, .null, .null])) := by rw [upA_ne (fun e => by rw [e] at cq; rw [cq] at ccr; cases ccr)]; exact cq
  have ccr : upA g6 cr (false, .inl (.object RX2, 0, rv (fun _ => none))) cr = some (false, .inl (.object RX2, 0, rv (fun _ => none))) := upA_same
  generalize upA g6 cr (false, .inl (.object RX2, 0, rv (fun _ => none))) = g7 at N7 a7 ccr cq ⊢
  refine r_iconst dX9_init_36 ?_
  refine r_anewa dX9_init_37 a_X9_27 (by decide) (by decide) (by decide) (by decide) (by omega) (by omega) (fun eq heq => ?_)
  change WW κ _ _ _ _ _ _ _ _ _ (upA g7 eq (true, .inl (.object RX4, 0, rv (fun _ => none))))
  have oeq := NewX.old N7 a7 heq
  have N8 := NewX.hid (x := (true, .inl (.object RX4, 0, rv (fun _ => none)))) N7 a7 heq
  have a8 := upo (c := (true, .inl (.object RX4, 0, rv (fun _ => none)))) heq a7
  have cq := upo (c := (true, .inl (.object RX4, 0, rv (fun _ => none)))) heq cq
  have ccr := upo (c := (true, .inl (.object RX4, 0, rv (fun _ => none)))) heq ccr
  have ceq : upA g7 eq (true, .inl (.object RX4, 0, rv (fun _ => none))) eq = some (true, .inl (.object RX4, 0, rv (fun _ => none))) := upA_same
  generalize upA g7 eq (true, .inl (.object RX4, 0, rv (fun _ => none))) = g8 at N8 a8 ceq cq ccr ⊢
  refine ww_frz1 (a := eq) ceq ?_
  have N9 := NewX.hx N8 oeq (ExA.put (c := (false, .inl (.object RX4, 0, rv (fun _ => none)))) ExA.rf)
  have a9 : upA g8 eq (false, .inl (.object RX4, 0, rv (fun _ => none))) a = some (true, .inr (13, [.ref b1, .ref b2, .null, .null, .null, .null, .null, .int (J 0), .int (J 0)])) := by rw [upA_ne (Ne.symm oeq.2.1)]; exact a8
  have cq : upA g8 eq (false, .inl (.object RX4, 0, rv (fun _ => none))) q = some (true, .inr (7, [.int (J 0), .null, .null, .null])) := by rw [upA_ne (fun e => by rw [e] at cq; rw [cq] at ceq; cases ceq)]; exact cq
  have ccr : upA g8 eq (false, .inl (.object RX4, 0, rv (fun _ => none))) cr = some (false, .inl (.object RX2, 0, rv (fun _ => none))) := by rw [upA_ne (fun e => by rw [e] at ccr; rw [ccr] at ceq; cases ceq)]; exact ccr
  have ceq : upA g8 eq (false, .inl (.object RX4, 0, rv (fun _ => none))) eq = some (false, .inl (.object RX4, 0, rv (fun _ => none))) := upA_same
  generalize upA g8 eq (false, .inl (.object RX4, 0, rv (fun _ => none))) = g9 at N9 a9 ceq cq ccr ⊢
  refine r_new dX9_init_40 n_X9_29 (by omega) (by first | omega | decide) (fun p hp => ?_)
  have op := NewX.old N9 a9 hp
  have N10 := NewX.hid (x := (true, .inr (10, [.null, .null, .int (J 0), .null, .null]))) N9 a9 hp
  have a10 := upo (c := (true, .inr (10, [.null, .null, .int (J 0), .null, .null]))) hp a9
  have cq := upo (c := (true, .inr (10, [.null, .null, .int (J 0), .null, .null]))) hp cq
  have ccr := upo (c := (true, .inr (10, [.null, .null, .int (J 0), .null, .null]))) hp ccr
  have ceq := upo (c := (true, .inr (10, [.null, .null, .int (J 0), .null, .null]))) hp ceq
  have cp : upA g9 p (true, .inr (10, [.null, .null, .int (J 0), .null, .null])) p = some (true, .inr (10, [.null, .null, .int (J 0), .null, .null])) := upA_same
  generalize upA g9 p (true, .inr (10, [.null, .null, .int (J 0), .null, .null])) = g10 at N10 a10 cp cq ccr ceq ⊢
  refine r_dup dX9_init_43 rfl ?_
  refine r_iconst dX9_init_44 ?_
  refine r_anewa dX9_init_45 a_X9_31 (by decide) (by decide) (by decide) (by decide) (by omega) (by omega) (fun bl hbl => ?_)
  change WW κ _ _ _ _ _ _ _ _ _ (upA g10 bl (true, .inl (.object RX1, 0, rv (fun _ => none))))
  have obl := NewX.old N10 a10 hbl
  have N11 := NewX.hid (x := (true, .inl (.object RX1, 0, rv (fun _ => none)))) N10 a10 hbl
  have a11 := upo (c := (true, .inl (.object RX1, 0, rv (fun _ => none)))) hbl a10
  have cq := upo (c := (true, .inl (.object RX1, 0, rv (fun _ => none)))) hbl cq
  have ccr := upo (c := (true, .inl (.object RX1, 0, rv (fun _ => none)))) hbl ccr
  have ceq := upo (c := (true, .inl (.object RX1, 0, rv (fun _ => none)))) hbl ceq
  have cp := upo (c := (true, .inl (.object RX1, 0, rv (fun _ => none)))) hbl cp
  have cbl : upA g10 bl (true, .inl (.object RX1, 0, rv (fun _ => none))) bl = some (true, .inl (.object RX1, 0, rv (fun _ => none))) := upA_same
  generalize upA g10 bl (true, .inl (.object RX1, 0, rv (fun _ => none))) = g11 at N11 a11 cbl cq ccr ceq cp ⊢
  refine ww_frz1 (a := bl) cbl ?_
  have N12 := NewX.hx N11 obl (ExA.put (c := (false, .inl (.object RX1, 0, rv (fun _ => none)))) ExA.rf)
  have a12 : upA g11 bl (false, .inl (.object RX1, 0, rv (fun _ => none))) a = some (true, .inr (13, [.ref b1, .ref b2, .null, .null, .null, .null, .null, .int (J 0), .int (J 0)])) := by rw [upA_ne (Ne.symm obl.2.1)]; exact a11
  have cq : upA g11 bl (false, .inl (.object RX1, 0, rv (fun _ => none))) q = some (true, .inr (7, [.int (J 0), .null, .null, .null])) := by rw [upA_ne (fun e => by rw [e] at cq; rw [cq] at cbl; cases cbl)]; exact cq
  have ccr : upA g11 bl (false, .inl (.object RX1, 0, rv (fun _ => none))) cr = some (false, .inl (.object RX2, 0, rv (fun _ => none))) := by rw [upA_ne (fun e => by rw [e] at ccr; rw [ccr] at cbl; cases cbl)]; exact ccr
  have ceq : upA g11 bl (false, .inl (.object RX1, 0, rv (fun _ => none))) eq = some (false, .inl (.object RX4, 0, rv (fun _ => none))) := by rw [upA_ne (fun e => by rw [e] at ceq; rw [ceq] at cbl; cases cbl)]; exact ceq
  have cp : upA g11 bl (false, .inl (.object RX1, 0, rv (fun _ => none))) p = some (true, .inr (10, [.null, .null, .int (J 0), .null, .null])) := by rw [upA_ne (fun e => by rw [e] at cp; rw [cp] at cbl; cases cbl)]; exact cp
  have cbl : upA g11 bl (false, .inl (.object RX1, 0, rv (fun _ => none))) bl = some (false, .inl (.object RX1, 0, rv (fun _ => none))) := upA_same
  generalize upA g11 bl (false, .inl (.object RX1, 0, rv (fun _ => none))) = g12 at N12 a12 cbl cq ccr ceq cp ⊢
  refine r_callI (As := [.ref bl]) dX9_init_48 i_X9_33 (c_prInit κ _ (n := 0) (R := fun _ _ => 0) (by decide) ⟨_, cbl, fun b b0 b1 => by omega⟩ (fun b b0 b1 => by omega) cp (by decide)) (by decide) rfl rfl (cat_le rfl) (by omega) (by first | omega | decide) (fun v g13 hq13 => ?_)
  obtain ⟨rfl, x13, hP⟩ := hq13
  have N13 := NewX.hx N12 op x13
  have a13 := x13 _ _ (Ne.symm op.2.1) a12
  have cq := x13 _ _ (fun e => by rw [e] at cq; rw [cp] at cq; cases cq) cq
  have ccr := x13 _ _ (fun e => by rw [e] at ccr; rw [cp] at ccr; cases ccr) ccr
  have ceq := x13 _ _ (fun e => by rw [e] at ceq; rw [cp] at ceq; cases ceq) ceq
  refine r_init (As := [.int (J 0), .ref cr, .ref eq, .ref p]) dX9_init_51 i_X9_36 (c_dkInit κ _ cq) (by decide) rfl rfl rfl ?_
  have N14 := NewX.hx N13 oq (ExA.put (c := (false, .inr (7, [.int (J 0), .ref cr, .ref eq, .ref p]))) ExA.rf)
  have a14 : upA g13 q (false, .inr (7, [.int (J 0), .ref cr, .ref eq, .ref p])) a = some (true, .inr (13, [.ref b1, .ref b2, .null, .null, .null, .null, .null, .int (J 0), .int (J 0)])) := by rw [upA_ne (Ne.symm oq.2.1)]; exact a13
  have fxq : Fx g13 (upA g13 q (false, .inr (7, [.int (J 0), .ref cr, .ref eq, .ref p]))) := ExA.fx (ExA.put ExA.rf) cq
  have hDk : ∀ g : Int → Int, g 0 = 0 → g 1 = 0 → g 2 = 0 → g 3 = 0 → DeskAt κ (upA g13 q (false, .inr (7, [.int (J 0), .ref cr, .ref eq, .ref p]))) q g := fun g z0 z1 z2 z3 => ⟨cr, eq, p, 0, 0, 0, by rw [z0]; exact upA_same, ⟨_, fxq _ _ ccr, fun c c0 c1 => by omega⟩, ⟨_, fxq _ _ ceq, fun c c0 c1 => by omega⟩, (hP.fx fxq).cong (fun b b0 b1 => by omega), z1.symm, z2.symm, z3.symm⟩
  generalize upA g13 q (false, .inr (7, [.int (J 0), .ref cr, .ref eq, .ref p])) = g14 at N14 a14 hDk ⊢
  refine r_putfield (fs' := [.ref b1, .ref b2, .null, .null, .null, .ref q, .null, .int (J 0), .int (J 0)]) dX9_init_54 f_X9_39 p_X9_39 (ff_13_5 _) a14 rfl (by first | rfl | decide) (Nat.le_of_ble_eq_true rfl) rfl ?_
  have N15 := NewX.put (d := (true, .inr (13, [.ref b1, .ref b2, .null, .null, .null, .ref q, .null, .int (J 0), .int (J 0)]))) N14 ha
  have hDk := fun g z0 z1 z2 z3 => (hDk g z0 z1 z2 z3).fx (ExA.fx (ExA.put (c := (true, .inr (13, [.ref b1, .ref b2, .null, .null, .null, .ref q, .null, .int (J 0), .int (J 0)]))) ExA.rf) a14)
  have a15 : upA g14 a (true, .inr (13, [.ref b1, .ref b2, .null, .null, .null, .ref q, .null, .int (J 0), .int (J 0)])) a = some (true, .inr (13, [.ref b1, .ref b2, .null, .null, .null, .ref q, .null, .int (J 0), .int (J 0)])) := upA_same
  generalize upA g14 a (true, .inr (13, [.ref b1, .ref b2, .null, .null, .null, .ref q, .null, .int (J 0), .int (J 0)])) = g15 at N15 a15 hDk ⊢
  refine r_al0 dX9_init_57 ?_
  refine r_new dX9_init_58 n_X9_43 (by omega) (by first | omega | decide) (fun b3 hb3 => ?_)
  refine r_dup dX9_init_61 rfl ?_
  refine r_al0 dX9_init_62 ?_
  refine r_getfield dX9_init_63 f_X9_39 (upo hb3 a15) rfl ?_
  refine r_callI (As := [.ref q]) dX9_init_66 i_X9_45 (n_x0 κ _ upA_same) (by decide) rfl rfl (cat_le rfl) (by omega) (by first | omega | decide) (fun v g16 hq16 => ?_)
  obtain ⟨rfl, u0, u1, u2, u3, K16, e16⟩ := hq16
  obtain ⟨N16, a16⟩ := NewX.sub N15 a15 hb3 K16 e16
  rw [List.cons_append, List.cons_append, List.cons_append, List.cons_append, List.nil_append] at N16
  have hDk := fun g z0 z1 z2 z3 => (hDk g z0 z1 z2 z3).fx ((Ext.up hb3).fx.trans (K16.2.2.fx upA_same))
  refine r_putfield (fs' := [.ref b1, .ref b2, .ref b3, .null, .null, .ref q, .null, .int (J 0), .int (J 0)]) dX9_init_69 f_X9_48 p_X9_48 ff_13_2 a16 rfl (by first | rfl | decide) (Nat.le_of_ble_eq_true rfl) rfl ?_
  have N17 := NewX.put (d := (true, .inr (13, [.ref b1, .ref b2, .ref b3, .null, .null, .ref q, .null, .int (J 0), .int (J 0)]))) N16 ha
  have hDk := fun g z0 z1 z2 z3 => (hDk g z0 z1 z2 z3).fx (ExA.fx (ExA.put (c := (true, .inr (13, [.ref b1, .ref b2, .ref b3, .null, .null, .ref q, .null, .int (J 0), .int (J 0)]))) ExA.rf) a16)
  have a17 : upA g16 a (true, .inr (13, [.ref b1, .ref b2, .ref b3, .null, .null, .ref q, .null, .int (J 0), .int (J 0)])) a = some (true, .inr (13, [.ref b1, .ref b2, .ref b3, .null, .null, .ref q, .null, .int (J 0), .int (J 0)])) := upA_same
  generalize upA g16 a (true, .inr (13, [.ref b1, .ref b2, .ref b3, .null, .null, .ref q, .null, .int (J 0), .int (J 0)])) = g17 at N17 a17 hDk ⊢
  refine r_al0 dX9_init_72 ?_
  refine r_new dX9_init_73 n_X9_43 (by omega) (by first | omega | decide) (fun b4 hb4 => ?_)
  refine r_dup dX9_init_76 rfl ?_
  refine r_al0 dX9_init_77 ?_
  refine r_getfield dX9_init_78 f_X9_39 (upo hb4 a17) rfl ?_
  refine r_callI (As := [.ref q]) dX9_init_81 i_X9_45 (n_x0 κ _ upA_same) (by decide) rfl rfl (cat_le rfl) (by omega) (by first | omega | decide) (fun v g18 hq18 => ?_)
  obtain ⟨rfl, v0, v1, v2, v3, K18, e18⟩ := hq18
  obtain ⟨N18, a18⟩ := NewX.sub N17 a17 hb4 K18 e18
  rw [List.cons_append, List.cons_append, List.cons_append, List.cons_append, List.nil_append] at N18
  have hDk := fun g z0 z1 z2 z3 => (hDk g z0 z1 z2 z3).fx ((Ext.up hb4).fx.trans (K18.2.2.fx upA_same))
  refine r_putfield (fs' := [.ref b1, .ref b2, .ref b3, .ref b4, .null, .ref q, .null, .int (J 0), .int (J 0)]) dX9_init_84 f_X9_52 p_X9_52 ff_13_3 a18 rfl (by first | rfl | decide) (Nat.le_of_ble_eq_true rfl) rfl ?_
  have N19 := NewX.put (d := (true, .inr (13, [.ref b1, .ref b2, .ref b3, .ref b4, .null, .ref q, .null, .int (J 0), .int (J 0)]))) N18 ha
  have hDk := fun g z0 z1 z2 z3 => (hDk g z0 z1 z2 z3).fx (ExA.fx (ExA.put (c := (true, .inr (13, [.ref b1, .ref b2, .ref b3, .ref b4, .null, .ref q, .null, .int (J 0), .int (J 0)]))) ExA.rf) a18)
  have a19 : upA g18 a (true, .inr (13, [.ref b1, .ref b2, .ref b3, .ref b4, .null, .ref q, .null, .int (J 0), .int (J 0)])) a = some (true, .inr (13, [.ref b1, .ref b2, .ref b3, .ref b4, .null, .ref q, .null, .int (J 0), .int (J 0)])) := upA_same
  generalize upA g18 a (true, .inr (13, [.ref b1, .ref b2, .ref b3, .ref b4, .null, .ref q, .null, .int (J 0), .int (J 0)])) = g19 at N19 a19 hDk ⊢
  refine r_al0 dX9_init_87 ?_
  refine r_new dX9_init_88 n_X9_55 (by omega) (by first | omega | decide) (fun b5 hb5 => ?_)
  refine r_dup dX9_init_91 rfl ?_
  refine r_callIN (As := []) dX9_init_92 i_X9_57 (n_x8 κ _ upA_same) (by decide) rfl rfl (cat_le rfl) (by omega) (by first | omega | decide) (fun v g20 hq20 => ?_)
  obtain ⟨rfl, b20, b21, K20, e20⟩ := hq20
  obtain ⟨N20, a20⟩ := NewX.sub N19 a19 hb5 K20 e20
  rw [List.cons_append, List.cons_append, List.nil_append] at N20
  have hDk := fun g z0 z1 z2 z3 => (hDk g z0 z1 z2 z3).fx ((Ext.up hb5).fx.trans (K20.2.2.fx upA_same))
  refine r_putfield (fs' := [.ref b1, .ref b2, .ref b3, .ref b4, .ref b5, .ref q, .null, .int (J 0), .int (J 0)]) dX9_init_95 f_X9_58 p_X9_58 ff_13_4 a20 rfl (by first | rfl | decide) (Nat.le_of_ble_eq_true rfl) rfl ?_
  have N21 := NewX.put (d := (true, .inr (13, [.ref b1, .ref b2, .ref b3, .ref b4, .ref b5, .ref q, .null, .int (J 0), .int (J 0)]))) N20 ha
  have hDk := fun g z0 z1 z2 z3 => (hDk g z0 z1 z2 z3).fx (ExA.fx (ExA.put (c := (true, .inr (13, [.ref b1, .ref b2, .ref b3, .ref b4, .ref b5, .ref q, .null, .int (J 0), .int (J 0)]))) ExA.rf) a20)
  have a21 : upA g20 a (true, .inr (13, [.ref b1, .ref b2, .ref b3, .ref b4, .ref b5, .ref q, .null, .int (J 0), .int (J 0)])) a = some (true, .inr (13, [.ref b1, .ref b2, .ref b3, .ref b4, .ref b5, .ref q, .null, .int (J 0), .int (J 0)])) := upA_same
  generalize upA g20 a (true, .inr (13, [.ref b1, .ref b2, .ref b3, .ref b4, .ref b5, .ref q, .null, .int (J 0), .int (J 0)])) = g21 at N21 a21 hDk ⊢
  refine r_al0 dX9_init_98 ?_
  refine r_null dX9_init_99 ?_
  refine r_putfield (fs' := [.ref b1, .ref b2, .ref b3, .ref b4, .ref b5, .ref q, .null, .int (J 0), .int (J 0)]) dX9_init_100 f_X9_62 p_X9_62 (ff_13_6 _) a21 rfl (by first | rfl | decide) (Nat.le_of_ble_eq_true rfl) rfl ?_
  have N22 := NewX.put (d := (true, .inr (13, [.ref b1, .ref b2, .ref b3, .ref b4, .ref b5, .ref q, .null, .int (J 0), .int (J 0)]))) N21 ha
  have hDk := fun g z0 z1 z2 z3 => (hDk g z0 z1 z2 z3).fx (ExA.fx (ExA.put (c := (true, .inr (13, [.ref b1, .ref b2, .ref b3, .ref b4, .ref b5, .ref q, .null, .int (J 0), .int (J 0)]))) ExA.rf) a21)
  have a22 : upA g21 a (true, .inr (13, [.ref b1, .ref b2, .ref b3, .ref b4, .ref b5, .ref q, .null, .int (J 0), .int (J 0)])) a = some (true, .inr (13, [.ref b1, .ref b2, .ref b3, .ref b4, .ref b5, .ref q, .null, .int (J 0), .int (J 0)])) := upA_same
  generalize upA g21 a (true, .inr (13, [.ref b1, .ref b2, .ref b3, .ref b4, .ref b5, .ref q, .null, .int (J 0), .int (J 0)])) = g22 at N22 a22 hDk ⊢
  refine r_al0 dX9_init_103 ?_
  refine r_iconst dX9_init_104 ?_
  refine r_putfield (fs' := [.ref b1, .ref b2, .ref b3, .ref b4, .ref b5, .ref q, .null, .int (J (-1)), .int (J 0)]) dX9_init_105 f_X9_65 p_X9_65 (ff_13_7 _) a22 rfl (by first | rfl | decide) (Nat.le_of_ble_eq_true rfl) rfl ?_
  have N23 := NewX.put (d := (true, .inr (13, [.ref b1, .ref b2, .ref b3, .ref b4, .ref b5, .ref q, .null, .int (J (-1)), .int (J 0)]))) N22 ha
  have hDk := fun g z0 z1 z2 z3 => (hDk g z0 z1 z2 z3).fx (ExA.fx (ExA.put (c := (true, .inr (13, [.ref b1, .ref b2, .ref b3, .ref b4, .ref b5, .ref q, .null, .int (J (-1)), .int (J 0)]))) ExA.rf) a22)
  have a23 : upA g22 a (true, .inr (13, [.ref b1, .ref b2, .ref b3, .ref b4, .ref b5, .ref q, .null, .int (J (-1)), .int (J 0)])) a = some (true, .inr (13, [.ref b1, .ref b2, .ref b3, .ref b4, .ref b5, .ref q, .null, .int (J (-1)), .int (J 0)])) := upA_same
  generalize upA g22 a (true, .inr (13, [.ref b1, .ref b2, .ref b3, .ref b4, .ref b5, .ref q, .null, .int (J (-1)), .int (J 0)])) = g23 at N23 a23 hDk ⊢
  refine r_al0 dX9_init_108 ?_
  refine r_iconst dX9_init_109 ?_
  refine r_putfield (fs' := [.ref b1, .ref b2, .ref b3, .ref b4, .ref b5, .ref q, .null, .int (J (-1)), .int (J 0)]) dX9_init_110 f_X9_69 p_X9_69 (ff_13_8 _) a23 rfl (by first | rfl | decide) (Nat.le_of_ble_eq_true rfl) rfl ?_
  have N24 := NewX.put (d := (true, .inr (13, [.ref b1, .ref b2, .ref b3, .ref b4, .ref b5, .ref q, .null, .int (J (-1)), .int (J 0)]))) N23 ha
  have hDk := fun g z0 z1 z2 z3 => (hDk g z0 z1 z2 z3).fx (ExA.fx (ExA.put (c := (true, .inr (13, [.ref b1, .ref b2, .ref b3, .ref b4, .ref b5, .ref q, .null, .int (J (-1)), .int (J 0)]))) ExA.rf) a23)
  have a24 : upA g23 a (true, .inr (13, [.ref b1, .ref b2, .ref b3, .ref b4, .ref b5, .ref q, .null, .int (J (-1)), .int (J 0)])) a = some (true, .inr (13, [.ref b1, .ref b2, .ref b3, .ref b4, .ref b5, .ref q, .null, .int (J (-1)), .int (J 0)])) := upA_same
  generalize upA g23 a (true, .inr (13, [.ref b1, .ref b2, .ref b3, .ref b4, .ref b5, .ref q, .null, .int (J (-1)), .int (J 0)])) = g24 at N24 a24 hDk ⊢
  exact r_ret dX9_init_113 rfl ⟨rfl, b1, b2, b3, b4, b5, b6, b7, b8, b9, b10, b11, u0, u1, u2, u3, v0, v1, v2, v3, b20, b21, q, N24, a24, hDk⟩
