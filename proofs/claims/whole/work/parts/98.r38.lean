/-! ===== the model is made ===== -/
set_option maxRecDepth 100000 in
set_option maxHeartbeats 4000000 in
theorem n_x10 (κ : KP) (h : AH) {a : Nat} (ha : h a = some (true, .inr (14, [.null, .null, .null, .int (J 0), .null, .int (J 0), .int (J 0), .int (J 0), .int (J 0), .null, .null, .null, .null, .int (J 0), .int (J 0), .int (J 0), .null, .int (J 0), .int (J 0), .int (J 0), .int (J 0), .null, .int (J 0), .int (J 0), .null, .null, .int (J 0)]))) : MM κ mX10_init 1 12 2200 [.ref a] h (fun v h' => v = none ∧ ∃ m0 m1 m2 m4 m9 m10 m11 m12 m16 m21 m24 m25 : Nat, NewX a h h' [(m25, (true, .inl (.int, 12, iv (fun _ => 0)))), (m24, (true, .inl (.int, 3, iv (fun _ => 0)))), (m21, (true, .inl (.int, 312, iv (fun _ => 0)))), (m16, (true, .inl (.int, 50, iv (fun _ => 0)))), (m12, (true, .inl (.boolean, 8, iv (fun _ => 0)))), (m11, (true, .inl (.int, 8, iv (fun _ => 0)))), (m10, (true, .inl (.int, 6, iv (fun _ => 0)))), (m9, (true, .inl (.int, 6, iv (fun _ => 0)))), (m4, (true, .inl (.int, 1248, iv (fun _ => 0)))), (m2, (true, .inl (.int, 156, iv (fun _ => 0)))), (m1, (true, .inl (.int, 156, iv (fun _ => 0)))), (m0, (true, .inl (.int, 156, iv (fun _ => 0))))] ∧ h' a = some (true, .inr (14, [.ref m0, .ref m1, .ref m2, .int (J 0), .ref m4, .int (J 0), .int (J 0), .int (J 0), .int (J 0), .ref m9, .ref m10, .ref m11, .ref m12, .int (J 0), .int (J 0), .int (J 0), .ref m16, .int (J 0), .int (J 0), .int (J 0), .int (J (-1)), .ref m21, .int (J 0), .int (J 0), .ref m24, .ref m25, .int (J 0)]))) NoX := by
  refine mm_of (L := [some _]) (by decide +kernel) rfl rfl (Nat.le_of_ble_eq_true rfl) rfl ?_
  refine r_al0 dX10_init_0 ?_
  refine r_objInit dX10_init_1 o_X10_1 oI oC (by decide) (cat_le rfl) ?_
  refine r_al0 dX10_init_4 ?_
  refine r_sipush dX10_init_5 (by decide) ?_
  refine r_newa dX10_init_8 (by decide) ac_I (by decide) (by decide) (by decide) (by omega) (by first | omega | decide) (fun m0 hm0 => ?_)
  change WW κ _ _ _ _ _ _ _ _ _ (upA h m0 (true, .inl (.int, 156, iv (fun _ => 0))))
  have N1 := NewX.new (x := (true, .inl (.int, 156, iv (fun _ => 0)))) (NewX.rf (a := a) (h := h)) ha hm0
  have a1 := upo (c := (true, .inl (.int, 156, iv (fun _ => 0)))) hm0 ha
  generalize upA h m0 (true, .inl (.int, 156, iv (fun _ => 0))) = g1 at N1 a1 ⊢
  refine r_putfield (fs' := [.ref m0, .null, .null, .int (J 0), .null, .int (J 0), .int (J 0), .int (J 0), .int (J 0), .null, .null, .null, .null, .int (J 0), .int (J 0), .int (J 0), .null, .int (J 0), .int (J 0), .int (J 0), .int (J 0), .null, .int (J 0), .int (J 0), .null, .null, .int (J 0)]) dX10_init_10 f_X10_7 p_X10_7 ff_14_0 a1 rfl (by first | rfl | decide) (Nat.le_of_ble_eq_true rfl) rfl ?_
  have N2 := NewX.put (d := (true, .inr (14, [.ref m0, .null, .null, .int (J 0), .null, .int (J 0), .int (J 0), .int (J 0), .int (J 0), .null, .null, .null, .null, .int (J 0), .int (J 0), .int (J 0), .null, .int (J 0), .int (J 0), .int (J 0), .int (J 0), .null, .int (J 0), .int (J 0), .null, .null, .int (J 0)]))) N1 ha
  have a2 : upA g1 a (true, .inr (14, [.ref m0, .null, .null, .int (J 0), .null, .int (J 0), .int (J 0), .int (J 0), .int (J 0), .null, .null, .null, .null, .int (J 0), .int (J 0), .int (J 0), .null, .int (J 0), .int (J 0), .int (J 0), .int (J 0), .null, .int (J 0), .int (J 0), .null, .null, .int (J 0)])) a = some (true, .inr (14, [.ref m0, .null, .null, .int (J 0), .null, .int (J 0), .int (J 0), .int (J 0), .int (J 0), .null, .null, .null, .null, .int (J 0), .int (J 0), .int (J 0), .null, .int (J 0), .int (J 0), .int (J 0), .int (J 0), .null, .int (J 0), .int (J 0), .null, .null, .int (J 0)])) := upA_same
  generalize upA g1 a (true, .inr (14, [.ref m0, .null, .null, .int (J 0), .null, .int (J 0), .int (J 0), .int (J 0), .int (J 0), .null, .null, .null, .null, .int (J 0), .int (J 0), .int (J 0), .null, .int (J 0), .int (J 0), .int (J 0), .int (J 0), .null, .int (J 0), .int (J 0), .null, .null, .int (J 0)])) = g2 at N2 a2 ⊢
  refine r_al0 dX10_init_13 ?_
  refine r_sipush dX10_init_14 (by decide) ?_
  refine r_newa dX10_init_17 (by decide) ac_I (by decide) (by decide) (by decide) (by omega) (by first | omega | decide) (fun m1 hm1 => ?_)
  change WW κ _ _ _ _ _ _ _ _ _ (upA g2 m1 (true, .inl (.int, 156, iv (fun _ => 0))))
  have N3 := NewX.new (x := (true, .inl (.int, 156, iv (fun _ => 0)))) N2 a2 hm1
  have a3 := upo (c := (true, .inl (.int, 156, iv (fun _ => 0)))) hm1 a2
  generalize upA g2 m1 (true, .inl (.int, 156, iv (fun _ => 0))) = g3 at N3 a3 ⊢
  refine r_putfield (fs' := [.ref m0, .ref m1, .null, .int (J 0), .null, .int (J 0), .int (J 0), .int (J 0), .int (J 0), .null, .null, .null, .null, .int (J 0), .int (J 0), .int (J 0), .null, .int (J 0), .int (J 0), .int (J 0), .int (J 0), .null, .int (J 0), .int (J 0), .null, .null, .int (J 0)]) dX10_init_19 f_X10_13 p_X10_13 ff_14_1 a3 rfl (by first | rfl | decide) (Nat.le_of_ble_eq_true rfl) rfl ?_
  have N4 := NewX.put (d := (true, .inr (14, [.ref m0, .ref m1, .null, .int (J 0), .null, .int (J 0), .int (J 0), .int (J 0), .int (J 0), .null, .null, .null, .null, .int (J 0), .int (J 0), .int (J 0), .null, .int (J 0), .int (J 0), .int (J 0), .int (J 0), .null, .int (J 0), .int (J 0), .null, .null, .int (J 0)]))) N3 ha
  have a4 : upA g3 a (true, .inr (14, [.ref m0, .ref m1, .null, .int (J 0), .null, .int (J 0), .int (J 0), .int (J 0), .int (J 0), .null, .null, .null, .null, .int (J 0), .int (J 0), .int (J 0), .null, .int (J 0), .int (J 0), .int (J 0), .int (J 0), .null, .int (J 0), .int (J 0), .null, .null, .int (J 0)])) a = some (true, .inr (14, [.ref m0, .ref m1, .null, .int (J 0), .null, .int (J 0), .int (J 0), .int (J 0), .int (J 0), .null, .null, .null, .null, .int (J 0), .int (J 0), .int (J 0), .null, .int (J 0), .int (J 0), .int (J 0), .int (J 0), .null, .int (J 0), .int (J 0), .null, .null, .int (J 0)])) := upA_same
  generalize upA g3 a (true, .inr (14, [.ref m0, .ref m1, .null, .int (J 0), .null, .int (J 0), .int (J 0), .int (J 0), .int (J 0), .null, .null, .null, .null, .int (J 0), .int (J 0), .int (J 0), .null, .int (J 0), .int (J 0), .int (J 0), .int (J 0), .null, .int (J 0), .int (J 0), .null, .null, .int (J 0)])) = g4 at N4 a4 ⊢
  refine r_al0 dX10_init_22 ?_
  refine r_sipush dX10_init_23 (by decide) ?_
  refine r_newa dX10_init_26 (by decide) ac_I (by decide) (by decide) (by decide) (by omega) (by first | omega | decide) (fun m2 hm2 => ?_)
  change WW κ _ _ _ _ _ _ _ _ _ (upA g4 m2 (true, .inl (.int, 156, iv (fun _ => 0))))
  have N5 := NewX.new (x := (true, .inl (.int, 156, iv (fun _ => 0)))) N4 a4 hm2
  have a5 := upo (c := (true, .inl (.int, 156, iv (fun _ => 0)))) hm2 a4
  generalize upA g4 m2 (true, .inl (.int, 156, iv (fun _ => 0))) = g5 at N5 a5 ⊢
  refine r_putfield (fs' := [.ref m0, .ref m1, .ref m2, .int (J 0), .null, .int (J 0), .int (J 0), .int (J 0), .int (J 0), .null, .null, .null, .null, .int (J 0), .int (J 0), .int (J 0), .null, .int (J 0), .int (J 0), .int (J 0), .int (J 0), .null, .int (J 0), .int (J 0), .null, .null, .int (J 0)]) dX10_init_28 f_X10_16 p_X10_16 ff_14_2 a5 rfl (by first | rfl | decide) (Nat.le_of_ble_eq_true rfl) rfl ?_
  have N6 := NewX.put (d := (true, .inr (14, [.ref m0, .ref m1, .ref m2, .int (J 0), .null, .int (J 0), .int (J 0), .int (J 0), .int (J 0), .null, .null, .null, .null, .int (J 0), .int (J 0), .int (J 0), .null, .int (J 0), .int (J 0), .int (J 0), .int (J 0), .null, .int (J 0), .int (J 0), .null, .null, .int (J 0)]))) N5 ha
  have a6 : upA g5 a (true, .inr (14, [.ref m0, .ref m1, .ref m2, .int (J 0), .null, .int (J 0), .int (J 0), .int (J 0), .int (J 0), .null, .null, .null, .null, .int (J 0), .int (J 0), .int (J 0), .null, .int (J 0), .int (J 0), .int (J 0), .int (J 0), .null, .int (J 0), .int (J 0), .null, .null, .int (J 0)])) a = some (true, .inr (14, [.ref m0, .ref m1, .ref m2, .int (J 0), .null, .int (J 0), .int (J 0), .int (J 0), .int (J 0), .null, .null, .null, .null, .int (J 0), .int (J 0), .int (J 0), .null, .int (J 0), .int (J 0), .int (J 0), .int (J 0), .null, .int (J 0), .int (J 0), .null, .null, .int (J 0)])) := upA_same
  generalize upA g5 a (true, .inr (14, [.ref m0, .ref m1, .ref m2, .int (J 0), .null, .int (J 0), .int (J 0), .int (J 0), .int (J 0), .null, .null, .null, .null, .int (J 0), .int (J 0), .int (J 0), .null, .int (J 0), .int (J 0), .int (J 0), .int (J 0), .null, .int (J 0), .int (J 0), .null, .null, .int (J 0)])) = g6 at N6 a6 ⊢
  refine r_al0 dX10_init_31 ?_
  refine r_sipush dX10_init_32 (by decide) ?_
  refine r_newa dX10_init_35 (by decide) ac_I (by decide) (by decide) (by decide) (by omega) (by first | omega | decide) (fun m4 hm4 => ?_)
  change WW κ _ _ _ _ _ _ _ _ _ (upA g6 m4 (true, .inl (.int, 1248, iv (fun _ => 0))))
  have N7 := NewX.new (x := (true, .inl (.int, 1248, iv (fun _ => 0)))) N6 a6 hm4
  have a7 := upo (c := (true, .inl (.int, 1248, iv (fun _ => 0)))) hm4 a6
  generalize upA g6 m4 (true, .inl (.int, 1248, iv (fun _ => 0))) = g7 at N7 a7 ⊢
  refine r_putfield (fs' := [.ref m0, .ref m1, .ref m2, .int (J 0), .ref m4, .int (J 0), .int (J 0), .int (J 0), .int (J 0), .null, .null, .null, .null, .int (J 0), .int (J 0), .int (J 0), .null, .int (J 0), .int (J 0), .int (J 0), .int (J 0), .null, .int (J 0), .int (J 0), .null, .null, .int (J 0)]) dX10_init_37 f_X10_19 p_X10_19 ff_14_4 a7 rfl (by first | rfl | decide) (Nat.le_of_ble_eq_true rfl) rfl ?_
  have N8 := NewX.put (d := (true, .inr (14, [.ref m0, .ref m1, .ref m2, .int (J 0), .ref m4, .int (J 0), .int (J 0), .int (J 0), .int (J 0), .null, .null, .null, .null, .int (J 0), .int (J 0), .int (J 0), .null, .int (J 0), .int (J 0), .int (J 0), .int (J 0), .null, .int (J 0), .int (J 0), .null, .null, .int (J 0)]))) N7 ha
  have a8 : upA g7 a (true, .inr (14, [.ref m0, .ref m1, .ref m2, .int (J 0), .ref m4, .int (J 0), .int (J 0), .int (J 0), .int (J 0), .null, .null, .null, .null, .int (J 0), .int (J 0), .int (J 0), .null, .int (J 0), .int (J 0), .int (J 0), .int (J 0), .null, .int (J 0), .int (J 0), .null, .null, .int (J 0)])) a = some (true, .inr (14, [.ref m0, .ref m1, .ref m2, .int (J 0), .ref m4, .int (J 0), .int (J 0), .int (J 0), .int (J 0), .null, .null, .null, .null, .int (J 0), .int (J 0), .int (J 0), .null, .int (J 0), .int (J 0), .int (J 0), .int (J 0), .null, .int (J 0), .int (J 0), .null, .null, .int (J 0)])) := upA_same
  generalize upA g7 a (true, .inr (14, [.ref m0, .ref m1, .ref m2, .int (J 0), .ref m4, .int (J 0), .int (J 0), .int (J 0), .int (J 0), .null, .null, .null, .null, .int (J 0), .int (J 0), .int (J 0), .null, .int (J 0), .int (J 0), .int (J 0), .int (J 0), .null, .int (J 0), .int (J 0), .null, .null, .int (J 0)])) = g8 at N8 a8 ⊢
  refine r_al0 dX10_init_40 ?_
  refine r_bipush dX10_init_41 (by decide) ?_
  refine r_newa dX10_init_43 (by decide) ac_I (by decide) (by decide) (by decide) (by omega) (by first | omega | decide) (fun m9 hm9 => ?_)
  change WW κ _ _ _ _ _ _ _ _ _ (upA g8 m9 (true, .inl (.int, 6, iv (fun _ => 0))))
  have N9 := NewX.new (x := (true, .inl (.int, 6, iv (fun _ => 0)))) N8 a8 hm9
  have a9 := upo (c := (true, .inl (.int, 6, iv (fun _ => 0)))) hm9 a8
  generalize upA g8 m9 (true, .inl (.int, 6, iv (fun _ => 0))) = g9 at N9 a9 ⊢
  refine r_putfield (fs' := [.ref m0, .ref m1, .ref m2, .int (J 0), .ref m4, .int (J 0), .int (J 0), .int (J 0), .int (J 0), .ref m9, .null, .null, .null, .int (J 0), .int (J 0), .int (J 0), .null, .int (J 0), .int (J 0), .int (J 0), .int (J 0), .null, .int (J 0), .int (J 0), .null, .null, .int (J 0)]) dX10_init_45 f_X10_22 p_X10_22 ff_14_9 a9 rfl (by first | rfl | decide) (Nat.le_of_ble_eq_true rfl) rfl ?_
  have N10 := NewX.put (d := (true, .inr (14, [.ref m0, .ref m1, .ref m2, .int (J 0), .ref m4, .int (J 0), .int (J 0), .int (J 0), .int (J 0), .ref m9, .null, .null, .null, .int (J 0), .int (J 0), .int (J 0), .null, .int (J 0), .int (J 0), .int (J 0), .int (J 0), .null, .int (J 0), .int (J 0), .null, .null, .int (J 0)]))) N9 ha
  have a10 : upA g9 a (true, .inr (14, [.ref m0, .ref m1, .ref m2, .int (J 0), .ref m4, .int (J 0), .int (J 0), .int (J 0), .int (J 0), .ref m9, .null, .null, .null, .int (J 0), .int (J 0), .int (J 0), .null, .int (J 0), .int (J 0), .int (J 0), .int (J 0), .null, .int (J 0), .int (J 0), .null, .null, .int (J 0)])) a = some (true, .inr (14, [.ref m0, .ref m1, .ref m2, .int (J 0), .ref m4, .int (J 0), .int (J 0), .int (J 0), .int (J 0), .ref m9, .null, .null, .null, .int (J 0), .int (J 0), .int (J 0), .null, .int (J 0), .int (J 0), .int (J 0), .int (J 0), .null, .int (J 0), .int (J 0), .null, .null, .int (J 0)])) := upA_same
  generalize upA g9 a (true, .inr (14, [.ref m0, .ref m1, .ref m2, .int (J 0), .ref m4, .int (J 0), .int (J 0), .int (J 0), .int (J 0), .ref m9, .null, .null, .null, .int (J 0), .int (J 0), .int (J 0), .null, .int (J 0), .int (J 0), .int (J 0), .int (J 0), .null, .int (J 0), .int (J 0), .null, .null, .int (J 0)])) = g10 at N10 a10 ⊢
  refine r_al0 dX10_init_48 ?_
  refine r_bipush dX10_init_49 (by decide) ?_
  refine r_newa dX10_init_51 (by decide) ac_I (by decide) (by decide) (by decide) (by omega) (by first | omega | decide) (fun m10 hm10 => ?_)
  change WW κ _ _ _ _ _ _ _ _ _ (upA g10 m10 (true, .inl (.int, 6, iv (fun _ => 0))))
  have N11 := NewX.new (x := (true, .inl (.int, 6, iv (fun _ => 0)))) N10 a10 hm10
  have a11 := upo (c := (true, .inl (.int, 6, iv (fun _ => 0)))) hm10 a10
  generalize upA g10 m10 (true, .inl (.int, 6, iv (fun _ => 0))) = g11 at N11 a11 ⊢
  refine r_putfield (fs' := [.ref m0, .ref m1, .ref m2, .int (J 0), .ref m4, .int (J 0), .int (J 0), .int (J 0), .int (J 0), .ref m9, .ref m10, .null, .null, .int (J 0), .int (J 0), .int (J 0), .null, .int (J 0), .int (J 0), .int (J 0), .int (J 0), .null, .int (J 0), .int (J 0), .null, .null, .int (J 0)]) dX10_init_53 f_X10_25 p_X10_25 ff_14_10 a11 rfl (by first | rfl | decide) (Nat.le_of_ble_eq_true rfl) rfl ?_
  have N12 := NewX.put (d := (true, .inr (14, [.ref m0, .ref m1, .ref m2, .int (J 0), .ref m4, .int (J 0), .int (J 0), .int (J 0), .int (J 0), .ref m9, .ref m10, .null, .null, .int (J 0), .int (J 0), .int (J 0), .null, .int (J 0), .int (J 0), .int (J 0), .int (J 0), .null, .int (J 0), .int (J 0), .null, .null, .int (J 0)]))) N11 ha
  have a12 : upA g11 a (true, .inr (14, [.ref m0, .ref m1, .ref m2, .int (J 0), .ref m4, .int (J 0), .int (J 0), .int (J 0), .int (J 0), .ref m9, .ref m10, .null, .null, .int (J 0), .int (J 0), .int (J 0), .null, .int (J 0), .int (J 0), .int (J 0), .int (J 0), .null, .int (J 0), .int (J 0), .null, .null, .int (J 0)])) a = some (true, .inr (14, [.ref m0, .ref m1, .ref m2, .int (J 0), .ref m4, .int (J 0), .int (J 0), .int (J 0), .int (J 0), .ref m9, .ref m10, .null, .null, .int (J 0), .int (J 0), .int (J 0), .null, .int (J 0), .int (J 0), .int (J 0), .int (J 0), .null, .int (J 0), .int (J 0), .null, .null, .int (J 0)])) := upA_same
  generalize upA g11 a (true, .inr (14, [.ref m0, .ref m1, .ref m2, .int (J 0), .ref m4, .int (J 0), .int (J 0), .int (J 0), .int (J 0), .ref m9, .ref m10, .null, .null, .int (J 0), .int (J 0), .int (J 0), .null, .int (J 0), .int (J 0), .int (J 0), .int (J 0), .null, .int (J 0), .int (J 0), .null, .null, .int (J 0)])) = g12 at N12 a12 ⊢
  refine r_al0 dX10_init_56 ?_
  refine r_bipush dX10_init_57 (by decide) ?_
  refine r_newa dX10_init_59 (by decide) ac_I (by decide) (by decide) (by decide) (by omega) (by first | omega | decide) (fun m11 hm11 => ?_)
  change WW κ _ _ _ _ _ _ _ _ _ (upA g12 m11 (true, .inl (.int, 8, iv (fun _ => 0))))
  have N13 := NewX.new (x := (true, .inl (.int, 8, iv (fun _ => 0)))) N12 a12 hm11
  have a13 := upo (c := (true, .inl (.int, 8, iv (fun _ => 0)))) hm11 a12
  generalize upA g12 m11 (true, .inl (.int, 8, iv (fun _ => 0))) = g13 at N13 a13 ⊢
  refine r_putfield (fs' := [.ref m0, .ref m1, .ref m2, .int (J 0), .ref m4, .int (J 0), .int (J 0), .int (J 0), .int (J 0), .ref m9, .ref m10, .ref m11, .null, .int (J 0), .int (J 0), .int (J 0), .null, .int (J 0), .int (J 0), .int (J 0), .int (J 0), .null, .int (J 0), .int (J 0), .null, .null, .int (J 0)]) dX10_init_61 f_X10_28 p_X10_28 ff_14_11 a13 rfl (by first | rfl | decide) (Nat.le_of_ble_eq_true rfl) rfl ?_
  have N14 := NewX.put (d := (true, .inr (14, [.ref m0, .ref m1, .ref m2, .int (J 0), .ref m4, .int (J 0), .int (J 0), .int (J 0), .int (J 0), .ref m9, .ref m10, .ref m11, .null, .int (J 0), .int (J 0), .int (J 0), .null, .int (J 0), .int (J 0), .int (J 0), .int (J 0), .null, .int (J 0), .int (J 0), .null, .null, .int (J 0)]))) N13 ha
  have a14 : upA g13 a (true, .inr (14, [.ref m0, .ref m1, .ref m2, .int (J 0), .ref m4, .int (J 0), .int (J 0), .int (J 0), .int (J 0), .ref m9, .ref m10, .ref m11, .null, .int (J 0), .int (J 0), .int (J 0), .null, .int (J 0), .int (J 0), .int (J 0), .int (J 0), .null, .int (J 0), .int (J 0), .null, .null, .int (J 0)])) a = some (true, .inr (14, [.ref m0, .ref m1, .ref m2, .int (J 0), .ref m4, .int (J 0), .int (J 0), .int (J 0), .int (J 0), .ref m9, .ref m10, .ref m11, .null, .int (J 0), .int (J 0), .int (J 0), .null, .int (J 0), .int (J 0), .int (J 0), .int (J 0), .null, .int (J 0), .int (J 0), .null, .null, .int (J 0)])) := upA_same
  generalize upA g13 a (true, .inr (14, [.ref m0, .ref m1, .ref m2, .int (J 0), .ref m4, .int (J 0), .int (J 0), .int (J 0), .int (J 0), .ref m9, .ref m10, .ref m11, .null, .int (J 0), .int (J 0), .int (J 0), .null, .int (J 0), .int (J 0), .int (J 0), .int (J 0), .null, .int (J 0), .int (J 0), .null, .null, .int (J 0)])) = g14 at N14 a14 ⊢
  refine r_al0 dX10_init_64 ?_
  refine r_bipush dX10_init_65 (by decide) ?_
  refine r_newa dX10_init_67 (by decide) ac_Z (by decide) (by decide) (by decide) (by omega) (by first | omega | decide) (fun m12 hm12 => ?_)
  change WW κ _ _ _ _ _ _ _ _ _ (upA g14 m12 (true, .inl (.boolean, 8, iv (fun _ => 0))))
  have N15 := NewX.new (x := (true, .inl (.boolean, 8, iv (fun _ => 0)))) N14 a14 hm12
  have a15 := upo (c := (true, .inl (.boolean, 8, iv (fun _ => 0)))) hm12 a14
  generalize upA g14 m12 (true, .inl (.boolean, 8, iv (fun _ => 0))) = g15 at N15 a15 ⊢
  refine r_putfield (fs' := [.ref m0, .ref m1, .ref m2, .int (J 0), .ref m4, .int (J 0), .int (J 0), .int (J 0), .int (J 0), .ref m9, .ref m10, .ref m11, .ref m12, .int (J 0), .int (J 0), .int (J 0), .null, .int (J 0), .int (J 0), .int (J 0), .int (J 0), .null, .int (J 0), .int (J 0), .null, .null, .int (J 0)]) dX10_init_69 f_X10_31 p_X10_31 ff_14_12 a15 rfl (by first | rfl | decide) (Nat.le_of_ble_eq_true rfl) rfl ?_
  have N16 := NewX.put (d := (true, .inr (14, [.ref m0, .ref m1, .ref m2, .int (J 0), .ref m4, .int (J 0), .int (J 0), .int (J 0), .int (J 0), .ref m9, .ref m10, .ref m11, .ref m12, .int (J 0), .int (J 0), .int (J 0), .null, .int (J 0), .int (J 0), .int (J 0), .int (J 0), .null, .int (J 0), .int (J 0), .null, .null, .int (J 0)]))) N15 ha
  have a16 : upA g15 a (true, .inr (14, [.ref m0, .ref m1, .ref m2, .int (J 0), .ref m4, .int (J 0), .int (J 0), .int (J 0), .int (J 0), .ref m9, .ref m10, .ref m11, .ref m12, .int (J 0), .int (J 0), .int (J 0), .null, .int (J 0), .int (J 0), .int (J 0), .int (J 0), .null, .int (J 0), .int (J 0), .null, .null, .int (J 0)])) a = some (true, .inr (14, [.ref m0, .ref m1, .ref m2, .int (J 0), .ref m4, .int (J 0), .int (J 0), .int (J 0), .int (J 0), .ref m9, .ref m10, .ref m11, .ref m12, .int (J 0), .int (J 0), .int (J 0), .null, .int (J 0), .int (J 0), .int (J 0), .int (J 0), .null, .int (J 0), .int (J 0), .null, .null, .int (J 0)])) := upA_same
  generalize upA g15 a (true, .inr (14, [.ref m0, .ref m1, .ref m2, .int (J 0), .ref m4, .int (J 0), .int (J 0), .int (J 0), .int (J 0), .ref m9, .ref m10, .ref m11, .ref m12, .int (J 0), .int (J 0), .int (J 0), .null, .int (J 0), .int (J 0), .int (J 0), .int (J 0), .null, .int (J 0), .int (J 0), .null, .null, .int (J 0)])) = g16 at N16 a16 ⊢
  refine r_al0 dX10_init_72 ?_
  refine r_bipush dX10_init_73 (by decide) ?_
  refine r_newa dX10_init_75 (by decide) ac_I (by decide) (by decide) (by decide) (by omega) (by first | omega | decide) (fun m16 hm16 => ?_)
  change WW κ _ _ _ _ _ _ _ _ _ (upA g16 m16 (true, .inl (.int, 50, iv (fun _ => 0))))
  have N17 := NewX.new (x := (true, .inl (.int, 50, iv (fun _ => 0)))) N16 a16 hm16
  have a17 := upo (c := (true, .inl (.int, 50, iv (fun _ => 0)))) hm16 a16
  generalize upA g16 m16 (true, .inl (.int, 50, iv (fun _ => 0))) = g17 at N17 a17 ⊢
  refine r_putfield (fs' := [.ref m0, .ref m1, .ref m2, .int (J 0), .ref m4, .int (J 0), .int (J 0), .int (J 0), .int (J 0), .ref m9, .ref m10, .ref m11, .ref m12, .int (J 0), .int (J 0), .int (J 0), .ref m16, .int (J 0), .int (J 0), .int (J 0), .int (J 0), .null, .int (J 0), .int (J 0), .null, .null, .int (J 0)]) dX10_init_77 f_X10_35 p_X10_35 ff_14_16 a17 rfl (by first | rfl | decide) (Nat.le_of_ble_eq_true rfl) rfl ?_
  have N18 := NewX.put (d := (true, .inr (14, [.ref m0, .ref m1, .ref m2, .int (J 0), .ref m4, .int (J 0), .int (J 0), .int (J 0), .int (J 0), .ref m9, .ref m10, .ref m11, .ref m12, .int (J 0), .int (J 0), .int (J 0), .ref m16, .int (J 0), .int (J 0), .int (J 0), .int (J 0), .null, .int (J 0), .int (J 0), .null, .null, .int (J 0)]))) N17 ha
  have a18 : upA g17 a (true, .inr (14, [.ref m0, .ref m1, .ref m2, .int (J 0), .ref m4, .int (J 0), .int (J 0), .int (J 0), .int (J 0), .ref m9, .ref m10, .ref m11, .ref m12, .int (J 0), .int (J 0), .int (J 0), .ref m16, .int (J 0), .int (J 0), .int (J 0), .int (J 0), .null, .int (J 0), .int (J 0), .null, .null, .int (J 0)])) a = some (true, .inr (14, [.ref m0, .ref m1, .ref m2, .int (J 0), .ref m4, .int (J 0), .int (J 0), .int (J 0), .int (J 0), .ref m9, .ref m10, .ref m11, .ref m12, .int (J 0), .int (J 0), .int (J 0), .ref m16, .int (J 0), .int (J 0), .int (J 0), .int (J 0), .null, .int (J 0), .int (J 0), .null, .null, .int (J 0)])) := upA_same
  generalize upA g17 a (true, .inr (14, [.ref m0, .ref m1, .ref m2, .int (J 0), .ref m4, .int (J 0), .int (J 0), .int (J 0), .int (J 0), .ref m9, .ref m10, .ref m11, .ref m12, .int (J 0), .int (J 0), .int (J 0), .ref m16, .int (J 0), .int (J 0), .int (J 0), .int (J 0), .null, .int (J 0), .int (J 0), .null, .null, .int (J 0)])) = g18 at N18 a18 ⊢
  refine r_al0 dX10_init_80 ?_
  refine r_iconst dX10_init_81 ?_
  refine r_putfield (fs' := [.ref m0, .ref m1, .ref m2, .int (J 0), .ref m4, .int (J 0), .int (J 0), .int (J 0), .int (J 0), .ref m9, .ref m10, .ref m11, .ref m12, .int (J 0), .int (J 0), .int (J 0), .ref m16, .int (J 0), .int (J 0), .int (J 0), .int (J (-1)), .null, .int (J 0), .int (J 0), .null, .null, .int (J 0)]) dX10_init_82 f_X10_38 p_X10_38 (ff_14_20 _) a18 rfl (by first | rfl | decide) (Nat.le_of_ble_eq_true rfl) rfl ?_
  have N19 := NewX.put (d := (true, .inr (14, [.ref m0, .ref m1, .ref m2, .int (J 0), .ref m4, .int (J 0), .int (J 0), .int (J 0), .int (J 0), .ref m9, .ref m10, .ref m11, .ref m12, .int (J 0), .int (J 0), .int (J 0), .ref m16, .int (J 0), .int (J 0), .int (J 0), .int (J (-1)), .null, .int (J 0), .int (J 0), .null, .null, .int (J 0)]))) N18 ha
  have a19 : upA g18 a (true, .inr (14, [.ref m0, .ref m1, .ref m2, .int (J 0), .ref m4, .int (J 0), .int (J 0), .int (J 0), .int (J 0), .ref m9, .ref m10, .ref m11, .ref m12, .int (J 0), .int (J 0), .int (J 0), .ref m16, .int (J 0), .int (J 0), .int (J 0), .int (J (-1)), .null, .int (J 0), .int (J 0), .null, .null, .int (J 0)])) a = some (true, .inr (14, [.ref m0, .ref m1, .ref m2, .int (J 0), .ref m4, .int (J 0), .int (J 0), .int (J 0), .int (J 0), .ref m9, .ref m10, .ref m11, .ref m12, .int (J 0), .int (J 0), .int (J 0), .ref m16, .int (J 0), .int (J 0), .int (J 0), .int (J (-1)), .null, .int (J 0), .int (J 0), .null, .null, .int (J 0)])) := upA_same
  generalize upA g18 a (true, .inr (14, [.ref m0, .ref m1, .ref m2, .int (J 0), .ref m4, .int (J 0), .int (J 0), .int (J 0), .int (J 0), .ref m9, .ref m10, .ref m11, .ref m12, .int (J 0), .int (J 0), .int (J 0), .ref m16, .int (J 0), .int (J 0), .int (J 0), .int (J (-1)), .null, .int (J 0), .int (J 0), .null, .null, .int (J 0)])) = g19 at N19 a19 ⊢
  refine r_al0 dX10_init_85 ?_
  refine r_sipush dX10_init_86 (by decide) ?_
  refine r_newa dX10_init_89 (by decide) ac_I (by decide) (by decide) (by decide) (by omega) (by first | omega | decide) (fun m21 hm21 => ?_)
  change WW κ _ _ _ _ _ _ _ _ _ (upA g19 m21 (true, .inl (.int, 312, iv (fun _ => 0))))
  have N20 := NewX.new (x := (true, .inl (.int, 312, iv (fun _ => 0)))) N19 a19 hm21
  have a20 := upo (c := (true, .inl (.int, 312, iv (fun _ => 0)))) hm21 a19
  generalize upA g19 m21 (true, .inl (.int, 312, iv (fun _ => 0))) = g20 at N20 a20 ⊢
  refine r_putfield (fs' := [.ref m0, .ref m1, .ref m2, .int (J 0), .ref m4, .int (J 0), .int (J 0), .int (J 0), .int (J 0), .ref m9, .ref m10, .ref m11, .ref m12, .int (J 0), .int (J 0), .int (J 0), .ref m16, .int (J 0), .int (J 0), .int (J 0), .int (J (-1)), .ref m21, .int (J 0), .int (J 0), .null, .null, .int (J 0)]) dX10_init_91 f_X10_42 p_X10_42 ff_14_21 a20 rfl (by first | rfl | decide) (Nat.le_of_ble_eq_true rfl) rfl ?_
  have N21 := NewX.put (d := (true, .inr (14, [.ref m0, .ref m1, .ref m2, .int (J 0), .ref m4, .int (J 0), .int (J 0), .int (J 0), .int (J 0), .ref m9, .ref m10, .ref m11, .ref m12, .int (J 0), .int (J 0), .int (J 0), .ref m16, .int (J 0), .int (J 0), .int (J 0), .int (J (-1)), .ref m21, .int (J 0), .int (J 0), .null, .null, .int (J 0)]))) N20 ha
  have a21 : upA g20 a (true, .inr (14, [.ref m0, .ref m1, .ref m2, .int (J 0), .ref m4, .int (J 0), .int (J 0), .int (J 0), .int (J 0), .ref m9, .ref m10, .ref m11, .ref m12, .int (J 0), .int (J 0), .int (J 0), .ref m16, .int (J 0), .int (J 0), .int (J 0), .int (J (-1)), .ref m21, .int (J 0), .int (J 0), .null, .null, .int (J 0)])) a = some (true, .inr (14, [.ref m0, .ref m1, .ref m2, .int (J 0), .ref m4, .int (J 0), .int (J 0), .int (J 0), .int (J 0), .ref m9, .ref m10, .ref m11, .ref m12, .int (J 0), .int (J 0), .int (J 0), .ref m16, .int (J 0), .int (J 0), .int (J 0), .int (J (-1)), .ref m21, .int (J 0), .int (J 0), .null, .null, .int (J 0)])) := upA_same
  generalize upA g20 a (true, .inr (14, [.ref m0, .ref m1, .ref m2, .int (J 0), .ref m4, .int (J 0), .int (J 0), .int (J 0), .int (J 0), .ref m9, .ref m10, .ref m11, .ref m12, .int (J 0), .int (J 0), .int (J 0), .ref m16, .int (J 0), .int (J 0), .int (J 0), .int (J (-1)), .ref m21, .int (J 0), .int (J 0), .null, .null, .int (J 0)])) = g21 at N21 a21 ⊢
  refine r_al0 dX10_init_94 ?_
  refine r_iconst dX10_init_95 ?_
  refine r_newa dX10_init_96 (by decide) ac_I (by decide) (by decide) (by decide) (by omega) (by first | omega | decide) (fun m24 hm24 => ?_)
  change WW κ _ _ _ _ _ _ _ _ _ (upA g21 m24 (true, .inl (.int, 3, iv (fun _ => 0))))
  have N22 := NewX.new (x := (true, .inl (.int, 3, iv (fun _ => 0)))) N21 a21 hm24
  have a22 := upo (c := (true, .inl (.int, 3, iv (fun _ => 0)))) hm24 a21
  generalize upA g21 m24 (true, .inl (.int, 3, iv (fun _ => 0))) = g22 at N22 a22 ⊢
  refine r_putfield (fs' := [.ref m0, .ref m1, .ref m2, .int (J 0), .ref m4, .int (J 0), .int (J 0), .int (J 0), .int (J 0), .ref m9, .ref m10, .ref m11, .ref m12, .int (J 0), .int (J 0), .int (J 0), .ref m16, .int (J 0), .int (J 0), .int (J 0), .int (J (-1)), .ref m21, .int (J 0), .int (J 0), .ref m24, .null, .int (J 0)]) dX10_init_98 f_X10_45 p_X10_45 ff_14_24 a22 rfl (by first | rfl | decide) (Nat.le_of_ble_eq_true rfl) rfl ?_
  have N23 := NewX.put (d := (true, .inr (14, [.ref m0, .ref m1, .ref m2, .int (J 0), .ref m4, .int (J 0), .int (J 0), .int (J 0), .int (J 0), .ref m9, .ref m10, .ref m11, .ref m12, .int (J 0), .int (J 0), .int (J 0), .ref m16, .int (J 0), .int (J 0), .int (J 0), .int (J (-1)), .ref m21, .int (J 0), .int (J 0), .ref m24, .null, .int (J 0)]))) N22 ha
  have a23 : upA g22 a (true, .inr (14, [.ref m0, .ref m1, .ref m2, .int (J 0), .ref m4, .int (J 0), .int (J 0), .int (J 0), .int (J 0), .ref m9, .ref m10, .ref m11, .ref m12, .int (J 0), .int (J 0), .int (J 0), .ref m16, .int (J 0), .int (J 0), .int (J 0), .int (J (-1)), .ref m21, .int (J 0), .int (J 0), .ref m24, .null, .int (J 0)])) a = some (true, .inr (14, [.ref m0, .ref m1, .ref m2, .int (J 0), .ref m4, .int (J 0), .int (J 0), .int (J 0), .int (J 0), .ref m9, .ref m10, .ref m11, .ref m12, .int (J 0), .int (J 0), .int (J 0), .ref m16, .int (J 0), .int (J 0), .int (J 0), .int (J (-1)), .ref m21, .int (J 0), .int (J 0), .ref m24, .null, .int (J 0)])) := upA_same
  generalize upA g22 a (true, .inr (14, [.ref m0, .ref m1, .ref m2, .int (J 0), .ref m4, .int (J 0), .int (J 0), .int (J 0), .int (J 0), .ref m9, .ref m10, .ref m11, .ref m12, .int (J 0), .int (J 0), .int (J 0), .ref m16, .int (J 0), .int (J 0), .int (J 0), .int (J (-1)), .ref m21, .int (J 0), .int (J 0), .ref m24, .null, .int (J 0)])) = g23 at N23 a23 ⊢
  refine r_al0 dX10_init_101 ?_
  refine r_bipush dX10_init_102 (by decide) ?_
  refine r_newa dX10_init_104 (by decide) ac_I (by decide) (by decide) (by decide) (by omega) (by first | omega | decide) (fun m25 hm25 => ?_)
  change WW κ _ _ _ _ _ _ _ _ _ (upA g23 m25 (true, .inl (.int, 12, iv (fun _ => 0))))
  have N24 := NewX.new (x := (true, .inl (.int, 12, iv (fun _ => 0)))) N23 a23 hm25
  have a24 := upo (c := (true, .inl (.int, 12, iv (fun _ => 0)))) hm25 a23
  generalize upA g23 m25 (true, .inl (.int, 12, iv (fun _ => 0))) = g24 at N24 a24 ⊢
  refine r_putfield (fs' := [.ref m0, .ref m1, .ref m2, .int (J 0), .ref m4, .int (J 0), .int (J 0), .int (J 0), .int (J 0), .ref m9, .ref m10, .ref m11, .ref m12, .int (J 0), .int (J 0), .int (J 0), .ref m16, .int (J 0), .int (J 0), .int (J 0), .int (J (-1)), .ref m21, .int (J 0), .int (J 0), .ref m24, .ref m25, .int (J 0)]) dX10_init_106 f_X10_48 p_X10_48 ff_14_25 a24 rfl (by first | rfl | decide) (Nat.le_of_ble_eq_true rfl) rfl ?_
  have N25 := NewX.put (d := (true, .inr (14, [.ref m0, .ref m1, .ref m2, .int (J 0), .ref m4, .int (J 0), .int (J 0), .int (J 0), .int (J 0), .ref m9, .ref m10, .ref m11, .ref m12, .int (J 0), .int (J 0), .int (J 0), .ref m16, .int (J 0), .int (J 0), .int (J 0), .int (J (-1)), .ref m21, .int (J 0), .int (J 0), .ref m24, .ref m25, .int (J 0)]))) N24 ha
  have a25 : upA g24 a (true, .inr (14, [.ref m0, .ref m1, .ref m2, .int (J 0), .ref m4, .int (J 0), .int (J 0), .int (J 0), .int (J 0), .ref m9, .ref m10, .ref m11, .ref m12, .int (J 0), .int (J 0), .int (J 0), .ref m16, .int (J 0), .int (J 0), .int (J 0), .int (J (-1)), .ref m21, .int (J 0), .int (J 0), .ref m24, .ref m25, .int (J 0)])) a = some (true, .inr (14, [.ref m0, .ref m1, .ref m2, .int (J 0), .ref m4, .int (J 0), .int (J 0), .int (J 0), .int (J 0), .ref m9, .ref m10, .ref m11, .ref m12, .int (J 0), .int (J 0), .int (J 0), .ref m16, .int (J 0), .int (J 0), .int (J 0), .int (J (-1)), .ref m21, .int (J 0), .int (J 0), .ref m24, .ref m25, .int (J 0)])) := upA_same
  generalize upA g24 a (true, .inr (14, [.ref m0, .ref m1, .ref m2, .int (J 0), .ref m4, .int (J 0), .int (J 0), .int (J 0), .int (J 0), .ref m9, .ref m10, .ref m11, .ref m12, .int (J 0), .int (J 0), .int (J 0), .ref m16, .int (J 0), .int (J 0), .int (J 0), .int (J (-1)), .ref m21, .int (J 0), .int (J 0), .ref m24, .ref m25, .int (J 0)])) = g25 at N25 a25 ⊢
  exact r_ret dX10_init_109 rfl ⟨rfl, m0, m1, m2, m4, m9, m10, m11, m12, m16, m21, m24, m25, N25, a25⟩
/-! ===== the state at the loop's start ===== -/
def nth : List Nat → Nat → Nat
  | [], _ => 0
  | x :: _, 0 => x
  | _ :: r, i + 1 => nth r i
theorem nth_mem : ∀ {l : List Nat} {i : Nat}, i < l.length → nth l i ∈ l
  | [], _, h => absurd h (Nat.not_lt_zero _)
  | x :: r, 0, _ => List.mem_cons_self
  | x :: r, i + 1, h => List.mem_cons_of_mem _ (nth_mem (Nat.lt_of_succ_lt_succ h))
theorem nth_inj : ∀ {l : List Nat}, l.Nodup → ∀ {i j : Nat}, i < l.length → j < l.length → nth l i = nth l j → i = j
  | [], _, _, _, h, _, _ => absurd h (Nat.not_lt_zero _)
  | x :: r, _, 0, 0, _, _, _ => rfl
  | x :: r, hn, 0, j + 1, _, hj, e => absurd (by rw [show x = nth r j from e]; exact nth_mem (Nat.lt_of_succ_lt_succ hj)) (List.nodup_cons.mp hn).1
  | x :: r, hn, i + 1, 0, hi, _, e => absurd (by rw [show x = nth r i from e.symm]; exact nth_mem (Nat.lt_of_succ_lt_succ hi)) (List.nodup_cons.mp hn).1
  | x :: r, hn, i + 1, j + 1, hi, hj, e => congrArg (· + 1) (nth_inj (List.nodup_cons.mp hn).2 (Nat.lt_of_succ_lt_succ hi) (Nat.lt_of_succ_lt_succ hj) e)
def iB0 : List Nat := [0, 36, 30, 28, 23, 18, 35, 34, 33, 32, 31, 29, 27, 26, 25, 24, 22, 21, 20, 19, 17, 16]
def iA0 (k : Nat) : Nat := match k with
  | 0 => 14
  | 1 => 13
  | 2 => 12
  | 4 => 11
  | 9 => 10
  | 10 => 9
  | 11 => 8
  | 12 => 7
  | 16 => 6
  | 21 => 5
  | 24 => 4
  | 25 => 3
  | 30 => 15
  | _ => 0
def S00 (q : Nat) : CST := fun k => match k with
  | 0 => fun i => if i = 5 then (q : Int) else if i = 6 then -1 else if i = 7 then -1 else 0
  | 3 => fun i => if i = 0 then (q : Int) else 0
  | 4 => fun i => if i = 0 then (q : Int) else 0
  | 9 => fun _ => -1
  | 11 => fun _ => -1
  | _ => fun _ => 0
def M00 : MEM := fun k => match k with
  | 30 => fun i => if i = 20 then -1 else 0
  | _ => fun _ => 0
theorem bz_0 {B : Nat → Nat} {q : Nat} : bcell B (S00 q) 0 = (true, .inr (13, [.ref (B 1), .ref (B 2), .ref (B 3), .ref (B 4), .ref (B 5), .ref q, .null, .int (J (-1)), .int (J 0)])) := by
  show ((true, .inr (13, [.ref (B 1), .ref (B 2), .ref (B 3), .ref (B 4), .ref (B 5), va_rf (rz (q : Int)), va_rf (rz (-1)), .int (J (-1)), .int (J 0)])) : HC) = _
  rw [rz_c]
  rfl
theorem bz_3 {B : Nat → Nat} {q : Nat} : bcell B (S00 q) 3 = (true, .inr (4, [.ref q, .int (J 0), .int (J 0), .ref (B 12), .ref (B 13), .ref (B 14), .ref (B 15), .int (J 0), .int (J 0), .int (J 0)])) := by
  show ((true, .inr (4, [va_rf (rz (q : Int)), .int (J 0), .int (J 0), .ref (B 12), .ref (B 13), .ref (B 14), .ref (B 15), .int (J 0), .int (J 0), .int (J 0)])) : HC) = _
  rw [rz_c]
  rfl
theorem bz_4 {B : Nat → Nat} {q : Nat} : bcell B (S00 q) 4 = (true, .inr (4, [.ref q, .int (J 0), .int (J 0), .ref (B 16), .ref (B 17), .ref (B 18), .ref (B 19), .int (J 0), .int (J 0), .int (J 0)])) := by
  show ((true, .inr (4, [va_rf (rz (q : Int)), .int (J 0), .int (J 0), .ref (B 16), .ref (B 17), .ref (B 18), .ref (B 19), .int (J 0), .int (J 0), .int (J 0)])) : HC) = _
  rw [rz_c]
  rfl
theorem rz_m1 : (fun _ : Int => rz (-1)) = fun _ => none := funext fun _ => rz_n (by decide)
theorem bz_9 {B : Nat → Nat} {q : Nat} : bcell B (S00 q) 9 = (true, .inl (.object RX1, 50, rv (fun _ => none))) := by
  show ((true, .inl (.object RX1, 50, rv (fun _ => rz (-1)))) : HC) = _
  rw [rz_m1]
theorem bz_11 {B : Nat → Nat} {q : Nat} : bcell B (S00 q) 11 = (true, .inl (.object RX3, 8, rv (fun _ => none))) := by
  show ((true, .inl (.object RX3, 8, rv (fun _ => rz (-1)))) : HC) = _
  rw [rz_m1]
/-- the empty desk -/
theorem qk_0 {u : Int → Int} : qkey (fun _ => 0) u = 0 := rfl
theorem lt_00 {c : Int} (c0 : 0 ≤ c) (c1 : c < 0) : False := by omega
theorem cw_0 : CW (fun _ => 0) := ⟨⟨by decide, by decide, by decide, by decide, (show (0 : Int) ≤ 4 by decide), fun c c0 c1 => (lt_00 c0 c1).elim, fun c c0 c1 => (lt_00 c0 c1).elim, fun c c0 c1 => (lt_00 c0 c1).elim⟩, fun c c0 c1 => (lt_00 c0 c1).elim⟩
theorem best_0 {u : Int → Int} : QBest (fun _ => 0) u := ⟨trivial, fun c c0 c1 => (lt_00 c0 c1).elim, fun v _ _ => ⟨by rw [qk_0, qk_0]; decide, fun ⟨c, c0, c1, _⟩ => (lt_00 c0 c1).elim⟩⟩
theorem rg_00 : RG M00 := fun k i => by
  unfold M00
  split
  · dsimp only
    split <;> decide
  · show rng 0
    decide
theorem bs_00 {P : Int → Prop} : bs (bk P ((0 : Nat) : Int)) = 0 := by
  have h : ∀ i, bk P ((0 : Nat) : Int) i = false := fun i => tb_f.mpr fun z => by have := z.1; have := z.2.1; omega
  unfold bs
  simp only [h]
  rfl
theorem uk_0 {κ : KP} {H : AH} {q : Nat} (hD : DeskAt κ H q (fun _ => 0)) {u : Nat} (hu : u = 3 ∨ u = 4) : UK κ H (fun _ => 0) (S00 q) u q := by
  obtain ⟨cr, eq, p, nc, ne, nb, hK⟩ := hD
  have hK0 := hK
  obtain ⟨h1, h2, h3, ⟨bl, lv, ms, mr, N, lf, fm, fr, hP⟩, n1, n2, n3⟩ := hK
  have hb : nb = 0 := by
    have : (nb : Int) = 0 := n3
    omega
  subst hb
  have hN : N = 0 := by
    have e := hP.2.2.2.1.2.2.2
    have : (N : Int) = 0 := e
    omega
  subst hN
  have hc : nc = 0 := by
    have : (nc : Int) = 0 := n1
    omega
  refine ⟨by rcases hu with rfl | rfl <;> rfl, cw_0.1, cr, eq, p, nc, ne, 0, bl, lv, ms, mr, 0, lf, fm, fr, hK0, hP, ?_, ?_, fun c c0 c1 => absurd c1 (by show ¬ c < 0; omega), ?_, ?_, best_0⟩
  · rw [hc]
    rcases hu with rfl | rfl <;> rfl
  · rcases hu with rfl | rfl <;> rfl
  · unfold uP
    rw [bs_00]
    rcases hu with rfl | rfl <;> rfl
  · rcases hu with rfl | rfl <;> rfl
theorem linv_0 {κ : KP} {H : AH} {q : Nat} (hD : DeskAt κ H q (fun _ => 0)) : LInv κ H (S00 q) M00 (fun _ _ => 0) q := by
  refine ⟨⟨rfl, hD, rfl, cw_0⟩, fun u hu => ⟨q, uk_0 hD hu⟩, ⟨rg_00, Or.inl rfl⟩, ⟨rfl, by decide, by decide⟩, fun p p0 p1 => absurd p1 (by show ¬ p < 0; omega), Or.inl ⟨rfl, rfl⟩, ⟨rfl, rfl⟩, rfl, rfl, ⟨(show (0 : Int) ≤ 0 by decide), (show (0 : Int) ≤ 50 by decide)⟩, fun i _ _ => ⟨(show (0 : Int) ≤ 0 by decide), (show (0 : Int) < 65536 by decide)⟩, (show (0 : Int) ≤ 0 by decide), (show (0 : Int) ≤ 16 by decide)⟩
set_option maxRecDepth 100000 in
set_option maxHeartbeats 4000000 in
theorem st_0 {κ : KP} {h H : AH} {c0 : HC} {a pd po m25 m24 m21 m16 m12 m11 m10 m9 m4 m2 m1 m0 m b21 b20 b5 v3 v2 v1 v0 b4 u3 u2 u1 u0 b3 b11 b2 b10 b9 b8 b7 b6 b1 q ps n : Nat} {f : Int → Int} (h0 : h a = some c0) (N : NewX a h H [(pd, (true, .inl (.double, 1, fun _ => defaultValue .double))), (po, (true, .inl (.long, 1, fun _ => defaultValue .long))), (m25, (true, .inl (.int, 12, iv (fun _ => 0)))), (m24, (true, .inl (.int, 3, iv (fun _ => 0)))), (m21, (true, .inl (.int, 312, iv (fun _ => 0)))), (m16, (true, .inl (.int, 50, iv (fun _ => 0)))), (m12, (true, .inl (.boolean, 8, iv (fun _ => 0)))), (m11, (true, .inl (.int, 8, iv (fun _ => 0)))), (m10, (true, .inl (.int, 6, iv (fun _ => 0)))), (m9, (true, .inl (.int, 6, iv (fun _ => 0)))), (m4, (true, .inl (.int, 1248, iv (fun _ => 0)))), (m2, (true, .inl (.int, 156, iv (fun _ => 0)))), (m1, (true, .inl (.int, 156, iv (fun _ => 0)))), (m0, (true, .inl (.int, 156, iv (fun _ => 0)))), (m, (true, .inr (14, [.ref m0, .ref m1, .ref m2, .int (J 0), .ref m4, .int (J 0), .int (J 0), .int (J 0), .int (J 0), .ref m9, .ref m10, .ref m11, .ref m12, .int (J 0), .int (J 0), .int (J 0), .ref m16, .int (J 0), .int (J 0), .int (J 0), .int (J (-1)), .ref m21, .int (J 0), .int (J 0), .ref m24, .ref m25, .int (J 0)]))), (b21, (true, .inl (.int, 5, iv (fun _ => 0)))), (b20, (true, .inl (.int, 5, iv (fun _ => 0)))), (b5, (true, .inr (12, [.ref b20, .ref b21, .int (J 0)]))), (v3, (true, .inl (.int, 6, iv (fun _ => 0)))), (v2, (true, .inl (.int, 4, iv (fun _ => 0)))), (v1, (true, .inl (.int, 6, iv (fun _ => 0)))), (v0, (true, .inl (.int, 6, iv (fun _ => 0)))), (b4, (true, .inr (4, [.ref q, .int (J 0), .int (J 0), .ref v0, .ref v1, .ref v2, .ref v3, .int (J 0), .int (J 0), .int (J 0)]))), (u3, (true, .inl (.int, 6, iv (fun _ => 0)))), (u2, (true, .inl (.int, 4, iv (fun _ => 0)))), (u1, (true, .inl (.int, 6, iv (fun _ => 0)))), (u0, (true, .inl (.int, 6, iv (fun _ => 0)))), (b3, (true, .inr (4, [.ref q, .int (J 0), .int (J 0), .ref u0, .ref u1, .ref u2, .ref u3, .int (J 0), .int (J 0), .int (J 0)]))), (b11, (true, .inl (.object RX3, 8, rv (fun _ => none)))), (b2, (true, .inr (9, [.ref b11, .int (J 0)]))), (b10, (true, .inl (.int, 3, iv (fun _ => 0)))), (b9, (true, .inl (.object RX1, 50, rv (fun _ => none)))), (b8, (true, .inl (.byte, 16, iv (fun _ => 0)))), (b7, (true, .inr (1, [.ref b8, .int (J 0), .int (J 0), .int (J 0)]))), (b6, (true, .inl (.char, 50, iv (fun _ => 0)))), (b1, (true, .inr (11, [.ref b6, .int (J 0), .int (J 0), .ref b7, .ref b9, .int (J 0), .ref b10, .int (J 0)])))]) (ha : H a = some (true, .inr (13, [.ref b1, .ref b2, .ref b3, .ref b4, .ref b5, .ref q, .null, .int (J (-1)), .int (J 0)]))) (hD : DeskAt κ H q (fun _ => 0)) (hs : LSc κ ps n f) : ∃ (A B : Nat → Nat) (S : CST) (M : MEM) (G : Nat → Int → Int), B 0 = a ∧ A 30 = m ∧ AD A B po pd ∧ LH κ A B po pd ps n f H S M G q := by
  have hna : a ∉ ([(pd, (true, .inl (.double, 1, fun _ => defaultValue .double))), (po, (true, .inl (.long, 1, fun _ => defaultValue .long))), (m25, (true, .inl (.int, 12, iv (fun _ => 0)))), (m24, (true, .inl (.int, 3, iv (fun _ => 0)))), (m21, (true, .inl (.int, 312, iv (fun _ => 0)))), (m16, (true, .inl (.int, 50, iv (fun _ => 0)))), (m12, (true, .inl (.boolean, 8, iv (fun _ => 0)))), (m11, (true, .inl (.int, 8, iv (fun _ => 0)))), (m10, (true, .inl (.int, 6, iv (fun _ => 0)))), (m9, (true, .inl (.int, 6, iv (fun _ => 0)))), (m4, (true, .inl (.int, 1248, iv (fun _ => 0)))), (m2, (true, .inl (.int, 156, iv (fun _ => 0)))), (m1, (true, .inl (.int, 156, iv (fun _ => 0)))), (m0, (true, .inl (.int, 156, iv (fun _ => 0)))), (m, (true, .inr (14, [.ref m0, .ref m1, .ref m2, .int (J 0), .ref m4, .int (J 0), .int (J 0), .int (J 0), .int (J 0), .ref m9, .ref m10, .ref m11, .ref m12, .int (J 0), .int (J 0), .int (J 0), .ref m16, .int (J 0), .int (J 0), .int (J 0), .int (J (-1)), .ref m21, .int (J 0), .int (J 0), .ref m24, .ref m25, .int (J 0)]))), (b21, (true, .inl (.int, 5, iv (fun _ => 0)))), (b20, (true, .inl (.int, 5, iv (fun _ => 0)))), (b5, (true, .inr (12, [.ref b20, .ref b21, .int (J 0)]))), (v3, (true, .inl (.int, 6, iv (fun _ => 0)))), (v2, (true, .inl (.int, 4, iv (fun _ => 0)))), (v1, (true, .inl (.int, 6, iv (fun _ => 0)))), (v0, (true, .inl (.int, 6, iv (fun _ => 0)))), (b4, (true, .inr (4, [.ref q, .int (J 0), .int (J 0), .ref v0, .ref v1, .ref v2, .ref v3, .int (J 0), .int (J 0), .int (J 0)]))), (u3, (true, .inl (.int, 6, iv (fun _ => 0)))), (u2, (true, .inl (.int, 4, iv (fun _ => 0)))), (u1, (true, .inl (.int, 6, iv (fun _ => 0)))), (u0, (true, .inl (.int, 6, iv (fun _ => 0)))), (b3, (true, .inr (4, [.ref q, .int (J 0), .int (J 0), .ref u0, .ref u1, .ref u2, .ref u3, .int (J 0), .int (J 0), .int (J 0)]))), (b11, (true, .inl (.object RX3, 8, rv (fun _ => none)))), (b2, (true, .inr (9, [.ref b11, .int (J 0)]))), (b10, (true, .inl (.int, 3, iv (fun _ => 0)))), (b9, (true, .inl (.object RX1, 50, rv (fun _ => none)))), (b8, (true, .inl (.byte, 16, iv (fun _ => 0)))), (b7, (true, .inr (1, [.ref b8, .int (J 0), .int (J 0), .int (J 0)]))), (b6, (true, .inl (.char, 50, iv (fun _ => 0)))), (b1, (true, .inr (11, [.ref b6, .int (J 0), .int (J 0), .ref b7, .ref b9, .int (J 0), .ref b10, .int (J 0)])))] : List (Nat × HC)).map Prod.fst := fun z => by
    obtain ⟨p, hp, e⟩ := List.mem_map.mp z
    have := (N.2.1 p hp).1
    rw [e, h0] at this
    cases this
  have hW : ([a, pd, po, m25, m24, m21, m16, m12, m11, m10, m9, m4, m2, m1, m0, m, b21, b20, b5, v3, v2, v1, v0, b4, u3, u2, u1, u0, b3, b11, b2, b10, b9, b8, b7, b6, b1] : List Nat).Nodup := List.nodup_cons.mpr ⟨hna, N.1⟩
  have inj : ∀ i j : Nat, i < 37 → j < 37 → nth [a, pd, po, m25, m24, m21, m16, m12, m11, m10, m9, m4, m2, m1, m0, m, b21, b20, b5, v3, v2, v1, v0, b4, u3, u2, u1, u0, b3, b11, b2, b10, b9, b8, b7, b6, b1] i = nth [a, pd, po, m25, m24, m21, m16, m12, m11, m10, m9, m4, m2, m1, m0, m, b21, b20, b5, v3, v2, v1, v0, b4, u3, u2, u1, u0, b3, b11, b2, b10, b9, b8, b7, b6, b1] j → i = j := fun i j hi hj e => nth_inj hW hi hj e
  have x0 := ha
  have x1 := (N.2.1 _ (List.mem_of_getElem? (i := 35) rfl)).2
  have x2 := (N.2.1 _ (List.mem_of_getElem? (i := 29) rfl)).2
  have x3 := (N.2.1 _ (List.mem_of_getElem? (i := 27) rfl)).2
  have x4 := (N.2.1 _ (List.mem_of_getElem? (i := 22) rfl)).2
  have x5 := (N.2.1 _ (List.mem_of_getElem? (i := 17) rfl)).2
  have x6 := (N.2.1 _ (List.mem_of_getElem? (i := 34) rfl)).2
  have x7 := (N.2.1 _ (List.mem_of_getElem? (i := 33) rfl)).2
  have x8 := (N.2.1 _ (List.mem_of_getElem? (i := 32) rfl)).2
  have x9 := (N.2.1 _ (List.mem_of_getElem? (i := 31) rfl)).2
  have x10 := (N.2.1 _ (List.mem_of_getElem? (i := 30) rfl)).2
  have x11 := (N.2.1 _ (List.mem_of_getElem? (i := 28) rfl)).2
  have x12 := (N.2.1 _ (List.mem_of_getElem? (i := 26) rfl)).2
  have x13 := (N.2.1 _ (List.mem_of_getElem? (i := 25) rfl)).2
  have x14 := (N.2.1 _ (List.mem_of_getElem? (i := 24) rfl)).2
  have x15 := (N.2.1 _ (List.mem_of_getElem? (i := 23) rfl)).2
  have x16 := (N.2.1 _ (List.mem_of_getElem? (i := 21) rfl)).2
  have x17 := (N.2.1 _ (List.mem_of_getElem? (i := 20) rfl)).2
  have x18 := (N.2.1 _ (List.mem_of_getElem? (i := 19) rfl)).2
  have x19 := (N.2.1 _ (List.mem_of_getElem? (i := 18) rfl)).2
  have x20 := (N.2.1 _ (List.mem_of_getElem? (i := 16) rfl)).2
  have x21 := (N.2.1 _ (List.mem_of_getElem? (i := 15) rfl)).2
  have y0 := (N.2.1 _ (List.mem_of_getElem? (i := 13) rfl)).2
  have y1 := (N.2.1 _ (List.mem_of_getElem? (i := 12) rfl)).2
  have y2 := (N.2.1 _ (List.mem_of_getElem? (i := 11) rfl)).2
  have y4 := (N.2.1 _ (List.mem_of_getElem? (i := 10) rfl)).2
  have y9 := (N.2.1 _ (List.mem_of_getElem? (i := 9) rfl)).2
  have y10 := (N.2.1 _ (List.mem_of_getElem? (i := 8) rfl)).2
  have y11 := (N.2.1 _ (List.mem_of_getElem? (i := 7) rfl)).2
  have y12 := (N.2.1 _ (List.mem_of_getElem? (i := 6) rfl)).2
  have y16 := (N.2.1 _ (List.mem_of_getElem? (i := 5) rfl)).2
  have y21 := (N.2.1 _ (List.mem_of_getElem? (i := 4) rfl)).2
  have y24 := (N.2.1 _ (List.mem_of_getElem? (i := 3) rfl)).2
  have y25 := (N.2.1 _ (List.mem_of_getElem? (i := 2) rfl)).2
  have y30 := (N.2.1 _ (List.mem_of_getElem? (i := 14) rfl)).2
  have zpd := (N.2.1 _ (List.mem_of_getElem? (i := 0) rfl)).2
  have zpo := (N.2.1 _ (List.mem_of_getElem? (i := 1) rfl)).2
  have fB : ∀ i ∈ bids, nth iB0 i < 37 := by decide
  have fA : ∀ i ∈ mids, iA0 i < 37 := by decide
  have eB : ∀ i ∈ bids, ∀ j ∈ bids, nth iB0 i = nth iB0 j → i = j := by decide
  have eA : ∀ i ∈ mids, ∀ j ∈ mids, iA0 i = iA0 j → i = j := by decide
  have eAB : ∀ i ∈ bids, ∀ k ∈ mids, nth iB0 i ≠ iA0 k := by decide
  have eBp : ∀ i ∈ bids, nth iB0 i ≠ 2 ∧ nth iB0 i ≠ 1 := by decide
  have eAp : ∀ k ∈ mids, iA0 k ≠ 2 ∧ iA0 k ≠ 1 := by decide
  refine ⟨fun k => nth [a, pd, po, m25, m24, m21, m16, m12, m11, m10, m9, m4, m2, m1, m0, m, b21, b20, b5, v3, v2, v1, v0, b4, u3, u2, u1, u0, b3, b11, b2, b10, b9, b8, b7, b6, b1] (iA0 k), fun k => nth [a, pd, po, m25, m24, m21, m16, m12, m11, m10, m9, m4, m2, m1, m0, m, b21, b20, b5, v3, v2, v1, v0, b4, u3, u2, u1, u0, b3, b11, b2, b10, b9, b8, b7, b6, b1] (nth iB0 k), S00 q, M00, fun _ _ => 0, rfl, rfl, ⟨fun i hi j hj e => eB i hi j hj (inj _ _ (fB i hi) (fB j hj) e), fun i hi j hj e => eA i hi j hj (inj _ _ (fA i hi) (fA j hj) e), fun i hi k hk e => eAB i hi k hk (inj _ _ (fB i hi) (fA k hk) e), fun i hi => ⟨fun e => (eBp i hi).1 (inj _ 2 (fB i hi) (by decide) e), fun e => (eBp i hi).2 (inj _ 1 (fB i hi) (by decide) e)⟩, fun k hk => ⟨fun e => (eAp k hk).1 (inj _ 2 (fA k hk) (by decide) e), fun e => (eAp k hk).2 (inj _ 1 (fA k hk) (by decide) e)⟩, fun e => absurd (inj 2 1 (by decide) (by decide) e) (by decide)⟩, cs_of fun k hk => ?_, ms_of fun k hk => ?_, ⟨_, zpo⟩, ⟨_, zpd⟩, hs, linv_0 hD⟩
  · rcases (show k = 0 ∨ k = 1 ∨ k = 2 ∨ k = 3 ∨ k = 4 ∨ k = 5 ∨ k = 6 ∨ k = 7 ∨ k = 8 ∨ k = 9 ∨ k = 10 ∨ k = 11 ∨ k = 12 ∨ k = 13 ∨ k = 14 ∨ k = 15 ∨ k = 16 ∨ k = 17 ∨ k = 18 ∨ k = 19 ∨ k = 20 ∨ k = 21 by simpa [bids] using hk) with rfl | rfl | rfl | rfl | rfl | rfl | rfl | rfl | rfl | rfl | rfl | rfl | rfl | rfl | rfl | rfl | rfl | rfl | rfl | rfl | rfl | rfl
    · rw [bz_0]
      exact x0
    · exact x1
    · exact x2
    · rw [bz_3]
      exact x3
    · rw [bz_4]
      exact x4
    · exact x5
    · exact x6
    · exact x7
    · exact x8
    · rw [bz_9]
      exact x9
    · exact x10
    · rw [bz_11]
      exact x11
    · exact x12
    · exact x13
    · exact x14
    · exact x15
    · exact x16
    · exact x17
    · exact x18
    · exact x19
    · exact x20
    · exact x21
  · rcases (show k = 30 ∨ k = 0 ∨ k = 1 ∨ k = 2 ∨ k = 4 ∨ k = 9 ∨ k = 10 ∨ k = 11 ∨ k = 12 ∨ k = 16 ∨ k = 21 ∨ k = 24 ∨ k = 25 by simpa [mids] using hk) with rfl | rfl | rfl | rfl | rfl | rfl | rfl | rfl | rfl | rfl | rfl | rfl | rfl
    · exact y30
    · exact y0
    · exact y1
    · exact y2
    · exact y4
    · exact y9
    · exact y10
    · exact y11
    · exact y12
    · exact y16
    · exact y21
    · exact y24
    · exact y25
/-! ===== the law's loop ===== -/
set_option maxRecDepth 100000 in
set_option maxHeartbeats 4000000 in
theorem l_law (κ : KP) {A B : Nat → Nat} {po pd ps n : Nat} {f : Int → Int} (a : AD A B po pd) (hf : ∀ j, rng (f j)) (hn : n ≤ 2560) : ∀ (g : Nat) (i : Int) (k m : Nat) (H : AH) (S : CST) (M : MEM) (G : Nat → Int → Int) (q : Nat) (v6 v7 v8 : Option Value), (n : Int) - i ≤ 5 * g + 4 → 0 ≤ i → i ≤ 2565 → 400 * g ≤ k → 2000 * g ≤ m → LH κ A B po pd ps n f H S M G q → WW κ mL_law 30 k m (fun v _ => v = some (.int (J 1))) NoX 28 [some (.ref ps), some (.ref (B 0)), some (.ref (A 30)), some (.ref po), some (.ref pd), some (.int (J i)), v6, v7, v8] [] H := by
  intro g
  induction g with
  | zero =>
    intro i k m H S M G q v6 v7 v8 hg i0 i9 hk hm L
    refine r_il5 dL_law_28 ?_
    refine r_al0 dL_law_30 ?_
    refine r_scl dL_law_31 L.2.2.2.2.1 ?_
    refine r_iconst dL_law_32 ?_
    refine r_isub dL_law_33 ?_
    refine r_icmp_gt (tgt := 2013) dL_law_34 (by decide) (by omega) (by omega) (fun c_34 => ?_) (fun c_34 => ?_)
    · refine r_iconst dL_law_2013 ?_
      exact r_iret dL_law_2014 (ty := .boolean) rfl (by decide) rfl
    · exact absurd hg (by omega)
  | succ g ih =>
    intro i k m H S M G q v6 v7 v8 hg i0 i9 hk hm L
    refine r_il5 dL_law_28 ?_
    refine r_al0 dL_law_30 ?_
    refine r_scl dL_law_31 L.2.2.2.2.1 ?_
    refine r_iconst dL_law_32 ?_
    refine r_isub dL_law_33 ?_
    refine r_icmp_gt (tgt := 2013) dL_law_34 (by decide) (by omega) (by omega) (fun c_34 => ?_) (fun c_34 => ?_)
    · refine r_iconst dL_law_2013 ?_
      exact r_iret dL_law_2014 (ty := .boolean) rfl (by decide) rfl
    · refine r_al0 dL_law_37 ?_
      refine r_il5 dL_law_38 ?_
      refine r_scJ dL_law_40 L.2.2.2.2.1 (by omega) (by omega) (by omega) ?_
      refine r_bipush dL_law_41 (by decide) ?_
      refine r_iand dL_law_43 ?_
      rw [J_of (J (f i) &&& J 63)]
      generalize hz : (J (f i) &&& J 63).toInt = z
      have hzr : rng z := by rw [← hz]; exact rng_of _
      have KK : KKt κ A B po pd ps n f i k m (fun v _ => v = some (.int (J 1))) := fun H1 S1 M1 G1 q1 w6 w7 w8 k1 m1 e1 e2 L1 => by
        refine r_inc5 dL_law_2007 rfl ?_
        refine r_goto (tgt := 28) dL_law_2010 (by decide) ?_
        exact ih (i + 5) k1 m1 H1 S1 M1 G1 q1 w6 w7 w8 (by omega) (by omega) (by omega) (by omega) (by omega) L1
      rcases (show (z < 0 ∨ 32 < z) ∨ z = 0 ∨ z = 1 ∨ z = 2 ∨ z = 3 ∨ z = 4 ∨ z = 5 ∨ z = 6 ∨ z = 7 ∨ z = 8 ∨ z = 9 ∨ z = 10 ∨ z = 11 ∨ z = 12 ∨ z = 13 ∨ z = 14 ∨ z = 15 ∨ z = 16 ∨ z = 17 ∨ z = 18 ∨ z = 19 ∨ z = 20 ∨ z = 21 ∨ z = 22 ∨ z = 23 ∨ z = 24 ∨ z = 25 ∨ z = 26 ∨ z = 27 ∨ z = 28 ∨ z = 29 ∨ z = 30 ∨ z = 31 ∨ z = 32 by omega) with hs | hs | hs | hs | hs | hs | hs | hs | hs | hs | hs | hs | hs | hs | hs | hs | hs | hs | hs | hs | hs | hs | hs | hs | hs | hs | hs | hs | hs | hs | hs | hs | hs | hs
      · refine r_tabOut (tgt := 2007) dL_law_44 (hzr) hs (by decide) ?_
        exact KK _ _ _ _ _ _ _ _ _ _ (by omega) (by omega) L
      · refine r_tabIn (tgt := 192) dL_law_44 0 hs (by decide) (by decide) rfl (by decide) ?_
        exact k_addCredit κ a L hf hn i0 (by omega) (by omega) (by omega) KK
      · refine r_tabIn (tgt := 286) dL_law_44 1 hs (by decide) (by decide) rfl (by decide) ?_
        exact k_dropCredit κ a L hf hn i0 (by omega) (by omega) (by omega) KK
      · refine r_tabIn (tgt := 342) dL_law_44 2 hs (by decide) (by decide) rfl (by decide) ?_
        exact k_credit κ a L hf hn i0 (by omega) (by omega) (by omega) KK
      · refine r_tabIn (tgt := 410) dL_law_44 3 hs (by decide) (by decide) rfl (by decide) ?_
        exact k_code κ a L hf hn i0 (by omega) (by omega) (by omega) KK
      · refine r_tabIn (tgt := 466) dL_law_44 4 hs (by decide) (by decide) rfl (by decide) ?_
        exact k_expires κ a L hf hn i0 (by omega) (by omega) (by omega) KK
      · refine r_tabIn (tgt := 534) dL_law_44 5 hs (by decide) (by decide) rfl (by decide) ?_
        exact k_addEquivalence κ a L hf hn i0 (by omega) (by omega) (by omega) KK
      · refine r_tabIn (tgt := 634) dL_law_44 6 hs (by decide) (by decide) rfl (by decide) ?_
        exact k_equivalent κ a L hf hn i0 (by omega) (by omega) (by omega) KK
      · refine r_tabIn (tgt := 702) dL_law_44 7 hs (by decide) (by decide) rfl (by decide) ?_
        exact k_apply κ a L hf hn i0 (by omega) (by omega) (by omega) KK
      · refine r_tabIn (tgt := 758) dL_law_44 8 hs (by decide) (by decide) rfl (by decide) ?_
        exact k_rootsBy κ a L hf hn i0 (by omega) (by omega) (by omega) KK
      · refine r_tabIn (tgt := 814) dL_law_44 9 hs (by decide) (by decide) rfl (by decide) ?_
        exact k_bestEquivalence κ a L hf hn i0 (by omega) (by omega) (by omega) KK
      · refine r_tabIn (tgt := 858) dL_law_44 10 hs (by decide) (by decide) rfl (by decide) ?_
        exact k_append κ a L hf hn i0 (by omega) (by omega) (by omega) KK
      · refine r_tabIn (tgt := 896) dL_law_44 11 hs (by decide) (by decide) rfl (by decide) ?_
        exact k_readProgram κ a L hf hn i0 (by omega) (by omega) (by omega) KK
      · refine r_tabIn (tgt := 940) dL_law_44 12 hs (by decide) (by decide) rfl (by decide) ?_
        exact k_faultPosition κ a L hf hn i0 (by omega) (by omega) (by omega) KK
      · refine r_tabIn (tgt := 953) dL_law_44 13 hs (by decide) (by decide) rfl (by decide) ?_
        exact k_refusal κ a L hf hn i0 (by omega) (by omega) (by omega) KK
      · refine r_tabIn (tgt := 997) dL_law_44 14 hs (by decide) (by decide) rfl (by decide) ?_
        exact k_block κ a L hf hn i0 (by omega) (by omega) (by omega) KK
      · refine r_tabIn (tgt := 1065) dL_law_44 15 hs (by decide) (by decide) rfl (by decide) ?_
        exact k_part κ a L hf hn i0 (by omega) (by omega) (by omega) KK
      · refine r_tabIn (tgt := 1133) dL_law_44 16 hs (by decide) (by decide) rfl (by decide) ?_
        exact k_letter κ a L hf hn i0 (by omega) (by omega) (by omega) KK
      · refine r_tabIn (tgt := 1201) dL_law_44 17 hs (by decide) (by decide) rfl (by decide) ?_
        exact k_accepts κ a L hf hn i0 (by omega) (by omega) (by omega) KK
      · refine r_tabIn (tgt := 1276) dL_law_44 18 hs (by decide) (by decide) rfl (by decide) ?_
        exact k_isMet κ a L hf hn i0 (by omega) (by omega) (by omega) KK
      · refine r_tabIn (tgt := 1339) dL_law_44 19 hs (by decide) (by decide) rfl (by decide) ?_
        exact k_points κ a L hf hn i0 (by omega) (by omega) (by omega) KK
      · refine r_tabIn (tgt := 1395) dL_law_44 20 hs (by decide) (by decide) rfl (by decide) ?_
        exact k_lacks κ a L hf hn i0 (by omega) (by omega) (by omega) KK
      · refine r_tabIn (tgt := 1451) dL_law_44 21 hs (by decide) (by decide) rfl (by decide) ?_
        exact k_isComplete κ a L hf hn i0 (by omega) (by omega) (by omega) KK
      · refine r_tabIn (tgt := 1464) dL_law_44 22 hs (by decide) (by decide) rfl (by decide) ?_
        exact k_rootsWith κ a L hf hn i0 (by omega) (by omega) (by omega) KK
      · refine r_tabIn (tgt := 1558) dL_law_44 23 hs (by decide) (by decide) rfl (by decide) ?_
        exact k_lapses κ a L hf hn i0 (by omega) (by omega) (by omega) KK
      · refine r_tabIn (tgt := 1602) dL_law_44 24 hs (by decide) (by decide) rfl (by decide) ?_
        exact k_layers κ a L hf hn i0 (by omega) (by omega) (by omega) KK
      · refine r_tabIn (tgt := 1658) dL_law_44 25 hs (by decide) (by decide) rfl (by decide) ?_
        exact k_why κ a L hf hn i0 (by omega) (by omega) (by omega) KK
      · refine r_tabIn (tgt := 1738) dL_law_44 26 hs (by decide) (by decide) rfl (by decide) ?_
        exact k_pass κ a L hf hn i0 (by omega) (by omega) (by omega) KK
      · refine r_tabIn (tgt := 1794) dL_law_44 27 hs (by decide) (by decide) rfl (by decide) ?_
        exact k_year κ a L hf hn i0 (by omega) (by omega) (by omega) KK
      · refine r_tabIn (tgt := 1807) dL_law_44 28 hs (by decide) (by decide) rfl (by decide) ?_
        exact k_account κ a L hf hn i0 (by omega) (by omega) (by omega) KK
      · refine r_tabIn (tgt := 1863) dL_law_44 29 hs (by decide) (by decide) rfl (by decide) ?_
        exact k_meanGrade κ a L hf hn i0 (by omega) (by omega) (by omega) KK
      · refine r_tabIn (tgt := 1928) dL_law_44 30 hs (by decide) (by decide) rfl (by decide) ?_
        exact k_undo κ a L hf hn i0 (by omega) (by omega) (by omega) KK
      · refine r_tabIn (tgt := 1972) dL_law_44 31 hs (by decide) (by decide) rfl (by decide) ?_
        exact k_save κ a L hf hn i0 (by omega) (by omega) (by omega) KK
      · refine r_tabIn (tgt := 1983) dL_law_44 32 hs (by decide) (by decide) rfl (by decide) ?_
        exact k_restore κ a L hf hn i0 (by omega) (by omega) (by omega) KK
/-! ===== the law ===== -/
set_option maxRecDepth 100000 in
set_option maxHeartbeats 4000000 in
theorem c_law (κ : KP) (hn : κ.2.2.2.1 ≤ 2560) : WW κ mL_law 30 741486 6759007 (fun v _ => v = some (.int (J 1))) NoX 0 [some (.ref κ.2.2.1), none, none, none, none, none, none, none, none] [] (fun _ => none) := by
  refine r_new dL_law_0 n_L_8 (by omega) (by omega) (fun a ha => ?_)
  refine r_dup dL_law_3 rfl ?_
  refine r_callI (As := []) dL_law_4 i_L_120 (n_x9 κ _ upA_same) (by decide) rfl rfl (cat_le rfl) (by omega) (by omega) (fun v g1 hq1 => ?_)
  obtain ⟨rfl, b1, b2, b3, b4, b5, b6, b7, b8, b9, b10, b11, u0, u1, u2, u3, v0, v1, v2, v3, b20, b21, q, N1, e1, hDk⟩ := hq1
  have hD1 := hDk (fun _ => 0) rfl rfl rfl rfl
  show WW κ _ _ _ _ _ _ _ _ (.ref a :: []) g1
  refine r_as1 dL_law_7 rfl ?_
  refine r_new dL_law_8 n_L_121 (by omega) (by omega) (fun m hm => ?_)
  refine r_dup dL_law_11 rfl ?_
  refine r_callI (As := []) dL_law_12 i_L_123 (n_x10 κ _ upA_same) (by decide) rfl rfl (cat_le rfl) (by omega) (by omega) (fun v g2 hq2 => ?_)
  obtain ⟨rfl, m0, m1, m2, m4, m9, m10, m11, m12, m16, m21, m24, m25, K2, e2⟩ := hq2
  obtain ⟨N2, a2⟩ := NewX.sub N1 e1 hm K2 e2
  have hD2 := hD1.fx ((Ext.up hm).fx.trans (K2.2.2.fx upA_same))
  show WW κ _ _ _ _ _ _ _ _ (.ref m :: []) g2
  refine r_as2 dL_law_15 rfl ?_
  refine r_iconst dL_law_16 ?_
  refine r_newa dL_law_17 (by decide) ac_J (by decide) (by decide) (by decide) (by omega) (by first | omega | decide) (fun po hpo => ?_)
  change WW κ _ _ _ _ _ _ _ _ _ (upA g2 po (true, .inl (.long, 1, fun _ => defaultValue .long)))
  have N3 := NewX.new (x := (true, .inl (.long, 1, fun _ => defaultValue .long))) N2 a2 hpo
  have a3 := upo (c := (true, .inl (.long, 1, fun _ => defaultValue .long))) hpo a2
  have hD3 := hD2.fx (Ext.up (c := (true, .inl (.long, 1, fun _ => defaultValue .long))) hpo).fx
  generalize upA g2 po (true, .inl (.long, 1, fun _ => defaultValue .long)) = g3 at N3 a3 hD3 ⊢
  refine r_as3 dL_law_19 rfl ?_
  refine r_iconst dL_law_20 ?_
  refine r_newa dL_law_21 (by decide) ac_D (by decide) (by decide) (by decide) (by omega) (by first | omega | decide) (fun pd hpd => ?_)
  change WW κ _ _ _ _ _ _ _ _ _ (upA g3 pd (true, .inl (.double, 1, fun _ => defaultValue .double)))
  have N4 := NewX.new (x := (true, .inl (.double, 1, fun _ => defaultValue .double))) N3 a3 hpd
  have a4 := upo (c := (true, .inl (.double, 1, fun _ => defaultValue .double))) hpd a3
  have hD4 := hD3.fx (Ext.up (c := (true, .inl (.double, 1, fun _ => defaultValue .double))) hpd).fx
  generalize upA g3 pd (true, .inl (.double, 1, fun _ => defaultValue .double)) = g4 at N4 a4 hD4 ⊢
  refine r_as4 dL_law_23 rfl ?_
  refine r_iconst dL_law_25 ?_
  refine r_is5 dL_law_26 rfl ?_
  obtain ⟨A, B, S, M, G, rfl, rfl, ad, hL⟩ := st_0 (κ := κ) (ps := κ.2.2.1) (n := κ.2.2.2.1) (f := fun j => (κ.2.2.2.2 j.toNat).toInt) upA_same N4 a4 hD4 ⟨rfl, rfl, fun _ => rfl⟩
  exact l_law κ ad (fun j => rng_of _) hn 512 0 _ _ _ S M G q none none none (by omega) (by omega) (by omega) (by omega) (by omega) hL
