/-! ===== more cases of the law's loop ===== -/
set_option maxRecDepth 100000 in
set_option maxHeartbeats 4000000 in
theorem k_accepts (κ : KP) {A B : Nat → Nat} {po pd ps n : Nat} {f : Int → Int} {H : AH} {S : CST} {M : MEM} {G : Nat → Int → Int} {q : Nat} (a : AD A B po pd) (L : LH κ A B po pd ps n f H S M G q) (hf : ∀ j, rng (f j)) (hn : n ≤ 2560) {i : Int} (i0 : 0 ≤ i) (i1 : i + 5 ≤ n) {k n9 : Nat} (hk : 400 ≤ k) (hn9 : 2000 ≤ n9) {Q : Option Value → AH → Prop} {v6 v7 v8 : Option Value} (KK : KKt κ A B po pd ps n f i k n9 Q) : WW κ mL_law 30 k n9 Q NoX 1201 [some (.ref ps), some (.ref (B 0)), some (.ref (A 30)), some (.ref po), some (.ref pd), some (.int (J i)), v6, v7, v8] [] H := by
  have hB := a.1
  have hA := a.2.1
  have hI := L.inv.cl
  have hH := L.inv.hk
  have hR := L.inv.rg
  have hC := L.inv.1.2.2.2
  have hK := L.inv.2.2.1.2
  have p5 := L.inv.2.2.2.1.2
  have n1 := hC.1.n.2.1
  have hp0 : LSc κ ps n f := L.2.2.2.2.1
  rw [L.1]
  refine r_al1 dL_law_1201 ?_
  refine r_al0 dL_law_1202 ?_
  refine r_il5 dL_law_1203 ?_
  refine r_iconst dL_law_1205 ?_
  refine r_iadd dL_law_1206 ?_
  refine r_scJ dL_law_1207 hp0 (by omega) (by omega) (by omega) ?_
  refine r_al0 dL_law_1208 ?_
  refine r_il5 dL_law_1209 ?_
  refine r_iconst dL_law_1211 ?_
  refine r_iadd dL_law_1212 ?_
  refine r_scJ dL_law_1213 hp0 (by omega) (by omega) (by omega) ?_
  refine r_al3 dL_law_1214 ?_
  refine r_callSX (As := [.ref (B 0), .int (J (f (i + 1))), .int (J (f (i + 2))), .ref po]) dL_law_1215 s_L_187 (h_accepts κ (cs_obj hB (k9 := 0) (by decide) rfl) (x_accepts κ H hB hI (hf _) (hf _)) (ask_Z a L (fun r hr => z_accepts hr rfl)) re_1) (by decide) rfl rfl (cat_le rfl) (by omega) (by omega) (fun v h9 hq9 => ?_)
  obtain ⟨k1, h1, rfl, kb, x1, hO, hkk⟩ := HQ.out (H0 := cset B S H) (pd := pd) hq9 (by decide) rd_fr re_fr
  show WW κ _ _ _ _ _ _ _ _ (.int (J k1) :: []) h9
  obtain ⟨m1, hp9, ⟨g3, m3⟩, ⟨g4, m4⟩⟩ := L.mid a x1 hO
  refine r_is6 dL_law_1218 rfl ?_
  refine r_al2 dL_law_1220 ?_
  refine r_al0 dL_law_1221 ?_
  refine r_il5 dL_law_1222 ?_
  refine r_iconst dL_law_1224 ?_
  refine r_iadd dL_law_1225 ?_
  refine r_scJ dL_law_1226 hp9 (by omega) (by omega) (by omega) ?_
  refine r_al0 dL_law_1227 ?_
  refine r_il5 dL_law_1228 ?_
  refine r_iconst dL_law_1230 ?_
  refine r_iadd dL_law_1231 ?_
  refine r_scJ dL_law_1232 hp9 (by omega) (by omega) (by omega) ?_
  rw [m1]
  refine m_callR2 dL_law_1233 v_L_189 hA (c_accepts κ hA hR hC hK (hf _) (hf _)) (by decide) rfl (fun r2 M2 hm => ?_)
  obtain ⟨z7, z8, S', G', q', e1, I'⟩ : SIM κ B po h1 h9 k1 r2 M2 := (sim_ask (Rf := fun g => R_accepts g (f (i + 1)) (f (i + 2))) hB L.inv (by decide +kernel) (uq_accepts) hkk (QFx.w (Rf := fun g => R_accepts g (f (i + 1)) (f (i + 2))) hm))
  have L' := L.fin a x1 hO e1 I'
  have z01 : M2 30 7 = 0 → 0 ≤ r2 ∧ r2 ≤ 1 := by obtain ⟨t9, y1, y2⟩ := hm; exact fun z => z_accepts y2 (y1.2.2.1.symm.trans z)
  refine r_is7 dL_law_1236 rfl ?_
  refine r_al2 dL_law_1238 ?_
  refine m_callP0 dL_law_1239 v_L_130 hA (c_thrown κ _ hA I'.rg) (by decide) rfl ?_
  rw [z7]
  refine r_il6 dL_law_1242 ?_
  refine r_icmp_eq (tgt := 1249) dL_law_1244 (by decide) (by first | omega | decide | (have := z01 (z7.trans c_1251); omega)) (by first | omega | decide | (have := z01 (z7.trans c_1251); omega)) (fun c_1244 => ?_) (fun c_1244 => ?_)
  · refine r_il6 dL_law_1249 ?_
    refine r_if_ne (tgt := 1273) dL_law_1251 (by decide) (by first | omega | decide | (have := z01 (z7.trans c_1251); omega)) (fun c_1251 => ?_) (fun c_1251 => ?_)
    · refine r_goto (tgt := 2007) dL_law_1273 (by decide) ?_
      exact KK _ _ _ _ _ _ _ _ _ _ (by omega) (by omega) L'
    · obtain ⟨f0, e9, hf0⟩ := z8 c_1251
      have hpo : mset A M2 h9 po = some (true, .inl (.long, 1, f0)) := by rw [mset_off (fun k hk => (a.2.2.2.2.1 k hk).1), e9]; exact upA_same
      refine r_al3 dL_law_1254 ?_
      refine r_iconst dL_law_1255 ?_
      refine r_lald dL_law_1256 hpo (by decide) (by decide) (by decide) hf0 ?_
      refine r_il7 dL_law_1257 ?_
      refine r_if_eq (tgt := 1266) dL_law_1259 (by decide) (by first | omega | decide | (have := z01 (z7.trans c_1251); omega)) (fun c_1259 => ?_) (fun c_1259 => ?_)
      · refine r_lconst dL_law_1266 ?_
        first
          | rw [show (J r2).toInt64 = Int64.ofNat (((0 : Fin 2) : Nat)) from by rw [c_1259]; decide]
          | rw [show (J r2).toInt64 = Int64.ofNat (((1 : Fin 2) : Nat)) from by rw [show r2 = 1 by have := z01 (z7.trans c_1251); omega]; decide]
        refine r_lcmp dL_law_1267 ?_
        rw [lcmp_self]
        refine r_if_eq (tgt := 1273) dL_law_1268 (by decide) (by first | omega | decide | (have := z01 (z7.trans c_1251); omega)) (fun c_1268 => ?_) (fun c_1268 => ?_)
        · refine r_goto (tgt := 2007) dL_law_1273 (by decide) ?_
          exact KK _ _ _ _ _ _ _ _ _ _ (by omega) (by omega) L'
        · exact absurd rfl c_1268
      · refine r_lconst dL_law_1262 ?_
        refine r_goto (tgt := 1267) dL_law_1263 (by decide) ?_
        first
          | rw [show (J r2).toInt64 = Int64.ofNat (((0 : Fin 2) : Nat)) from by rw [c_1259]; decide]
          | rw [show (J r2).toInt64 = Int64.ofNat (((1 : Fin 2) : Nat)) from by rw [show r2 = 1 by have := z01 (z7.trans c_1251); omega]; decide]
        refine r_lcmp dL_law_1267 ?_
        rw [lcmp_self]
        refine r_if_eq (tgt := 1273) dL_law_1268 (by decide) (by first | omega | decide | (have := z01 (z7.trans c_1251); omega)) (fun c_1268 => ?_) (fun c_1268 => ?_)
        · refine r_goto (tgt := 2007) dL_law_1273 (by decide) ?_
          exact KK _ _ _ _ _ _ _ _ _ _ (by omega) (by omega) L'
        · exact absurd rfl c_1268
  · exact absurd rfl c_1244
set_option maxRecDepth 100000 in
set_option maxHeartbeats 4000000 in
theorem k_isMet (κ : KP) {A B : Nat → Nat} {po pd ps n : Nat} {f : Int → Int} {H : AH} {S : CST} {M : MEM} {G : Nat → Int → Int} {q : Nat} (a : AD A B po pd) (L : LH κ A B po pd ps n f H S M G q) (hf : ∀ j, rng (f j)) (hn : n ≤ 2560) {i : Int} (i0 : 0 ≤ i) (i1 : i + 5 ≤ n) {k n9 : Nat} (hk : 400 ≤ k) (hn9 : 2000 ≤ n9) {Q : Option Value → AH → Prop} {v6 v7 v8 : Option Value} (KK : KKt κ A B po pd ps n f i k n9 Q) : WW κ mL_law 30 k n9 Q NoX 1276 [some (.ref ps), some (.ref (B 0)), some (.ref (A 30)), some (.ref po), some (.ref pd), some (.int (J i)), v6, v7, v8] [] H := by
  have hB := a.1
  have hA := a.2.1
  have hI := L.inv.cl
  have hH := L.inv.hk
  have hR := L.inv.rg
  have hC := L.inv.1.2.2.2
  have hK := L.inv.2.2.1.2
  have p5 := L.inv.2.2.2.1.2
  have n1 := hC.1.n.2.1
  have hp0 : LSc κ ps n f := L.2.2.2.2.1
  rw [L.1]
  refine r_al1 dL_law_1276 ?_
  refine r_al0 dL_law_1277 ?_
  refine r_il5 dL_law_1278 ?_
  refine r_iconst dL_law_1280 ?_
  refine r_iadd dL_law_1281 ?_
  refine r_scJ dL_law_1282 hp0 (by omega) (by omega) (by omega) ?_
  refine r_al3 dL_law_1283 ?_
  refine r_callSX (As := [.ref (B 0), .int (J (f (i + 1))), .ref po]) dL_law_1284 s_L_190 (h_isMet κ (cs_obj hB (k9 := 0) (by decide) rfl) (x_isMet κ H hB hI (hf _)) (ask_Z a L (fun r hr => z_isMet hr rfl)) re_1) (by decide) rfl rfl (cat_le rfl) (by omega) (by omega) (fun v h9 hq9 => ?_)
  obtain ⟨k1, h1, rfl, kb, x1, hO, hkk⟩ := HQ.out (H0 := cset B S H) (pd := pd) hq9 (by decide) rd_fr re_fr
  show WW κ _ _ _ _ _ _ _ _ (.int (J k1) :: []) h9
  obtain ⟨m1, hp9, ⟨g3, m3⟩, ⟨g4, m4⟩⟩ := L.mid a x1 hO
  refine r_is6 dL_law_1287 rfl ?_
  refine r_al2 dL_law_1289 ?_
  refine r_al0 dL_law_1290 ?_
  refine r_il5 dL_law_1291 ?_
  refine r_iconst dL_law_1293 ?_
  refine r_iadd dL_law_1294 ?_
  refine r_scJ dL_law_1295 hp9 (by omega) (by omega) (by omega) ?_
  rw [m1]
  refine m_callR1 dL_law_1296 v_L_192 hA (c_isMet κ hA hR hC hK (hf _)) (by decide) rfl (fun r2 M2 hm => ?_)
  obtain ⟨z7, z8, S', G', q', e1, I'⟩ : SIM κ B po h1 h9 k1 r2 M2 := (sim_ask (Rf := fun g => R_isMet g (f (i + 1))) hB L.inv (by decide +kernel) (uq_isMet hC.1) hkk (QFx.w (Rf := fun g => R_isMet g (f (i + 1))) hm))
  have L' := L.fin a x1 hO e1 I'
  have z01 : M2 30 7 = 0 → 0 ≤ r2 ∧ r2 ≤ 1 := by obtain ⟨t9, y1, y2⟩ := hm; exact fun z => z_isMet y2 (y1.2.2.1.symm.trans z)
  refine r_is7 dL_law_1299 rfl ?_
  refine r_al2 dL_law_1301 ?_
  refine m_callP0 dL_law_1302 v_L_130 hA (c_thrown κ _ hA I'.rg) (by decide) rfl ?_
  rw [z7]
  refine r_il6 dL_law_1305 ?_
  refine r_icmp_eq (tgt := 1312) dL_law_1307 (by decide) (by first | omega | decide | (have := z01 (z7.trans c_1314); omega)) (by first | omega | decide | (have := z01 (z7.trans c_1314); omega)) (fun c_1307 => ?_) (fun c_1307 => ?_)
  · refine r_il6 dL_law_1312 ?_
    refine r_if_ne (tgt := 1336) dL_law_1314 (by decide) (by first | omega | decide | (have := z01 (z7.trans c_1314); omega)) (fun c_1314 => ?_) (fun c_1314 => ?_)
    · refine r_goto (tgt := 2007) dL_law_1336 (by decide) ?_
      exact KK _ _ _ _ _ _ _ _ _ _ (by omega) (by omega) L'
    · obtain ⟨f0, e9, hf0⟩ := z8 c_1314
      have hpo : mset A M2 h9 po = some (true, .inl (.long, 1, f0)) := by rw [mset_off (fun k hk => (a.2.2.2.2.1 k hk).1), e9]; exact upA_same
      refine r_al3 dL_law_1317 ?_
      refine r_iconst dL_law_1318 ?_
      refine r_lald dL_law_1319 hpo (by decide) (by decide) (by decide) hf0 ?_
      refine r_il7 dL_law_1320 ?_
      refine r_if_eq (tgt := 1329) dL_law_1322 (by decide) (by first | omega | decide | (have := z01 (z7.trans c_1314); omega)) (fun c_1322 => ?_) (fun c_1322 => ?_)
      · refine r_lconst dL_law_1329 ?_
        first
          | rw [show (J r2).toInt64 = Int64.ofNat (((0 : Fin 2) : Nat)) from by rw [c_1322]; decide]
          | rw [show (J r2).toInt64 = Int64.ofNat (((1 : Fin 2) : Nat)) from by rw [show r2 = 1 by have := z01 (z7.trans c_1314); omega]; decide]
        refine r_lcmp dL_law_1330 ?_
        rw [lcmp_self]
        refine r_if_eq (tgt := 1336) dL_law_1331 (by decide) (by first | omega | decide | (have := z01 (z7.trans c_1314); omega)) (fun c_1331 => ?_) (fun c_1331 => ?_)
        · refine r_goto (tgt := 2007) dL_law_1336 (by decide) ?_
          exact KK _ _ _ _ _ _ _ _ _ _ (by omega) (by omega) L'
        · exact absurd rfl c_1331
      · refine r_lconst dL_law_1325 ?_
        refine r_goto (tgt := 1330) dL_law_1326 (by decide) ?_
        first
          | rw [show (J r2).toInt64 = Int64.ofNat (((0 : Fin 2) : Nat)) from by rw [c_1322]; decide]
          | rw [show (J r2).toInt64 = Int64.ofNat (((1 : Fin 2) : Nat)) from by rw [show r2 = 1 by have := z01 (z7.trans c_1314); omega]; decide]
        refine r_lcmp dL_law_1330 ?_
        rw [lcmp_self]
        refine r_if_eq (tgt := 1336) dL_law_1331 (by decide) (by first | omega | decide | (have := z01 (z7.trans c_1314); omega)) (fun c_1331 => ?_) (fun c_1331 => ?_)
        · refine r_goto (tgt := 2007) dL_law_1336 (by decide) ?_
          exact KK _ _ _ _ _ _ _ _ _ _ (by omega) (by omega) L'
        · exact absurd rfl c_1331
  · exact absurd rfl c_1307
set_option maxRecDepth 100000 in
set_option maxHeartbeats 4000000 in
theorem k_points (κ : KP) {A B : Nat → Nat} {po pd ps n : Nat} {f : Int → Int} {H : AH} {S : CST} {M : MEM} {G : Nat → Int → Int} {q : Nat} (a : AD A B po pd) (L : LH κ A B po pd ps n f H S M G q) (hf : ∀ j, rng (f j)) (hn : n ≤ 2560) {i : Int} (i0 : 0 ≤ i) (i1 : i + 5 ≤ n) {k n9 : Nat} (hk : 400 ≤ k) (hn9 : 2000 ≤ n9) {Q : Option Value → AH → Prop} {v6 v7 v8 : Option Value} (KK : KKt κ A B po pd ps n f i k n9 Q) : WW κ mL_law 30 k n9 Q NoX 1339 [some (.ref ps), some (.ref (B 0)), some (.ref (A 30)), some (.ref po), some (.ref pd), some (.int (J i)), v6, v7, v8] [] H := by
  have hB := a.1
  have hA := a.2.1
  have hI := L.inv.cl
  have hH := L.inv.hk
  have hR := L.inv.rg
  have hC := L.inv.1.2.2.2
  have hK := L.inv.2.2.1.2
  have p5 := L.inv.2.2.2.1.2
  have n1 := hC.1.n.2.1
  have hp0 : LSc κ ps n f := L.2.2.2.2.1
  rw [L.1]
  refine r_al1 dL_law_1339 ?_
  refine r_al0 dL_law_1340 ?_
  refine r_il5 dL_law_1341 ?_
  refine r_iconst dL_law_1343 ?_
  refine r_iadd dL_law_1344 ?_
  refine r_scJ dL_law_1345 hp0 (by omega) (by omega) (by omega) ?_
  refine r_al3 dL_law_1346 ?_
  refine r_callSX (As := [.ref (B 0), .int (J (f (i + 1))), .ref po]) dL_law_1347 s_L_193 (h_points κ (cs_obj hB (k9 := 0) (by decide) rfl) (x_points κ H hB hI (hf _)) (out_Q a L rd_fr (fun v h9 hq => by obtain ⟨r, e, -⟩ := hq; exact ⟨r, e⟩)) re_1) (by decide) rfl rfl (cat_le rfl) (by omega) (by omega) (fun v h9 hq9 => ?_)
  obtain ⟨k1, h1, rfl, kb, x1, hO, hkk⟩ := HQ.out (H0 := cset B S H) (pd := pd) hq9 (by decide) rd_fr re_fr
  show WW κ _ _ _ _ _ _ _ _ (.int (J k1) :: []) h9
  obtain ⟨m1, hp9, ⟨g3, m3⟩, ⟨g4, m4⟩⟩ := L.mid a x1 hO
  refine r_is6 dL_law_1350 rfl ?_
  refine r_al2 dL_law_1352 ?_
  refine r_al0 dL_law_1353 ?_
  refine r_il5 dL_law_1354 ?_
  refine r_iconst dL_law_1356 ?_
  refine r_iadd dL_law_1357 ?_
  refine r_scJ dL_law_1358 hp9 (by omega) (by omega) (by omega) ?_
  rw [m1]
  refine m_callR1 dL_law_1359 v_L_195 hA (c_points κ hA hR hC hK (hf _)) (by decide) rfl (fun r2 M2 hm => ?_)
  obtain ⟨z7, z8, S', G', q', e1, I'⟩ : SIM κ B po h1 h9 k1 r2 M2 := (sim_ask (Rf := fun g => R_points g (f (i + 1))) hB L.inv (by decide +kernel) (uq_points hC.1) hkk (QFx.w (Rf := fun g => R_points g (f (i + 1))) hm))
  have L' := L.fin a x1 hO e1 I'
  refine r_is7 dL_law_1362 rfl ?_
  refine r_al2 dL_law_1364 ?_
  refine m_callP0 dL_law_1365 v_L_130 hA (c_thrown κ _ hA I'.rg) (by decide) rfl ?_
  rw [z7]
  refine r_il6 dL_law_1368 ?_
  refine r_icmp_eq (tgt := 1375) dL_law_1370 (by decide) (by first | omega | decide) (by first | omega | decide) (fun c_1370 => ?_) (fun c_1370 => ?_)
  · refine r_il6 dL_law_1375 ?_
    refine r_if_ne (tgt := 1392) dL_law_1377 (by decide) (by first | omega | decide) (fun c_1377 => ?_) (fun c_1377 => ?_)
    · refine r_goto (tgt := 2007) dL_law_1392 (by decide) ?_
      exact KK _ _ _ _ _ _ _ _ _ _ (by omega) (by omega) L'
    · obtain ⟨f0, e9, hf0⟩ := z8 c_1377
      have hpo : mset A M2 h9 po = some (true, .inl (.long, 1, f0)) := by rw [mset_off (fun k hk => (a.2.2.2.2.1 k hk).1), e9]; exact upA_same
      refine r_al3 dL_law_1380 ?_
      refine r_iconst dL_law_1381 ?_
      refine r_lald dL_law_1382 hpo (by decide) (by decide) (by decide) hf0 ?_
      refine r_il7 dL_law_1383 ?_
      refine r_i2l dL_law_1385 ?_
      refine r_lcmp dL_law_1386 ?_
      rw [lcmp_self]
      refine r_if_eq (tgt := 1392) dL_law_1387 (by decide) (by first | omega | decide) (fun c_1387 => ?_) (fun c_1387 => ?_)
      · refine r_goto (tgt := 2007) dL_law_1392 (by decide) ?_
        exact KK _ _ _ _ _ _ _ _ _ _ (by omega) (by omega) L'
      · exact absurd rfl c_1387
  · exact absurd rfl c_1370
set_option maxRecDepth 100000 in
set_option maxHeartbeats 4000000 in
theorem k_lacks (κ : KP) {A B : Nat → Nat} {po pd ps n : Nat} {f : Int → Int} {H : AH} {S : CST} {M : MEM} {G : Nat → Int → Int} {q : Nat} (a : AD A B po pd) (L : LH κ A B po pd ps n f H S M G q) (hf : ∀ j, rng (f j)) (hn : n ≤ 2560) {i : Int} (i0 : 0 ≤ i) (i1 : i + 5 ≤ n) {k n9 : Nat} (hk : 400 ≤ k) (hn9 : 2000 ≤ n9) {Q : Option Value → AH → Prop} {v6 v7 v8 : Option Value} (KK : KKt κ A B po pd ps n f i k n9 Q) : WW κ mL_law 30 k n9 Q NoX 1395 [some (.ref ps), some (.ref (B 0)), some (.ref (A 30)), some (.ref po), some (.ref pd), some (.int (J i)), v6, v7, v8] [] H := by
  have hB := a.1
  have hA := a.2.1
  have hI := L.inv.cl
  have hH := L.inv.hk
  have hR := L.inv.rg
  have hC := L.inv.1.2.2.2
  have hK := L.inv.2.2.1.2
  have p5 := L.inv.2.2.2.1.2
  have n1 := hC.1.n.2.1
  have hp0 : LSc κ ps n f := L.2.2.2.2.1
  rw [L.1]
  refine r_al1 dL_law_1395 ?_
  refine r_al0 dL_law_1396 ?_
  refine r_il5 dL_law_1397 ?_
  refine r_iconst dL_law_1399 ?_
  refine r_iadd dL_law_1400 ?_
  refine r_scJ dL_law_1401 hp0 (by omega) (by omega) (by omega) ?_
  refine r_al3 dL_law_1402 ?_
  refine r_callSX (As := [.ref (B 0), .int (J (f (i + 1))), .ref po]) dL_law_1403 s_L_196 (h_lacks κ (cs_obj hB (k9 := 0) (by decide) rfl) (x_lacks κ H hB hI (hf _)) (out_Q a L rd_fr (fun v h9 hq => by obtain ⟨r, e, -⟩ := hq; exact ⟨r, e⟩)) re_2) (by decide) rfl rfl (cat_le rfl) (by omega) (by omega) (fun v h9 hq9 => ?_)
  obtain ⟨k1, h1, rfl, kb, x1, hO, hkk⟩ := HQ.out (H0 := cset B S H) (pd := pd) hq9 (by decide) rd_fr re_fr
  show WW κ _ _ _ _ _ _ _ _ (.int (J k1) :: []) h9
  obtain ⟨m1, hp9, ⟨g3, m3⟩, ⟨g4, m4⟩⟩ := L.mid a x1 hO
  refine r_is6 dL_law_1406 rfl ?_
  refine r_al2 dL_law_1408 ?_
  refine r_al0 dL_law_1409 ?_
  refine r_il5 dL_law_1410 ?_
  refine r_iconst dL_law_1412 ?_
  refine r_iadd dL_law_1413 ?_
  refine r_scJ dL_law_1414 hp9 (by omega) (by omega) (by omega) ?_
  rw [m1]
  refine m_callR1 dL_law_1415 v_L_198 hA (c_lacks κ hA hR hC hK (hf _)) (by decide) rfl (fun r2 M2 hm => ?_)
  obtain ⟨z7, z8, S', G', q', e1, I'⟩ : SIM κ B po h1 h9 k1 r2 M2 := (sim_ask (Rf := fun g => R_lacks g (f (i + 1))) hB L.inv (by decide +kernel) (uq_lacks hC.1) hkk (QFx.w (Rf := fun g => R_lacks g (f (i + 1))) hm))
  have L' := L.fin a x1 hO e1 I'
  refine r_is7 dL_law_1418 rfl ?_
  refine r_al2 dL_law_1420 ?_
  refine m_callP0 dL_law_1421 v_L_130 hA (c_thrown κ _ hA I'.rg) (by decide) rfl ?_
  rw [z7]
  refine r_il6 dL_law_1424 ?_
  refine r_icmp_eq (tgt := 1431) dL_law_1426 (by decide) (by first | omega | decide) (by first | omega | decide) (fun c_1426 => ?_) (fun c_1426 => ?_)
  · refine r_il6 dL_law_1431 ?_
    refine r_if_ne (tgt := 1448) dL_law_1433 (by decide) (by first | omega | decide) (fun c_1433 => ?_) (fun c_1433 => ?_)
    · refine r_goto (tgt := 2007) dL_law_1448 (by decide) ?_
      exact KK _ _ _ _ _ _ _ _ _ _ (by omega) (by omega) L'
    · obtain ⟨f0, e9, hf0⟩ := z8 c_1433
      have hpo : mset A M2 h9 po = some (true, .inl (.long, 1, f0)) := by rw [mset_off (fun k hk => (a.2.2.2.2.1 k hk).1), e9]; exact upA_same
      refine r_al3 dL_law_1436 ?_
      refine r_iconst dL_law_1437 ?_
      refine r_lald dL_law_1438 hpo (by decide) (by decide) (by decide) hf0 ?_
      refine r_il7 dL_law_1439 ?_
      refine r_i2l dL_law_1441 ?_
      refine r_lcmp dL_law_1442 ?_
      rw [lcmp_self]
      refine r_if_eq (tgt := 1448) dL_law_1443 (by decide) (by first | omega | decide) (fun c_1443 => ?_) (fun c_1443 => ?_)
      · refine r_goto (tgt := 2007) dL_law_1448 (by decide) ?_
        exact KK _ _ _ _ _ _ _ _ _ _ (by omega) (by omega) L'
      · exact absurd rfl c_1443
  · exact absurd rfl c_1426
set_option maxRecDepth 100000 in
set_option maxHeartbeats 4000000 in
theorem k_isComplete (κ : KP) {A B : Nat → Nat} {po pd ps n : Nat} {f : Int → Int} {H : AH} {S : CST} {M : MEM} {G : Nat → Int → Int} {q : Nat} (a : AD A B po pd) (L : LH κ A B po pd ps n f H S M G q) (hf : ∀ j, rng (f j)) (hn : n ≤ 2560) {i : Int} (i0 : 0 ≤ i) (i1 : i + 5 ≤ n) {k n9 : Nat} (hk : 400 ≤ k) (hn9 : 2000 ≤ n9) {Q : Option Value → AH → Prop} {v6 v7 v8 : Option Value} (KK : KKt κ A B po pd ps n f i k n9 Q) : WW κ mL_law 30 k n9 Q NoX 1451 [some (.ref ps), some (.ref (B 0)), some (.ref (A 30)), some (.ref po), some (.ref pd), some (.int (J i)), v6, v7, v8] [] H := by
  have hB := a.1
  have hA := a.2.1
  have hI := L.inv.cl
  have hH := L.inv.hk
  have hR := L.inv.rg
  have hC := L.inv.1.2.2.2
  have hK := L.inv.2.2.1.2
  have p5 := L.inv.2.2.2.1.2
  have n1 := hC.1.n.2.1
  have hp0 : LSc κ ps n f := L.2.2.2.2.1
  rw [L.1]
  refine r_al1 dL_law_1451 ?_
  refine r_callV (As := []) dL_law_1452 v_L_199 (cs_obj hB (k9 := 0) (by decide) rfl) (x_isComplete κ H hB hI) (by decide) rfl rfl (cat_le rfl) (by omega) (by omega) (fun v h9 hq9 => ?_) (fun X h9 hE => (re_0 X h9 hE).elim)
  have x1 := rd_fr _ _ hq9
  obtain ⟨r1, rfl, hr, hP⟩ := hq9
  show WW κ _ _ _ _ _ _ _ _ (.int (J r1) :: []) h9
  obtain ⟨m1, hp9, ⟨g3, m3⟩, ⟨g4, m4⟩⟩ := L.mid a x1 (Or.inl rfl)
  refine r_al2 dL_law_1455 ?_
  rw [m1]
  refine m_callR0 dL_law_1456 v_L_203 hA (c_isComplete κ hA hR hC hK) (by decide) rfl (fun r2 M2 hm => ?_)
  obtain ⟨t2, hm1, hm2⟩ := hm
  rw [show G q = M 0 from L.inv.1.2.2.1] at hr
  obtain ⟨y1, y2⟩ := uq_complete hC.1 _ _ _ _ hr hm2
  obtain rfl : r1 = r2 := y2 rfl
  have rr : rng r1 := by obtain ⟨-, u, -, e⟩ := hm2; rw [e]; have := bP_01 (0 < qroots (M 0) u ∧ qroots (M 0) u = qallr (M 0)); omega
  obtain ⟨S', G', e1, I'⟩ := L.inv.ask hB hP hm1.mq
  have L' := L.fin a x1 (Or.inl rfl) e1 I'
  refine r_icmp_eq (tgt := 2007) dL_law_1459 (by decide) (by exact rr) (by exact rr) (fun c_1459 => ?_) (fun c_1459 => ?_)
  · exact KK _ _ _ _ _ _ _ _ _ _ (by omega) (by omega) L'
  · exact absurd rfl c_1459
set_option maxRecDepth 100000 in
set_option maxHeartbeats 4000000 in
theorem k_rootsWith (κ : KP) {A B : Nat → Nat} {po pd ps n : Nat} {f : Int → Int} {H : AH} {S : CST} {M : MEM} {G : Nat → Int → Int} {q : Nat} (a : AD A B po pd) (L : LH κ A B po pd ps n f H S M G q) (hf : ∀ j, rng (f j)) (hn : n ≤ 2560) {i : Int} (i0 : 0 ≤ i) (i1 : i + 5 ≤ n) {k n9 : Nat} (hk : 400 ≤ k) (hn9 : 2000 ≤ n9) {Q : Option Value → AH → Prop} {v6 v7 v8 : Option Value} (KK : KKt κ A B po pd ps n f i k n9 Q) : WW κ mL_law 30 k n9 Q NoX 1464 [some (.ref ps), some (.ref (B 0)), some (.ref (A 30)), some (.ref po), some (.ref pd), some (.int (J i)), v6, v7, v8] [] H := by
  have hB := a.1
  have hA := a.2.1
  have hI := L.inv.cl
  have hH := L.inv.hk
  have hR := L.inv.rg
  have hC := L.inv.1.2.2.2
  have hK := L.inv.2.2.1.2
  have p5 := L.inv.2.2.2.1.2
  have n1 := hC.1.n.2.1
  have hp0 : LSc κ ps n f := L.2.2.2.2.1
  rw [L.1]
  refine r_al1 dL_law_1464 ?_
  refine r_al0 dL_law_1465 ?_
  refine r_il5 dL_law_1466 ?_
  refine r_iconst dL_law_1468 ?_
  refine r_iadd dL_law_1469 ?_
  refine r_scJ dL_law_1470 hp0 (by omega) (by omega) (by omega) ?_
  refine r_i2cZ dL_law_1471 ?_
  refine r_al0 dL_law_1472 ?_
  refine r_il5 dL_law_1473 ?_
  refine r_iconst dL_law_1475 ?_
  refine r_iadd dL_law_1476 ?_
  refine r_scJ dL_law_1477 hp0 (by omega) (by omega) (by omega) ?_
  refine r_al0 dL_law_1478 ?_
  refine r_il5 dL_law_1479 ?_
  refine r_iconst dL_law_1481 ?_
  refine r_iadd dL_law_1482 ?_
  refine r_scJ dL_law_1483 hp0 (by omega) (by omega) (by omega) ?_
  refine r_al0 dL_law_1484 ?_
  refine r_il5 dL_law_1485 ?_
  refine r_iconst dL_law_1487 ?_
  refine r_iadd dL_law_1488 ?_
  refine r_scJ dL_law_1489 hp0 (by omega) (by omega) (by omega) ?_
  refine r_al3 dL_law_1490 ?_
  refine r_callSX (As := [.ref (B 0), .int (J (chz (f (i + 1)))), .int (J (f (i + 2))), .int (J (f (i + 3))), .int (J (f (i + 4))), .ref po]) dL_law_1491 s_L_204 (h_rootsWith κ (cs_obj hB (k9 := 0) (by decide) rfl) (x_rootsWith κ H hB hI (by have := chz_rg (f (i + 1)); omega) (hf _) (hf _) (hf _)) (out_Q a L rd_fr (fun v h9 hq => by obtain ⟨r, e, -⟩ := hq; exact ⟨r, e⟩)) re_2) (by decide) rfl rfl (cat_le rfl) (by omega) (by omega) (fun v h9 hq9 => ?_)
  obtain ⟨k1, h1, rfl, kb, x1, hO, hkk⟩ := HQ.out (H0 := cset B S H) (pd := pd) hq9 (by decide) rd_fr re_fr
  show WW κ _ _ _ _ _ _ _ _ (.int (J k1) :: []) h9
  obtain ⟨m1, hp9, ⟨g3, m3⟩, ⟨g4, m4⟩⟩ := L.mid a x1 hO
  refine r_is6 dL_law_1494 rfl ?_
  refine r_al2 dL_law_1496 ?_
  refine r_al0 dL_law_1497 ?_
  refine r_il5 dL_law_1498 ?_
  refine r_iconst dL_law_1500 ?_
  refine r_iadd dL_law_1501 ?_
  refine r_scJ dL_law_1502 hp9 (by omega) (by omega) (by omega) ?_
  refine r_i2cZ dL_law_1503 ?_
  refine r_al0 dL_law_1504 ?_
  refine r_il5 dL_law_1505 ?_
  refine r_iconst dL_law_1507 ?_
  refine r_iadd dL_law_1508 ?_
  refine r_scJ dL_law_1509 hp9 (by omega) (by omega) (by omega) ?_
  refine r_al0 dL_law_1510 ?_
  refine r_il5 dL_law_1511 ?_
  refine r_iconst dL_law_1513 ?_
  refine r_iadd dL_law_1514 ?_
  refine r_scJ dL_law_1515 hp9 (by omega) (by omega) (by omega) ?_
  refine r_al0 dL_law_1516 ?_
  refine r_il5 dL_law_1517 ?_
  refine r_iconst dL_law_1519 ?_
  refine r_iadd dL_law_1520 ?_
  refine r_scJ dL_law_1521 hp9 (by omega) (by omega) (by omega) ?_
  rw [m1]
  refine m_callR4 dL_law_1522 v_L_206 hA (c_rootsWith κ hA hR hC hK (by have := chz_rg (f (i + 1)); omega) (hf _) (hf _) (hf _)) (by decide) rfl (fun r2 M2 hm => ?_)
  obtain ⟨z7, z8, S', G', q', e1, I'⟩ : SIM κ B po h1 h9 k1 r2 M2 := (sim_ask (Rf := fun g => R_rw g (chz (f (i + 1))) (f (i + 2)) (f (i + 3)) (f (i + 4))) hB L.inv (by decide +kernel) ((uq_rw (fun x y => (hC.may (by omega) x).1))) hkk (w_rw hR hK hC.1 hm))
  have L' := L.fin a x1 hO e1 I'
  refine r_is7 dL_law_1525 rfl ?_
  refine r_al2 dL_law_1527 ?_
  refine m_callP0 dL_law_1528 v_L_130 hA (c_thrown κ _ hA I'.rg) (by decide) rfl ?_
  rw [z7]
  refine r_il6 dL_law_1531 ?_
  refine r_icmp_eq (tgt := 1538) dL_law_1533 (by decide) (by first | omega | decide) (by first | omega | decide) (fun c_1533 => ?_) (fun c_1533 => ?_)
  · refine r_il6 dL_law_1538 ?_
    refine r_if_ne (tgt := 1555) dL_law_1540 (by decide) (by first | omega | decide) (fun c_1540 => ?_) (fun c_1540 => ?_)
    · refine r_goto (tgt := 2007) dL_law_1555 (by decide) ?_
      exact KK _ _ _ _ _ _ _ _ _ _ (by omega) (by omega) L'
    · obtain ⟨f0, e9, hf0⟩ := z8 c_1540
      have hpo : mset A M2 h9 po = some (true, .inl (.long, 1, f0)) := by rw [mset_off (fun k hk => (a.2.2.2.2.1 k hk).1), e9]; exact upA_same
      refine r_al3 dL_law_1543 ?_
      refine r_iconst dL_law_1544 ?_
      refine r_lald dL_law_1545 hpo (by decide) (by decide) (by decide) hf0 ?_
      refine r_il7 dL_law_1546 ?_
      refine r_i2l dL_law_1548 ?_
      refine r_lcmp dL_law_1549 ?_
      rw [lcmp_self]
      refine r_if_eq (tgt := 1555) dL_law_1550 (by decide) (by first | omega | decide) (fun c_1550 => ?_) (fun c_1550 => ?_)
      · refine r_goto (tgt := 2007) dL_law_1555 (by decide) ?_
        exact KK _ _ _ _ _ _ _ _ _ _ (by omega) (by omega) L'
      · exact absurd rfl c_1550
  · exact absurd rfl c_1533
set_option maxRecDepth 100000 in
set_option maxHeartbeats 4000000 in
theorem k_lapses (κ : KP) {A B : Nat → Nat} {po pd ps n : Nat} {f : Int → Int} {H : AH} {S : CST} {M : MEM} {G : Nat → Int → Int} {q : Nat} (a : AD A B po pd) (L : LH κ A B po pd ps n f H S M G q) (hf : ∀ j, rng (f j)) (hn : n ≤ 2560) {i : Int} (i0 : 0 ≤ i) (i1 : i + 5 ≤ n) {k n9 : Nat} (hk : 400 ≤ k) (hn9 : 2000 ≤ n9) {Q : Option Value → AH → Prop} {v6 v7 v8 : Option Value} (KK : KKt κ A B po pd ps n f i k n9 Q) : WW κ mL_law 30 k n9 Q NoX 1558 [some (.ref ps), some (.ref (B 0)), some (.ref (A 30)), some (.ref po), some (.ref pd), some (.int (J i)), v6, v7, v8] [] H := by
  have hB := a.1
  have hA := a.2.1
  have hI := L.inv.cl
  have hH := L.inv.hk
  have hR := L.inv.rg
  have hC := L.inv.1.2.2.2
  have hK := L.inv.2.2.1.2
  have p5 := L.inv.2.2.2.1.2
  have n1 := hC.1.n.2.1
  have hp0 : LSc κ ps n f := L.2.2.2.2.1
  rw [L.1]
  refine r_al1 dL_law_1558 ?_
  refine r_al3 dL_law_1559 ?_
  refine r_callSX (As := [.ref (B 0), .ref po]) dL_law_1560 s_L_207 (h_lapses κ (cs_obj hB (k9 := 0) (by decide) rfl) (x_lapses κ H hB hI) (out_Q a L rd_fr (fun v h9 hq => by obtain ⟨r, e, -⟩ := hq; exact ⟨r, e⟩)) re_1) (by decide) rfl rfl (cat_le rfl) (by omega) (by omega) (fun v h9 hq9 => ?_)
  obtain ⟨k1, h1, rfl, kb, x1, hO, hkk⟩ := HQ.out (H0 := cset B S H) (pd := pd) hq9 (by decide) rd_fr re_fr
  show WW κ _ _ _ _ _ _ _ _ (.int (J k1) :: []) h9
  obtain ⟨m1, hp9, ⟨g3, m3⟩, ⟨g4, m4⟩⟩ := L.mid a x1 hO
  refine r_is6 dL_law_1563 rfl ?_
  refine r_al2 dL_law_1565 ?_
  rw [m1]
  refine m_callR0 dL_law_1566 v_L_209 hA (c_lapses κ hA hR hC hK) (by decide) rfl (fun r2 M2 hm => ?_)
  obtain ⟨z7, z8, S', G', q', e1, I'⟩ : SIM κ B po h1 h9 k1 r2 M2 := (sim_ask (Rf := fun g => R_lapses g) hB L.inv (by decide +kernel) (uq_lapses hC.1) hkk (QFx.w (Rf := fun g => R_lapses g) hm))
  have L' := L.fin a x1 hO e1 I'
  refine r_is7 dL_law_1569 rfl ?_
  refine r_al2 dL_law_1571 ?_
  refine m_callP0 dL_law_1572 v_L_130 hA (c_thrown κ _ hA I'.rg) (by decide) rfl ?_
  rw [z7]
  refine r_il6 dL_law_1575 ?_
  refine r_icmp_eq (tgt := 1582) dL_law_1577 (by decide) (by first | omega | decide) (by first | omega | decide) (fun c_1577 => ?_) (fun c_1577 => ?_)
  · refine r_il6 dL_law_1582 ?_
    refine r_if_ne (tgt := 1599) dL_law_1584 (by decide) (by first | omega | decide) (fun c_1584 => ?_) (fun c_1584 => ?_)
    · refine r_goto (tgt := 2007) dL_law_1599 (by decide) ?_
      exact KK _ _ _ _ _ _ _ _ _ _ (by omega) (by omega) L'
    · obtain ⟨f0, e9, hf0⟩ := z8 c_1584
      have hpo : mset A M2 h9 po = some (true, .inl (.long, 1, f0)) := by rw [mset_off (fun k hk => (a.2.2.2.2.1 k hk).1), e9]; exact upA_same
      refine r_al3 dL_law_1587 ?_
      refine r_iconst dL_law_1588 ?_
      refine r_lald dL_law_1589 hpo (by decide) (by decide) (by decide) hf0 ?_
      refine r_il7 dL_law_1590 ?_
      refine r_i2l dL_law_1592 ?_
      refine r_lcmp dL_law_1593 ?_
      rw [lcmp_self]
      refine r_if_eq (tgt := 1599) dL_law_1594 (by decide) (by first | omega | decide) (fun c_1594 => ?_) (fun c_1594 => ?_)
      · refine r_goto (tgt := 2007) dL_law_1599 (by decide) ?_
        exact KK _ _ _ _ _ _ _ _ _ _ (by omega) (by omega) L'
      · exact absurd rfl c_1594
  · exact absurd rfl c_1577
set_option maxRecDepth 100000 in
set_option maxHeartbeats 4000000 in
theorem k_layers (κ : KP) {A B : Nat → Nat} {po pd ps n : Nat} {f : Int → Int} {H : AH} {S : CST} {M : MEM} {G : Nat → Int → Int} {q : Nat} (a : AD A B po pd) (L : LH κ A B po pd ps n f H S M G q) (hf : ∀ j, rng (f j)) (hn : n ≤ 2560) {i : Int} (i0 : 0 ≤ i) (i1 : i + 5 ≤ n) {k n9 : Nat} (hk : 400 ≤ k) (hn9 : 2000 ≤ n9) {Q : Option Value → AH → Prop} {v6 v7 v8 : Option Value} (KK : KKt κ A B po pd ps n f i k n9 Q) : WW κ mL_law 30 k n9 Q NoX 1602 [some (.ref ps), some (.ref (B 0)), some (.ref (A 30)), some (.ref po), some (.ref pd), some (.int (J i)), v6, v7, v8] [] H := by
  have hB := a.1
  have hA := a.2.1
  have hI := L.inv.cl
  have hH := L.inv.hk
  have hR := L.inv.rg
  have hC := L.inv.1.2.2.2
  have hK := L.inv.2.2.1.2
  have p5 := L.inv.2.2.2.1.2
  have n1 := hC.1.n.2.1
  have hp0 : LSc κ ps n f := L.2.2.2.2.1
  rw [L.1]
  refine r_al1 dL_law_1602 ?_
  refine r_al0 dL_law_1603 ?_
  refine r_il5 dL_law_1604 ?_
  refine r_iconst dL_law_1606 ?_
  refine r_iadd dL_law_1607 ?_
  refine r_scJ dL_law_1608 hp0 (by omega) (by omega) (by omega) ?_
  refine r_al3 dL_law_1609 ?_
  refine r_callSX (As := [.ref (B 0), .int (J (f (i + 1))), .ref po]) dL_law_1610 s_L_210 (h_layers κ (cs_obj hB (k9 := 0) (by decide) rfl) (x_layers κ H hB hI (hf _)) (out_Q a L rd_fr (fun v h9 hq => by obtain ⟨r, e, -⟩ := hq; exact ⟨r, e⟩)) re_1) (by decide) rfl rfl (cat_le rfl) (by omega) (by omega) (fun v h9 hq9 => ?_)
  obtain ⟨k1, h1, rfl, kb, x1, hO, hkk⟩ := HQ.out (H0 := cset B S H) (pd := pd) hq9 (by decide) rd_fr re_fr
  show WW κ _ _ _ _ _ _ _ _ (.int (J k1) :: []) h9
  obtain ⟨m1, hp9, ⟨g3, m3⟩, ⟨g4, m4⟩⟩ := L.mid a x1 hO
  refine r_is6 dL_law_1613 rfl ?_
  refine r_al2 dL_law_1615 ?_
  refine r_al0 dL_law_1616 ?_
  refine r_il5 dL_law_1617 ?_
  refine r_iconst dL_law_1619 ?_
  refine r_iadd dL_law_1620 ?_
  refine r_scJ dL_law_1621 hp9 (by omega) (by omega) (by omega) ?_
  rw [m1]
  refine m_callR1 dL_law_1622 v_L_212 hA (c_layers κ hA hR hC hK (hf _)) (by decide) rfl (fun r2 M2 hm => ?_)
  obtain ⟨z7, z8, S', G', q', e1, I'⟩ : SIM κ B po h1 h9 k1 r2 M2 := (sim_ask (Rf := fun g => R_layers g (f (i + 1))) hB L.inv (by decide +kernel) (uq_layers hC.1) hkk (QFy.w (Rf := fun g => R_layers g (f (i + 1))) hm))
  have L' := L.fin a x1 hO e1 I'
  refine r_is7 dL_law_1625 rfl ?_
  refine r_al2 dL_law_1627 ?_
  refine m_callP0 dL_law_1628 v_L_130 hA (c_thrown κ _ hA I'.rg) (by decide) rfl ?_
  rw [z7]
  refine r_il6 dL_law_1631 ?_
  refine r_icmp_eq (tgt := 1638) dL_law_1633 (by decide) (by first | omega | decide) (by first | omega | decide) (fun c_1633 => ?_) (fun c_1633 => ?_)
  · refine r_il6 dL_law_1638 ?_
    refine r_if_ne (tgt := 1655) dL_law_1640 (by decide) (by first | omega | decide) (fun c_1640 => ?_) (fun c_1640 => ?_)
    · refine r_goto (tgt := 2007) dL_law_1655 (by decide) ?_
      exact KK _ _ _ _ _ _ _ _ _ _ (by omega) (by omega) L'
    · obtain ⟨f0, e9, hf0⟩ := z8 c_1640
      have hpo : mset A M2 h9 po = some (true, .inl (.long, 1, f0)) := by rw [mset_off (fun k hk => (a.2.2.2.2.1 k hk).1), e9]; exact upA_same
      refine r_al3 dL_law_1643 ?_
      refine r_iconst dL_law_1644 ?_
      refine r_lald dL_law_1645 hpo (by decide) (by decide) (by decide) hf0 ?_
      refine r_il7 dL_law_1646 ?_
      refine r_i2l dL_law_1648 ?_
      refine r_lcmp dL_law_1649 ?_
      rw [lcmp_self]
      refine r_if_eq (tgt := 1655) dL_law_1650 (by decide) (by first | omega | decide) (fun c_1650 => ?_) (fun c_1650 => ?_)
      · refine r_goto (tgt := 2007) dL_law_1655 (by decide) ?_
        exact KK _ _ _ _ _ _ _ _ _ _ (by omega) (by omega) L'
      · exact absurd rfl c_1650
  · exact absurd rfl c_1633
set_option maxRecDepth 100000 in
set_option maxHeartbeats 4000000 in
theorem k_why (κ : KP) {A B : Nat → Nat} {po pd ps n : Nat} {f : Int → Int} {H : AH} {S : CST} {M : MEM} {G : Nat → Int → Int} {q : Nat} (a : AD A B po pd) (L : LH κ A B po pd ps n f H S M G q) (hf : ∀ j, rng (f j)) (hn : n ≤ 2560) {i : Int} (i0 : 0 ≤ i) (i1 : i + 5 ≤ n) {k n9 : Nat} (hk : 400 ≤ k) (hn9 : 2000 ≤ n9) {Q : Option Value → AH → Prop} {v6 v7 v8 : Option Value} (KK : KKt κ A B po pd ps n f i k n9 Q) : WW κ mL_law 30 k n9 Q NoX 1658 [some (.ref ps), some (.ref (B 0)), some (.ref (A 30)), some (.ref po), some (.ref pd), some (.int (J i)), v6, v7, v8] [] H := by
  have hB := a.1
  have hA := a.2.1
  have hI := L.inv.cl
  have hH := L.inv.hk
  have hR := L.inv.rg
  have hC := L.inv.1.2.2.2
  have hK := L.inv.2.2.1.2
  have p5 := L.inv.2.2.2.1.2
  have n1 := hC.1.n.2.1
  have hp0 : LSc κ ps n f := L.2.2.2.2.1
  rw [L.1]
  refine r_al1 dL_law_1658 ?_
  refine r_al0 dL_law_1659 ?_
  refine r_il5 dL_law_1660 ?_
  refine r_iconst dL_law_1662 ?_
  refine r_iadd dL_law_1663 ?_
  refine r_scJ dL_law_1664 hp0 (by omega) (by omega) (by omega) ?_
  refine r_al0 dL_law_1665 ?_
  refine r_il5 dL_law_1666 ?_
  refine r_iconst dL_law_1668 ?_
  refine r_iadd dL_law_1669 ?_
  refine r_scJ dL_law_1670 hp0 (by omega) (by omega) (by omega) ?_
  refine r_al0 dL_law_1671 ?_
  refine r_il5 dL_law_1672 ?_
  refine r_iconst dL_law_1674 ?_
  refine r_iadd dL_law_1675 ?_
  refine r_scJ dL_law_1676 hp0 (by omega) (by omega) (by omega) ?_
  refine r_al3 dL_law_1677 ?_
  refine r_callSX (As := [.ref (B 0), .int (J (f (i + 1))), .int (J (f (i + 2))), .int (J (f (i + 3))), .ref po]) dL_law_1678 s_L_213 (h_why κ (cs_obj hB (k9 := 0) (by decide) rfl) (x_why κ H hB hI (hf _) (hf _) (hf _)) (out_Q a L rd_fr (fun v h9 hq => by obtain ⟨r, e, -⟩ := hq; exact ⟨r, e⟩)) re_3) (by decide) rfl rfl (cat_le rfl) (by omega) (by omega) (fun v h9 hq9 => ?_)
  obtain ⟨k1, h1, rfl, kb, x1, hO, hkk⟩ := HQ.out (H0 := cset B S H) (pd := pd) hq9 (by decide) rd_fr re_fr
  show WW κ _ _ _ _ _ _ _ _ (.int (J k1) :: []) h9
  obtain ⟨m1, hp9, ⟨g3, m3⟩, ⟨g4, m4⟩⟩ := L.mid a x1 hO
  refine r_is6 dL_law_1681 rfl ?_
  refine r_al2 dL_law_1683 ?_
  refine r_al0 dL_law_1684 ?_
  refine r_il5 dL_law_1685 ?_
  refine r_iconst dL_law_1687 ?_
  refine r_iadd dL_law_1688 ?_
  refine r_scJ dL_law_1689 hp9 (by omega) (by omega) (by omega) ?_
  refine r_al0 dL_law_1690 ?_
  refine r_il5 dL_law_1691 ?_
  refine r_iconst dL_law_1693 ?_
  refine r_iadd dL_law_1694 ?_
  refine r_scJ dL_law_1695 hp9 (by omega) (by omega) (by omega) ?_
  refine r_al0 dL_law_1696 ?_
  refine r_il5 dL_law_1697 ?_
  refine r_iconst dL_law_1699 ?_
  refine r_iadd dL_law_1700 ?_
  refine r_scJ dL_law_1701 hp9 (by omega) (by omega) (by omega) ?_
  rw [m1]
  refine m_callR3 dL_law_1702 v_L_216 hA (c_why κ hA hR hC hK (hf _) (hf _) (hf _)) (by decide) rfl (fun r2 M2 hm => ?_)
  obtain ⟨z7, z8, S', G', q', e1, I'⟩ : SIM κ B po h1 h9 k1 r2 M2 := (sim_ask (Rf := fun g => R_why g (f (i + 1)) (f (i + 2)) (f (i + 3))) hB L.inv (by decide +kernel) (uq_why hC.1) hkk (QFy.w (Rf := fun g => R_why g (f (i + 1)) (f (i + 2)) (f (i + 3))) hm))
  have L' := L.fin a x1 hO e1 I'
  refine r_is7 dL_law_1705 rfl ?_
  refine r_al2 dL_law_1707 ?_
  refine m_callP0 dL_law_1708 v_L_130 hA (c_thrown κ _ hA I'.rg) (by decide) rfl ?_
  rw [z7]
  refine r_il6 dL_law_1711 ?_
  refine r_icmp_eq (tgt := 1718) dL_law_1713 (by decide) (by first | omega | decide) (by first | omega | decide) (fun c_1713 => ?_) (fun c_1713 => ?_)
  · refine r_il6 dL_law_1718 ?_
    refine r_if_ne (tgt := 1735) dL_law_1720 (by decide) (by first | omega | decide) (fun c_1720 => ?_) (fun c_1720 => ?_)
    · refine r_goto (tgt := 2007) dL_law_1735 (by decide) ?_
      exact KK _ _ _ _ _ _ _ _ _ _ (by omega) (by omega) L'
    · obtain ⟨f0, e9, hf0⟩ := z8 c_1720
      have hpo : mset A M2 h9 po = some (true, .inl (.long, 1, f0)) := by rw [mset_off (fun k hk => (a.2.2.2.2.1 k hk).1), e9]; exact upA_same
      refine r_al3 dL_law_1723 ?_
      refine r_iconst dL_law_1724 ?_
      refine r_lald dL_law_1725 hpo (by decide) (by decide) (by decide) hf0 ?_
      refine r_il7 dL_law_1726 ?_
      refine r_i2l dL_law_1728 ?_
      refine r_lcmp dL_law_1729 ?_
      rw [lcmp_self]
      refine r_if_eq (tgt := 1735) dL_law_1730 (by decide) (by first | omega | decide) (fun c_1730 => ?_) (fun c_1730 => ?_)
      · refine r_goto (tgt := 2007) dL_law_1735 (by decide) ?_
        exact KK _ _ _ _ _ _ _ _ _ _ (by omega) (by omega) L'
      · exact absurd rfl c_1730
  · exact absurd rfl c_1713
set_option maxRecDepth 100000 in
set_option maxHeartbeats 4000000 in
theorem k_pass (κ : KP) {A B : Nat → Nat} {po pd ps n : Nat} {f : Int → Int} {H : AH} {S : CST} {M : MEM} {G : Nat → Int → Int} {q : Nat} (a : AD A B po pd) (L : LH κ A B po pd ps n f H S M G q) (hf : ∀ j, rng (f j)) (hn : n ≤ 2560) {i : Int} (i0 : 0 ≤ i) (i1 : i + 5 ≤ n) {k n9 : Nat} (hk : 400 ≤ k) (hn9 : 2000 ≤ n9) {Q : Option Value → AH → Prop} {v6 v7 v8 : Option Value} (KK : KKt κ A B po pd ps n f i k n9 Q) : WW κ mL_law 30 k n9 Q NoX 1738 [some (.ref ps), some (.ref (B 0)), some (.ref (A 30)), some (.ref po), some (.ref pd), some (.int (J i)), v6, v7, v8] [] H := by
  have hB := a.1
  have hA := a.2.1
  have hI := L.inv.cl
  have hH := L.inv.hk
  have hR := L.inv.rg
  have hC := L.inv.1.2.2.2
  have hK := L.inv.2.2.1.2
  have p5 := L.inv.2.2.2.1.2
  have n1 := hC.1.n.2.1
  have hp0 : LSc κ ps n f := L.2.2.2.2.1
  rw [L.1]
  refine r_al1 dL_law_1738 ?_
  refine r_al0 dL_law_1739 ?_
  refine r_il5 dL_law_1740 ?_
  refine r_iconst dL_law_1742 ?_
  refine r_iadd dL_law_1743 ?_
  refine r_scJ dL_law_1744 hp0 (by omega) (by omega) (by omega) ?_
  refine r_al3 dL_law_1745 ?_
  refine r_callSX (As := [.ref (B 0), .int (J (f (i + 1))), .ref po]) dL_law_1746 s_L_217 (h_pass κ (cs_obj hB (k9 := 0) (by decide) rfl) (x_pass κ H hB hI hH (hf _)) (out_Q a L (fun v h9 hq => by obtain ⟨r, -, -, -, hP⟩ := hq; exact cp_fr hP) (fun v h9 hq => by obtain ⟨r, e, -⟩ := hq; exact ⟨r, e⟩)) (fun X h9 hE => hE.1)) (by decide) rfl rfl (cat_le rfl) (by omega) (by omega) (fun v h9 hq9 => ?_)
  obtain ⟨k1, h1, rfl, kb, x1, hO, hkk⟩ := HQ.out (H0 := cset B S H) (pd := pd) hq9 (by decide) (fun v h9 hq => by obtain ⟨r, -, -, -, hP⟩ := hq; exact cp_fr hP) (fun X h9 hE => by obtain ⟨-, -, e⟩ := hE; rw [e]; exact Fr.cs)
  show WW κ _ _ _ _ _ _ _ _ (.int (J k1) :: []) h9
  obtain ⟨m1, hp9, ⟨g3, m3⟩, ⟨g4, m4⟩⟩ := L.mid a x1 hO
  refine r_is6 dL_law_1749 rfl ?_
  refine r_al2 dL_law_1751 ?_
  refine r_al0 dL_law_1752 ?_
  refine r_il5 dL_law_1753 ?_
  refine r_iconst dL_law_1755 ?_
  refine r_iadd dL_law_1756 ?_
  refine r_scJ dL_law_1757 hp9 (by omega) (by omega) (by omega) ?_
  rw [m1]
  refine m_callR1 dL_law_1758 v_L_219 hA (c_pass κ hA hR hC.1 p5.1 p5.2 (hf _)) (by decide) rfl (fun r2 M2 hm => ?_)
  obtain ⟨z7, z8, S', G', q', e1, I'⟩ : SIM κ B po h1 h9 k1 r2 M2 := (sim_pass hB L.inv hkk hm)
  have L' := L.fin a x1 hO e1 I'
  refine r_is7 dL_law_1761 rfl ?_
  refine r_al2 dL_law_1763 ?_
  refine m_callP0 dL_law_1764 v_L_130 hA (c_thrown κ _ hA I'.rg) (by decide) rfl ?_
  rw [z7]
  refine r_il6 dL_law_1767 ?_
  refine r_icmp_eq (tgt := 1774) dL_law_1769 (by decide) (by first | omega | decide) (by first | omega | decide) (fun c_1769 => ?_) (fun c_1769 => ?_)
  · refine r_il6 dL_law_1774 ?_
    refine r_if_ne (tgt := 1791) dL_law_1776 (by decide) (by first | omega | decide) (fun c_1776 => ?_) (fun c_1776 => ?_)
    · refine r_goto (tgt := 2007) dL_law_1791 (by decide) ?_
      exact KK _ _ _ _ _ _ _ _ _ _ (by omega) (by omega) L'
    · obtain ⟨f0, e9, hf0⟩ := z8 c_1776
      have hpo : mset A M2 h9 po = some (true, .inl (.long, 1, f0)) := by rw [mset_off (fun k hk => (a.2.2.2.2.1 k hk).1), e9]; exact upA_same
      refine r_al3 dL_law_1779 ?_
      refine r_iconst dL_law_1780 ?_
      refine r_lald dL_law_1781 hpo (by decide) (by decide) (by decide) hf0 ?_
      refine r_il7 dL_law_1782 ?_
      refine r_i2l dL_law_1784 ?_
      refine r_lcmp dL_law_1785 ?_
      rw [lcmp_self]
      refine r_if_eq (tgt := 1791) dL_law_1786 (by decide) (by first | omega | decide) (fun c_1786 => ?_) (fun c_1786 => ?_)
      · refine r_goto (tgt := 2007) dL_law_1791 (by decide) ?_
        exact KK _ _ _ _ _ _ _ _ _ _ (by omega) (by omega) L'
      · exact absurd rfl c_1786
  · exact absurd rfl c_1769
set_option maxRecDepth 100000 in
set_option maxHeartbeats 4000000 in
theorem k_year (κ : KP) {A B : Nat → Nat} {po pd ps n : Nat} {f : Int → Int} {H : AH} {S : CST} {M : MEM} {G : Nat → Int → Int} {q : Nat} (a : AD A B po pd) (L : LH κ A B po pd ps n f H S M G q) (hf : ∀ j, rng (f j)) (hn : n ≤ 2560) {i : Int} (i0 : 0 ≤ i) (i1 : i + 5 ≤ n) {k n9 : Nat} (hk : 400 ≤ k) (hn9 : 2000 ≤ n9) {Q : Option Value → AH → Prop} {v6 v7 v8 : Option Value} (KK : KKt κ A B po pd ps n f i k n9 Q) : WW κ mL_law 30 k n9 Q NoX 1794 [some (.ref ps), some (.ref (B 0)), some (.ref (A 30)), some (.ref po), some (.ref pd), some (.int (J i)), v6, v7, v8] [] H := by
  have hB := a.1
  have hA := a.2.1
  have hI := L.inv.cl
  have hH := L.inv.hk
  have hR := L.inv.rg
  have hC := L.inv.1.2.2.2
  have hK := L.inv.2.2.1.2
  have p5 := L.inv.2.2.2.1.2
  have n1 := hC.1.n.2.1
  have hp0 : LSc κ ps n f := L.2.2.2.2.1
  rw [L.1]
  refine r_al1 dL_law_1794 ?_
  refine r_callV (As := []) dL_law_1795 v_L_220 (cs_obj hB (k9 := 0) (by decide) rfl) (x_year κ H hB hI) (by decide) rfl rfl (cat_le rfl) (by omega) (by omega) (fun v h9 hq9 => ?_) (fun X h9 hE => (re_0 X h9 hE).elim)
  have x1 := rd_fr _ _ hq9
  obtain ⟨r1, rfl, hr, hP⟩ := hq9
  show WW κ _ _ _ _ _ _ _ _ (.int (J r1) :: []) h9
  obtain ⟨m1, hp9, ⟨g3, m3⟩, ⟨g4, m4⟩⟩ := L.mid a x1 (Or.inl rfl)
  refine r_al2 dL_law_1798 ?_
  rw [m1]
  refine m_callR0 dL_law_1799 v_L_223 hA (c_year κ hA hR) (by decide) rfl (fun r2 M2 hm => ?_)
  obtain rfl : r1 = r2 := hr.2.trans ((congrFun L.inv.1.2.2.1 0).trans hm.1.symm)
  have rr : rng r1 := by rw [hm.1]; exact hR 0 0
  obtain ⟨S', G', e1, I'⟩ := L.inv.ask hB hP (M' := M2) (by rw [show M2 = updm M 30 7 0 from hm.2]; exact MQs.thr hR hK (by decide))
  have L' := L.fin a x1 (Or.inl rfl) e1 I'
  refine r_icmp_eq (tgt := 2007) dL_law_1802 (by decide) (by exact rr) (by exact rr) (fun c_1802 => ?_) (fun c_1802 => ?_)
  · exact KK _ _ _ _ _ _ _ _ _ _ (by omega) (by omega) L'
  · exact absurd rfl c_1802
set_option maxRecDepth 100000 in
set_option maxHeartbeats 4000000 in
theorem k_account (κ : KP) {A B : Nat → Nat} {po pd ps n : Nat} {f : Int → Int} {H : AH} {S : CST} {M : MEM} {G : Nat → Int → Int} {q : Nat} (a : AD A B po pd) (L : LH κ A B po pd ps n f H S M G q) (hf : ∀ j, rng (f j)) (hn : n ≤ 2560) {i : Int} (i0 : 0 ≤ i) (i1 : i + 5 ≤ n) {k n9 : Nat} (hk : 400 ≤ k) (hn9 : 2000 ≤ n9) {Q : Option Value → AH → Prop} {v6 v7 v8 : Option Value} (KK : KKt κ A B po pd ps n f i k n9 Q) : WW κ mL_law 30 k n9 Q NoX 1807 [some (.ref ps), some (.ref (B 0)), some (.ref (A 30)), some (.ref po), some (.ref pd), some (.int (J i)), v6, v7, v8] [] H := by
  have hB := a.1
  have hA := a.2.1
  have hI := L.inv.cl
  have hH := L.inv.hk
  have hR := L.inv.rg
  have hC := L.inv.1.2.2.2
  have hK := L.inv.2.2.1.2
  have p5 := L.inv.2.2.2.1.2
  have n1 := hC.1.n.2.1
  have hp0 : LSc κ ps n f := L.2.2.2.2.1
  rw [L.1]
  refine r_al1 dL_law_1807 ?_
  refine r_al0 dL_law_1808 ?_
  refine r_il5 dL_law_1809 ?_
  refine r_iconst dL_law_1811 ?_
  refine r_iadd dL_law_1812 ?_
  refine r_scJ dL_law_1813 hp0 (by omega) (by omega) (by omega) ?_
  refine r_al3 dL_law_1814 ?_
  refine r_callSX (As := [.ref (B 0), .int (J (f (i + 1))), .ref po]) dL_law_1815 s_L_224 (h_account κ (cs_obj hB (k9 := 0) (by decide) rfl) (x_account κ H hB hI (hf _)) (out_Q a L rd_fr (fun v h9 hq => by obtain ⟨r, e, -⟩ := hq; exact ⟨r, e⟩)) re_1) (by decide) rfl rfl (cat_le rfl) (by omega) (by omega) (fun v h9 hq9 => ?_)
  obtain ⟨k1, h1, rfl, kb, x1, hO, hkk⟩ := HQ.out (H0 := cset B S H) (pd := pd) hq9 (by decide) rd_fr re_fr
  show WW κ _ _ _ _ _ _ _ _ (.int (J k1) :: []) h9
  obtain ⟨m1, hp9, ⟨g3, m3⟩, ⟨g4, m4⟩⟩ := L.mid a x1 hO
  refine r_is6 dL_law_1818 rfl ?_
  refine r_al2 dL_law_1820 ?_
  refine r_al0 dL_law_1821 ?_
  refine r_il5 dL_law_1822 ?_
  refine r_iconst dL_law_1824 ?_
  refine r_iadd dL_law_1825 ?_
  refine r_scJ dL_law_1826 hp9 (by omega) (by omega) (by omega) ?_
  rw [m1]
  refine m_callR1 dL_law_1827 v_L_226 hA (c_account κ hA hR hC hK (hf _)) (by decide) rfl (fun r2 M2 hm => ?_)
  obtain ⟨z7, z8, S', G', q', e1, I'⟩ : SIM κ B po h1 h9 k1 r2 M2 := (sim_ask (Rf := fun g => R_account g (f (i + 1))) hB L.inv (by decide +kernel) (uq_account hC.1) hkk (QFx.w (Rf := fun g => R_account g (f (i + 1))) hm))
  have L' := L.fin a x1 hO e1 I'
  refine r_is7 dL_law_1830 rfl ?_
  refine r_al2 dL_law_1832 ?_
  refine m_callP0 dL_law_1833 v_L_130 hA (c_thrown κ _ hA I'.rg) (by decide) rfl ?_
  rw [z7]
  refine r_il6 dL_law_1836 ?_
  refine r_icmp_eq (tgt := 1843) dL_law_1838 (by decide) (by first | omega | decide) (by first | omega | decide) (fun c_1838 => ?_) (fun c_1838 => ?_)
  · refine r_il6 dL_law_1843 ?_
    refine r_if_ne (tgt := 1860) dL_law_1845 (by decide) (by first | omega | decide) (fun c_1845 => ?_) (fun c_1845 => ?_)
    · refine r_goto (tgt := 2007) dL_law_1860 (by decide) ?_
      exact KK _ _ _ _ _ _ _ _ _ _ (by omega) (by omega) L'
    · obtain ⟨f0, e9, hf0⟩ := z8 c_1845
      have hpo : mset A M2 h9 po = some (true, .inl (.long, 1, f0)) := by rw [mset_off (fun k hk => (a.2.2.2.2.1 k hk).1), e9]; exact upA_same
      refine r_al3 dL_law_1848 ?_
      refine r_iconst dL_law_1849 ?_
      refine r_lald dL_law_1850 hpo (by decide) (by decide) (by decide) hf0 ?_
      refine r_il7 dL_law_1851 ?_
      refine r_i2l dL_law_1853 ?_
      refine r_lcmp dL_law_1854 ?_
      rw [lcmp_self]
      refine r_if_eq (tgt := 1860) dL_law_1855 (by decide) (by first | omega | decide) (fun c_1855 => ?_) (fun c_1855 => ?_)
      · refine r_goto (tgt := 2007) dL_law_1860 (by decide) ?_
        exact KK _ _ _ _ _ _ _ _ _ _ (by omega) (by omega) L'
      · exact absurd rfl c_1855
  · exact absurd rfl c_1838
set_option maxRecDepth 100000 in
set_option maxHeartbeats 4000000 in
theorem k_meanGrade (κ : KP) {A B : Nat → Nat} {po pd ps n : Nat} {f : Int → Int} {H : AH} {S : CST} {M : MEM} {G : Nat → Int → Int} {q : Nat} (a : AD A B po pd) (L : LH κ A B po pd ps n f H S M G q) (hf : ∀ j, rng (f j)) (hn : n ≤ 2560) {i : Int} (i0 : 0 ≤ i) (i1 : i + 5 ≤ n) {k n9 : Nat} (hk : 400 ≤ k) (hn9 : 2000 ≤ n9) {Q : Option Value → AH → Prop} {v6 v7 v8 : Option Value} (KK : KKt κ A B po pd ps n f i k n9 Q) : WW κ mL_law 30 k n9 Q NoX 1863 [some (.ref ps), some (.ref (B 0)), some (.ref (A 30)), some (.ref po), some (.ref pd), some (.int (J i)), v6, v7, v8] [] H := by
  have hB := a.1
  have hA := a.2.1
  have hI := L.inv.cl
  have hH := L.inv.hk
  have hR := L.inv.rg
  have hC := L.inv.1.2.2.2
  have hK := L.inv.2.2.1.2
  have p5 := L.inv.2.2.2.1.2
  have n1 := hC.1.n.2.1
  have hp0 : LSc κ ps n f := L.2.2.2.2.1
  rw [L.1]
  refine r_al1 dL_law_1863 ?_
  refine r_al4 dL_law_1864 ?_
  refine r_callSX (As := [.ref (B 0), .ref pd]) dL_law_1866 s_L_227 (h_meanGrade κ (cs_obj hB (k9 := 0) (by decide) rfl) (x_mean κ H hB hI) (out_D a L (fun v h9 hq => by obtain ⟨x, -, -, hP⟩ := hq; exact rp_fr hP) (fun v h9 hq => by obtain ⟨x, e, -⟩ := hq; exact ⟨x, e⟩)) (fun X h9 hE => hE.1)) (by decide) rfl rfl (cat_le rfl) (by omega) (by omega) (fun v h9 hq9 => ?_)
  obtain ⟨k1, h1, rfl, kb, x1, hO, hkk⟩ := HD2.out (H0 := cset B S H) (po := po) hq9 (by decide) (fun v h9 hq => by obtain ⟨x, -, -, hP⟩ := hq; exact rp_fr hP) (fun X h9 hE => rp_fr hE.2.2)
  show WW κ _ _ _ _ _ _ _ _ (.int (J k1) :: []) h9
  obtain ⟨m1, hp9, ⟨g3, m3⟩, ⟨g4, m4⟩⟩ := L.mid a x1 hO
  refine r_is6 dL_law_1869 rfl ?_
  refine r_al2 dL_law_1871 ?_
  rw [m1]
  refine r_callV (As := []) dL_law_1872 v_L_230 (mset_obj hA) (c_mean κ h9 hA hR hC hK) (by decide) rfl rfl (cat_le rfl) (Nat.zero_le _) (Nat.zero_le _) (fun v h8 hq8 => ?_) (fun _ _ hx => hx.elim)
  obtain ⟨x2, M2, rfl, rfl, hm⟩ := hq8
  show WW κ _ _ _ _ _ _ _ _ (.double x2 :: []) _
  obtain ⟨z7, z8, S', G', q', e1, I'⟩ := sim_mean hB L.inv hkk hm
  have L' := L.fin a x1 hO e1 I'
  refine r_ds7 dL_law_1875 rfl ?_
  refine r_al2 dL_law_1877 ?_
  refine m_callP0 dL_law_1878 v_L_130 hA (c_thrown κ _ hA I'.rg) (by decide) rfl ?_
  rw [z7]
  refine r_il6 dL_law_1881 ?_
  refine r_icmp_eq (tgt := 1888) dL_law_1883 (by decide) (by omega) (by omega) (fun c_1883 => ?_) (fun c_1883 => ?_)
  · refine r_il6 dL_law_1888 ?_
    refine r_if_ne (tgt := 1925) dL_law_1890 (by decide) (by omega) (fun c_1890 => ?_) (fun c_1890 => ?_)
    · refine r_goto (tgt := 2007) dL_law_1925 (by decide) ?_
      exact KK _ _ _ _ _ _ _ _ _ _ (by omega) (by omega) L'
    · obtain ⟨f0, e9, hf0⟩ := z8 c_1890
      have hpo : mset A M2 h9 pd = some (true, .inl (.double, 1, f0)) := by rw [mset_off (fun k hk => (a.2.2.2.2.1 k hk).2), e9]; exact upA_same
      refine r_al4 dL_law_1893 ?_
      refine r_iconst dL_law_1895 ?_
      refine r_dald dL_law_1896 hpo (by decide) (by decide) (by decide) hf0 ?_
      refine r_dl7 dL_law_1897 ?_
      refine r_dcmp dL_law_1899 ?_
      rcases dc_self x2 with hd | hd
      · rw [hd]
        show WW κ _ _ _ _ _ _ _ _ (.int (J (-1)) :: []) _
        refine r_if_eq (tgt := 1925) dL_law_1900 (by decide) (by decide) (fun c_1900 => ?_) (fun c_1900 => ?_)
        · exact absurd c_1900 (by decide)
        · refine r_al4 dL_law_1903 ?_
          refine r_iconst dL_law_1905 ?_
          refine r_dald dL_law_1906 hpo (by decide) (by decide) (by decide) hf0 ?_
          refine r_al4 dL_law_1907 ?_
          refine r_iconst dL_law_1909 ?_
          refine r_dald dL_law_1910 hpo (by decide) (by decide) (by decide) hf0 ?_
          refine r_dcmp dL_law_1911 ?_
          rw [hd]
          show WW κ _ _ _ _ _ _ _ _ (.int (J (-1)) :: []) _
          refine r_if_eq (tgt := 1923) dL_law_1912 (by decide) (by decide) (fun c_1912 => ?_) (fun c_1912 => ?_)
          · exact absurd c_1912 (by decide)
          · refine r_dl7 dL_law_1915 ?_
            refine r_dl7 dL_law_1917 ?_
            refine r_dcmp dL_law_1919 ?_
            rw [hd]
            show WW κ _ _ _ _ _ _ _ _ (.int (J (-1)) :: []) _
            refine r_if_ne (tgt := 1925) dL_law_1920 (by decide) (by decide) (fun c_1920 => ?_) (fun c_1920 => ?_)
            · refine r_goto (tgt := 2007) dL_law_1925 (by decide) ?_
              exact KK _ _ _ _ _ _ _ _ _ _ (by omega) (by omega) L'
            · exact absurd c_1920 (by decide)
      · rw [hd]
        show WW κ _ _ _ _ _ _ _ _ (.int (J 0) :: []) _
        refine r_if_eq (tgt := 1925) dL_law_1900 (by decide) (by decide) (fun c_1900 => ?_) (fun c_1900 => ?_)
        · refine r_goto (tgt := 2007) dL_law_1925 (by decide) ?_
          exact KK _ _ _ _ _ _ _ _ _ _ (by omega) (by omega) L'
        · exact absurd rfl c_1900
  · exact absurd rfl c_1883
set_option maxRecDepth 100000 in
set_option maxHeartbeats 4000000 in
theorem k_undo (κ : KP) {A B : Nat → Nat} {po pd ps n : Nat} {f : Int → Int} {H : AH} {S : CST} {M : MEM} {G : Nat → Int → Int} {q : Nat} (a : AD A B po pd) (L : LH κ A B po pd ps n f H S M G q) (hf : ∀ j, rng (f j)) (hn : n ≤ 2560) {i : Int} (i0 : 0 ≤ i) (i1 : i + 5 ≤ n) {k n9 : Nat} (hk : 400 ≤ k) (hn9 : 2000 ≤ n9) {Q : Option Value → AH → Prop} {v6 v7 v8 : Option Value} (KK : KKt κ A B po pd ps n f i k n9 Q) : WW κ mL_law 30 k n9 Q NoX 1928 [some (.ref ps), some (.ref (B 0)), some (.ref (A 30)), some (.ref po), some (.ref pd), some (.int (J i)), v6, v7, v8] [] H := by
  have hB := a.1
  have hA := a.2.1
  have hI := L.inv.cl
  have hH := L.inv.hk
  have hR := L.inv.rg
  have hC := L.inv.1.2.2.2
  have hK := L.inv.2.2.1.2
  have p5 := L.inv.2.2.2.1.2
  have n1 := hC.1.n.2.1
  have hp0 : LSc κ ps n f := L.2.2.2.2.1
  rw [L.1]
  refine r_al1 dL_law_1928 ?_
  refine r_al3 dL_law_1929 ?_
  refine r_callSX (As := [.ref (B 0), .ref po]) dL_law_1930 s_L_231 (h_undo κ (cs_obj hB (k9 := 0) (by decide) rfl) (x_undo κ H hB hI hH) (out_Q a L (fun v h9 hq => by obtain ⟨r, -, -, -, q1, -, e⟩ := hq; rw [e]; exact Fr.cs) (fun v h9 hq => by obtain ⟨r, e, -⟩ := hq; exact ⟨r, e⟩)) (fun X h9 hE => hE.1)) (by decide) rfl rfl (cat_le rfl) (by omega) (by omega) (fun v h9 hq9 => ?_)
  obtain ⟨k1, h1, rfl, kb, x1, hO, hkk⟩ := HQ.out (H0 := cset B S H) (pd := pd) hq9 (by decide) (fun v h9 hq => by obtain ⟨r, -, -, -, q1, -, e⟩ := hq; rw [e]; exact Fr.cs) (fun X h9 hE => by obtain ⟨-, -, e⟩ := hE; rw [e]; exact Fr.cs)
  show WW κ _ _ _ _ _ _ _ _ (.int (J k1) :: []) h9
  obtain ⟨m1, hp9, ⟨g3, m3⟩, ⟨g4, m4⟩⟩ := L.mid a x1 hO
  refine r_is6 dL_law_1933 rfl ?_
  refine r_al2 dL_law_1935 ?_
  rw [m1]
  refine m_callR0 dL_law_1936 v_L_233 hA (c_undo κ hA hR p5.1 p5.2) (by decide) rfl (fun r2 M2 hm => ?_)
  obtain ⟨z7, z8, S', G', q', e1, I'⟩ : SIM κ B po h1 h9 k1 r2 M2 := (sim_undo hB L.inv hkk hm)
  have L' := L.fin a x1 hO e1 I'
  refine r_is7 dL_law_1939 rfl ?_
  refine r_al2 dL_law_1941 ?_
  refine m_callP0 dL_law_1942 v_L_130 hA (c_thrown κ _ hA I'.rg) (by decide) rfl ?_
  rw [z7]
  refine r_il6 dL_law_1945 ?_
  refine r_icmp_eq (tgt := 1952) dL_law_1947 (by decide) (by first | omega | decide) (by first | omega | decide) (fun c_1947 => ?_) (fun c_1947 => ?_)
  · refine r_il6 dL_law_1952 ?_
    refine r_if_ne (tgt := 1969) dL_law_1954 (by decide) (by first | omega | decide) (fun c_1954 => ?_) (fun c_1954 => ?_)
    · refine r_goto (tgt := 2007) dL_law_1969 (by decide) ?_
      exact KK _ _ _ _ _ _ _ _ _ _ (by omega) (by omega) L'
    · obtain ⟨f0, e9, hf0⟩ := z8 c_1954
      have hpo : mset A M2 h9 po = some (true, .inl (.long, 1, f0)) := by rw [mset_off (fun k hk => (a.2.2.2.2.1 k hk).1), e9]; exact upA_same
      refine r_al3 dL_law_1957 ?_
      refine r_iconst dL_law_1958 ?_
      refine r_lald dL_law_1959 hpo (by decide) (by decide) (by decide) hf0 ?_
      refine r_il7 dL_law_1960 ?_
      refine r_i2l dL_law_1962 ?_
      refine r_lcmp dL_law_1963 ?_
      rw [lcmp_self]
      refine r_if_eq (tgt := 1969) dL_law_1964 (by decide) (by first | omega | decide) (fun c_1964 => ?_) (fun c_1964 => ?_)
      · refine r_goto (tgt := 2007) dL_law_1969 (by decide) ?_
        exact KK _ _ _ _ _ _ _ _ _ _ (by omega) (by omega) L'
      · exact absurd rfl c_1964
  · exact absurd rfl c_1947
set_option maxRecDepth 100000 in
set_option maxHeartbeats 4000000 in
theorem k_save (κ : KP) {A B : Nat → Nat} {po pd ps n : Nat} {f : Int → Int} {H : AH} {S : CST} {M : MEM} {G : Nat → Int → Int} {q : Nat} (a : AD A B po pd) (L : LH κ A B po pd ps n f H S M G q) (hf : ∀ j, rng (f j)) (hn : n ≤ 2560) {i : Int} (i0 : 0 ≤ i) (i1 : i + 5 ≤ n) {k n9 : Nat} (hk : 400 ≤ k) (hn9 : 2000 ≤ n9) {Q : Option Value → AH → Prop} {v6 v7 v8 : Option Value} (KK : KKt κ A B po pd ps n f i k n9 Q) : WW κ mL_law 30 k n9 Q NoX 1972 [some (.ref ps), some (.ref (B 0)), some (.ref (A 30)), some (.ref po), some (.ref pd), some (.int (J i)), v6, v7, v8] [] H := by
  have hB := a.1
  have hA := a.2.1
  have hI := L.inv.cl
  have hH := L.inv.hk
  have hR := L.inv.rg
  have hC := L.inv.1.2.2.2
  have hK := L.inv.2.2.1.2
  have p5 := L.inv.2.2.2.1.2
  have n1 := hC.1.n.2.1
  have hp0 : LSc κ ps n f := L.2.2.2.2.1
  rw [L.1]
  refine r_al1 dL_law_1972 ?_
  refine r_callV (As := []) dL_law_1973 v_L_234 (cs_obj hB (k9 := 0) (by decide) rfl) (x_save κ H hB hI) (by decide) rfl rfl (cat_le rfl) (by omega) (by omega) (fun v h9 hq9 => ?_) (fun _ _ hx => hx.elim)
  obtain ⟨rfl, e9⟩ := hq9
  show WW κ _ _ _ _ _ _ _ _ [] h9
  have x1 : Fr B (cset B S H) h9 := by rw [e9]; exact Fr.cs
  obtain ⟨m1, hp9, ⟨g3, m3⟩, ⟨g4, m4⟩⟩ := L.mid a x1 (Or.inl rfl)
  refine r_al2 dL_law_1976 ?_
  rw [m1]
  refine m_callU0 dL_law_1977 v_L_237 hA (c_save κ hA hR) (by decide) rfl (fun M2 hm => ?_)
  have I' := L.inv.save hB hm
  rw [← e9] at I'
  have L' := L.fin a x1 (Or.inl rfl) (by rw [e9]; exact cset_cset.symm) I'
  refine r_goto (tgt := 2007) dL_law_1980 (by decide) ?_
  exact KK _ _ _ _ _ _ _ _ _ _ (by omega) (by omega) L'
set_option maxRecDepth 100000 in
set_option maxHeartbeats 4000000 in
theorem k_restore (κ : KP) {A B : Nat → Nat} {po pd ps n : Nat} {f : Int → Int} {H : AH} {S : CST} {M : MEM} {G : Nat → Int → Int} {q : Nat} (a : AD A B po pd) (L : LH κ A B po pd ps n f H S M G q) (hf : ∀ j, rng (f j)) (hn : n ≤ 2560) {i : Int} (i0 : 0 ≤ i) (i1 : i + 5 ≤ n) {k n9 : Nat} (hk : 400 ≤ k) (hn9 : 2000 ≤ n9) {Q : Option Value → AH → Prop} {v6 v7 v8 : Option Value} (KK : KKt κ A B po pd ps n f i k n9 Q) : WW κ mL_law 30 k n9 Q NoX 1983 [some (.ref ps), some (.ref (B 0)), some (.ref (A 30)), some (.ref po), some (.ref pd), some (.int (J i)), v6, v7, v8] [] H := by
  have hB := a.1
  have hA := a.2.1
  have hI := L.inv.cl
  have hH := L.inv.hk
  have hR := L.inv.rg
  have hC := L.inv.1.2.2.2
  have hK := L.inv.2.2.1.2
  have p5 := L.inv.2.2.2.1.2
  have n1 := hC.1.n.2.1
  have hp0 : LSc κ ps n f := L.2.2.2.2.1
  rw [L.1]
  have s3 : 0 ≤ M 30 3 ∧ M 30 3 ≤ 1 := by rcases L.inv.2.2.2.2.2.1 with ⟨-, z⟩ | ⟨z, -⟩ <;> omega
  refine r_al1 dL_law_1983 ?_
  refine r_callSX (As := [.ref (B 0)]) dL_law_1984 s_L_238 (rest_H κ a L) (by decide) rfl rfl (cat_le rfl) (by omega) (by omega) (fun v h9 hq9 => ?_)
  obtain ⟨k1, rfl, kb, x1, hkk⟩ := HV.out (H0 := cset B S H) hq9 (by decide) (fun v h9 hq => by obtain ⟨-, q1, -, e⟩ := hq; rw [e]; exact Fr.cs) (fun X h9 hE => by obtain ⟨-, -, e⟩ := hE; rw [e]; exact Fr.cs)
  show WW κ _ _ _ _ _ _ _ _ (.int (J k1) :: []) h9
  obtain ⟨m1, hp9, ⟨g3, m3⟩, ⟨g4, m4⟩⟩ := L.mid a x1 (Or.inl rfl)
  refine r_is6 dL_law_1987 rfl ?_
  refine r_al2 dL_law_1989 ?_
  rw [m1]
  refine m_callU0 dL_law_1990 v_L_241 hA (c_restore κ hA hR s3.1 s3.2) (by decide) rfl (fun M2 hm => ?_)
  obtain ⟨z7, S', G', q', e1, I'⟩ : SIMV κ B h9 k1 M2 := sim_rest hB L.inv hkk hm
  have L' := L.fin a x1 (Or.inl rfl) e1 I'
  refine r_al2 dL_law_1993 ?_
  refine m_callP0 dL_law_1994 v_L_130 hA (c_thrown κ _ hA I'.rg) (by decide) rfl ?_
  rw [z7]
  refine r_il6 dL_law_1997 ?_
  refine r_icmp_eq (tgt := 2004) dL_law_1999 (by decide) (by omega) (by omega) (fun c_1999 => ?_) (fun c_1999 => ?_)
  · refine r_goto (tgt := 2007) dL_law_2004 (by decide) ?_
    exact KK _ _ _ _ _ _ _ _ _ _ (by omega) (by omega) L'
  · exact absurd rfl c_1999
