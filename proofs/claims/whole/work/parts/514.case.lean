set_option maxHeartbeats 8000000 in
set_option maxRecDepth 100000 in
theorem lc_part {p : Program} {l : Launch} {e : Env} {s : State} {m : MethodId} {below : List Frame} {meth : Method} {c : Code} {b Lx : Nat} {xs : Nat → Int32} (hl0 : l.stackTraces = false) (hL : Lx ≤ 3072) (C0 : lw_At p s m meth c b Lx xs) {dC : Nat → ClassId} {dI : Nat → Nat → Nat} {cy : Nat → ClassId} {cL : ClassId} {sa : Nat → Nat} {t0 : Nat} {adh : Nat → Nat} {o1 o2 : Nat} (hK0 : LK dC dI cy cL sa t0 s) (hG : LG adh o1 o2 s.heap.size) {L : List Nat} {a b1 : Nat} {adm : Nat → Nat} (hM : LM adh o1 o2 t0 s.heap.size L a b1 adm) {I : MI} {D : MD} {J : MI} {E : MD} {f1 : Nat → Int64} {f2 : Nat → UInt64} {H : Heap} {locs : List Loc} (hY : LH dC dI cy cL adh o1 o2 L a b1 adm I D J E f1 f2 H) (hS : va_S (fun q => s.heap.size ≤ q) s.heap H locs) {c1 d1 h1 : Nat} (hR : RR 0 a b1 c1 d1 h1 I D J E) (hh : h1 + 48 < 2 ^ 20) {cells slots : Nat} (hc : cells + 207 ≤ 601024) (hs : slots + 1642 ≤ 7293034) {j : Nat} (hj : j + 6 ≤ Lx) {ls : Array Slot} (hl : lv_has ls 9 [(0, .ref b), (1, .ref (adh 0)), (2, .ref (adm 0)), (3, .ref o1), (4, .ref o2), (5, .int (nI j))]) {Q : State → Prop} (kk : ∀ (L' : List Nat) (a' b' : Nat) (adm' : Nat → Nat) (I' : MI) (D' : MD) (J' : MI) (E' : MD) (f1' : Nat → Int64) (f2' : Nat → UInt64) (H' : Heap) (locs' : List Loc) (c' d' h' : Nat) (ls' : Array Slot), LM adh o1 o2 t0 s.heap.size L' a' b' adm' → LH dC dI cy cL adh o1 o2 L' a' b' adm' I' D' J' E' f1' f2' H' → va_S (fun q => s.heap.size ≤ q) s.heap H' locs' → RR 0 a' b' c' d' h' I' D' J' E' → h' ≤ h1 + 48 → lv_has ls' 9 [(0, .ref b), (1, .ref (adh 0)), (2, .ref (adm' 0)), (3, .ref o1), (4, .ref o2), (5, .int (nI j))] → W p l e room_1 s m #[Value.ref b] below meth c H' locs' (cells + 207) (slots + 1642) Q (F0 m 2072 ls' [])) : W p l e room_1 s m #[Value.ref b] below meth c H locs cells slots Q (F0 m 1269 ls []) := by
  obtain ⟨hx, hb, hr, hml, hown0, hts0, hX, hbl, hlocks, -⟩ := C0
  have hown : s.vm.findClass RL = some m.cls := hown0
  have hts : ∀ w ∈ wsL_law, w.before #[Value.ref b] s = true := fun w h => hts0 w (wsL_law_in w h)
  obtain ⟨hK, hN, hI, hca, hcb, hao, hZ, hT, hzs, hts9⟩ := hK0
  have hKt : va_K (dC, dI) vwCl (tysA cy) s := hK.sub [0, 1, 2, 3, 4, 5, 6, 7] rfl
  have hbA : ¬ (fun q : Nat => s.heap.size ≤ q) b := Nat.not_le.mpr hbl
  have hi1 : vp_in (nI j + 1) Lx := vin_k hj hL 1 (by decide)
  have hi2 : vp_in (nI j + 2) Lx := vin_k hj hL 2 (by decide)
  obtain ⟨v, J9, E9, r0, w, hy, hJ0, hw, hvw, c2, d2, h2, hh2, hR2⟩ := agR_law (a_part hR (xs (nI j + 1).toNatClampNeg) (xs (nI j + 2).toNatClampNeg)) (by decide)
  refine lv_aload_n hx hb dL_law_1269 rfl (lv_at hl 1 rfl) ?_
  refine lv_aload_n hx hb dL_law_1270 rfl (lv_at hl 0 rfl) ?_
  refine lv_iload hx hb dL_law_1271 (lv_at hl 5 rfl) ?_
  refine lv_iconst (v := 1) hx hb dL_law_1273 (by decide) ?_
  refine lv_iadd hx hb dL_law_1274 ?_
  refine va_sld hx hb hX hbl hbA hS hi1 dL_law_1275 ?_
  refine lv_aload_n hx hb dL_law_1276 rfl (lv_at hl 0 rfl) ?_
  refine lv_iload hx hb dL_law_1277 (lv_at hl 5 rfl) ?_
  refine lv_iconst (v := 2) hx hb dL_law_1279 (by decide) ?_
  refine lv_iadd hx hb dL_law_1280 ?_
  refine va_sld hx hb hX hbl hbA hS hi2 dL_law_1281 ?_
  refine lv_aload hx hb dL_law_1282 (lv_at hl 4 rfl) ?_
  have hAO := AO_out (z := H.size) hG.2.2.2.2.2.2 hG.2.2.2.2.1 hS.1
  refine vx_calli (vx_runSX (As := [.ref (adh 0), .int (xs (nI j + 1).toNatClampNeg), .int (xs (nI j + 2).toNatClampNeg), .ref o2]) (rest := []) ⟨hx, hb, hml, hown, hts⟩ (wL_part l hl0 dC dI adh cy cL hG.1 sa o2 hG.2.2.1 H.size I D f2 (xs (nI j + 1).toNatClampNeg) (xs (nI j + 2).toNatClampNeg) r0 w hw) (vx_cwSW 4 hts gL_law_L_part rfl rfl rfl (by decide +kernel) ⟨Nat.le_of_ble_eq_true rfl, Nat.le_of_ble_eq_true rfl⟩) (hO.preX [.ref (adh 0), .int (xs (nI j + 1).toNatClampNeg), .int (xs (nI j + 2).toNatClampNeg), .ref o2] (va_Pcons hY.2.2.1 hY.1) hK hN (xS_kept (B := AO o2 adh H.size) hZ hS hAO) hT) rfl rfl hl.1 rfl (lv_room (Nat.le_of_ble_eq_true rfl)) dL_law_1284 ⟨by show cells + 1 ≤ 601024; omega, by show slots + 6 ≤ 7293034; omega⟩) hS (fun q _ h => hAO q h) hAO (fun q _ h => hAO q h) (fun E9 ce q9 u t H1 locs1 ht9 hvm hpu hBX hz1 hk1 hS h1 h2 h3 => hpu.elim) (fun r9 g1 t H1 locs ht9 hvm hw9 hB hz1 hk1 hS => ?_)
  rw [hw9.1]
  have hg := hw9.2
  have hY := lh_2 hY hG hM hk1 (by rw [← ht9]; exact hB)
  clear hw9 hB hz1 hk1 hvm ht9 hAO
  generalize H1 = H at hY hS ⊢
  refine lv_istore (lv' := [(6, .int r0), (0, .ref b), (1, .ref (adh 0)), (2, .ref (adm 0)), (3, .ref o1), (4, .ref o2), (5, .int (nI j))]) hx hb dL_law_1287 hl (by decide) rfl (fun ls hl => ?_)
  refine lv_aload_n hx hb dL_law_1289 rfl (lv_at hl 3 rfl) ?_
  refine lv_aload_n hx hb dL_law_1290 rfl (lv_at hl 1 rfl) ?_
  refine lv_iload hx hb dL_law_1291 (lv_at hl 6 rfl) ?_
  refine lv_iconst (v := 1) hx hb dL_law_1293 (by decide) ?_
  refine lv_iadd hx hb dL_law_1294 ?_
  refine va_sld hx hb hX hbl hbA hS hi1 dL_law_1295 ?_
  refine lv_aload_n hx hb dL_law_1296 rfl (lv_at hl 1 rfl) ?_
  refine lv_iload hx hb dL_law_1297 (lv_at hl 6 rfl) ?_
  refine lv_iconst (v := 2) hx hb dL_law_1299 (by decide) ?_
  refine lv_iadd hx hb dL_law_1300 ?_
  refine va_sld hx hb hX hbl hbA hS hi2 dL_law_1301 ?_
  obtain ⟨q0, hq0, hM0⟩ := heM_0 (cy := cy) (I := J) (D := E) hM.1
  have hAM := AM_out (z := H.size) (fun k hk => (hM.2.2.1 k hk).1) hS.1
  have hsz := hS.1
  refine va_calld (va_runV (As := [.int (xs (nI j + 1).toNatClampNeg), .int (xs (nI j + 2).toNatClampNeg)]) (rest := []) ⟨hx, hb, hml, hown, hts⟩ (mt_X7_part l dC dI L a b1 adm cy hM.1 H.size J E (xs (nI j + 1).toNatClampNeg) (xs (nI j + 2).toNatClampNeg) v J9 E9 hy) (cwV 2 hts gL_law_X7_part rfl rfl rfl (by decide +kernel) ⟨Nat.le_of_ble_eq_true rfl, Nat.le_of_ble_eq_true rfl⟩) ⟨(wM.pre [.ref (adm 0), .int (xs (nI j + 1).toNatClampNeg), .int (xs (nI j + 2).toNatClampNeg)] hY.2.2.2 hKt ⟨hN, hI⟩).1, wM.recv (C := RX7) (T := TX7) (N := 9) hY.2.2.2 hKt hM0 rfl, (wM.pre [.ref (adm 0), .int (xs (nI j + 1).toNatClampNeg), .int (xs (nI j + 2).toNatClampNeg)] hY.2.2.2 hKt ⟨hN, hI⟩).2⟩ rfl rfl hl.1 rfl (lv_room (Nat.le_of_ble_eq_true rfl)) dL_law_1302 ⟨by show cells + 1 + 0 ≤ 601024; omega, by show slots + 6 + 0 ≤ 7293034; omega⟩) hS (fun q _ h => hAM q h) hAM (fun r9 u t H1 locs ht hvm hw8 hB hz1 hk1 hS => ?_)
  subst hw8
  have hY := lh_M hY hM hk1 (by rw [← ht]; exact hB.1)
  clear hB hz1 hk1 hvm ht hAM hsz
  generalize H1 = H at hY hS ⊢
  refine lv_dstore (lv' := [(7, .double v), (6, .int r0), (0, .ref b), (1, .ref (adh 0)), (2, .ref (adm 0)), (3, .ref o1), (4, .ref o2), (5, .int (nI j))]) hx hb dL_law_1305 hl (by decide) rfl (fun ls hl => ?_)
  refine lv_aload_n hx hb dL_law_1307 rfl (lv_at hl 4 rfl) ?_
  obtain ⟨q2, hq2, hM2⟩ := heM_0 (cy := cy) (I := J9) (D := E9) hM.1
  refine va_calli (va_runV (As := []) (rest := []) ⟨hx, hb, hml, hown, hts⟩ (mt_X7_thrown l dC dI L a b1 adm cy hM.1 H.size J9 E9 (J9 0 0) rfl) (cwV 0 hts gL_law_X7_thrown rfl rfl rfl (by decide +kernel) ⟨Nat.le_of_ble_eq_true rfl, Nat.le_of_ble_eq_true rfl⟩) ⟨(wM.pre [.ref (adm 0)] hY.2.2.2 hKt ⟨hN, hI⟩).1, wM.recv (C := RX7) (T := TX7) (N := 9) hY.2.2.2 hKt hM2 rfl, (wM.pre [.ref (adm 0)] hY.2.2.2 hKt ⟨hN, hI⟩).2⟩ rfl rfl hl.1 rfl (lv_room (Nat.le_of_ble_eq_true rfl)) dL_law_1308 ⟨by show cells + 1 + 0 + 0 ≤ 601024; omega, by show slots + 6 + 0 + 0 ≤ 7293034; omega⟩) hS (fun q _ h => Nat.le_trans hS.1 h) (fun q h => Nat.le_trans hS.1 h) (fun r9 u t H1 locs ht hvm hw8 hB hz1 hk1 hS => ?_)
  subst hw8
  have hY := lh_new hY hk1
  clear hB hz1 hk1 hvm ht
  generalize H1 = H at hY hS ⊢
  refine lv_iload hx hb dL_law_1311 (lv_at hl 1 rfl) ?_
  refine lv_icmp_eq (tgt := 1318) hx hb dL_law_1313 (by decide) (fun _ => ?_) (fun c9 => absurd hJ0 c9)
  refine lv_iload hx hb dL_law_1318 (lv_at hl 1 rfl) ?_
  have fin : ∀ (ls : Array Slot), lv_has ls 9 [(7, .double v), (6, .int r0), (0, .ref b), (1, .ref (adh 0)), (2, .ref (adm 0)), (3, .ref o1), (4, .ref o2), (5, .int (nI j))] → W p l e room_1 s m #[Value.ref b] below meth c H locs (cells + 1 + 0 + 0) (slots + 6 + 0 + 0) Q (F0 m 1355 ls []) := fun ls hl => lv_goto (tgt := 2072) hx hb dL_law_1355 (by decide) (W.widen (k := cells + 207) (n := slots + 1642) (by omega) (by omega) (kk _ _ _ _ _ _ _ _ _ _ _ _ _ _ _ _ hM hY hS hR2 hh2 (lv_sub hl [2, 3, 4, 5, 6, 7] rfl)))
  refine lv_if_ne (tgt := 1355) hx hb dL_law_1320 (by decide) (fun _ => fin ls hl) (fun c2 => ?_)
  have hg1 := hg c2
  have hv1 := hvw c2
  refine lv_aload hx hb dL_law_1323 (lv_at hl 6 rfl) ?_
  refine lv_iconst (v := 0) hx hb dL_law_1325 (by decide) ?_
  refine va_dald hx hb hK hY.2.2.1 0 6 rfl rfl vin0 dL_law_1326 ?_
  refine lv_dload hx hb dL_law_1327 (lv_at hl 0 rfl) ?_
  refine lv_dcmp hx hb dL_law_1329 ?_
  have hq9 : g1 (0 : Int32).toNatClampNeg = v := hg1.trans hv1.1
  rw [hq9]
  exact lv_if_eq (tgt := 1355) hx hb dL_law_1330 (by decide) (fun _ => fin ls hl) (fun c9 => absurd (dcmp_self hv1.2 _) c9)

set_option maxHeartbeats 8000000 in
set_option maxRecDepth 100000 in
theorem lc_ice {p : Program} {l : Launch} {e : Env} {s : State} {m : MethodId} {below : List Frame} {meth : Method} {c : Code} {b Lx : Nat} {xs : Nat → Int32} (hl0 : l.stackTraces = false) (hL : Lx ≤ 3072) (C0 : lw_At p s m meth c b Lx xs) {dC : Nat → ClassId} {dI : Nat → Nat → Nat} {cy : Nat → ClassId} {cL : ClassId} {sa : Nat → Nat} {t0 : Nat} {adh : Nat → Nat} {o1 o2 : Nat} (hK0 : LK dC dI cy cL sa t0 s) (hG : LG adh o1 o2 s.heap.size) {L : List Nat} {a b1 : Nat} {adm : Nat → Nat} (hM : LM adh o1 o2 t0 s.heap.size L a b1 adm) {I : MI} {D : MD} {J : MI} {E : MD} {f1 : Nat → Int64} {f2 : Nat → UInt64} {H : Heap} {locs : List Loc} (hY : LH dC dI cy cL adh o1 o2 L a b1 adm I D J E f1 f2 H) (hS : va_S (fun q => s.heap.size ≤ q) s.heap H locs) {c1 d1 h1 : Nat} (hR : RR 0 a b1 c1 d1 h1 I D J E) (hh : h1 + 48 < 2 ^ 20) {cells slots : Nat} (hc : cells + 207 ≤ 601024) (hs : slots + 1642 ≤ 7293034) {j : Nat} (hj : j + 6 ≤ Lx) {ls : Array Slot} (hl : lv_has ls 9 [(0, .ref b), (1, .ref (adh 0)), (2, .ref (adm 0)), (3, .ref o1), (4, .ref o2), (5, .int (nI j))]) {Q : State → Prop} (kk : ∀ (L' : List Nat) (a' b' : Nat) (adm' : Nat → Nat) (I' : MI) (D' : MD) (J' : MI) (E' : MD) (f1' : Nat → Int64) (f2' : Nat → UInt64) (H' : Heap) (locs' : List Loc) (c' d' h' : Nat) (ls' : Array Slot), LM adh o1 o2 t0 s.heap.size L' a' b' adm' → LH dC dI cy cL adh o1 o2 L' a' b' adm' I' D' J' E' f1' f2' H' → va_S (fun q => s.heap.size ≤ q) s.heap H' locs' → RR 0 a' b' c' d' h' I' D' J' E' → h' ≤ h1 + 48 → lv_has ls' 9 [(0, .ref b), (1, .ref (adh 0)), (2, .ref (adm' 0)), (3, .ref o1), (4, .ref o2), (5, .int (nI j))] → W p l e room_1 s m #[Value.ref b] below meth c H' locs' (cells + 207) (slots + 1642) Q (F0 m 2072 ls' [])) : W p l e room_1 s m #[Value.ref b] below meth c H locs cells slots Q (F0 m 1358 ls []) := by
  obtain ⟨hx, hb, hr, hml, hown0, hts0, hX, hbl, hlocks, -⟩ := C0
  have hown : s.vm.findClass RL = some m.cls := hown0
  have hts : ∀ w ∈ wsL_law, w.before #[Value.ref b] s = true := fun w h => hts0 w (wsL_law_in w h)
  obtain ⟨hK, hN, hI, hca, hcb, hao, hZ, hT, hzs, hts9⟩ := hK0
  have hKt : va_K (dC, dI) vwCl (tysA cy) s := hK.sub [0, 1, 2, 3, 4, 5, 6, 7] rfl
  have hbA : ¬ (fun q : Nat => s.heap.size ≤ q) b := Nat.not_le.mpr hbl
  have hi1 : vp_in (nI j + 1) Lx := vin_k hj hL 1 (by decide)
  have hi2 : vp_in (nI j + 2) Lx := vin_k hj hL 2 (by decide)
  obtain ⟨v, J9, E9, r0, w, hy, hJ0, hw, hvw, c2, d2, h2, hh2, hR2⟩ := agR_law (a_ice hR (xs (nI j + 1).toNatClampNeg) (xs (nI j + 2).toNatClampNeg)) (by decide)
  refine lv_aload_n hx hb dL_law_1358 rfl (lv_at hl 1 rfl) ?_
  refine lv_aload_n hx hb dL_law_1359 rfl (lv_at hl 0 rfl) ?_
  refine lv_iload hx hb dL_law_1360 (lv_at hl 5 rfl) ?_
  refine lv_iconst (v := 1) hx hb dL_law_1362 (by decide) ?_
  refine lv_iadd hx hb dL_law_1363 ?_
  refine va_sld hx hb hX hbl hbA hS hi1 dL_law_1364 ?_
  refine lv_aload_n hx hb dL_law_1365 rfl (lv_at hl 0 rfl) ?_
  refine lv_iload hx hb dL_law_1366 (lv_at hl 5 rfl) ?_
  refine lv_iconst (v := 2) hx hb dL_law_1368 (by decide) ?_
  refine lv_iadd hx hb dL_law_1369 ?_
  refine va_sld hx hb hX hbl hbA hS hi2 dL_law_1370 ?_
  refine lv_aload hx hb dL_law_1371 (lv_at hl 4 rfl) ?_
  have hAO := AO_out (z := H.size) hG.2.2.2.2.2.2 hG.2.2.2.2.1 hS.1
  refine vx_calli (vx_runSX (As := [.ref (adh 0), .int (xs (nI j + 1).toNatClampNeg), .int (xs (nI j + 2).toNatClampNeg), .ref o2]) (rest := []) ⟨hx, hb, hml, hown, hts⟩ (wL_ice l hl0 dC dI adh cy cL hG.1 sa o2 hG.2.2.1 H.size I D f2 (xs (nI j + 1).toNatClampNeg) (xs (nI j + 2).toNatClampNeg) r0 w hw) (vx_cwSW 4 hts gL_law_L_ice rfl rfl rfl (by decide +kernel) ⟨Nat.le_of_ble_eq_true rfl, Nat.le_of_ble_eq_true rfl⟩) (hO.preX [.ref (adh 0), .int (xs (nI j + 1).toNatClampNeg), .int (xs (nI j + 2).toNatClampNeg), .ref o2] (va_Pcons hY.2.2.1 hY.1) hK hN (xS_kept (B := AO o2 adh H.size) hZ hS hAO) hT) rfl rfl hl.1 rfl (lv_room (Nat.le_of_ble_eq_true rfl)) dL_law_1373 ⟨by show cells + 1 ≤ 601024; omega, by show slots + 6 ≤ 7293034; omega⟩) hS (fun q _ h => hAO q h) hAO (fun q _ h => hAO q h) (fun E9 ce q9 u t H1 locs1 ht9 hvm hpu hBX hz1 hk1 hS h1 h2 h3 => hpu.elim) (fun r9 g1 t H1 locs ht9 hvm hw9 hB hz1 hk1 hS => ?_)
  rw [hw9.1]
  have hg := hw9.2
  have hY := lh_2 hY hG hM hk1 (by rw [← ht9]; exact hB)
  clear hw9 hB hz1 hk1 hvm ht9 hAO
  generalize H1 = H at hY hS ⊢
  refine lv_istore (lv' := [(6, .int r0), (0, .ref b), (1, .ref (adh 0)), (2, .ref (adm 0)), (3, .ref o1), (4, .ref o2), (5, .int (nI j))]) hx hb dL_law_1376 hl (by decide) rfl (fun ls hl => ?_)
  refine lv_aload_n hx hb dL_law_1378 rfl (lv_at hl 3 rfl) ?_
  refine lv_aload_n hx hb dL_law_1379 rfl (lv_at hl 1 rfl) ?_
  refine lv_iload hx hb dL_law_1380 (lv_at hl 6 rfl) ?_
  refine lv_iconst (v := 1) hx hb dL_law_1382 (by decide) ?_
  refine lv_iadd hx hb dL_law_1383 ?_
  refine va_sld hx hb hX hbl hbA hS hi1 dL_law_1384 ?_
  refine lv_aload_n hx hb dL_law_1385 rfl (lv_at hl 1 rfl) ?_
  refine lv_iload hx hb dL_law_1386 (lv_at hl 6 rfl) ?_
  refine lv_iconst (v := 2) hx hb dL_law_1388 (by decide) ?_
  refine lv_iadd hx hb dL_law_1389 ?_
  refine va_sld hx hb hX hbl hbA hS hi2 dL_law_1390 ?_
  obtain ⟨q0, hq0, hM0⟩ := heM_0 (cy := cy) (I := J) (D := E) hM.1
  have hAM := AM_out (z := H.size) (fun k hk => (hM.2.2.1 k hk).1) hS.1
  have hsz := hS.1
  refine va_calld (va_runV (As := [.int (xs (nI j + 1).toNatClampNeg), .int (xs (nI j + 2).toNatClampNeg)]) (rest := []) ⟨hx, hb, hml, hown, hts⟩ (mt_X7_ice l dC dI L a b1 adm cy hM.1 H.size J E (xs (nI j + 1).toNatClampNeg) (xs (nI j + 2).toNatClampNeg) v J9 E9 hy) (cwV 2 hts gL_law_X7_ice rfl rfl rfl (by decide +kernel) ⟨Nat.le_of_ble_eq_true rfl, Nat.le_of_ble_eq_true rfl⟩) ⟨(wM.pre [.ref (adm 0), .int (xs (nI j + 1).toNatClampNeg), .int (xs (nI j + 2).toNatClampNeg)] hY.2.2.2 hKt ⟨hN, hI⟩).1, wM.recv (C := RX7) (T := TX7) (N := 9) hY.2.2.2 hKt hM0 rfl, (wM.pre [.ref (adm 0), .int (xs (nI j + 1).toNatClampNeg), .int (xs (nI j + 2).toNatClampNeg)] hY.2.2.2 hKt ⟨hN, hI⟩).2⟩ rfl rfl hl.1 rfl (lv_room (Nat.le_of_ble_eq_true rfl)) dL_law_1391 ⟨by show cells + 1 + 0 ≤ 601024; omega, by show slots + 6 + 0 ≤ 7293034; omega⟩) hS (fun q _ h => hAM q h) hAM (fun r9 u t H1 locs ht hvm hw8 hB hz1 hk1 hS => ?_)
  subst hw8
  have hY := lh_M hY hM hk1 (by rw [← ht]; exact hB.1)
  clear hB hz1 hk1 hvm ht hAM hsz
  generalize H1 = H at hY hS ⊢
  refine lv_dstore (lv' := [(7, .double v), (6, .int r0), (0, .ref b), (1, .ref (adh 0)), (2, .ref (adm 0)), (3, .ref o1), (4, .ref o2), (5, .int (nI j))]) hx hb dL_law_1394 hl (by decide) rfl (fun ls hl => ?_)
  refine lv_aload_n hx hb dL_law_1396 rfl (lv_at hl 4 rfl) ?_
  obtain ⟨q2, hq2, hM2⟩ := heM_0 (cy := cy) (I := J9) (D := E9) hM.1
  refine va_calli (va_runV (As := []) (rest := []) ⟨hx, hb, hml, hown, hts⟩ (mt_X7_thrown l dC dI L a b1 adm cy hM.1 H.size J9 E9 (J9 0 0) rfl) (cwV 0 hts gL_law_X7_thrown rfl rfl rfl (by decide +kernel) ⟨Nat.le_of_ble_eq_true rfl, Nat.le_of_ble_eq_true rfl⟩) ⟨(wM.pre [.ref (adm 0)] hY.2.2.2 hKt ⟨hN, hI⟩).1, wM.recv (C := RX7) (T := TX7) (N := 9) hY.2.2.2 hKt hM2 rfl, (wM.pre [.ref (adm 0)] hY.2.2.2 hKt ⟨hN, hI⟩).2⟩ rfl rfl hl.1 rfl (lv_room (Nat.le_of_ble_eq_true rfl)) dL_law_1397 ⟨by show cells + 1 + 0 + 0 ≤ 601024; omega, by show slots + 6 + 0 + 0 ≤ 7293034; omega⟩) hS (fun q _ h => Nat.le_trans hS.1 h) (fun q h => Nat.le_trans hS.1 h) (fun r9 u t H1 locs ht hvm hw8 hB hz1 hk1 hS => ?_)
  subst hw8
  have hY := lh_new hY hk1
  clear hB hz1 hk1 hvm ht
  generalize H1 = H at hY hS ⊢
  refine lv_iload hx hb dL_law_1400 (lv_at hl 1 rfl) ?_
  refine lv_icmp_eq (tgt := 1407) hx hb dL_law_1402 (by decide) (fun _ => ?_) (fun c9 => absurd hJ0 c9)
  refine lv_iload hx hb dL_law_1407 (lv_at hl 1 rfl) ?_
  have fin : ∀ (ls : Array Slot), lv_has ls 9 [(7, .double v), (6, .int r0), (0, .ref b), (1, .ref (adh 0)), (2, .ref (adm 0)), (3, .ref o1), (4, .ref o2), (5, .int (nI j))] → W p l e room_1 s m #[Value.ref b] below meth c H locs (cells + 1 + 0 + 0) (slots + 6 + 0 + 0) Q (F0 m 1444 ls []) := fun ls hl => lv_goto (tgt := 2072) hx hb dL_law_1444 (by decide) (W.widen (k := cells + 207) (n := slots + 1642) (by omega) (by omega) (kk _ _ _ _ _ _ _ _ _ _ _ _ _ _ _ _ hM hY hS hR2 hh2 (lv_sub hl [2, 3, 4, 5, 6, 7] rfl)))
  refine lv_if_ne (tgt := 1444) hx hb dL_law_1409 (by decide) (fun _ => fin ls hl) (fun c2 => ?_)
  have hg1 := hg c2
  have hv1 := hvw c2
  refine lv_aload hx hb dL_law_1412 (lv_at hl 6 rfl) ?_
  refine lv_iconst (v := 0) hx hb dL_law_1414 (by decide) ?_
  refine va_dald hx hb hK hY.2.2.1 0 6 rfl rfl vin0 dL_law_1415 ?_
  refine lv_dload hx hb dL_law_1416 (lv_at hl 0 rfl) ?_
  refine lv_dcmp hx hb dL_law_1418 ?_
  have hq9 : g1 (0 : Int32).toNatClampNeg = v := hg1.trans hv1.1
  rw [hq9]
  exact lv_if_eq (tgt := 1444) hx hb dL_law_1419 (by decide) (fun _ => fin ls hl) (fun c9 => absurd (dcmp_self hv1.2 _) c9)

set_option maxHeartbeats 8000000 in
set_option maxRecDepth 100000 in
theorem lc_bars {p : Program} {l : Launch} {e : Env} {s : State} {m : MethodId} {below : List Frame} {meth : Method} {c : Code} {b Lx : Nat} {xs : Nat → Int32} (hl0 : l.stackTraces = false) (hL : Lx ≤ 3072) (C0 : lw_At p s m meth c b Lx xs) {dC : Nat → ClassId} {dI : Nat → Nat → Nat} {cy : Nat → ClassId} {cL : ClassId} {sa : Nat → Nat} {t0 : Nat} {adh : Nat → Nat} {o1 o2 : Nat} (hK0 : LK dC dI cy cL sa t0 s) (hG : LG adh o1 o2 s.heap.size) {L : List Nat} {a b1 : Nat} {adm : Nat → Nat} (hM : LM adh o1 o2 t0 s.heap.size L a b1 adm) {I : MI} {D : MD} {J : MI} {E : MD} {f1 : Nat → Int64} {f2 : Nat → UInt64} {H : Heap} {locs : List Loc} (hY : LH dC dI cy cL adh o1 o2 L a b1 adm I D J E f1 f2 H) (hS : va_S (fun q => s.heap.size ≤ q) s.heap H locs) {c1 d1 h1 : Nat} (hR : RR 0 a b1 c1 d1 h1 I D J E) (hh : h1 + 48 < 2 ^ 20) {cells slots : Nat} (hc : cells + 207 ≤ 601024) (hs : slots + 1642 ≤ 7293034) {j : Nat} (hj : j + 6 ≤ Lx) {ls : Array Slot} (hl : lv_has ls 9 [(0, .ref b), (1, .ref (adh 0)), (2, .ref (adm 0)), (3, .ref o1), (4, .ref o2), (5, .int (nI j))]) {Q : State → Prop} (kk : ∀ (L' : List Nat) (a' b' : Nat) (adm' : Nat → Nat) (I' : MI) (D' : MD) (J' : MI) (E' : MD) (f1' : Nat → Int64) (f2' : Nat → UInt64) (H' : Heap) (locs' : List Loc) (c' d' h' : Nat) (ls' : Array Slot), LM adh o1 o2 t0 s.heap.size L' a' b' adm' → LH dC dI cy cL adh o1 o2 L' a' b' adm' I' D' J' E' f1' f2' H' → va_S (fun q => s.heap.size ≤ q) s.heap H' locs' → RR 0 a' b' c' d' h' I' D' J' E' → h' ≤ h1 + 48 → lv_has ls' 9 [(0, .ref b), (1, .ref (adh 0)), (2, .ref (adm' 0)), (3, .ref o1), (4, .ref o2), (5, .int (nI j))] → W p l e room_1 s m #[Value.ref b] below meth c H' locs' (cells + 207) (slots + 1642) Q (F0 m 2072 ls' [])) : W p l e room_1 s m #[Value.ref b] below meth c H locs cells slots Q (F0 m 1447 ls []) := by
  obtain ⟨hx, hb, hr, hml, hown0, hts0, hX, hbl, hlocks, -⟩ := C0
  have hown : s.vm.findClass RL = some m.cls := hown0
  have hts : ∀ w ∈ wsL_law, w.before #[Value.ref b] s = true := fun w h => hts0 w (wsL_law_in w h)
  obtain ⟨hK, hN, hI, hca, hcb, hao, hZ, hT, hzs, hts9⟩ := hK0
  have hKt : va_K (dC, dI) vwCl (tysA cy) s := hK.sub [0, 1, 2, 3, 4, 5, 6, 7] rfl
  have hbA : ¬ (fun q : Nat => s.heap.size ≤ q) b := Nat.not_le.mpr hbl
  have hi1 : vp_in (nI j + 1) Lx := vin_k hj hL 1 (by decide)
  have hi2 : vp_in (nI j + 2) Lx := vin_k hj hL 2 (by decide)
  have hi3 : vp_in (nI j + 3) Lx := vin_k hj hL 3 (by decide)
  have hi4 : vp_in (nI j + 4) Lx := vin_k hj hL 4 (by decide)
  obtain ⟨v, J9, E9, r0, w, hy, hJ0, hw, hvw, c2, d2, h2, hh2, hR2⟩ := agR_law (a_bars hR (xs (nI j + 1).toNatClampNeg) (xs (nI j + 2).toNatClampNeg) (xs (nI j + 3).toNatClampNeg) (xs (nI j + 4).toNatClampNeg)) (by decide)
  refine lv_aload_n hx hb dL_law_1447 rfl (lv_at hl 1 rfl) ?_
  refine lv_aload_n hx hb dL_law_1448 rfl (lv_at hl 0 rfl) ?_
  refine lv_iload hx hb dL_law_1449 (lv_at hl 5 rfl) ?_
  refine lv_iconst (v := 1) hx hb dL_law_1451 (by decide) ?_
  refine lv_iadd hx hb dL_law_1452 ?_
  refine va_sld hx hb hX hbl hbA hS hi1 dL_law_1453 ?_
  refine lv_aload_n hx hb dL_law_1454 rfl (lv_at hl 0 rfl) ?_
  refine lv_iload hx hb dL_law_1455 (lv_at hl 5 rfl) ?_
  refine lv_iconst (v := 2) hx hb dL_law_1457 (by decide) ?_
  refine lv_iadd hx hb dL_law_1458 ?_
  refine va_sld hx hb hX hbl hbA hS hi2 dL_law_1459 ?_
  refine lv_aload_n hx hb dL_law_1460 rfl (lv_at hl 0 rfl) ?_
  refine lv_iload hx hb dL_law_1461 (lv_at hl 5 rfl) ?_
  refine lv_iconst (v := 3) hx hb dL_law_1463 (by decide) ?_
  refine lv_iadd hx hb dL_law_1464 ?_
  refine va_sld hx hb hX hbl hbA hS hi3 dL_law_1465 ?_
  refine lv_aload_n hx hb dL_law_1466 rfl (lv_at hl 0 rfl) ?_
  refine lv_iload hx hb dL_law_1467 (lv_at hl 5 rfl) ?_
  refine lv_iconst (v := 4) hx hb dL_law_1469 (by decide) ?_
  refine lv_iadd hx hb dL_law_1470 ?_
  refine va_sld hx hb hX hbl hbA hS hi4 dL_law_1471 ?_
  refine lv_aload_n hx hb dL_law_1472 rfl (lv_at hl 3 rfl) ?_
  have hAO := AO_out (z := H.size) hG.2.2.2.2.2.1 hG.2.2.2.2.1 hS.1
  refine vx_calli (vx_runSX (As := [.ref (adh 0), .int (xs (nI j + 1).toNatClampNeg), .int (xs (nI j + 2).toNatClampNeg), .int (xs (nI j + 3).toNatClampNeg), .int (xs (nI j + 4).toNatClampNeg), .ref o1]) (rest := []) ⟨hx, hb, hml, hown, hts⟩ (wL_bars l hl0 dC dI adh cy cL hG.1 sa o1 hG.2.1 H.size I D f1 (xs (nI j + 1).toNatClampNeg) (xs (nI j + 2).toNatClampNeg) (xs (nI j + 3).toNatClampNeg) (xs (nI j + 4).toNatClampNeg) r0 w hw) (vx_cwSW 6 hts gL_law_L_bars rfl rfl rfl (by decide +kernel) ⟨Nat.le_of_ble_eq_true rfl, Nat.le_of_ble_eq_true rfl⟩) (hO.preX [.ref (adh 0), .int (xs (nI j + 1).toNatClampNeg), .int (xs (nI j + 2).toNatClampNeg), .int (xs (nI j + 3).toNatClampNeg), .int (xs (nI j + 4).toNatClampNeg), .ref o1] (va_Pcons hY.2.1 hY.1) hK hN (xS_kept (B := AO o1 adh H.size) hZ hS hAO) hT) rfl rfl hl.1 rfl (lv_room (Nat.le_of_ble_eq_true rfl)) dL_law_1473 ⟨by show cells + 1 ≤ 601024; omega, by show slots + 6 ≤ 7293034; omega⟩) hS (fun q _ h => hAO q h) hAO (fun q _ h => hAO q h) (fun E9 ce q9 u t H1 locs1 ht9 hvm hpu hBX hz1 hk1 hS h1 h2 h3 => hpu.elim) (fun r9 g1 t H1 locs ht9 hvm hw9 hB hz1 hk1 hS => ?_)
  rw [hw9.1]
  have hg := hw9.2
  have hY := lh_1 hY hG hM hk1 (by rw [← ht9]; exact hB)
  clear hw9 hB hz1 hk1 hvm ht9 hAO
  generalize H1 = H at hY hS ⊢
  refine lv_istore (lv' := [(6, .int r0), (0, .ref b), (1, .ref (adh 0)), (2, .ref (adm 0)), (3, .ref o1), (4, .ref o2), (5, .int (nI j))]) hx hb dL_law_1476 hl (by decide) rfl (fun ls hl => ?_)
  refine lv_aload_n hx hb dL_law_1478 rfl (lv_at hl 3 rfl) ?_
  refine lv_aload_n hx hb dL_law_1479 rfl (lv_at hl 1 rfl) ?_
  refine lv_iload hx hb dL_law_1480 (lv_at hl 6 rfl) ?_
  refine lv_iconst (v := 1) hx hb dL_law_1482 (by decide) ?_
  refine lv_iadd hx hb dL_law_1483 ?_
  refine va_sld hx hb hX hbl hbA hS hi1 dL_law_1484 ?_
  refine lv_aload_n hx hb dL_law_1485 rfl (lv_at hl 1 rfl) ?_
  refine lv_iload hx hb dL_law_1486 (lv_at hl 6 rfl) ?_
  refine lv_iconst (v := 2) hx hb dL_law_1488 (by decide) ?_
  refine lv_iadd hx hb dL_law_1489 ?_
  refine va_sld hx hb hX hbl hbA hS hi2 dL_law_1490 ?_
  refine lv_aload_n hx hb dL_law_1491 rfl (lv_at hl 1 rfl) ?_
  refine lv_iload hx hb dL_law_1492 (lv_at hl 6 rfl) ?_
  refine lv_iconst (v := 3) hx hb dL_law_1494 (by decide) ?_
  refine lv_iadd hx hb dL_law_1495 ?_
  refine va_sld hx hb hX hbl hbA hS hi3 dL_law_1496 ?_
  refine lv_aload_n hx hb dL_law_1497 rfl (lv_at hl 1 rfl) ?_
  refine lv_iload hx hb dL_law_1498 (lv_at hl 6 rfl) ?_
  refine lv_iconst (v := 4) hx hb dL_law_1500 (by decide) ?_
  refine lv_iadd hx hb dL_law_1501 ?_
  refine va_sld hx hb hX hbl hbA hS hi4 dL_law_1502 ?_
  obtain ⟨q0, hq0, hM0⟩ := heM_0 (cy := cy) (I := J) (D := E) hM.1
  have hAM := AM_out (z := H.size) (fun k hk => (hM.2.2.1 k hk).1) hS.1
  have hsz := hS.1
  refine va_calli (va_runV (As := [.int (xs (nI j + 1).toNatClampNeg), .int (xs (nI j + 2).toNatClampNeg), .int (xs (nI j + 3).toNatClampNeg), .int (xs (nI j + 4).toNatClampNeg)]) (rest := []) ⟨hx, hb, hml, hown, hts⟩ (mt_X7_bars l dC dI L a b1 adm cy hM.1 H.size J E (xs (nI j + 1).toNatClampNeg) (xs (nI j + 2).toNatClampNeg) (xs (nI j + 3).toNatClampNeg) (xs (nI j + 4).toNatClampNeg) v J9 E9 hy) (cwV 4 hts gL_law_X7_bars rfl rfl rfl (by decide +kernel) ⟨Nat.le_of_ble_eq_true rfl, Nat.le_of_ble_eq_true rfl⟩) ⟨(wM.pre [.ref (adm 0), .int (xs (nI j + 1).toNatClampNeg), .int (xs (nI j + 2).toNatClampNeg), .int (xs (nI j + 3).toNatClampNeg), .int (xs (nI j + 4).toNatClampNeg)] hY.2.2.2 hKt ⟨hN, hI⟩).1, wM.recv (C := RX7) (T := TX7) (N := 9) hY.2.2.2 hKt hM0 rfl, (wM.pre [.ref (adm 0), .int (xs (nI j + 1).toNatClampNeg), .int (xs (nI j + 2).toNatClampNeg), .int (xs (nI j + 3).toNatClampNeg), .int (xs (nI j + 4).toNatClampNeg)] hY.2.2.2 hKt ⟨hN, hI⟩).2⟩ rfl rfl hl.1 rfl (lv_room (Nat.le_of_ble_eq_true rfl)) dL_law_1503 ⟨by show cells + 1 + 0 ≤ 601024; omega, by show slots + 6 + 0 ≤ 7293034; omega⟩) hS (fun q _ h => hAM q h) hAM (fun r9 u t H1 locs ht hvm hw8 hB hz1 hk1 hS => ?_)
  subst hw8
  have hY := lh_M hY hM hk1 (by rw [← ht]; exact hB.1)
  clear hB hz1 hk1 hvm ht hAM hsz
  generalize H1 = H at hY hS ⊢
  refine lv_istore (lv' := [(7, .int v), (6, .int r0), (0, .ref b), (1, .ref (adh 0)), (2, .ref (adm 0)), (3, .ref o1), (4, .ref o2), (5, .int (nI j))]) hx hb dL_law_1506 hl (by decide) rfl (fun ls hl => ?_)
  refine lv_aload_n hx hb dL_law_1508 rfl (lv_at hl 4 rfl) ?_
  obtain ⟨q2, hq2, hM2⟩ := heM_0 (cy := cy) (I := J9) (D := E9) hM.1
  refine va_calli (va_runV (As := []) (rest := []) ⟨hx, hb, hml, hown, hts⟩ (mt_X7_thrown l dC dI L a b1 adm cy hM.1 H.size J9 E9 (J9 0 0) rfl) (cwV 0 hts gL_law_X7_thrown rfl rfl rfl (by decide +kernel) ⟨Nat.le_of_ble_eq_true rfl, Nat.le_of_ble_eq_true rfl⟩) ⟨(wM.pre [.ref (adm 0)] hY.2.2.2 hKt ⟨hN, hI⟩).1, wM.recv (C := RX7) (T := TX7) (N := 9) hY.2.2.2 hKt hM2 rfl, (wM.pre [.ref (adm 0)] hY.2.2.2 hKt ⟨hN, hI⟩).2⟩ rfl rfl hl.1 rfl (lv_room (Nat.le_of_ble_eq_true rfl)) dL_law_1509 ⟨by show cells + 1 + 0 + 0 ≤ 601024; omega, by show slots + 6 + 0 + 0 ≤ 7293034; omega⟩) hS (fun q _ h => Nat.le_trans hS.1 h) (fun q h => Nat.le_trans hS.1 h) (fun r9 u t H1 locs ht hvm hw8 hB hz1 hk1 hS => ?_)
  subst hw8
  have hY := lh_new hY hk1
  clear hB hz1 hk1 hvm ht
  generalize H1 = H at hY hS ⊢
  refine lv_iload hx hb dL_law_1512 (lv_at hl 1 rfl) ?_
  refine lv_icmp_eq (tgt := 1519) hx hb dL_law_1514 (by decide) (fun _ => ?_) (fun c9 => absurd hJ0 c9)
  refine lv_iload hx hb dL_law_1519 (lv_at hl 1 rfl) ?_
  have fin : ∀ (ls : Array Slot), lv_has ls 9 [(7, .int v), (6, .int r0), (0, .ref b), (1, .ref (adh 0)), (2, .ref (adm 0)), (3, .ref o1), (4, .ref o2), (5, .int (nI j))] → W p l e room_1 s m #[Value.ref b] below meth c H locs (cells + 1 + 0 + 0) (slots + 6 + 0 + 0) Q (F0 m 1536 ls []) := fun ls hl => lv_goto (tgt := 2072) hx hb dL_law_1536 (by decide) (W.widen (k := cells + 207) (n := slots + 1642) (by omega) (by omega) (kk _ _ _ _ _ _ _ _ _ _ _ _ _ _ _ _ hM hY hS hR2 hh2 (lv_sub hl [2, 3, 4, 5, 6, 7] rfl)))
  refine lv_if_ne (tgt := 1536) hx hb dL_law_1521 (by decide) (fun _ => fin ls hl) (fun c2 => ?_)
  have hg1 := hg c2
  have hv1 := hvw c2
  refine lv_aload_n hx hb dL_law_1524 rfl (lv_at hl 5 rfl) ?_
  refine lv_iconst (v := 0) hx hb dL_law_1525 (by decide) ?_
  refine va_lald hx hb hK hY.2.1 0 8 rfl rfl vin0 dL_law_1526 ?_
  refine lv_iload hx hb dL_law_1527 (lv_at hl 0 rfl) ?_
  refine lv_i2l hx hb dL_law_1529 rfl ?_
  refine W.lcmp hx hb dL_law_1530 ?_
  have hq9 : g1 (0 : Int32).toNatClampNeg = v.toInt64 := hg1.trans (congrArg Int32.toInt64 hv1.1)
  rw [hq9]
  exact lv_if_eq (tgt := 1536) hx hb dL_law_1531 (by decide) (fun _ => fin ls hl) (fun c9 => absurd (lcmp_self _) c9)

set_option maxHeartbeats 8000000 in
set_option maxRecDepth 100000 in
theorem lc_ofBatch {p : Program} {l : Launch} {e : Env} {s : State} {m : MethodId} {below : List Frame} {meth : Method} {c : Code} {b Lx : Nat} {xs : Nat → Int32} (hl0 : l.stackTraces = false) (hL : Lx ≤ 3072) (C0 : lw_At p s m meth c b Lx xs) {dC : Nat → ClassId} {dI : Nat → Nat → Nat} {cy : Nat → ClassId} {cL : ClassId} {sa : Nat → Nat} {t0 : Nat} {adh : Nat → Nat} {o1 o2 : Nat} (hK0 : LK dC dI cy cL sa t0 s) (hG : LG adh o1 o2 s.heap.size) {L : List Nat} {a b1 : Nat} {adm : Nat → Nat} (hM : LM adh o1 o2 t0 s.heap.size L a b1 adm) {I : MI} {D : MD} {J : MI} {E : MD} {f1 : Nat → Int64} {f2 : Nat → UInt64} {H : Heap} {locs : List Loc} (hY : LH dC dI cy cL adh o1 o2 L a b1 adm I D J E f1 f2 H) (hS : va_S (fun q => s.heap.size ≤ q) s.heap H locs) {c1 d1 h1 : Nat} (hR : RR 0 a b1 c1 d1 h1 I D J E) (hh : h1 + 48 < 2 ^ 20) {cells slots : Nat} (hc : cells + 207 ≤ 601024) (hs : slots + 1642 ≤ 7293034) {j : Nat} (hj : j + 6 ≤ Lx) {ls : Array Slot} (hl : lv_has ls 9 [(0, .ref b), (1, .ref (adh 0)), (2, .ref (adm 0)), (3, .ref o1), (4, .ref o2), (5, .int (nI j))]) {Q : State → Prop} (kk : ∀ (L' : List Nat) (a' b' : Nat) (adm' : Nat → Nat) (I' : MI) (D' : MD) (J' : MI) (E' : MD) (f1' : Nat → Int64) (f2' : Nat → UInt64) (H' : Heap) (locs' : List Loc) (c' d' h' : Nat) (ls' : Array Slot), LM adh o1 o2 t0 s.heap.size L' a' b' adm' → LH dC dI cy cL adh o1 o2 L' a' b' adm' I' D' J' E' f1' f2' H' → va_S (fun q => s.heap.size ≤ q) s.heap H' locs' → RR 0 a' b' c' d' h' I' D' J' E' → h' ≤ h1 + 48 → lv_has ls' 9 [(0, .ref b), (1, .ref (adh 0)), (2, .ref (adm' 0)), (3, .ref o1), (4, .ref o2), (5, .int (nI j))] → W p l e room_1 s m #[Value.ref b] below meth c H' locs' (cells + 207) (slots + 1642) Q (F0 m 2072 ls' [])) : W p l e room_1 s m #[Value.ref b] below meth c H locs cells slots Q (F0 m 1539 ls []) := by
  obtain ⟨hx, hb, hr, hml, hown0, hts0, hX, hbl, hlocks, -⟩ := C0
  have hown : s.vm.findClass RL = some m.cls := hown0
  have hts : ∀ w ∈ wsL_law, w.before #[Value.ref b] s = true := fun w h => hts0 w (wsL_law_in w h)
  obtain ⟨hK, hN, hI, hca, hcb, hao, hZ, hT, hzs, hts9⟩ := hK0
  have hKt : va_K (dC, dI) vwCl (tysA cy) s := hK.sub [0, 1, 2, 3, 4, 5, 6, 7] rfl
  have hbA : ¬ (fun q : Nat => s.heap.size ≤ q) b := Nat.not_le.mpr hbl
  have hi1 : vp_in (nI j + 1) Lx := vin_k hj hL 1 (by decide)
  have hi2 : vp_in (nI j + 2) Lx := vin_k hj hL 2 (by decide)
  obtain ⟨v, J9, E9, r0, w, hy, hJ0, hw, hvw, c2, d2, h2, hh2, hR2⟩ := agR_law (a_ofBatch hR (xs (nI j + 1).toNatClampNeg) (xs (nI j + 2).toNatClampNeg)) (by decide)
  refine lv_aload_n hx hb dL_law_1539 rfl (lv_at hl 1 rfl) ?_
  refine lv_aload_n hx hb dL_law_1540 rfl (lv_at hl 0 rfl) ?_
  refine lv_iload hx hb dL_law_1541 (lv_at hl 5 rfl) ?_
  refine lv_iconst (v := 1) hx hb dL_law_1543 (by decide) ?_
  refine lv_iadd hx hb dL_law_1544 ?_
  refine va_sld hx hb hX hbl hbA hS hi1 dL_law_1545 ?_
  refine lv_aload_n hx hb dL_law_1546 rfl (lv_at hl 0 rfl) ?_
  refine lv_iload hx hb dL_law_1547 (lv_at hl 5 rfl) ?_
  refine lv_iconst (v := 2) hx hb dL_law_1549 (by decide) ?_
  refine lv_iadd hx hb dL_law_1550 ?_
  refine va_sld hx hb hX hbl hbA hS hi2 dL_law_1551 ?_
  refine lv_aload_n hx hb dL_law_1552 rfl (lv_at hl 3 rfl) ?_
  have hAO := AO_out (z := H.size) hG.2.2.2.2.2.1 hG.2.2.2.2.1 hS.1
  refine vx_calli (vx_runSX (As := [.ref (adh 0), .int (xs (nI j + 1).toNatClampNeg), .int (xs (nI j + 2).toNatClampNeg), .ref o1]) (rest := []) ⟨hx, hb, hml, hown, hts⟩ (wL_ofBatch l hl0 dC dI adh cy cL hG.1 sa o1 hG.2.1 H.size I D f1 (xs (nI j + 1).toNatClampNeg) (xs (nI j + 2).toNatClampNeg) r0 w hw) (vx_cwSW 4 hts gL_law_L_ofBatch rfl rfl rfl (by decide +kernel) ⟨Nat.le_of_ble_eq_true rfl, Nat.le_of_ble_eq_true rfl⟩) (hO.preX [.ref (adh 0), .int (xs (nI j + 1).toNatClampNeg), .int (xs (nI j + 2).toNatClampNeg), .ref o1] (va_Pcons hY.2.1 hY.1) hK hN (xS_kept (B := AO o1 adh H.size) hZ hS hAO) hT) rfl rfl hl.1 rfl (lv_room (Nat.le_of_ble_eq_true rfl)) dL_law_1553 ⟨by show cells + 1 ≤ 601024; omega, by show slots + 6 ≤ 7293034; omega⟩) hS (fun q _ h => hAO q h) hAO (fun q _ h => hAO q h) (fun E9 ce q9 u t H1 locs1 ht9 hvm hpu hBX hz1 hk1 hS h1 h2 h3 => hpu.elim) (fun r9 g1 t H1 locs ht9 hvm hw9 hB hz1 hk1 hS => ?_)
  rw [hw9.1]
  have hg := hw9.2
  have hY := lh_1 hY hG hM hk1 (by rw [← ht9]; exact hB)
  clear hw9 hB hz1 hk1 hvm ht9 hAO
  generalize H1 = H at hY hS ⊢
  refine lv_istore (lv' := [(6, .int r0), (0, .ref b), (1, .ref (adh 0)), (2, .ref (adm 0)), (3, .ref o1), (4, .ref o2), (5, .int (nI j))]) hx hb dL_law_1556 hl (by decide) rfl (fun ls hl => ?_)
  refine lv_aload_n hx hb dL_law_1558 rfl (lv_at hl 3 rfl) ?_
  refine lv_aload_n hx hb dL_law_1559 rfl (lv_at hl 1 rfl) ?_
  refine lv_iload hx hb dL_law_1560 (lv_at hl 6 rfl) ?_
  refine lv_iconst (v := 1) hx hb dL_law_1562 (by decide) ?_
  refine lv_iadd hx hb dL_law_1563 ?_
  refine va_sld hx hb hX hbl hbA hS hi1 dL_law_1564 ?_
  refine lv_aload_n hx hb dL_law_1565 rfl (lv_at hl 1 rfl) ?_
  refine lv_iload hx hb dL_law_1566 (lv_at hl 6 rfl) ?_
  refine lv_iconst (v := 2) hx hb dL_law_1568 (by decide) ?_
  refine lv_iadd hx hb dL_law_1569 ?_
  refine va_sld hx hb hX hbl hbA hS hi2 dL_law_1570 ?_
  obtain ⟨q0, hq0, hM0⟩ := heM_0 (cy := cy) (I := J) (D := E) hM.1
  have hAM := AM_out (z := H.size) (fun k hk => (hM.2.2.1 k hk).1) hS.1
  have hsz := hS.1
  refine va_calli (va_runV (As := [.int (xs (nI j + 1).toNatClampNeg), .int (xs (nI j + 2).toNatClampNeg)]) (rest := []) ⟨hx, hb, hml, hown, hts⟩ (mt_X7_ofBatch l dC dI L a b1 adm cy hM.1 H.size J E (xs (nI j + 1).toNatClampNeg) (xs (nI j + 2).toNatClampNeg) v J9 E9 hy) (cwV 2 hts gL_law_X7_ofBatch rfl rfl rfl (by decide +kernel) ⟨Nat.le_of_ble_eq_true rfl, Nat.le_of_ble_eq_true rfl⟩) ⟨(wM.pre [.ref (adm 0), .int (xs (nI j + 1).toNatClampNeg), .int (xs (nI j + 2).toNatClampNeg)] hY.2.2.2 hKt ⟨hN, hI⟩).1, wM.recv (C := RX7) (T := TX7) (N := 9) hY.2.2.2 hKt hM0 rfl, (wM.pre [.ref (adm 0), .int (xs (nI j + 1).toNatClampNeg), .int (xs (nI j + 2).toNatClampNeg)] hY.2.2.2 hKt ⟨hN, hI⟩).2⟩ rfl rfl hl.1 rfl (lv_room (Nat.le_of_ble_eq_true rfl)) dL_law_1571 ⟨by show cells + 1 + 1 ≤ 601024; omega, by show slots + 6 + 6 ≤ 7293034; omega⟩) hS (fun q _ h => hAM q h) hAM (fun r9 u t H1 locs ht hvm hw8 hB hz1 hk1 hS => ?_)
  subst hw8
  have hY := lh_M hY hM hk1 (by rw [← ht]; exact hB.1)
  clear hB hz1 hk1 hvm ht hAM hsz
  generalize H1 = H at hY hS ⊢
  refine lv_istore (lv' := [(7, .int v), (6, .int r0), (0, .ref b), (1, .ref (adh 0)), (2, .ref (adm 0)), (3, .ref o1), (4, .ref o2), (5, .int (nI j))]) hx hb dL_law_1574 hl (by decide) rfl (fun ls hl => ?_)
  refine lv_aload_n hx hb dL_law_1576 rfl (lv_at hl 4 rfl) ?_
  obtain ⟨q2, hq2, hM2⟩ := heM_0 (cy := cy) (I := J9) (D := E9) hM.1
  refine va_calli (va_runV (As := []) (rest := []) ⟨hx, hb, hml, hown, hts⟩ (mt_X7_thrown l dC dI L a b1 adm cy hM.1 H.size J9 E9 (J9 0 0) rfl) (cwV 0 hts gL_law_X7_thrown rfl rfl rfl (by decide +kernel) ⟨Nat.le_of_ble_eq_true rfl, Nat.le_of_ble_eq_true rfl⟩) ⟨(wM.pre [.ref (adm 0)] hY.2.2.2 hKt ⟨hN, hI⟩).1, wM.recv (C := RX7) (T := TX7) (N := 9) hY.2.2.2 hKt hM2 rfl, (wM.pre [.ref (adm 0)] hY.2.2.2 hKt ⟨hN, hI⟩).2⟩ rfl rfl hl.1 rfl (lv_room (Nat.le_of_ble_eq_true rfl)) dL_law_1577 ⟨by show cells + 1 + 1 + 0 ≤ 601024; omega, by show slots + 6 + 6 + 0 ≤ 7293034; omega⟩) hS (fun q _ h => Nat.le_trans hS.1 h) (fun q h => Nat.le_trans hS.1 h) (fun r9 u t H1 locs ht hvm hw8 hB hz1 hk1 hS => ?_)
  subst hw8
  have hY := lh_new hY hk1
  clear hB hz1 hk1 hvm ht
  generalize H1 = H at hY hS ⊢
  refine lv_iload hx hb dL_law_1580 (lv_at hl 1 rfl) ?_
  refine lv_icmp_eq (tgt := 1587) hx hb dL_law_1582 (by decide) (fun _ => ?_) (fun c9 => absurd hJ0 c9)
  refine lv_iload hx hb dL_law_1587 (lv_at hl 1 rfl) ?_
  have fin : ∀ (ls : Array Slot), lv_has ls 9 [(7, .int v), (6, .int r0), (0, .ref b), (1, .ref (adh 0)), (2, .ref (adm 0)), (3, .ref o1), (4, .ref o2), (5, .int (nI j))] → W p l e room_1 s m #[Value.ref b] below meth c H locs (cells + 1 + 1 + 0) (slots + 6 + 6 + 0) Q (F0 m 1604 ls []) := fun ls hl => lv_goto (tgt := 2072) hx hb dL_law_1604 (by decide) (W.widen (k := cells + 207) (n := slots + 1642) (by omega) (by omega) (kk _ _ _ _ _ _ _ _ _ _ _ _ _ _ _ _ hM hY hS hR2 hh2 (lv_sub hl [2, 3, 4, 5, 6, 7] rfl)))
  refine lv_if_ne (tgt := 1604) hx hb dL_law_1589 (by decide) (fun _ => fin ls hl) (fun c2 => ?_)
  have hg1 := hg c2
  have hv1 := hvw c2
  refine lv_aload_n hx hb dL_law_1592 rfl (lv_at hl 5 rfl) ?_
  refine lv_iconst (v := 0) hx hb dL_law_1593 (by decide) ?_
  refine va_lald hx hb hK hY.2.1 0 8 rfl rfl vin0 dL_law_1594 ?_
  refine lv_iload hx hb dL_law_1595 (lv_at hl 0 rfl) ?_
  refine lv_i2l hx hb dL_law_1597 rfl ?_
  refine W.lcmp hx hb dL_law_1598 ?_
  have hq9 : g1 (0 : Int32).toNatClampNeg = v.toInt64 := hg1.trans (congrArg Int32.toInt64 hv1.1)
  rw [hq9]
  exact lv_if_eq (tgt := 1604) hx hb dL_law_1599 (by decide) (fun _ => fin ls hl) (fun c9 => absurd (lcmp_self _) c9)

set_option maxHeartbeats 8000000 in
set_option maxRecDepth 100000 in
theorem lc_crystal {p : Program} {l : Launch} {e : Env} {s : State} {m : MethodId} {below : List Frame} {meth : Method} {c : Code} {b Lx : Nat} {xs : Nat → Int32} (hl0 : l.stackTraces = false) (hL : Lx ≤ 3072) (C0 : lw_At p s m meth c b Lx xs) {dC : Nat → ClassId} {dI : Nat → Nat → Nat} {cy : Nat → ClassId} {cL : ClassId} {sa : Nat → Nat} {t0 : Nat} {adh : Nat → Nat} {o1 o2 : Nat} (hK0 : LK dC dI cy cL sa t0 s) (hG : LG adh o1 o2 s.heap.size) {L : List Nat} {a b1 : Nat} {adm : Nat → Nat} (hM : LM adh o1 o2 t0 s.heap.size L a b1 adm) {I : MI} {D : MD} {J : MI} {E : MD} {f1 : Nat → Int64} {f2 : Nat → UInt64} {H : Heap} {locs : List Loc} (hY : LH dC dI cy cL adh o1 o2 L a b1 adm I D J E f1 f2 H) (hS : va_S (fun q => s.heap.size ≤ q) s.heap H locs) {c1 d1 h1 : Nat} (hR : RR 0 a b1 c1 d1 h1 I D J E) (hh : h1 + 48 < 2 ^ 20) {cells slots : Nat} (hc : cells + 207 ≤ 601024) (hs : slots + 1642 ≤ 7293034) {j : Nat} (hj : j + 6 ≤ Lx) {ls : Array Slot} (hl : lv_has ls 9 [(0, .ref b), (1, .ref (adh 0)), (2, .ref (adm 0)), (3, .ref o1), (4, .ref o2), (5, .int (nI j))]) {Q : State → Prop} (kk : ∀ (L' : List Nat) (a' b' : Nat) (adm' : Nat → Nat) (I' : MI) (D' : MD) (J' : MI) (E' : MD) (f1' : Nat → Int64) (f2' : Nat → UInt64) (H' : Heap) (locs' : List Loc) (c' d' h' : Nat) (ls' : Array Slot), LM adh o1 o2 t0 s.heap.size L' a' b' adm' → LH dC dI cy cL adh o1 o2 L' a' b' adm' I' D' J' E' f1' f2' H' → va_S (fun q => s.heap.size ≤ q) s.heap H' locs' → RR 0 a' b' c' d' h' I' D' J' E' → h' ≤ h1 + 48 → lv_has ls' 9 [(0, .ref b), (1, .ref (adh 0)), (2, .ref (adm' 0)), (3, .ref o1), (4, .ref o2), (5, .int (nI j))] → W p l e room_1 s m #[Value.ref b] below meth c H' locs' (cells + 207) (slots + 1642) Q (F0 m 2072 ls' [])) : W p l e room_1 s m #[Value.ref b] below meth c H locs cells slots Q (F0 m 1607 ls []) := by
  obtain ⟨hx, hb, hr, hml, hown0, hts0, hX, hbl, hlocks, -⟩ := C0
  have hown : s.vm.findClass RL = some m.cls := hown0
  have hts : ∀ w ∈ wsL_law, w.before #[Value.ref b] s = true := fun w h => hts0 w (wsL_law_in w h)
  obtain ⟨hK, hN, hI, hca, hcb, hao, hZ, hT, hzs, hts9⟩ := hK0
  have hKt : va_K (dC, dI) vwCl (tysA cy) s := hK.sub [0, 1, 2, 3, 4, 5, 6, 7] rfl
  have hbA : ¬ (fun q : Nat => s.heap.size ≤ q) b := Nat.not_le.mpr hbl
  have hi1 : vp_in (nI j + 1) Lx := vin_k hj hL 1 (by decide)
  obtain ⟨v, J9, E9, r0, w, hy, hJ0, hw, hvw, c2, d2, h2, hh2, hR2⟩ := agR_law (a_crystal hR (xs (nI j + 1).toNatClampNeg)) (by decide)
  refine lv_aload_n hx hb dL_law_1607 rfl (lv_at hl 1 rfl) ?_
  refine lv_aload_n hx hb dL_law_1608 rfl (lv_at hl 0 rfl) ?_
  refine lv_iload hx hb dL_law_1609 (lv_at hl 5 rfl) ?_
  refine lv_iconst (v := 1) hx hb dL_law_1611 (by decide) ?_
  refine lv_iadd hx hb dL_law_1612 ?_
  refine va_sld hx hb hX hbl hbA hS hi1 dL_law_1613 ?_
  refine lv_aload hx hb dL_law_1614 (lv_at hl 4 rfl) ?_
  have hAO := AO_out (z := H.size) hG.2.2.2.2.2.2 hG.2.2.2.2.1 hS.1
  refine vx_calli (vx_runSX (As := [.ref (adh 0), .int (xs (nI j + 1).toNatClampNeg), .ref o2]) (rest := []) ⟨hx, hb, hml, hown, hts⟩ (wL_crystal l hl0 dC dI adh cy cL hG.1 sa o2 hG.2.2.1 H.size I D f2 (xs (nI j + 1).toNatClampNeg) r0 w hw) (vx_cwSW 3 hts gL_law_L_crystal rfl rfl rfl (by decide +kernel) ⟨Nat.le_of_ble_eq_true rfl, Nat.le_of_ble_eq_true rfl⟩) (hO.preX [.ref (adh 0), .int (xs (nI j + 1).toNatClampNeg), .ref o2] (va_Pcons hY.2.2.1 hY.1) hK hN (xS_kept (B := AO o2 adh H.size) hZ hS hAO) hT) rfl rfl hl.1 rfl (lv_room (Nat.le_of_ble_eq_true rfl)) dL_law_1616 ⟨by show cells + 1 ≤ 601024; omega, by show slots + 6 ≤ 7293034; omega⟩) hS (fun q _ h => hAO q h) hAO (fun q _ h => hAO q h) (fun E9 ce q9 u t H1 locs1 ht9 hvm hpu hBX hz1 hk1 hS h1 h2 h3 => hpu.elim) (fun r9 g1 t H1 locs ht9 hvm hw9 hB hz1 hk1 hS => ?_)
  rw [hw9.1]
  have hg := hw9.2
  have hY := lh_2 hY hG hM hk1 (by rw [← ht9]; exact hB)
  clear hw9 hB hz1 hk1 hvm ht9 hAO
  generalize H1 = H at hY hS ⊢
  refine lv_istore (lv' := [(6, .int r0), (0, .ref b), (1, .ref (adh 0)), (2, .ref (adm 0)), (3, .ref o1), (4, .ref o2), (5, .int (nI j))]) hx hb dL_law_1619 hl (by decide) rfl (fun ls hl => ?_)
  refine lv_aload_n hx hb dL_law_1621 rfl (lv_at hl 3 rfl) ?_
  refine lv_aload_n hx hb dL_law_1622 rfl (lv_at hl 1 rfl) ?_
  refine lv_iload hx hb dL_law_1623 (lv_at hl 6 rfl) ?_
  refine lv_iconst (v := 1) hx hb dL_law_1625 (by decide) ?_
  refine lv_iadd hx hb dL_law_1626 ?_
  refine va_sld hx hb hX hbl hbA hS hi1 dL_law_1627 ?_
  obtain ⟨q0, hq0, hM0⟩ := heM_0 (cy := cy) (I := J) (D := E) hM.1
  have hAM := AM_out (z := H.size) (fun k hk => (hM.2.2.1 k hk).1) hS.1
  have hsz := hS.1
  refine va_calld (va_runV (As := [.int (xs (nI j + 1).toNatClampNeg)]) (rest := []) ⟨hx, hb, hml, hown, hts⟩ (mt_X7_crystal l dC dI L a b1 adm cy hM.1 H.size J E (xs (nI j + 1).toNatClampNeg) v J9 E9 hy) (cwV 1 hts gL_law_X7_crystal rfl rfl rfl (by decide +kernel) ⟨Nat.le_of_ble_eq_true rfl, Nat.le_of_ble_eq_true rfl⟩) ⟨(wM.pre [.ref (adm 0), .int (xs (nI j + 1).toNatClampNeg)] hY.2.2.2 hKt ⟨hN, hI⟩).1, wM.recv (C := RX7) (T := TX7) (N := 9) hY.2.2.2 hKt hM0 rfl, (wM.pre [.ref (adm 0), .int (xs (nI j + 1).toNatClampNeg)] hY.2.2.2 hKt ⟨hN, hI⟩).2⟩ rfl rfl hl.1 rfl (lv_room (Nat.le_of_ble_eq_true rfl)) dL_law_1628 ⟨by show cells + 1 + 0 ≤ 601024; omega, by show slots + 6 + 0 ≤ 7293034; omega⟩) hS (fun q _ h => hAM q h) hAM (fun r9 u t H1 locs ht hvm hw8 hB hz1 hk1 hS => ?_)
  subst hw8
  have hY := lh_M hY hM hk1 (by rw [← ht]; exact hB.1)
  clear hB hz1 hk1 hvm ht hAM hsz
  generalize H1 = H at hY hS ⊢
  refine lv_dstore (lv' := [(7, .double v), (6, .int r0), (0, .ref b), (1, .ref (adh 0)), (2, .ref (adm 0)), (3, .ref o1), (4, .ref o2), (5, .int (nI j))]) hx hb dL_law_1631 hl (by decide) rfl (fun ls hl => ?_)
  refine lv_aload_n hx hb dL_law_1633 rfl (lv_at hl 4 rfl) ?_
  obtain ⟨q2, hq2, hM2⟩ := heM_0 (cy := cy) (I := J9) (D := E9) hM.1
  refine va_calli (va_runV (As := []) (rest := []) ⟨hx, hb, hml, hown, hts⟩ (mt_X7_thrown l dC dI L a b1 adm cy hM.1 H.size J9 E9 (J9 0 0) rfl) (cwV 0 hts gL_law_X7_thrown rfl rfl rfl (by decide +kernel) ⟨Nat.le_of_ble_eq_true rfl, Nat.le_of_ble_eq_true rfl⟩) ⟨(wM.pre [.ref (adm 0)] hY.2.2.2 hKt ⟨hN, hI⟩).1, wM.recv (C := RX7) (T := TX7) (N := 9) hY.2.2.2 hKt hM2 rfl, (wM.pre [.ref (adm 0)] hY.2.2.2 hKt ⟨hN, hI⟩).2⟩ rfl rfl hl.1 rfl (lv_room (Nat.le_of_ble_eq_true rfl)) dL_law_1634 ⟨by show cells + 1 + 0 + 0 ≤ 601024; omega, by show slots + 6 + 0 + 0 ≤ 7293034; omega⟩) hS (fun q _ h => Nat.le_trans hS.1 h) (fun q h => Nat.le_trans hS.1 h) (fun r9 u t H1 locs ht hvm hw8 hB hz1 hk1 hS => ?_)
  subst hw8
  have hY := lh_new hY hk1
  clear hB hz1 hk1 hvm ht
  generalize H1 = H at hY hS ⊢
  refine lv_iload hx hb dL_law_1637 (lv_at hl 1 rfl) ?_
  refine lv_icmp_eq (tgt := 1644) hx hb dL_law_1639 (by decide) (fun _ => ?_) (fun c9 => absurd hJ0 c9)
  refine lv_iload hx hb dL_law_1644 (lv_at hl 1 rfl) ?_
  have fin : ∀ (ls : Array Slot), lv_has ls 9 [(7, .double v), (6, .int r0), (0, .ref b), (1, .ref (adh 0)), (2, .ref (adm 0)), (3, .ref o1), (4, .ref o2), (5, .int (nI j))] → W p l e room_1 s m #[Value.ref b] below meth c H locs (cells + 1 + 0 + 0) (slots + 6 + 0 + 0) Q (F0 m 1681 ls []) := fun ls hl => lv_goto (tgt := 2072) hx hb dL_law_1681 (by decide) (W.widen (k := cells + 207) (n := slots + 1642) (by omega) (by omega) (kk _ _ _ _ _ _ _ _ _ _ _ _ _ _ _ _ hM hY hS hR2 hh2 (lv_sub hl [2, 3, 4, 5, 6, 7] rfl)))
  refine lv_if_ne (tgt := 1681) hx hb dL_law_1646 (by decide) (fun _ => fin ls hl) (fun c2 => ?_)
  have hg1 := hg c2
  have hv1 := hvw c2
  refine lv_aload hx hb dL_law_1649 (lv_at hl 6 rfl) ?_
  refine lv_iconst (v := 0) hx hb dL_law_1651 (by decide) ?_
  refine va_dald hx hb hK hY.2.2.1 0 6 rfl rfl vin0 dL_law_1652 ?_
  refine lv_dload hx hb dL_law_1653 (lv_at hl 0 rfl) ?_
  refine lv_dcmp hx hb dL_law_1655 ?_
  have hq9 : g1 (0 : Int32).toNatClampNeg = v := hg1.trans hv1.1
  rw [hq9]
  exact lv_if_eq (tgt := 1681) hx hb dL_law_1656 (by decide) (fun _ => fin ls hl) (fun c9 => absurd (dcmp_self hv1.2 _) c9)
