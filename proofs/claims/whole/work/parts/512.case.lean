set_option maxHeartbeats 8000000 in
set_option maxRecDepth 100000 in
theorem lc_wash {p : Program} {l : Launch} {e : Env} {s : State} {m : MethodId} {below : List Frame} {meth : Method} {c : Code} {b Lx : Nat} {xs : Nat → Int32} (hl0 : l.stackTraces = false) (hL : Lx ≤ 3072) (C0 : lw_At p s m meth c b Lx xs) {dC : Nat → ClassId} {dI : Nat → Nat → Nat} {cy : Nat → ClassId} {cL : ClassId} {sa : Nat → Nat} {t0 : Nat} {adh : Nat → Nat} {o1 o2 : Nat} (hK0 : LK dC dI cy cL sa t0 s) (hG : LG adh o1 o2 s.heap.size) {L : List Nat} {a b1 : Nat} {adm : Nat → Nat} (hM : LM adh o1 o2 t0 s.heap.size L a b1 adm) {I : MI} {D : MD} {J : MI} {E : MD} {f1 : Nat → Int64} {f2 : Nat → UInt64} {H : Heap} {locs : List Loc} (hY : LH dC dI cy cL adh o1 o2 L a b1 adm I D J E f1 f2 H) (hS : va_S (fun q => s.heap.size ≤ q) s.heap H locs) {c1 d1 h1 : Nat} (hR : RR 0 a b1 c1 d1 h1 I D J E) (hh : h1 + 48 < 2 ^ 20) {cells slots : Nat} (hc : cells + 207 ≤ 601024) (hs : slots + 1642 ≤ 7293034) {j : Nat} (hj : j + 6 ≤ Lx) {ls : Array Slot} (hl : lv_has ls 9 [(0, .ref b), (1, .ref (adh 0)), (2, .ref (adm 0)), (3, .ref o1), (4, .ref o2), (5, .int (nI j))]) {Q : State → Prop} (kk : ∀ (L' : List Nat) (a' b' : Nat) (adm' : Nat → Nat) (I' : MI) (D' : MD) (J' : MI) (E' : MD) (f1' : Nat → Int64) (f2' : Nat → UInt64) (H' : Heap) (locs' : List Loc) (c' d' h' : Nat) (ls' : Array Slot), LM adh o1 o2 t0 s.heap.size L' a' b' adm' → LH dC dI cy cL adh o1 o2 L' a' b' adm' I' D' J' E' f1' f2' H' → va_S (fun q => s.heap.size ≤ q) s.heap H' locs' → RR 0 a' b' c' d' h' I' D' J' E' → h' ≤ h1 + 48 → lv_has ls' 9 [(0, .ref b), (1, .ref (adh 0)), (2, .ref (adm' 0)), (3, .ref o1), (4, .ref o2), (5, .int (nI j))] → W p l e room_1 s m #[Value.ref b] below meth c H' locs' (cells + 207) (slots + 1642) Q (F0 m 2072 ls' [])) : W p l e room_1 s m #[Value.ref b] below meth c H locs cells slots Q (F0 m 595 ls []) := by
  obtain ⟨hx, hb, hr, hml, hown0, hts0, hX, hbl, hlocks, -⟩ := C0
  have hown : s.vm.findClass RL = some m.cls := hown0
  have hts : ∀ w ∈ wsL_law, w.before #[Value.ref b] s = true := fun w h => hts0 w (wsL_law_in w h)
  obtain ⟨hK, hN, hI, hca, hcb, hao, hZ, hT, hzs, hts9⟩ := hK0
  have hKt : va_K (dC, dI) vwCl (tysA cy) s := hK.sub [0, 1, 2, 3, 4, 5, 6, 7] rfl
  have hbA : ¬ (fun q : Nat => s.heap.size ≤ q) b := Nat.not_le.mpr hbl
  have hi1 : vp_in (nI j + 1) Lx := vin_k hj hL 1 (by decide)
  obtain ⟨v, J9, E9, r0, w, I9, D9, hy, hJ0, hw, hvw, c2, d2, h2, hh2, hR2⟩ := agW_law (a_wash hR (xs (nI j + 1).toNatClampNeg)) (by decide)
  refine lv_aload_n hx hb dL_law_595 rfl (lv_at hl 1 rfl) ?_
  refine lv_aload_n hx hb dL_law_596 rfl (lv_at hl 0 rfl) ?_
  refine lv_iload hx hb dL_law_597 (lv_at hl 5 rfl) ?_
  refine lv_iconst (v := 1) hx hb dL_law_599 (by decide) ?_
  refine lv_iadd hx hb dL_law_600 ?_
  refine va_sld hx hb hX hbl hbA hS hi1 dL_law_601 ?_
  refine lv_aload_n hx hb dL_law_602 rfl (lv_at hl 3 rfl) ?_
  have hAO := AO_out (z := H.size) hG.2.2.2.2.2.1 hG.2.2.2.2.1 hS.1
  refine vx_calli (vx_runSX (As := [.ref (adh 0), .int (xs (nI j + 1).toNatClampNeg), .ref o1]) (rest := []) ⟨hx, hb, hml, hown, hts⟩ (wL_wash l hl0 dC dI adh cy cL hG.1 sa o1 hG.2.1 H.size I D f1 (xs (nI j + 1).toNatClampNeg) r0 w I9 D9 hw) (vx_cwSW 3 hts gL_law_L_wash rfl rfl rfl (by decide +kernel) ⟨Nat.le_of_ble_eq_true rfl, Nat.le_of_ble_eq_true rfl⟩) (hO.preX [.ref (adh 0), .int (xs (nI j + 1).toNatClampNeg), .ref o1] (va_Pcons hY.2.1 hY.1) hK hN (xS_kept (B := AO o1 adh H.size) hZ hS hAO) hT) rfl rfl hl.1 rfl (lv_room (Nat.le_of_ble_eq_true rfl)) dL_law_603 ⟨by show cells + 1 ≤ 601024; omega, by show slots + 6 ≤ 7293034; omega⟩) hS (fun q _ h => hAO q h) hAO (fun q _ h => hAO q h) (fun E9 ce q9 u t H1 locs1 ht9 hvm hpu hBX hz1 hk1 hS h1 h2 h3 => hpu.elim) (fun r9 g1 t H1 locs ht9 hvm hw9 hB hz1 hk1 hS => ?_)
  rw [hw9.1]
  have hg := hw9.2
  have hY := lh_1 hY hG hM hk1 (by rw [← ht9]; exact hB)
  clear hw9 hB hz1 hk1 hvm ht9 hAO
  generalize H1 = H at hY hS ⊢
  refine lv_istore (lv' := [(6, .int r0), (0, .ref b), (1, .ref (adh 0)), (2, .ref (adm 0)), (3, .ref o1), (4, .ref o2), (5, .int (nI j))]) hx hb dL_law_606 hl (by decide) rfl (fun ls hl => ?_)
  refine lv_aload_n hx hb dL_law_608 rfl (lv_at hl 3 rfl) ?_
  refine lv_aload_n hx hb dL_law_609 rfl (lv_at hl 1 rfl) ?_
  refine lv_iload hx hb dL_law_610 (lv_at hl 6 rfl) ?_
  refine lv_iconst (v := 1) hx hb dL_law_612 (by decide) ?_
  refine lv_iadd hx hb dL_law_613 ?_
  refine va_sld hx hb hX hbl hbA hS hi1 dL_law_614 ?_
  obtain ⟨q0, hq0, hM0⟩ := heM_0 (cy := cy) (I := J) (D := E) hM.1
  have hAM := AM_out (z := H.size) (fun k hk => (hM.2.2.1 k hk).1) hS.1
  have hsz := hS.1
  refine va_calli (va_runV (As := [.int (xs (nI j + 1).toNatClampNeg)]) (rest := []) ⟨hx, hb, hml, hown, hts⟩ (mt_X7_wash l dC dI L a b1 adm cy hM.1 H.size J E (xs (nI j + 1).toNatClampNeg) v J9 E9 hy) (cwV 1 hts gL_law_X7_wash rfl rfl rfl (by decide +kernel) ⟨Nat.le_of_ble_eq_true rfl, Nat.le_of_ble_eq_true rfl⟩) ⟨(wM.pre [.ref (adm 0), .int (xs (nI j + 1).toNatClampNeg)] hY.2.2.2 hKt ⟨hN, hI⟩).1, wM.recv (C := RX7) (T := TX7) (N := 9) hY.2.2.2 hKt hM0 rfl, (wM.pre [.ref (adm 0), .int (xs (nI j + 1).toNatClampNeg)] hY.2.2.2 hKt ⟨hN, hI⟩).2⟩ rfl rfl hl.1 rfl (lv_room (Nat.le_of_ble_eq_true rfl)) dL_law_615 ⟨by show cells + 1 + 0 ≤ 601024; omega, by show slots + 6 + 0 ≤ 7293034; omega⟩) hS (fun q _ h => hAM q h) hAM (fun r9 u t H1 locs ht hvm hw8 hB hz1 hk1 hS => ?_)
  subst hw8
  have hY := lh_M hY hM hk1 (by rw [← ht]; exact hB.1)
  clear hB hz1 hk1 hvm ht hAM hsz
  generalize H1 = H at hY hS ⊢
  refine lv_istore (lv' := [(7, .int v), (6, .int r0), (0, .ref b), (1, .ref (adh 0)), (2, .ref (adm 0)), (3, .ref o1), (4, .ref o2), (5, .int (nI j))]) hx hb dL_law_618 hl (by decide) rfl (fun ls hl => ?_)
  refine lv_aload_n hx hb dL_law_620 rfl (lv_at hl 4 rfl) ?_
  obtain ⟨q2, hq2, hM2⟩ := heM_0 (cy := cy) (I := J9) (D := E9) hM.1
  refine va_calli (va_runV (As := []) (rest := []) ⟨hx, hb, hml, hown, hts⟩ (mt_X7_thrown l dC dI L a b1 adm cy hM.1 H.size J9 E9 (J9 0 0) rfl) (cwV 0 hts gL_law_X7_thrown rfl rfl rfl (by decide +kernel) ⟨Nat.le_of_ble_eq_true rfl, Nat.le_of_ble_eq_true rfl⟩) ⟨(wM.pre [.ref (adm 0)] hY.2.2.2 hKt ⟨hN, hI⟩).1, wM.recv (C := RX7) (T := TX7) (N := 9) hY.2.2.2 hKt hM2 rfl, (wM.pre [.ref (adm 0)] hY.2.2.2 hKt ⟨hN, hI⟩).2⟩ rfl rfl hl.1 rfl (lv_room (Nat.le_of_ble_eq_true rfl)) dL_law_621 ⟨by show cells + 1 + 0 + 0 ≤ 601024; omega, by show slots + 6 + 0 + 0 ≤ 7293034; omega⟩) hS (fun q _ h => Nat.le_trans hS.1 h) (fun q h => Nat.le_trans hS.1 h) (fun r9 u t H1 locs ht hvm hw8 hB hz1 hk1 hS => ?_)
  subst hw8
  have hY := lh_new hY hk1
  clear hB hz1 hk1 hvm ht
  generalize H1 = H at hY hS ⊢
  refine lv_iload hx hb dL_law_624 (lv_at hl 1 rfl) ?_
  refine lv_icmp_eq (tgt := 631) hx hb dL_law_626 (by decide) (fun _ => ?_) (fun c9 => absurd hJ0 c9)
  refine lv_iload hx hb dL_law_631 (lv_at hl 1 rfl) ?_
  have fin : ∀ (ls : Array Slot), lv_has ls 9 [(7, .int v), (6, .int r0), (0, .ref b), (1, .ref (adh 0)), (2, .ref (adm 0)), (3, .ref o1), (4, .ref o2), (5, .int (nI j))] → W p l e room_1 s m #[Value.ref b] below meth c H locs (cells + 1 + 0 + 0) (slots + 6 + 0 + 0) Q (F0 m 648 ls []) := fun ls hl => lv_goto (tgt := 2072) hx hb dL_law_648 (by decide) (W.widen (k := cells + 207) (n := slots + 1642) (by omega) (by omega) (kk _ _ _ _ _ _ _ _ _ _ _ _ _ _ _ _ hM hY hS hR2 hh2 (lv_sub hl [2, 3, 4, 5, 6, 7] rfl)))
  refine lv_if_ne (tgt := 648) hx hb dL_law_633 (by decide) (fun _ => fin ls hl) (fun c2 => ?_)
  have hg1 := hg c2
  have hv1 := hvw c2
  refine lv_aload_n hx hb dL_law_636 rfl (lv_at hl 5 rfl) ?_
  refine lv_iconst (v := 0) hx hb dL_law_637 (by decide) ?_
  refine va_lald hx hb hK hY.2.1 0 8 rfl rfl vin0 dL_law_638 ?_
  refine lv_iload hx hb dL_law_639 (lv_at hl 0 rfl) ?_
  refine lv_i2l hx hb dL_law_641 rfl ?_
  refine W.lcmp hx hb dL_law_642 ?_
  have hq9 : g1 (0 : Int32).toNatClampNeg = v.toInt64 := hg1.trans (congrArg Int32.toInt64 hv1.1)
  rw [hq9]
  exact lv_if_eq (tgt := 648) hx hb dL_law_643 (by decide) (fun _ => fin ls hl) (fun c9 => absurd (lcmp_self _) c9)

set_option maxHeartbeats 8000000 in
set_option maxRecDepth 100000 in
theorem lc_harden {p : Program} {l : Launch} {e : Env} {s : State} {m : MethodId} {below : List Frame} {meth : Method} {c : Code} {b Lx : Nat} {xs : Nat → Int32} (hl0 : l.stackTraces = false) (hL : Lx ≤ 3072) (C0 : lw_At p s m meth c b Lx xs) {dC : Nat → ClassId} {dI : Nat → Nat → Nat} {cy : Nat → ClassId} {cL : ClassId} {sa : Nat → Nat} {t0 : Nat} {adh : Nat → Nat} {o1 o2 : Nat} (hK0 : LK dC dI cy cL sa t0 s) (hG : LG adh o1 o2 s.heap.size) {L : List Nat} {a b1 : Nat} {adm : Nat → Nat} (hM : LM adh o1 o2 t0 s.heap.size L a b1 adm) {I : MI} {D : MD} {J : MI} {E : MD} {f1 : Nat → Int64} {f2 : Nat → UInt64} {H : Heap} {locs : List Loc} (hY : LH dC dI cy cL adh o1 o2 L a b1 adm I D J E f1 f2 H) (hS : va_S (fun q => s.heap.size ≤ q) s.heap H locs) {c1 d1 h1 : Nat} (hR : RR 0 a b1 c1 d1 h1 I D J E) (hh : h1 + 48 < 2 ^ 20) {cells slots : Nat} (hc : cells + 207 ≤ 601024) (hs : slots + 1642 ≤ 7293034) {j : Nat} (hj : j + 6 ≤ Lx) {ls : Array Slot} (hl : lv_has ls 9 [(0, .ref b), (1, .ref (adh 0)), (2, .ref (adm 0)), (3, .ref o1), (4, .ref o2), (5, .int (nI j))]) {Q : State → Prop} (kk : ∀ (L' : List Nat) (a' b' : Nat) (adm' : Nat → Nat) (I' : MI) (D' : MD) (J' : MI) (E' : MD) (f1' : Nat → Int64) (f2' : Nat → UInt64) (H' : Heap) (locs' : List Loc) (c' d' h' : Nat) (ls' : Array Slot), LM adh o1 o2 t0 s.heap.size L' a' b' adm' → LH dC dI cy cL adh o1 o2 L' a' b' adm' I' D' J' E' f1' f2' H' → va_S (fun q => s.heap.size ≤ q) s.heap H' locs' → RR 0 a' b' c' d' h' I' D' J' E' → h' ≤ h1 + 48 → lv_has ls' 9 [(0, .ref b), (1, .ref (adh 0)), (2, .ref (adm' 0)), (3, .ref o1), (4, .ref o2), (5, .int (nI j))] → W p l e room_1 s m #[Value.ref b] below meth c H' locs' (cells + 207) (slots + 1642) Q (F0 m 2072 ls' [])) : W p l e room_1 s m #[Value.ref b] below meth c H locs cells slots Q (F0 m 651 ls []) := by
  obtain ⟨hx, hb, hr, hml, hown0, hts0, hX, hbl, hlocks, -⟩ := C0
  have hown : s.vm.findClass RL = some m.cls := hown0
  have hts : ∀ w ∈ wsL_law, w.before #[Value.ref b] s = true := fun w h => hts0 w (wsL_law_in w h)
  obtain ⟨hK, hN, hI, hca, hcb, hao, hZ, hT, hzs, hts9⟩ := hK0
  have hKt : va_K (dC, dI) vwCl (tysA cy) s := hK.sub [0, 1, 2, 3, 4, 5, 6, 7] rfl
  have hbA : ¬ (fun q : Nat => s.heap.size ≤ q) b := Nat.not_le.mpr hbl
  have hi1 : vp_in (nI j + 1) Lx := vin_k hj hL 1 (by decide)
  have hi2 : vp_in (nI j + 2) Lx := vin_k hj hL 2 (by decide)
  obtain ⟨v, J9, E9, r0, w, I9, D9, hy, hJ0, hw, hvw, c2, d2, h2, hh2, hR2⟩ := agW_law (a_harden hR hh (xs (nI j + 1).toNatClampNeg) (xs (nI j + 2).toNatClampNeg)) (by decide)
  refine lv_aload_n hx hb dL_law_651 rfl (lv_at hl 1 rfl) ?_
  refine lv_aload_n hx hb dL_law_652 rfl (lv_at hl 0 rfl) ?_
  refine lv_iload hx hb dL_law_653 (lv_at hl 5 rfl) ?_
  refine lv_iconst (v := 1) hx hb dL_law_655 (by decide) ?_
  refine lv_iadd hx hb dL_law_656 ?_
  refine va_sld hx hb hX hbl hbA hS hi1 dL_law_657 ?_
  refine lv_aload_n hx hb dL_law_658 rfl (lv_at hl 0 rfl) ?_
  refine lv_iload hx hb dL_law_659 (lv_at hl 5 rfl) ?_
  refine lv_iconst (v := 2) hx hb dL_law_661 (by decide) ?_
  refine lv_iadd hx hb dL_law_662 ?_
  refine va_sld hx hb hX hbl hbA hS hi2 dL_law_663 ?_
  refine lv_aload hx hb dL_law_664 (lv_at hl 4 rfl) ?_
  have hAO := AO_out (z := H.size) hG.2.2.2.2.2.2 hG.2.2.2.2.1 hS.1
  refine vx_calli (vx_runSX (As := [.ref (adh 0), .int (xs (nI j + 1).toNatClampNeg), .int (xs (nI j + 2).toNatClampNeg), .ref o2]) (rest := []) ⟨hx, hb, hml, hown, hts⟩ (wL_harden l hl0 dC dI adh cy cL hG.1 sa o2 hG.2.2.1 H.size I D f2 (xs (nI j + 1).toNatClampNeg) (xs (nI j + 2).toNatClampNeg) r0 w I9 D9 hw) (vx_cwSW 4 hts gL_law_L_harden rfl rfl rfl (by decide +kernel) ⟨Nat.le_of_ble_eq_true rfl, Nat.le_of_ble_eq_true rfl⟩) (hO.preX [.ref (adh 0), .int (xs (nI j + 1).toNatClampNeg), .int (xs (nI j + 2).toNatClampNeg), .ref o2] (va_Pcons hY.2.2.1 hY.1) hK hN (xS_kept (B := AO o2 adh H.size) hZ hS hAO) hT) rfl rfl hl.1 rfl (lv_room (Nat.le_of_ble_eq_true rfl)) dL_law_666 ⟨by show cells + 1 ≤ 601024; omega, by show slots + 6 ≤ 7293034; omega⟩) hS (fun q _ h => hAO q h) hAO (fun q _ h => hAO q h) (fun E9 ce q9 u t H1 locs1 ht9 hvm hpu hBX hz1 hk1 hS h1 h2 h3 => hpu.elim) (fun r9 g1 t H1 locs ht9 hvm hw9 hB hz1 hk1 hS => ?_)
  rw [hw9.1]
  have hg := hw9.2
  have hY := lh_2 hY hG hM hk1 (by rw [← ht9]; exact hB)
  clear hw9 hB hz1 hk1 hvm ht9 hAO
  generalize H1 = H at hY hS ⊢
  refine lv_istore (lv' := [(6, .int r0), (0, .ref b), (1, .ref (adh 0)), (2, .ref (adm 0)), (3, .ref o1), (4, .ref o2), (5, .int (nI j))]) hx hb dL_law_669 hl (by decide) rfl (fun ls hl => ?_)
  refine lv_aload_n hx hb dL_law_671 rfl (lv_at hl 3 rfl) ?_
  refine lv_aload_n hx hb dL_law_672 rfl (lv_at hl 1 rfl) ?_
  refine lv_iload hx hb dL_law_673 (lv_at hl 6 rfl) ?_
  refine lv_iconst (v := 1) hx hb dL_law_675 (by decide) ?_
  refine lv_iadd hx hb dL_law_676 ?_
  refine va_sld hx hb hX hbl hbA hS hi1 dL_law_677 ?_
  refine lv_aload_n hx hb dL_law_678 rfl (lv_at hl 1 rfl) ?_
  refine lv_iload hx hb dL_law_679 (lv_at hl 6 rfl) ?_
  refine lv_iconst (v := 2) hx hb dL_law_681 (by decide) ?_
  refine lv_iadd hx hb dL_law_682 ?_
  refine va_sld hx hb hX hbl hbA hS hi2 dL_law_683 ?_
  obtain ⟨q0, hq0, hM0⟩ := heM_0 (cy := cy) (I := J) (D := E) hM.1
  have hAM := AM_out (z := H.size) (fun k hk => (hM.2.2.1 k hk).1) hS.1
  have hsz := hS.1
  refine va_calld (va_runV (As := [.int (xs (nI j + 1).toNatClampNeg), .int (xs (nI j + 2).toNatClampNeg)]) (rest := []) ⟨hx, hb, hml, hown, hts⟩ (mt_X7_harden l dC dI L a b1 adm cy hM.1 H.size J E (xs (nI j + 1).toNatClampNeg) (xs (nI j + 2).toNatClampNeg) v J9 E9 hy) (cwV 2 hts gL_law_X7_harden rfl rfl rfl (by decide +kernel) ⟨Nat.le_of_ble_eq_true rfl, Nat.le_of_ble_eq_true rfl⟩) ⟨(wM.pre [.ref (adm 0), .int (xs (nI j + 1).toNatClampNeg), .int (xs (nI j + 2).toNatClampNeg)] hY.2.2.2 hKt ⟨hN, hI⟩).1, wM.recv (C := RX7) (T := TX7) (N := 9) hY.2.2.2 hKt hM0 rfl, (wM.pre [.ref (adm 0), .int (xs (nI j + 1).toNatClampNeg), .int (xs (nI j + 2).toNatClampNeg)] hY.2.2.2 hKt ⟨hN, hI⟩).2⟩ rfl rfl hl.1 rfl (lv_room (Nat.le_of_ble_eq_true rfl)) dL_law_684 ⟨by show cells + 1 + 0 ≤ 601024; omega, by show slots + 6 + 0 ≤ 7293034; omega⟩) hS (fun q _ h => hAM q h) hAM (fun r9 u t H1 locs ht hvm hw8 hB hz1 hk1 hS => ?_)
  subst hw8
  have hY := lh_M hY hM hk1 (by rw [← ht]; exact hB.1)
  clear hB hz1 hk1 hvm ht hAM hsz
  generalize H1 = H at hY hS ⊢
  refine lv_dstore (lv' := [(7, .double v), (6, .int r0), (0, .ref b), (1, .ref (adh 0)), (2, .ref (adm 0)), (3, .ref o1), (4, .ref o2), (5, .int (nI j))]) hx hb dL_law_687 hl (by decide) rfl (fun ls hl => ?_)
  refine lv_aload_n hx hb dL_law_689 rfl (lv_at hl 4 rfl) ?_
  obtain ⟨q2, hq2, hM2⟩ := heM_0 (cy := cy) (I := J9) (D := E9) hM.1
  refine va_calli (va_runV (As := []) (rest := []) ⟨hx, hb, hml, hown, hts⟩ (mt_X7_thrown l dC dI L a b1 adm cy hM.1 H.size J9 E9 (J9 0 0) rfl) (cwV 0 hts gL_law_X7_thrown rfl rfl rfl (by decide +kernel) ⟨Nat.le_of_ble_eq_true rfl, Nat.le_of_ble_eq_true rfl⟩) ⟨(wM.pre [.ref (adm 0)] hY.2.2.2 hKt ⟨hN, hI⟩).1, wM.recv (C := RX7) (T := TX7) (N := 9) hY.2.2.2 hKt hM2 rfl, (wM.pre [.ref (adm 0)] hY.2.2.2 hKt ⟨hN, hI⟩).2⟩ rfl rfl hl.1 rfl (lv_room (Nat.le_of_ble_eq_true rfl)) dL_law_690 ⟨by show cells + 1 + 0 + 0 ≤ 601024; omega, by show slots + 6 + 0 + 0 ≤ 7293034; omega⟩) hS (fun q _ h => Nat.le_trans hS.1 h) (fun q h => Nat.le_trans hS.1 h) (fun r9 u t H1 locs ht hvm hw8 hB hz1 hk1 hS => ?_)
  subst hw8
  have hY := lh_new hY hk1
  clear hB hz1 hk1 hvm ht
  generalize H1 = H at hY hS ⊢
  refine lv_iload hx hb dL_law_693 (lv_at hl 1 rfl) ?_
  refine lv_icmp_eq (tgt := 700) hx hb dL_law_695 (by decide) (fun _ => ?_) (fun c9 => absurd hJ0 c9)
  refine lv_iload hx hb dL_law_700 (lv_at hl 1 rfl) ?_
  have fin : ∀ (ls : Array Slot), lv_has ls 9 [(7, .double v), (6, .int r0), (0, .ref b), (1, .ref (adh 0)), (2, .ref (adm 0)), (3, .ref o1), (4, .ref o2), (5, .int (nI j))] → W p l e room_1 s m #[Value.ref b] below meth c H locs (cells + 1 + 0 + 0) (slots + 6 + 0 + 0) Q (F0 m 737 ls []) := fun ls hl => lv_goto (tgt := 2072) hx hb dL_law_737 (by decide) (W.widen (k := cells + 207) (n := slots + 1642) (by omega) (by omega) (kk _ _ _ _ _ _ _ _ _ _ _ _ _ _ _ _ hM hY hS hR2 hh2 (lv_sub hl [2, 3, 4, 5, 6, 7] rfl)))
  refine lv_if_ne (tgt := 737) hx hb dL_law_702 (by decide) (fun _ => fin ls hl) (fun c2 => ?_)
  have hg1 := hg c2
  have hv1 := hvw c2
  refine lv_aload hx hb dL_law_705 (lv_at hl 6 rfl) ?_
  refine lv_iconst (v := 0) hx hb dL_law_707 (by decide) ?_
  refine va_dald hx hb hK hY.2.2.1 0 6 rfl rfl vin0 dL_law_708 ?_
  refine lv_dload hx hb dL_law_709 (lv_at hl 0 rfl) ?_
  refine lv_dcmp hx hb dL_law_711 ?_
  have hq9 : g1 (0 : Int32).toNatClampNeg = v := hg1.trans hv1.1
  rw [hq9]
  exact lv_if_eq (tgt := 737) hx hb dL_law_712 (by decide) (fun _ => fin ls hl) (fun c9 => absurd (dcmp_self hv1.2 _) c9)

set_option maxHeartbeats 8000000 in
set_option maxRecDepth 100000 in
theorem lc_store {p : Program} {l : Launch} {e : Env} {s : State} {m : MethodId} {below : List Frame} {meth : Method} {c : Code} {b Lx : Nat} {xs : Nat → Int32} (hl0 : l.stackTraces = false) (hL : Lx ≤ 3072) (C0 : lw_At p s m meth c b Lx xs) {dC : Nat → ClassId} {dI : Nat → Nat → Nat} {cy : Nat → ClassId} {cL : ClassId} {sa : Nat → Nat} {t0 : Nat} {adh : Nat → Nat} {o1 o2 : Nat} (hK0 : LK dC dI cy cL sa t0 s) (hG : LG adh o1 o2 s.heap.size) {L : List Nat} {a b1 : Nat} {adm : Nat → Nat} (hM : LM adh o1 o2 t0 s.heap.size L a b1 adm) {I : MI} {D : MD} {J : MI} {E : MD} {f1 : Nat → Int64} {f2 : Nat → UInt64} {H : Heap} {locs : List Loc} (hY : LH dC dI cy cL adh o1 o2 L a b1 adm I D J E f1 f2 H) (hS : va_S (fun q => s.heap.size ≤ q) s.heap H locs) {c1 d1 h1 : Nat} (hR : RR 0 a b1 c1 d1 h1 I D J E) (hh : h1 + 48 < 2 ^ 20) {cells slots : Nat} (hc : cells + 207 ≤ 601024) (hs : slots + 1642 ≤ 7293034) {j : Nat} (hj : j + 6 ≤ Lx) {ls : Array Slot} (hl : lv_has ls 9 [(0, .ref b), (1, .ref (adh 0)), (2, .ref (adm 0)), (3, .ref o1), (4, .ref o2), (5, .int (nI j))]) {Q : State → Prop} (kk : ∀ (L' : List Nat) (a' b' : Nat) (adm' : Nat → Nat) (I' : MI) (D' : MD) (J' : MI) (E' : MD) (f1' : Nat → Int64) (f2' : Nat → UInt64) (H' : Heap) (locs' : List Loc) (c' d' h' : Nat) (ls' : Array Slot), LM adh o1 o2 t0 s.heap.size L' a' b' adm' → LH dC dI cy cL adh o1 o2 L' a' b' adm' I' D' J' E' f1' f2' H' → va_S (fun q => s.heap.size ≤ q) s.heap H' locs' → RR 0 a' b' c' d' h' I' D' J' E' → h' ≤ h1 + 48 → lv_has ls' 9 [(0, .ref b), (1, .ref (adh 0)), (2, .ref (adm' 0)), (3, .ref o1), (4, .ref o2), (5, .int (nI j))] → W p l e room_1 s m #[Value.ref b] below meth c H' locs' (cells + 207) (slots + 1642) Q (F0 m 2072 ls' [])) : W p l e room_1 s m #[Value.ref b] below meth c H locs cells slots Q (F0 m 740 ls []) := by
  obtain ⟨hx, hb, hr, hml, hown0, hts0, hX, hbl, hlocks, -⟩ := C0
  have hown : s.vm.findClass RL = some m.cls := hown0
  have hts : ∀ w ∈ wsL_law, w.before #[Value.ref b] s = true := fun w h => hts0 w (wsL_law_in w h)
  obtain ⟨hK, hN, hI, hca, hcb, hao, hZ, hT, hzs, hts9⟩ := hK0
  have hKt : va_K (dC, dI) vwCl (tysA cy) s := hK.sub [0, 1, 2, 3, 4, 5, 6, 7] rfl
  have hbA : ¬ (fun q : Nat => s.heap.size ≤ q) b := Nat.not_le.mpr hbl
  have hi1 : vp_in (nI j + 1) Lx := vin_k hj hL 1 (by decide)
  obtain ⟨v, J9, E9, r0, w, I9, D9, hy, hJ0, hw, hvw, c2, d2, h2, hh2, hR2⟩ := agW_law (a_store hR (xs (nI j + 1).toNatClampNeg)) (by decide)
  refine lv_aload_n hx hb dL_law_740 rfl (lv_at hl 1 rfl) ?_
  refine lv_aload_n hx hb dL_law_741 rfl (lv_at hl 0 rfl) ?_
  refine lv_iload hx hb dL_law_742 (lv_at hl 5 rfl) ?_
  refine lv_iconst (v := 1) hx hb dL_law_744 (by decide) ?_
  refine lv_iadd hx hb dL_law_745 ?_
  refine va_sld hx hb hX hbl hbA hS hi1 dL_law_746 ?_
  refine lv_aload_n hx hb dL_law_747 rfl (lv_at hl 3 rfl) ?_
  have hAO := AO_out (z := H.size) hG.2.2.2.2.2.1 hG.2.2.2.2.1 hS.1
  refine vx_calli (vx_runSX (As := [.ref (adh 0), .int (xs (nI j + 1).toNatClampNeg), .ref o1]) (rest := []) ⟨hx, hb, hml, hown, hts⟩ (wL_store l hl0 dC dI adh cy cL hG.1 sa o1 hG.2.1 H.size I D f1 (xs (nI j + 1).toNatClampNeg) r0 w I9 D9 hw) (vx_cwSW 3 hts gL_law_L_store rfl rfl rfl (by decide +kernel) ⟨Nat.le_of_ble_eq_true rfl, Nat.le_of_ble_eq_true rfl⟩) (hO.preX [.ref (adh 0), .int (xs (nI j + 1).toNatClampNeg), .ref o1] (va_Pcons hY.2.1 hY.1) hK hN (xS_kept (B := AO o1 adh H.size) hZ hS hAO) hT) rfl rfl hl.1 rfl (lv_room (Nat.le_of_ble_eq_true rfl)) dL_law_748 ⟨by show cells + 1 ≤ 601024; omega, by show slots + 6 ≤ 7293034; omega⟩) hS (fun q _ h => hAO q h) hAO (fun q _ h => hAO q h) (fun E9 ce q9 u t H1 locs1 ht9 hvm hpu hBX hz1 hk1 hS h1 h2 h3 => hpu.elim) (fun r9 g1 t H1 locs ht9 hvm hw9 hB hz1 hk1 hS => ?_)
  rw [hw9.1]
  have hg := hw9.2
  have hY := lh_1 hY hG hM hk1 (by rw [← ht9]; exact hB)
  clear hw9 hB hz1 hk1 hvm ht9 hAO
  generalize H1 = H at hY hS ⊢
  refine lv_istore (lv' := [(6, .int r0), (0, .ref b), (1, .ref (adh 0)), (2, .ref (adm 0)), (3, .ref o1), (4, .ref o2), (5, .int (nI j))]) hx hb dL_law_751 hl (by decide) rfl (fun ls hl => ?_)
  refine lv_aload_n hx hb dL_law_753 rfl (lv_at hl 3 rfl) ?_
  refine lv_aload_n hx hb dL_law_754 rfl (lv_at hl 1 rfl) ?_
  refine lv_iload hx hb dL_law_755 (lv_at hl 6 rfl) ?_
  refine lv_iconst (v := 1) hx hb dL_law_757 (by decide) ?_
  refine lv_iadd hx hb dL_law_758 ?_
  refine va_sld hx hb hX hbl hbA hS hi1 dL_law_759 ?_
  obtain ⟨q0, hq0, hM0⟩ := heM_0 (cy := cy) (I := J) (D := E) hM.1
  have hAM := AM_out (z := H.size) (fun k hk => (hM.2.2.1 k hk).1) hS.1
  have hsz := hS.1
  refine va_calli (va_runV (As := [.int (xs (nI j + 1).toNatClampNeg)]) (rest := []) ⟨hx, hb, hml, hown, hts⟩ (mt_X7_store l dC dI L a b1 adm cy hM.1 H.size J E (xs (nI j + 1).toNatClampNeg) v J9 E9 hy) (cwV 1 hts gL_law_X7_store rfl rfl rfl (by decide +kernel) ⟨Nat.le_of_ble_eq_true rfl, Nat.le_of_ble_eq_true rfl⟩) ⟨(wM.pre [.ref (adm 0), .int (xs (nI j + 1).toNatClampNeg)] hY.2.2.2 hKt ⟨hN, hI⟩).1, wM.recv (C := RX7) (T := TX7) (N := 9) hY.2.2.2 hKt hM0 rfl, (wM.pre [.ref (adm 0), .int (xs (nI j + 1).toNatClampNeg)] hY.2.2.2 hKt ⟨hN, hI⟩).2⟩ rfl rfl hl.1 rfl (lv_room (Nat.le_of_ble_eq_true rfl)) dL_law_760 ⟨by show cells + 1 + 0 ≤ 601024; omega, by show slots + 6 + 0 ≤ 7293034; omega⟩) hS (fun q _ h => hAM q h) hAM (fun r9 u t H1 locs ht hvm hw8 hB hz1 hk1 hS => ?_)
  subst hw8
  have hY := lh_M hY hM hk1 (by rw [← ht]; exact hB.1)
  clear hB hz1 hk1 hvm ht hAM hsz
  generalize H1 = H at hY hS ⊢
  refine lv_istore (lv' := [(7, .int v), (6, .int r0), (0, .ref b), (1, .ref (adh 0)), (2, .ref (adm 0)), (3, .ref o1), (4, .ref o2), (5, .int (nI j))]) hx hb dL_law_763 hl (by decide) rfl (fun ls hl => ?_)
  refine lv_aload_n hx hb dL_law_765 rfl (lv_at hl 4 rfl) ?_
  obtain ⟨q2, hq2, hM2⟩ := heM_0 (cy := cy) (I := J9) (D := E9) hM.1
  refine va_calli (va_runV (As := []) (rest := []) ⟨hx, hb, hml, hown, hts⟩ (mt_X7_thrown l dC dI L a b1 adm cy hM.1 H.size J9 E9 (J9 0 0) rfl) (cwV 0 hts gL_law_X7_thrown rfl rfl rfl (by decide +kernel) ⟨Nat.le_of_ble_eq_true rfl, Nat.le_of_ble_eq_true rfl⟩) ⟨(wM.pre [.ref (adm 0)] hY.2.2.2 hKt ⟨hN, hI⟩).1, wM.recv (C := RX7) (T := TX7) (N := 9) hY.2.2.2 hKt hM2 rfl, (wM.pre [.ref (adm 0)] hY.2.2.2 hKt ⟨hN, hI⟩).2⟩ rfl rfl hl.1 rfl (lv_room (Nat.le_of_ble_eq_true rfl)) dL_law_766 ⟨by show cells + 1 + 0 + 0 ≤ 601024; omega, by show slots + 6 + 0 + 0 ≤ 7293034; omega⟩) hS (fun q _ h => Nat.le_trans hS.1 h) (fun q h => Nat.le_trans hS.1 h) (fun r9 u t H1 locs ht hvm hw8 hB hz1 hk1 hS => ?_)
  subst hw8
  have hY := lh_new hY hk1
  clear hB hz1 hk1 hvm ht
  generalize H1 = H at hY hS ⊢
  refine lv_iload hx hb dL_law_769 (lv_at hl 1 rfl) ?_
  refine lv_icmp_eq (tgt := 776) hx hb dL_law_771 (by decide) (fun _ => ?_) (fun c9 => absurd hJ0 c9)
  refine lv_iload hx hb dL_law_776 (lv_at hl 1 rfl) ?_
  have fin : ∀ (ls : Array Slot), lv_has ls 9 [(7, .int v), (6, .int r0), (0, .ref b), (1, .ref (adh 0)), (2, .ref (adm 0)), (3, .ref o1), (4, .ref o2), (5, .int (nI j))] → W p l e room_1 s m #[Value.ref b] below meth c H locs (cells + 1 + 0 + 0) (slots + 6 + 0 + 0) Q (F0 m 793 ls []) := fun ls hl => lv_goto (tgt := 2072) hx hb dL_law_793 (by decide) (W.widen (k := cells + 207) (n := slots + 1642) (by omega) (by omega) (kk _ _ _ _ _ _ _ _ _ _ _ _ _ _ _ _ hM hY hS hR2 hh2 (lv_sub hl [2, 3, 4, 5, 6, 7] rfl)))
  refine lv_if_ne (tgt := 793) hx hb dL_law_778 (by decide) (fun _ => fin ls hl) (fun c2 => ?_)
  have hg1 := hg c2
  have hv1 := hvw c2
  refine lv_aload_n hx hb dL_law_781 rfl (lv_at hl 5 rfl) ?_
  refine lv_iconst (v := 0) hx hb dL_law_782 (by decide) ?_
  refine va_lald hx hb hK hY.2.1 0 8 rfl rfl vin0 dL_law_783 ?_
  refine lv_iload hx hb dL_law_784 (lv_at hl 0 rfl) ?_
  refine lv_i2l hx hb dL_law_786 rfl ?_
  refine W.lcmp hx hb dL_law_787 ?_
  have hq9 : g1 (0 : Int32).toNatClampNeg = v.toInt64 := hg1.trans (congrArg Int32.toInt64 hv1.1)
  rw [hq9]
  exact lv_if_eq (tgt := 793) hx hb dL_law_788 (by decide) (fun _ => fin ls hl) (fun c9 => absurd (lcmp_self _) c9)

set_option maxHeartbeats 8000000 in
set_option maxRecDepth 100000 in
theorem lc_set {p : Program} {l : Launch} {e : Env} {s : State} {m : MethodId} {below : List Frame} {meth : Method} {c : Code} {b Lx : Nat} {xs : Nat → Int32} (hl0 : l.stackTraces = false) (hL : Lx ≤ 3072) (C0 : lw_At p s m meth c b Lx xs) {dC : Nat → ClassId} {dI : Nat → Nat → Nat} {cy : Nat → ClassId} {cL : ClassId} {sa : Nat → Nat} {t0 : Nat} {adh : Nat → Nat} {o1 o2 : Nat} (hK0 : LK dC dI cy cL sa t0 s) (hG : LG adh o1 o2 s.heap.size) {L : List Nat} {a b1 : Nat} {adm : Nat → Nat} (hM : LM adh o1 o2 t0 s.heap.size L a b1 adm) {I : MI} {D : MD} {J : MI} {E : MD} {f1 : Nat → Int64} {f2 : Nat → UInt64} {H : Heap} {locs : List Loc} (hY : LH dC dI cy cL adh o1 o2 L a b1 adm I D J E f1 f2 H) (hS : va_S (fun q => s.heap.size ≤ q) s.heap H locs) {c1 d1 h1 : Nat} (hR : RR 0 a b1 c1 d1 h1 I D J E) (hh : h1 + 48 < 2 ^ 20) {cells slots : Nat} (hc : cells + 207 ≤ 601024) (hs : slots + 1642 ≤ 7293034) {j : Nat} (hj : j + 6 ≤ Lx) {ls : Array Slot} (hl : lv_has ls 9 [(0, .ref b), (1, .ref (adh 0)), (2, .ref (adm 0)), (3, .ref o1), (4, .ref o2), (5, .int (nI j))]) {Q : State → Prop} (kk : ∀ (L' : List Nat) (a' b' : Nat) (adm' : Nat → Nat) (I' : MI) (D' : MD) (J' : MI) (E' : MD) (f1' : Nat → Int64) (f2' : Nat → UInt64) (H' : Heap) (locs' : List Loc) (c' d' h' : Nat) (ls' : Array Slot), LM adh o1 o2 t0 s.heap.size L' a' b' adm' → LH dC dI cy cL adh o1 o2 L' a' b' adm' I' D' J' E' f1' f2' H' → va_S (fun q => s.heap.size ≤ q) s.heap H' locs' → RR 0 a' b' c' d' h' I' D' J' E' → h' ≤ h1 + 48 → lv_has ls' 9 [(0, .ref b), (1, .ref (adh 0)), (2, .ref (adm' 0)), (3, .ref o1), (4, .ref o2), (5, .int (nI j))] → W p l e room_1 s m #[Value.ref b] below meth c H' locs' (cells + 207) (slots + 1642) Q (F0 m 2072 ls' [])) : W p l e room_1 s m #[Value.ref b] below meth c H locs cells slots Q (F0 m 796 ls []) := by
  obtain ⟨hx, hb, hr, hml, hown0, hts0, hX, hbl, hlocks, -⟩ := C0
  have hown : s.vm.findClass RL = some m.cls := hown0
  have hts : ∀ w ∈ wsL_law, w.before #[Value.ref b] s = true := fun w h => hts0 w (wsL_law_in w h)
  obtain ⟨hK, hN, hI, hca, hcb, hao, hZ, hT, hzs, hts9⟩ := hK0
  have hKt : va_K (dC, dI) vwCl (tysA cy) s := hK.sub [0, 1, 2, 3, 4, 5, 6, 7] rfl
  have hbA : ¬ (fun q : Nat => s.heap.size ≤ q) b := Nat.not_le.mpr hbl
  have hi1 : vp_in (nI j + 1) Lx := vin_k hj hL 1 (by decide)
  have hi2 : vp_in (nI j + 2) Lx := vin_k hj hL 2 (by decide)
  obtain ⟨v, J9, E9, r0, w, I9, D9, hy, hJ0, hw, hvw, c2, d2, h2, hh2, hR2⟩ := agW_law (a_set hR (xs (nI j + 1).toNatClampNeg) (xs (nI j + 2).toNatClampNeg)) (by decide)
  refine lv_aload_n hx hb dL_law_796 rfl (lv_at hl 1 rfl) ?_
  refine lv_aload_n hx hb dL_law_797 rfl (lv_at hl 0 rfl) ?_
  refine lv_iload hx hb dL_law_798 (lv_at hl 5 rfl) ?_
  refine lv_iconst (v := 1) hx hb dL_law_800 (by decide) ?_
  refine lv_iadd hx hb dL_law_801 ?_
  refine va_sld hx hb hX hbl hbA hS hi1 dL_law_802 ?_
  refine lv_aload_n hx hb dL_law_803 rfl (lv_at hl 0 rfl) ?_
  refine lv_iload hx hb dL_law_804 (lv_at hl 5 rfl) ?_
  refine lv_iconst (v := 2) hx hb dL_law_806 (by decide) ?_
  refine lv_iadd hx hb dL_law_807 ?_
  refine va_sld hx hb hX hbl hbA hS hi2 dL_law_808 ?_
  refine lv_aload_n hx hb dL_law_809 rfl (lv_at hl 3 rfl) ?_
  have hAO := AO_out (z := H.size) hG.2.2.2.2.2.1 hG.2.2.2.2.1 hS.1
  refine vx_calli (vx_runSX (As := [.ref (adh 0), .int (xs (nI j + 1).toNatClampNeg), .int (xs (nI j + 2).toNatClampNeg), .ref o1]) (rest := []) ⟨hx, hb, hml, hown, hts⟩ (wL_set l hl0 dC dI adh cy cL hG.1 sa o1 hG.2.1 H.size I D f1 (xs (nI j + 1).toNatClampNeg) (xs (nI j + 2).toNatClampNeg) r0 w I9 D9 hw) (vx_cwSW 4 hts gL_law_L_set rfl rfl rfl (by decide +kernel) ⟨Nat.le_of_ble_eq_true rfl, Nat.le_of_ble_eq_true rfl⟩) (hO.preX [.ref (adh 0), .int (xs (nI j + 1).toNatClampNeg), .int (xs (nI j + 2).toNatClampNeg), .ref o1] (va_Pcons hY.2.1 hY.1) hK hN (xS_kept (B := AO o1 adh H.size) hZ hS hAO) hT) rfl rfl hl.1 rfl (lv_room (Nat.le_of_ble_eq_true rfl)) dL_law_810 ⟨by show cells + 1 ≤ 601024; omega, by show slots + 6 ≤ 7293034; omega⟩) hS (fun q _ h => hAO q h) hAO (fun q _ h => hAO q h) (fun E9 ce q9 u t H1 locs1 ht9 hvm hpu hBX hz1 hk1 hS h1 h2 h3 => hpu.elim) (fun r9 g1 t H1 locs ht9 hvm hw9 hB hz1 hk1 hS => ?_)
  rw [hw9.1]
  have hg := hw9.2
  have hY := lh_1 hY hG hM hk1 (by rw [← ht9]; exact hB)
  clear hw9 hB hz1 hk1 hvm ht9 hAO
  generalize H1 = H at hY hS ⊢
  refine lv_istore (lv' := [(6, .int r0), (0, .ref b), (1, .ref (adh 0)), (2, .ref (adm 0)), (3, .ref o1), (4, .ref o2), (5, .int (nI j))]) hx hb dL_law_813 hl (by decide) rfl (fun ls hl => ?_)
  refine lv_aload_n hx hb dL_law_815 rfl (lv_at hl 3 rfl) ?_
  refine lv_aload_n hx hb dL_law_816 rfl (lv_at hl 1 rfl) ?_
  refine lv_iload hx hb dL_law_817 (lv_at hl 6 rfl) ?_
  refine lv_iconst (v := 1) hx hb dL_law_819 (by decide) ?_
  refine lv_iadd hx hb dL_law_820 ?_
  refine va_sld hx hb hX hbl hbA hS hi1 dL_law_821 ?_
  refine lv_aload_n hx hb dL_law_822 rfl (lv_at hl 1 rfl) ?_
  refine lv_iload hx hb dL_law_823 (lv_at hl 6 rfl) ?_
  refine lv_iconst (v := 2) hx hb dL_law_825 (by decide) ?_
  refine lv_iadd hx hb dL_law_826 ?_
  refine va_sld hx hb hX hbl hbA hS hi2 dL_law_827 ?_
  obtain ⟨q0, hq0, hM0⟩ := heM_0 (cy := cy) (I := J) (D := E) hM.1
  have hAM := AM_out (z := H.size) (fun k hk => (hM.2.2.1 k hk).1) hS.1
  have hsz := hS.1
  refine va_calli (va_runV (As := [.int (xs (nI j + 1).toNatClampNeg), .int (xs (nI j + 2).toNatClampNeg)]) (rest := []) ⟨hx, hb, hml, hown, hts⟩ (mt_X7_set l dC dI L a b1 adm cy hM.1 H.size J E (xs (nI j + 1).toNatClampNeg) (xs (nI j + 2).toNatClampNeg) v J9 E9 hy) (cwV 2 hts gL_law_X7_set rfl rfl rfl (by decide +kernel) ⟨Nat.le_of_ble_eq_true rfl, Nat.le_of_ble_eq_true rfl⟩) ⟨(wM.pre [.ref (adm 0), .int (xs (nI j + 1).toNatClampNeg), .int (xs (nI j + 2).toNatClampNeg)] hY.2.2.2 hKt ⟨hN, hI⟩).1, wM.recv (C := RX7) (T := TX7) (N := 9) hY.2.2.2 hKt hM0 rfl, (wM.pre [.ref (adm 0), .int (xs (nI j + 1).toNatClampNeg), .int (xs (nI j + 2).toNatClampNeg)] hY.2.2.2 hKt ⟨hN, hI⟩).2⟩ rfl rfl hl.1 rfl (lv_room (Nat.le_of_ble_eq_true rfl)) dL_law_828 ⟨by show cells + 1 + 0 ≤ 601024; omega, by show slots + 6 + 0 ≤ 7293034; omega⟩) hS (fun q _ h => hAM q h) hAM (fun r9 u t H1 locs ht hvm hw8 hB hz1 hk1 hS => ?_)
  subst hw8
  have hY := lh_M hY hM hk1 (by rw [← ht]; exact hB.1)
  clear hB hz1 hk1 hvm ht hAM hsz
  generalize H1 = H at hY hS ⊢
  refine lv_istore (lv' := [(7, .int v), (6, .int r0), (0, .ref b), (1, .ref (adh 0)), (2, .ref (adm 0)), (3, .ref o1), (4, .ref o2), (5, .int (nI j))]) hx hb dL_law_831 hl (by decide) rfl (fun ls hl => ?_)
  refine lv_aload_n hx hb dL_law_833 rfl (lv_at hl 4 rfl) ?_
  obtain ⟨q2, hq2, hM2⟩ := heM_0 (cy := cy) (I := J9) (D := E9) hM.1
  refine va_calli (va_runV (As := []) (rest := []) ⟨hx, hb, hml, hown, hts⟩ (mt_X7_thrown l dC dI L a b1 adm cy hM.1 H.size J9 E9 (J9 0 0) rfl) (cwV 0 hts gL_law_X7_thrown rfl rfl rfl (by decide +kernel) ⟨Nat.le_of_ble_eq_true rfl, Nat.le_of_ble_eq_true rfl⟩) ⟨(wM.pre [.ref (adm 0)] hY.2.2.2 hKt ⟨hN, hI⟩).1, wM.recv (C := RX7) (T := TX7) (N := 9) hY.2.2.2 hKt hM2 rfl, (wM.pre [.ref (adm 0)] hY.2.2.2 hKt ⟨hN, hI⟩).2⟩ rfl rfl hl.1 rfl (lv_room (Nat.le_of_ble_eq_true rfl)) dL_law_834 ⟨by show cells + 1 + 0 + 0 ≤ 601024; omega, by show slots + 6 + 0 + 0 ≤ 7293034; omega⟩) hS (fun q _ h => Nat.le_trans hS.1 h) (fun q h => Nat.le_trans hS.1 h) (fun r9 u t H1 locs ht hvm hw8 hB hz1 hk1 hS => ?_)
  subst hw8
  have hY := lh_new hY hk1
  clear hB hz1 hk1 hvm ht
  generalize H1 = H at hY hS ⊢
  refine lv_iload hx hb dL_law_837 (lv_at hl 1 rfl) ?_
  refine lv_icmp_eq (tgt := 844) hx hb dL_law_839 (by decide) (fun _ => ?_) (fun c9 => absurd hJ0 c9)
  refine lv_iload hx hb dL_law_844 (lv_at hl 1 rfl) ?_
  have fin : ∀ (ls : Array Slot), lv_has ls 9 [(7, .int v), (6, .int r0), (0, .ref b), (1, .ref (adh 0)), (2, .ref (adm 0)), (3, .ref o1), (4, .ref o2), (5, .int (nI j))] → W p l e room_1 s m #[Value.ref b] below meth c H locs (cells + 1 + 0 + 0) (slots + 6 + 0 + 0) Q (F0 m 861 ls []) := fun ls hl => lv_goto (tgt := 2072) hx hb dL_law_861 (by decide) (W.widen (k := cells + 207) (n := slots + 1642) (by omega) (by omega) (kk _ _ _ _ _ _ _ _ _ _ _ _ _ _ _ _ hM hY hS hR2 hh2 (lv_sub hl [2, 3, 4, 5, 6, 7] rfl)))
  refine lv_if_ne (tgt := 861) hx hb dL_law_846 (by decide) (fun _ => fin ls hl) (fun c2 => ?_)
  have hg1 := hg c2
  have hv1 := hvw c2
  refine lv_aload_n hx hb dL_law_849 rfl (lv_at hl 5 rfl) ?_
  refine lv_iconst (v := 0) hx hb dL_law_850 (by decide) ?_
  refine va_lald hx hb hK hY.2.1 0 8 rfl rfl vin0 dL_law_851 ?_
  refine lv_iload hx hb dL_law_852 (lv_at hl 0 rfl) ?_
  refine lv_i2l hx hb dL_law_854 rfl ?_
  refine W.lcmp hx hb dL_law_855 ?_
  have hq9 : g1 (0 : Int32).toNatClampNeg = v.toInt64 := hg1.trans (congrArg Int32.toInt64 hv1.1)
  rw [hq9]
  exact lv_if_eq (tgt := 861) hx hb dL_law_856 (by decide) (fun _ => fin ls hl) (fun c9 => absurd (lcmp_self _) c9)

set_option maxHeartbeats 8000000 in
set_option maxRecDepth 100000 in
theorem lc_lay {p : Program} {l : Launch} {e : Env} {s : State} {m : MethodId} {below : List Frame} {meth : Method} {c : Code} {b Lx : Nat} {xs : Nat → Int32} (hl0 : l.stackTraces = false) (hL : Lx ≤ 3072) (C0 : lw_At p s m meth c b Lx xs) {dC : Nat → ClassId} {dI : Nat → Nat → Nat} {cy : Nat → ClassId} {cL : ClassId} {sa : Nat → Nat} {t0 : Nat} {adh : Nat → Nat} {o1 o2 : Nat} (hK0 : LK dC dI cy cL sa t0 s) (hG : LG adh o1 o2 s.heap.size) {L : List Nat} {a b1 : Nat} {adm : Nat → Nat} (hM : LM adh o1 o2 t0 s.heap.size L a b1 adm) {I : MI} {D : MD} {J : MI} {E : MD} {f1 : Nat → Int64} {f2 : Nat → UInt64} {H : Heap} {locs : List Loc} (hY : LH dC dI cy cL adh o1 o2 L a b1 adm I D J E f1 f2 H) (hS : va_S (fun q => s.heap.size ≤ q) s.heap H locs) {c1 d1 h1 : Nat} (hR : RR 0 a b1 c1 d1 h1 I D J E) (hh : h1 + 48 < 2 ^ 20) {cells slots : Nat} (hc : cells + 207 ≤ 601024) (hs : slots + 1642 ≤ 7293034) {j : Nat} (hj : j + 6 ≤ Lx) {ls : Array Slot} (hl : lv_has ls 9 [(0, .ref b), (1, .ref (adh 0)), (2, .ref (adm 0)), (3, .ref o1), (4, .ref o2), (5, .int (nI j))]) {Q : State → Prop} (kk : ∀ (L' : List Nat) (a' b' : Nat) (adm' : Nat → Nat) (I' : MI) (D' : MD) (J' : MI) (E' : MD) (f1' : Nat → Int64) (f2' : Nat → UInt64) (H' : Heap) (locs' : List Loc) (c' d' h' : Nat) (ls' : Array Slot), LM adh o1 o2 t0 s.heap.size L' a' b' adm' → LH dC dI cy cL adh o1 o2 L' a' b' adm' I' D' J' E' f1' f2' H' → va_S (fun q => s.heap.size ≤ q) s.heap H' locs' → RR 0 a' b' c' d' h' I' D' J' E' → h' ≤ h1 + 48 → lv_has ls' 9 [(0, .ref b), (1, .ref (adh 0)), (2, .ref (adm' 0)), (3, .ref o1), (4, .ref o2), (5, .int (nI j))] → W p l e room_1 s m #[Value.ref b] below meth c H' locs' (cells + 207) (slots + 1642) Q (F0 m 2072 ls' [])) : W p l e room_1 s m #[Value.ref b] below meth c H locs cells slots Q (F0 m 864 ls []) := by
  obtain ⟨hx, hb, hr, hml, hown0, hts0, hX, hbl, hlocks, -⟩ := C0
  have hown : s.vm.findClass RL = some m.cls := hown0
  have hts : ∀ w ∈ wsL_law, w.before #[Value.ref b] s = true := fun w h => hts0 w (wsL_law_in w h)
  obtain ⟨hK, hN, hI, hca, hcb, hao, hZ, hT, hzs, hts9⟩ := hK0
  have hKt : va_K (dC, dI) vwCl (tysA cy) s := hK.sub [0, 1, 2, 3, 4, 5, 6, 7] rfl
  have hbA : ¬ (fun q : Nat => s.heap.size ≤ q) b := Nat.not_le.mpr hbl
  have hi1 : vp_in (nI j + 1) Lx := vin_k hj hL 1 (by decide)
  have hi2 : vp_in (nI j + 2) Lx := vin_k hj hL 2 (by decide)
  obtain ⟨v, J9, E9, r0, w, I9, D9, hy, hJ0, hw, hvw, c2, d2, h2, hh2, hR2⟩ := agW_law (a_lay hR (xs (nI j + 1).toNatClampNeg) (xs (nI j + 2).toNatClampNeg)) (by decide)
  refine lv_aload_n hx hb dL_law_864 rfl (lv_at hl 1 rfl) ?_
  refine lv_aload_n hx hb dL_law_865 rfl (lv_at hl 0 rfl) ?_
  refine lv_iload hx hb dL_law_866 (lv_at hl 5 rfl) ?_
  refine lv_iconst (v := 1) hx hb dL_law_868 (by decide) ?_
  refine lv_iadd hx hb dL_law_869 ?_
  refine va_sld hx hb hX hbl hbA hS hi1 dL_law_870 ?_
  refine lv_aload_n hx hb dL_law_871 rfl (lv_at hl 0 rfl) ?_
  refine lv_iload hx hb dL_law_872 (lv_at hl 5 rfl) ?_
  refine lv_iconst (v := 2) hx hb dL_law_874 (by decide) ?_
  refine lv_iadd hx hb dL_law_875 ?_
  refine va_sld hx hb hX hbl hbA hS hi2 dL_law_876 ?_
  refine lv_aload_n hx hb dL_law_877 rfl (lv_at hl 3 rfl) ?_
  have hAO := AO_out (z := H.size) hG.2.2.2.2.2.1 hG.2.2.2.2.1 hS.1
  refine vx_calli (vx_runSX (As := [.ref (adh 0), .int (xs (nI j + 1).toNatClampNeg), .int (xs (nI j + 2).toNatClampNeg), .ref o1]) (rest := []) ⟨hx, hb, hml, hown, hts⟩ (wL_lay l hl0 dC dI adh cy cL hG.1 sa o1 hG.2.1 H.size I D f1 (xs (nI j + 1).toNatClampNeg) (xs (nI j + 2).toNatClampNeg) r0 w I9 D9 hw) (vx_cwSW 4 hts gL_law_L_lay rfl rfl rfl (by decide +kernel) ⟨Nat.le_of_ble_eq_true rfl, Nat.le_of_ble_eq_true rfl⟩) (hO.preX [.ref (adh 0), .int (xs (nI j + 1).toNatClampNeg), .int (xs (nI j + 2).toNatClampNeg), .ref o1] (va_Pcons hY.2.1 hY.1) hK hN (xS_kept (B := AO o1 adh H.size) hZ hS hAO) hT) rfl rfl hl.1 rfl (lv_room (Nat.le_of_ble_eq_true rfl)) dL_law_878 ⟨by show cells + 1 ≤ 601024; omega, by show slots + 6 ≤ 7293034; omega⟩) hS (fun q _ h => hAO q h) hAO (fun q _ h => hAO q h) (fun E9 ce q9 u t H1 locs1 ht9 hvm hpu hBX hz1 hk1 hS h1 h2 h3 => hpu.elim) (fun r9 g1 t H1 locs ht9 hvm hw9 hB hz1 hk1 hS => ?_)
  rw [hw9.1]
  have hg := hw9.2
  have hY := lh_1 hY hG hM hk1 (by rw [← ht9]; exact hB)
  clear hw9 hB hz1 hk1 hvm ht9 hAO
  generalize H1 = H at hY hS ⊢
  refine lv_istore (lv' := [(6, .int r0), (0, .ref b), (1, .ref (adh 0)), (2, .ref (adm 0)), (3, .ref o1), (4, .ref o2), (5, .int (nI j))]) hx hb dL_law_881 hl (by decide) rfl (fun ls hl => ?_)
  refine lv_aload_n hx hb dL_law_883 rfl (lv_at hl 3 rfl) ?_
  refine lv_aload_n hx hb dL_law_884 rfl (lv_at hl 1 rfl) ?_
  refine lv_iload hx hb dL_law_885 (lv_at hl 6 rfl) ?_
  refine lv_iconst (v := 1) hx hb dL_law_887 (by decide) ?_
  refine lv_iadd hx hb dL_law_888 ?_
  refine va_sld hx hb hX hbl hbA hS hi1 dL_law_889 ?_
  refine lv_aload_n hx hb dL_law_890 rfl (lv_at hl 1 rfl) ?_
  refine lv_iload hx hb dL_law_891 (lv_at hl 6 rfl) ?_
  refine lv_iconst (v := 2) hx hb dL_law_893 (by decide) ?_
  refine lv_iadd hx hb dL_law_894 ?_
  refine va_sld hx hb hX hbl hbA hS hi2 dL_law_895 ?_
  obtain ⟨q0, hq0, hM0⟩ := heM_0 (cy := cy) (I := J) (D := E) hM.1
  have hAM := AM_out (z := H.size) (fun k hk => (hM.2.2.1 k hk).1) hS.1
  have hsz := hS.1
  refine va_calli (va_runV (As := [.int (xs (nI j + 1).toNatClampNeg), .int (xs (nI j + 2).toNatClampNeg)]) (rest := []) ⟨hx, hb, hml, hown, hts⟩ (mt_X7_lay l dC dI L a b1 adm cy hM.1 H.size J E (xs (nI j + 1).toNatClampNeg) (xs (nI j + 2).toNatClampNeg) v J9 E9 hy) (cwV 2 hts gL_law_X7_lay rfl rfl rfl (by decide +kernel) ⟨Nat.le_of_ble_eq_true rfl, Nat.le_of_ble_eq_true rfl⟩) ⟨(wM.pre [.ref (adm 0), .int (xs (nI j + 1).toNatClampNeg), .int (xs (nI j + 2).toNatClampNeg)] hY.2.2.2 hKt ⟨hN, hI⟩).1, wM.recv (C := RX7) (T := TX7) (N := 9) hY.2.2.2 hKt hM0 rfl, (wM.pre [.ref (adm 0), .int (xs (nI j + 1).toNatClampNeg), .int (xs (nI j + 2).toNatClampNeg)] hY.2.2.2 hKt ⟨hN, hI⟩).2⟩ rfl rfl hl.1 rfl (lv_room (Nat.le_of_ble_eq_true rfl)) dL_law_896 ⟨by show cells + 1 + 0 ≤ 601024; omega, by show slots + 6 + 0 ≤ 7293034; omega⟩) hS (fun q _ h => hAM q h) hAM (fun r9 u t H1 locs ht hvm hw8 hB hz1 hk1 hS => ?_)
  subst hw8
  have hY := lh_M hY hM hk1 (by rw [← ht]; exact hB.1)
  clear hB hz1 hk1 hvm ht hAM hsz
  generalize H1 = H at hY hS ⊢
  refine lv_istore (lv' := [(7, .int v), (6, .int r0), (0, .ref b), (1, .ref (adh 0)), (2, .ref (adm 0)), (3, .ref o1), (4, .ref o2), (5, .int (nI j))]) hx hb dL_law_899 hl (by decide) rfl (fun ls hl => ?_)
  refine lv_aload_n hx hb dL_law_901 rfl (lv_at hl 4 rfl) ?_
  obtain ⟨q2, hq2, hM2⟩ := heM_0 (cy := cy) (I := J9) (D := E9) hM.1
  refine va_calli (va_runV (As := []) (rest := []) ⟨hx, hb, hml, hown, hts⟩ (mt_X7_thrown l dC dI L a b1 adm cy hM.1 H.size J9 E9 (J9 0 0) rfl) (cwV 0 hts gL_law_X7_thrown rfl rfl rfl (by decide +kernel) ⟨Nat.le_of_ble_eq_true rfl, Nat.le_of_ble_eq_true rfl⟩) ⟨(wM.pre [.ref (adm 0)] hY.2.2.2 hKt ⟨hN, hI⟩).1, wM.recv (C := RX7) (T := TX7) (N := 9) hY.2.2.2 hKt hM2 rfl, (wM.pre [.ref (adm 0)] hY.2.2.2 hKt ⟨hN, hI⟩).2⟩ rfl rfl hl.1 rfl (lv_room (Nat.le_of_ble_eq_true rfl)) dL_law_902 ⟨by show cells + 1 + 0 + 0 ≤ 601024; omega, by show slots + 6 + 0 + 0 ≤ 7293034; omega⟩) hS (fun q _ h => Nat.le_trans hS.1 h) (fun q h => Nat.le_trans hS.1 h) (fun r9 u t H1 locs ht hvm hw8 hB hz1 hk1 hS => ?_)
  subst hw8
  have hY := lh_new hY hk1
  clear hB hz1 hk1 hvm ht
  generalize H1 = H at hY hS ⊢
  refine lv_iload hx hb dL_law_905 (lv_at hl 1 rfl) ?_
  refine lv_icmp_eq (tgt := 912) hx hb dL_law_907 (by decide) (fun _ => ?_) (fun c9 => absurd hJ0 c9)
  refine lv_iload hx hb dL_law_912 (lv_at hl 1 rfl) ?_
  have fin : ∀ (ls : Array Slot), lv_has ls 9 [(7, .int v), (6, .int r0), (0, .ref b), (1, .ref (adh 0)), (2, .ref (adm 0)), (3, .ref o1), (4, .ref o2), (5, .int (nI j))] → W p l e room_1 s m #[Value.ref b] below meth c H locs (cells + 1 + 0 + 0) (slots + 6 + 0 + 0) Q (F0 m 929 ls []) := fun ls hl => lv_goto (tgt := 2072) hx hb dL_law_929 (by decide) (W.widen (k := cells + 207) (n := slots + 1642) (by omega) (by omega) (kk _ _ _ _ _ _ _ _ _ _ _ _ _ _ _ _ hM hY hS hR2 hh2 (lv_sub hl [2, 3, 4, 5, 6, 7] rfl)))
  refine lv_if_ne (tgt := 929) hx hb dL_law_914 (by decide) (fun _ => fin ls hl) (fun c2 => ?_)
  have hg1 := hg c2
  have hv1 := hvw c2
  refine lv_aload_n hx hb dL_law_917 rfl (lv_at hl 5 rfl) ?_
  refine lv_iconst (v := 0) hx hb dL_law_918 (by decide) ?_
  refine va_lald hx hb hK hY.2.1 0 8 rfl rfl vin0 dL_law_919 ?_
  refine lv_iload hx hb dL_law_920 (lv_at hl 0 rfl) ?_
  refine lv_i2l hx hb dL_law_922 rfl ?_
  refine W.lcmp hx hb dL_law_923 ?_
  have hq9 : g1 (0 : Int32).toNatClampNeg = v.toInt64 := hg1.trans (congrArg Int32.toInt64 hv1.1)
  rw [hq9]
  exact lv_if_eq (tgt := 929) hx hb dL_law_924 (by decide) (fun _ => fin ls hl) (fun c9 => absurd (lcmp_self _) c9)
