set_option maxHeartbeats 8000000 in
set_option maxRecDepth 100000 in
theorem lc_temp {p : Program} {l : Launch} {e : Env} {s : State} {m : MethodId} {below : List Frame} {meth : Method} {c : Code} {b Lx : Nat} {xs : Nat → Int32} (hl0 : l.stackTraces = false) (hL : Lx ≤ 3072) (C0 : lw_At p s m meth c b Lx xs) {dC : Nat → ClassId} {dI : Nat → Nat → Nat} {cy : Nat → ClassId} {cL : ClassId} {sa : Nat → Nat} {t0 : Nat} {adh : Nat → Nat} {o1 o2 : Nat} (hK0 : LK dC dI cy cL sa t0 s) (hG : LG adh o1 o2 s.heap.size) {L : List Nat} {a b1 : Nat} {adm : Nat → Nat} (hM : LM adh o1 o2 t0 s.heap.size L a b1 adm) {I : MI} {D : MD} {J : MI} {E : MD} {f1 : Nat → Int64} {f2 : Nat → UInt64} {H : Heap} {locs : List Loc} (hY : LH dC dI cy cL adh o1 o2 L a b1 adm I D J E f1 f2 H) (hS : va_S (fun q => s.heap.size ≤ q) s.heap H locs) {c1 d1 h1 : Nat} (hR : RR 0 a b1 c1 d1 h1 I D J E) (hh : h1 + 48 < 2 ^ 20) {cells slots : Nat} (hc : cells + 207 ≤ 601024) (hs : slots + 1642 ≤ 7293034) {j : Nat} (hj : j + 6 ≤ Lx) {ls : Array Slot} (hl : lv_has ls 9 [(0, .ref b), (1, .ref (adh 0)), (2, .ref (adm 0)), (3, .ref o1), (4, .ref o2), (5, .int (nI j))]) {Q : State → Prop} (kk : ∀ (L' : List Nat) (a' b' : Nat) (adm' : Nat → Nat) (I' : MI) (D' : MD) (J' : MI) (E' : MD) (f1' : Nat → Int64) (f2' : Nat → UInt64) (H' : Heap) (locs' : List Loc) (c' d' h' : Nat) (ls' : Array Slot), LM adh o1 o2 t0 s.heap.size L' a' b' adm' → LH dC dI cy cL adh o1 o2 L' a' b' adm' I' D' J' E' f1' f2' H' → va_S (fun q => s.heap.size ≤ q) s.heap H' locs' → RR 0 a' b' c' d' h' I' D' J' E' → h' ≤ h1 + 48 → lv_has ls' 9 [(0, .ref b), (1, .ref (adh 0)), (2, .ref (adm' 0)), (3, .ref o1), (4, .ref o2), (5, .int (nI j))] → W p l e room_1 s m #[Value.ref b] below meth c H' locs' (cells + 207) (slots + 1642) Q (F0 m 2072 ls' [])) : W p l e room_1 s m #[Value.ref b] below meth c H locs cells slots Q (F0 m 1684 ls []) := by
  obtain ⟨hx, hb, hr, hml, hown0, hts0, hX, hbl, hlocks, -⟩ := C0
  have hown : s.vm.findClass RL = some m.cls := hown0
  have hts : ∀ w ∈ wsL_law, w.before #[Value.ref b] s = true := fun w h => hts0 w (wsL_law_in w h)
  obtain ⟨hK, hN, hI, hca, hcb, hao, hZ, hT, hzs, hts9⟩ := hK0
  have hKt : va_K (dC, dI) vwCl (tysA cy) s := hK.sub [0, 1, 2, 3, 4, 5, 6, 7] rfl
  have hbA : ¬ (fun q : Nat => s.heap.size ≤ q) b := Nat.not_le.mpr hbl
  have hi1 : vp_in (nI j + 1) Lx := vin_k hj hL 1 (by decide)
  obtain ⟨v, J9, E9, r0, w, hy, hJ0, hw, hvw, c2, d2, h2, hh2, hR2⟩ := agR_law (a_temp hR (xs (nI j + 1).toNatClampNeg)) (by decide)
  refine lv_aload_n hx hb dL_law_1684 rfl (lv_at hl 1 rfl) ?_
  refine lv_aload_n hx hb dL_law_1685 rfl (lv_at hl 0 rfl) ?_
  refine lv_iload hx hb dL_law_1686 (lv_at hl 5 rfl) ?_
  refine lv_iconst (v := 1) hx hb dL_law_1688 (by decide) ?_
  refine lv_iadd hx hb dL_law_1689 ?_
  refine va_sld hx hb hX hbl hbA hS hi1 dL_law_1690 ?_
  refine lv_aload hx hb dL_law_1691 (lv_at hl 4 rfl) ?_
  have hAO := AO_out (z := H.size) hG.2.2.2.2.2.2 hG.2.2.2.2.1 hS.1
  refine vx_calli (vx_runSX (As := [.ref (adh 0), .int (xs (nI j + 1).toNatClampNeg), .ref o2]) (rest := []) ⟨hx, hb, hml, hown, hts⟩ (wL_temp l hl0 dC dI adh cy cL hG.1 sa o2 hG.2.2.1 H.size I D f2 (xs (nI j + 1).toNatClampNeg) r0 w hw) (vx_cwSW 3 hts gL_law_L_temp rfl rfl rfl (by decide +kernel) ⟨Nat.le_of_ble_eq_true rfl, Nat.le_of_ble_eq_true rfl⟩) (hO.preX [.ref (adh 0), .int (xs (nI j + 1).toNatClampNeg), .ref o2] (va_Pcons hY.2.2.1 hY.1) hK hN (xS_kept (B := AO o2 adh H.size) hZ hS hAO) hT) rfl rfl hl.1 rfl (lv_room (Nat.le_of_ble_eq_true rfl)) dL_law_1693 ⟨by show cells + 1 ≤ 601024; omega, by show slots + 6 ≤ 7293034; omega⟩) hS (fun q _ h => hAO q h) hAO (fun q _ h => hAO q h) (fun E9 ce q9 u t H1 locs1 ht9 hvm hpu hBX hz1 hk1 hS h1 h2 h3 => hpu.elim) (fun r9 g1 t H1 locs ht9 hvm hw9 hB hz1 hk1 hS => ?_)
  rw [hw9.1]
  have hg := hw9.2
  have hY := lh_2 hY hG hM hk1 (by rw [← ht9]; exact hB)
  clear hw9 hB hz1 hk1 hvm ht9 hAO
  generalize H1 = H at hY hS ⊢
  refine lv_istore (lv' := [(6, .int r0), (0, .ref b), (1, .ref (adh 0)), (2, .ref (adm 0)), (3, .ref o1), (4, .ref o2), (5, .int (nI j))]) hx hb dL_law_1696 hl (by decide) rfl (fun ls hl => ?_)
  refine lv_aload_n hx hb dL_law_1698 rfl (lv_at hl 3 rfl) ?_
  refine lv_aload_n hx hb dL_law_1699 rfl (lv_at hl 1 rfl) ?_
  refine lv_iload hx hb dL_law_1700 (lv_at hl 6 rfl) ?_
  refine lv_iconst (v := 1) hx hb dL_law_1702 (by decide) ?_
  refine lv_iadd hx hb dL_law_1703 ?_
  refine va_sld hx hb hX hbl hbA hS hi1 dL_law_1704 ?_
  obtain ⟨q0, hq0, hM0⟩ := heM_0 (cy := cy) (I := J) (D := E) hM.1
  have hAM := AM_out (z := H.size) (fun k hk => (hM.2.2.1 k hk).1) hS.1
  have hsz := hS.1
  refine va_calld (va_runV (As := [.int (xs (nI j + 1).toNatClampNeg)]) (rest := []) ⟨hx, hb, hml, hown, hts⟩ (mt_X7_temp l dC dI L a b1 adm cy hM.1 H.size J E (xs (nI j + 1).toNatClampNeg) v J9 E9 hy) (cwV 1 hts gL_law_X7_temp rfl rfl rfl (by decide +kernel) ⟨Nat.le_of_ble_eq_true rfl, Nat.le_of_ble_eq_true rfl⟩) ⟨(wM.pre [.ref (adm 0), .int (xs (nI j + 1).toNatClampNeg)] hY.2.2.2 hKt ⟨hN, hI⟩).1, wM.recv (C := RX7) (T := TX7) (N := 9) hY.2.2.2 hKt hM0 rfl, (wM.pre [.ref (adm 0), .int (xs (nI j + 1).toNatClampNeg)] hY.2.2.2 hKt ⟨hN, hI⟩).2⟩ rfl rfl hl.1 rfl (lv_room (Nat.le_of_ble_eq_true rfl)) dL_law_1705 ⟨by show cells + 1 + 0 ≤ 601024; omega, by show slots + 6 + 0 ≤ 7293034; omega⟩) hS (fun q _ h => hAM q h) hAM (fun r9 u t H1 locs ht hvm hw8 hB hz1 hk1 hS => ?_)
  subst hw8
  have hY := lh_M hY hM hk1 (by rw [← ht]; exact hB.1)
  clear hB hz1 hk1 hvm ht hAM hsz
  generalize H1 = H at hY hS ⊢
  refine lv_dstore (lv' := [(7, .double v), (6, .int r0), (0, .ref b), (1, .ref (adh 0)), (2, .ref (adm 0)), (3, .ref o1), (4, .ref o2), (5, .int (nI j))]) hx hb dL_law_1708 hl (by decide) rfl (fun ls hl => ?_)
  refine lv_aload_n hx hb dL_law_1710 rfl (lv_at hl 4 rfl) ?_
  obtain ⟨q2, hq2, hM2⟩ := heM_0 (cy := cy) (I := J9) (D := E9) hM.1
  refine va_calli (va_runV (As := []) (rest := []) ⟨hx, hb, hml, hown, hts⟩ (mt_X7_thrown l dC dI L a b1 adm cy hM.1 H.size J9 E9 (J9 0 0) rfl) (cwV 0 hts gL_law_X7_thrown rfl rfl rfl (by decide +kernel) ⟨Nat.le_of_ble_eq_true rfl, Nat.le_of_ble_eq_true rfl⟩) ⟨(wM.pre [.ref (adm 0)] hY.2.2.2 hKt ⟨hN, hI⟩).1, wM.recv (C := RX7) (T := TX7) (N := 9) hY.2.2.2 hKt hM2 rfl, (wM.pre [.ref (adm 0)] hY.2.2.2 hKt ⟨hN, hI⟩).2⟩ rfl rfl hl.1 rfl (lv_room (Nat.le_of_ble_eq_true rfl)) dL_law_1711 ⟨by show cells + 1 + 0 + 0 ≤ 601024; omega, by show slots + 6 + 0 + 0 ≤ 7293034; omega⟩) hS (fun q _ h => Nat.le_trans hS.1 h) (fun q h => Nat.le_trans hS.1 h) (fun r9 u t H1 locs ht hvm hw8 hB hz1 hk1 hS => ?_)
  subst hw8
  have hY := lh_new hY hk1
  clear hB hz1 hk1 hvm ht
  generalize H1 = H at hY hS ⊢
  refine lv_iload hx hb dL_law_1714 (lv_at hl 1 rfl) ?_
  refine lv_icmp_eq (tgt := 1721) hx hb dL_law_1716 (by decide) (fun _ => ?_) (fun c9 => absurd hJ0 c9)
  refine lv_iload hx hb dL_law_1721 (lv_at hl 1 rfl) ?_
  have fin : ∀ (ls : Array Slot), lv_has ls 9 [(7, .double v), (6, .int r0), (0, .ref b), (1, .ref (adh 0)), (2, .ref (adm 0)), (3, .ref o1), (4, .ref o2), (5, .int (nI j))] → W p l e room_1 s m #[Value.ref b] below meth c H locs (cells + 1 + 0 + 0) (slots + 6 + 0 + 0) Q (F0 m 1758 ls []) := fun ls hl => lv_goto (tgt := 2072) hx hb dL_law_1758 (by decide) (W.widen (k := cells + 207) (n := slots + 1642) (by omega) (by omega) (kk _ _ _ _ _ _ _ _ _ _ _ _ _ _ _ _ hM hY hS hR2 hh2 (lv_sub hl [2, 3, 4, 5, 6, 7] rfl)))
  refine lv_if_ne (tgt := 1758) hx hb dL_law_1723 (by decide) (fun _ => fin ls hl) (fun c2 => ?_)
  have hg1 := hg c2
  have hv1 := hvw c2
  refine lv_aload hx hb dL_law_1726 (lv_at hl 6 rfl) ?_
  refine lv_iconst (v := 0) hx hb dL_law_1728 (by decide) ?_
  refine va_dald hx hb hK hY.2.2.1 0 6 rfl rfl vin0 dL_law_1729 ?_
  refine lv_dload hx hb dL_law_1730 (lv_at hl 0 rfl) ?_
  refine lv_dcmp hx hb dL_law_1732 ?_
  have hq9 : g1 (0 : Int32).toNatClampNeg = v := hg1.trans hv1.1
  rw [hq9]
  exact lv_if_eq (tgt := 1758) hx hb dL_law_1733 (by decide) (fun _ => fin ls hl) (fun c9 => absurd (dcmp_self hv1.2 _) c9)

set_option maxHeartbeats 8000000 in
set_option maxRecDepth 100000 in
theorem lc_many {p : Program} {l : Launch} {e : Env} {s : State} {m : MethodId} {below : List Frame} {meth : Method} {c : Code} {b Lx : Nat} {xs : Nat → Int32} (hl0 : l.stackTraces = false) (hL : Lx ≤ 3072) (C0 : lw_At p s m meth c b Lx xs) {dC : Nat → ClassId} {dI : Nat → Nat → Nat} {cy : Nat → ClassId} {cL : ClassId} {sa : Nat → Nat} {t0 : Nat} {adh : Nat → Nat} {o1 o2 : Nat} (hK0 : LK dC dI cy cL sa t0 s) (hG : LG adh o1 o2 s.heap.size) {L : List Nat} {a b1 : Nat} {adm : Nat → Nat} (hM : LM adh o1 o2 t0 s.heap.size L a b1 adm) {I : MI} {D : MD} {J : MI} {E : MD} {f1 : Nat → Int64} {f2 : Nat → UInt64} {H : Heap} {locs : List Loc} (hY : LH dC dI cy cL adh o1 o2 L a b1 adm I D J E f1 f2 H) (hS : va_S (fun q => s.heap.size ≤ q) s.heap H locs) {c1 d1 h1 : Nat} (hR : RR 0 a b1 c1 d1 h1 I D J E) (hh : h1 + 48 < 2 ^ 20) {cells slots : Nat} (hc : cells + 207 ≤ 601024) (hs : slots + 1642 ≤ 7293034) {j : Nat} (hj : j + 6 ≤ Lx) {ls : Array Slot} (hl : lv_has ls 9 [(0, .ref b), (1, .ref (adh 0)), (2, .ref (adm 0)), (3, .ref o1), (4, .ref o2), (5, .int (nI j))]) {Q : State → Prop} (kk : ∀ (L' : List Nat) (a' b' : Nat) (adm' : Nat → Nat) (I' : MI) (D' : MD) (J' : MI) (E' : MD) (f1' : Nat → Int64) (f2' : Nat → UInt64) (H' : Heap) (locs' : List Loc) (c' d' h' : Nat) (ls' : Array Slot), LM adh o1 o2 t0 s.heap.size L' a' b' adm' → LH dC dI cy cL adh o1 o2 L' a' b' adm' I' D' J' E' f1' f2' H' → va_S (fun q => s.heap.size ≤ q) s.heap H' locs' → RR 0 a' b' c' d' h' I' D' J' E' → h' ≤ h1 + 48 → lv_has ls' 9 [(0, .ref b), (1, .ref (adh 0)), (2, .ref (adm' 0)), (3, .ref o1), (4, .ref o2), (5, .int (nI j))] → W p l e room_1 s m #[Value.ref b] below meth c H' locs' (cells + 207) (slots + 1642) Q (F0 m 2072 ls' [])) : W p l e room_1 s m #[Value.ref b] below meth c H locs cells slots Q (F0 m 1761 ls []) := by
  obtain ⟨hx, hb, hr, hml, hown0, hts0, hX, hbl, hlocks, -⟩ := C0
  have hown : s.vm.findClass RL = some m.cls := hown0
  have hts : ∀ w ∈ wsL_law, w.before #[Value.ref b] s = true := fun w h => hts0 w (wsL_law_in w h)
  obtain ⟨hK, hN, hI, hca, hcb, hao, hZ, hT, hzs, hts9⟩ := hK0
  have hKt : va_K (dC, dI) vwCl (tysA cy) s := hK.sub [0, 1, 2, 3, 4, 5, 6, 7] rfl
  have hbA : ¬ (fun q : Nat => s.heap.size ≤ q) b := Nat.not_le.mpr hbl
  have hi1 : vp_in (nI j + 1) Lx := vin_k hj hL 1 (by decide)
  obtain ⟨v, J9, E9, r0, w, hy, hJ0, hw, hvw, c2, d2, h2, hh2, hR2⟩ := agR_law (a_many hR (xs (nI j + 1).toNatClampNeg)) (by decide)
  refine lv_aload_n hx hb dL_law_1761 rfl (lv_at hl 1 rfl) ?_
  refine lv_aload_n hx hb dL_law_1762 rfl (lv_at hl 0 rfl) ?_
  refine lv_iload hx hb dL_law_1763 (lv_at hl 5 rfl) ?_
  refine lv_iconst (v := 1) hx hb dL_law_1765 (by decide) ?_
  refine lv_iadd hx hb dL_law_1766 ?_
  refine va_sld hx hb hX hbl hbA hS hi1 dL_law_1767 ?_
  refine lv_aload_n hx hb dL_law_1768 rfl (lv_at hl 3 rfl) ?_
  have hAO := AO_out (z := H.size) hG.2.2.2.2.2.1 hG.2.2.2.2.1 hS.1
  refine vx_calli (vx_runSX (As := [.ref (adh 0), .int (xs (nI j + 1).toNatClampNeg), .ref o1]) (rest := []) ⟨hx, hb, hml, hown, hts⟩ (wL_many l hl0 dC dI adh cy cL hG.1 sa o1 hG.2.1 H.size I D f1 (xs (nI j + 1).toNatClampNeg) r0 w hw) (vx_cwSW 3 hts gL_law_L_many rfl rfl rfl (by decide +kernel) ⟨Nat.le_of_ble_eq_true rfl, Nat.le_of_ble_eq_true rfl⟩) (hO.preX [.ref (adh 0), .int (xs (nI j + 1).toNatClampNeg), .ref o1] (va_Pcons hY.2.1 hY.1) hK hN (xS_kept (B := AO o1 adh H.size) hZ hS hAO) hT) rfl rfl hl.1 rfl (lv_room (Nat.le_of_ble_eq_true rfl)) dL_law_1769 ⟨by show cells + 1 ≤ 601024; omega, by show slots + 6 ≤ 7293034; omega⟩) hS (fun q _ h => hAO q h) hAO (fun q _ h => hAO q h) (fun E9 ce q9 u t H1 locs1 ht9 hvm hpu hBX hz1 hk1 hS h1 h2 h3 => hpu.elim) (fun r9 g1 t H1 locs ht9 hvm hw9 hB hz1 hk1 hS => ?_)
  rw [hw9.1]
  have hg := hw9.2
  have hY := lh_1 hY hG hM hk1 (by rw [← ht9]; exact hB)
  clear hw9 hB hz1 hk1 hvm ht9 hAO
  generalize H1 = H at hY hS ⊢
  refine lv_istore (lv' := [(6, .int r0), (0, .ref b), (1, .ref (adh 0)), (2, .ref (adm 0)), (3, .ref o1), (4, .ref o2), (5, .int (nI j))]) hx hb dL_law_1772 hl (by decide) rfl (fun ls hl => ?_)
  refine lv_aload_n hx hb dL_law_1774 rfl (lv_at hl 3 rfl) ?_
  refine lv_aload_n hx hb dL_law_1775 rfl (lv_at hl 1 rfl) ?_
  refine lv_iload hx hb dL_law_1776 (lv_at hl 6 rfl) ?_
  refine lv_iconst (v := 1) hx hb dL_law_1778 (by decide) ?_
  refine lv_iadd hx hb dL_law_1779 ?_
  refine va_sld hx hb hX hbl hbA hS hi1 dL_law_1780 ?_
  obtain ⟨q0, hq0, hM0⟩ := heM_0 (cy := cy) (I := J) (D := E) hM.1
  have hAM := AM_out (z := H.size) (fun k hk => (hM.2.2.1 k hk).1) hS.1
  have hsz := hS.1
  refine va_calli (va_runV (As := [.int (xs (nI j + 1).toNatClampNeg)]) (rest := []) ⟨hx, hb, hml, hown, hts⟩ (mt_X7_many l dC dI L a b1 adm cy hM.1 H.size J E (xs (nI j + 1).toNatClampNeg) v J9 E9 hy) (cwV 1 hts gL_law_X7_many rfl rfl rfl (by decide +kernel) ⟨Nat.le_of_ble_eq_true rfl, Nat.le_of_ble_eq_true rfl⟩) ⟨(wM.pre [.ref (adm 0), .int (xs (nI j + 1).toNatClampNeg)] hY.2.2.2 hKt ⟨hN, hI⟩).1, wM.recv (C := RX7) (T := TX7) (N := 9) hY.2.2.2 hKt hM0 rfl, (wM.pre [.ref (adm 0), .int (xs (nI j + 1).toNatClampNeg)] hY.2.2.2 hKt ⟨hN, hI⟩).2⟩ rfl rfl hl.1 rfl (lv_room (Nat.le_of_ble_eq_true rfl)) dL_law_1781 ⟨by show cells + 1 + 1 ≤ 601024; omega, by show slots + 6 + 12 ≤ 7293034; omega⟩) hS (fun q _ h => hAM q h) hAM (fun r9 u t H1 locs ht hvm hw8 hB hz1 hk1 hS => ?_)
  subst hw8
  have hY := lh_M hY hM hk1 (by rw [← ht]; exact hB.1)
  clear hB hz1 hk1 hvm ht hAM hsz
  generalize H1 = H at hY hS ⊢
  refine lv_istore (lv' := [(7, .int v), (6, .int r0), (0, .ref b), (1, .ref (adh 0)), (2, .ref (adm 0)), (3, .ref o1), (4, .ref o2), (5, .int (nI j))]) hx hb dL_law_1784 hl (by decide) rfl (fun ls hl => ?_)
  refine lv_aload_n hx hb dL_law_1786 rfl (lv_at hl 4 rfl) ?_
  obtain ⟨q2, hq2, hM2⟩ := heM_0 (cy := cy) (I := J9) (D := E9) hM.1
  refine va_calli (va_runV (As := []) (rest := []) ⟨hx, hb, hml, hown, hts⟩ (mt_X7_thrown l dC dI L a b1 adm cy hM.1 H.size J9 E9 (J9 0 0) rfl) (cwV 0 hts gL_law_X7_thrown rfl rfl rfl (by decide +kernel) ⟨Nat.le_of_ble_eq_true rfl, Nat.le_of_ble_eq_true rfl⟩) ⟨(wM.pre [.ref (adm 0)] hY.2.2.2 hKt ⟨hN, hI⟩).1, wM.recv (C := RX7) (T := TX7) (N := 9) hY.2.2.2 hKt hM2 rfl, (wM.pre [.ref (adm 0)] hY.2.2.2 hKt ⟨hN, hI⟩).2⟩ rfl rfl hl.1 rfl (lv_room (Nat.le_of_ble_eq_true rfl)) dL_law_1787 ⟨by show cells + 1 + 1 + 0 ≤ 601024; omega, by show slots + 6 + 12 + 0 ≤ 7293034; omega⟩) hS (fun q _ h => Nat.le_trans hS.1 h) (fun q h => Nat.le_trans hS.1 h) (fun r9 u t H1 locs ht hvm hw8 hB hz1 hk1 hS => ?_)
  subst hw8
  have hY := lh_new hY hk1
  clear hB hz1 hk1 hvm ht
  generalize H1 = H at hY hS ⊢
  refine lv_iload hx hb dL_law_1790 (lv_at hl 1 rfl) ?_
  refine lv_icmp_eq (tgt := 1797) hx hb dL_law_1792 (by decide) (fun _ => ?_) (fun c9 => absurd hJ0 c9)
  refine lv_iload hx hb dL_law_1797 (lv_at hl 1 rfl) ?_
  have fin : ∀ (ls : Array Slot), lv_has ls 9 [(7, .int v), (6, .int r0), (0, .ref b), (1, .ref (adh 0)), (2, .ref (adm 0)), (3, .ref o1), (4, .ref o2), (5, .int (nI j))] → W p l e room_1 s m #[Value.ref b] below meth c H locs (cells + 1 + 1 + 0) (slots + 6 + 12 + 0) Q (F0 m 1814 ls []) := fun ls hl => lv_goto (tgt := 2072) hx hb dL_law_1814 (by decide) (W.widen (k := cells + 207) (n := slots + 1642) (by omega) (by omega) (kk _ _ _ _ _ _ _ _ _ _ _ _ _ _ _ _ hM hY hS hR2 hh2 (lv_sub hl [2, 3, 4, 5, 6, 7] rfl)))
  refine lv_if_ne (tgt := 1814) hx hb dL_law_1799 (by decide) (fun _ => fin ls hl) (fun c2 => ?_)
  have hg1 := hg c2
  have hv1 := hvw c2
  refine lv_aload_n hx hb dL_law_1802 rfl (lv_at hl 5 rfl) ?_
  refine lv_iconst (v := 0) hx hb dL_law_1803 (by decide) ?_
  refine va_lald hx hb hK hY.2.1 0 8 rfl rfl vin0 dL_law_1804 ?_
  refine lv_iload hx hb dL_law_1805 (lv_at hl 0 rfl) ?_
  refine lv_i2l hx hb dL_law_1807 rfl ?_
  refine W.lcmp hx hb dL_law_1808 ?_
  have hq9 : g1 (0 : Int32).toNatClampNeg = v.toInt64 := hg1.trans (congrArg Int32.toInt64 hv1.1)
  rw [hq9]
  exact lv_if_eq (tgt := 1814) hx hb dL_law_1809 (by decide) (fun _ => fin ls hl) (fun c9 => absurd (lcmp_self _) c9)

set_option maxHeartbeats 8000000 in
set_option maxRecDepth 100000 in
theorem lc_day {p : Program} {l : Launch} {e : Env} {s : State} {m : MethodId} {below : List Frame} {meth : Method} {c : Code} {b Lx : Nat} {xs : Nat → Int32} (hl0 : l.stackTraces = false) (hL : Lx ≤ 3072) (C0 : lw_At p s m meth c b Lx xs) {dC : Nat → ClassId} {dI : Nat → Nat → Nat} {cy : Nat → ClassId} {cL : ClassId} {sa : Nat → Nat} {t0 : Nat} {adh : Nat → Nat} {o1 o2 : Nat} (hK0 : LK dC dI cy cL sa t0 s) (hG : LG adh o1 o2 s.heap.size) {L : List Nat} {a b1 : Nat} {adm : Nat → Nat} (hM : LM adh o1 o2 t0 s.heap.size L a b1 adm) {I : MI} {D : MD} {J : MI} {E : MD} {f1 : Nat → Int64} {f2 : Nat → UInt64} {H : Heap} {locs : List Loc} (hY : LH dC dI cy cL adh o1 o2 L a b1 adm I D J E f1 f2 H) (hS : va_S (fun q => s.heap.size ≤ q) s.heap H locs) {c1 d1 h1 : Nat} (hR : RR 0 a b1 c1 d1 h1 I D J E) (hh : h1 + 48 < 2 ^ 20) {cells slots : Nat} (hc : cells + 207 ≤ 601024) (hs : slots + 1642 ≤ 7293034) {j : Nat} (hj : j + 6 ≤ Lx) {ls : Array Slot} (hl : lv_has ls 9 [(0, .ref b), (1, .ref (adh 0)), (2, .ref (adm 0)), (3, .ref o1), (4, .ref o2), (5, .int (nI j))]) {Q : State → Prop} (kk : ∀ (L' : List Nat) (a' b' : Nat) (adm' : Nat → Nat) (I' : MI) (D' : MD) (J' : MI) (E' : MD) (f1' : Nat → Int64) (f2' : Nat → UInt64) (H' : Heap) (locs' : List Loc) (c' d' h' : Nat) (ls' : Array Slot), LM adh o1 o2 t0 s.heap.size L' a' b' adm' → LH dC dI cy cL adh o1 o2 L' a' b' adm' I' D' J' E' f1' f2' H' → va_S (fun q => s.heap.size ≤ q) s.heap H' locs' → RR 0 a' b' c' d' h' I' D' J' E' → h' ≤ h1 + 48 → lv_has ls' 9 [(0, .ref b), (1, .ref (adh 0)), (2, .ref (adm' 0)), (3, .ref o1), (4, .ref o2), (5, .int (nI j))] → W p l e room_1 s m #[Value.ref b] below meth c H' locs' (cells + 207) (slots + 1642) Q (F0 m 2072 ls' [])) : W p l e room_1 s m #[Value.ref b] below meth c H locs cells slots Q (F0 m 1817 ls []) := by
  obtain ⟨hx, hb, hr, hml, hown0, hts0, hX, hbl, hlocks, -⟩ := C0
  have hown : s.vm.findClass RL = some m.cls := hown0
  have hts : ∀ w ∈ wsL_law, w.before #[Value.ref b] s = true := fun w h => hts0 w (wsL_law_in w h)
  obtain ⟨hK, hN, hI, hca, hcb, hao, hZ, hT, hzs, hts9⟩ := hK0
  have hKt : va_K (dC, dI) vwCl (tysA cy) s := hK.sub [0, 1, 2, 3, 4, 5, 6, 7] rfl
  have hbA : ¬ (fun q : Nat => s.heap.size ≤ q) b := Nat.not_le.mpr hbl
  have hi1 : vp_in (nI j + 1) Lx := vin_k hj hL 1 (by decide)
  have hi2 : vp_in (nI j + 2) Lx := vin_k hj hL 2 (by decide)
  by_cases hz : xs (nI j + 2).toNatClampNeg = 0
  · skip
    obtain ⟨v, J9, E9, r0, w, I9, D9, hy, hJ0, hw, hvw, c2, d2, h2, hh2, hR2⟩ := agW_law (a_day hR (xs (nI j + 1).toNatClampNeg) 0) (by decide)
    refine lv_aload_n hx hb dL_law_1817 rfl (lv_at hl 1 rfl) ?_
    refine lv_aload_n hx hb dL_law_1818 rfl (lv_at hl 0 rfl) ?_
    refine lv_iload hx hb dL_law_1819 (lv_at hl 5 rfl) ?_
    refine lv_iconst (v := 1) hx hb dL_law_1821 (by decide) ?_
    refine lv_iadd hx hb dL_law_1822 ?_
    refine va_sld hx hb hX hbl hbA hS hi1 dL_law_1823 ?_
    refine lv_aload_n hx hb dL_law_1824 rfl (lv_at hl 0 rfl) ?_
    refine lv_iload hx hb dL_law_1825 (lv_at hl 5 rfl) ?_
    refine lv_iconst (v := 2) hx hb dL_law_1827 (by decide) ?_
    refine lv_iadd hx hb dL_law_1828 ?_
    refine va_sld hx hb hX hbl hbA hS hi2 dL_law_1829 ?_
    refine lv_if_eq (tgt := 1837) hx hb dL_law_1830 (by decide) (fun _ => ?_) (fun c9 => absurd hz c9)
    refine lv_iconst (v := 0) hx hb dL_law_1837 (by decide) ?_
    refine lv_aload_n hx hb dL_law_1838 rfl (lv_at hl 3 rfl) ?_
    have hAO := AO_out (z := H.size) hG.2.2.2.2.2.1 hG.2.2.2.2.1 hS.1
    refine vx_calli (vx_runSX (As := [.ref (adh 0), .int (xs (nI j + 1).toNatClampNeg), .int 0, .ref o1]) (rest := []) ⟨hx, hb, hml, hown, hts⟩ (wL_day l hl0 dC dI adh cy cL hG.1 sa o1 hG.2.1 H.size I D f1 (xs (nI j + 1).toNatClampNeg) 0 r0 w I9 D9 hw) (vx_cwSW 4 hts gL_law_L_day rfl rfl rfl (by decide +kernel) ⟨Nat.le_of_ble_eq_true rfl, Nat.le_of_ble_eq_true rfl⟩) (hO.preX [.ref (adh 0), .int (xs (nI j + 1).toNatClampNeg), .int 0, .ref o1] (va_Pcons hY.2.1 hY.1) hK hN (xS_kept (B := AO o1 adh H.size) hZ hS hAO) hT) rfl rfl hl.1 rfl (lv_room (Nat.le_of_ble_eq_true rfl)) dL_law_1839 ⟨by show cells + 1 ≤ 601024; omega, by show slots + 6 ≤ 7293034; omega⟩) hS (fun q _ h => hAO q h) hAO (fun q _ h => hAO q h) (fun E9 ce q9 u t H1 locs1 ht9 hvm hpu hBX hz1 hk1 hS h1 h2 h3 => hpu.elim) (fun r9 g1 t H1 locs ht9 hvm hw9 hB hz1 hk1 hS => ?_)
    rw [hw9.1]
    have hg := hw9.2
    have hY := lh_1 hY hG hM hk1 (by rw [← ht9]; exact hB)
    clear hw9 hB hz1 hk1 hvm ht9 hAO
    generalize H1 = H at hY hS ⊢
    refine lv_istore (lv' := [(6, .int r0), (0, .ref b), (1, .ref (adh 0)), (2, .ref (adm 0)), (3, .ref o1), (4, .ref o2), (5, .int (nI j))]) hx hb dL_law_1842 hl (by decide) rfl (fun ls hl => ?_)
    refine lv_aload_n hx hb dL_law_1844 rfl (lv_at hl 3 rfl) ?_
    refine lv_aload_n hx hb dL_law_1845 rfl (lv_at hl 1 rfl) ?_
    refine lv_iload hx hb dL_law_1846 (lv_at hl 6 rfl) ?_
    refine lv_iconst (v := 1) hx hb dL_law_1848 (by decide) ?_
    refine lv_iadd hx hb dL_law_1849 ?_
    refine va_sld hx hb hX hbl hbA hS hi1 dL_law_1850 ?_
    refine lv_aload_n hx hb dL_law_1851 rfl (lv_at hl 1 rfl) ?_
    refine lv_iload hx hb dL_law_1852 (lv_at hl 6 rfl) ?_
    refine lv_iconst (v := 2) hx hb dL_law_1854 (by decide) ?_
    refine lv_iadd hx hb dL_law_1855 ?_
    refine va_sld hx hb hX hbl hbA hS hi2 dL_law_1856 ?_
    refine lv_if_eq (tgt := 1864) hx hb dL_law_1857 (by decide) (fun _ => ?_) (fun c9 => absurd hz c9)
    refine lv_iconst (v := 0) hx hb dL_law_1864 (by decide) ?_
    obtain ⟨q0, hq0, hM0⟩ := heM_0 (cy := cy) (I := J) (D := E) hM.1
    have hAM := AM_out (z := H.size) (fun k hk => (hM.2.2.1 k hk).1) hS.1
    have hsz := hS.1
    refine va_calli (va_runV (As := [.int (xs (nI j + 1).toNatClampNeg), .int 0]) (rest := []) ⟨hx, hb, hml, hown, hts⟩ (mt_X7_day l dC dI L a b1 adm cy hM.1 H.size J E (xs (nI j + 1).toNatClampNeg) 0 v J9 E9 hy) (cwV 2 hts gL_law_X7_day rfl rfl rfl (by decide +kernel) ⟨Nat.le_of_ble_eq_true rfl, Nat.le_of_ble_eq_true rfl⟩) ⟨(wM.pre [.ref (adm 0), .int (xs (nI j + 1).toNatClampNeg), .int 0] hY.2.2.2 hKt ⟨hN, hI⟩).1, wM.recv (C := RX7) (T := TX7) (N := 9) hY.2.2.2 hKt hM0 rfl, (wM.pre [.ref (adm 0), .int (xs (nI j + 1).toNatClampNeg), .int 0] hY.2.2.2 hKt ⟨hN, hI⟩).2⟩ rfl rfl hl.1 rfl (lv_room (Nat.le_of_ble_eq_true rfl)) dL_law_1865 ⟨by show cells + 1 + 0 ≤ 601024; omega, by show slots + 6 + 0 ≤ 7293034; omega⟩) hS (fun q _ h => hAM q h) hAM (fun r9 u t H1 locs ht hvm hw8 hB hz1 hk1 hS => ?_)
    subst hw8
    have hY := lh_M hY hM hk1 (by rw [← ht]; exact hB.1)
    clear hB hz1 hk1 hvm ht hAM hsz
    generalize H1 = H at hY hS ⊢
    refine lv_istore (lv' := [(7, .int v), (6, .int r0), (0, .ref b), (1, .ref (adh 0)), (2, .ref (adm 0)), (3, .ref o1), (4, .ref o2), (5, .int (nI j))]) hx hb dL_law_1868 hl (by decide) rfl (fun ls hl => ?_)
    refine lv_aload_n hx hb dL_law_1870 rfl (lv_at hl 4 rfl) ?_
    obtain ⟨q2, hq2, hM2⟩ := heM_0 (cy := cy) (I := J9) (D := E9) hM.1
    refine va_calli (va_runV (As := []) (rest := []) ⟨hx, hb, hml, hown, hts⟩ (mt_X7_thrown l dC dI L a b1 adm cy hM.1 H.size J9 E9 (J9 0 0) rfl) (cwV 0 hts gL_law_X7_thrown rfl rfl rfl (by decide +kernel) ⟨Nat.le_of_ble_eq_true rfl, Nat.le_of_ble_eq_true rfl⟩) ⟨(wM.pre [.ref (adm 0)] hY.2.2.2 hKt ⟨hN, hI⟩).1, wM.recv (C := RX7) (T := TX7) (N := 9) hY.2.2.2 hKt hM2 rfl, (wM.pre [.ref (adm 0)] hY.2.2.2 hKt ⟨hN, hI⟩).2⟩ rfl rfl hl.1 rfl (lv_room (Nat.le_of_ble_eq_true rfl)) dL_law_1871 ⟨by show cells + 1 + 0 + 0 ≤ 601024; omega, by show slots + 6 + 0 + 0 ≤ 7293034; omega⟩) hS (fun q _ h => Nat.le_trans hS.1 h) (fun q h => Nat.le_trans hS.1 h) (fun r9 u t H1 locs ht hvm hw8 hB hz1 hk1 hS => ?_)
    subst hw8
    have hY := lh_new hY hk1
    clear hB hz1 hk1 hvm ht
    generalize H1 = H at hY hS ⊢
    refine lv_iload hx hb dL_law_1874 (lv_at hl 1 rfl) ?_
    refine lv_icmp_eq (tgt := 1881) hx hb dL_law_1876 (by decide) (fun _ => ?_) (fun c9 => absurd hJ0 c9)
    refine lv_iload hx hb dL_law_1881 (lv_at hl 1 rfl) ?_
    have fin : ∀ (ls : Array Slot), lv_has ls 9 [(7, .int v), (6, .int r0), (0, .ref b), (1, .ref (adh 0)), (2, .ref (adm 0)), (3, .ref o1), (4, .ref o2), (5, .int (nI j))] → W p l e room_1 s m #[Value.ref b] below meth c H locs (cells + 1 + 0 + 0) (slots + 6 + 0 + 0) Q (F0 m 1898 ls []) := fun ls hl => lv_goto (tgt := 2072) hx hb dL_law_1898 (by decide) (W.widen (k := cells + 207) (n := slots + 1642) (by omega) (by omega) (kk _ _ _ _ _ _ _ _ _ _ _ _ _ _ _ _ hM hY hS hR2 hh2 (lv_sub hl [2, 3, 4, 5, 6, 7] rfl)))
    refine lv_if_ne (tgt := 1898) hx hb dL_law_1883 (by decide) (fun _ => fin ls hl) (fun c2 => ?_)
    have hg1 := hg c2
    have hv1 := hvw c2
    refine lv_aload_n hx hb dL_law_1886 rfl (lv_at hl 5 rfl) ?_
    refine lv_iconst (v := 0) hx hb dL_law_1887 (by decide) ?_
    refine va_lald hx hb hK hY.2.1 0 8 rfl rfl vin0 dL_law_1888 ?_
    refine lv_iload hx hb dL_law_1889 (lv_at hl 0 rfl) ?_
    refine lv_i2l hx hb dL_law_1891 rfl ?_
    refine W.lcmp hx hb dL_law_1892 ?_
    have hq9 : g1 (0 : Int32).toNatClampNeg = v.toInt64 := hg1.trans (congrArg Int32.toInt64 hv1.1)
    rw [hq9]
    exact lv_if_eq (tgt := 1898) hx hb dL_law_1893 (by decide) (fun _ => fin ls hl) (fun c9 => absurd (lcmp_self _) c9)
  · skip
    obtain ⟨v, J9, E9, r0, w, I9, D9, hy, hJ0, hw, hvw, c2, d2, h2, hh2, hR2⟩ := agW_law (a_day hR (xs (nI j + 1).toNatClampNeg) 1) (by decide)
    refine lv_aload_n hx hb dL_law_1817 rfl (lv_at hl 1 rfl) ?_
    refine lv_aload_n hx hb dL_law_1818 rfl (lv_at hl 0 rfl) ?_
    refine lv_iload hx hb dL_law_1819 (lv_at hl 5 rfl) ?_
    refine lv_iconst (v := 1) hx hb dL_law_1821 (by decide) ?_
    refine lv_iadd hx hb dL_law_1822 ?_
    refine va_sld hx hb hX hbl hbA hS hi1 dL_law_1823 ?_
    refine lv_aload_n hx hb dL_law_1824 rfl (lv_at hl 0 rfl) ?_
    refine lv_iload hx hb dL_law_1825 (lv_at hl 5 rfl) ?_
    refine lv_iconst (v := 2) hx hb dL_law_1827 (by decide) ?_
    refine lv_iadd hx hb dL_law_1828 ?_
    refine va_sld hx hb hX hbl hbA hS hi2 dL_law_1829 ?_
    refine lv_if_eq (tgt := 1837) hx hb dL_law_1830 (by decide) (fun c9 => absurd c9 hz) (fun _ => ?_)
    refine lv_iconst (v := 1) hx hb dL_law_1833 (by decide) ?_
    refine lv_goto (tgt := 1838) hx hb dL_law_1834 (by decide) ?_
    refine lv_aload_n hx hb dL_law_1838 rfl (lv_at hl 3 rfl) ?_
    have hAO := AO_out (z := H.size) hG.2.2.2.2.2.1 hG.2.2.2.2.1 hS.1
    refine vx_calli (vx_runSX (As := [.ref (adh 0), .int (xs (nI j + 1).toNatClampNeg), .int 1, .ref o1]) (rest := []) ⟨hx, hb, hml, hown, hts⟩ (wL_day l hl0 dC dI adh cy cL hG.1 sa o1 hG.2.1 H.size I D f1 (xs (nI j + 1).toNatClampNeg) 1 r0 w I9 D9 hw) (vx_cwSW 4 hts gL_law_L_day rfl rfl rfl (by decide +kernel) ⟨Nat.le_of_ble_eq_true rfl, Nat.le_of_ble_eq_true rfl⟩) (hO.preX [.ref (adh 0), .int (xs (nI j + 1).toNatClampNeg), .int 1, .ref o1] (va_Pcons hY.2.1 hY.1) hK hN (xS_kept (B := AO o1 adh H.size) hZ hS hAO) hT) rfl rfl hl.1 rfl (lv_room (Nat.le_of_ble_eq_true rfl)) dL_law_1839 ⟨by show cells + 1 ≤ 601024; omega, by show slots + 6 ≤ 7293034; omega⟩) hS (fun q _ h => hAO q h) hAO (fun q _ h => hAO q h) (fun E9 ce q9 u t H1 locs1 ht9 hvm hpu hBX hz1 hk1 hS h1 h2 h3 => hpu.elim) (fun r9 g1 t H1 locs ht9 hvm hw9 hB hz1 hk1 hS => ?_)
    rw [hw9.1]
    have hg := hw9.2
    have hY := lh_1 hY hG hM hk1 (by rw [← ht9]; exact hB)
    clear hw9 hB hz1 hk1 hvm ht9 hAO
    generalize H1 = H at hY hS ⊢
    refine lv_istore (lv' := [(6, .int r0), (0, .ref b), (1, .ref (adh 0)), (2, .ref (adm 0)), (3, .ref o1), (4, .ref o2), (5, .int (nI j))]) hx hb dL_law_1842 hl (by decide) rfl (fun ls hl => ?_)
    refine lv_aload_n hx hb dL_law_1844 rfl (lv_at hl 3 rfl) ?_
    refine lv_aload_n hx hb dL_law_1845 rfl (lv_at hl 1 rfl) ?_
    refine lv_iload hx hb dL_law_1846 (lv_at hl 6 rfl) ?_
    refine lv_iconst (v := 1) hx hb dL_law_1848 (by decide) ?_
    refine lv_iadd hx hb dL_law_1849 ?_
    refine va_sld hx hb hX hbl hbA hS hi1 dL_law_1850 ?_
    refine lv_aload_n hx hb dL_law_1851 rfl (lv_at hl 1 rfl) ?_
    refine lv_iload hx hb dL_law_1852 (lv_at hl 6 rfl) ?_
    refine lv_iconst (v := 2) hx hb dL_law_1854 (by decide) ?_
    refine lv_iadd hx hb dL_law_1855 ?_
    refine va_sld hx hb hX hbl hbA hS hi2 dL_law_1856 ?_
    refine lv_if_eq (tgt := 1864) hx hb dL_law_1857 (by decide) (fun c9 => absurd c9 hz) (fun _ => ?_)
    refine lv_iconst (v := 1) hx hb dL_law_1860 (by decide) ?_
    refine lv_goto (tgt := 1865) hx hb dL_law_1861 (by decide) ?_
    obtain ⟨q0, hq0, hM0⟩ := heM_0 (cy := cy) (I := J) (D := E) hM.1
    have hAM := AM_out (z := H.size) (fun k hk => (hM.2.2.1 k hk).1) hS.1
    have hsz := hS.1
    refine va_calli (va_runV (As := [.int (xs (nI j + 1).toNatClampNeg), .int 1]) (rest := []) ⟨hx, hb, hml, hown, hts⟩ (mt_X7_day l dC dI L a b1 adm cy hM.1 H.size J E (xs (nI j + 1).toNatClampNeg) 1 v J9 E9 hy) (cwV 2 hts gL_law_X7_day rfl rfl rfl (by decide +kernel) ⟨Nat.le_of_ble_eq_true rfl, Nat.le_of_ble_eq_true rfl⟩) ⟨(wM.pre [.ref (adm 0), .int (xs (nI j + 1).toNatClampNeg), .int 1] hY.2.2.2 hKt ⟨hN, hI⟩).1, wM.recv (C := RX7) (T := TX7) (N := 9) hY.2.2.2 hKt hM0 rfl, (wM.pre [.ref (adm 0), .int (xs (nI j + 1).toNatClampNeg), .int 1] hY.2.2.2 hKt ⟨hN, hI⟩).2⟩ rfl rfl hl.1 rfl (lv_room (Nat.le_of_ble_eq_true rfl)) dL_law_1865 ⟨by show cells + 1 + 0 ≤ 601024; omega, by show slots + 6 + 0 ≤ 7293034; omega⟩) hS (fun q _ h => hAM q h) hAM (fun r9 u t H1 locs ht hvm hw8 hB hz1 hk1 hS => ?_)
    subst hw8
    have hY := lh_M hY hM hk1 (by rw [← ht]; exact hB.1)
    clear hB hz1 hk1 hvm ht hAM hsz
    generalize H1 = H at hY hS ⊢
    refine lv_istore (lv' := [(7, .int v), (6, .int r0), (0, .ref b), (1, .ref (adh 0)), (2, .ref (adm 0)), (3, .ref o1), (4, .ref o2), (5, .int (nI j))]) hx hb dL_law_1868 hl (by decide) rfl (fun ls hl => ?_)
    refine lv_aload_n hx hb dL_law_1870 rfl (lv_at hl 4 rfl) ?_
    obtain ⟨q2, hq2, hM2⟩ := heM_0 (cy := cy) (I := J9) (D := E9) hM.1
    refine va_calli (va_runV (As := []) (rest := []) ⟨hx, hb, hml, hown, hts⟩ (mt_X7_thrown l dC dI L a b1 adm cy hM.1 H.size J9 E9 (J9 0 0) rfl) (cwV 0 hts gL_law_X7_thrown rfl rfl rfl (by decide +kernel) ⟨Nat.le_of_ble_eq_true rfl, Nat.le_of_ble_eq_true rfl⟩) ⟨(wM.pre [.ref (adm 0)] hY.2.2.2 hKt ⟨hN, hI⟩).1, wM.recv (C := RX7) (T := TX7) (N := 9) hY.2.2.2 hKt hM2 rfl, (wM.pre [.ref (adm 0)] hY.2.2.2 hKt ⟨hN, hI⟩).2⟩ rfl rfl hl.1 rfl (lv_room (Nat.le_of_ble_eq_true rfl)) dL_law_1871 ⟨by show cells + 1 + 0 + 0 ≤ 601024; omega, by show slots + 6 + 0 + 0 ≤ 7293034; omega⟩) hS (fun q _ h => Nat.le_trans hS.1 h) (fun q h => Nat.le_trans hS.1 h) (fun r9 u t H1 locs ht hvm hw8 hB hz1 hk1 hS => ?_)
    subst hw8
    have hY := lh_new hY hk1
    clear hB hz1 hk1 hvm ht
    generalize H1 = H at hY hS ⊢
    refine lv_iload hx hb dL_law_1874 (lv_at hl 1 rfl) ?_
    refine lv_icmp_eq (tgt := 1881) hx hb dL_law_1876 (by decide) (fun _ => ?_) (fun c9 => absurd hJ0 c9)
    refine lv_iload hx hb dL_law_1881 (lv_at hl 1 rfl) ?_
    have fin : ∀ (ls : Array Slot), lv_has ls 9 [(7, .int v), (6, .int r0), (0, .ref b), (1, .ref (adh 0)), (2, .ref (adm 0)), (3, .ref o1), (4, .ref o2), (5, .int (nI j))] → W p l e room_1 s m #[Value.ref b] below meth c H locs (cells + 1 + 0 + 0) (slots + 6 + 0 + 0) Q (F0 m 1898 ls []) := fun ls hl => lv_goto (tgt := 2072) hx hb dL_law_1898 (by decide) (W.widen (k := cells + 207) (n := slots + 1642) (by omega) (by omega) (kk _ _ _ _ _ _ _ _ _ _ _ _ _ _ _ _ hM hY hS hR2 hh2 (lv_sub hl [2, 3, 4, 5, 6, 7] rfl)))
    refine lv_if_ne (tgt := 1898) hx hb dL_law_1883 (by decide) (fun _ => fin ls hl) (fun c2 => ?_)
    have hg1 := hg c2
    have hv1 := hvw c2
    refine lv_aload_n hx hb dL_law_1886 rfl (lv_at hl 5 rfl) ?_
    refine lv_iconst (v := 0) hx hb dL_law_1887 (by decide) ?_
    refine va_lald hx hb hK hY.2.1 0 8 rfl rfl vin0 dL_law_1888 ?_
    refine lv_iload hx hb dL_law_1889 (lv_at hl 0 rfl) ?_
    refine lv_i2l hx hb dL_law_1891 rfl ?_
    refine W.lcmp hx hb dL_law_1892 ?_
    have hq9 : g1 (0 : Int32).toNatClampNeg = v.toInt64 := hg1.trans (congrArg Int32.toInt64 hv1.1)
    rw [hq9]
    exact lv_if_eq (tgt := 1898) hx hb dL_law_1893 (by decide) (fun _ => fin ls hl) (fun c9 => absurd (lcmp_self _) c9)

set_option maxHeartbeats 8000000 in
set_option maxRecDepth 100000 in
theorem lc_wouldBe {p : Program} {l : Launch} {e : Env} {s : State} {m : MethodId} {below : List Frame} {meth : Method} {c : Code} {b Lx : Nat} {xs : Nat → Int32} (hl0 : l.stackTraces = false) (hL : Lx ≤ 3072) (C0 : lw_At p s m meth c b Lx xs) {dC : Nat → ClassId} {dI : Nat → Nat → Nat} {cy : Nat → ClassId} {cL : ClassId} {sa : Nat → Nat} {t0 : Nat} {adh : Nat → Nat} {o1 o2 : Nat} (hK0 : LK dC dI cy cL sa t0 s) (hG : LG adh o1 o2 s.heap.size) {L : List Nat} {a b1 : Nat} {adm : Nat → Nat} (hM : LM adh o1 o2 t0 s.heap.size L a b1 adm) {I : MI} {D : MD} {J : MI} {E : MD} {f1 : Nat → Int64} {f2 : Nat → UInt64} {H : Heap} {locs : List Loc} (hY : LH dC dI cy cL adh o1 o2 L a b1 adm I D J E f1 f2 H) (hS : va_S (fun q => s.heap.size ≤ q) s.heap H locs) {c1 d1 h1 : Nat} (hR : RR 0 a b1 c1 d1 h1 I D J E) (hh : h1 + 48 < 2 ^ 20) {cells slots : Nat} (hc : cells + 207 ≤ 601024) (hs : slots + 1642 ≤ 7293034) {j : Nat} (hj : j + 6 ≤ Lx) {ls : Array Slot} (hl : lv_has ls 9 [(0, .ref b), (1, .ref (adh 0)), (2, .ref (adm 0)), (3, .ref o1), (4, .ref o2), (5, .int (nI j))]) {Q : State → Prop} (kk : ∀ (L' : List Nat) (a' b' : Nat) (adm' : Nat → Nat) (I' : MI) (D' : MD) (J' : MI) (E' : MD) (f1' : Nat → Int64) (f2' : Nat → UInt64) (H' : Heap) (locs' : List Loc) (c' d' h' : Nat) (ls' : Array Slot), LM adh o1 o2 t0 s.heap.size L' a' b' adm' → LH dC dI cy cL adh o1 o2 L' a' b' adm' I' D' J' E' f1' f2' H' → va_S (fun q => s.heap.size ≤ q) s.heap H' locs' → RR 0 a' b' c' d' h' I' D' J' E' → h' ≤ h1 + 48 → lv_has ls' 9 [(0, .ref b), (1, .ref (adh 0)), (2, .ref (adm' 0)), (3, .ref o1), (4, .ref o2), (5, .int (nI j))] → W p l e room_1 s m #[Value.ref b] below meth c H' locs' (cells + 207) (slots + 1642) Q (F0 m 2072 ls' [])) : W p l e room_1 s m #[Value.ref b] below meth c H locs cells slots Q (F0 m 1901 ls []) := by
  obtain ⟨hx, hb, hr, hml, hown0, hts0, hX, hbl, hlocks, -⟩ := C0
  have hown : s.vm.findClass RL = some m.cls := hown0
  have hts : ∀ w ∈ wsL_law, w.before #[Value.ref b] s = true := fun w h => hts0 w (wsL_law_in w h)
  obtain ⟨hK, hN, hI, hca, hcb, hao, hZ, hT, hzs, hts9⟩ := hK0
  have hKt : va_K (dC, dI) vwCl (tysA cy) s := hK.sub [0, 1, 2, 3, 4, 5, 6, 7] rfl
  have hbA : ¬ (fun q : Nat => s.heap.size ≤ q) b := Nat.not_le.mpr hbl
  have hi1 : vp_in (nI j + 1) Lx := vin_k hj hL 1 (by decide)
  have hi2 : vp_in (nI j + 2) Lx := vin_k hj hL 2 (by decide)
  obtain ⟨v, J9, E9, r0, w, hy, hJ0, hw, hvw, c2, d2, h2, hh2, hR2⟩ := agR_law (a_wouldBe hR (xs (nI j + 1).toNatClampNeg) (xs (nI j + 2).toNatClampNeg)) (by decide)
  refine lv_aload_n hx hb dL_law_1901 rfl (lv_at hl 1 rfl) ?_
  refine lv_aload_n hx hb dL_law_1902 rfl (lv_at hl 0 rfl) ?_
  refine lv_iload hx hb dL_law_1903 (lv_at hl 5 rfl) ?_
  refine lv_iconst (v := 1) hx hb dL_law_1905 (by decide) ?_
  refine lv_iadd hx hb dL_law_1906 ?_
  refine va_sld hx hb hX hbl hbA hS hi1 dL_law_1907 ?_
  refine lv_aload_n hx hb dL_law_1908 rfl (lv_at hl 0 rfl) ?_
  refine lv_iload hx hb dL_law_1909 (lv_at hl 5 rfl) ?_
  refine lv_iconst (v := 2) hx hb dL_law_1911 (by decide) ?_
  refine lv_iadd hx hb dL_law_1912 ?_
  refine va_sld hx hb hX hbl hbA hS hi2 dL_law_1913 ?_
  refine lv_aload hx hb dL_law_1914 (lv_at hl 4 rfl) ?_
  have hAO := AO_out (z := H.size) hG.2.2.2.2.2.2 hG.2.2.2.2.1 hS.1
  refine vx_calli (vx_runSX (As := [.ref (adh 0), .int (xs (nI j + 1).toNatClampNeg), .int (xs (nI j + 2).toNatClampNeg), .ref o2]) (rest := []) ⟨hx, hb, hml, hown, hts⟩ (wL_wouldBe l hl0 dC dI adh cy cL hG.1 sa o2 hG.2.2.1 H.size I D f2 (xs (nI j + 1).toNatClampNeg) (xs (nI j + 2).toNatClampNeg) r0 w hw) (vx_cwSW 4 hts gL_law_L_wouldBe rfl rfl rfl (by decide +kernel) ⟨Nat.le_of_ble_eq_true rfl, Nat.le_of_ble_eq_true rfl⟩) (hO.preX [.ref (adh 0), .int (xs (nI j + 1).toNatClampNeg), .int (xs (nI j + 2).toNatClampNeg), .ref o2] (va_Pcons hY.2.2.1 hY.1) hK hN (xS_kept (B := AO o2 adh H.size) hZ hS hAO) hT) rfl rfl hl.1 rfl (lv_room (Nat.le_of_ble_eq_true rfl)) dL_law_1916 ⟨by show cells + 1 ≤ 601024; omega, by show slots + 6 ≤ 7293034; omega⟩) hS (fun q _ h => hAO q h) hAO (fun q _ h => hAO q h) (fun E9 ce q9 u t H1 locs1 ht9 hvm hpu hBX hz1 hk1 hS h1 h2 h3 => hpu.elim) (fun r9 g1 t H1 locs ht9 hvm hw9 hB hz1 hk1 hS => ?_)
  rw [hw9.1]
  have hg := hw9.2
  have hY := lh_2 hY hG hM hk1 (by rw [← ht9]; exact hB)
  clear hw9 hB hz1 hk1 hvm ht9 hAO
  generalize H1 = H at hY hS ⊢
  refine lv_istore (lv' := [(6, .int r0), (0, .ref b), (1, .ref (adh 0)), (2, .ref (adm 0)), (3, .ref o1), (4, .ref o2), (5, .int (nI j))]) hx hb dL_law_1919 hl (by decide) rfl (fun ls hl => ?_)
  refine lv_aload_n hx hb dL_law_1921 rfl (lv_at hl 3 rfl) ?_
  refine lv_aload_n hx hb dL_law_1922 rfl (lv_at hl 1 rfl) ?_
  refine lv_iload hx hb dL_law_1923 (lv_at hl 6 rfl) ?_
  refine lv_iconst (v := 1) hx hb dL_law_1925 (by decide) ?_
  refine lv_iadd hx hb dL_law_1926 ?_
  refine va_sld hx hb hX hbl hbA hS hi1 dL_law_1927 ?_
  refine lv_aload_n hx hb dL_law_1928 rfl (lv_at hl 1 rfl) ?_
  refine lv_iload hx hb dL_law_1929 (lv_at hl 6 rfl) ?_
  refine lv_iconst (v := 2) hx hb dL_law_1931 (by decide) ?_
  refine lv_iadd hx hb dL_law_1932 ?_
  refine va_sld hx hb hX hbl hbA hS hi2 dL_law_1933 ?_
  obtain ⟨q0, hq0, hM0⟩ := heM_0 (cy := cy) (I := J) (D := E) hM.1
  have hAM := AM_out (z := H.size) (fun k hk => (hM.2.2.1 k hk).1) hS.1
  have hsz := hS.1
  refine va_calld (va_runV (As := [.int (xs (nI j + 1).toNatClampNeg), .int (xs (nI j + 2).toNatClampNeg)]) (rest := []) ⟨hx, hb, hml, hown, hts⟩ (mt_X7_wouldBe l dC dI L a b1 adm cy hM.1 (fun k hk => mL_30 hM.1.2.1 hM.1.2.2 (hM.2.1 k hk)) H.size J E (xs (nI j + 1).toNatClampNeg) (xs (nI j + 2).toNatClampNeg) v J9 E9 hy) (cwV 2 hts gL_law_X7_wouldBe rfl rfl rfl (by decide +kernel) ⟨Nat.le_of_ble_eq_true rfl, Nat.le_of_ble_eq_true rfl⟩) ⟨(wM.pre [.ref (adm 0), .int (xs (nI j + 1).toNatClampNeg), .int (xs (nI j + 2).toNatClampNeg)] hY.2.2.2 hKt ⟨hN, hI⟩).1, wM.recv (C := RX7) (T := TX7) (N := 9) hY.2.2.2 hKt hM0 rfl, (wM.pre [.ref (adm 0), .int (xs (nI j + 1).toNatClampNeg), .int (xs (nI j + 2).toNatClampNeg)] hY.2.2.2 hKt ⟨hN, hI⟩).2⟩ rfl rfl hl.1 rfl (lv_room (Nat.le_of_ble_eq_true rfl)) dL_law_1934 ⟨by show cells + 1 + 8 ≤ 601024; omega, by show slots + 6 + 76 ≤ 7293034; omega⟩) hS (fun q _ h => hAM q h) hAM (fun r9 u t H1 locs ht hvm hw8 hB hz1 hk1 hS => ?_)
  subst hw8
  have hY := lh_M hY hM hk1 (by rw [← ht]; exact hB.1)
  clear hB hz1 hk1 hvm ht hAM hsz
  generalize H1 = H at hY hS ⊢
  refine lv_dstore (lv' := [(7, .double v), (6, .int r0), (0, .ref b), (1, .ref (adh 0)), (2, .ref (adm 0)), (3, .ref o1), (4, .ref o2), (5, .int (nI j))]) hx hb dL_law_1937 hl (by decide) rfl (fun ls hl => ?_)
  refine lv_aload_n hx hb dL_law_1939 rfl (lv_at hl 4 rfl) ?_
  obtain ⟨q2, hq2, hM2⟩ := heM_0 (cy := cy) (I := J9) (D := E9) hM.1
  refine va_calli (va_runV (As := []) (rest := []) ⟨hx, hb, hml, hown, hts⟩ (mt_X7_thrown l dC dI L a b1 adm cy hM.1 H.size J9 E9 (J9 0 0) rfl) (cwV 0 hts gL_law_X7_thrown rfl rfl rfl (by decide +kernel) ⟨Nat.le_of_ble_eq_true rfl, Nat.le_of_ble_eq_true rfl⟩) ⟨(wM.pre [.ref (adm 0)] hY.2.2.2 hKt ⟨hN, hI⟩).1, wM.recv (C := RX7) (T := TX7) (N := 9) hY.2.2.2 hKt hM2 rfl, (wM.pre [.ref (adm 0)] hY.2.2.2 hKt ⟨hN, hI⟩).2⟩ rfl rfl hl.1 rfl (lv_room (Nat.le_of_ble_eq_true rfl)) dL_law_1940 ⟨by show cells + 1 + 8 + 0 ≤ 601024; omega, by show slots + 6 + 76 + 0 ≤ 7293034; omega⟩) hS (fun q _ h => Nat.le_trans hS.1 h) (fun q h => Nat.le_trans hS.1 h) (fun r9 u t H1 locs ht hvm hw8 hB hz1 hk1 hS => ?_)
  subst hw8
  have hY := lh_new hY hk1
  clear hB hz1 hk1 hvm ht
  generalize H1 = H at hY hS ⊢
  refine lv_iload hx hb dL_law_1943 (lv_at hl 1 rfl) ?_
  refine lv_icmp_eq (tgt := 1950) hx hb dL_law_1945 (by decide) (fun _ => ?_) (fun c9 => absurd hJ0 c9)
  refine lv_iload hx hb dL_law_1950 (lv_at hl 1 rfl) ?_
  have fin : ∀ (ls : Array Slot), lv_has ls 9 [(7, .double v), (6, .int r0), (0, .ref b), (1, .ref (adh 0)), (2, .ref (adm 0)), (3, .ref o1), (4, .ref o2), (5, .int (nI j))] → W p l e room_1 s m #[Value.ref b] below meth c H locs (cells + 1 + 8 + 0) (slots + 6 + 76 + 0) Q (F0 m 1987 ls []) := fun ls hl => lv_goto (tgt := 2072) hx hb dL_law_1987 (by decide) (W.widen (k := cells + 207) (n := slots + 1642) (by omega) (by omega) (kk _ _ _ _ _ _ _ _ _ _ _ _ _ _ _ _ hM hY hS hR2 hh2 (lv_sub hl [2, 3, 4, 5, 6, 7] rfl)))
  refine lv_if_ne (tgt := 1987) hx hb dL_law_1952 (by decide) (fun _ => fin ls hl) (fun c2 => ?_)
  have hg1 := hg c2
  have hv1 := hvw c2
  refine lv_aload hx hb dL_law_1955 (lv_at hl 6 rfl) ?_
  refine lv_iconst (v := 0) hx hb dL_law_1957 (by decide) ?_
  refine va_dald hx hb hK hY.2.2.1 0 6 rfl rfl vin0 dL_law_1958 ?_
  refine lv_dload hx hb dL_law_1959 (lv_at hl 0 rfl) ?_
  refine lv_dcmp hx hb dL_law_1961 ?_
  have hq9 : g1 (0 : Int32).toNatClampNeg = v := hg1.trans hv1.1
  rw [hq9]
  exact lv_if_eq (tgt := 1987) hx hb dL_law_1962 (by decide) (fun _ => fin ls hl) (fun c9 => absurd (dcmp_self hv1.2 _) c9)

set_option maxHeartbeats 8000000 in
set_option maxRecDepth 100000 in
theorem lc_wouldSpoil {p : Program} {l : Launch} {e : Env} {s : State} {m : MethodId} {below : List Frame} {meth : Method} {c : Code} {b Lx : Nat} {xs : Nat → Int32} (hl0 : l.stackTraces = false) (hL : Lx ≤ 3072) (C0 : lw_At p s m meth c b Lx xs) {dC : Nat → ClassId} {dI : Nat → Nat → Nat} {cy : Nat → ClassId} {cL : ClassId} {sa : Nat → Nat} {t0 : Nat} {adh : Nat → Nat} {o1 o2 : Nat} (hK0 : LK dC dI cy cL sa t0 s) (hG : LG adh o1 o2 s.heap.size) {L : List Nat} {a b1 : Nat} {adm : Nat → Nat} (hM : LM adh o1 o2 t0 s.heap.size L a b1 adm) {I : MI} {D : MD} {J : MI} {E : MD} {f1 : Nat → Int64} {f2 : Nat → UInt64} {H : Heap} {locs : List Loc} (hY : LH dC dI cy cL adh o1 o2 L a b1 adm I D J E f1 f2 H) (hS : va_S (fun q => s.heap.size ≤ q) s.heap H locs) {c1 d1 h1 : Nat} (hR : RR 0 a b1 c1 d1 h1 I D J E) (hh : h1 + 48 < 2 ^ 20) {cells slots : Nat} (hc : cells + 207 ≤ 601024) (hs : slots + 1642 ≤ 7293034) {j : Nat} (hj : j + 6 ≤ Lx) {ls : Array Slot} (hl : lv_has ls 9 [(0, .ref b), (1, .ref (adh 0)), (2, .ref (adm 0)), (3, .ref o1), (4, .ref o2), (5, .int (nI j))]) {Q : State → Prop} (kk : ∀ (L' : List Nat) (a' b' : Nat) (adm' : Nat → Nat) (I' : MI) (D' : MD) (J' : MI) (E' : MD) (f1' : Nat → Int64) (f2' : Nat → UInt64) (H' : Heap) (locs' : List Loc) (c' d' h' : Nat) (ls' : Array Slot), LM adh o1 o2 t0 s.heap.size L' a' b' adm' → LH dC dI cy cL adh o1 o2 L' a' b' adm' I' D' J' E' f1' f2' H' → va_S (fun q => s.heap.size ≤ q) s.heap H' locs' → RR 0 a' b' c' d' h' I' D' J' E' → h' ≤ h1 + 48 → lv_has ls' 9 [(0, .ref b), (1, .ref (adh 0)), (2, .ref (adm' 0)), (3, .ref o1), (4, .ref o2), (5, .int (nI j))] → W p l e room_1 s m #[Value.ref b] below meth c H' locs' (cells + 207) (slots + 1642) Q (F0 m 2072 ls' [])) : W p l e room_1 s m #[Value.ref b] below meth c H locs cells slots Q (F0 m 1990 ls []) := by
  obtain ⟨hx, hb, hr, hml, hown0, hts0, hX, hbl, hlocks, -⟩ := C0
  have hown : s.vm.findClass RL = some m.cls := hown0
  have hts : ∀ w ∈ wsL_law, w.before #[Value.ref b] s = true := fun w h => hts0 w (wsL_law_in w h)
  obtain ⟨hK, hN, hI, hca, hcb, hao, hZ, hT, hzs, hts9⟩ := hK0
  have hKt : va_K (dC, dI) vwCl (tysA cy) s := hK.sub [0, 1, 2, 3, 4, 5, 6, 7] rfl
  have hbA : ¬ (fun q : Nat => s.heap.size ≤ q) b := Nat.not_le.mpr hbl
  have hi1 : vp_in (nI j + 1) Lx := vin_k hj hL 1 (by decide)
  have hi2 : vp_in (nI j + 2) Lx := vin_k hj hL 2 (by decide)
  obtain ⟨v, J9, E9, r0, w, hy, hJ0, hw, hvw, c2, d2, h2, hh2, hR2⟩ := agR_law (a_wouldSpoil hR (xs (nI j + 1).toNatClampNeg) (xs (nI j + 2).toNatClampNeg)) (by decide)
  refine lv_aload_n hx hb dL_law_1990 rfl (lv_at hl 1 rfl) ?_
  refine lv_aload_n hx hb dL_law_1991 rfl (lv_at hl 0 rfl) ?_
  refine lv_iload hx hb dL_law_1992 (lv_at hl 5 rfl) ?_
  refine lv_iconst (v := 1) hx hb dL_law_1994 (by decide) ?_
  refine lv_iadd hx hb dL_law_1995 ?_
  refine va_sld hx hb hX hbl hbA hS hi1 dL_law_1996 ?_
  refine lv_aload_n hx hb dL_law_1997 rfl (lv_at hl 0 rfl) ?_
  refine lv_iload hx hb dL_law_1998 (lv_at hl 5 rfl) ?_
  refine lv_iconst (v := 2) hx hb dL_law_2000 (by decide) ?_
  refine lv_iadd hx hb dL_law_2001 ?_
  refine va_sld hx hb hX hbl hbA hS hi2 dL_law_2002 ?_
  refine lv_aload_n hx hb dL_law_2003 rfl (lv_at hl 3 rfl) ?_
  have hAO := AO_out (z := H.size) hG.2.2.2.2.2.1 hG.2.2.2.2.1 hS.1
  refine vx_calli (vx_runSX (As := [.ref (adh 0), .int (xs (nI j + 1).toNatClampNeg), .int (xs (nI j + 2).toNatClampNeg), .ref o1]) (rest := []) ⟨hx, hb, hml, hown, hts⟩ (wL_wouldSpoil l hl0 dC dI adh cy cL hG.1 sa o1 hG.2.1 H.size I D f1 (xs (nI j + 1).toNatClampNeg) (xs (nI j + 2).toNatClampNeg) r0 w hw) (vx_cwSW 4 hts gL_law_L_wouldSpoil rfl rfl rfl (by decide +kernel) ⟨Nat.le_of_ble_eq_true rfl, Nat.le_of_ble_eq_true rfl⟩) (hO.preX [.ref (adh 0), .int (xs (nI j + 1).toNatClampNeg), .int (xs (nI j + 2).toNatClampNeg), .ref o1] (va_Pcons hY.2.1 hY.1) hK hN (xS_kept (B := AO o1 adh H.size) hZ hS hAO) hT) rfl rfl hl.1 rfl (lv_room (Nat.le_of_ble_eq_true rfl)) dL_law_2004 ⟨by show cells + 1 ≤ 601024; omega, by show slots + 6 ≤ 7293034; omega⟩) hS (fun q _ h => hAO q h) hAO (fun q _ h => hAO q h) (fun E9 ce q9 u t H1 locs1 ht9 hvm hpu hBX hz1 hk1 hS h1 h2 h3 => hpu.elim) (fun r9 g1 t H1 locs ht9 hvm hw9 hB hz1 hk1 hS => ?_)
  rw [hw9.1]
  have hg := hw9.2
  have hY := lh_1 hY hG hM hk1 (by rw [← ht9]; exact hB)
  clear hw9 hB hz1 hk1 hvm ht9 hAO
  generalize H1 = H at hY hS ⊢
  refine lv_istore (lv' := [(6, .int r0), (0, .ref b), (1, .ref (adh 0)), (2, .ref (adm 0)), (3, .ref o1), (4, .ref o2), (5, .int (nI j))]) hx hb dL_law_2007 hl (by decide) rfl (fun ls hl => ?_)
  refine lv_aload_n hx hb dL_law_2009 rfl (lv_at hl 3 rfl) ?_
  refine lv_aload_n hx hb dL_law_2010 rfl (lv_at hl 1 rfl) ?_
  refine lv_iload hx hb dL_law_2011 (lv_at hl 6 rfl) ?_
  refine lv_iconst (v := 1) hx hb dL_law_2013 (by decide) ?_
  refine lv_iadd hx hb dL_law_2014 ?_
  refine va_sld hx hb hX hbl hbA hS hi1 dL_law_2015 ?_
  refine lv_aload_n hx hb dL_law_2016 rfl (lv_at hl 1 rfl) ?_
  refine lv_iload hx hb dL_law_2017 (lv_at hl 6 rfl) ?_
  refine lv_iconst (v := 2) hx hb dL_law_2019 (by decide) ?_
  refine lv_iadd hx hb dL_law_2020 ?_
  refine va_sld hx hb hX hbl hbA hS hi2 dL_law_2021 ?_
  obtain ⟨q0, hq0, hM0⟩ := heM_0 (cy := cy) (I := J) (D := E) hM.1
  have hAM := AM_out (z := H.size) (fun k hk => (hM.2.2.1 k hk).1) hS.1
  have hsz := hS.1
  refine va_calli (va_runV (As := [.int (xs (nI j + 1).toNatClampNeg), .int (xs (nI j + 2).toNatClampNeg)]) (rest := []) ⟨hx, hb, hml, hown, hts⟩ (mt_X7_wouldSpoil l dC dI L a b1 adm cy hM.1 (fun k hk => mL_30 hM.1.2.1 hM.1.2.2 (hM.2.1 k hk)) H.size J E (xs (nI j + 1).toNatClampNeg) (xs (nI j + 2).toNatClampNeg) v J9 E9 hy) (cwV 2 hts gL_law_X7_wouldSpoil rfl rfl rfl (by decide +kernel) ⟨Nat.le_of_ble_eq_true rfl, Nat.le_of_ble_eq_true rfl⟩) ⟨(wM.pre [.ref (adm 0), .int (xs (nI j + 1).toNatClampNeg), .int (xs (nI j + 2).toNatClampNeg)] hY.2.2.2 hKt ⟨hN, hI⟩).1, wM.recv (C := RX7) (T := TX7) (N := 9) hY.2.2.2 hKt hM0 rfl, (wM.pre [.ref (adm 0), .int (xs (nI j + 1).toNatClampNeg), .int (xs (nI j + 2).toNatClampNeg)] hY.2.2.2 hKt ⟨hN, hI⟩).2⟩ rfl rfl hl.1 rfl (lv_room (Nat.le_of_ble_eq_true rfl)) dL_law_2022 ⟨by show cells + 1 + 8 ≤ 601024; omega, by show slots + 6 + 76 ≤ 7293034; omega⟩) hS (fun q _ h => hAM q h) hAM (fun r9 u t H1 locs ht hvm hw8 hB hz1 hk1 hS => ?_)
  subst hw8
  have hY := lh_M hY hM hk1 (by rw [← ht]; exact hB.1)
  clear hB hz1 hk1 hvm ht hAM hsz
  generalize H1 = H at hY hS ⊢
  refine lv_istore (lv' := [(7, .int v), (6, .int r0), (0, .ref b), (1, .ref (adh 0)), (2, .ref (adm 0)), (3, .ref o1), (4, .ref o2), (5, .int (nI j))]) hx hb dL_law_2025 hl (by decide) rfl (fun ls hl => ?_)
  refine lv_aload_n hx hb dL_law_2027 rfl (lv_at hl 4 rfl) ?_
  obtain ⟨q2, hq2, hM2⟩ := heM_0 (cy := cy) (I := J9) (D := E9) hM.1
  refine va_calli (va_runV (As := []) (rest := []) ⟨hx, hb, hml, hown, hts⟩ (mt_X7_thrown l dC dI L a b1 adm cy hM.1 H.size J9 E9 (J9 0 0) rfl) (cwV 0 hts gL_law_X7_thrown rfl rfl rfl (by decide +kernel) ⟨Nat.le_of_ble_eq_true rfl, Nat.le_of_ble_eq_true rfl⟩) ⟨(wM.pre [.ref (adm 0)] hY.2.2.2 hKt ⟨hN, hI⟩).1, wM.recv (C := RX7) (T := TX7) (N := 9) hY.2.2.2 hKt hM2 rfl, (wM.pre [.ref (adm 0)] hY.2.2.2 hKt ⟨hN, hI⟩).2⟩ rfl rfl hl.1 rfl (lv_room (Nat.le_of_ble_eq_true rfl)) dL_law_2028 ⟨by show cells + 1 + 8 + 0 ≤ 601024; omega, by show slots + 6 + 76 + 0 ≤ 7293034; omega⟩) hS (fun q _ h => Nat.le_trans hS.1 h) (fun q h => Nat.le_trans hS.1 h) (fun r9 u t H1 locs ht hvm hw8 hB hz1 hk1 hS => ?_)
  subst hw8
  have hY := lh_new hY hk1
  clear hB hz1 hk1 hvm ht
  generalize H1 = H at hY hS ⊢
  refine lv_iload hx hb dL_law_2031 (lv_at hl 1 rfl) ?_
  refine lv_icmp_eq (tgt := 2038) hx hb dL_law_2033 (by decide) (fun _ => ?_) (fun c9 => absurd hJ0 c9)
  refine lv_iload hx hb dL_law_2038 (lv_at hl 1 rfl) ?_
  have fin : ∀ (ls : Array Slot), lv_has ls 9 [(7, .int v), (6, .int r0), (0, .ref b), (1, .ref (adh 0)), (2, .ref (adm 0)), (3, .ref o1), (4, .ref o2), (5, .int (nI j))] → W p l e room_1 s m #[Value.ref b] below meth c H locs (cells + 1 + 8 + 0) (slots + 6 + 76 + 0) Q (F0 m 2055 ls []) := fun ls hl => lv_goto (tgt := 2072) hx hb dL_law_2055 (by decide) (W.widen (k := cells + 207) (n := slots + 1642) (by omega) (by omega) (kk _ _ _ _ _ _ _ _ _ _ _ _ _ _ _ _ hM hY hS hR2 hh2 (lv_sub hl [2, 3, 4, 5, 6, 7] rfl)))
  refine lv_if_ne (tgt := 2055) hx hb dL_law_2040 (by decide) (fun _ => fin ls hl) (fun c2 => ?_)
  have hg1 := hg c2
  have hv1 := hvw c2
  refine lv_aload_n hx hb dL_law_2043 rfl (lv_at hl 5 rfl) ?_
  refine lv_iconst (v := 0) hx hb dL_law_2044 (by decide) ?_
  refine va_lald hx hb hK hY.2.1 0 8 rfl rfl vin0 dL_law_2045 ?_
  refine lv_iload hx hb dL_law_2046 (lv_at hl 0 rfl) ?_
  refine lv_i2l hx hb dL_law_2048 rfl ?_
  refine W.lcmp hx hb dL_law_2049 ?_
  have hq9 : g1 (0 : Int32).toNatClampNeg = v.toInt64 := hg1.trans (congrArg Int32.toInt64 hv1.1)
  rw [hq9]
  exact lv_if_eq (tgt := 2055) hx hb dL_law_2050 (by decide) (fun _ => fin ls hl) (fun c9 => absurd (lcmp_self _) c9)

set_option maxHeartbeats 8000000 in
set_option maxRecDepth 100000 in
theorem lc_digest {p : Program} {l : Launch} {e : Env} {s : State} {m : MethodId} {below : List Frame} {meth : Method} {c : Code} {b Lx : Nat} {xs : Nat → Int32} (hl0 : l.stackTraces = false) (hL : Lx ≤ 3072) (C0 : lw_At p s m meth c b Lx xs) {dC : Nat → ClassId} {dI : Nat → Nat → Nat} {cy : Nat → ClassId} {cL : ClassId} {sa : Nat → Nat} {t0 : Nat} {adh : Nat → Nat} {o1 o2 : Nat} (hK0 : LK dC dI cy cL sa t0 s) (hG : LG adh o1 o2 s.heap.size) {L : List Nat} {a b1 : Nat} {adm : Nat → Nat} (hM : LM adh o1 o2 t0 s.heap.size L a b1 adm) {I : MI} {D : MD} {J : MI} {E : MD} {f1 : Nat → Int64} {f2 : Nat → UInt64} {H : Heap} {locs : List Loc} (hY : LH dC dI cy cL adh o1 o2 L a b1 adm I D J E f1 f2 H) (hS : va_S (fun q => s.heap.size ≤ q) s.heap H locs) {c1 d1 h1 : Nat} (hR : RR 0 a b1 c1 d1 h1 I D J E) (hh : h1 + 48 < 2 ^ 20) {cells slots : Nat} (hc : cells + 207 ≤ 601024) (hs : slots + 1642 ≤ 7293034) {j : Nat} (hj : j + 6 ≤ Lx) {ls : Array Slot} (hl : lv_has ls 9 [(0, .ref b), (1, .ref (adh 0)), (2, .ref (adm 0)), (3, .ref o1), (4, .ref o2), (5, .int (nI j))]) {Q : State → Prop} (kk : ∀ (L' : List Nat) (a' b' : Nat) (adm' : Nat → Nat) (I' : MI) (D' : MD) (J' : MI) (E' : MD) (f1' : Nat → Int64) (f2' : Nat → UInt64) (H' : Heap) (locs' : List Loc) (c' d' h' : Nat) (ls' : Array Slot), LM adh o1 o2 t0 s.heap.size L' a' b' adm' → LH dC dI cy cL adh o1 o2 L' a' b' adm' I' D' J' E' f1' f2' H' → va_S (fun q => s.heap.size ≤ q) s.heap H' locs' → RR 0 a' b' c' d' h' I' D' J' E' → h' ≤ h1 + 48 → lv_has ls' 9 [(0, .ref b), (1, .ref (adh 0)), (2, .ref (adm' 0)), (3, .ref o1), (4, .ref o2), (5, .int (nI j))] → W p l e room_1 s m #[Value.ref b] below meth c H' locs' (cells + 207) (slots + 1642) Q (F0 m 2072 ls' [])) : W p l e room_1 s m #[Value.ref b] below meth c H locs cells slots Q (F0 m 2058 ls []) := by
  obtain ⟨hx, hb, hr, hml, hown0, hts0, hX, hbl, hlocks, -⟩ := C0
  have hown : s.vm.findClass RL = some m.cls := hown0
  have hts : ∀ w ∈ wsL_law, w.before #[Value.ref b] s = true := fun w h => hts0 w (wsL_law_in w h)
  obtain ⟨hK, hN, hI, hca, hcb, hao, hZ, hT, hzs, hts9⟩ := hK0
  have hKt : va_K (dC, dI) vwCl (tysA cy) s := hK.sub [0, 1, 2, 3, 4, 5, 6, 7] rfl
  have hbA : ¬ (fun q : Nat => s.heap.size ≤ q) b := Nat.not_le.mpr hbl
  obtain ⟨w, I9, D9, J9, E9, hx4, hx7, c2, d2, h2, hh2, hR2⟩ := a_digest hR
  refine lv_aload_n hx hb dL_law_2058 rfl (lv_at hl 1 rfl) ?_
  have hAW : ∀ q, AW adh H.size q → s.heap.size ≤ q := fun q h => AO_out (z := H.size) hG.2.2.2.2.2.1 hG.2.2.2.2.1 hS.1 q (Or.inr h)
  refine va_calll (va_runV (As := []) (rest := []) ⟨hx, hb, hml, hown, hts⟩ (mt_X4_digest l dC dI adh cy hG.1 H.size I D w I9 D9 hx4) (cwV 0 hts gL_law_X4_digest rfl rfl rfl (by decide +kernel) ⟨Nat.le_of_ble_eq_true rfl, Nat.le_of_ble_eq_true rfl⟩) ⟨(hW.pre [.ref (adh 0)] hY.1 hKt hN).1, hW.recv (C := RX4) (T := TX4) (N := 14) hY.1 hKt heH_0 rfl, (hW.pre [.ref (adh 0)] hY.1 hKt hN).2⟩ rfl rfl hl.1 rfl (lv_room (Nat.le_of_ble_eq_true rfl)) dL_law_2059 ⟨by show cells + 0 ≤ 601024; omega, by show slots + 0 ≤ 7293034; omega⟩) hS (fun q _ h => hAW q h) hAW (fun r9 u t H1 locs ht hvm hw8 hB hz1 hk1 hS => ?_)
  subst hw8
  have hY := lh_C hY hG hM hk1 (by rw [← ht]; exact hB.1)
  clear hB hz1 hk1 hvm ht hAW
  generalize H1 = H at hY hS ⊢
  refine lv_aload_n hx hb dL_law_2062 rfl (lv_at hl 2 rfl) ?_
  obtain ⟨q0, hq0, hM0⟩ := heM_0 (cy := cy) (I := J) (D := E) hM.1
  have hAM := AM_out (z := H.size) (fun k hk => (hM.2.2.1 k hk).1) hS.1
  refine va_calll (va_runV (As := []) (rest := [.long w]) ⟨hx, hb, hml, hown, hts⟩ (mt_X7_digest l dC dI L a b1 adm cy hM.1 (fun k hk => mL_30 hM.1.2.1 hM.1.2.2 (hM.2.1 k hk)) H.size J E w J9 E9 hx7) (cwV 0 hts gL_law_X7_digest rfl rfl rfl (by decide +kernel) ⟨Nat.le_of_ble_eq_true rfl, Nat.le_of_ble_eq_true rfl⟩) ⟨(wM.pre [.ref (adm 0)] hY.2.2.2 hKt ⟨hN, hI⟩).1, wM.recv (C := RX7) (T := TX7) (N := 9) hY.2.2.2 hKt hM0 rfl, (wM.pre [.ref (adm 0)] hY.2.2.2 hKt ⟨hN, hI⟩).2⟩ rfl rfl hl.1 rfl (lv_room (Nat.le_of_ble_eq_true rfl)) dL_law_2063 ⟨by show cells + 0 + 206 ≤ 601024; omega, by show slots + 0 + 1636 ≤ 7293034; omega⟩) hS (fun q _ h => hAM q h) hAM (fun r9 u t H1 locs ht hvm hw8 hB hz1 hk1 hS => ?_)
  subst hw8
  have hY := lh_M hY hM hk1 (by rw [← ht]; exact hB.1)
  clear hB hz1 hk1 hvm ht hAM
  generalize H1 = H at hY hS ⊢
  refine W.lcmp hx hb dL_law_2066 ?_
  refine lv_if_eq (tgt := 2072) hx hb dL_law_2067 (by decide) (fun _ => ?_) (fun c9 => absurd (lcmp_self _) c9)
  exact W.widen (k := cells + 207) (n := slots + 1642) (by omega) (by omega) (kk _ _ _ _ _ _ _ _ _ _ _ _ _ _ _ _ hM hY hS hR2 hh2 hl)
