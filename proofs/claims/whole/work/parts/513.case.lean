set_option maxHeartbeats 8000000 in
set_option maxRecDepth 100000 in
theorem lc_door {p : Program} {l : Launch} {e : Env} {s : State} {m : MethodId} {below : List Frame} {meth : Method} {c : Code} {b Lx : Nat} {xs : Nat → Int32} (hl0 : l.stackTraces = false) (hL : Lx ≤ 3072) (C0 : lw_At p s m meth c b Lx xs) {dC : Nat → ClassId} {dI : Nat → Nat → Nat} {cy : Nat → ClassId} {cL : ClassId} {sa : Nat → Nat} {t0 : Nat} {adh : Nat → Nat} {o1 o2 : Nat} (hK0 : LK dC dI cy cL sa t0 s) (hG : LG adh o1 o2 s.heap.size) {L : List Nat} {a b1 : Nat} {adm : Nat → Nat} (hM : LM adh o1 o2 t0 s.heap.size L a b1 adm) {I : MI} {D : MD} {J : MI} {E : MD} {f1 : Nat → Int64} {f2 : Nat → UInt64} {H : Heap} {locs : List Loc} (hY : LH dC dI cy cL adh o1 o2 L a b1 adm I D J E f1 f2 H) (hS : va_S (fun q => s.heap.size ≤ q) s.heap H locs) {c1 d1 h1 : Nat} (hR : RR 0 a b1 c1 d1 h1 I D J E) (hh : h1 + 48 < 2 ^ 20) {cells slots : Nat} (hc : cells + 207 ≤ 601024) (hs : slots + 1642 ≤ 7293034) {j : Nat} (hj : j + 6 ≤ Lx) {ls : Array Slot} (hl : lv_has ls 9 [(0, .ref b), (1, .ref (adh 0)), (2, .ref (adm 0)), (3, .ref o1), (4, .ref o2), (5, .int (nI j))]) {Q : State → Prop} (kk : ∀ (L' : List Nat) (a' b' : Nat) (adm' : Nat → Nat) (I' : MI) (D' : MD) (J' : MI) (E' : MD) (f1' : Nat → Int64) (f2' : Nat → UInt64) (H' : Heap) (locs' : List Loc) (c' d' h' : Nat) (ls' : Array Slot), LM adh o1 o2 t0 s.heap.size L' a' b' adm' → LH dC dI cy cL adh o1 o2 L' a' b' adm' I' D' J' E' f1' f2' H' → va_S (fun q => s.heap.size ≤ q) s.heap H' locs' → RR 0 a' b' c' d' h' I' D' J' E' → h' ≤ h1 + 48 → lv_has ls' 9 [(0, .ref b), (1, .ref (adh 0)), (2, .ref (adm' 0)), (3, .ref o1), (4, .ref o2), (5, .int (nI j))] → W p l e room_1 s m #[Value.ref b] below meth c H' locs' (cells + 207) (slots + 1642) Q (F0 m 2072 ls' [])) : W p l e room_1 s m #[Value.ref b] below meth c H locs cells slots Q (F0 m 932 ls []) := by
  obtain ⟨hx, hb, hr, hml, hown0, hts0, hX, hbl, hlocks, -⟩ := C0
  have hown : s.vm.findClass RL = some m.cls := hown0
  have hts : ∀ w ∈ wsL_law, w.before #[Value.ref b] s = true := fun w h => hts0 w (wsL_law_in w h)
  obtain ⟨hK, hN, hI, hca, hcb, hao, hZ, hT, hzs, hts9⟩ := hK0
  have hKt : va_K (dC, dI) vwCl (tysA cy) s := hK.sub [0, 1, 2, 3, 4, 5, 6, 7] rfl
  have hbA : ¬ (fun q : Nat => s.heap.size ≤ q) b := Nat.not_le.mpr hbl
  have hi1 : vp_in (nI j + 1) Lx := vin_k hj hL 1 (by decide)
  have hi2 : vp_in (nI j + 2) Lx := vin_k hj hL 2 (by decide)
  obtain ⟨v, J9, E9, r0, w, I9, D9, hy, hJ0, hw, hvw, c2, d2, h2, hh2, hR2⟩ := agW_law (a_door hR (xs (nI j + 1).toNatClampNeg) (xs (nI j + 2).toNatClampNeg)) (by decide)
  refine lv_aload_n hx hb dL_law_932 rfl (lv_at hl 1 rfl) ?_
  refine lv_aload_n hx hb dL_law_933 rfl (lv_at hl 0 rfl) ?_
  refine lv_iload hx hb dL_law_934 (lv_at hl 5 rfl) ?_
  refine lv_iconst (v := 1) hx hb dL_law_936 (by decide) ?_
  refine lv_iadd hx hb dL_law_937 ?_
  refine va_sld hx hb hX hbl hbA hS hi1 dL_law_938 ?_
  refine lv_aload_n hx hb dL_law_939 rfl (lv_at hl 0 rfl) ?_
  refine lv_iload hx hb dL_law_940 (lv_at hl 5 rfl) ?_
  refine lv_iconst (v := 2) hx hb dL_law_942 (by decide) ?_
  refine lv_iadd hx hb dL_law_943 ?_
  refine va_sld hx hb hX hbl hbA hS hi2 dL_law_944 ?_
  refine lv_aload hx hb dL_law_945 (lv_at hl 4 rfl) ?_
  have hAO := AO_out (z := H.size) hG.2.2.2.2.2.2 hG.2.2.2.2.1 hS.1
  refine vx_calli (vx_runSX (As := [.ref (adh 0), .int (xs (nI j + 1).toNatClampNeg), .int (xs (nI j + 2).toNatClampNeg), .ref o2]) (rest := []) ⟨hx, hb, hml, hown, hts⟩ (wL_door l hl0 dC dI adh cy cL hG.1 sa o2 hG.2.2.1 H.size I D f2 (xs (nI j + 1).toNatClampNeg) (xs (nI j + 2).toNatClampNeg) r0 w I9 D9 hw) (vx_cwSW 4 hts gL_law_L_door rfl rfl rfl (by decide +kernel) ⟨Nat.le_of_ble_eq_true rfl, Nat.le_of_ble_eq_true rfl⟩) (hO.preX [.ref (adh 0), .int (xs (nI j + 1).toNatClampNeg), .int (xs (nI j + 2).toNatClampNeg), .ref o2] (va_Pcons hY.2.2.1 hY.1) hK hN (xS_kept (B := AO o2 adh H.size) hZ hS hAO) hT) rfl rfl hl.1 rfl (lv_room (Nat.le_of_ble_eq_true rfl)) dL_law_947 ⟨by show cells + 1 ≤ 601024; omega, by show slots + 6 ≤ 7293034; omega⟩) hS (fun q _ h => hAO q h) hAO (fun q _ h => hAO q h) (fun E9 ce q9 u t H1 locs1 ht9 hvm hpu hBX hz1 hk1 hS h1 h2 h3 => hpu.elim) (fun r9 g1 t H1 locs ht9 hvm hw9 hB hz1 hk1 hS => ?_)
  rw [hw9.1]
  have hg := hw9.2
  have hY := lh_2 hY hG hM hk1 (by rw [← ht9]; exact hB)
  clear hw9 hB hz1 hk1 hvm ht9 hAO
  generalize H1 = H at hY hS ⊢
  refine lv_istore (lv' := [(6, .int r0), (0, .ref b), (1, .ref (adh 0)), (2, .ref (adm 0)), (3, .ref o1), (4, .ref o2), (5, .int (nI j))]) hx hb dL_law_950 hl (by decide) rfl (fun ls hl => ?_)
  refine lv_aload_n hx hb dL_law_952 rfl (lv_at hl 3 rfl) ?_
  refine lv_aload_n hx hb dL_law_953 rfl (lv_at hl 1 rfl) ?_
  refine lv_iload hx hb dL_law_954 (lv_at hl 6 rfl) ?_
  refine lv_iconst (v := 1) hx hb dL_law_956 (by decide) ?_
  refine lv_iadd hx hb dL_law_957 ?_
  refine va_sld hx hb hX hbl hbA hS hi1 dL_law_958 ?_
  refine lv_aload_n hx hb dL_law_959 rfl (lv_at hl 1 rfl) ?_
  refine lv_iload hx hb dL_law_960 (lv_at hl 6 rfl) ?_
  refine lv_iconst (v := 2) hx hb dL_law_962 (by decide) ?_
  refine lv_iadd hx hb dL_law_963 ?_
  refine va_sld hx hb hX hbl hbA hS hi2 dL_law_964 ?_
  obtain ⟨q0, hq0, hM0⟩ := heM_0 (cy := cy) (I := J) (D := E) hM.1
  have hAM := AM_out (z := H.size) (fun k hk => (hM.2.2.1 k hk).1) hS.1
  have hsz := hS.1
  refine va_calld (va_runV (As := [.int (xs (nI j + 1).toNatClampNeg), .int (xs (nI j + 2).toNatClampNeg)]) (rest := []) ⟨hx, hb, hml, hown, hts⟩ (mt_X7_door l dC dI L a b1 adm cy hM.1 H.size J E (xs (nI j + 1).toNatClampNeg) (xs (nI j + 2).toNatClampNeg) v J9 E9 hy) (cwV 2 hts gL_law_X7_door rfl rfl rfl (by decide +kernel) ⟨Nat.le_of_ble_eq_true rfl, Nat.le_of_ble_eq_true rfl⟩) ⟨(wM.pre [.ref (adm 0), .int (xs (nI j + 1).toNatClampNeg), .int (xs (nI j + 2).toNatClampNeg)] hY.2.2.2 hKt ⟨hN, hI⟩).1, wM.recv (C := RX7) (T := TX7) (N := 9) hY.2.2.2 hKt hM0 rfl, (wM.pre [.ref (adm 0), .int (xs (nI j + 1).toNatClampNeg), .int (xs (nI j + 2).toNatClampNeg)] hY.2.2.2 hKt ⟨hN, hI⟩).2⟩ rfl rfl hl.1 rfl (lv_room (Nat.le_of_ble_eq_true rfl)) dL_law_965 ⟨by show cells + 1 + 0 ≤ 601024; omega, by show slots + 6 + 0 ≤ 7293034; omega⟩) hS (fun q _ h => hAM q h) hAM (fun r9 u t H1 locs ht hvm hw8 hB hz1 hk1 hS => ?_)
  subst hw8
  have hY := lh_M hY hM hk1 (by rw [← ht]; exact hB.1)
  clear hB hz1 hk1 hvm ht hAM hsz
  generalize H1 = H at hY hS ⊢
  refine lv_dstore (lv' := [(7, .double v), (6, .int r0), (0, .ref b), (1, .ref (adh 0)), (2, .ref (adm 0)), (3, .ref o1), (4, .ref o2), (5, .int (nI j))]) hx hb dL_law_968 hl (by decide) rfl (fun ls hl => ?_)
  refine lv_aload_n hx hb dL_law_970 rfl (lv_at hl 4 rfl) ?_
  obtain ⟨q2, hq2, hM2⟩ := heM_0 (cy := cy) (I := J9) (D := E9) hM.1
  refine va_calli (va_runV (As := []) (rest := []) ⟨hx, hb, hml, hown, hts⟩ (mt_X7_thrown l dC dI L a b1 adm cy hM.1 H.size J9 E9 (J9 0 0) rfl) (cwV 0 hts gL_law_X7_thrown rfl rfl rfl (by decide +kernel) ⟨Nat.le_of_ble_eq_true rfl, Nat.le_of_ble_eq_true rfl⟩) ⟨(wM.pre [.ref (adm 0)] hY.2.2.2 hKt ⟨hN, hI⟩).1, wM.recv (C := RX7) (T := TX7) (N := 9) hY.2.2.2 hKt hM2 rfl, (wM.pre [.ref (adm 0)] hY.2.2.2 hKt ⟨hN, hI⟩).2⟩ rfl rfl hl.1 rfl (lv_room (Nat.le_of_ble_eq_true rfl)) dL_law_971 ⟨by show cells + 1 + 0 + 0 ≤ 601024; omega, by show slots + 6 + 0 + 0 ≤ 7293034; omega⟩) hS (fun q _ h => Nat.le_trans hS.1 h) (fun q h => Nat.le_trans hS.1 h) (fun r9 u t H1 locs ht hvm hw8 hB hz1 hk1 hS => ?_)
  subst hw8
  have hY := lh_new hY hk1
  clear hB hz1 hk1 hvm ht
  generalize H1 = H at hY hS ⊢
  refine lv_iload hx hb dL_law_974 (lv_at hl 1 rfl) ?_
  refine lv_icmp_eq (tgt := 981) hx hb dL_law_976 (by decide) (fun _ => ?_) (fun c9 => absurd hJ0 c9)
  refine lv_iload hx hb dL_law_981 (lv_at hl 1 rfl) ?_
  have fin : ∀ (ls : Array Slot), lv_has ls 9 [(7, .double v), (6, .int r0), (0, .ref b), (1, .ref (adh 0)), (2, .ref (adm 0)), (3, .ref o1), (4, .ref o2), (5, .int (nI j))] → W p l e room_1 s m #[Value.ref b] below meth c H locs (cells + 1 + 0 + 0) (slots + 6 + 0 + 0) Q (F0 m 1018 ls []) := fun ls hl => lv_goto (tgt := 2072) hx hb dL_law_1018 (by decide) (W.widen (k := cells + 207) (n := slots + 1642) (by omega) (by omega) (kk _ _ _ _ _ _ _ _ _ _ _ _ _ _ _ _ hM hY hS hR2 hh2 (lv_sub hl [2, 3, 4, 5, 6, 7] rfl)))
  refine lv_if_ne (tgt := 1018) hx hb dL_law_983 (by decide) (fun _ => fin ls hl) (fun c2 => ?_)
  have hg1 := hg c2
  have hv1 := hvw c2
  refine lv_aload hx hb dL_law_986 (lv_at hl 6 rfl) ?_
  refine lv_iconst (v := 0) hx hb dL_law_988 (by decide) ?_
  refine va_dald hx hb hK hY.2.2.1 0 6 rfl rfl vin0 dL_law_989 ?_
  refine lv_dload hx hb dL_law_990 (lv_at hl 0 rfl) ?_
  refine lv_dcmp hx hb dL_law_992 ?_
  have hq9 : g1 (0 : Int32).toNatClampNeg = v := hg1.trans hv1.1
  rw [hq9]
  exact lv_if_eq (tgt := 1018) hx hb dL_law_993 (by decide) (fun _ => fin ls hl) (fun c9 => absurd (dcmp_self hv1.2 _) c9)

set_option maxHeartbeats 8000000 in
set_option maxRecDepth 100000 in
theorem lc_pass {p : Program} {l : Launch} {e : Env} {s : State} {m : MethodId} {below : List Frame} {meth : Method} {c : Code} {b Lx : Nat} {xs : Nat → Int32} (hl0 : l.stackTraces = false) (hL : Lx ≤ 3072) (C0 : lw_At p s m meth c b Lx xs) {dC : Nat → ClassId} {dI : Nat → Nat → Nat} {cy : Nat → ClassId} {cL : ClassId} {sa : Nat → Nat} {t0 : Nat} {adh : Nat → Nat} {o1 o2 : Nat} (hK0 : LK dC dI cy cL sa t0 s) (hG : LG adh o1 o2 s.heap.size) {L : List Nat} {a b1 : Nat} {adm : Nat → Nat} (hM : LM adh o1 o2 t0 s.heap.size L a b1 adm) {I : MI} {D : MD} {J : MI} {E : MD} {f1 : Nat → Int64} {f2 : Nat → UInt64} {H : Heap} {locs : List Loc} (hY : LH dC dI cy cL adh o1 o2 L a b1 adm I D J E f1 f2 H) (hS : va_S (fun q => s.heap.size ≤ q) s.heap H locs) {c1 d1 h1 : Nat} (hR : RR 0 a b1 c1 d1 h1 I D J E) (hh : h1 + 48 < 2 ^ 20) {cells slots : Nat} (hc : cells + 207 ≤ 601024) (hs : slots + 1642 ≤ 7293034) {j : Nat} (hj : j + 6 ≤ Lx) {ls : Array Slot} (hl : lv_has ls 9 [(0, .ref b), (1, .ref (adh 0)), (2, .ref (adm 0)), (3, .ref o1), (4, .ref o2), (5, .int (nI j))]) {Q : State → Prop} (kk : ∀ (L' : List Nat) (a' b' : Nat) (adm' : Nat → Nat) (I' : MI) (D' : MD) (J' : MI) (E' : MD) (f1' : Nat → Int64) (f2' : Nat → UInt64) (H' : Heap) (locs' : List Loc) (c' d' h' : Nat) (ls' : Array Slot), LM adh o1 o2 t0 s.heap.size L' a' b' adm' → LH dC dI cy cL adh o1 o2 L' a' b' adm' I' D' J' E' f1' f2' H' → va_S (fun q => s.heap.size ≤ q) s.heap H' locs' → RR 0 a' b' c' d' h' I' D' J' E' → h' ≤ h1 + 48 → lv_has ls' 9 [(0, .ref b), (1, .ref (adh 0)), (2, .ref (adm' 0)), (3, .ref o1), (4, .ref o2), (5, .int (nI j))] → W p l e room_1 s m #[Value.ref b] below meth c H' locs' (cells + 207) (slots + 1642) Q (F0 m 2072 ls' [])) : W p l e room_1 s m #[Value.ref b] below meth c H locs cells slots Q (F0 m 1021 ls []) := by
  obtain ⟨hx, hb, hr, hml, hown0, hts0, hX, hbl, hlocks, -⟩ := C0
  have hown : s.vm.findClass RL = some m.cls := hown0
  have hts : ∀ w ∈ wsL_law, w.before #[Value.ref b] s = true := fun w h => hts0 w (wsL_law_in w h)
  obtain ⟨hK, hN, hI, hca, hcb, hao, hZ, hT, hzs, hts9⟩ := hK0
  have hKt : va_K (dC, dI) vwCl (tysA cy) s := hK.sub [0, 1, 2, 3, 4, 5, 6, 7] rfl
  have hbA : ¬ (fun q : Nat => s.heap.size ≤ q) b := Nat.not_le.mpr hbl
  have hi1 : vp_in (nI j + 1) Lx := vin_k hj hL 1 (by decide)
  obtain ⟨v, J9, E9, r0, w, I9, D9, hy, hJ0, hw, hvw, c2, d2, h2, hh2, hR2⟩ := agW_law (a_pass hR hh (xs (nI j + 1).toNatClampNeg)) (by decide)
  refine lv_aload_n hx hb dL_law_1021 rfl (lv_at hl 1 rfl) ?_
  refine lv_aload_n hx hb dL_law_1022 rfl (lv_at hl 0 rfl) ?_
  refine lv_iload hx hb dL_law_1023 (lv_at hl 5 rfl) ?_
  refine lv_iconst (v := 1) hx hb dL_law_1025 (by decide) ?_
  refine lv_iadd hx hb dL_law_1026 ?_
  refine va_sld hx hb hX hbl hbA hS hi1 dL_law_1027 ?_
  refine lv_aload_n hx hb dL_law_1028 rfl (lv_at hl 3 rfl) ?_
  have hAO := AO_out (z := H.size) hG.2.2.2.2.2.1 hG.2.2.2.2.1 hS.1
  refine vx_calli (vx_runSX (As := [.ref (adh 0), .int (xs (nI j + 1).toNatClampNeg), .ref o1]) (rest := []) ⟨hx, hb, hml, hown, hts⟩ (wL_pass l hl0 dC dI adh cy cL hG.1 sa o1 hG.2.1 H.size I D f1 (xs (nI j + 1).toNatClampNeg) r0 w I9 D9 hw) (vx_cwSW 3 hts gL_law_L_pass rfl rfl rfl (by decide +kernel) ⟨Nat.le_of_ble_eq_true rfl, Nat.le_of_ble_eq_true rfl⟩) (hO.preX [.ref (adh 0), .int (xs (nI j + 1).toNatClampNeg), .ref o1] (va_Pcons hY.2.1 hY.1) hK hN (xS_kept (B := AO o1 adh H.size) hZ hS hAO) hT) rfl rfl hl.1 rfl (lv_room (Nat.le_of_ble_eq_true rfl)) dL_law_1029 ⟨by show cells + 1 ≤ 601024; omega, by show slots + 6 ≤ 7293034; omega⟩) hS (fun q _ h => hAO q h) hAO (fun q _ h => hAO q h) (fun E9 ce q9 u t H1 locs1 ht9 hvm hpu hBX hz1 hk1 hS h1 h2 h3 => hpu.elim) (fun r9 g1 t H1 locs ht9 hvm hw9 hB hz1 hk1 hS => ?_)
  rw [hw9.1]
  have hg := hw9.2
  have hY := lh_1 hY hG hM hk1 (by rw [← ht9]; exact hB)
  clear hw9 hB hz1 hk1 hvm ht9 hAO
  generalize H1 = H at hY hS ⊢
  refine lv_istore (lv' := [(6, .int r0), (0, .ref b), (1, .ref (adh 0)), (2, .ref (adm 0)), (3, .ref o1), (4, .ref o2), (5, .int (nI j))]) hx hb dL_law_1032 hl (by decide) rfl (fun ls hl => ?_)
  refine lv_aload_n hx hb dL_law_1034 rfl (lv_at hl 3 rfl) ?_
  refine lv_aload_n hx hb dL_law_1035 rfl (lv_at hl 1 rfl) ?_
  refine lv_iload hx hb dL_law_1036 (lv_at hl 6 rfl) ?_
  refine lv_iconst (v := 1) hx hb dL_law_1038 (by decide) ?_
  refine lv_iadd hx hb dL_law_1039 ?_
  refine va_sld hx hb hX hbl hbA hS hi1 dL_law_1040 ?_
  obtain ⟨q0, hq0, hM0⟩ := heM_0 (cy := cy) (I := J) (D := E) hM.1
  have hAM := AM_out (z := H.size) (fun k hk => (hM.2.2.1 k hk).1) hS.1
  have hsz := hS.1
  refine va_calli (va_runV (As := [.int (xs (nI j + 1).toNatClampNeg)]) (rest := []) ⟨hx, hb, hml, hown, hts⟩ (mt_X7_pass l dC dI L a b1 adm cy hM.1 H.size J E (xs (nI j + 1).toNatClampNeg) v J9 E9 hy) (cwV 1 hts gL_law_X7_pass rfl rfl rfl (by decide +kernel) ⟨Nat.le_of_ble_eq_true rfl, Nat.le_of_ble_eq_true rfl⟩) ⟨(wM.pre [.ref (adm 0), .int (xs (nI j + 1).toNatClampNeg)] hY.2.2.2 hKt ⟨hN, hI⟩).1, wM.recv (C := RX7) (T := TX7) (N := 9) hY.2.2.2 hKt hM0 rfl, (wM.pre [.ref (adm 0), .int (xs (nI j + 1).toNatClampNeg)] hY.2.2.2 hKt ⟨hN, hI⟩).2⟩ rfl rfl hl.1 rfl (lv_room (Nat.le_of_ble_eq_true rfl)) dL_law_1041 ⟨by show cells + 1 + 0 ≤ 601024; omega, by show slots + 6 + 0 ≤ 7293034; omega⟩) hS (fun q _ h => hAM q h) hAM (fun r9 u t H1 locs ht hvm hw8 hB hz1 hk1 hS => ?_)
  subst hw8
  have hY := lh_M hY hM hk1 (by rw [← ht]; exact hB.1)
  clear hB hz1 hk1 hvm ht hAM hsz
  generalize H1 = H at hY hS ⊢
  refine lv_istore (lv' := [(7, .int v), (6, .int r0), (0, .ref b), (1, .ref (adh 0)), (2, .ref (adm 0)), (3, .ref o1), (4, .ref o2), (5, .int (nI j))]) hx hb dL_law_1044 hl (by decide) rfl (fun ls hl => ?_)
  refine lv_aload_n hx hb dL_law_1046 rfl (lv_at hl 4 rfl) ?_
  obtain ⟨q2, hq2, hM2⟩ := heM_0 (cy := cy) (I := J9) (D := E9) hM.1
  refine va_calli (va_runV (As := []) (rest := []) ⟨hx, hb, hml, hown, hts⟩ (mt_X7_thrown l dC dI L a b1 adm cy hM.1 H.size J9 E9 (J9 0 0) rfl) (cwV 0 hts gL_law_X7_thrown rfl rfl rfl (by decide +kernel) ⟨Nat.le_of_ble_eq_true rfl, Nat.le_of_ble_eq_true rfl⟩) ⟨(wM.pre [.ref (adm 0)] hY.2.2.2 hKt ⟨hN, hI⟩).1, wM.recv (C := RX7) (T := TX7) (N := 9) hY.2.2.2 hKt hM2 rfl, (wM.pre [.ref (adm 0)] hY.2.2.2 hKt ⟨hN, hI⟩).2⟩ rfl rfl hl.1 rfl (lv_room (Nat.le_of_ble_eq_true rfl)) dL_law_1047 ⟨by show cells + 1 + 0 + 0 ≤ 601024; omega, by show slots + 6 + 0 + 0 ≤ 7293034; omega⟩) hS (fun q _ h => Nat.le_trans hS.1 h) (fun q h => Nat.le_trans hS.1 h) (fun r9 u t H1 locs ht hvm hw8 hB hz1 hk1 hS => ?_)
  subst hw8
  have hY := lh_new hY hk1
  clear hB hz1 hk1 hvm ht
  generalize H1 = H at hY hS ⊢
  refine lv_iload hx hb dL_law_1050 (lv_at hl 1 rfl) ?_
  refine lv_icmp_eq (tgt := 1057) hx hb dL_law_1052 (by decide) (fun _ => ?_) (fun c9 => absurd hJ0 c9)
  refine lv_iload hx hb dL_law_1057 (lv_at hl 1 rfl) ?_
  have fin : ∀ (ls : Array Slot), lv_has ls 9 [(7, .int v), (6, .int r0), (0, .ref b), (1, .ref (adh 0)), (2, .ref (adm 0)), (3, .ref o1), (4, .ref o2), (5, .int (nI j))] → W p l e room_1 s m #[Value.ref b] below meth c H locs (cells + 1 + 0 + 0) (slots + 6 + 0 + 0) Q (F0 m 1074 ls []) := fun ls hl => lv_goto (tgt := 2072) hx hb dL_law_1074 (by decide) (W.widen (k := cells + 207) (n := slots + 1642) (by omega) (by omega) (kk _ _ _ _ _ _ _ _ _ _ _ _ _ _ _ _ hM hY hS hR2 hh2 (lv_sub hl [2, 3, 4, 5, 6, 7] rfl)))
  refine lv_if_ne (tgt := 1074) hx hb dL_law_1059 (by decide) (fun _ => fin ls hl) (fun c2 => ?_)
  have hg1 := hg c2
  have hv1 := hvw c2
  refine lv_aload_n hx hb dL_law_1062 rfl (lv_at hl 5 rfl) ?_
  refine lv_iconst (v := 0) hx hb dL_law_1063 (by decide) ?_
  refine va_lald hx hb hK hY.2.1 0 8 rfl rfl vin0 dL_law_1064 ?_
  refine lv_iload hx hb dL_law_1065 (lv_at hl 0 rfl) ?_
  refine lv_i2l hx hb dL_law_1067 rfl ?_
  refine W.lcmp hx hb dL_law_1068 ?_
  have hq9 : g1 (0 : Int32).toNatClampNeg = v.toInt64 := hg1.trans (congrArg Int32.toInt64 hv1.1)
  rw [hq9]
  exact lv_if_eq (tgt := 1074) hx hb dL_law_1069 (by decide) (fun _ => fin ls hl) (fun c9 => absurd (lcmp_self _) c9)

set_option maxHeartbeats 8000000 in
set_option maxRecDepth 100000 in
theorem lc_sell {p : Program} {l : Launch} {e : Env} {s : State} {m : MethodId} {below : List Frame} {meth : Method} {c : Code} {b Lx : Nat} {xs : Nat → Int32} (hl0 : l.stackTraces = false) (hL : Lx ≤ 3072) (C0 : lw_At p s m meth c b Lx xs) {dC : Nat → ClassId} {dI : Nat → Nat → Nat} {cy : Nat → ClassId} {cL : ClassId} {sa : Nat → Nat} {t0 : Nat} {adh : Nat → Nat} {o1 o2 : Nat} (hK0 : LK dC dI cy cL sa t0 s) (hG : LG adh o1 o2 s.heap.size) {L : List Nat} {a b1 : Nat} {adm : Nat → Nat} (hM : LM adh o1 o2 t0 s.heap.size L a b1 adm) {I : MI} {D : MD} {J : MI} {E : MD} {f1 : Nat → Int64} {f2 : Nat → UInt64} {H : Heap} {locs : List Loc} (hY : LH dC dI cy cL adh o1 o2 L a b1 adm I D J E f1 f2 H) (hS : va_S (fun q => s.heap.size ≤ q) s.heap H locs) {c1 d1 h1 : Nat} (hR : RR 0 a b1 c1 d1 h1 I D J E) (hh : h1 + 48 < 2 ^ 20) {cells slots : Nat} (hc : cells + 207 ≤ 601024) (hs : slots + 1642 ≤ 7293034) {j : Nat} (hj : j + 6 ≤ Lx) {ls : Array Slot} (hl : lv_has ls 9 [(0, .ref b), (1, .ref (adh 0)), (2, .ref (adm 0)), (3, .ref o1), (4, .ref o2), (5, .int (nI j))]) {Q : State → Prop} (kk : ∀ (L' : List Nat) (a' b' : Nat) (adm' : Nat → Nat) (I' : MI) (D' : MD) (J' : MI) (E' : MD) (f1' : Nat → Int64) (f2' : Nat → UInt64) (H' : Heap) (locs' : List Loc) (c' d' h' : Nat) (ls' : Array Slot), LM adh o1 o2 t0 s.heap.size L' a' b' adm' → LH dC dI cy cL adh o1 o2 L' a' b' adm' I' D' J' E' f1' f2' H' → va_S (fun q => s.heap.size ≤ q) s.heap H' locs' → RR 0 a' b' c' d' h' I' D' J' E' → h' ≤ h1 + 48 → lv_has ls' 9 [(0, .ref b), (1, .ref (adh 0)), (2, .ref (adm' 0)), (3, .ref o1), (4, .ref o2), (5, .int (nI j))] → W p l e room_1 s m #[Value.ref b] below meth c H' locs' (cells + 207) (slots + 1642) Q (F0 m 2072 ls' [])) : W p l e room_1 s m #[Value.ref b] below meth c H locs cells slots Q (F0 m 1077 ls []) := by
  obtain ⟨hx, hb, hr, hml, hown0, hts0, hX, hbl, hlocks, -⟩ := C0
  have hown : s.vm.findClass RL = some m.cls := hown0
  have hts : ∀ w ∈ wsL_law, w.before #[Value.ref b] s = true := fun w h => hts0 w (wsL_law_in w h)
  obtain ⟨hK, hN, hI, hca, hcb, hao, hZ, hT, hzs, hts9⟩ := hK0
  have hKt : va_K (dC, dI) vwCl (tysA cy) s := hK.sub [0, 1, 2, 3, 4, 5, 6, 7] rfl
  have hbA : ¬ (fun q : Nat => s.heap.size ≤ q) b := Nat.not_le.mpr hbl
  have hi1 : vp_in (nI j + 1) Lx := vin_k hj hL 1 (by decide)
  have hi2 : vp_in (nI j + 2) Lx := vin_k hj hL 2 (by decide)
  obtain ⟨v, J9, E9, r0, w, I9, D9, hy, hJ0, hw, hvw, c2, d2, h2, hh2, hR2⟩ := agW_law (a_sell hR (xs (nI j + 1).toNatClampNeg) (xs (nI j + 2).toNatClampNeg)) (by decide)
  refine lv_aload_n hx hb dL_law_1077 rfl (lv_at hl 1 rfl) ?_
  refine lv_aload_n hx hb dL_law_1078 rfl (lv_at hl 0 rfl) ?_
  refine lv_iload hx hb dL_law_1079 (lv_at hl 5 rfl) ?_
  refine lv_iconst (v := 1) hx hb dL_law_1081 (by decide) ?_
  refine lv_iadd hx hb dL_law_1082 ?_
  refine va_sld hx hb hX hbl hbA hS hi1 dL_law_1083 ?_
  refine lv_aload_n hx hb dL_law_1084 rfl (lv_at hl 0 rfl) ?_
  refine lv_iload hx hb dL_law_1085 (lv_at hl 5 rfl) ?_
  refine lv_iconst (v := 2) hx hb dL_law_1087 (by decide) ?_
  refine lv_iadd hx hb dL_law_1088 ?_
  refine va_sld hx hb hX hbl hbA hS hi2 dL_law_1089 ?_
  refine lv_aload_n hx hb dL_law_1090 rfl (lv_at hl 3 rfl) ?_
  have hAO := AO_out (z := H.size) hG.2.2.2.2.2.1 hG.2.2.2.2.1 hS.1
  refine vx_calli (vx_runSX (As := [.ref (adh 0), .int (xs (nI j + 1).toNatClampNeg), .int (xs (nI j + 2).toNatClampNeg), .ref o1]) (rest := []) ⟨hx, hb, hml, hown, hts⟩ (wL_sell l hl0 dC dI adh cy cL hG.1 sa o1 hG.2.1 H.size I D f1 (xs (nI j + 1).toNatClampNeg) (xs (nI j + 2).toNatClampNeg) r0 w I9 D9 hw) (vx_cwSW 4 hts gL_law_L_sell rfl rfl rfl (by decide +kernel) ⟨Nat.le_of_ble_eq_true rfl, Nat.le_of_ble_eq_true rfl⟩) (hO.preX [.ref (adh 0), .int (xs (nI j + 1).toNatClampNeg), .int (xs (nI j + 2).toNatClampNeg), .ref o1] (va_Pcons hY.2.1 hY.1) hK hN (xS_kept (B := AO o1 adh H.size) hZ hS hAO) hT) rfl rfl hl.1 rfl (lv_room (Nat.le_of_ble_eq_true rfl)) dL_law_1091 ⟨by show cells + 1 ≤ 601024; omega, by show slots + 6 ≤ 7293034; omega⟩) hS (fun q _ h => hAO q h) hAO (fun q _ h => hAO q h) (fun E9 ce q9 u t H1 locs1 ht9 hvm hpu hBX hz1 hk1 hS h1 h2 h3 => hpu.elim) (fun r9 g1 t H1 locs ht9 hvm hw9 hB hz1 hk1 hS => ?_)
  rw [hw9.1]
  have hg := hw9.2
  have hY := lh_1 hY hG hM hk1 (by rw [← ht9]; exact hB)
  clear hw9 hB hz1 hk1 hvm ht9 hAO
  generalize H1 = H at hY hS ⊢
  refine lv_istore (lv' := [(6, .int r0), (0, .ref b), (1, .ref (adh 0)), (2, .ref (adm 0)), (3, .ref o1), (4, .ref o2), (5, .int (nI j))]) hx hb dL_law_1094 hl (by decide) rfl (fun ls hl => ?_)
  refine lv_aload_n hx hb dL_law_1096 rfl (lv_at hl 3 rfl) ?_
  refine lv_aload_n hx hb dL_law_1097 rfl (lv_at hl 1 rfl) ?_
  refine lv_iload hx hb dL_law_1098 (lv_at hl 6 rfl) ?_
  refine lv_iconst (v := 1) hx hb dL_law_1100 (by decide) ?_
  refine lv_iadd hx hb dL_law_1101 ?_
  refine va_sld hx hb hX hbl hbA hS hi1 dL_law_1102 ?_
  refine lv_aload_n hx hb dL_law_1103 rfl (lv_at hl 1 rfl) ?_
  refine lv_iload hx hb dL_law_1104 (lv_at hl 6 rfl) ?_
  refine lv_iconst (v := 2) hx hb dL_law_1106 (by decide) ?_
  refine lv_iadd hx hb dL_law_1107 ?_
  refine va_sld hx hb hX hbl hbA hS hi2 dL_law_1108 ?_
  obtain ⟨q0, hq0, hM0⟩ := heM_0 (cy := cy) (I := J) (D := E) hM.1
  have hAM := AM_out (z := H.size) (fun k hk => (hM.2.2.1 k hk).1) hS.1
  have hsz := hS.1
  refine va_calli (va_runV (As := [.int (xs (nI j + 1).toNatClampNeg), .int (xs (nI j + 2).toNatClampNeg)]) (rest := []) ⟨hx, hb, hml, hown, hts⟩ (mt_X7_sell l dC dI L a b1 adm cy hM.1 H.size J E (xs (nI j + 1).toNatClampNeg) (xs (nI j + 2).toNatClampNeg) v J9 E9 hy) (cwV 2 hts gL_law_X7_sell rfl rfl rfl (by decide +kernel) ⟨Nat.le_of_ble_eq_true rfl, Nat.le_of_ble_eq_true rfl⟩) ⟨(wM.pre [.ref (adm 0), .int (xs (nI j + 1).toNatClampNeg), .int (xs (nI j + 2).toNatClampNeg)] hY.2.2.2 hKt ⟨hN, hI⟩).1, wM.recv (C := RX7) (T := TX7) (N := 9) hY.2.2.2 hKt hM0 rfl, (wM.pre [.ref (adm 0), .int (xs (nI j + 1).toNatClampNeg), .int (xs (nI j + 2).toNatClampNeg)] hY.2.2.2 hKt ⟨hN, hI⟩).2⟩ rfl rfl hl.1 rfl (lv_room (Nat.le_of_ble_eq_true rfl)) dL_law_1109 ⟨by show cells + 1 + 0 ≤ 601024; omega, by show slots + 6 + 0 ≤ 7293034; omega⟩) hS (fun q _ h => hAM q h) hAM (fun r9 u t H1 locs ht hvm hw8 hB hz1 hk1 hS => ?_)
  subst hw8
  have hY := lh_M hY hM hk1 (by rw [← ht]; exact hB.1)
  clear hB hz1 hk1 hvm ht hAM hsz
  generalize H1 = H at hY hS ⊢
  refine lv_istore (lv' := [(7, .int v), (6, .int r0), (0, .ref b), (1, .ref (adh 0)), (2, .ref (adm 0)), (3, .ref o1), (4, .ref o2), (5, .int (nI j))]) hx hb dL_law_1112 hl (by decide) rfl (fun ls hl => ?_)
  refine lv_aload_n hx hb dL_law_1114 rfl (lv_at hl 4 rfl) ?_
  obtain ⟨q2, hq2, hM2⟩ := heM_0 (cy := cy) (I := J9) (D := E9) hM.1
  refine va_calli (va_runV (As := []) (rest := []) ⟨hx, hb, hml, hown, hts⟩ (mt_X7_thrown l dC dI L a b1 adm cy hM.1 H.size J9 E9 (J9 0 0) rfl) (cwV 0 hts gL_law_X7_thrown rfl rfl rfl (by decide +kernel) ⟨Nat.le_of_ble_eq_true rfl, Nat.le_of_ble_eq_true rfl⟩) ⟨(wM.pre [.ref (adm 0)] hY.2.2.2 hKt ⟨hN, hI⟩).1, wM.recv (C := RX7) (T := TX7) (N := 9) hY.2.2.2 hKt hM2 rfl, (wM.pre [.ref (adm 0)] hY.2.2.2 hKt ⟨hN, hI⟩).2⟩ rfl rfl hl.1 rfl (lv_room (Nat.le_of_ble_eq_true rfl)) dL_law_1115 ⟨by show cells + 1 + 0 + 0 ≤ 601024; omega, by show slots + 6 + 0 + 0 ≤ 7293034; omega⟩) hS (fun q _ h => Nat.le_trans hS.1 h) (fun q h => Nat.le_trans hS.1 h) (fun r9 u t H1 locs ht hvm hw8 hB hz1 hk1 hS => ?_)
  subst hw8
  have hY := lh_new hY hk1
  clear hB hz1 hk1 hvm ht
  generalize H1 = H at hY hS ⊢
  refine lv_iload hx hb dL_law_1118 (lv_at hl 1 rfl) ?_
  refine lv_icmp_eq (tgt := 1125) hx hb dL_law_1120 (by decide) (fun _ => ?_) (fun c9 => absurd hJ0 c9)
  refine lv_iload hx hb dL_law_1125 (lv_at hl 1 rfl) ?_
  have fin : ∀ (ls : Array Slot), lv_has ls 9 [(7, .int v), (6, .int r0), (0, .ref b), (1, .ref (adh 0)), (2, .ref (adm 0)), (3, .ref o1), (4, .ref o2), (5, .int (nI j))] → W p l e room_1 s m #[Value.ref b] below meth c H locs (cells + 1 + 0 + 0) (slots + 6 + 0 + 0) Q (F0 m 1142 ls []) := fun ls hl => lv_goto (tgt := 2072) hx hb dL_law_1142 (by decide) (W.widen (k := cells + 207) (n := slots + 1642) (by omega) (by omega) (kk _ _ _ _ _ _ _ _ _ _ _ _ _ _ _ _ hM hY hS hR2 hh2 (lv_sub hl [2, 3, 4, 5, 6, 7] rfl)))
  refine lv_if_ne (tgt := 1142) hx hb dL_law_1127 (by decide) (fun _ => fin ls hl) (fun c2 => ?_)
  have hg1 := hg c2
  have hv1 := hvw c2
  refine lv_aload_n hx hb dL_law_1130 rfl (lv_at hl 5 rfl) ?_
  refine lv_iconst (v := 0) hx hb dL_law_1131 (by decide) ?_
  refine va_lald hx hb hK hY.2.1 0 8 rfl rfl vin0 dL_law_1132 ?_
  refine lv_iload hx hb dL_law_1133 (lv_at hl 0 rfl) ?_
  refine lv_i2l hx hb dL_law_1135 rfl ?_
  refine W.lcmp hx hb dL_law_1136 ?_
  have hq9 : g1 (0 : Int32).toNatClampNeg = v.toInt64 := hg1.trans (congrArg Int32.toInt64 hv1.1)
  rw [hq9]
  exact lv_if_eq (tgt := 1142) hx hb dL_law_1137 (by decide) (fun _ => fin ls hl) (fun c9 => absurd (lcmp_self _) c9)

set_option maxHeartbeats 8000000 in
set_option maxRecDepth 100000 in
theorem lc_call {p : Program} {l : Launch} {e : Env} {s : State} {m : MethodId} {below : List Frame} {meth : Method} {c : Code} {b Lx : Nat} {xs : Nat → Int32} (hl0 : l.stackTraces = false) (hL : Lx ≤ 3072) (C0 : lw_At p s m meth c b Lx xs) {dC : Nat → ClassId} {dI : Nat → Nat → Nat} {cy : Nat → ClassId} {cL : ClassId} {sa : Nat → Nat} {t0 : Nat} {adh : Nat → Nat} {o1 o2 : Nat} (hK0 : LK dC dI cy cL sa t0 s) (hG : LG adh o1 o2 s.heap.size) {L : List Nat} {a b1 : Nat} {adm : Nat → Nat} (hM : LM adh o1 o2 t0 s.heap.size L a b1 adm) {I : MI} {D : MD} {J : MI} {E : MD} {f1 : Nat → Int64} {f2 : Nat → UInt64} {H : Heap} {locs : List Loc} (hY : LH dC dI cy cL adh o1 o2 L a b1 adm I D J E f1 f2 H) (hS : va_S (fun q => s.heap.size ≤ q) s.heap H locs) {c1 d1 h1 : Nat} (hR : RR 0 a b1 c1 d1 h1 I D J E) (hh : h1 + 48 < 2 ^ 20) {cells slots : Nat} (hc : cells + 207 ≤ 601024) (hs : slots + 1642 ≤ 7293034) {j : Nat} (hj : j + 6 ≤ Lx) {ls : Array Slot} (hl : lv_has ls 9 [(0, .ref b), (1, .ref (adh 0)), (2, .ref (adm 0)), (3, .ref o1), (4, .ref o2), (5, .int (nI j))]) {Q : State → Prop} (kk : ∀ (L' : List Nat) (a' b' : Nat) (adm' : Nat → Nat) (I' : MI) (D' : MD) (J' : MI) (E' : MD) (f1' : Nat → Int64) (f2' : Nat → UInt64) (H' : Heap) (locs' : List Loc) (c' d' h' : Nat) (ls' : Array Slot), LM adh o1 o2 t0 s.heap.size L' a' b' adm' → LH dC dI cy cL adh o1 o2 L' a' b' adm' I' D' J' E' f1' f2' H' → va_S (fun q => s.heap.size ≤ q) s.heap H' locs' → RR 0 a' b' c' d' h' I' D' J' E' → h' ≤ h1 + 48 → lv_has ls' 9 [(0, .ref b), (1, .ref (adh 0)), (2, .ref (adm' 0)), (3, .ref o1), (4, .ref o2), (5, .int (nI j))] → W p l e room_1 s m #[Value.ref b] below meth c H' locs' (cells + 207) (slots + 1642) Q (F0 m 2072 ls' [])) : W p l e room_1 s m #[Value.ref b] below meth c H locs cells slots Q (F0 m 1145 ls []) := by
  obtain ⟨hx, hb, hr, hml, hown0, hts0, hX, hbl, hlocks, -⟩ := C0
  have hown : s.vm.findClass RL = some m.cls := hown0
  have hts : ∀ w ∈ wsL_law, w.before #[Value.ref b] s = true := fun w h => hts0 w (wsL_law_in w h)
  obtain ⟨hK, hN, hI, hca, hcb, hao, hZ, hT, hzs, hts9⟩ := hK0
  have hKt : va_K (dC, dI) vwCl (tysA cy) s := hK.sub [0, 1, 2, 3, 4, 5, 6, 7] rfl
  have hbA : ¬ (fun q : Nat => s.heap.size ≤ q) b := Nat.not_le.mpr hbl
  have hi1 : vp_in (nI j + 1) Lx := vin_k hj hL 1 (by decide)
  obtain ⟨v, J9, E9, r0, w, I9, D9, hy, hJ0, hw, hvw, c2, d2, h2, hh2, hR2⟩ := agW_law (a_call hR (xs (nI j + 1).toNatClampNeg)) (by decide)
  refine lv_aload_n hx hb dL_law_1145 rfl (lv_at hl 1 rfl) ?_
  refine lv_aload_n hx hb dL_law_1146 rfl (lv_at hl 0 rfl) ?_
  refine lv_iload hx hb dL_law_1147 (lv_at hl 5 rfl) ?_
  refine lv_iconst (v := 1) hx hb dL_law_1149 (by decide) ?_
  refine lv_iadd hx hb dL_law_1150 ?_
  refine va_sld hx hb hX hbl hbA hS hi1 dL_law_1151 ?_
  refine lv_aload_n hx hb dL_law_1152 rfl (lv_at hl 3 rfl) ?_
  have hAO := AO_out (z := H.size) hG.2.2.2.2.2.1 hG.2.2.2.2.1 hS.1
  refine vx_calli (vx_runSX (As := [.ref (adh 0), .int (xs (nI j + 1).toNatClampNeg), .ref o1]) (rest := []) ⟨hx, hb, hml, hown, hts⟩ (wL_call l hl0 dC dI adh cy cL hG.1 sa o1 hG.2.1 H.size I D f1 (xs (nI j + 1).toNatClampNeg) r0 w I9 D9 hw) (vx_cwSW 3 hts gL_law_L_call rfl rfl rfl (by decide +kernel) ⟨Nat.le_of_ble_eq_true rfl, Nat.le_of_ble_eq_true rfl⟩) (hO.preX [.ref (adh 0), .int (xs (nI j + 1).toNatClampNeg), .ref o1] (va_Pcons hY.2.1 hY.1) hK hN (xS_kept (B := AO o1 adh H.size) hZ hS hAO) hT) rfl rfl hl.1 rfl (lv_room (Nat.le_of_ble_eq_true rfl)) dL_law_1153 ⟨by show cells + 1 ≤ 601024; omega, by show slots + 6 ≤ 7293034; omega⟩) hS (fun q _ h => hAO q h) hAO (fun q _ h => hAO q h) (fun E9 ce q9 u t H1 locs1 ht9 hvm hpu hBX hz1 hk1 hS h1 h2 h3 => hpu.elim) (fun r9 g1 t H1 locs ht9 hvm hw9 hB hz1 hk1 hS => ?_)
  rw [hw9.1]
  have hg := hw9.2
  have hY := lh_1 hY hG hM hk1 (by rw [← ht9]; exact hB)
  clear hw9 hB hz1 hk1 hvm ht9 hAO
  generalize H1 = H at hY hS ⊢
  refine lv_istore (lv' := [(6, .int r0), (0, .ref b), (1, .ref (adh 0)), (2, .ref (adm 0)), (3, .ref o1), (4, .ref o2), (5, .int (nI j))]) hx hb dL_law_1156 hl (by decide) rfl (fun ls hl => ?_)
  refine lv_aload_n hx hb dL_law_1158 rfl (lv_at hl 3 rfl) ?_
  refine lv_aload_n hx hb dL_law_1159 rfl (lv_at hl 1 rfl) ?_
  refine lv_iload hx hb dL_law_1160 (lv_at hl 6 rfl) ?_
  refine lv_iconst (v := 1) hx hb dL_law_1162 (by decide) ?_
  refine lv_iadd hx hb dL_law_1163 ?_
  refine va_sld hx hb hX hbl hbA hS hi1 dL_law_1164 ?_
  obtain ⟨q0, hq0, hM0⟩ := heM_0 (cy := cy) (I := J) (D := E) hM.1
  have hAM := AM_out (z := H.size) (fun k hk => (hM.2.2.1 k hk).1) hS.1
  have hsz := hS.1
  refine va_calli (va_runV (As := [.int (xs (nI j + 1).toNatClampNeg)]) (rest := []) ⟨hx, hb, hml, hown, hts⟩ (mt_X7_call l dC dI L a b1 adm cy hM.1 H.size J E (xs (nI j + 1).toNatClampNeg) v J9 E9 hy) (cwV 1 hts gL_law_X7_call rfl rfl rfl (by decide +kernel) ⟨Nat.le_of_ble_eq_true rfl, Nat.le_of_ble_eq_true rfl⟩) ⟨(wM.pre [.ref (adm 0), .int (xs (nI j + 1).toNatClampNeg)] hY.2.2.2 hKt ⟨hN, hI⟩).1, wM.recv (C := RX7) (T := TX7) (N := 9) hY.2.2.2 hKt hM0 rfl, (wM.pre [.ref (adm 0), .int (xs (nI j + 1).toNatClampNeg)] hY.2.2.2 hKt ⟨hN, hI⟩).2⟩ rfl rfl hl.1 rfl (lv_room (Nat.le_of_ble_eq_true rfl)) dL_law_1165 ⟨by show cells + 1 + 0 ≤ 601024; omega, by show slots + 6 + 0 ≤ 7293034; omega⟩) hS (fun q _ h => hAM q h) hAM (fun r9 u t H1 locs ht hvm hw8 hB hz1 hk1 hS => ?_)
  subst hw8
  have hY := lh_M hY hM hk1 (by rw [← ht]; exact hB.1)
  clear hB hz1 hk1 hvm ht hAM hsz
  generalize H1 = H at hY hS ⊢
  refine lv_istore (lv' := [(7, .int v), (6, .int r0), (0, .ref b), (1, .ref (adh 0)), (2, .ref (adm 0)), (3, .ref o1), (4, .ref o2), (5, .int (nI j))]) hx hb dL_law_1168 hl (by decide) rfl (fun ls hl => ?_)
  refine lv_aload_n hx hb dL_law_1170 rfl (lv_at hl 4 rfl) ?_
  obtain ⟨q2, hq2, hM2⟩ := heM_0 (cy := cy) (I := J9) (D := E9) hM.1
  refine va_calli (va_runV (As := []) (rest := []) ⟨hx, hb, hml, hown, hts⟩ (mt_X7_thrown l dC dI L a b1 adm cy hM.1 H.size J9 E9 (J9 0 0) rfl) (cwV 0 hts gL_law_X7_thrown rfl rfl rfl (by decide +kernel) ⟨Nat.le_of_ble_eq_true rfl, Nat.le_of_ble_eq_true rfl⟩) ⟨(wM.pre [.ref (adm 0)] hY.2.2.2 hKt ⟨hN, hI⟩).1, wM.recv (C := RX7) (T := TX7) (N := 9) hY.2.2.2 hKt hM2 rfl, (wM.pre [.ref (adm 0)] hY.2.2.2 hKt ⟨hN, hI⟩).2⟩ rfl rfl hl.1 rfl (lv_room (Nat.le_of_ble_eq_true rfl)) dL_law_1171 ⟨by show cells + 1 + 0 + 0 ≤ 601024; omega, by show slots + 6 + 0 + 0 ≤ 7293034; omega⟩) hS (fun q _ h => Nat.le_trans hS.1 h) (fun q h => Nat.le_trans hS.1 h) (fun r9 u t H1 locs ht hvm hw8 hB hz1 hk1 hS => ?_)
  subst hw8
  have hY := lh_new hY hk1
  clear hB hz1 hk1 hvm ht
  generalize H1 = H at hY hS ⊢
  refine lv_iload hx hb dL_law_1174 (lv_at hl 1 rfl) ?_
  refine lv_icmp_eq (tgt := 1181) hx hb dL_law_1176 (by decide) (fun _ => ?_) (fun c9 => absurd hJ0 c9)
  refine lv_iload hx hb dL_law_1181 (lv_at hl 1 rfl) ?_
  have fin : ∀ (ls : Array Slot), lv_has ls 9 [(7, .int v), (6, .int r0), (0, .ref b), (1, .ref (adh 0)), (2, .ref (adm 0)), (3, .ref o1), (4, .ref o2), (5, .int (nI j))] → W p l e room_1 s m #[Value.ref b] below meth c H locs (cells + 1 + 0 + 0) (slots + 6 + 0 + 0) Q (F0 m 1198 ls []) := fun ls hl => lv_goto (tgt := 2072) hx hb dL_law_1198 (by decide) (W.widen (k := cells + 207) (n := slots + 1642) (by omega) (by omega) (kk _ _ _ _ _ _ _ _ _ _ _ _ _ _ _ _ hM hY hS hR2 hh2 (lv_sub hl [2, 3, 4, 5, 6, 7] rfl)))
  refine lv_if_ne (tgt := 1198) hx hb dL_law_1183 (by decide) (fun _ => fin ls hl) (fun c2 => ?_)
  have hg1 := hg c2
  have hv1 := hvw c2
  refine lv_aload_n hx hb dL_law_1186 rfl (lv_at hl 5 rfl) ?_
  refine lv_iconst (v := 0) hx hb dL_law_1187 (by decide) ?_
  refine va_lald hx hb hK hY.2.1 0 8 rfl rfl vin0 dL_law_1188 ?_
  refine lv_iload hx hb dL_law_1189 (lv_at hl 0 rfl) ?_
  refine lv_i2l hx hb dL_law_1191 rfl ?_
  refine W.lcmp hx hb dL_law_1192 ?_
  have hq9 : g1 (0 : Int32).toNatClampNeg = v.toInt64 := hg1.trans (congrArg Int32.toInt64 hv1.1)
  rw [hq9]
  exact lv_if_eq (tgt := 1198) hx hb dL_law_1193 (by decide) (fun _ => fin ls hl) (fun c9 => absurd (lcmp_self _) c9)

set_option maxHeartbeats 8000000 in
set_option maxRecDepth 100000 in
theorem lc_ofMix {p : Program} {l : Launch} {e : Env} {s : State} {m : MethodId} {below : List Frame} {meth : Method} {c : Code} {b Lx : Nat} {xs : Nat → Int32} (hl0 : l.stackTraces = false) (hL : Lx ≤ 3072) (C0 : lw_At p s m meth c b Lx xs) {dC : Nat → ClassId} {dI : Nat → Nat → Nat} {cy : Nat → ClassId} {cL : ClassId} {sa : Nat → Nat} {t0 : Nat} {adh : Nat → Nat} {o1 o2 : Nat} (hK0 : LK dC dI cy cL sa t0 s) (hG : LG adh o1 o2 s.heap.size) {L : List Nat} {a b1 : Nat} {adm : Nat → Nat} (hM : LM adh o1 o2 t0 s.heap.size L a b1 adm) {I : MI} {D : MD} {J : MI} {E : MD} {f1 : Nat → Int64} {f2 : Nat → UInt64} {H : Heap} {locs : List Loc} (hY : LH dC dI cy cL adh o1 o2 L a b1 adm I D J E f1 f2 H) (hS : va_S (fun q => s.heap.size ≤ q) s.heap H locs) {c1 d1 h1 : Nat} (hR : RR 0 a b1 c1 d1 h1 I D J E) (hh : h1 + 48 < 2 ^ 20) {cells slots : Nat} (hc : cells + 207 ≤ 601024) (hs : slots + 1642 ≤ 7293034) {j : Nat} (hj : j + 6 ≤ Lx) {ls : Array Slot} (hl : lv_has ls 9 [(0, .ref b), (1, .ref (adh 0)), (2, .ref (adm 0)), (3, .ref o1), (4, .ref o2), (5, .int (nI j))]) {Q : State → Prop} (kk : ∀ (L' : List Nat) (a' b' : Nat) (adm' : Nat → Nat) (I' : MI) (D' : MD) (J' : MI) (E' : MD) (f1' : Nat → Int64) (f2' : Nat → UInt64) (H' : Heap) (locs' : List Loc) (c' d' h' : Nat) (ls' : Array Slot), LM adh o1 o2 t0 s.heap.size L' a' b' adm' → LH dC dI cy cL adh o1 o2 L' a' b' adm' I' D' J' E' f1' f2' H' → va_S (fun q => s.heap.size ≤ q) s.heap H' locs' → RR 0 a' b' c' d' h' I' D' J' E' → h' ≤ h1 + 48 → lv_has ls' 9 [(0, .ref b), (1, .ref (adh 0)), (2, .ref (adm' 0)), (3, .ref o1), (4, .ref o2), (5, .int (nI j))] → W p l e room_1 s m #[Value.ref b] below meth c H' locs' (cells + 207) (slots + 1642) Q (F0 m 2072 ls' [])) : W p l e room_1 s m #[Value.ref b] below meth c H locs cells slots Q (F0 m 1201 ls []) := by
  obtain ⟨hx, hb, hr, hml, hown0, hts0, hX, hbl, hlocks, -⟩ := C0
  have hown : s.vm.findClass RL = some m.cls := hown0
  have hts : ∀ w ∈ wsL_law, w.before #[Value.ref b] s = true := fun w h => hts0 w (wsL_law_in w h)
  obtain ⟨hK, hN, hI, hca, hcb, hao, hZ, hT, hzs, hts9⟩ := hK0
  have hKt : va_K (dC, dI) vwCl (tysA cy) s := hK.sub [0, 1, 2, 3, 4, 5, 6, 7] rfl
  have hbA : ¬ (fun q : Nat => s.heap.size ≤ q) b := Nat.not_le.mpr hbl
  have hi1 : vp_in (nI j + 1) Lx := vin_k hj hL 1 (by decide)
  have hi2 : vp_in (nI j + 2) Lx := vin_k hj hL 2 (by decide)
  obtain ⟨v, J9, E9, r0, w, hy, hJ0, hw, hvw, c2, d2, h2, hh2, hR2⟩ := agR_law (a_ofMix hR (xs (nI j + 1).toNatClampNeg) (xs (nI j + 2).toNatClampNeg)) (by decide)
  refine lv_aload_n hx hb dL_law_1201 rfl (lv_at hl 1 rfl) ?_
  refine lv_aload_n hx hb dL_law_1202 rfl (lv_at hl 0 rfl) ?_
  refine lv_iload hx hb dL_law_1203 (lv_at hl 5 rfl) ?_
  refine lv_iconst (v := 1) hx hb dL_law_1205 (by decide) ?_
  refine lv_iadd hx hb dL_law_1206 ?_
  refine va_sld hx hb hX hbl hbA hS hi1 dL_law_1207 ?_
  refine lv_aload_n hx hb dL_law_1208 rfl (lv_at hl 0 rfl) ?_
  refine lv_iload hx hb dL_law_1209 (lv_at hl 5 rfl) ?_
  refine lv_iconst (v := 2) hx hb dL_law_1211 (by decide) ?_
  refine lv_iadd hx hb dL_law_1212 ?_
  refine va_sld hx hb hX hbl hbA hS hi2 dL_law_1213 ?_
  refine lv_aload_n hx hb dL_law_1214 rfl (lv_at hl 3 rfl) ?_
  have hAO := AO_out (z := H.size) hG.2.2.2.2.2.1 hG.2.2.2.2.1 hS.1
  refine vx_calli (vx_runSX (As := [.ref (adh 0), .int (xs (nI j + 1).toNatClampNeg), .int (xs (nI j + 2).toNatClampNeg), .ref o1]) (rest := []) ⟨hx, hb, hml, hown, hts⟩ (wL_ofMix l hl0 dC dI adh cy cL hG.1 sa o1 hG.2.1 H.size I D f1 (xs (nI j + 1).toNatClampNeg) (xs (nI j + 2).toNatClampNeg) r0 w hw) (vx_cwSW 4 hts gL_law_L_ofMix rfl rfl rfl (by decide +kernel) ⟨Nat.le_of_ble_eq_true rfl, Nat.le_of_ble_eq_true rfl⟩) (hO.preX [.ref (adh 0), .int (xs (nI j + 1).toNatClampNeg), .int (xs (nI j + 2).toNatClampNeg), .ref o1] (va_Pcons hY.2.1 hY.1) hK hN (xS_kept (B := AO o1 adh H.size) hZ hS hAO) hT) rfl rfl hl.1 rfl (lv_room (Nat.le_of_ble_eq_true rfl)) dL_law_1215 ⟨by show cells + 1 ≤ 601024; omega, by show slots + 6 ≤ 7293034; omega⟩) hS (fun q _ h => hAO q h) hAO (fun q _ h => hAO q h) (fun E9 ce q9 u t H1 locs1 ht9 hvm hpu hBX hz1 hk1 hS h1 h2 h3 => hpu.elim) (fun r9 g1 t H1 locs ht9 hvm hw9 hB hz1 hk1 hS => ?_)
  rw [hw9.1]
  have hg := hw9.2
  have hY := lh_1 hY hG hM hk1 (by rw [← ht9]; exact hB)
  clear hw9 hB hz1 hk1 hvm ht9 hAO
  generalize H1 = H at hY hS ⊢
  refine lv_istore (lv' := [(6, .int r0), (0, .ref b), (1, .ref (adh 0)), (2, .ref (adm 0)), (3, .ref o1), (4, .ref o2), (5, .int (nI j))]) hx hb dL_law_1218 hl (by decide) rfl (fun ls hl => ?_)
  refine lv_aload_n hx hb dL_law_1220 rfl (lv_at hl 3 rfl) ?_
  refine lv_aload_n hx hb dL_law_1221 rfl (lv_at hl 1 rfl) ?_
  refine lv_iload hx hb dL_law_1222 (lv_at hl 6 rfl) ?_
  refine lv_iconst (v := 1) hx hb dL_law_1224 (by decide) ?_
  refine lv_iadd hx hb dL_law_1225 ?_
  refine va_sld hx hb hX hbl hbA hS hi1 dL_law_1226 ?_
  refine lv_aload_n hx hb dL_law_1227 rfl (lv_at hl 1 rfl) ?_
  refine lv_iload hx hb dL_law_1228 (lv_at hl 6 rfl) ?_
  refine lv_iconst (v := 2) hx hb dL_law_1230 (by decide) ?_
  refine lv_iadd hx hb dL_law_1231 ?_
  refine va_sld hx hb hX hbl hbA hS hi2 dL_law_1232 ?_
  obtain ⟨q0, hq0, hM0⟩ := heM_0 (cy := cy) (I := J) (D := E) hM.1
  have hAM := AM_out (z := H.size) (fun k hk => (hM.2.2.1 k hk).1) hS.1
  have hsz := hS.1
  refine va_calli (va_runV (As := [.int (xs (nI j + 1).toNatClampNeg), .int (xs (nI j + 2).toNatClampNeg)]) (rest := []) ⟨hx, hb, hml, hown, hts⟩ (mt_X7_ofMix l dC dI L a b1 adm cy hM.1 H.size J E (xs (nI j + 1).toNatClampNeg) (xs (nI j + 2).toNatClampNeg) v J9 E9 hy) (cwV 2 hts gL_law_X7_ofMix rfl rfl rfl (by decide +kernel) ⟨Nat.le_of_ble_eq_true rfl, Nat.le_of_ble_eq_true rfl⟩) ⟨(wM.pre [.ref (adm 0), .int (xs (nI j + 1).toNatClampNeg), .int (xs (nI j + 2).toNatClampNeg)] hY.2.2.2 hKt ⟨hN, hI⟩).1, wM.recv (C := RX7) (T := TX7) (N := 9) hY.2.2.2 hKt hM0 rfl, (wM.pre [.ref (adm 0), .int (xs (nI j + 1).toNatClampNeg), .int (xs (nI j + 2).toNatClampNeg)] hY.2.2.2 hKt ⟨hN, hI⟩).2⟩ rfl rfl hl.1 rfl (lv_room (Nat.le_of_ble_eq_true rfl)) dL_law_1233 ⟨by show cells + 1 + 1 ≤ 601024; omega, by show slots + 6 + 9 ≤ 7293034; omega⟩) hS (fun q _ h => hAM q h) hAM (fun r9 u t H1 locs ht hvm hw8 hB hz1 hk1 hS => ?_)
  subst hw8
  have hY := lh_M hY hM hk1 (by rw [← ht]; exact hB.1)
  clear hB hz1 hk1 hvm ht hAM hsz
  generalize H1 = H at hY hS ⊢
  refine lv_istore (lv' := [(7, .int v), (6, .int r0), (0, .ref b), (1, .ref (adh 0)), (2, .ref (adm 0)), (3, .ref o1), (4, .ref o2), (5, .int (nI j))]) hx hb dL_law_1236 hl (by decide) rfl (fun ls hl => ?_)
  refine lv_aload_n hx hb dL_law_1238 rfl (lv_at hl 4 rfl) ?_
  obtain ⟨q2, hq2, hM2⟩ := heM_0 (cy := cy) (I := J9) (D := E9) hM.1
  refine va_calli (va_runV (As := []) (rest := []) ⟨hx, hb, hml, hown, hts⟩ (mt_X7_thrown l dC dI L a b1 adm cy hM.1 H.size J9 E9 (J9 0 0) rfl) (cwV 0 hts gL_law_X7_thrown rfl rfl rfl (by decide +kernel) ⟨Nat.le_of_ble_eq_true rfl, Nat.le_of_ble_eq_true rfl⟩) ⟨(wM.pre [.ref (adm 0)] hY.2.2.2 hKt ⟨hN, hI⟩).1, wM.recv (C := RX7) (T := TX7) (N := 9) hY.2.2.2 hKt hM2 rfl, (wM.pre [.ref (adm 0)] hY.2.2.2 hKt ⟨hN, hI⟩).2⟩ rfl rfl hl.1 rfl (lv_room (Nat.le_of_ble_eq_true rfl)) dL_law_1239 ⟨by show cells + 1 + 1 + 0 ≤ 601024; omega, by show slots + 6 + 9 + 0 ≤ 7293034; omega⟩) hS (fun q _ h => Nat.le_trans hS.1 h) (fun q h => Nat.le_trans hS.1 h) (fun r9 u t H1 locs ht hvm hw8 hB hz1 hk1 hS => ?_)
  subst hw8
  have hY := lh_new hY hk1
  clear hB hz1 hk1 hvm ht
  generalize H1 = H at hY hS ⊢
  refine lv_iload hx hb dL_law_1242 (lv_at hl 1 rfl) ?_
  refine lv_icmp_eq (tgt := 1249) hx hb dL_law_1244 (by decide) (fun _ => ?_) (fun c9 => absurd hJ0 c9)
  refine lv_iload hx hb dL_law_1249 (lv_at hl 1 rfl) ?_
  have fin : ∀ (ls : Array Slot), lv_has ls 9 [(7, .int v), (6, .int r0), (0, .ref b), (1, .ref (adh 0)), (2, .ref (adm 0)), (3, .ref o1), (4, .ref o2), (5, .int (nI j))] → W p l e room_1 s m #[Value.ref b] below meth c H locs (cells + 1 + 1 + 0) (slots + 6 + 9 + 0) Q (F0 m 1266 ls []) := fun ls hl => lv_goto (tgt := 2072) hx hb dL_law_1266 (by decide) (W.widen (k := cells + 207) (n := slots + 1642) (by omega) (by omega) (kk _ _ _ _ _ _ _ _ _ _ _ _ _ _ _ _ hM hY hS hR2 hh2 (lv_sub hl [2, 3, 4, 5, 6, 7] rfl)))
  refine lv_if_ne (tgt := 1266) hx hb dL_law_1251 (by decide) (fun _ => fin ls hl) (fun c2 => ?_)
  have hg1 := hg c2
  have hv1 := hvw c2
  refine lv_aload_n hx hb dL_law_1254 rfl (lv_at hl 5 rfl) ?_
  refine lv_iconst (v := 0) hx hb dL_law_1255 (by decide) ?_
  refine va_lald hx hb hK hY.2.1 0 8 rfl rfl vin0 dL_law_1256 ?_
  refine lv_iload hx hb dL_law_1257 (lv_at hl 0 rfl) ?_
  refine lv_i2l hx hb dL_law_1259 rfl ?_
  refine W.lcmp hx hb dL_law_1260 ?_
  have hq9 : g1 (0 : Int32).toNatClampNeg = v.toInt64 := hg1.trans (congrArg Int32.toInt64 hv1.1)
  rw [hq9]
  exact lv_if_eq (tgt := 1266) hx hb dL_law_1261 (by decide) (fun _ => fin ls hl) (fun c9 => absurd (lcmp_self _) c9)
