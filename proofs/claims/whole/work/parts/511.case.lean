set_option maxHeartbeats 8000000 in
set_option maxRecDepth 100000 in
theorem lc_ingredient {p : Program} {l : Launch} {e : Env} {s : State} {m : MethodId} {below : List Frame} {meth : Method} {c : Code} {b Lx : Nat} {xs : Nat → Int32} (hl0 : l.stackTraces = false) (hL : Lx ≤ 3072) (C0 : lw_At p s m meth c b Lx xs) {dC : Nat → ClassId} {dI : Nat → Nat → Nat} {cy : Nat → ClassId} {cL : ClassId} {sa : Nat → Nat} {t0 : Nat} {adh : Nat → Nat} {o1 o2 : Nat} (hK0 : LK dC dI cy cL sa t0 s) (hG : LG adh o1 o2 s.heap.size) {L : List Nat} {a b1 : Nat} {adm : Nat → Nat} (hM : LM adh o1 o2 t0 s.heap.size L a b1 adm) {I : MI} {D : MD} {J : MI} {E : MD} {f1 : Nat → Int64} {f2 : Nat → UInt64} {H : Heap} {locs : List Loc} (hY : LH dC dI cy cL adh o1 o2 L a b1 adm I D J E f1 f2 H) (hS : va_S (fun q => s.heap.size ≤ q) s.heap H locs) {c1 d1 h1 : Nat} (hR : RR 0 a b1 c1 d1 h1 I D J E) (hh : h1 + 48 < 2 ^ 20) {cells slots : Nat} (hc : cells + 207 ≤ 601024) (hs : slots + 1642 ≤ 7293034) {j : Nat} (hj : j + 6 ≤ Lx) {ls : Array Slot} (hl : lv_has ls 9 [(0, .ref b), (1, .ref (adh 0)), (2, .ref (adm 0)), (3, .ref o1), (4, .ref o2), (5, .int (nI j))]) {Q : State → Prop} (kk : ∀ (L' : List Nat) (a' b' : Nat) (adm' : Nat → Nat) (I' : MI) (D' : MD) (J' : MI) (E' : MD) (f1' : Nat → Int64) (f2' : Nat → UInt64) (H' : Heap) (locs' : List Loc) (c' d' h' : Nat) (ls' : Array Slot), LM adh o1 o2 t0 s.heap.size L' a' b' adm' → LH dC dI cy cL adh o1 o2 L' a' b' adm' I' D' J' E' f1' f2' H' → va_S (fun q => s.heap.size ≤ q) s.heap H' locs' → RR 0 a' b' c' d' h' I' D' J' E' → h' ≤ h1 + 48 → lv_has ls' 9 [(0, .ref b), (1, .ref (adh 0)), (2, .ref (adm' 0)), (3, .ref o1), (4, .ref o2), (5, .int (nI j))] → W p l e room_1 s m #[Value.ref b] below meth c H' locs' (cells + 207) (slots + 1642) Q (F0 m 2072 ls' [])) : W p l e room_1 s m #[Value.ref b] below meth c H locs cells slots Q (F0 m 164 ls []) := by
  obtain ⟨hx, hb, hr, hml, hown0, hts0, hX, hbl, hlocks, -⟩ := C0
  have hown : s.vm.findClass RL = some m.cls := hown0
  have hts : ∀ w ∈ wsL_law, w.before #[Value.ref b] s = true := fun w h => hts0 w (wsL_law_in w h)
  obtain ⟨hK, hN, hI, hca, hcb, hao, hZ, hT, hzs, hts9⟩ := hK0
  have hKt : va_K (dC, dI) vwCl (tysA cy) s := hK.sub [0, 1, 2, 3, 4, 5, 6, 7] rfl
  have hbA : ¬ (fun q : Nat => s.heap.size ≤ q) b := Nat.not_le.mpr hbl
  have hi1 : vp_in (nI j + 1) Lx := vin_k hj hL 1 (by decide)
  have hi2 : vp_in (nI j + 2) Lx := vin_k hj hL 2 (by decide)
  have hi3 : vp_in (nI j + 3) Lx := vin_k hj hL 3 (by decide)
  have hi4 : vp_in (nI j + 4) Lx := vin_k hj hL 4 (by decide)
  have hi5 : vp_in (nI j + 5) Lx := vin_k hj hL 5 (by decide)
  obtain ⟨v, n9, J9, E9, r0, w, I9, D9, hy, hJ0, hw, hvw, c2, d2, h2, hh2, hR2⟩ := agN_law (a_ingredient hR (xs (nI j + 1).toNatClampNeg) (xs (nI j + 2).toNatClampNeg) (xs (nI j + 3).toNatClampNeg) (xs (nI j + 4).toNatClampNeg) (xs (nI j + 5).toNatClampNeg)) (by decide)
  refine lv_aload_n hx hb dL_law_164 rfl (lv_at hl 1 rfl) ?_
  refine lv_aload_n hx hb dL_law_165 rfl (lv_at hl 0 rfl) ?_
  refine lv_iload hx hb dL_law_166 (lv_at hl 5 rfl) ?_
  refine lv_iconst (v := 1) hx hb dL_law_168 (by decide) ?_
  refine lv_iadd hx hb dL_law_169 ?_
  refine va_sld hx hb hX hbl hbA hS hi1 dL_law_170 ?_
  refine lv_aload_n hx hb dL_law_171 rfl (lv_at hl 0 rfl) ?_
  refine lv_iload hx hb dL_law_172 (lv_at hl 5 rfl) ?_
  refine lv_iconst (v := 2) hx hb dL_law_174 (by decide) ?_
  refine lv_iadd hx hb dL_law_175 ?_
  refine va_sld hx hb hX hbl hbA hS hi2 dL_law_176 ?_
  refine lv_aload_n hx hb dL_law_177 rfl (lv_at hl 0 rfl) ?_
  refine lv_iload hx hb dL_law_178 (lv_at hl 5 rfl) ?_
  refine lv_iconst (v := 3) hx hb dL_law_180 (by decide) ?_
  refine lv_iadd hx hb dL_law_181 ?_
  refine va_sld hx hb hX hbl hbA hS hi3 dL_law_182 ?_
  refine lv_aload_n hx hb dL_law_183 rfl (lv_at hl 0 rfl) ?_
  refine lv_iload hx hb dL_law_184 (lv_at hl 5 rfl) ?_
  refine lv_iconst (v := 4) hx hb dL_law_186 (by decide) ?_
  refine lv_iadd hx hb dL_law_187 ?_
  refine va_sld hx hb hX hbl hbA hS hi4 dL_law_188 ?_
  refine lv_aload_n hx hb dL_law_189 rfl (lv_at hl 0 rfl) ?_
  refine lv_iload hx hb dL_law_190 (lv_at hl 5 rfl) ?_
  refine lv_iconst (v := 5) hx hb dL_law_192 (by decide) ?_
  refine lv_iadd hx hb dL_law_193 ?_
  refine va_sld hx hb hX hbl hbA hS hi5 dL_law_194 ?_
  refine lv_aload_n hx hb dL_law_195 rfl (lv_at hl 3 rfl) ?_
  have hAO := AO_out (z := H.size) hG.2.2.2.2.2.1 hG.2.2.2.2.1 hS.1
  refine vx_calli (vx_runSX (As := [.ref (adh 0), .int (xs (nI j + 1).toNatClampNeg), .int (xs (nI j + 2).toNatClampNeg), .int (xs (nI j + 3).toNatClampNeg), .int (xs (nI j + 4).toNatClampNeg), .int (xs (nI j + 5).toNatClampNeg), .ref o1]) (rest := []) ⟨hx, hb, hml, hown, hts⟩ (wL_ingredient l hl0 dC dI adh cy cL hG.1 sa o1 hG.2.1 H.size I D f1 (xs (nI j + 1).toNatClampNeg) (xs (nI j + 2).toNatClampNeg) (xs (nI j + 3).toNatClampNeg) (xs (nI j + 4).toNatClampNeg) (xs (nI j + 5).toNatClampNeg) r0 w I9 D9 hw) (vx_cwSW 7 hts gL_law_L_ingredient rfl rfl rfl (by decide +kernel) ⟨Nat.le_of_ble_eq_true rfl, Nat.le_of_ble_eq_true rfl⟩) (hO.preX [.ref (adh 0), .int (xs (nI j + 1).toNatClampNeg), .int (xs (nI j + 2).toNatClampNeg), .int (xs (nI j + 3).toNatClampNeg), .int (xs (nI j + 4).toNatClampNeg), .int (xs (nI j + 5).toNatClampNeg), .ref o1] (va_Pcons hY.2.1 hY.1) hK hN (xS_kept (B := AO o1 adh H.size) hZ hS hAO) hT) rfl rfl hl.1 rfl (lv_room (Nat.le_of_ble_eq_true rfl)) dL_law_196 ⟨by show cells + 1 ≤ 601024; omega, by show slots + 6 ≤ 7293034; omega⟩) hS (fun q _ h => hAO q h) hAO (fun q _ h => hAO q h) (fun E9 ce q9 u t H1 locs1 ht9 hvm hpu hBX hz1 hk1 hS h1 h2 h3 => hpu.elim) (fun r9 g1 t H1 locs ht9 hvm hw9 hB hz1 hk1 hS => ?_)
  rw [hw9.1]
  have hg := hw9.2
  have hY := lh_1 hY hG hM hk1 (by rw [← ht9]; exact hB)
  clear hw9 hB hz1 hk1 hvm ht9 hAO
  generalize H1 = H at hY hS ⊢
  refine lv_istore (lv' := [(6, .int r0), (0, .ref b), (1, .ref (adh 0)), (2, .ref (adm 0)), (3, .ref o1), (4, .ref o2), (5, .int (nI j))]) hx hb dL_law_199 hl (by decide) rfl (fun ls hl => ?_)
  refine lv_aload_n hx hb dL_law_201 rfl (lv_at hl 3 rfl) ?_
  refine lv_aload_n hx hb dL_law_202 rfl (lv_at hl 1 rfl) ?_
  refine lv_iload hx hb dL_law_203 (lv_at hl 6 rfl) ?_
  refine lv_iconst (v := 1) hx hb dL_law_205 (by decide) ?_
  refine lv_iadd hx hb dL_law_206 ?_
  refine va_sld hx hb hX hbl hbA hS hi1 dL_law_207 ?_
  refine lv_aload_n hx hb dL_law_208 rfl (lv_at hl 1 rfl) ?_
  refine lv_iload hx hb dL_law_209 (lv_at hl 6 rfl) ?_
  refine lv_iconst (v := 2) hx hb dL_law_211 (by decide) ?_
  refine lv_iadd hx hb dL_law_212 ?_
  refine va_sld hx hb hX hbl hbA hS hi2 dL_law_213 ?_
  refine lv_aload_n hx hb dL_law_214 rfl (lv_at hl 1 rfl) ?_
  refine lv_iload hx hb dL_law_215 (lv_at hl 6 rfl) ?_
  refine lv_iconst (v := 3) hx hb dL_law_217 (by decide) ?_
  refine lv_iadd hx hb dL_law_218 ?_
  refine va_sld hx hb hX hbl hbA hS hi3 dL_law_219 ?_
  refine lv_aload_n hx hb dL_law_220 rfl (lv_at hl 1 rfl) ?_
  refine lv_iload hx hb dL_law_221 (lv_at hl 6 rfl) ?_
  refine lv_iconst (v := 4) hx hb dL_law_223 (by decide) ?_
  refine lv_iadd hx hb dL_law_224 ?_
  refine va_sld hx hb hX hbl hbA hS hi4 dL_law_225 ?_
  refine lv_aload_n hx hb dL_law_226 rfl (lv_at hl 1 rfl) ?_
  refine lv_iload hx hb dL_law_227 (lv_at hl 6 rfl) ?_
  refine lv_iconst (v := 5) hx hb dL_law_229 (by decide) ?_
  refine lv_iadd hx hb dL_law_230 ?_
  refine va_sld hx hb hX hbl hbA hS hi5 dL_law_231 ?_
  obtain ⟨q0, hq0, hM0⟩ := heM_0 (cy := cy) (I := J) (D := E) hM.1
  have hAM := AM_out (z := H.size) (fun k hk => (hM.2.2.1 k hk).1) hS.1
  have hsz := hS.1
  refine va_calli (va_runV (As := [.int (xs (nI j + 1).toNatClampNeg), .int (xs (nI j + 2).toNatClampNeg), .int (xs (nI j + 3).toNatClampNeg), .int (xs (nI j + 4).toNatClampNeg), .int (xs (nI j + 5).toNatClampNeg)]) (rest := []) ⟨hx, hb, hml, hown, hts⟩ (mt_X7_ingredient l dC dI L a b1 adm cy hM.1 hM.2.1 H.size J E (xs (nI j + 1).toNatClampNeg) (xs (nI j + 2).toNatClampNeg) (xs (nI j + 3).toNatClampNeg) (xs (nI j + 4).toNatClampNeg) (xs (nI j + 5).toNatClampNeg) v n9 J9 E9 hy) (cwV 5 hts gL_law_X7_ingredient rfl rfl rfl (by decide +kernel) ⟨Nat.le_of_ble_eq_true rfl, Nat.le_of_ble_eq_true rfl⟩) ⟨(wM.preN (A := AM L adm H.size) (t := adm 41) [.ref (adm 0), .int (xs (nI j + 1).toNatClampNeg), .int (xs (nI j + 2).toNatClampNeg), .int (xs (nI j + 3).toNatClampNeg), .int (xs (nI j + 4).toNatClampNeg), .int (xs (nI j + 5).toNatClampNeg)] hY.2.2.2 hKt ⟨hN, hI⟩ hca hcb hao (by rw [hM.2.2.2]; exact (hzs.kept hS.2.1).narrow hAM) (by rw [hM.2.2.2]; exact (hts9.kept hS.2.1).narrow hAM)).1, wM.recv (C := RX7) (T := TX7) (N := 9) hY.2.2.2 hKt hM0 rfl, (wM.preN (A := AM L adm H.size) (t := adm 41) [.ref (adm 0), .int (xs (nI j + 1).toNatClampNeg), .int (xs (nI j + 2).toNatClampNeg), .int (xs (nI j + 3).toNatClampNeg), .int (xs (nI j + 4).toNatClampNeg), .int (xs (nI j + 5).toNatClampNeg)] hY.2.2.2 hKt ⟨hN, hI⟩ hca hcb hao (by rw [hM.2.2.2]; exact (hzs.kept hS.2.1).narrow hAM) (by rw [hM.2.2.2]; exact (hts9.kept hS.2.1).narrow hAM)).2⟩ rfl rfl hl.1 rfl (lv_room (Nat.le_of_ble_eq_true rfl)) dL_law_232 ⟨by show cells + 1 + 2 ≤ 601024; omega, by show slots + 6 + 15 ≤ 7293034; omega⟩) hS (fun q _ h => hAM q h) hAM (fun r9 u t H1 locs ht hvm hw8 hB hz1 hk1 hS => ?_)
  subst hw8
  obtain ⟨L9, adm9, hB1, hm1, hm2, hm3, hm4, hm5⟩ := hB
  have hM9 := lm_N hY hM hsz hm1 hm2 hm3 hm5
  have hY := lh_M hY hM hk1 (by rw [← ht]; exact hB1.1)
  rw [← hm4] at hl
  clear hz1 hk1 hvm ht hAM hsz hB1 hm3
  generalize H1 = H at hY hS ⊢
  refine lv_istore (lv' := [(7, .int v), (6, .int r0), (0, .ref b), (1, .ref (adh 0)), (2, .ref (adm9 0)), (3, .ref o1), (4, .ref o2), (5, .int (nI j))]) hx hb dL_law_235 hl (by decide) rfl (fun ls hl => ?_)
  refine lv_aload_n hx hb dL_law_237 rfl (lv_at hl 4 rfl) ?_
  obtain ⟨q2, hq2, hM2⟩ := heM_0 (cy := cy) (I := J9) (D := E9) hM9.1
  refine va_calli (va_runV (As := []) (rest := []) ⟨hx, hb, hml, hown, hts⟩ (mt_X7_thrown l dC dI L9 n9 b1 adm9 cy hM9.1 H.size J9 E9 (J9 0 0) rfl) (cwV 0 hts gL_law_X7_thrown rfl rfl rfl (by decide +kernel) ⟨Nat.le_of_ble_eq_true rfl, Nat.le_of_ble_eq_true rfl⟩) ⟨(wM.pre [.ref (adm9 0)] hY.2.2.2 hKt ⟨hN, hI⟩).1, wM.recv (C := RX7) (T := TX7) (N := 9) hY.2.2.2 hKt hM2 rfl, (wM.pre [.ref (adm9 0)] hY.2.2.2 hKt ⟨hN, hI⟩).2⟩ rfl rfl hl.1 rfl (lv_room (Nat.le_of_ble_eq_true rfl)) dL_law_238 ⟨by show cells + 1 + 2 + 0 ≤ 601024; omega, by show slots + 6 + 15 + 0 ≤ 7293034; omega⟩) hS (fun q _ h => Nat.le_trans hS.1 h) (fun q h => Nat.le_trans hS.1 h) (fun r9 u t H1 locs ht hvm hw8 hB hz1 hk1 hS => ?_)
  subst hw8
  have hY := lh_new hY hk1
  clear hB hz1 hk1 hvm ht
  generalize H1 = H at hY hS ⊢
  refine lv_iload hx hb dL_law_241 (lv_at hl 1 rfl) ?_
  refine lv_icmp_eq (tgt := 248) hx hb dL_law_243 (by decide) (fun _ => ?_) (fun c9 => absurd hJ0 c9)
  refine lv_iload hx hb dL_law_248 (lv_at hl 1 rfl) ?_
  have fin : ∀ (ls : Array Slot), lv_has ls 9 [(7, .int v), (6, .int r0), (0, .ref b), (1, .ref (adh 0)), (2, .ref (adm9 0)), (3, .ref o1), (4, .ref o2), (5, .int (nI j))] → W p l e room_1 s m #[Value.ref b] below meth c H locs (cells + 1 + 2 + 0) (slots + 6 + 15 + 0) Q (F0 m 265 ls []) := fun ls hl => lv_goto (tgt := 2072) hx hb dL_law_265 (by decide) (W.widen (k := cells + 207) (n := slots + 1642) (by omega) (by omega) (kk _ _ _ _ _ _ _ _ _ _ _ _ _ _ _ _ hM9 hY hS hR2 hh2 (lv_sub hl [2, 3, 4, 5, 6, 7] rfl)))
  refine lv_if_ne (tgt := 265) hx hb dL_law_250 (by decide) (fun _ => fin ls hl) (fun c2 => ?_)
  have hg1 := hg c2
  refine lv_aload_n hx hb dL_law_253 rfl (lv_at hl 5 rfl) ?_
  refine lv_iconst (v := 0) hx hb dL_law_254 (by decide) ?_
  refine va_lald hx hb hK hY.2.1 0 8 rfl rfl vin0 dL_law_255 ?_
  refine lv_iload hx hb dL_law_256 (lv_at hl 0 rfl) ?_
  refine lv_i2l hx hb dL_law_258 rfl ?_
  refine W.lcmp hx hb dL_law_259 ?_
  have hq9 : g1 (0 : Int32).toNatClampNeg = v.toInt64 := hg1.trans (congrArg Int32.toInt64 (hvw c2))
  rw [hq9]
  exact lv_if_eq (tgt := 265) hx hb dL_law_260 (by decide) (fun _ => fin ls hl) (fun c9 => absurd (lcmp_self _) c9)

set_option maxHeartbeats 8000000 in
set_option maxRecDepth 100000 in
theorem lc_mix {p : Program} {l : Launch} {e : Env} {s : State} {m : MethodId} {below : List Frame} {meth : Method} {c : Code} {b Lx : Nat} {xs : Nat → Int32} (hl0 : l.stackTraces = false) (hL : Lx ≤ 3072) (C0 : lw_At p s m meth c b Lx xs) {dC : Nat → ClassId} {dI : Nat → Nat → Nat} {cy : Nat → ClassId} {cL : ClassId} {sa : Nat → Nat} {t0 : Nat} {adh : Nat → Nat} {o1 o2 : Nat} (hK0 : LK dC dI cy cL sa t0 s) (hG : LG adh o1 o2 s.heap.size) {L : List Nat} {a b1 : Nat} {adm : Nat → Nat} (hM : LM adh o1 o2 t0 s.heap.size L a b1 adm) {I : MI} {D : MD} {J : MI} {E : MD} {f1 : Nat → Int64} {f2 : Nat → UInt64} {H : Heap} {locs : List Loc} (hY : LH dC dI cy cL adh o1 o2 L a b1 adm I D J E f1 f2 H) (hS : va_S (fun q => s.heap.size ≤ q) s.heap H locs) {c1 d1 h1 : Nat} (hR : RR 0 a b1 c1 d1 h1 I D J E) (hh : h1 + 48 < 2 ^ 20) {cells slots : Nat} (hc : cells + 207 ≤ 601024) (hs : slots + 1642 ≤ 7293034) {j : Nat} (hj : j + 6 ≤ Lx) {ls : Array Slot} (hl : lv_has ls 9 [(0, .ref b), (1, .ref (adh 0)), (2, .ref (adm 0)), (3, .ref o1), (4, .ref o2), (5, .int (nI j))]) {Q : State → Prop} (kk : ∀ (L' : List Nat) (a' b' : Nat) (adm' : Nat → Nat) (I' : MI) (D' : MD) (J' : MI) (E' : MD) (f1' : Nat → Int64) (f2' : Nat → UInt64) (H' : Heap) (locs' : List Loc) (c' d' h' : Nat) (ls' : Array Slot), LM adh o1 o2 t0 s.heap.size L' a' b' adm' → LH dC dI cy cL adh o1 o2 L' a' b' adm' I' D' J' E' f1' f2' H' → va_S (fun q => s.heap.size ≤ q) s.heap H' locs' → RR 0 a' b' c' d' h' I' D' J' E' → h' ≤ h1 + 48 → lv_has ls' 9 [(0, .ref b), (1, .ref (adh 0)), (2, .ref (adm' 0)), (3, .ref o1), (4, .ref o2), (5, .int (nI j))] → W p l e room_1 s m #[Value.ref b] below meth c H' locs' (cells + 207) (slots + 1642) Q (F0 m 2072 ls' [])) : W p l e room_1 s m #[Value.ref b] below meth c H locs cells slots Q (F0 m 268 ls []) := by
  obtain ⟨hx, hb, hr, hml, hown0, hts0, hX, hbl, hlocks, -⟩ := C0
  have hown : s.vm.findClass RL = some m.cls := hown0
  have hts : ∀ w ∈ wsL_law, w.before #[Value.ref b] s = true := fun w h => hts0 w (wsL_law_in w h)
  obtain ⟨hK, hN, hI, hca, hcb, hao, hZ, hT, hzs, hts9⟩ := hK0
  have hKt : va_K (dC, dI) vwCl (tysA cy) s := hK.sub [0, 1, 2, 3, 4, 5, 6, 7] rfl
  have hbA : ¬ (fun q : Nat => s.heap.size ≤ q) b := Nat.not_le.mpr hbl
  have hi1 : vp_in (nI j + 1) Lx := vin_k hj hL 1 (by decide)
  have hi2 : vp_in (nI j + 2) Lx := vin_k hj hL 2 (by decide)
  obtain ⟨v, n9, J9, E9, r0, w, I9, D9, hy, hJ0, hw, hvw, c2, d2, h2, hh2, hR2⟩ := agN_law (a_mix hR (xs (nI j + 1).toNatClampNeg) (xs (nI j + 2).toNatClampNeg)) (by decide)
  refine lv_aload_n hx hb dL_law_268 rfl (lv_at hl 1 rfl) ?_
  refine lv_aload_n hx hb dL_law_269 rfl (lv_at hl 0 rfl) ?_
  refine lv_iload hx hb dL_law_270 (lv_at hl 5 rfl) ?_
  refine lv_iconst (v := 1) hx hb dL_law_272 (by decide) ?_
  refine lv_iadd hx hb dL_law_273 ?_
  refine va_sld hx hb hX hbl hbA hS hi1 dL_law_274 ?_
  refine lv_aload_n hx hb dL_law_275 rfl (lv_at hl 0 rfl) ?_
  refine lv_iload hx hb dL_law_276 (lv_at hl 5 rfl) ?_
  refine lv_iconst (v := 2) hx hb dL_law_278 (by decide) ?_
  refine lv_iadd hx hb dL_law_279 ?_
  refine va_sld hx hb hX hbl hbA hS hi2 dL_law_280 ?_
  refine lv_aload_n hx hb dL_law_281 rfl (lv_at hl 3 rfl) ?_
  have hAO := AO_out (z := H.size) hG.2.2.2.2.2.1 hG.2.2.2.2.1 hS.1
  refine vx_calli (vx_runSX (As := [.ref (adh 0), .int (xs (nI j + 1).toNatClampNeg), .int (xs (nI j + 2).toNatClampNeg), .ref o1]) (rest := []) ⟨hx, hb, hml, hown, hts⟩ (wL_mix l hl0 dC dI adh cy cL hG.1 sa o1 hG.2.1 H.size I D f1 (xs (nI j + 1).toNatClampNeg) (xs (nI j + 2).toNatClampNeg) r0 w I9 D9 hw) (vx_cwSW 4 hts gL_law_L_mix rfl rfl rfl (by decide +kernel) ⟨Nat.le_of_ble_eq_true rfl, Nat.le_of_ble_eq_true rfl⟩) (hO.preX [.ref (adh 0), .int (xs (nI j + 1).toNatClampNeg), .int (xs (nI j + 2).toNatClampNeg), .ref o1] (va_Pcons hY.2.1 hY.1) hK hN (xS_kept (B := AO o1 adh H.size) hZ hS hAO) hT) rfl rfl hl.1 rfl (lv_room (Nat.le_of_ble_eq_true rfl)) dL_law_282 ⟨by show cells + 1 ≤ 601024; omega, by show slots + 6 ≤ 7293034; omega⟩) hS (fun q _ h => hAO q h) hAO (fun q _ h => hAO q h) (fun E9 ce q9 u t H1 locs1 ht9 hvm hpu hBX hz1 hk1 hS h1 h2 h3 => hpu.elim) (fun r9 g1 t H1 locs ht9 hvm hw9 hB hz1 hk1 hS => ?_)
  rw [hw9.1]
  have hg := hw9.2
  have hY := lh_1 hY hG hM hk1 (by rw [← ht9]; exact hB)
  clear hw9 hB hz1 hk1 hvm ht9 hAO
  generalize H1 = H at hY hS ⊢
  refine lv_istore (lv' := [(6, .int r0), (0, .ref b), (1, .ref (adh 0)), (2, .ref (adm 0)), (3, .ref o1), (4, .ref o2), (5, .int (nI j))]) hx hb dL_law_285 hl (by decide) rfl (fun ls hl => ?_)
  refine lv_aload_n hx hb dL_law_287 rfl (lv_at hl 3 rfl) ?_
  refine lv_aload_n hx hb dL_law_288 rfl (lv_at hl 1 rfl) ?_
  refine lv_iload hx hb dL_law_289 (lv_at hl 6 rfl) ?_
  refine lv_iconst (v := 1) hx hb dL_law_291 (by decide) ?_
  refine lv_iadd hx hb dL_law_292 ?_
  refine va_sld hx hb hX hbl hbA hS hi1 dL_law_293 ?_
  refine lv_aload_n hx hb dL_law_294 rfl (lv_at hl 1 rfl) ?_
  refine lv_iload hx hb dL_law_295 (lv_at hl 6 rfl) ?_
  refine lv_iconst (v := 2) hx hb dL_law_297 (by decide) ?_
  refine lv_iadd hx hb dL_law_298 ?_
  refine va_sld hx hb hX hbl hbA hS hi2 dL_law_299 ?_
  obtain ⟨q0, hq0, hM0⟩ := heM_0 (cy := cy) (I := J) (D := E) hM.1
  have hAM := AM_out (z := H.size) (fun k hk => (hM.2.2.1 k hk).1) hS.1
  have hsz := hS.1
  refine va_calli (va_runV (As := [.int (xs (nI j + 1).toNatClampNeg), .int (xs (nI j + 2).toNatClampNeg)]) (rest := []) ⟨hx, hb, hml, hown, hts⟩ (mt_X7_mix l dC dI L a b1 adm cy hM.1 hM.2.1 H.size J E (xs (nI j + 1).toNatClampNeg) (xs (nI j + 2).toNatClampNeg) v n9 J9 E9 hy) (cwV 2 hts gL_law_X7_mix rfl rfl rfl (by decide +kernel) ⟨Nat.le_of_ble_eq_true rfl, Nat.le_of_ble_eq_true rfl⟩) ⟨(wM.preN (A := AM L adm H.size) (t := adm 41) [.ref (adm 0), .int (xs (nI j + 1).toNatClampNeg), .int (xs (nI j + 2).toNatClampNeg)] hY.2.2.2 hKt ⟨hN, hI⟩ hca hcb hao (by rw [hM.2.2.2]; exact (hzs.kept hS.2.1).narrow hAM) (by rw [hM.2.2.2]; exact (hts9.kept hS.2.1).narrow hAM)).1, wM.recv (C := RX7) (T := TX7) (N := 9) hY.2.2.2 hKt hM0 rfl, (wM.preN (A := AM L adm H.size) (t := adm 41) [.ref (adm 0), .int (xs (nI j + 1).toNatClampNeg), .int (xs (nI j + 2).toNatClampNeg)] hY.2.2.2 hKt ⟨hN, hI⟩ hca hcb hao (by rw [hM.2.2.2]; exact (hzs.kept hS.2.1).narrow hAM) (by rw [hM.2.2.2]; exact (hts9.kept hS.2.1).narrow hAM)).2⟩ rfl rfl hl.1 rfl (lv_room (Nat.le_of_ble_eq_true rfl)) dL_law_300 ⟨by show cells + 1 + 3 ≤ 601024; omega, by show slots + 6 + 21 ≤ 7293034; omega⟩) hS (fun q _ h => hAM q h) hAM (fun r9 u t H1 locs ht hvm hw8 hB hz1 hk1 hS => ?_)
  subst hw8
  obtain ⟨L9, adm9, hB1, hm1, hm2, hm3, hm4, hm5⟩ := hB
  have hM9 := lm_N hY hM hsz hm1 hm2 hm3 hm5
  have hY := lh_M hY hM hk1 (by rw [← ht]; exact hB1.1)
  rw [← hm4] at hl
  clear hz1 hk1 hvm ht hAM hsz hB1 hm3
  generalize H1 = H at hY hS ⊢
  refine lv_istore (lv' := [(7, .int v), (6, .int r0), (0, .ref b), (1, .ref (adh 0)), (2, .ref (adm9 0)), (3, .ref o1), (4, .ref o2), (5, .int (nI j))]) hx hb dL_law_303 hl (by decide) rfl (fun ls hl => ?_)
  refine lv_aload_n hx hb dL_law_305 rfl (lv_at hl 4 rfl) ?_
  obtain ⟨q2, hq2, hM2⟩ := heM_0 (cy := cy) (I := J9) (D := E9) hM9.1
  refine va_calli (va_runV (As := []) (rest := []) ⟨hx, hb, hml, hown, hts⟩ (mt_X7_thrown l dC dI L9 a n9 adm9 cy hM9.1 H.size J9 E9 (J9 0 0) rfl) (cwV 0 hts gL_law_X7_thrown rfl rfl rfl (by decide +kernel) ⟨Nat.le_of_ble_eq_true rfl, Nat.le_of_ble_eq_true rfl⟩) ⟨(wM.pre [.ref (adm9 0)] hY.2.2.2 hKt ⟨hN, hI⟩).1, wM.recv (C := RX7) (T := TX7) (N := 9) hY.2.2.2 hKt hM2 rfl, (wM.pre [.ref (adm9 0)] hY.2.2.2 hKt ⟨hN, hI⟩).2⟩ rfl rfl hl.1 rfl (lv_room (Nat.le_of_ble_eq_true rfl)) dL_law_306 ⟨by show cells + 1 + 3 + 0 ≤ 601024; omega, by show slots + 6 + 21 + 0 ≤ 7293034; omega⟩) hS (fun q _ h => Nat.le_trans hS.1 h) (fun q h => Nat.le_trans hS.1 h) (fun r9 u t H1 locs ht hvm hw8 hB hz1 hk1 hS => ?_)
  subst hw8
  have hY := lh_new hY hk1
  clear hB hz1 hk1 hvm ht
  generalize H1 = H at hY hS ⊢
  refine lv_iload hx hb dL_law_309 (lv_at hl 1 rfl) ?_
  refine lv_icmp_eq (tgt := 316) hx hb dL_law_311 (by decide) (fun _ => ?_) (fun c9 => absurd hJ0 c9)
  refine lv_iload hx hb dL_law_316 (lv_at hl 1 rfl) ?_
  have fin : ∀ (ls : Array Slot), lv_has ls 9 [(7, .int v), (6, .int r0), (0, .ref b), (1, .ref (adh 0)), (2, .ref (adm9 0)), (3, .ref o1), (4, .ref o2), (5, .int (nI j))] → W p l e room_1 s m #[Value.ref b] below meth c H locs (cells + 1 + 3 + 0) (slots + 6 + 21 + 0) Q (F0 m 333 ls []) := fun ls hl => lv_goto (tgt := 2072) hx hb dL_law_333 (by decide) (W.widen (k := cells + 207) (n := slots + 1642) (by omega) (by omega) (kk _ _ _ _ _ _ _ _ _ _ _ _ _ _ _ _ hM9 hY hS hR2 hh2 (lv_sub hl [2, 3, 4, 5, 6, 7] rfl)))
  refine lv_if_ne (tgt := 333) hx hb dL_law_318 (by decide) (fun _ => fin ls hl) (fun c2 => ?_)
  have hg1 := hg c2
  refine lv_aload_n hx hb dL_law_321 rfl (lv_at hl 5 rfl) ?_
  refine lv_iconst (v := 0) hx hb dL_law_322 (by decide) ?_
  refine va_lald hx hb hK hY.2.1 0 8 rfl rfl vin0 dL_law_323 ?_
  refine lv_iload hx hb dL_law_324 (lv_at hl 0 rfl) ?_
  refine lv_i2l hx hb dL_law_326 rfl ?_
  refine W.lcmp hx hb dL_law_327 ?_
  have hq9 : g1 (0 : Int32).toNatClampNeg = v.toInt64 := hg1.trans (congrArg Int32.toInt64 (hvw c2))
  rw [hq9]
  exact lv_if_eq (tgt := 333) hx hb dL_law_328 (by decide) (fun _ => fin ls hl) (fun c9 => absurd (lcmp_self _) c9)

set_option maxHeartbeats 8000000 in
set_option maxRecDepth 100000 in
theorem lc_put {p : Program} {l : Launch} {e : Env} {s : State} {m : MethodId} {below : List Frame} {meth : Method} {c : Code} {b Lx : Nat} {xs : Nat → Int32} (hl0 : l.stackTraces = false) (hL : Lx ≤ 3072) (C0 : lw_At p s m meth c b Lx xs) {dC : Nat → ClassId} {dI : Nat → Nat → Nat} {cy : Nat → ClassId} {cL : ClassId} {sa : Nat → Nat} {t0 : Nat} {adh : Nat → Nat} {o1 o2 : Nat} (hK0 : LK dC dI cy cL sa t0 s) (hG : LG adh o1 o2 s.heap.size) {L : List Nat} {a b1 : Nat} {adm : Nat → Nat} (hM : LM adh o1 o2 t0 s.heap.size L a b1 adm) {I : MI} {D : MD} {J : MI} {E : MD} {f1 : Nat → Int64} {f2 : Nat → UInt64} {H : Heap} {locs : List Loc} (hY : LH dC dI cy cL adh o1 o2 L a b1 adm I D J E f1 f2 H) (hS : va_S (fun q => s.heap.size ≤ q) s.heap H locs) {c1 d1 h1 : Nat} (hR : RR 0 a b1 c1 d1 h1 I D J E) (hh : h1 + 48 < 2 ^ 20) {cells slots : Nat} (hc : cells + 207 ≤ 601024) (hs : slots + 1642 ≤ 7293034) {j : Nat} (hj : j + 6 ≤ Lx) {ls : Array Slot} (hl : lv_has ls 9 [(0, .ref b), (1, .ref (adh 0)), (2, .ref (adm 0)), (3, .ref o1), (4, .ref o2), (5, .int (nI j))]) {Q : State → Prop} (kk : ∀ (L' : List Nat) (a' b' : Nat) (adm' : Nat → Nat) (I' : MI) (D' : MD) (J' : MI) (E' : MD) (f1' : Nat → Int64) (f2' : Nat → UInt64) (H' : Heap) (locs' : List Loc) (c' d' h' : Nat) (ls' : Array Slot), LM adh o1 o2 t0 s.heap.size L' a' b' adm' → LH dC dI cy cL adh o1 o2 L' a' b' adm' I' D' J' E' f1' f2' H' → va_S (fun q => s.heap.size ≤ q) s.heap H' locs' → RR 0 a' b' c' d' h' I' D' J' E' → h' ≤ h1 + 48 → lv_has ls' 9 [(0, .ref b), (1, .ref (adh 0)), (2, .ref (adm' 0)), (3, .ref o1), (4, .ref o2), (5, .int (nI j))] → W p l e room_1 s m #[Value.ref b] below meth c H' locs' (cells + 207) (slots + 1642) Q (F0 m 2072 ls' [])) : W p l e room_1 s m #[Value.ref b] below meth c H locs cells slots Q (F0 m 336 ls []) := by
  obtain ⟨hx, hb, hr, hml, hown0, hts0, hX, hbl, hlocks, -⟩ := C0
  have hown : s.vm.findClass RL = some m.cls := hown0
  have hts : ∀ w ∈ wsL_law, w.before #[Value.ref b] s = true := fun w h => hts0 w (wsL_law_in w h)
  obtain ⟨hK, hN, hI, hca, hcb, hao, hZ, hT, hzs, hts9⟩ := hK0
  have hKt : va_K (dC, dI) vwCl (tysA cy) s := hK.sub [0, 1, 2, 3, 4, 5, 6, 7] rfl
  have hbA : ¬ (fun q : Nat => s.heap.size ≤ q) b := Nat.not_le.mpr hbl
  have hi1 : vp_in (nI j + 1) Lx := vin_k hj hL 1 (by decide)
  have hi2 : vp_in (nI j + 2) Lx := vin_k hj hL 2 (by decide)
  have hi3 : vp_in (nI j + 3) Lx := vin_k hj hL 3 (by decide)
  obtain ⟨v, J9, E9, r0, w, I9, D9, hy, hJ0, hw, hvw, c2, d2, h2, hh2, hR2⟩ := agW_law (a_put hR (xs (nI j + 1).toNatClampNeg) (xs (nI j + 2).toNatClampNeg) (xs (nI j + 3).toNatClampNeg)) (by decide)
  refine lv_aload_n hx hb dL_law_336 rfl (lv_at hl 1 rfl) ?_
  refine lv_aload_n hx hb dL_law_337 rfl (lv_at hl 0 rfl) ?_
  refine lv_iload hx hb dL_law_338 (lv_at hl 5 rfl) ?_
  refine lv_iconst (v := 1) hx hb dL_law_340 (by decide) ?_
  refine lv_iadd hx hb dL_law_341 ?_
  refine va_sld hx hb hX hbl hbA hS hi1 dL_law_342 ?_
  refine lv_aload_n hx hb dL_law_343 rfl (lv_at hl 0 rfl) ?_
  refine lv_iload hx hb dL_law_344 (lv_at hl 5 rfl) ?_
  refine lv_iconst (v := 2) hx hb dL_law_346 (by decide) ?_
  refine lv_iadd hx hb dL_law_347 ?_
  refine va_sld hx hb hX hbl hbA hS hi2 dL_law_348 ?_
  refine lv_aload_n hx hb dL_law_349 rfl (lv_at hl 0 rfl) ?_
  refine lv_iload hx hb dL_law_350 (lv_at hl 5 rfl) ?_
  refine lv_iconst (v := 3) hx hb dL_law_352 (by decide) ?_
  refine lv_iadd hx hb dL_law_353 ?_
  refine va_sld hx hb hX hbl hbA hS hi3 dL_law_354 ?_
  refine lv_aload_n hx hb dL_law_355 rfl (lv_at hl 3 rfl) ?_
  have hAO := AO_out (z := H.size) hG.2.2.2.2.2.1 hG.2.2.2.2.1 hS.1
  refine vx_calli (vx_runSX (As := [.ref (adh 0), .int (xs (nI j + 1).toNatClampNeg), .int (xs (nI j + 2).toNatClampNeg), .int (xs (nI j + 3).toNatClampNeg), .ref o1]) (rest := []) ⟨hx, hb, hml, hown, hts⟩ (wL_put l hl0 dC dI adh cy cL hG.1 sa o1 hG.2.1 H.size I D f1 (xs (nI j + 1).toNatClampNeg) (xs (nI j + 2).toNatClampNeg) (xs (nI j + 3).toNatClampNeg) r0 w I9 D9 hw) (vx_cwSW 5 hts gL_law_L_put rfl rfl rfl (by decide +kernel) ⟨Nat.le_of_ble_eq_true rfl, Nat.le_of_ble_eq_true rfl⟩) (hO.preX [.ref (adh 0), .int (xs (nI j + 1).toNatClampNeg), .int (xs (nI j + 2).toNatClampNeg), .int (xs (nI j + 3).toNatClampNeg), .ref o1] (va_Pcons hY.2.1 hY.1) hK hN (xS_kept (B := AO o1 adh H.size) hZ hS hAO) hT) rfl rfl hl.1 rfl (lv_room (Nat.le_of_ble_eq_true rfl)) dL_law_356 ⟨by show cells + 1 ≤ 601024; omega, by show slots + 6 ≤ 7293034; omega⟩) hS (fun q _ h => hAO q h) hAO (fun q _ h => hAO q h) (fun E9 ce q9 u t H1 locs1 ht9 hvm hpu hBX hz1 hk1 hS h1 h2 h3 => hpu.elim) (fun r9 g1 t H1 locs ht9 hvm hw9 hB hz1 hk1 hS => ?_)
  rw [hw9.1]
  have hg := hw9.2
  have hY := lh_1 hY hG hM hk1 (by rw [← ht9]; exact hB)
  clear hw9 hB hz1 hk1 hvm ht9 hAO
  generalize H1 = H at hY hS ⊢
  refine lv_istore (lv' := [(6, .int r0), (0, .ref b), (1, .ref (adh 0)), (2, .ref (adm 0)), (3, .ref o1), (4, .ref o2), (5, .int (nI j))]) hx hb dL_law_359 hl (by decide) rfl (fun ls hl => ?_)
  refine lv_aload_n hx hb dL_law_361 rfl (lv_at hl 3 rfl) ?_
  refine lv_aload_n hx hb dL_law_362 rfl (lv_at hl 1 rfl) ?_
  refine lv_iload hx hb dL_law_363 (lv_at hl 6 rfl) ?_
  refine lv_iconst (v := 1) hx hb dL_law_365 (by decide) ?_
  refine lv_iadd hx hb dL_law_366 ?_
  refine va_sld hx hb hX hbl hbA hS hi1 dL_law_367 ?_
  refine lv_aload_n hx hb dL_law_368 rfl (lv_at hl 1 rfl) ?_
  refine lv_iload hx hb dL_law_369 (lv_at hl 6 rfl) ?_
  refine lv_iconst (v := 2) hx hb dL_law_371 (by decide) ?_
  refine lv_iadd hx hb dL_law_372 ?_
  refine va_sld hx hb hX hbl hbA hS hi2 dL_law_373 ?_
  refine lv_aload_n hx hb dL_law_374 rfl (lv_at hl 1 rfl) ?_
  refine lv_iload hx hb dL_law_375 (lv_at hl 6 rfl) ?_
  refine lv_iconst (v := 3) hx hb dL_law_377 (by decide) ?_
  refine lv_iadd hx hb dL_law_378 ?_
  refine va_sld hx hb hX hbl hbA hS hi3 dL_law_379 ?_
  obtain ⟨q0, hq0, hM0⟩ := heM_0 (cy := cy) (I := J) (D := E) hM.1
  have hAM := AM_out (z := H.size) (fun k hk => (hM.2.2.1 k hk).1) hS.1
  have hsz := hS.1
  refine va_calli (va_runV (As := [.int (xs (nI j + 1).toNatClampNeg), .int (xs (nI j + 2).toNatClampNeg), .int (xs (nI j + 3).toNatClampNeg)]) (rest := []) ⟨hx, hb, hml, hown, hts⟩ (mt_X7_put l dC dI L a b1 adm cy hM.1 H.size J E (xs (nI j + 1).toNatClampNeg) (xs (nI j + 2).toNatClampNeg) (xs (nI j + 3).toNatClampNeg) v J9 E9 hy) (cwV 3 hts gL_law_X7_put rfl rfl rfl (by decide +kernel) ⟨Nat.le_of_ble_eq_true rfl, Nat.le_of_ble_eq_true rfl⟩) ⟨(wM.pre [.ref (adm 0), .int (xs (nI j + 1).toNatClampNeg), .int (xs (nI j + 2).toNatClampNeg), .int (xs (nI j + 3).toNatClampNeg)] hY.2.2.2 hKt ⟨hN, hI⟩).1, wM.recv (C := RX7) (T := TX7) (N := 9) hY.2.2.2 hKt hM0 rfl, (wM.pre [.ref (adm 0), .int (xs (nI j + 1).toNatClampNeg), .int (xs (nI j + 2).toNatClampNeg), .int (xs (nI j + 3).toNatClampNeg)] hY.2.2.2 hKt ⟨hN, hI⟩).2⟩ rfl rfl hl.1 rfl (lv_room (Nat.le_of_ble_eq_true rfl)) dL_law_380 ⟨by show cells + 1 + 0 ≤ 601024; omega, by show slots + 6 + 0 ≤ 7293034; omega⟩) hS (fun q _ h => hAM q h) hAM (fun r9 u t H1 locs ht hvm hw8 hB hz1 hk1 hS => ?_)
  subst hw8
  have hY := lh_M hY hM hk1 (by rw [← ht]; exact hB.1)
  clear hB hz1 hk1 hvm ht hAM hsz
  generalize H1 = H at hY hS ⊢
  refine lv_istore (lv' := [(7, .int v), (6, .int r0), (0, .ref b), (1, .ref (adh 0)), (2, .ref (adm 0)), (3, .ref o1), (4, .ref o2), (5, .int (nI j))]) hx hb dL_law_383 hl (by decide) rfl (fun ls hl => ?_)
  refine lv_aload_n hx hb dL_law_385 rfl (lv_at hl 4 rfl) ?_
  obtain ⟨q2, hq2, hM2⟩ := heM_0 (cy := cy) (I := J9) (D := E9) hM.1
  refine va_calli (va_runV (As := []) (rest := []) ⟨hx, hb, hml, hown, hts⟩ (mt_X7_thrown l dC dI L a b1 adm cy hM.1 H.size J9 E9 (J9 0 0) rfl) (cwV 0 hts gL_law_X7_thrown rfl rfl rfl (by decide +kernel) ⟨Nat.le_of_ble_eq_true rfl, Nat.le_of_ble_eq_true rfl⟩) ⟨(wM.pre [.ref (adm 0)] hY.2.2.2 hKt ⟨hN, hI⟩).1, wM.recv (C := RX7) (T := TX7) (N := 9) hY.2.2.2 hKt hM2 rfl, (wM.pre [.ref (adm 0)] hY.2.2.2 hKt ⟨hN, hI⟩).2⟩ rfl rfl hl.1 rfl (lv_room (Nat.le_of_ble_eq_true rfl)) dL_law_386 ⟨by show cells + 1 + 0 + 0 ≤ 601024; omega, by show slots + 6 + 0 + 0 ≤ 7293034; omega⟩) hS (fun q _ h => Nat.le_trans hS.1 h) (fun q h => Nat.le_trans hS.1 h) (fun r9 u t H1 locs ht hvm hw8 hB hz1 hk1 hS => ?_)
  subst hw8
  have hY := lh_new hY hk1
  clear hB hz1 hk1 hvm ht
  generalize H1 = H at hY hS ⊢
  refine lv_iload hx hb dL_law_389 (lv_at hl 1 rfl) ?_
  refine lv_icmp_eq (tgt := 396) hx hb dL_law_391 (by decide) (fun _ => ?_) (fun c9 => absurd hJ0 c9)
  refine lv_iload hx hb dL_law_396 (lv_at hl 1 rfl) ?_
  have fin : ∀ (ls : Array Slot), lv_has ls 9 [(7, .int v), (6, .int r0), (0, .ref b), (1, .ref (adh 0)), (2, .ref (adm 0)), (3, .ref o1), (4, .ref o2), (5, .int (nI j))] → W p l e room_1 s m #[Value.ref b] below meth c H locs (cells + 1 + 0 + 0) (slots + 6 + 0 + 0) Q (F0 m 413 ls []) := fun ls hl => lv_goto (tgt := 2072) hx hb dL_law_413 (by decide) (W.widen (k := cells + 207) (n := slots + 1642) (by omega) (by omega) (kk _ _ _ _ _ _ _ _ _ _ _ _ _ _ _ _ hM hY hS hR2 hh2 (lv_sub hl [2, 3, 4, 5, 6, 7] rfl)))
  refine lv_if_ne (tgt := 413) hx hb dL_law_398 (by decide) (fun _ => fin ls hl) (fun c2 => ?_)
  have hg1 := hg c2
  have hv1 := hvw c2
  refine lv_aload_n hx hb dL_law_401 rfl (lv_at hl 5 rfl) ?_
  refine lv_iconst (v := 0) hx hb dL_law_402 (by decide) ?_
  refine va_lald hx hb hK hY.2.1 0 8 rfl rfl vin0 dL_law_403 ?_
  refine lv_iload hx hb dL_law_404 (lv_at hl 0 rfl) ?_
  refine lv_i2l hx hb dL_law_406 rfl ?_
  refine W.lcmp hx hb dL_law_407 ?_
  have hq9 : g1 (0 : Int32).toNatClampNeg = v.toInt64 := hg1.trans (congrArg Int32.toInt64 hv1.1)
  rw [hq9]
  exact lv_if_eq (tgt := 413) hx hb dL_law_408 (by decide) (fun _ => fin ls hl) (fun c9 => absurd (lcmp_self _) c9)

set_option maxHeartbeats 8000000 in
set_option maxRecDepth 100000 in
theorem lc_heat {p : Program} {l : Launch} {e : Env} {s : State} {m : MethodId} {below : List Frame} {meth : Method} {c : Code} {b Lx : Nat} {xs : Nat → Int32} (hl0 : l.stackTraces = false) (hL : Lx ≤ 3072) (C0 : lw_At p s m meth c b Lx xs) {dC : Nat → ClassId} {dI : Nat → Nat → Nat} {cy : Nat → ClassId} {cL : ClassId} {sa : Nat → Nat} {t0 : Nat} {adh : Nat → Nat} {o1 o2 : Nat} (hK0 : LK dC dI cy cL sa t0 s) (hG : LG adh o1 o2 s.heap.size) {L : List Nat} {a b1 : Nat} {adm : Nat → Nat} (hM : LM adh o1 o2 t0 s.heap.size L a b1 adm) {I : MI} {D : MD} {J : MI} {E : MD} {f1 : Nat → Int64} {f2 : Nat → UInt64} {H : Heap} {locs : List Loc} (hY : LH dC dI cy cL adh o1 o2 L a b1 adm I D J E f1 f2 H) (hS : va_S (fun q => s.heap.size ≤ q) s.heap H locs) {c1 d1 h1 : Nat} (hR : RR 0 a b1 c1 d1 h1 I D J E) (hh : h1 + 48 < 2 ^ 20) {cells slots : Nat} (hc : cells + 207 ≤ 601024) (hs : slots + 1642 ≤ 7293034) {j : Nat} (hj : j + 6 ≤ Lx) {ls : Array Slot} (hl : lv_has ls 9 [(0, .ref b), (1, .ref (adh 0)), (2, .ref (adm 0)), (3, .ref o1), (4, .ref o2), (5, .int (nI j))]) {Q : State → Prop} (kk : ∀ (L' : List Nat) (a' b' : Nat) (adm' : Nat → Nat) (I' : MI) (D' : MD) (J' : MI) (E' : MD) (f1' : Nat → Int64) (f2' : Nat → UInt64) (H' : Heap) (locs' : List Loc) (c' d' h' : Nat) (ls' : Array Slot), LM adh o1 o2 t0 s.heap.size L' a' b' adm' → LH dC dI cy cL adh o1 o2 L' a' b' adm' I' D' J' E' f1' f2' H' → va_S (fun q => s.heap.size ≤ q) s.heap H' locs' → RR 0 a' b' c' d' h' I' D' J' E' → h' ≤ h1 + 48 → lv_has ls' 9 [(0, .ref b), (1, .ref (adh 0)), (2, .ref (adm' 0)), (3, .ref o1), (4, .ref o2), (5, .int (nI j))] → W p l e room_1 s m #[Value.ref b] below meth c H' locs' (cells + 207) (slots + 1642) Q (F0 m 2072 ls' [])) : W p l e room_1 s m #[Value.ref b] below meth c H locs cells slots Q (F0 m 416 ls []) := by
  obtain ⟨hx, hb, hr, hml, hown0, hts0, hX, hbl, hlocks, -⟩ := C0
  have hown : s.vm.findClass RL = some m.cls := hown0
  have hts : ∀ w ∈ wsL_law, w.before #[Value.ref b] s = true := fun w h => hts0 w (wsL_law_in w h)
  obtain ⟨hK, hN, hI, hca, hcb, hao, hZ, hT, hzs, hts9⟩ := hK0
  have hKt : va_K (dC, dI) vwCl (tysA cy) s := hK.sub [0, 1, 2, 3, 4, 5, 6, 7] rfl
  have hbA : ¬ (fun q : Nat => s.heap.size ≤ q) b := Nat.not_le.mpr hbl
  have hi1 : vp_in (nI j + 1) Lx := vin_k hj hL 1 (by decide)
  have hi2 : vp_in (nI j + 2) Lx := vin_k hj hL 2 (by decide)
  have hi3 : vp_in (nI j + 3) Lx := vin_k hj hL 3 (by decide)
  obtain ⟨v, J9, E9, r0, w, I9, D9, hy, hJ0, hw, hvw, c2, d2, h2, hh2, hR2⟩ := agW_law (a_heat hR (xs (nI j + 1).toNatClampNeg) (xs (nI j + 2).toNatClampNeg) (xs (nI j + 3).toNatClampNeg)) (by decide)
  refine lv_aload_n hx hb dL_law_416 rfl (lv_at hl 1 rfl) ?_
  refine lv_aload_n hx hb dL_law_417 rfl (lv_at hl 0 rfl) ?_
  refine lv_iload hx hb dL_law_418 (lv_at hl 5 rfl) ?_
  refine lv_iconst (v := 1) hx hb dL_law_420 (by decide) ?_
  refine lv_iadd hx hb dL_law_421 ?_
  refine va_sld hx hb hX hbl hbA hS hi1 dL_law_422 ?_
  refine lv_aload_n hx hb dL_law_423 rfl (lv_at hl 0 rfl) ?_
  refine lv_iload hx hb dL_law_424 (lv_at hl 5 rfl) ?_
  refine lv_iconst (v := 2) hx hb dL_law_426 (by decide) ?_
  refine lv_iadd hx hb dL_law_427 ?_
  refine va_sld hx hb hX hbl hbA hS hi2 dL_law_428 ?_
  refine lv_aload_n hx hb dL_law_429 rfl (lv_at hl 0 rfl) ?_
  refine lv_iload hx hb dL_law_430 (lv_at hl 5 rfl) ?_
  refine lv_iconst (v := 3) hx hb dL_law_432 (by decide) ?_
  refine lv_iadd hx hb dL_law_433 ?_
  refine va_sld hx hb hX hbl hbA hS hi3 dL_law_434 ?_
  refine lv_aload_n hx hb dL_law_435 rfl (lv_at hl 3 rfl) ?_
  have hAO := AO_out (z := H.size) hG.2.2.2.2.2.1 hG.2.2.2.2.1 hS.1
  refine vx_calli (vx_runSX (As := [.ref (adh 0), .int (xs (nI j + 1).toNatClampNeg), .int (xs (nI j + 2).toNatClampNeg), .int (xs (nI j + 3).toNatClampNeg), .ref o1]) (rest := []) ⟨hx, hb, hml, hown, hts⟩ (wL_heat l hl0 dC dI adh cy cL hG.1 sa o1 hG.2.1 H.size I D f1 (xs (nI j + 1).toNatClampNeg) (xs (nI j + 2).toNatClampNeg) (xs (nI j + 3).toNatClampNeg) r0 w I9 D9 hw) (vx_cwSW 5 hts gL_law_L_heat rfl rfl rfl (by decide +kernel) ⟨Nat.le_of_ble_eq_true rfl, Nat.le_of_ble_eq_true rfl⟩) (hO.preX [.ref (adh 0), .int (xs (nI j + 1).toNatClampNeg), .int (xs (nI j + 2).toNatClampNeg), .int (xs (nI j + 3).toNatClampNeg), .ref o1] (va_Pcons hY.2.1 hY.1) hK hN (xS_kept (B := AO o1 adh H.size) hZ hS hAO) hT) rfl rfl hl.1 rfl (lv_room (Nat.le_of_ble_eq_true rfl)) dL_law_436 ⟨by show cells + 1 ≤ 601024; omega, by show slots + 6 ≤ 7293034; omega⟩) hS (fun q _ h => hAO q h) hAO (fun q _ h => hAO q h) (fun E9 ce q9 u t H1 locs1 ht9 hvm hpu hBX hz1 hk1 hS h1 h2 h3 => hpu.elim) (fun r9 g1 t H1 locs ht9 hvm hw9 hB hz1 hk1 hS => ?_)
  rw [hw9.1]
  have hg := hw9.2
  have hY := lh_1 hY hG hM hk1 (by rw [← ht9]; exact hB)
  clear hw9 hB hz1 hk1 hvm ht9 hAO
  generalize H1 = H at hY hS ⊢
  refine lv_istore (lv' := [(6, .int r0), (0, .ref b), (1, .ref (adh 0)), (2, .ref (adm 0)), (3, .ref o1), (4, .ref o2), (5, .int (nI j))]) hx hb dL_law_439 hl (by decide) rfl (fun ls hl => ?_)
  refine lv_aload_n hx hb dL_law_441 rfl (lv_at hl 3 rfl) ?_
  refine lv_aload_n hx hb dL_law_442 rfl (lv_at hl 1 rfl) ?_
  refine lv_iload hx hb dL_law_443 (lv_at hl 6 rfl) ?_
  refine lv_iconst (v := 1) hx hb dL_law_445 (by decide) ?_
  refine lv_iadd hx hb dL_law_446 ?_
  refine va_sld hx hb hX hbl hbA hS hi1 dL_law_447 ?_
  refine lv_aload_n hx hb dL_law_448 rfl (lv_at hl 1 rfl) ?_
  refine lv_iload hx hb dL_law_449 (lv_at hl 6 rfl) ?_
  refine lv_iconst (v := 2) hx hb dL_law_451 (by decide) ?_
  refine lv_iadd hx hb dL_law_452 ?_
  refine va_sld hx hb hX hbl hbA hS hi2 dL_law_453 ?_
  refine lv_aload_n hx hb dL_law_454 rfl (lv_at hl 1 rfl) ?_
  refine lv_iload hx hb dL_law_455 (lv_at hl 6 rfl) ?_
  refine lv_iconst (v := 3) hx hb dL_law_457 (by decide) ?_
  refine lv_iadd hx hb dL_law_458 ?_
  refine va_sld hx hb hX hbl hbA hS hi3 dL_law_459 ?_
  obtain ⟨q0, hq0, hM0⟩ := heM_0 (cy := cy) (I := J) (D := E) hM.1
  have hAM := AM_out (z := H.size) (fun k hk => (hM.2.2.1 k hk).1) hS.1
  have hsz := hS.1
  refine va_calli (va_runV (As := [.int (xs (nI j + 1).toNatClampNeg), .int (xs (nI j + 2).toNatClampNeg), .int (xs (nI j + 3).toNatClampNeg)]) (rest := []) ⟨hx, hb, hml, hown, hts⟩ (mt_X7_heat l dC dI L a b1 adm cy hM.1 H.size J E (xs (nI j + 1).toNatClampNeg) (xs (nI j + 2).toNatClampNeg) (xs (nI j + 3).toNatClampNeg) v J9 E9 hy) (cwV 3 hts gL_law_X7_heat rfl rfl rfl (by decide +kernel) ⟨Nat.le_of_ble_eq_true rfl, Nat.le_of_ble_eq_true rfl⟩) ⟨(wM.pre [.ref (adm 0), .int (xs (nI j + 1).toNatClampNeg), .int (xs (nI j + 2).toNatClampNeg), .int (xs (nI j + 3).toNatClampNeg)] hY.2.2.2 hKt ⟨hN, hI⟩).1, wM.recv (C := RX7) (T := TX7) (N := 9) hY.2.2.2 hKt hM0 rfl, (wM.pre [.ref (adm 0), .int (xs (nI j + 1).toNatClampNeg), .int (xs (nI j + 2).toNatClampNeg), .int (xs (nI j + 3).toNatClampNeg)] hY.2.2.2 hKt ⟨hN, hI⟩).2⟩ rfl rfl hl.1 rfl (lv_room (Nat.le_of_ble_eq_true rfl)) dL_law_460 ⟨by show cells + 1 + 0 ≤ 601024; omega, by show slots + 6 + 0 ≤ 7293034; omega⟩) hS (fun q _ h => hAM q h) hAM (fun r9 u t H1 locs ht hvm hw8 hB hz1 hk1 hS => ?_)
  subst hw8
  have hY := lh_M hY hM hk1 (by rw [← ht]; exact hB.1)
  clear hB hz1 hk1 hvm ht hAM hsz
  generalize H1 = H at hY hS ⊢
  refine lv_istore (lv' := [(7, .int v), (6, .int r0), (0, .ref b), (1, .ref (adh 0)), (2, .ref (adm 0)), (3, .ref o1), (4, .ref o2), (5, .int (nI j))]) hx hb dL_law_463 hl (by decide) rfl (fun ls hl => ?_)
  refine lv_aload_n hx hb dL_law_465 rfl (lv_at hl 4 rfl) ?_
  obtain ⟨q2, hq2, hM2⟩ := heM_0 (cy := cy) (I := J9) (D := E9) hM.1
  refine va_calli (va_runV (As := []) (rest := []) ⟨hx, hb, hml, hown, hts⟩ (mt_X7_thrown l dC dI L a b1 adm cy hM.1 H.size J9 E9 (J9 0 0) rfl) (cwV 0 hts gL_law_X7_thrown rfl rfl rfl (by decide +kernel) ⟨Nat.le_of_ble_eq_true rfl, Nat.le_of_ble_eq_true rfl⟩) ⟨(wM.pre [.ref (adm 0)] hY.2.2.2 hKt ⟨hN, hI⟩).1, wM.recv (C := RX7) (T := TX7) (N := 9) hY.2.2.2 hKt hM2 rfl, (wM.pre [.ref (adm 0)] hY.2.2.2 hKt ⟨hN, hI⟩).2⟩ rfl rfl hl.1 rfl (lv_room (Nat.le_of_ble_eq_true rfl)) dL_law_466 ⟨by show cells + 1 + 0 + 0 ≤ 601024; omega, by show slots + 6 + 0 + 0 ≤ 7293034; omega⟩) hS (fun q _ h => Nat.le_trans hS.1 h) (fun q h => Nat.le_trans hS.1 h) (fun r9 u t H1 locs ht hvm hw8 hB hz1 hk1 hS => ?_)
  subst hw8
  have hY := lh_new hY hk1
  clear hB hz1 hk1 hvm ht
  generalize H1 = H at hY hS ⊢
  refine lv_iload hx hb dL_law_469 (lv_at hl 1 rfl) ?_
  refine lv_icmp_eq (tgt := 476) hx hb dL_law_471 (by decide) (fun _ => ?_) (fun c9 => absurd hJ0 c9)
  refine lv_iload hx hb dL_law_476 (lv_at hl 1 rfl) ?_
  have fin : ∀ (ls : Array Slot), lv_has ls 9 [(7, .int v), (6, .int r0), (0, .ref b), (1, .ref (adh 0)), (2, .ref (adm 0)), (3, .ref o1), (4, .ref o2), (5, .int (nI j))] → W p l e room_1 s m #[Value.ref b] below meth c H locs (cells + 1 + 0 + 0) (slots + 6 + 0 + 0) Q (F0 m 500 ls []) := fun ls hl => lv_goto (tgt := 2072) hx hb dL_law_500 (by decide) (W.widen (k := cells + 207) (n := slots + 1642) (by omega) (by omega) (kk _ _ _ _ _ _ _ _ _ _ _ _ _ _ _ _ hM hY hS hR2 hh2 (lv_sub hl [2, 3, 4, 5, 6, 7] rfl)))
  refine lv_if_ne (tgt := 500) hx hb dL_law_478 (by decide) (fun _ => fin ls hl) (fun c2 => ?_)
  have hg1 := hg c2
  have hv1 := hvw c2
  refine lv_aload_n hx hb dL_law_481 rfl (lv_at hl 5 rfl) ?_
  refine lv_iconst (v := 0) hx hb dL_law_482 (by decide) ?_
  refine va_lald hx hb hK hY.2.1 0 8 rfl rfl vin0 dL_law_483 ?_
  refine lv_iload hx hb dL_law_484 (lv_at hl 0 rfl) ?_
  have hq9 : g1 (0 : Int32).toNatClampNeg = (if v = 0 then 0 else 1) := hg1.trans (by rw [hv1.1])
  rw [hq9]
  refine lv_if_eq (tgt := 493) hx hb dL_law_486 (by decide) (fun c8 => ?_) (fun c8 => ?_)
  · refine lv_lconst (v := 0) hx hb dL_law_493 (by decide) ?_
    refine W.lcmp hx hb dL_law_494 ?_
    rw [if_pos c8]
    exact lv_if_eq (tgt := 500) hx hb dL_law_495 (by decide) (fun _ => fin ls hl) (fun c9 => absurd (lcmp_self _) c9)
  · refine lv_lconst (v := 1) hx hb dL_law_489 (by decide) ?_
    refine lv_goto (tgt := 494) hx hb dL_law_490 (by decide) ?_
    refine W.lcmp hx hb dL_law_494 ?_
    rw [if_neg c8]
    exact lv_if_eq (tgt := 500) hx hb dL_law_495 (by decide) (fun _ => fin ls hl) (fun c9 => absurd (lcmp_self _) c9)

set_option maxHeartbeats 8000000 in
set_option maxRecDepth 100000 in
theorem lc_run {p : Program} {l : Launch} {e : Env} {s : State} {m : MethodId} {below : List Frame} {meth : Method} {c : Code} {b Lx : Nat} {xs : Nat → Int32} (hl0 : l.stackTraces = false) (hL : Lx ≤ 3072) (C0 : lw_At p s m meth c b Lx xs) {dC : Nat → ClassId} {dI : Nat → Nat → Nat} {cy : Nat → ClassId} {cL : ClassId} {sa : Nat → Nat} {t0 : Nat} {adh : Nat → Nat} {o1 o2 : Nat} (hK0 : LK dC dI cy cL sa t0 s) (hG : LG adh o1 o2 s.heap.size) {L : List Nat} {a b1 : Nat} {adm : Nat → Nat} (hM : LM adh o1 o2 t0 s.heap.size L a b1 adm) {I : MI} {D : MD} {J : MI} {E : MD} {f1 : Nat → Int64} {f2 : Nat → UInt64} {H : Heap} {locs : List Loc} (hY : LH dC dI cy cL adh o1 o2 L a b1 adm I D J E f1 f2 H) (hS : va_S (fun q => s.heap.size ≤ q) s.heap H locs) {c1 d1 h1 : Nat} (hR : RR 0 a b1 c1 d1 h1 I D J E) (hh : h1 + 48 < 2 ^ 20) {cells slots : Nat} (hc : cells + 207 ≤ 601024) (hs : slots + 1642 ≤ 7293034) {j : Nat} (hj : j + 6 ≤ Lx) {ls : Array Slot} (hl : lv_has ls 9 [(0, .ref b), (1, .ref (adh 0)), (2, .ref (adm 0)), (3, .ref o1), (4, .ref o2), (5, .int (nI j))]) {Q : State → Prop} (kk : ∀ (L' : List Nat) (a' b' : Nat) (adm' : Nat → Nat) (I' : MI) (D' : MD) (J' : MI) (E' : MD) (f1' : Nat → Int64) (f2' : Nat → UInt64) (H' : Heap) (locs' : List Loc) (c' d' h' : Nat) (ls' : Array Slot), LM adh o1 o2 t0 s.heap.size L' a' b' adm' → LH dC dI cy cL adh o1 o2 L' a' b' adm' I' D' J' E' f1' f2' H' → va_S (fun q => s.heap.size ≤ q) s.heap H' locs' → RR 0 a' b' c' d' h' I' D' J' E' → h' ≤ h1 + 48 → lv_has ls' 9 [(0, .ref b), (1, .ref (adh 0)), (2, .ref (adm' 0)), (3, .ref o1), (4, .ref o2), (5, .int (nI j))] → W p l e room_1 s m #[Value.ref b] below meth c H' locs' (cells + 207) (slots + 1642) Q (F0 m 2072 ls' [])) : W p l e room_1 s m #[Value.ref b] below meth c H locs cells slots Q (F0 m 503 ls []) := by
  obtain ⟨hx, hb, hr, hml, hown0, hts0, hX, hbl, hlocks, -⟩ := C0
  have hown : s.vm.findClass RL = some m.cls := hown0
  have hts : ∀ w ∈ wsL_law, w.before #[Value.ref b] s = true := fun w h => hts0 w (wsL_law_in w h)
  obtain ⟨hK, hN, hI, hca, hcb, hao, hZ, hT, hzs, hts9⟩ := hK0
  have hKt : va_K (dC, dI) vwCl (tysA cy) s := hK.sub [0, 1, 2, 3, 4, 5, 6, 7] rfl
  have hbA : ¬ (fun q : Nat => s.heap.size ≤ q) b := Nat.not_le.mpr hbl
  have hi1 : vp_in (nI j + 1) Lx := vin_k hj hL 1 (by decide)
  have hi2 : vp_in (nI j + 2) Lx := vin_k hj hL 2 (by decide)
  have hi3 : vp_in (nI j + 3) Lx := vin_k hj hL 3 (by decide)
  have hi4 : vp_in (nI j + 4) Lx := vin_k hj hL 4 (by decide)
  obtain ⟨v, J9, E9, r0, w, I9, D9, hy, hJ0, hw, hvw, c2, d2, h2, hh2, hR2⟩ := agW_law (a_run hR (xs (nI j + 1).toNatClampNeg) (xs (nI j + 2).toNatClampNeg) (xs (nI j + 3).toNatClampNeg) (xs (nI j + 4).toNatClampNeg)) (by decide)
  refine lv_aload_n hx hb dL_law_503 rfl (lv_at hl 1 rfl) ?_
  refine lv_aload_n hx hb dL_law_504 rfl (lv_at hl 0 rfl) ?_
  refine lv_iload hx hb dL_law_505 (lv_at hl 5 rfl) ?_
  refine lv_iconst (v := 1) hx hb dL_law_507 (by decide) ?_
  refine lv_iadd hx hb dL_law_508 ?_
  refine va_sld hx hb hX hbl hbA hS hi1 dL_law_509 ?_
  refine lv_aload_n hx hb dL_law_510 rfl (lv_at hl 0 rfl) ?_
  refine lv_iload hx hb dL_law_511 (lv_at hl 5 rfl) ?_
  refine lv_iconst (v := 2) hx hb dL_law_513 (by decide) ?_
  refine lv_iadd hx hb dL_law_514 ?_
  refine va_sld hx hb hX hbl hbA hS hi2 dL_law_515 ?_
  refine lv_aload_n hx hb dL_law_516 rfl (lv_at hl 0 rfl) ?_
  refine lv_iload hx hb dL_law_517 (lv_at hl 5 rfl) ?_
  refine lv_iconst (v := 3) hx hb dL_law_519 (by decide) ?_
  refine lv_iadd hx hb dL_law_520 ?_
  refine va_sld hx hb hX hbl hbA hS hi3 dL_law_521 ?_
  refine lv_aload_n hx hb dL_law_522 rfl (lv_at hl 0 rfl) ?_
  refine lv_iload hx hb dL_law_523 (lv_at hl 5 rfl) ?_
  refine lv_iconst (v := 4) hx hb dL_law_525 (by decide) ?_
  refine lv_iadd hx hb dL_law_526 ?_
  refine va_sld hx hb hX hbl hbA hS hi4 dL_law_527 ?_
  refine lv_aload_n hx hb dL_law_528 rfl (lv_at hl 3 rfl) ?_
  have hAO := AO_out (z := H.size) hG.2.2.2.2.2.1 hG.2.2.2.2.1 hS.1
  refine vx_calli (vx_runSX (As := [.ref (adh 0), .int (xs (nI j + 1).toNatClampNeg), .int (xs (nI j + 2).toNatClampNeg), .int (xs (nI j + 3).toNatClampNeg), .int (xs (nI j + 4).toNatClampNeg), .ref o1]) (rest := []) ⟨hx, hb, hml, hown, hts⟩ (wL_run l hl0 dC dI adh cy cL hG.1 sa o1 hG.2.1 H.size I D f1 (xs (nI j + 1).toNatClampNeg) (xs (nI j + 2).toNatClampNeg) (xs (nI j + 3).toNatClampNeg) (xs (nI j + 4).toNatClampNeg) r0 w I9 D9 hw) (vx_cwSW 6 hts gL_law_L_run rfl rfl rfl (by decide +kernel) ⟨Nat.le_of_ble_eq_true rfl, Nat.le_of_ble_eq_true rfl⟩) (hO.preX [.ref (adh 0), .int (xs (nI j + 1).toNatClampNeg), .int (xs (nI j + 2).toNatClampNeg), .int (xs (nI j + 3).toNatClampNeg), .int (xs (nI j + 4).toNatClampNeg), .ref o1] (va_Pcons hY.2.1 hY.1) hK hN (xS_kept (B := AO o1 adh H.size) hZ hS hAO) hT) rfl rfl hl.1 rfl (lv_room (Nat.le_of_ble_eq_true rfl)) dL_law_529 ⟨by show cells + 1 ≤ 601024; omega, by show slots + 6 ≤ 7293034; omega⟩) hS (fun q _ h => hAO q h) hAO (fun q _ h => hAO q h) (fun E9 ce q9 u t H1 locs1 ht9 hvm hpu hBX hz1 hk1 hS h1 h2 h3 => hpu.elim) (fun r9 g1 t H1 locs ht9 hvm hw9 hB hz1 hk1 hS => ?_)
  rw [hw9.1]
  have hg := hw9.2
  have hY := lh_1 hY hG hM hk1 (by rw [← ht9]; exact hB)
  clear hw9 hB hz1 hk1 hvm ht9 hAO
  generalize H1 = H at hY hS ⊢
  refine lv_istore (lv' := [(6, .int r0), (0, .ref b), (1, .ref (adh 0)), (2, .ref (adm 0)), (3, .ref o1), (4, .ref o2), (5, .int (nI j))]) hx hb dL_law_532 hl (by decide) rfl (fun ls hl => ?_)
  refine lv_aload_n hx hb dL_law_534 rfl (lv_at hl 3 rfl) ?_
  refine lv_aload_n hx hb dL_law_535 rfl (lv_at hl 1 rfl) ?_
  refine lv_iload hx hb dL_law_536 (lv_at hl 6 rfl) ?_
  refine lv_iconst (v := 1) hx hb dL_law_538 (by decide) ?_
  refine lv_iadd hx hb dL_law_539 ?_
  refine va_sld hx hb hX hbl hbA hS hi1 dL_law_540 ?_
  refine lv_aload_n hx hb dL_law_541 rfl (lv_at hl 1 rfl) ?_
  refine lv_iload hx hb dL_law_542 (lv_at hl 6 rfl) ?_
  refine lv_iconst (v := 2) hx hb dL_law_544 (by decide) ?_
  refine lv_iadd hx hb dL_law_545 ?_
  refine va_sld hx hb hX hbl hbA hS hi2 dL_law_546 ?_
  refine lv_aload_n hx hb dL_law_547 rfl (lv_at hl 1 rfl) ?_
  refine lv_iload hx hb dL_law_548 (lv_at hl 6 rfl) ?_
  refine lv_iconst (v := 3) hx hb dL_law_550 (by decide) ?_
  refine lv_iadd hx hb dL_law_551 ?_
  refine va_sld hx hb hX hbl hbA hS hi3 dL_law_552 ?_
  refine lv_aload_n hx hb dL_law_553 rfl (lv_at hl 1 rfl) ?_
  refine lv_iload hx hb dL_law_554 (lv_at hl 6 rfl) ?_
  refine lv_iconst (v := 4) hx hb dL_law_556 (by decide) ?_
  refine lv_iadd hx hb dL_law_557 ?_
  refine va_sld hx hb hX hbl hbA hS hi4 dL_law_558 ?_
  obtain ⟨q0, hq0, hM0⟩ := heM_0 (cy := cy) (I := J) (D := E) hM.1
  have hAM := AM_out (z := H.size) (fun k hk => (hM.2.2.1 k hk).1) hS.1
  have hsz := hS.1
  refine va_calli (va_runV (As := [.int (xs (nI j + 1).toNatClampNeg), .int (xs (nI j + 2).toNatClampNeg), .int (xs (nI j + 3).toNatClampNeg), .int (xs (nI j + 4).toNatClampNeg)]) (rest := []) ⟨hx, hb, hml, hown, hts⟩ (mt_X7_run l dC dI L a b1 adm cy hM.1 H.size J E (xs (nI j + 1).toNatClampNeg) (xs (nI j + 2).toNatClampNeg) (xs (nI j + 3).toNatClampNeg) (xs (nI j + 4).toNatClampNeg) v J9 E9 hy) (cwV 4 hts gL_law_X7_run rfl rfl rfl (by decide +kernel) ⟨Nat.le_of_ble_eq_true rfl, Nat.le_of_ble_eq_true rfl⟩) ⟨(wM.pre [.ref (adm 0), .int (xs (nI j + 1).toNatClampNeg), .int (xs (nI j + 2).toNatClampNeg), .int (xs (nI j + 3).toNatClampNeg), .int (xs (nI j + 4).toNatClampNeg)] hY.2.2.2 hKt ⟨hN, hI⟩).1, wM.recv (C := RX7) (T := TX7) (N := 9) hY.2.2.2 hKt hM0 rfl, (wM.pre [.ref (adm 0), .int (xs (nI j + 1).toNatClampNeg), .int (xs (nI j + 2).toNatClampNeg), .int (xs (nI j + 3).toNatClampNeg), .int (xs (nI j + 4).toNatClampNeg)] hY.2.2.2 hKt ⟨hN, hI⟩).2⟩ rfl rfl hl.1 rfl (lv_room (Nat.le_of_ble_eq_true rfl)) dL_law_559 ⟨by show cells + 1 + 0 ≤ 601024; omega, by show slots + 6 + 0 ≤ 7293034; omega⟩) hS (fun q _ h => hAM q h) hAM (fun r9 u t H1 locs ht hvm hw8 hB hz1 hk1 hS => ?_)
  subst hw8
  have hY := lh_M hY hM hk1 (by rw [← ht]; exact hB.1)
  clear hB hz1 hk1 hvm ht hAM hsz
  generalize H1 = H at hY hS ⊢
  refine lv_istore (lv' := [(7, .int v), (6, .int r0), (0, .ref b), (1, .ref (adh 0)), (2, .ref (adm 0)), (3, .ref o1), (4, .ref o2), (5, .int (nI j))]) hx hb dL_law_562 hl (by decide) rfl (fun ls hl => ?_)
  refine lv_aload_n hx hb dL_law_564 rfl (lv_at hl 4 rfl) ?_
  obtain ⟨q2, hq2, hM2⟩ := heM_0 (cy := cy) (I := J9) (D := E9) hM.1
  refine va_calli (va_runV (As := []) (rest := []) ⟨hx, hb, hml, hown, hts⟩ (mt_X7_thrown l dC dI L a b1 adm cy hM.1 H.size J9 E9 (J9 0 0) rfl) (cwV 0 hts gL_law_X7_thrown rfl rfl rfl (by decide +kernel) ⟨Nat.le_of_ble_eq_true rfl, Nat.le_of_ble_eq_true rfl⟩) ⟨(wM.pre [.ref (adm 0)] hY.2.2.2 hKt ⟨hN, hI⟩).1, wM.recv (C := RX7) (T := TX7) (N := 9) hY.2.2.2 hKt hM2 rfl, (wM.pre [.ref (adm 0)] hY.2.2.2 hKt ⟨hN, hI⟩).2⟩ rfl rfl hl.1 rfl (lv_room (Nat.le_of_ble_eq_true rfl)) dL_law_565 ⟨by show cells + 1 + 0 + 0 ≤ 601024; omega, by show slots + 6 + 0 + 0 ≤ 7293034; omega⟩) hS (fun q _ h => Nat.le_trans hS.1 h) (fun q h => Nat.le_trans hS.1 h) (fun r9 u t H1 locs ht hvm hw8 hB hz1 hk1 hS => ?_)
  subst hw8
  have hY := lh_new hY hk1
  clear hB hz1 hk1 hvm ht
  generalize H1 = H at hY hS ⊢
  refine lv_iload hx hb dL_law_568 (lv_at hl 1 rfl) ?_
  refine lv_icmp_eq (tgt := 575) hx hb dL_law_570 (by decide) (fun _ => ?_) (fun c9 => absurd hJ0 c9)
  refine lv_iload hx hb dL_law_575 (lv_at hl 1 rfl) ?_
  have fin : ∀ (ls : Array Slot), lv_has ls 9 [(7, .int v), (6, .int r0), (0, .ref b), (1, .ref (adh 0)), (2, .ref (adm 0)), (3, .ref o1), (4, .ref o2), (5, .int (nI j))] → W p l e room_1 s m #[Value.ref b] below meth c H locs (cells + 1 + 0 + 0) (slots + 6 + 0 + 0) Q (F0 m 592 ls []) := fun ls hl => lv_goto (tgt := 2072) hx hb dL_law_592 (by decide) (W.widen (k := cells + 207) (n := slots + 1642) (by omega) (by omega) (kk _ _ _ _ _ _ _ _ _ _ _ _ _ _ _ _ hM hY hS hR2 hh2 (lv_sub hl [2, 3, 4, 5, 6, 7] rfl)))
  refine lv_if_ne (tgt := 592) hx hb dL_law_577 (by decide) (fun _ => fin ls hl) (fun c2 => ?_)
  have hg1 := hg c2
  have hv1 := hvw c2
  refine lv_aload_n hx hb dL_law_580 rfl (lv_at hl 5 rfl) ?_
  refine lv_iconst (v := 0) hx hb dL_law_581 (by decide) ?_
  refine va_lald hx hb hK hY.2.1 0 8 rfl rfl vin0 dL_law_582 ?_
  refine lv_iload hx hb dL_law_583 (lv_at hl 0 rfl) ?_
  refine lv_i2l hx hb dL_law_585 rfl ?_
  refine W.lcmp hx hb dL_law_586 ?_
  have hq9 : g1 (0 : Int32).toNatClampNeg = v.toInt64 := hg1.trans (congrArg Int32.toInt64 hv1.1)
  rw [hq9]
  exact lv_if_eq (tgt := 592) hx hb dL_law_587 (by decide) (fun _ => fin ls hl) (fun c9 => absurd (lcmp_self _) c9)
