set_option maxHeartbeats 8000000 in
set_option maxRecDepth 100000 in
theorem law_loop {p : Program} {l : Launch} {e : Env} {s : State} {m : MethodId} {below : List Frame} {meth : Method} {c : Code} {b Lx : Nat} {xs : Nat → Int32} (hl0 : l.stackTraces = false) (hL : Lx ≤ 3072) (C0 : lw_At p s m meth c b Lx xs) {dC : Nat → ClassId} {dI : Nat → Nat → Nat} {cy : Nat → ClassId} {cL : ClassId} {sa : Nat → Nat} {t0 : Nat} {adh : Nat → Nat} {o1 o2 : Nat} (hK0 : LK dC dI cy cL sa t0 s) (hG : LG adh o1 o2 s.heap.size) :
    ∀ (n k : Nat), Lx + 1 ≤ 6 * k + 6 * n → 6 * k ≤ Lx → ∀ (L : List Nat) (a b1 : Nat) (adm : Nat → Nat) (I : MI) (D : MD) (J : MI) (E : MD) (f1 : Nat → Int64) (f2 : Nat → UInt64) (H : Heap) (locs : List Loc) (c1 d1 h1 : Nat) (ls : Array Slot), LM adh o1 o2 t0 s.heap.size L a b1 adm → LH dC dI cy cL adh o1 o2 L a b1 adm I D J E f1 f2 H → va_S (fun q => s.heap.size ≤ q) s.heap H locs → RR 0 a b1 c1 d1 h1 I D J E → h1 ≤ 48 * k → lv_has ls 9 [(0, .ref b), (1, .ref (adh 0)), (2, .ref (adm 0)), (3, .ref o1), (4, .ref o2), (5, .int (nI (6 * k)))] → W p l e room_1 s m #[Value.ref b] below meth c H locs (100 + 207 * k) (1000 + 1642 * k) (lw_Z below #[Value.ref b] s) (F0 m 28 ls []) := by
  obtain ⟨hx, hb, hr, hml, hown, hts, hX, hbl, hlocks, hgv⟩ := id C0
  have hbA : ¬ (fun q : Nat => s.heap.size ≤ q) b := Nat.not_le.mpr hbl
  intro n
  induction n with
  | zero =>
    intro k h1 h2
    exact absurd h1 (by omega)
  | succ n ih =>
    intro k hk1 hk2 L a b1 adm I D J E f1 f2 H locs c1 d1 h1 ls hM hY hS hR hh hl
    refine lv_iload hx hb dL_law_28 (lv_at hl 5 rfl) ?_
    refine lv_aload_n hx hb dL_law_30 rfl (lv_at hl 0 rfl) ?_
    refine va_slen hx hb hX hbl hbA hS dL_law_31 ?_
    refine lv_bipush (v := 6) hx hb dL_law_32 (by decide) ?_
    refine lv_isub hx hb dL_law_34 ?_
    refine lv_icmp_gt (tgt := 2078) hx hb dL_law_35 (by decide) (fun c_9 => ?_) (fun c_9 => ?_)
    · refine lv_iconst (v := 1) hx hb dL_law_2078 (by decide) ?_
      refine va_forget (fun q hq => hS.2.2 q hq) ?_
      refine W.widen (k := 601024) (n := 7293034) (by omega) (by omega) ?_
      refine W.base ?_
      exact lw_ret (Drawn.sameBut.refl s.drawn lw_cs) hx hb hr hlocks dL_law_2079
    · have hj : 6 * k + 6 ≤ Lx := by
        rcases Nat.lt_or_ge Lx (6 * k + 6) with q | q
        · refine absurd ?_ c_9
          have e6 : (6 : Int32).toInt = 6 := rfl
          have e7 : (Int32.ofNat Lx - 6).toInt = (Lx : Int) - 6 := by
            have eL : (Int32.ofNat Lx).toInt = (Lx : Int) := nI_toInt (n := Lx) (by omega)
            rw [is_ (by rw [eL, e6]; omega) (by rw [eL, e6]; omega), eL, e6]
          rw [ltI, e7, nI_toInt (by omega)]
          omega
        · exact q
      have hi0 : vp_in (nI (6 * k)) Lx := vp_in_nI (by omega) (by omega)
      refine lv_aload_n hx hb dL_law_38 rfl (lv_at hl 0 rfl) ?_
      refine lv_iload hx hb dL_law_39 (lv_at hl 5 rfl) ?_
      refine va_sld hx hb hX hbl hbA hS hi0 dL_law_41 ?_
      refine lv_bipush (v := 31) hx hb dL_law_42 (by decide) ?_
      refine lv_iand hx hb dL_law_44 ?_
      have back : ∀ (L' : List Nat) (a' b' : Nat) (adm' : Nat → Nat) (I' : MI) (D' : MD) (J' : MI) (E' : MD) (f1' : Nat → Int64) (f2' : Nat → UInt64) (H' : Heap) (locs' : List Loc) (c' d' h' : Nat) (ls' : Array Slot), LM adh o1 o2 t0 s.heap.size L' a' b' adm' → LH dC dI cy cL adh o1 o2 L' a' b' adm' I' D' J' E' f1' f2' H' → va_S (fun q => s.heap.size ≤ q) s.heap H' locs' → RR 0 a' b' c' d' h' I' D' J' E' → h' ≤ h1 + 48 → lv_has ls' 9 [(0, .ref b), (1, .ref (adh 0)), (2, .ref (adm' 0)), (3, .ref o1), (4, .ref o2), (5, .int (nI (6 * k)))] → W p l e room_1 s m #[Value.ref b] below meth c H' locs' (100 + 207 * k + 207) (1000 + 1642 * k + 1642) (lw_Z below #[Value.ref b] s) (F0 m 2072 ls' []) := by
        intro L' a' b' adm' I' D' J' E' f1' f2' H' locs' c' d' h' ls' hM' hY' hS' hR' hh' hl'
        refine lv_iinc (v := nI (6 * (k + 1))) (lv' := [(5, .int (nI (6 * (k + 1)))), (0, .ref b), (1, .ref (adh 0)), (2, .ref (adm' 0)), (3, .ref o1), (4, .ref o2)]) hx hb dL_law_2072 hl' (k := 5) rfl (nI_add (6 * k) 6) (by decide) rfl (fun ls hl => ?_)
        refine lv_goto (tgt := 28) hx hb dL_law_2075 (by decide) ?_
        have hw := ih (k + 1) (by omega) (by omega) L' a' b' adm' I' D' J' E' f1' f2' H' locs' c' d' h' ls hM' hY' hS' hR' (by omega) (lv_sub hl [1, 2, 3, 4, 5, 0] rfl)
        rw [show 100 + 207 * (k + 1) = 100 + 207 * k + 207 by omega, show 1000 + 1642 * (k + 1) = 1000 + 1642 * k + 1642 by omega] at hw
        exact hw
      have hc : 100 + 207 * k + 207 ≤ 601024 := by omega
      have hs : 1000 + 1642 * k + 1642 ≤ 7293034 := by omega
      have hh9 : h1 + 48 < 2 ^ 20 := by omega
      generalize (xs (nI (6 * k)).toNatClampNeg &&& 31) = y
      by_cases e0 : y = 0
      · subst e0
        exact lv_tableIn (tgt := 164) hx hb dL_law_45 (by decide) (by decide) rfl (by decide) (lc_ingredient hl0 hL C0 hK0 hG hM hY hS hR hh9 hc hs hj hl back)
      by_cases e1 : y = 1
      · subst e1
        exact lv_tableIn (tgt := 268) hx hb dL_law_45 (by decide) (by decide) rfl (by decide) (lc_mix hl0 hL C0 hK0 hG hM hY hS hR hh9 hc hs hj hl back)
      by_cases e2 : y = 2
      · subst e2
        exact lv_tableIn (tgt := 336) hx hb dL_law_45 (by decide) (by decide) rfl (by decide) (lc_put hl0 hL C0 hK0 hG hM hY hS hR hh9 hc hs hj hl back)
      by_cases e3 : y = 3
      · subst e3
        exact lv_tableIn (tgt := 416) hx hb dL_law_45 (by decide) (by decide) rfl (by decide) (lc_heat hl0 hL C0 hK0 hG hM hY hS hR hh9 hc hs hj hl back)
      by_cases e4 : y = 4
      · subst e4
        exact lv_tableIn (tgt := 503) hx hb dL_law_45 (by decide) (by decide) rfl (by decide) (lc_run hl0 hL C0 hK0 hG hM hY hS hR hh9 hc hs hj hl back)
      by_cases e5 : y = 5
      · subst e5
        exact lv_tableIn (tgt := 595) hx hb dL_law_45 (by decide) (by decide) rfl (by decide) (lc_wash hl0 hL C0 hK0 hG hM hY hS hR hh9 hc hs hj hl back)
      by_cases e6 : y = 6
      · subst e6
        exact lv_tableIn (tgt := 651) hx hb dL_law_45 (by decide) (by decide) rfl (by decide) (lc_harden hl0 hL C0 hK0 hG hM hY hS hR hh9 hc hs hj hl back)
      by_cases e7 : y = 7
      · subst e7
        exact lv_tableIn (tgt := 740) hx hb dL_law_45 (by decide) (by decide) rfl (by decide) (lc_store hl0 hL C0 hK0 hG hM hY hS hR hh9 hc hs hj hl back)
      by_cases e8 : y = 8
      · subst e8
        exact lv_tableIn (tgt := 796) hx hb dL_law_45 (by decide) (by decide) rfl (by decide) (lc_set hl0 hL C0 hK0 hG hM hY hS hR hh9 hc hs hj hl back)
      by_cases e9 : y = 9
      · subst e9
        exact lv_tableIn (tgt := 864) hx hb dL_law_45 (by decide) (by decide) rfl (by decide) (lc_lay hl0 hL C0 hK0 hG hM hY hS hR hh9 hc hs hj hl back)
      by_cases e10 : y = 10
      · subst e10
        exact lv_tableIn (tgt := 932) hx hb dL_law_45 (by decide) (by decide) rfl (by decide) (lc_door hl0 hL C0 hK0 hG hM hY hS hR hh9 hc hs hj hl back)
      by_cases e11 : y = 11
      · subst e11
        exact lv_tableIn (tgt := 1021) hx hb dL_law_45 (by decide) (by decide) rfl (by decide) (lc_pass hl0 hL C0 hK0 hG hM hY hS hR hh9 hc hs hj hl back)
      by_cases e12 : y = 12
      · subst e12
        exact lv_tableIn (tgt := 1077) hx hb dL_law_45 (by decide) (by decide) rfl (by decide) (lc_sell hl0 hL C0 hK0 hG hM hY hS hR hh9 hc hs hj hl back)
      by_cases e13 : y = 13
      · subst e13
        exact lv_tableIn (tgt := 1145) hx hb dL_law_45 (by decide) (by decide) rfl (by decide) (lc_call hl0 hL C0 hK0 hG hM hY hS hR hh9 hc hs hj hl back)
      by_cases e14 : y = 14
      · subst e14
        exact lv_tableIn (tgt := 1201) hx hb dL_law_45 (by decide) (by decide) rfl (by decide) (lc_ofMix hl0 hL C0 hK0 hG hM hY hS hR hh9 hc hs hj hl back)
      by_cases e15 : y = 15
      · subst e15
        exact lv_tableIn (tgt := 1269) hx hb dL_law_45 (by decide) (by decide) rfl (by decide) (lc_part hl0 hL C0 hK0 hG hM hY hS hR hh9 hc hs hj hl back)
      by_cases e16 : y = 16
      · subst e16
        exact lv_tableIn (tgt := 1358) hx hb dL_law_45 (by decide) (by decide) rfl (by decide) (lc_ice hl0 hL C0 hK0 hG hM hY hS hR hh9 hc hs hj hl back)
      by_cases e17 : y = 17
      · subst e17
        exact lv_tableIn (tgt := 1447) hx hb dL_law_45 (by decide) (by decide) rfl (by decide) (lc_bars hl0 hL C0 hK0 hG hM hY hS hR hh9 hc hs hj hl back)
      by_cases e18 : y = 18
      · subst e18
        exact lv_tableIn (tgt := 1539) hx hb dL_law_45 (by decide) (by decide) rfl (by decide) (lc_ofBatch hl0 hL C0 hK0 hG hM hY hS hR hh9 hc hs hj hl back)
      by_cases e19 : y = 19
      · subst e19
        exact lv_tableIn (tgt := 1607) hx hb dL_law_45 (by decide) (by decide) rfl (by decide) (lc_crystal hl0 hL C0 hK0 hG hM hY hS hR hh9 hc hs hj hl back)
      by_cases e20 : y = 20
      · subst e20
        exact lv_tableIn (tgt := 1684) hx hb dL_law_45 (by decide) (by decide) rfl (by decide) (lc_temp hl0 hL C0 hK0 hG hM hY hS hR hh9 hc hs hj hl back)
      by_cases e21 : y = 21
      · subst e21
        exact lv_tableIn (tgt := 1761) hx hb dL_law_45 (by decide) (by decide) rfl (by decide) (lc_many hl0 hL C0 hK0 hG hM hY hS hR hh9 hc hs hj hl back)
      by_cases e22 : y = 22
      · subst e22
        exact lv_tableIn (tgt := 1817) hx hb dL_law_45 (by decide) (by decide) rfl (by decide) (lc_day hl0 hL C0 hK0 hG hM hY hS hR hh9 hc hs hj hl back)
      by_cases e23 : y = 23
      · subst e23
        exact lv_tableIn (tgt := 1901) hx hb dL_law_45 (by decide) (by decide) rfl (by decide) (lc_wouldBe hl0 hL C0 hK0 hG hM hY hS hR hh9 hc hs hj hl back)
      by_cases e24 : y = 24
      · subst e24
        exact lv_tableIn (tgt := 1990) hx hb dL_law_45 (by decide) (by decide) rfl (by decide) (lc_wouldSpoil hl0 hL C0 hK0 hG hM hY hS hR hh9 hc hs hj hl back)
      by_cases e25 : y = 25
      · subst e25
        exact lv_tableIn (tgt := 2058) hx hb dL_law_45 (by decide) (by decide) rfl (by decide) (lc_digest hl0 hL C0 hK0 hG hM hY hS hR hh9 hc hs hj hl back)
      refine lv_tableOut (tgt := 2072) hx hb dL_law_45 (sw_out26 e0 e1 e2 e3 e4 e5 e6 e7 e8 e9 e10 e11 e12 e13 e14 e15 e16 e17 e18 e19 e20 e21 e22 e23 e24 e25) (by decide) ?_
      exact W.widen (k := 100 + 207 * k + 207) (n := 1000 + 1642 * k + 1642) (by omega) (by omega) (back _ _ _ _ _ _ _ _ _ _ _ _ _ _ _ _ hM hY hS hR (by omega) hl)
