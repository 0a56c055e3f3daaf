def f_L_below (p0 : Int32) (p1 : Int32) : Option (Int32) :=
  ck (nzB p1) (some ((p0 &&& (2147483647 : Int32)) - (p0 &&& (2147483647 : Int32)) / p1 * p1))
set_option maxHeartbeats 4000000 in
set_option maxRecDepth 100000 in
theorem mt_L_below (l : Launch) (sz : Nat) (p0 : Int32) (p1 : Int32) (rr : Int32) (hf : f_L_below p0 p1 = some rr) : Met l yL_below wsL_below ({ frames := 0, cells := 0, slots := 0, locals := 0 }) (va_Pc [.int p0, .int p1] (fun U => U.heap.size = sz)) (va_Qi (fun r (_ : Unit) => rr = r) (fun _ _ => True) (fun q => sz ≤ q)) 0 0 (fun q => sz ≤ q) := by
  refine Met.ofW (cc := cL_below) (maxL := 2) (ret := (some .int)) (by decide) rfl ?_
  intro p e s m args below meth cX s₁ B hml hv
  obtain ⟨rfl, hsz⟩ := hv
  have hx := B.exec
  have hb := B.bytes
  have hr := B.returns
  have hts := atoms_spec (ws := wsL_below) B.pre
  have hown : s.vm.findClass RL = some m.cls := findClass_of_methodNamed B.named
  have hlocks := B.notSynchronized
  subst hsz
  generalize hAe : (fun q : Nat => s.heap.size ≤ q) = A
  have hA : ∀ q : Nat, s.heap.size ≤ q → A q := fun q h => by rw [← hAe]; exact h
  obtain ⟨H, hH⟩ : ∃ H : Heap, H = s.heap := ⟨_, rfl⟩
  have hS : va_S A s.heap H [] := by rw [hH]; exact va_S.rf
  suffices hgo : ∀ locs, va_S A s.heap H locs → W p l e (headSpec wsL_below ({ frames := 0, cells := 0, slots := 0, locals := 0 })).room s m ([.int p0, .int p1] : List Value).toArray below meth cX H locs 0 0 (MQ below (va_Qi (fun r (_ : Unit) => rr = r) (fun _ _ => True) A) ([.int p0, .int p1] : List Value).toArray s 0 0 A) (entryFrame m ([.int p0, .int p1] : List Value).toArray 2) by subst hH; exact hgo [] hS
  clear hS hH
  intro locs hS
  have hl := lv_entry ([.int p0, .int p1]) (n := 2) (Nat.le_of_ble_eq_true rfl)
  rw [lg_entry_eq]
  generalize (lg_sl ([.int p0, .int p1]) ++ List.replicate (2 - (lg_sl ([.int p0, .int p1])).length) Slot.unset).toArray = ls at hl ⊢
  have hl : lv_has ls 2 [(0, .int p0), (1, .int p1)] := hl
  unfold f_L_below at hf
  refine lv_iload_n hx hb dL_below_0 rfl (lv_at hl 0 rfl) ?_
  refine lv_ldc (v := 2147483647) hx hb hown (hts (.constant RL 7 (2147483647)) (List.mem_cons_of_mem _ (List.mem_of_getElem? (i := 0) rfl))) dL_below_1 ?_
  refine lv_iand hx hb dL_below_3 ?_
  refine lv_iload_n hx hb dL_below_4 rfl (lv_at hl 1 rfl) ?_
  obtain ⟨h_1, hf⟩ := ck_out hf
  refine lv_irem hx hb dL_below_5 (nzB_nz h_1) ?_
  have hf := Option.some.inj hf
  have q1 := hf
  exact W.iret (v := ((p0 &&& (2147483647 : Int32)) - (p0 &&& (2147483647 : Int32)) / p1 * p1)) hx hb hr (fun t ht hW9 => ⟨⟨((p0 &&& (2147483647 : Int32)) - (p0 &&& (2147483647 : Int32)) / p1 * p1), (), rfl, q1.symm, trivial⟩, hS.F ht⟩) hS.2.2 dL_below_6

def f_L_cell (LS : Nat) (xs : Nat → Int32) (p1 : Int32) : Option (Int32) :=
  (if (nI LS) ≤ p1 then some ((790386105 : Int32) * (p1 + 3)) else ck (inB p1 LS) (some (xs (p1).toNatClampNeg)))
set_option maxHeartbeats 4000000 in
set_option maxRecDepth 100000 in
theorem mt_L_cell (l : Launch) (bS LS : Nat) (xs : Nat → Int32) (sz : Nat) (p1 : Int32) (rr : Int32) (hf : f_L_cell LS xs p1 = some rr) : Met l yL_cell wsL_cell ({ frames := 0, cells := 0, slots := 0, locals := 0 }) (va_Pc [.ref bS, .int p1] (fun U => U.heap.size = sz ∧ va_X bS LS xs U U.heap)) (va_Qi (fun r (_ : Unit) => rr = r) (fun _ _ => True) (fun q => sz ≤ q)) 0 0 (fun q => sz ≤ q) := by
  refine Met.ofW (cc := cL_cell) (maxL := 2) (ret := (some .int)) (by decide) rfl ?_
  intro p e s m args below meth cX s₁ B hml hv
  obtain ⟨rfl, hsz, hX0⟩ := hv
  have hx := B.exec
  have hb := B.bytes
  have hr := B.returns
  have hts := atoms_spec (ws := wsL_cell) B.pre
  have hown : s.vm.findClass RL = some m.cls := findClass_of_methodNamed B.named
  have hlocks := B.notSynchronized
  subst hsz
  have hbl : bS < s.heap.size := by obtain ⟨scr, h, -⟩ := hX0; exact (Array.getElem?_eq_some_iff.mp h).1
  generalize hAe : (fun q : Nat => s.heap.size ≤ q) = A
  have hA : ∀ q : Nat, s.heap.size ≤ q → A q := fun q h => by rw [← hAe]; exact h
  have hbA : ¬ A bS := fun h => by rw [← hAe] at h; exact Nat.lt_irrefl _ (Nat.lt_of_lt_of_le hbl h)
  obtain ⟨H, hH⟩ : ∃ H : Heap, H = s.heap := ⟨_, rfl⟩
  have hS : va_S A s.heap H [] := by rw [hH]; exact va_S.rf
  suffices hgo : ∀ locs, va_S A s.heap H locs → W p l e (headSpec wsL_cell ({ frames := 0, cells := 0, slots := 0, locals := 0 })).room s m ([.ref bS, .int p1] : List Value).toArray below meth cX H locs 0 0 (MQ below (va_Qi (fun r (_ : Unit) => rr = r) (fun _ _ => True) A) ([.ref bS, .int p1] : List Value).toArray s 0 0 A) (entryFrame m ([.ref bS, .int p1] : List Value).toArray 2) by subst hH; exact hgo [] hS
  clear hS hH
  intro locs hS
  have hl := lv_entry ([.ref bS, .int p1]) (n := 2) (Nat.le_of_ble_eq_true rfl)
  rw [lg_entry_eq]
  generalize (lg_sl ([.ref bS, .int p1]) ++ List.replicate (2 - (lg_sl ([.ref bS, .int p1])).length) Slot.unset).toArray = ls at hl ⊢
  have hl : lv_has ls 2 [(0, .ref bS), (1, .int p1)] := hl
  unfold f_L_cell at hf
  refine lv_iload_n hx hb dL_cell_0 rfl (lv_at hl 1 rfl) ?_
  refine lv_aload_n hx hb dL_cell_1 rfl (lv_at hl 0 rfl) ?_
  refine va_slen hx hb hX0 hbl hbA hS dL_cell_2 ?_
  refine W.eq (g2 := F0 m 3 ls [.int (nI LS), .int p1]) rfl ?_
  refine lv_icmp_ge (tgt := 12) hx hb dL_cell_3 (by decide) (fun c_1 => ?_) (fun c_1 => ?_)
  · have hf := it_t hf c_1
    refine lv_ldc (v := 790386105) hx hb hown (hts (.constant RL 8 (790386105)) (List.mem_cons_of_mem _ (List.mem_of_getElem? (i := 0) rfl))) dL_cell_12 ?_
    refine lv_iload_n hx hb dL_cell_14 rfl (lv_at hl 1 rfl) ?_
    refine lv_iconst (v := 3) hx hb dL_cell_15 (by decide) ?_
    refine lv_iadd hx hb dL_cell_16 ?_
    refine lv_imul hx hb dL_cell_17 ?_
    have hf := Option.some.inj hf
    have q1 := hf
    exact W.iret (v := ((790386105 : Int32) * (p1 + 3))) hx hb hr (fun t ht hW9 => ⟨⟨((790386105 : Int32) * (p1 + 3)), (), rfl, q1.symm, trivial⟩, hS.F ht⟩) hS.2.2 dL_cell_18
  · have hf := it_f hf c_1
    refine lv_aload_n hx hb dL_cell_6 rfl (lv_at hl 0 rfl) ?_
    refine lv_iload_n hx hb dL_cell_7 rfl (lv_at hl 1 rfl) ?_
    obtain ⟨h_2, hf⟩ := ck_out hf
    refine va_sld hx hb hX0 hbl hbA hS (inB_in h_2) dL_cell_8 ?_
    refine lv_goto (tgt := 18) hx hb dL_cell_9 (by decide) ?_
    have hf := Option.some.inj hf
    have q1 := hf
    exact W.iret (v := (xs (p1).toNatClampNeg)) hx hb hr (fun t ht hW9 => ⟨⟨(xs (p1).toNatClampNeg), (), rfl, q1.symm, trivial⟩, hS.F ht⟩) hS.2.2 dL_cell_18

def f_T_draw (LS : Nat) (xs : Nat → Int32) (a b c d : Nat) (I : Nat → Nat → Int32) (D : Nat → Nat → UInt64) (K : Nat → Nat → Int32) (M : Nat → Nat → UInt64) (p1 : Int32) : Option (Int32 × (Nat → Nat → Int32)) :=
  bd (f_L_cell LS xs ((K 40 2) - (K 40 2) / 24 * 24)) (fun r_3 => bd (f_L_below ((r_3 >>> ((((K 40 2) / 24) - ((K 40 2) / 24) / 8 * 8) &&& 31)) + (389 * (K 40 2))) p1) (fun r_7 => nm (up2 K 40 2 ((K 40 2) + 1)) (fun K_11 => some (r_7, K_11))))
theorem iT_draw_RX5 : ∀ w ∈ u_ws RX5 TX5 11, w ∈ wsX5_draw := fun w h => List.mem_cons_of_mem _ (List.mem_append_right _ (h))
set_option maxHeartbeats 4000000 in
set_option maxRecDepth 100000 in
theorem mt_T_draw (l : Launch) (dC : Nat → ClassId) (dI : Nat → Nat → Nat) (L : List Nat) (a b c d bS : Nat) (ad : Nat → Nat) (cy : Nat → ClassId) (hM : tOK L a b c d bS ad) (r LS : Nat) (xs : Nat → Int32) (sz : Nat) (I : Nat → Nat → Int32) (D : Nat → Nat → UInt64) (K : Nat → Nat → Int32) (M : Nat → Nat → UInt64) (p1 : Int32) (rr : Int32) (K9 : Nat → Nat → Int32) (hf : f_T_draw LS xs a b c d I D K M p1 = some (rr, K9)) : Met l yX5_draw wsX5_draw ({ frames := 1, cells := 0, slots := 0, locals := 21 }) (va_Pc [.ref (ad 40), .int p1] (fun U => U.heap.size = sz ∧ tW dC dI L ad cy bS a b c d r LS xs I D K M U)) (va_Qi (fun r (_ : Unit) => rr = r) (fun _ t => tW dC dI L ad cy bS a b c d r LS xs I D K9 M t) (AT L ad sz)) 0 0 (AT L ad sz) := by
  refine Met.ofW (cc := cX5_draw) (maxL := 3) (ret := (some .int)) (by decide) rfl ?_
  intro p e s m args below meth cX s₁ B hml hv
  obtain ⟨rfl, hsz, hP, hK, hN, hX0⟩ := hv
  have hx := B.exec
  have hb := B.bytes
  have hr := B.returns
  have hts := atoms_spec (ws := wsX5_draw) B.pre
  have hown : s.vm.findClass RX5 = some m.cls := findClass_of_methodNamed B.named
  have hlocks := B.notSynchronized
  subst hsz
  have hbl : bS < s.heap.size := by obtain ⟨scr, h, -⟩ := hX0; exact (Array.getElem?_eq_some_iff.mp h).1
  generalize hAe : AT L ad s.heap.size = A
  have hA : ∀ q : Nat, s.heap.size ≤ q → A q := fun q h => by rw [← hAe]; exact Or.inr h
  have hAL : ∀ k, k ∈ L → A (ad k) := fun k h => by rw [← hAe]; exact Or.inl ⟨k, h, rfl⟩
  have hDD : ∀ r I D K M, va_D A (iwT L ad cy bS a b c d r I D K M) := fun r I D K M => iwT_D hM hAL I D K M
  have hbA : ¬ A bS := fun h => by rw [← hAe] at h; exact h.elim (fun ⟨k, k1, k2⟩ => hM.2.1 k k1 k2) (fun h => Nat.lt_irrefl _ (Nat.lt_of_lt_of_le hbl h))
  obtain ⟨H, hH⟩ : ∃ H : Heap, H = s.heap := ⟨_, rfl⟩
  have hS : va_S A s.heap H [] := by rw [hH]; exact va_S.rf
  have hP : va_P (dC, dI) vwCl (iwT L ad cy bS a b c d r I D K M) H := by rw [hH]; exact hP
  suffices hgo : ∀ locs, va_S A s.heap H locs → W p l e (headSpec wsX5_draw ({ frames := 1, cells := 0, slots := 0, locals := 21 })).room s m ([.ref (ad 40), .int p1] : List Value).toArray below meth cX H locs 0 0 (MQ below (va_Qi (fun r (_ : Unit) => rr = r) (fun _ t => tW dC dI L ad cy bS a b c d r LS xs I D K9 M t) A) ([.ref (ad 40), .int p1] : List Value).toArray s 0 0 A) (entryFrame m ([.ref (ad 40), .int p1] : List Value).toArray 3) by subst hH; exact hgo [] hS
  clear hS hH
  intro locs hS
  have hl := lv_entry ([.ref (ad 40), .int p1]) (n := 3) (Nat.le_of_ble_eq_true rfl)
  rw [lg_entry_eq]
  generalize (lg_sl ([.ref (ad 40), .int p1]) ++ List.replicate (3 - (lg_sl ([.ref (ad 40), .int p1])).length) Slot.unset).toArray = ls at hl ⊢
  have hl : lv_has ls 3 [(0, .ref (ad 40)), (1, .int p1)] := hl
  unfold f_T_draw at hf
  refine lv_aload_n hx hb dX5_draw_0 rfl (lv_at hl 0 rfl) ?_
  obtain ⟨q_1, wq_1, heq_1⟩ := heT_40 (L := L) (ad := ad) (cy := cy) (bS := bS) (a := a) (b := b) (c := c) (d := d) (r := r) (I := I) (D := D) (K := K) (M := M) hM
  refine va_get (D := (dC, dI)) (ci := 5) (v := .ref bS) (C := RX5) (T := TX5) (N := 11) hx hb hts iT_draw_RX5 hown hK hP q_1 heq_1 rfl 1 (by decide) (hts (.fieldLink RX5 44 "OverrunHouseLaw$Told" "s" "[I") (List.mem_cons_of_mem _ (List.mem_append_left _ (List.mem_of_getElem? (i := 0) rfl)))) (fun _ h9 => h9) rfl dX5_draw_1 ?_
  refine lv_aload_n hx hb dX5_draw_4 rfl (lv_at hl 0 rfl) ?_
  obtain ⟨q_2, wq_2, heq_2⟩ := heT_40 (L := L) (ad := ad) (cy := cy) (bS := bS) (a := a) (b := b) (c := c) (d := d) (r := r) (I := I) (D := D) (K := K) (M := M) hM
  refine va_get (D := (dC, dI)) (ci := 5) (v := .int (K 40 2)) (C := RX5) (T := TX5) (N := 11) hx hb hts iT_draw_RX5 hown hK hP q_2 heq_2 rfl 2 (by decide) (hts (.fieldLink RX5 47 "OverrunHouseLaw$Told" "draws" "I") (List.mem_cons_of_mem _ (List.mem_append_left _ (List.mem_of_getElem? (i := 1) rfl)))) (fun _ h9 => h9) rfl dX5_draw_5 ?_
  refine lv_bipush (v := 24) hx hb dX5_draw_8 (by decide) ?_
  refine lv_irem hx hb dX5_draw_10 (by decide) ?_
  obtain ⟨r_3, g_4, hf⟩ := bd_out hf
  refine va_calli (va_runSN (As := [.ref bS, .int ((K 40 2) - (K 40 2) / 24 * 24)]) (rest := []) ⟨hx, hb, hml, hown, hts⟩ (mt_L_cell l bS LS xs H.size ((K 40 2) - (K 40 2) / 24 * 24) r_3 g_4) ⟨va_cnB 2 hts gX5_draw_L_cell_n51 rfl rfl rfl (hN.1 (.methodLinkNest "OverrunHouseLaw$Told" 51 ⟨"OverrunHouseLaw", "cell", "([II)I"⟩ "OverrunHouseLaw") (List.mem_of_getElem? (i := 35) rfl)) (hts (.initialized RL) (List.mem_cons_of_mem _ (List.mem_append_left _ (List.mem_of_getElem? (i := 3) rfl)))) (by decide +kernel) ⟨(Nat.le_of_ble_eq_true rfl), (Nat.le_of_ble_eq_true rfl)⟩, (hts (.static yL_cell) (List.mem_cons_of_mem _ (List.mem_append_left _ (List.mem_of_getElem? (i := 2) rfl)))), trivial⟩ (sc_pre [.ref bS, .int ((K 40 2) - (K 40 2) / 24 * 24)] (hX0.kept (hS.2.1 bS hbl hbA))) rfl rfl hl.1 rfl (lv_room (Nat.le_of_ble_eq_true rfl)) dX5_draw_11 ⟨(Nat.le_of_ble_eq_true rfl), (Nat.le_of_ble_eq_true rfl)⟩) hS (fun q _ h => hA q (Nat.le_trans hS.1 h)) (fun q h => hA q (Nat.le_trans hS.1 h)) (fun r9 u t H1 locs ht hvm hw hB hz1 hk1 hS9 => ?_)
  subst hw
  have hP := va_Pnew hP hk1
  have hS := hS9
  clear hB hz1 hk1 hvm ht hS9
  generalize H1 = H at hP hS ⊢
  refine lv_aload_n hx hb dX5_draw_14 rfl (lv_at hl 0 rfl) ?_
  obtain ⟨q_5, wq_5, heq_5⟩ := heT_40 (L := L) (ad := ad) (cy := cy) (bS := bS) (a := a) (b := b) (c := c) (d := d) (r := r) (I := I) (D := D) (K := K) (M := M) hM
  refine va_get (D := (dC, dI)) (ci := 5) (v := .int (K 40 2)) (C := RX5) (T := TX5) (N := 11) hx hb hts iT_draw_RX5 hown hK hP q_5 heq_5 rfl 2 (by decide) (hts (.fieldLink RX5 47 "OverrunHouseLaw$Told" "draws" "I") (List.mem_cons_of_mem _ (List.mem_append_left _ (List.mem_of_getElem? (i := 1) rfl)))) (fun _ h9 => h9) rfl dX5_draw_15 ?_
  refine lv_bipush (v := 24) hx hb dX5_draw_18 (by decide) ?_
  refine lv_idiv hx hb dX5_draw_20 (by decide) ?_
  refine lv_bipush (v := 8) hx hb dX5_draw_21 (by decide) ?_
  refine lv_irem hx hb dX5_draw_23 (by decide) ?_
  refine lv_ishr hx hb dX5_draw_24 ?_
  refine lv_sipush (v := 389) hx hb dX5_draw_25 (by decide) ?_
  refine lv_aload_n hx hb dX5_draw_28 rfl (lv_at hl 0 rfl) ?_
  obtain ⟨q_6, wq_6, heq_6⟩ := heT_40 (L := L) (ad := ad) (cy := cy) (bS := bS) (a := a) (b := b) (c := c) (d := d) (r := r) (I := I) (D := D) (K := K) (M := M) hM
  refine va_get (D := (dC, dI)) (ci := 5) (v := .int (K 40 2)) (C := RX5) (T := TX5) (N := 11) hx hb hts iT_draw_RX5 hown hK hP q_6 heq_6 rfl 2 (by decide) (hts (.fieldLink RX5 47 "OverrunHouseLaw$Told" "draws" "I") (List.mem_cons_of_mem _ (List.mem_append_left _ (List.mem_of_getElem? (i := 1) rfl)))) (fun _ h9 => h9) rfl dX5_draw_29 ?_
  refine lv_imul hx hb dX5_draw_32 ?_
  refine lv_iadd hx hb dX5_draw_33 ?_
  refine lv_iload_n hx hb dX5_draw_34 rfl (lv_at hl 1 rfl) ?_
  obtain ⟨r_7, g_8, hf⟩ := bd_out hf
  refine va_calli (va_runSN (As := [.int ((r_3 >>> ((((K 40 2) / 24) - ((K 40 2) / 24) / 8 * 8) &&& 31)) + (389 * (K 40 2))), .int p1]) (rest := []) ⟨hx, hb, hml, hown, hts⟩ (mt_L_below l H.size ((r_3 >>> ((((K 40 2) / 24) - ((K 40 2) / 24) / 8 * 8) &&& 31)) + (389 * (K 40 2))) p1 r_7 g_8) ⟨va_cnB 2 hts gX5_draw_L_below_n57 rfl rfl rfl (hN.1 (.methodLinkNest "OverrunHouseLaw$Told" 57 ⟨"OverrunHouseLaw", "below", "(II)I"⟩ "OverrunHouseLaw") (List.mem_of_getElem? (i := 36) rfl)) (hts (.initialized RL) (List.mem_cons_of_mem _ (List.mem_append_left _ (List.mem_of_getElem? (i := 3) rfl)))) (by decide +kernel) ⟨(Nat.le_of_ble_eq_true rfl), (Nat.le_of_ble_eq_true rfl)⟩, (hts (.static yL_below) (List.mem_cons_of_mem _ (List.mem_append_left _ (List.mem_of_getElem? (i := 6) rfl)))), trivial⟩ (pre0 [.int ((r_3 >>> ((((K 40 2) / 24) - ((K 40 2) / 24) / 8 * 8) &&& 31)) + (389 * (K 40 2))), .int p1]) rfl rfl hl.1 rfl (lv_room (Nat.le_of_ble_eq_true rfl)) dX5_draw_35 ⟨(Nat.le_of_ble_eq_true rfl), (Nat.le_of_ble_eq_true rfl)⟩) hS (fun q _ h => hA q (Nat.le_trans hS.1 h)) (fun q h => hA q (Nat.le_trans hS.1 h)) (fun r9 u t H1 locs ht hvm hw hB hz1 hk1 hS9 => ?_)
  subst hw
  have hP := va_Pnew hP hk1
  have hS := hS9
  clear hB hz1 hk1 hvm ht hS9
  generalize H1 = H at hP hS ⊢
  refine lv_istore_n (lv' := [(2, .int r_7), (0, .ref (ad 40)), (1, .int p1)]) hx hb dX5_draw_38 rfl hl (by decide) rfl (fun ls hl => ?_)
  refine lv_aload_n hx hb dX5_draw_39 rfl (lv_at hl 1 rfl) ?_
  refine lv_dup hx hb dX5_draw_40 rfl ?_
  obtain ⟨q_9, wq_9, heq_9⟩ := heT_40 (L := L) (ad := ad) (cy := cy) (bS := bS) (a := a) (b := b) (c := c) (d := d) (r := r) (I := I) (D := D) (K := K) (M := M) hM
  refine va_get (D := (dC, dI)) (ci := 5) (v := .int (K 40 2)) (C := RX5) (T := TX5) (N := 11) hx hb hts iT_draw_RX5 hown hK hP q_9 heq_9 rfl 2 (by decide) (hts (.fieldLink RX5 47 "OverrunHouseLaw$Told" "draws" "I") (List.mem_cons_of_mem _ (List.mem_append_left _ (List.mem_of_getElem? (i := 1) rfl)))) (fun _ h9 => h9) rfl dX5_draw_41 ?_
  refine lv_iconst (v := 1) hx hb dX5_draw_44 (by decide) ?_
  refine lv_iadd hx hb dX5_draw_45 ?_
  obtain ⟨q_10, wq_10, heq_10⟩ := heT_40 (L := L) (ad := ad) (cy := cy) (bS := bS) (a := a) (b := b) (c := c) (d := d) (r := r) (I := I) (D := D) (K := K) (M := M) hM
  obtain ⟨K_11, eK_11, hf⟩ := nm_out hf
  refine va_put (D := (dC, dI)) (ci := 5) (v := .int ((K 40 2) + 1)) (ty := .int) (C := RX5) (T := TX5) (N := 11) hx hb hts iT_draw_RX5 tyX5 tyX5_ok nmX5 hown hK hP (hDD r I D K M) hS q_10 heq_10 rfl 2 (by decide) (hts (.fieldLink RX5 47 "OverrunHouseLaw$Told" "draws" "I") (List.mem_cons_of_mem _ (List.mem_append_left _ (List.mem_of_getElem? (i := 1) rfl)))) (fun _ h9 => h9) rfl (by decide +kernel) rfl rfl (Nat.le_of_ble_eq_true rfl) dX5_draw_46 (fun H locs hP _ hS => ?_)
  have hP : va_P (dC, dI) vwCl (iwT L ad cy bS a b c d r I D K_11 M) H := by rw [eK_11]; exact hqK hM wq_10 (by decide) ((cellT_40 ad cy bS a b c d r _ _).trans rfl) hP
  refine lv_iload_n hx hb dX5_draw_49 rfl (lv_at hl 0 rfl) ?_
  have hf := Option.some.inj hf
  obtain ⟨q1, qK⟩ := Prod.mk.inj hf
  exact W.iret (v := r_7) hx hb hr (fun t ht hW9 => ⟨⟨r_7, (), rfl, q1.symm, (by rw [← qK]; exact tW.of hP hK hN (hX0.kept (hS.2.1 bS hbl hbA)) ht hW9)⟩, hS.F ht⟩) hS.2.2 dX5_draw_50

def f_T_sum_J42 (rec5 : Int32 → Int32 → Option (Int32)) (K : Nat → Nat → Int32) (p1 : Int32) (x4_5 : Int32) (x3_5 : Int32) (z0_42 : Int32) : Option (Int32) :=
  rec5 (x4_5 + 1) (x3_5 + ((K (60 + (p1).toNatClampNeg) (x4_5).toNatClampNeg) * z0_42))
def f_T_sum_L5 (a : Nat) (b : Nat) (K : Nat → Nat → Int32) (p1 : Int32) (p2 : Int32) : Nat → Int32 → Int32 → Option (Int32)
  | 0, _, _ => none
  | n5 + 1, x4_5, x3_5 => (if (nI a) ≤ x4_5 then some x3_5 else ck (inB p1 b) (ck (inB x4_5 10) ((if 0 ≤ p2 then ck (inB x4_5 a) (ck (inB p2 5) (f_T_sum_J42 (f_T_sum_L5 a b K p1 p2 n5) K p1 x4_5 x3_5 (K (50 + (x4_5).toNatClampNeg) (p2).toNatClampNeg))) else f_T_sum_J42 (f_T_sum_L5 a b K p1 p2 n5) K p1 x4_5 x3_5 1))))
def f_T_sum (LS : Nat) (xs : Nat → Int32) (a b c d : Nat) (I : Nat → Nat → Int32) (D : Nat → Nat → UInt64) (K : Nat → Nat → Int32) (M : Nat → Nat → UInt64) (p1 : Int32) (p2 : Int32) : Option (Int32) :=
  f_T_sum_L5 a b K p1 p2 200 0 0
theorem iT_sum_RX5 : ∀ w ∈ u_ws RX5 TX5 11, w ∈ wsX5_sum := fun w h => List.mem_cons_of_mem _ (List.mem_append_right _ (h))
set_option maxHeartbeats 4000000 in
set_option maxRecDepth 100000 in
theorem mt_T_sum (l : Launch) (dC : Nat → ClassId) (dI : Nat → Nat → Nat) (L : List Nat) (a b c d bS : Nat) (ad : Nat → Nat) (cy : Nat → ClassId) (hM : tOK L a b c d bS ad) (r LS : Nat) (xs : Nat → Int32) (sz : Nat) (I : Nat → Nat → Int32) (D : Nat → Nat → UInt64) (K : Nat → Nat → Int32) (M : Nat → Nat → UInt64) (p1 : Int32) (p2 : Int32) (rr : Int32) (hf : f_T_sum LS xs a b c d I D K M p1 p2 = some rr) : Met l yX5_sum wsX5_sum ({ frames := 0, cells := 0, slots := 0, locals := 0 }) (va_Pc [.ref (ad 40), .int p1, .int p2] (fun U => U.heap.size = sz ∧ tW dC dI L ad cy bS a b c d r LS xs I D K M U)) (va_Qi (fun r (_ : Unit) => rr = r) (fun _ _ => True) (fun q => sz ≤ q)) 0 0 (fun q => sz ≤ q) := by
  refine Met.ofW (cc := cX5_sum) (maxL := 5) (ret := (some .int)) (by decide) rfl ?_
  intro p e s m args below meth cX s₁ B hml hv
  obtain ⟨rfl, hsz, hP, hK, hN, hX0⟩ := hv
  have hx := B.exec
  have hb := B.bytes
  have hr := B.returns
  have hts := atoms_spec (ws := wsX5_sum) B.pre
  have hown : s.vm.findClass RX5 = some m.cls := findClass_of_methodNamed B.named
  have hlocks := B.notSynchronized
  subst hsz
  have hbl : bS < s.heap.size := by obtain ⟨scr, h, -⟩ := hX0; exact (Array.getElem?_eq_some_iff.mp h).1
  generalize hAe : (fun q : Nat => s.heap.size ≤ q) = A
  have hA : ∀ q : Nat, s.heap.size ≤ q → A q := fun q h => by rw [← hAe]; exact h
  have hbA : ¬ A bS := fun h => by rw [← hAe] at h; exact Nat.lt_irrefl _ (Nat.lt_of_lt_of_le hbl h)
  obtain ⟨H, hH⟩ : ∃ H : Heap, H = s.heap := ⟨_, rfl⟩
  have hS : va_S A s.heap H [] := by rw [hH]; exact va_S.rf
  have hP : va_P (dC, dI) vwCl (iwT L ad cy bS a b c d r I D K M) H := by rw [hH]; exact hP
  suffices hgo : ∀ locs, va_S A s.heap H locs → W p l e (headSpec wsX5_sum ({ frames := 0, cells := 0, slots := 0, locals := 0 })).room s m ([.ref (ad 40), .int p1, .int p2] : List Value).toArray below meth cX H locs 0 0 (MQ below (va_Qi (fun r (_ : Unit) => rr = r) (fun _ _ => True) A) ([.ref (ad 40), .int p1, .int p2] : List Value).toArray s 0 0 A) (entryFrame m ([.ref (ad 40), .int p1, .int p2] : List Value).toArray 5) by subst hH; exact hgo [] hS
  clear hS hH
  intro locs hS
  have hl := lv_entry ([.ref (ad 40), .int p1, .int p2]) (n := 5) (Nat.le_of_ble_eq_true rfl)
  rw [lg_entry_eq]
  generalize (lg_sl ([.ref (ad 40), .int p1, .int p2]) ++ List.replicate (5 - (lg_sl ([.ref (ad 40), .int p1, .int p2])).length) Slot.unset).toArray = ls at hl ⊢
  have hl : lv_has ls 5 [(0, .ref (ad 40)), (1, .int p1), (2, .int p2)] := hl
  unfold f_T_sum at hf
  refine lv_iconst (v := 0) hx hb dX5_sum_0 (by decide) ?_
  refine lv_istore_n (lv' := [(3, .int 0), (0, .ref (ad 40)), (1, .int p1), (2, .int p2)]) hx hb dX5_sum_1 rfl hl (by decide) rfl (fun ls hl => ?_)
  refine lv_iconst (v := 0) hx hb dX5_sum_2 (by decide) ?_
  refine lv_istore (lv' := [(4, .int 0), (3, .int 0), (0, .ref (ad 40)), (1, .int p1), (2, .int p2)]) hx hb dX5_sum_3 hl (by decide) rfl (fun ls hl => ?_)
  have L5 : ∀ (n5 : Nat) (x4_5 : Int32) (x3_5 : Int32), f_T_sum_L5 a b K p1 p2 n5 x4_5 x3_5 = some rr → ∀ (H : Heap) (locs : List Loc) (ls : Array Slot), va_P (dC, dI) vwCl (iwT L ad cy bS a b c d r I D K M) H → va_S A s.heap H locs → lv_has ls 5 [(4, .int x4_5), (3, .int x3_5), (0, .ref (ad 40)), (1, .int p1), (2, .int p2)] → W p l e (headSpec wsX5_sum ({ frames := 0, cells := 0, slots := 0, locals := 0 })).room s m ([.ref (ad 40), .int p1, .int p2] : List Value).toArray below meth cX H locs 0 0 (MQ below (va_Qi (fun r (_ : Unit) => rr = r) (fun _ _ => True) A) ([.ref (ad 40), .int p1, .int p2] : List Value).toArray s 0 0 A) (F0 m 5 ls []) := by
    intro n5
    induction n5 with
    | zero => intro x4_5 x3_5 hf; exact nomatch hf
    | succ n5 ih5 =>
      intro x4_5 x3_5 hf H locs ls hP hS hl
      unfold f_T_sum_L5 at hf
      refine lv_iload hx hb dX5_sum_5 (lv_at hl 0 rfl) ?_
      refine lv_aload_n hx hb dX5_sum_7 rfl (lv_at hl 2 rfl) ?_
      obtain ⟨q_1, wq_1, heq_1⟩ := heT_40 (L := L) (ad := ad) (cy := cy) (bS := bS) (a := a) (b := b) (c := c) (d := d) (r := r) (I := I) (D := D) (K := K) (M := M) hM
      refine va_get (D := (dC, dI)) (ci := 5) (v := .ref (ad 47)) (C := RX5) (T := TX5) (N := 11) hx hb hts iT_sum_RX5 hown hK hP q_1 heq_1 rfl 3 (by decide) (hts (.fieldLink RX5 18 "OverrunHouseLaw$Told" "ingredients" "[[I") (List.mem_cons_of_mem _ (List.mem_append_left _ (List.mem_of_getElem? (i := 0) rfl)))) (fun _ h9 => h9) rfl dX5_sum_8 ?_
      obtain ⟨q_2, wq_2, heq_2⟩ := heT_47 (L := L) (ad := ad) (cy := cy) (bS := bS) (a := a) (b := b) (c := c) (d := d) (r := r) (I := I) (D := D) (K := K) (M := M) hM
      refine va_alen (v := nI a) hx hb hK hP q_2 5 heq_2 rfl rfl dX5_sum_11 ?_
      refine lv_icmp_ge (tgt := 51) hx hb dX5_sum_12 (by decide) (fun c_3 => ?_) (fun c_3 => ?_)
      · have hf := it_t hf c_3
        refine lv_iload_n hx hb dX5_sum_51 rfl (lv_at hl 1 rfl) ?_
        have hf := Option.some.inj hf
        have q1 := hf
        exact W.iret (v := x3_5) hx hb hr (fun t ht hW9 => ⟨⟨x3_5, (), rfl, q1.symm, trivial⟩, hS.F ht⟩) hS.2.2 dX5_sum_52
      · have hf := it_f hf c_3
        refine lv_iload_n hx hb dX5_sum_15 rfl (lv_at hl 1 rfl) ?_
        refine lv_aload_n hx hb dX5_sum_16 rfl (lv_at hl 2 rfl) ?_
        obtain ⟨q_4, wq_4, heq_4⟩ := heT_40 (L := L) (ad := ad) (cy := cy) (bS := bS) (a := a) (b := b) (c := c) (d := d) (r := r) (I := I) (D := D) (K := K) (M := M) hM
        refine va_get (D := (dC, dI)) (ci := 5) (v := .ref (ad 48)) (C := RX5) (T := TX5) (N := 11) hx hb hts iT_sum_RX5 hown hK hP q_4 heq_4 rfl 4 (by decide) (hts (.fieldLink RX5 22 "OverrunHouseLaw$Told" "mixes" "[[I") (List.mem_cons_of_mem _ (List.mem_append_left _ (List.mem_of_getElem? (i := 1) rfl)))) (fun _ h9 => h9) rfl dX5_sum_17 ?_
        refine lv_iload_n hx hb dX5_sum_20 rfl (lv_at hl 3 rfl) ?_
        obtain ⟨q_5, wq_5, heq_5⟩ := heT_48 (L := L) (ad := ad) (cy := cy) (bS := bS) (a := a) (b := b) (c := c) (d := d) (r := r) (I := I) (D := D) (K := K) (M := M) hM
        obtain ⟨h_6, hf⟩ := ck_out hf
        refine ra_lda (bs := 60) (n := b) hx hb hK hP q_5 heq_5 (inB_in h_6) dX5_sum_21 ?_
        refine lv_iload hx hb dX5_sum_22 (lv_at hl 0 rfl) ?_
        obtain ⟨q_7, wq_7, heq_7⟩ := heT_Mixr (L := L) (ad := ad) (cy := cy) (bS := bS) (a := a) (b := b) (c := c) (d := d) (r := r) (I := I) (D := D) (K := K) (M := M) hM (inB_lt h_6)
        obtain ⟨h_8, hf⟩ := ck_out hf
        refine va_iald (n := 10) (f := K (60 + (p1).toNatClampNeg)) hx hb hK hP q_7 0 heq_7 rfl (inB_in h_8) dX5_sum_24 ?_
        refine lv_iload_n hx hb dX5_sum_25 rfl (lv_at hl 4 rfl) ?_
        have J42 : ∀ (z0_42 : Int32), f_T_sum_J42 (f_T_sum_L5 a b K p1 p2 n5) K p1 x4_5 x3_5 z0_42 = some rr → ∀ (H : Heap) (locs : List Loc) (ls : Array Slot), va_P (dC, dI) vwCl (iwT L ad cy bS a b c d r I D K M) H → va_S A s.heap H locs → lv_has ls 5 [(4, .int x4_5), (3, .int x3_5), (0, .ref (ad 40)), (1, .int p1), (2, .int p2)] → W p l e (headSpec wsX5_sum ({ frames := 0, cells := 0, slots := 0, locals := 0 })).room s m ([.ref (ad 40), .int p1, .int p2] : List Value).toArray below meth cX H locs 0 0 (MQ below (va_Qi (fun r (_ : Unit) => rr = r) (fun _ _ => True) A) ([.ref (ad 40), .int p1, .int p2] : List Value).toArray s 0 0 A) (F0 m 42 ls [.int z0_42, .int (K (60 + (p1).toNatClampNeg) (x4_5).toNatClampNeg), .int x3_5]) := by
          intro z0_42 hf H locs ls hP hS hl
          unfold f_T_sum_J42 at hf
          refine lv_imul hx hb dX5_sum_42 ?_
          refine lv_iadd hx hb dX5_sum_43 ?_
          refine lv_istore_n (lv' := [(3, .int (x3_5 + ((K (60 + (p1).toNatClampNeg) (x4_5).toNatClampNeg) * z0_42))), (4, .int x4_5), (0, .ref (ad 40)), (1, .int p1), (2, .int p2)]) hx hb dX5_sum_44 rfl hl (by decide) rfl (fun ls hl => ?_)
          refine lv_iinc (v := (x4_5 + 1)) (lv' := [(4, .int (x4_5 + 1)), (3, .int (x3_5 + ((K (60 + (p1).toNatClampNeg) (x4_5).toNatClampNeg) * z0_42))), (0, .ref (ad 40)), (1, .int p1), (2, .int p2)]) hx hb dX5_sum_45 hl (k := 1) rfl rfl (by decide) rfl (fun ls hl => ?_)
          refine lv_goto (tgt := 5) hx hb dX5_sum_48 (by decide) ?_
          exact ih5 (x4_5 + 1) (x3_5 + ((K (60 + (p1).toNatClampNeg) (x4_5).toNatClampNeg) * z0_42)) hf _ _ _ hP hS (lv_sub hl [0, 1, 2, 3, 4] rfl)
        refine lv_if_ge (tgt := 33) hx hb dX5_sum_26 (by decide) (fun c_9 => ?_) (fun c_9 => ?_)
        · have hf := it_t hf c_9
          refine lv_aload_n hx hb dX5_sum_33 rfl (lv_at hl 2 rfl) ?_
          obtain ⟨q_10, wq_10, heq_10⟩ := heT_40 (L := L) (ad := ad) (cy := cy) (bS := bS) (a := a) (b := b) (c := c) (d := d) (r := r) (I := I) (D := D) (K := K) (M := M) hM
          refine va_get (D := (dC, dI)) (ci := 5) (v := .ref (ad 47)) (C := RX5) (T := TX5) (N := 11) hx hb hts iT_sum_RX5 hown hK hP q_10 heq_10 rfl 3 (by decide) (hts (.fieldLink RX5 18 "OverrunHouseLaw$Told" "ingredients" "[[I") (List.mem_cons_of_mem _ (List.mem_append_left _ (List.mem_of_getElem? (i := 0) rfl)))) (fun _ h9 => h9) rfl dX5_sum_34 ?_
          refine lv_iload hx hb dX5_sum_37 (lv_at hl 0 rfl) ?_
          obtain ⟨q_11, wq_11, heq_11⟩ := heT_47 (L := L) (ad := ad) (cy := cy) (bS := bS) (a := a) (b := b) (c := c) (d := d) (r := r) (I := I) (D := D) (K := K) (M := M) hM
          obtain ⟨h_12, hf⟩ := ck_out hf
          refine ra_lda (bs := 50) (n := a) hx hb hK hP q_11 heq_11 (inB_in h_12) dX5_sum_39 ?_
          refine lv_iload_n hx hb dX5_sum_40 rfl (lv_at hl 4 rfl) ?_
          obtain ⟨q_13, wq_13, heq_13⟩ := heT_Ing (L := L) (ad := ad) (cy := cy) (bS := bS) (a := a) (b := b) (c := c) (d := d) (r := r) (I := I) (D := D) (K := K) (M := M) hM (inB_lt h_12)
          obtain ⟨h_14, hf⟩ := ck_out hf
          refine va_iald (n := 5) (f := K (50 + (x4_5).toNatClampNeg)) hx hb hK hP q_13 0 heq_13 rfl (inB_in h_14) dX5_sum_41 ?_
          exact J42 (K (50 + (x4_5).toNatClampNeg) (p2).toNatClampNeg) hf _ _ _ hP hS (lv_sub hl [0, 1, 2, 3, 4] rfl)
        · have hf := it_f hf c_9
          refine lv_iconst (v := 1) hx hb dX5_sum_29 (by decide) ?_
          refine lv_goto (tgt := 42) hx hb dX5_sum_30 (by decide) ?_
          exact J42 1 hf _ _ _ hP hS (lv_sub hl [0, 1, 2, 3, 4] rfl)
  exact L5 200 0 0 hf _ _ _ hP hS (lv_sub hl [0, 1, 2, 3, 4] rfl)

def f_T_all (LS : Nat) (xs : Nat → Int32) (a b c d : Nat) (I : Nat → Nat → Int32) (D : Nat → Nat → UInt64) (K : Nat → Nat → Int32) (M : Nat → Nat → UInt64) (p1 : Int32) : Option (Int32) :=
  bd (f_T_sum LS xs a b c d I D K M p1 (-1)) (fun r_1 => some r_1)
set_option maxHeartbeats 4000000 in
set_option maxRecDepth 100000 in
theorem mt_T_all (l : Launch) (dC : Nat → ClassId) (dI : Nat → Nat → Nat) (L : List Nat) (a b c d bS : Nat) (ad : Nat → Nat) (cy : Nat → ClassId) (hM : tOK L a b c d bS ad) (r LS : Nat) (xs : Nat → Int32) (sz : Nat) (I : Nat → Nat → Int32) (D : Nat → Nat → UInt64) (K : Nat → Nat → Int32) (M : Nat → Nat → UInt64) (p1 : Int32) (rr : Int32) (hf : f_T_all LS xs a b c d I D K M p1 = some rr) : Met l yX5_all wsX5_all ({ frames := 1, cells := 0, slots := 0, locals := 24 }) (va_Pc [.ref (ad 40), .int p1] (fun U => U.heap.size = sz ∧ tW dC dI L ad cy bS a b c d r LS xs I D K M U)) (va_Qi (fun r (_ : Unit) => rr = r) (fun _ _ => True) (fun q => sz ≤ q)) 0 0 (fun q => sz ≤ q) := by
  refine Met.ofW (cc := cX5_all) (maxL := 2) (ret := (some .int)) (by decide) rfl ?_
  intro p e s m args below meth cX s₁ B hml hv
  obtain ⟨rfl, hsz, hP, hK, hN, hX0⟩ := hv
  have hx := B.exec
  have hb := B.bytes
  have hr := B.returns
  have hts := atoms_spec (ws := wsX5_all) B.pre
  have hown : s.vm.findClass RX5 = some m.cls := findClass_of_methodNamed B.named
  have hlocks := B.notSynchronized
  subst hsz
  have hbl : bS < s.heap.size := by obtain ⟨scr, h, -⟩ := hX0; exact (Array.getElem?_eq_some_iff.mp h).1
  generalize hAe : (fun q : Nat => s.heap.size ≤ q) = A
  have hA : ∀ q : Nat, s.heap.size ≤ q → A q := fun q h => by rw [← hAe]; exact h
  have hbA : ¬ A bS := fun h => by rw [← hAe] at h; exact Nat.lt_irrefl _ (Nat.lt_of_lt_of_le hbl h)
  obtain ⟨H, hH⟩ : ∃ H : Heap, H = s.heap := ⟨_, rfl⟩
  have hS : va_S A s.heap H [] := by rw [hH]; exact va_S.rf
  have hP : va_P (dC, dI) vwCl (iwT L ad cy bS a b c d r I D K M) H := by rw [hH]; exact hP
  suffices hgo : ∀ locs, va_S A s.heap H locs → W p l e (headSpec wsX5_all ({ frames := 1, cells := 0, slots := 0, locals := 24 })).room s m ([.ref (ad 40), .int p1] : List Value).toArray below meth cX H locs 0 0 (MQ below (va_Qi (fun r (_ : Unit) => rr = r) (fun _ _ => True) A) ([.ref (ad 40), .int p1] : List Value).toArray s 0 0 A) (entryFrame m ([.ref (ad 40), .int p1] : List Value).toArray 2) by subst hH; exact hgo [] hS
  clear hS hH
  intro locs hS
  have hl := lv_entry ([.ref (ad 40), .int p1]) (n := 2) (Nat.le_of_ble_eq_true rfl)
  rw [lg_entry_eq]
  generalize (lg_sl ([.ref (ad 40), .int p1]) ++ List.replicate (2 - (lg_sl ([.ref (ad 40), .int p1])).length) Slot.unset).toArray = ls at hl ⊢
  have hl : lv_has ls 2 [(0, .ref (ad 40)), (1, .int p1)] := hl
  unfold f_T_all at hf
  refine lv_aload_n hx hb dX5_all_0 rfl (lv_at hl 0 rfl) ?_
  refine lv_iload_n hx hb dX5_all_1 rfl (lv_at hl 1 rfl) ?_
  refine lv_iconst (v := (-1)) hx hb dX5_all_2 (by decide) ?_
  obtain ⟨r_1, g_2, hf⟩ := bd_out hf
  obtain ⟨q_3, wq_3, heq_3⟩ := heT_40 (L := L) (ad := ad) (cy := cy) (bS := bS) (a := a) (b := b) (c := c) (d := d) (r := r) (I := I) (D := D) (K := K) (M := M) hM
  refine va_calli (va_runV (As := [.int p1, .int (-1)]) (rest := []) ⟨hx, hb, hml, hown, hts⟩ (mt_T_sum l dC dI L a b c d bS ad cy hM r LS xs H.size I D K M p1 (-1) r_1 g_2) (cwV 2 hts gX5_all_X5_sum rfl rfl rfl (by decide +kernel) ⟨(Nat.le_of_ble_eq_true rfl), (Nat.le_of_ble_eq_true rfl)⟩) ⟨(tW.pre [.ref (ad 40), .int p1, .int (-1)] hP hK hN (hX0.kept (hS.2.1 bS hbl hbA))).1, tW.recv (C := RX5) (T := TX5) (N := 11) hP hK heq_3 rfl, (tW.pre [.ref (ad 40), .int p1, .int (-1)] hP hK hN (hX0.kept (hS.2.1 bS hbl hbA))).2⟩ rfl rfl hl.1 rfl (lv_room (Nat.le_of_ble_eq_true rfl)) dX5_all_3 ⟨(Nat.le_of_ble_eq_true rfl), (Nat.le_of_ble_eq_true rfl)⟩) hS (fun q _ h => hA q (Nat.le_trans hS.1 h)) (fun q h => hA q (Nat.le_trans hS.1 h)) (fun r9 u t H1 locs ht hvm hw hB hz1 hk1 hS9 => ?_)
  subst hw
  have hP := va_Pnew hP hk1
  have hS := hS9
  clear hB hz1 hk1 hvm ht hS9
  generalize H1 = H at hP hS ⊢
  have hf := Option.some.inj hf
  have q1 := hf
  exact W.iret (v := r_1) hx hb hr (fun t ht hW9 => ⟨⟨r_1, (), rfl, q1.symm, trivial⟩, hS.F ht⟩) hS.2.2 dX5_all_6

def f_T_harms_L4 (a : Nat) (b : Nat) (K : Nat → Nat → Int32) (p1 : Int32) : Nat → Int32 → Int32 → Option (Int32)
  | 0, _, _ => none
  | n4 + 1, x3_4, x2_4 => (if (nI a) ≤ x3_4 then some x2_4 else ck (inB p1 b) (ck (inB x3_4 10) ((if (K (60 + (p1).toNatClampNeg) (x3_4).toNatClampNeg) ≤ 0 then f_T_harms_L4 a b K p1 n4 (x3_4 + 1) x2_4 else ck (inB x3_4 a) (ck (inB 4 5) (f_T_harms_L4 a b K p1 n4 (x3_4 + 1) (x2_4 ||| (K (50 + (x3_4).toNatClampNeg) (4 : Int32).toNatClampNeg))))))))
def f_T_harms (LS : Nat) (xs : Nat → Int32) (a b c d : Nat) (I : Nat → Nat → Int32) (D : Nat → Nat → UInt64) (K : Nat → Nat → Int32) (M : Nat → Nat → UInt64) (p1 : Int32) : Option (Int32) :=
  f_T_harms_L4 a b K p1 200 0 0
theorem iT_harms_RX5 : ∀ w ∈ u_ws RX5 TX5 11, w ∈ wsX5_harms := fun w h => List.mem_cons_of_mem _ (List.mem_append_right _ (h))
set_option maxHeartbeats 4000000 in
set_option maxRecDepth 100000 in
theorem mt_T_harms (l : Launch) (dC : Nat → ClassId) (dI : Nat → Nat → Nat) (L : List Nat) (a b c d bS : Nat) (ad : Nat → Nat) (cy : Nat → ClassId) (hM : tOK L a b c d bS ad) (r LS : Nat) (xs : Nat → Int32) (sz : Nat) (I : Nat → Nat → Int32) (D : Nat → Nat → UInt64) (K : Nat → Nat → Int32) (M : Nat → Nat → UInt64) (p1 : Int32) (rr : Int32) (hf : f_T_harms LS xs a b c d I D K M p1 = some rr) : Met l yX5_harms wsX5_harms ({ frames := 0, cells := 0, slots := 0, locals := 0 }) (va_Pc [.ref (ad 40), .int p1] (fun U => U.heap.size = sz ∧ tW dC dI L ad cy bS a b c d r LS xs I D K M U)) (va_Qi (fun r (_ : Unit) => rr = r) (fun _ _ => True) (fun q => sz ≤ q)) 0 0 (fun q => sz ≤ q) := by
  refine Met.ofW (cc := cX5_harms) (maxL := 4) (ret := (some .int)) (by decide) rfl ?_
  intro p e s m args below meth cX s₁ B hml hv
  obtain ⟨rfl, hsz, hP, hK, hN, hX0⟩ := hv
  have hx := B.exec
  have hb := B.bytes
  have hr := B.returns
  have hts := atoms_spec (ws := wsX5_harms) B.pre
  have hown : s.vm.findClass RX5 = some m.cls := findClass_of_methodNamed B.named
  have hlocks := B.notSynchronized
  subst hsz
  have hbl : bS < s.heap.size := by obtain ⟨scr, h, -⟩ := hX0; exact (Array.getElem?_eq_some_iff.mp h).1
  generalize hAe : (fun q : Nat => s.heap.size ≤ q) = A
  have hA : ∀ q : Nat, s.heap.size ≤ q → A q := fun q h => by rw [← hAe]; exact h
  have hbA : ¬ A bS := fun h => by rw [← hAe] at h; exact Nat.lt_irrefl _ (Nat.lt_of_lt_of_le hbl h)
  obtain ⟨H, hH⟩ : ∃ H : Heap, H = s.heap := ⟨_, rfl⟩
  have hS : va_S A s.heap H [] := by rw [hH]; exact va_S.rf
  have hP : va_P (dC, dI) vwCl (iwT L ad cy bS a b c d r I D K M) H := by rw [hH]; exact hP
  suffices hgo : ∀ locs, va_S A s.heap H locs → W p l e (headSpec wsX5_harms ({ frames := 0, cells := 0, slots := 0, locals := 0 })).room s m ([.ref (ad 40), .int p1] : List Value).toArray below meth cX H locs 0 0 (MQ below (va_Qi (fun r (_ : Unit) => rr = r) (fun _ _ => True) A) ([.ref (ad 40), .int p1] : List Value).toArray s 0 0 A) (entryFrame m ([.ref (ad 40), .int p1] : List Value).toArray 4) by subst hH; exact hgo [] hS
  clear hS hH
  intro locs hS
  have hl := lv_entry ([.ref (ad 40), .int p1]) (n := 4) (Nat.le_of_ble_eq_true rfl)
  rw [lg_entry_eq]
  generalize (lg_sl ([.ref (ad 40), .int p1]) ++ List.replicate (4 - (lg_sl ([.ref (ad 40), .int p1])).length) Slot.unset).toArray = ls at hl ⊢
  have hl : lv_has ls 4 [(0, .ref (ad 40)), (1, .int p1)] := hl
  unfold f_T_harms at hf
  refine lv_iconst (v := 0) hx hb dX5_harms_0 (by decide) ?_
  refine lv_istore_n (lv' := [(2, .int 0), (0, .ref (ad 40)), (1, .int p1)]) hx hb dX5_harms_1 rfl hl (by decide) rfl (fun ls hl => ?_)
  refine lv_iconst (v := 0) hx hb dX5_harms_2 (by decide) ?_
  refine lv_istore_n (lv' := [(3, .int 0), (2, .int 0), (0, .ref (ad 40)), (1, .int p1)]) hx hb dX5_harms_3 rfl hl (by decide) rfl (fun ls hl => ?_)
  have L4 : ∀ (n4 : Nat) (x3_4 : Int32) (x2_4 : Int32), f_T_harms_L4 a b K p1 n4 x3_4 x2_4 = some rr → ∀ (H : Heap) (locs : List Loc) (ls : Array Slot), va_P (dC, dI) vwCl (iwT L ad cy bS a b c d r I D K M) H → va_S A s.heap H locs → lv_has ls 4 [(3, .int x3_4), (2, .int x2_4), (0, .ref (ad 40)), (1, .int p1)] → W p l e (headSpec wsX5_harms ({ frames := 0, cells := 0, slots := 0, locals := 0 })).room s m ([.ref (ad 40), .int p1] : List Value).toArray below meth cX H locs 0 0 (MQ below (va_Qi (fun r (_ : Unit) => rr = r) (fun _ _ => True) A) ([.ref (ad 40), .int p1] : List Value).toArray s 0 0 A) (F0 m 4 ls []) := by
    intro n4
    induction n4 with
    | zero => intro x3_4 x2_4 hf; exact nomatch hf
    | succ n4 ih4 =>
      intro x3_4 x2_4 hf H locs ls hP hS hl
      unfold f_T_harms_L4 at hf
      refine lv_iload_n hx hb dX5_harms_4 rfl (lv_at hl 0 rfl) ?_
      refine lv_aload_n hx hb dX5_harms_5 rfl (lv_at hl 2 rfl) ?_
      obtain ⟨q_1, wq_1, heq_1⟩ := heT_40 (L := L) (ad := ad) (cy := cy) (bS := bS) (a := a) (b := b) (c := c) (d := d) (r := r) (I := I) (D := D) (K := K) (M := M) hM
      refine va_get (D := (dC, dI)) (ci := 5) (v := .ref (ad 47)) (C := RX5) (T := TX5) (N := 11) hx hb hts iT_harms_RX5 hown hK hP q_1 heq_1 rfl 3 (by decide) (hts (.fieldLink RX5 18 "OverrunHouseLaw$Told" "ingredients" "[[I") (List.mem_cons_of_mem _ (List.mem_append_left _ (List.mem_of_getElem? (i := 0) rfl)))) (fun _ h9 => h9) rfl dX5_harms_6 ?_
      obtain ⟨q_2, wq_2, heq_2⟩ := heT_47 (L := L) (ad := ad) (cy := cy) (bS := bS) (a := a) (b := b) (c := c) (d := d) (r := r) (I := I) (D := D) (K := K) (M := M) hM
      refine va_alen (v := nI a) hx hb hK hP q_2 5 heq_2 rfl rfl dX5_harms_9 ?_
      refine lv_icmp_ge (tgt := 41) hx hb dX5_harms_10 (by decide) (fun c_3 => ?_) (fun c_3 => ?_)
      · have hf := it_t hf c_3
        refine lv_iload_n hx hb dX5_harms_41 rfl (lv_at hl 1 rfl) ?_
        have hf := Option.some.inj hf
        have q1 := hf
        exact W.iret (v := x2_4) hx hb hr (fun t ht hW9 => ⟨⟨x2_4, (), rfl, q1.symm, trivial⟩, hS.F ht⟩) hS.2.2 dX5_harms_42
      · have hf := it_f hf c_3
        refine lv_aload_n hx hb dX5_harms_13 rfl (lv_at hl 2 rfl) ?_
        obtain ⟨q_4, wq_4, heq_4⟩ := heT_40 (L := L) (ad := ad) (cy := cy) (bS := bS) (a := a) (b := b) (c := c) (d := d) (r := r) (I := I) (D := D) (K := K) (M := M) hM
        refine va_get (D := (dC, dI)) (ci := 5) (v := .ref (ad 48)) (C := RX5) (T := TX5) (N := 11) hx hb hts iT_harms_RX5 hown hK hP q_4 heq_4 rfl 4 (by decide) (hts (.fieldLink RX5 22 "OverrunHouseLaw$Told" "mixes" "[[I") (List.mem_cons_of_mem _ (List.mem_append_left _ (List.mem_of_getElem? (i := 1) rfl)))) (fun _ h9 => h9) rfl dX5_harms_14 ?_
        refine lv_iload_n hx hb dX5_harms_17 rfl (lv_at hl 3 rfl) ?_
        obtain ⟨q_5, wq_5, heq_5⟩ := heT_48 (L := L) (ad := ad) (cy := cy) (bS := bS) (a := a) (b := b) (c := c) (d := d) (r := r) (I := I) (D := D) (K := K) (M := M) hM
        obtain ⟨h_6, hf⟩ := ck_out hf
        refine ra_lda (bs := 60) (n := b) hx hb hK hP q_5 heq_5 (inB_in h_6) dX5_harms_18 ?_
        refine lv_iload_n hx hb dX5_harms_19 rfl (lv_at hl 0 rfl) ?_
        obtain ⟨q_7, wq_7, heq_7⟩ := heT_Mixr (L := L) (ad := ad) (cy := cy) (bS := bS) (a := a) (b := b) (c := c) (d := d) (r := r) (I := I) (D := D) (K := K) (M := M) hM (inB_lt h_6)
        obtain ⟨h_8, hf⟩ := ck_out hf
        refine va_iald (n := 10) (f := K (60 + (p1).toNatClampNeg)) hx hb hK hP q_7 0 heq_7 rfl (inB_in h_8) dX5_harms_20 ?_
        refine lv_if_le (tgt := 35) hx hb dX5_harms_21 (by decide) (fun c_9 => ?_) (fun c_9 => ?_)
        · have hf := it_t hf c_9
          refine lv_iinc (v := (x3_4 + 1)) (lv' := [(3, .int (x3_4 + 1)), (2, .int x2_4), (0, .ref (ad 40)), (1, .int p1)]) hx hb dX5_harms_35 hl (k := 0) rfl rfl (by decide) rfl (fun ls hl => ?_)
          refine lv_goto (tgt := 4) hx hb dX5_harms_38 (by decide) ?_
          exact ih4 (x3_4 + 1) x2_4 hf _ _ _ hP hS (lv_sub hl [0, 1, 2, 3] rfl)
        · have hf := it_f hf c_9
          refine lv_iload_n hx hb dX5_harms_24 rfl (lv_at hl 1 rfl) ?_
          refine lv_aload_n hx hb dX5_harms_25 rfl (lv_at hl 2 rfl) ?_
          obtain ⟨q_10, wq_10, heq_10⟩ := heT_40 (L := L) (ad := ad) (cy := cy) (bS := bS) (a := a) (b := b) (c := c) (d := d) (r := r) (I := I) (D := D) (K := K) (M := M) hM
          refine va_get (D := (dC, dI)) (ci := 5) (v := .ref (ad 47)) (C := RX5) (T := TX5) (N := 11) hx hb hts iT_harms_RX5 hown hK hP q_10 heq_10 rfl 3 (by decide) (hts (.fieldLink RX5 18 "OverrunHouseLaw$Told" "ingredients" "[[I") (List.mem_cons_of_mem _ (List.mem_append_left _ (List.mem_of_getElem? (i := 0) rfl)))) (fun _ h9 => h9) rfl dX5_harms_26 ?_
          refine lv_iload_n hx hb dX5_harms_29 rfl (lv_at hl 0 rfl) ?_
          obtain ⟨q_11, wq_11, heq_11⟩ := heT_47 (L := L) (ad := ad) (cy := cy) (bS := bS) (a := a) (b := b) (c := c) (d := d) (r := r) (I := I) (D := D) (K := K) (M := M) hM
          obtain ⟨h_12, hf⟩ := ck_out hf
          refine ra_lda (bs := 50) (n := a) hx hb hK hP q_11 heq_11 (inB_in h_12) dX5_harms_30 ?_
          refine lv_iconst (v := 4) hx hb dX5_harms_31 (by decide) ?_
          obtain ⟨q_13, wq_13, heq_13⟩ := heT_Ing (L := L) (ad := ad) (cy := cy) (bS := bS) (a := a) (b := b) (c := c) (d := d) (r := r) (I := I) (D := D) (K := K) (M := M) hM (inB_lt h_12)
          obtain ⟨h_14, hf⟩ := ck_out hf
          refine va_iald (n := 5) (f := K (50 + (x3_4).toNatClampNeg)) hx hb hK hP q_13 0 heq_13 rfl (inB_in h_14) dX5_harms_32 ?_
          refine lv_ior hx hb dX5_harms_33 ?_
          refine lv_istore_n (lv' := [(2, .int (x2_4 ||| (K (50 + (x3_4).toNatClampNeg) (4 : Int32).toNatClampNeg))), (3, .int x3_4), (0, .ref (ad 40)), (1, .int p1)]) hx hb dX5_harms_34 rfl hl (by decide) rfl (fun ls hl => ?_)
          refine lv_iinc (v := (x3_4 + 1)) (lv' := [(3, .int (x3_4 + 1)), (2, .int (x2_4 ||| (K (50 + (x3_4).toNatClampNeg) (4 : Int32).toNatClampNeg))), (0, .ref (ad 40)), (1, .int p1)]) hx hb dX5_harms_35 hl (k := 1) rfl rfl (by decide) rfl (fun ls hl => ?_)
          refine lv_goto (tgt := 4) hx hb dX5_harms_38 (by decide) ?_
          exact ih4 (x3_4 + 1) (x2_4 ||| (K (50 + (x3_4).toNatClampNeg) (4 : Int32).toNatClampNeg)) hf _ _ _ hP hS (lv_sub hl [0, 1, 2, 3] rfl)
  exact L4 200 0 0 hf _ _ _ hP hS (lv_sub hl [0, 1, 2, 3] rfl)

def f_T_isCream (LS : Nat) (xs : Nat → Int32) (a b c d : Nat) (I : Nat → Nat → Int32) (D : Nat → Nat → UInt64) (K : Nat → Nat → Int32) (M : Nat → Nat → UInt64) (p1 : Int32) : Option (Int32) :=
  bd (f_T_sum LS xs a b c d I D K M p1 0) (fun r_1 => bd (f_T_all LS xs a b c d I D K M p1) (fun r_4 => (if r_1 < (100 * r_4) then some 0 else bd (f_T_sum LS xs a b c d I D K M p1 1) (fun r_8 => bd (f_T_all LS xs a b c d I D K M p1) (fun r_11 => (if r_8 < (80 * r_11) then some 0 else some 1))))))
set_option maxHeartbeats 4000000 in
set_option maxRecDepth 100000 in
theorem mt_T_isCream (l : Launch) (dC : Nat → ClassId) (dI : Nat → Nat → Nat) (L : List Nat) (a b c d bS : Nat) (ad : Nat → Nat) (cy : Nat → ClassId) (hM : tOK L a b c d bS ad) (r LS : Nat) (xs : Nat → Int32) (sz : Nat) (I : Nat → Nat → Int32) (D : Nat → Nat → UInt64) (K : Nat → Nat → Int32) (M : Nat → Nat → UInt64) (p1 : Int32) (rr : Int32) (hf : f_T_isCream LS xs a b c d I D K M p1 = some rr) : Met l yX5_isCream wsX5_isCream ({ frames := 2, cells := 0, slots := 0, locals := 45 }) (va_Pc [.ref (ad 40), .int p1] (fun U => U.heap.size = sz ∧ tW dC dI L ad cy bS a b c d r LS xs I D K M U)) (va_Qi (fun r (_ : Unit) => rr = r) (fun _ _ => True) (fun q => sz ≤ q)) 0 0 (fun q => sz ≤ q) := by
  refine Met.ofW (cc := cX5_isCream) (maxL := 2) (ret := (some .boolean)) (by decide) rfl ?_
  intro p e s m args below meth cX s₁ B hml hv
  obtain ⟨rfl, hsz, hP, hK, hN, hX0⟩ := hv
  have hx := B.exec
  have hb := B.bytes
  have hr := B.returns
  have hts := atoms_spec (ws := wsX5_isCream) B.pre
  have hown : s.vm.findClass RX5 = some m.cls := findClass_of_methodNamed B.named
  have hlocks := B.notSynchronized
  subst hsz
  have hbl : bS < s.heap.size := by obtain ⟨scr, h, -⟩ := hX0; exact (Array.getElem?_eq_some_iff.mp h).1
  generalize hAe : (fun q : Nat => s.heap.size ≤ q) = A
  have hA : ∀ q : Nat, s.heap.size ≤ q → A q := fun q h => by rw [← hAe]; exact h
  have hbA : ¬ A bS := fun h => by rw [← hAe] at h; exact Nat.lt_irrefl _ (Nat.lt_of_lt_of_le hbl h)
  obtain ⟨H, hH⟩ : ∃ H : Heap, H = s.heap := ⟨_, rfl⟩
  have hS : va_S A s.heap H [] := by rw [hH]; exact va_S.rf
  have hP : va_P (dC, dI) vwCl (iwT L ad cy bS a b c d r I D K M) H := by rw [hH]; exact hP
  suffices hgo : ∀ locs, va_S A s.heap H locs → W p l e (headSpec wsX5_isCream ({ frames := 2, cells := 0, slots := 0, locals := 45 })).room s m ([.ref (ad 40), .int p1] : List Value).toArray below meth cX H locs 0 0 (MQ below (va_Qi (fun r (_ : Unit) => rr = r) (fun _ _ => True) A) ([.ref (ad 40), .int p1] : List Value).toArray s 0 0 A) (entryFrame m ([.ref (ad 40), .int p1] : List Value).toArray 2) by subst hH; exact hgo [] hS
  clear hS hH
  intro locs hS
  have hl := lv_entry ([.ref (ad 40), .int p1]) (n := 2) (Nat.le_of_ble_eq_true rfl)
  rw [lg_entry_eq]
  generalize (lg_sl ([.ref (ad 40), .int p1]) ++ List.replicate (2 - (lg_sl ([.ref (ad 40), .int p1])).length) Slot.unset).toArray = ls at hl ⊢
  have hl : lv_has ls 2 [(0, .ref (ad 40)), (1, .int p1)] := hl
  unfold f_T_isCream at hf
  refine lv_aload_n hx hb dX5_isCream_0 rfl (lv_at hl 0 rfl) ?_
  refine lv_iload_n hx hb dX5_isCream_1 rfl (lv_at hl 1 rfl) ?_
  refine lv_iconst (v := 0) hx hb dX5_isCream_2 (by decide) ?_
  obtain ⟨r_1, g_2, hf⟩ := bd_out hf
  obtain ⟨q_3, wq_3, heq_3⟩ := heT_40 (L := L) (ad := ad) (cy := cy) (bS := bS) (a := a) (b := b) (c := c) (d := d) (r := r) (I := I) (D := D) (K := K) (M := M) hM
  refine va_calli (va_runV (As := [.int p1, .int 0]) (rest := []) ⟨hx, hb, hml, hown, hts⟩ (mt_T_sum l dC dI L a b c d bS ad cy hM r LS xs H.size I D K M p1 0 r_1 g_2) (cwV 2 hts gX5_isCream_X5_sum rfl rfl rfl (by decide +kernel) ⟨(Nat.le_of_ble_eq_true rfl), (Nat.le_of_ble_eq_true rfl)⟩) ⟨(tW.pre [.ref (ad 40), .int p1, .int 0] hP hK hN (hX0.kept (hS.2.1 bS hbl hbA))).1, tW.recv (C := RX5) (T := TX5) (N := 11) hP hK heq_3 rfl, (tW.pre [.ref (ad 40), .int p1, .int 0] hP hK hN (hX0.kept (hS.2.1 bS hbl hbA))).2⟩ rfl rfl hl.1 rfl (lv_room (Nat.le_of_ble_eq_true rfl)) dX5_isCream_3 ⟨(Nat.le_of_ble_eq_true rfl), (Nat.le_of_ble_eq_true rfl)⟩) hS (fun q _ h => hA q (Nat.le_trans hS.1 h)) (fun q h => hA q (Nat.le_trans hS.1 h)) (fun r9 u t H1 locs ht hvm hw hB hz1 hk1 hS9 => ?_)
  subst hw
  have hP := va_Pnew hP hk1
  have hS := hS9
  clear hB hz1 hk1 hvm ht hS9
  generalize H1 = H at hP hS ⊢
  refine lv_bipush (v := 100) hx hb dX5_isCream_6 (by decide) ?_
  refine lv_aload_n hx hb dX5_isCream_8 rfl (lv_at hl 0 rfl) ?_
  refine lv_iload_n hx hb dX5_isCream_9 rfl (lv_at hl 1 rfl) ?_
  obtain ⟨r_4, g_5, hf⟩ := bd_out hf
  obtain ⟨q_6, wq_6, heq_6⟩ := heT_40 (L := L) (ad := ad) (cy := cy) (bS := bS) (a := a) (b := b) (c := c) (d := d) (r := r) (I := I) (D := D) (K := K) (M := M) hM
  refine va_calli (va_runV (As := [.int p1]) (rest := [.int 100, .int r_1]) ⟨hx, hb, hml, hown, hts⟩ (mt_T_all l dC dI L a b c d bS ad cy hM r LS xs H.size I D K M p1 r_4 g_5) (cwV 1 hts gX5_isCream_X5_all rfl rfl rfl (by decide +kernel) ⟨(Nat.le_of_ble_eq_true rfl), (Nat.le_of_ble_eq_true rfl)⟩) ⟨(tW.pre [.ref (ad 40), .int p1] hP hK hN (hX0.kept (hS.2.1 bS hbl hbA))).1, tW.recv (C := RX5) (T := TX5) (N := 11) hP hK heq_6 rfl, (tW.pre [.ref (ad 40), .int p1] hP hK hN (hX0.kept (hS.2.1 bS hbl hbA))).2⟩ rfl rfl hl.1 rfl (lv_room (Nat.le_of_ble_eq_true rfl)) dX5_isCream_10 ⟨(Nat.le_of_ble_eq_true rfl), (Nat.le_of_ble_eq_true rfl)⟩) hS (fun q _ h => hA q (Nat.le_trans hS.1 h)) (fun q h => hA q (Nat.le_trans hS.1 h)) (fun r9 u t H1 locs ht hvm hw hB hz1 hk1 hS9 => ?_)
  subst hw
  have hP := va_Pnew hP hk1
  have hS := hS9
  clear hB hz1 hk1 hvm ht hS9
  generalize H1 = H at hP hS ⊢
  refine lv_imul hx hb dX5_isCream_13 ?_
  refine lv_icmp_lt (tgt := 38) hx hb dX5_isCream_14 (by decide) (fun c_7 => ?_) (fun c_7 => ?_)
  · have hf := it_t hf c_7
    refine lv_iconst (v := 0) hx hb dX5_isCream_38 (by decide) ?_
    have hf := Option.some.inj hf
    have q1 := hf
    exact W.zret (ty := .boolean) (v := 0) hx hb hr rfl (fun t ht hW9 => ⟨⟨0, (), rfl, q1.symm, trivial⟩, hS.F ht⟩) hS.2.2 dX5_isCream_39
  · have hf := it_f hf c_7
    refine lv_aload_n hx hb dX5_isCream_17 rfl (lv_at hl 0 rfl) ?_
    refine lv_iload_n hx hb dX5_isCream_18 rfl (lv_at hl 1 rfl) ?_
    refine lv_iconst (v := 1) hx hb dX5_isCream_19 (by decide) ?_
    obtain ⟨r_8, g_9, hf⟩ := bd_out hf
    obtain ⟨q_10, wq_10, heq_10⟩ := heT_40 (L := L) (ad := ad) (cy := cy) (bS := bS) (a := a) (b := b) (c := c) (d := d) (r := r) (I := I) (D := D) (K := K) (M := M) hM
    refine va_calli (va_runV (As := [.int p1, .int 1]) (rest := []) ⟨hx, hb, hml, hown, hts⟩ (mt_T_sum l dC dI L a b c d bS ad cy hM r LS xs H.size I D K M p1 1 r_8 g_9) (cwV 2 hts gX5_isCream_X5_sum rfl rfl rfl (by decide +kernel) ⟨(Nat.le_of_ble_eq_true rfl), (Nat.le_of_ble_eq_true rfl)⟩) ⟨(tW.pre [.ref (ad 40), .int p1, .int 1] hP hK hN (hX0.kept (hS.2.1 bS hbl hbA))).1, tW.recv (C := RX5) (T := TX5) (N := 11) hP hK heq_10 rfl, (tW.pre [.ref (ad 40), .int p1, .int 1] hP hK hN (hX0.kept (hS.2.1 bS hbl hbA))).2⟩ rfl rfl hl.1 rfl (lv_room (Nat.le_of_ble_eq_true rfl)) dX5_isCream_20 ⟨(Nat.le_of_ble_eq_true rfl), (Nat.le_of_ble_eq_true rfl)⟩) hS (fun q _ h => hA q (Nat.le_trans hS.1 h)) (fun q h => hA q (Nat.le_trans hS.1 h)) (fun r9 u t H1 locs ht hvm hw hB hz1 hk1 hS9 => ?_)
    subst hw
    have hP := va_Pnew hP hk1
    have hS := hS9
    clear hB hz1 hk1 hvm ht hS9
    generalize H1 = H at hP hS ⊢
    refine lv_bipush (v := 80) hx hb dX5_isCream_23 (by decide) ?_
    refine lv_aload_n hx hb dX5_isCream_25 rfl (lv_at hl 0 rfl) ?_
    refine lv_iload_n hx hb dX5_isCream_26 rfl (lv_at hl 1 rfl) ?_
    obtain ⟨r_11, g_12, hf⟩ := bd_out hf
    obtain ⟨q_13, wq_13, heq_13⟩ := heT_40 (L := L) (ad := ad) (cy := cy) (bS := bS) (a := a) (b := b) (c := c) (d := d) (r := r) (I := I) (D := D) (K := K) (M := M) hM
    refine va_calli (va_runV (As := [.int p1]) (rest := [.int 80, .int r_8]) ⟨hx, hb, hml, hown, hts⟩ (mt_T_all l dC dI L a b c d bS ad cy hM r LS xs H.size I D K M p1 r_11 g_12) (cwV 1 hts gX5_isCream_X5_all rfl rfl rfl (by decide +kernel) ⟨(Nat.le_of_ble_eq_true rfl), (Nat.le_of_ble_eq_true rfl)⟩) ⟨(tW.pre [.ref (ad 40), .int p1] hP hK hN (hX0.kept (hS.2.1 bS hbl hbA))).1, tW.recv (C := RX5) (T := TX5) (N := 11) hP hK heq_13 rfl, (tW.pre [.ref (ad 40), .int p1] hP hK hN (hX0.kept (hS.2.1 bS hbl hbA))).2⟩ rfl rfl hl.1 rfl (lv_room (Nat.le_of_ble_eq_true rfl)) dX5_isCream_27 ⟨(Nat.le_of_ble_eq_true rfl), (Nat.le_of_ble_eq_true rfl)⟩) hS (fun q _ h => hA q (Nat.le_trans hS.1 h)) (fun q h => hA q (Nat.le_trans hS.1 h)) (fun r9 u t H1 locs ht hvm hw hB hz1 hk1 hS9 => ?_)
    subst hw
    have hP := va_Pnew hP hk1
    have hS := hS9
    clear hB hz1 hk1 hvm ht hS9
    generalize H1 = H at hP hS ⊢
    refine lv_imul hx hb dX5_isCream_30 ?_
    refine lv_icmp_lt (tgt := 38) hx hb dX5_isCream_31 (by decide) (fun c_14 => ?_) (fun c_14 => ?_)
    · have hf := it_t hf c_14
      refine lv_iconst (v := 0) hx hb dX5_isCream_38 (by decide) ?_
      have hf := Option.some.inj hf
      have q1 := hf
      exact W.zret (ty := .boolean) (v := 0) hx hb hr rfl (fun t ht hW9 => ⟨⟨0, (), rfl, q1.symm, trivial⟩, hS.F ht⟩) hS.2.2 dX5_isCream_39
    · have hf := it_f hf c_14
      refine lv_iconst (v := 1) hx hb dX5_isCream_34 (by decide) ?_
      refine lv_goto (tgt := 39) hx hb dX5_isCream_35 (by decide) ?_
      have hf := Option.some.inj hf
      have q1 := hf
      exact W.zret (ty := .boolean) (v := 1) hx hb hr rfl (fun t ht hW9 => ⟨⟨1, (), rfl, q1.symm, trivial⟩, hS.F ht⟩) hS.2.2 dX5_isCream_39

def f_T_bars (LS : Nat) (xs : Nat → Int32) (a b c d : Nat) (I : Nat → Nat → Int32) (D : Nat → Nat → UInt64) (K : Nat → Nat → Int32) (M : Nat → Nat → UInt64) (p1 : Int32) (p2 : Int32) (p3 : Int32) (p4 : Int32) : Option (Int32) :=
  ck (inB p2 b) (ck (inB 7 10) ((if (K (60 + (p2).toNatClampNeg) (7 : Int32).toNatClampNeg) = 0 then some 1 else ck (inB 8 10) ((if 4 ≤ (K (60 + (p2).toNatClampNeg) (8 : Int32).toNatClampNeg) then ck (inB 8 10) ((if (K (60 + (p2).toNatClampNeg) (8 : Int32).toNatClampNeg) ≤ 72 then ck (inB 6 10) ((if p3 ≤ (K (60 + (p2).toNatClampNeg) (6 : Int32).toNatClampNeg) then ck (inB p1 2) (bd (f_T_harms LS xs a b c d I D K M p2) (fun r_19 => bd (f_T_harms LS xs a b c d I D K M p2) (fun r_22 => (if ((K 44 (p1).toNatClampNeg) ||| r_19) = r_22 then (if p4 ≤ 100 then (if (nI c) ≤ 11 then some 0 else some 7) else bd (f_T_isCream LS xs a b c d I D K M p2) (fun r_30 => (if r_30 = 0 then (if (nI c) ≤ 11 then some 0 else some 7) else some 6))) else some 5)))) else some 4)) else some 3)) else some 2)))))
theorem iT_bars_RX5 : ∀ w ∈ u_ws RX5 TX5 11, w ∈ wsX5_bars := fun w h => List.mem_cons_of_mem _ (List.mem_append_right _ (h))
set_option maxHeartbeats 4000000 in
set_option maxRecDepth 100000 in
theorem mt_T_bars (l : Launch) (dC : Nat → ClassId) (dI : Nat → Nat → Nat) (L : List Nat) (a b c d bS : Nat) (ad : Nat → Nat) (cy : Nat → ClassId) (hM : tOK L a b c d bS ad) (r LS : Nat) (xs : Nat → Int32) (sz : Nat) (I : Nat → Nat → Int32) (D : Nat → Nat → UInt64) (K : Nat → Nat → Int32) (M : Nat → Nat → UInt64) (p1 : Int32) (p2 : Int32) (p3 : Int32) (p4 : Int32) (rr : Int32) (hf : f_T_bars LS xs a b c d I D K M p1 p2 p3 p4 = some rr) : Met l yX5_bars wsX5_bars ({ frames := 3, cells := 0, slots := 0, locals := 66 }) (va_Pc [.ref (ad 40), .int p1, .int p2, .int p3, .int p4] (fun U => U.heap.size = sz ∧ tW dC dI L ad cy bS a b c d r LS xs I D K M U)) (va_Qi (fun r (_ : Unit) => rr = r) (fun _ _ => True) (fun q => sz ≤ q)) 0 0 (fun q => sz ≤ q) := by
  refine Met.ofW (cc := cX5_bars) (maxL := 6) (ret := (some .int)) (by decide) rfl ?_
  intro p e s m args below meth cX s₁ B hml hv
  obtain ⟨rfl, hsz, hP, hK, hN, hX0⟩ := hv
  have hx := B.exec
  have hb := B.bytes
  have hr := B.returns
  have hts := atoms_spec (ws := wsX5_bars) B.pre
  have hown : s.vm.findClass RX5 = some m.cls := findClass_of_methodNamed B.named
  have hlocks := B.notSynchronized
  subst hsz
  have hbl : bS < s.heap.size := by obtain ⟨scr, h, -⟩ := hX0; exact (Array.getElem?_eq_some_iff.mp h).1
  generalize hAe : (fun q : Nat => s.heap.size ≤ q) = A
  have hA : ∀ q : Nat, s.heap.size ≤ q → A q := fun q h => by rw [← hAe]; exact h
  have hbA : ¬ A bS := fun h => by rw [← hAe] at h; exact Nat.lt_irrefl _ (Nat.lt_of_lt_of_le hbl h)
  obtain ⟨H, hH⟩ : ∃ H : Heap, H = s.heap := ⟨_, rfl⟩
  have hS : va_S A s.heap H [] := by rw [hH]; exact va_S.rf
  have hP : va_P (dC, dI) vwCl (iwT L ad cy bS a b c d r I D K M) H := by rw [hH]; exact hP
  suffices hgo : ∀ locs, va_S A s.heap H locs → W p l e (headSpec wsX5_bars ({ frames := 3, cells := 0, slots := 0, locals := 66 })).room s m ([.ref (ad 40), .int p1, .int p2, .int p3, .int p4] : List Value).toArray below meth cX H locs 0 0 (MQ below (va_Qi (fun r (_ : Unit) => rr = r) (fun _ _ => True) A) ([.ref (ad 40), .int p1, .int p2, .int p3, .int p4] : List Value).toArray s 0 0 A) (entryFrame m ([.ref (ad 40), .int p1, .int p2, .int p3, .int p4] : List Value).toArray 6) by subst hH; exact hgo [] hS
  clear hS hH
  intro locs hS
  have hl := lv_entry ([.ref (ad 40), .int p1, .int p2, .int p3, .int p4]) (n := 6) (Nat.le_of_ble_eq_true rfl)
  rw [lg_entry_eq]
  generalize (lg_sl ([.ref (ad 40), .int p1, .int p2, .int p3, .int p4]) ++ List.replicate (6 - (lg_sl ([.ref (ad 40), .int p1, .int p2, .int p3, .int p4])).length) Slot.unset).toArray = ls at hl ⊢
  have hl : lv_has ls 6 [(0, .ref (ad 40)), (1, .int p1), (2, .int p2), (3, .int p3), (4, .int p4)] := hl
  unfold f_T_bars at hf
  refine lv_aload_n hx hb dX5_bars_0 rfl (lv_at hl 0 rfl) ?_
  obtain ⟨q_1, wq_1, heq_1⟩ := heT_40 (L := L) (ad := ad) (cy := cy) (bS := bS) (a := a) (b := b) (c := c) (d := d) (r := r) (I := I) (D := D) (K := K) (M := M) hM
  refine va_get (D := (dC, dI)) (ci := 5) (v := .ref (ad 48)) (C := RX5) (T := TX5) (N := 11) hx hb hts iT_bars_RX5 hown hK hP q_1 heq_1 rfl 4 (by decide) (hts (.fieldLink RX5 22 "OverrunHouseLaw$Told" "mixes" "[[I") (List.mem_cons_of_mem _ (List.mem_append_left _ (List.mem_of_getElem? (i := 0) rfl)))) (fun _ h9 => h9) rfl dX5_bars_1 ?_
  refine lv_iload_n hx hb dX5_bars_4 rfl (lv_at hl 2 rfl) ?_
  obtain ⟨q_2, wq_2, heq_2⟩ := heT_48 (L := L) (ad := ad) (cy := cy) (bS := bS) (a := a) (b := b) (c := c) (d := d) (r := r) (I := I) (D := D) (K := K) (M := M) hM
  obtain ⟨h_3, hf⟩ := ck_out hf
  refine ra_lda (bs := 60) (n := b) hx hb hK hP q_2 heq_2 (inB_in h_3) dX5_bars_5 ?_
  refine lv_astore (lv' := [(5, .ref (ad (60 + (p2).toNatClampNeg))), (0, .ref (ad 40)), (1, .int p1), (2, .int p2), (3, .int p3), (4, .int p4)]) hx hb dX5_bars_6 hl (by decide) rfl (fun ls hl => ?_)
  refine lv_aload hx hb dX5_bars_8 (lv_at hl 0 rfl) ?_
  refine lv_bipush (v := 7) hx hb dX5_bars_10 (by decide) ?_
  obtain ⟨q_4, wq_4, heq_4⟩ := heT_Mixr (L := L) (ad := ad) (cy := cy) (bS := bS) (a := a) (b := b) (c := c) (d := d) (r := r) (I := I) (D := D) (K := K) (M := M) hM (inB_lt h_3)
  obtain ⟨h_5, hf⟩ := ck_out hf
  refine va_iald (n := 10) (f := K (60 + (p2).toNatClampNeg)) hx hb hK hP q_4 0 heq_4 rfl (inB_in h_5) dX5_bars_12 ?_
  refine lv_if_ne (tgt := 18) hx hb dX5_bars_13 (by decide) (fun c_6 => ?_) (fun c_6 => ?_)
  · have hf := it_f hf c_6
    refine lv_aload hx hb dX5_bars_18 (lv_at hl 0 rfl) ?_
    refine lv_bipush (v := 8) hx hb dX5_bars_20 (by decide) ?_
    obtain ⟨q_7, wq_7, heq_7⟩ := heT_Mixr (L := L) (ad := ad) (cy := cy) (bS := bS) (a := a) (b := b) (c := c) (d := d) (r := r) (I := I) (D := D) (K := K) (M := M) hM (inB_lt h_3)
    obtain ⟨h_8, hf⟩ := ck_out hf
    refine va_iald (n := 10) (f := K (60 + (p2).toNatClampNeg)) hx hb hK hP q_7 0 heq_7 rfl (inB_in h_8) dX5_bars_22 ?_
    refine lv_iconst (v := 4) hx hb dX5_bars_23 (by decide) ?_
    refine lv_icmp_ge (tgt := 29) hx hb dX5_bars_24 (by decide) (fun c_9 => ?_) (fun c_9 => ?_)
    · have hf := it_t hf c_9
      refine lv_aload hx hb dX5_bars_29 (lv_at hl 0 rfl) ?_
      refine lv_bipush (v := 8) hx hb dX5_bars_31 (by decide) ?_
      obtain ⟨q_10, wq_10, heq_10⟩ := heT_Mixr (L := L) (ad := ad) (cy := cy) (bS := bS) (a := a) (b := b) (c := c) (d := d) (r := r) (I := I) (D := D) (K := K) (M := M) hM (inB_lt h_3)
      obtain ⟨h_11, hf⟩ := ck_out hf
      refine va_iald (n := 10) (f := K (60 + (p2).toNatClampNeg)) hx hb hK hP q_10 0 heq_10 rfl (inB_in h_11) dX5_bars_33 ?_
      refine lv_bipush (v := 72) hx hb dX5_bars_34 (by decide) ?_
      refine lv_icmp_le (tgt := 41) hx hb dX5_bars_36 (by decide) (fun c_12 => ?_) (fun c_12 => ?_)
      · have hf := it_t hf c_12
        refine lv_iload_n hx hb dX5_bars_41 rfl (lv_at hl 4 rfl) ?_
        refine lv_aload hx hb dX5_bars_42 (lv_at hl 0 rfl) ?_
        refine lv_bipush (v := 6) hx hb dX5_bars_44 (by decide) ?_
        obtain ⟨q_13, wq_13, heq_13⟩ := heT_Mixr (L := L) (ad := ad) (cy := cy) (bS := bS) (a := a) (b := b) (c := c) (d := d) (r := r) (I := I) (D := D) (K := K) (M := M) hM (inB_lt h_3)
        obtain ⟨h_14, hf⟩ := ck_out hf
        refine va_iald (n := 10) (f := K (60 + (p2).toNatClampNeg)) hx hb hK hP q_13 0 heq_13 rfl (inB_in h_14) dX5_bars_46 ?_
        refine lv_icmp_le (tgt := 52) hx hb dX5_bars_47 (by decide) (fun c_15 => ?_) (fun c_15 => ?_)
        · have hf := it_t hf c_15
          refine lv_aload_n hx hb dX5_bars_52 rfl (lv_at hl 1 rfl) ?_
          obtain ⟨q_16, wq_16, heq_16⟩ := heT_40 (L := L) (ad := ad) (cy := cy) (bS := bS) (a := a) (b := b) (c := c) (d := d) (r := r) (I := I) (D := D) (K := K) (M := M) hM
          refine va_get (D := (dC, dI)) (ci := 5) (v := .ref (ad 44)) (C := RX5) (T := TX5) (N := 11) hx hb hts iT_bars_RX5 hown hK hP q_16 heq_16 rfl 9 (by decide) (hts (.fieldLink RX5 38 "OverrunHouseLaw$Told" "rests" "[I") (List.mem_cons_of_mem _ (List.mem_append_left _ (List.mem_of_getElem? (i := 1) rfl)))) (fun _ h9 => h9) rfl dX5_bars_53 ?_
          refine lv_iload_n hx hb dX5_bars_56 rfl (lv_at hl 2 rfl) ?_
          obtain ⟨q_17, wq_17, heq_17⟩ := heT_44 (L := L) (ad := ad) (cy := cy) (bS := bS) (a := a) (b := b) (c := c) (d := d) (r := r) (I := I) (D := D) (K := K) (M := M) hM
          obtain ⟨h_18, hf⟩ := ck_out hf
          refine va_iald (n := 2) (f := K 44) hx hb hK hP q_17 0 heq_17 rfl (inB_in h_18) dX5_bars_57 ?_
          refine lv_aload_n hx hb dX5_bars_58 rfl (lv_at hl 1 rfl) ?_
          refine lv_iload_n hx hb dX5_bars_59 rfl (lv_at hl 3 rfl) ?_
          obtain ⟨r_19, g_20, hf⟩ := bd_out hf
          obtain ⟨q_21, wq_21, heq_21⟩ := heT_40 (L := L) (ad := ad) (cy := cy) (bS := bS) (a := a) (b := b) (c := c) (d := d) (r := r) (I := I) (D := D) (K := K) (M := M) hM
          refine va_calli (va_runV (As := [.int p2]) (rest := [.int (K 44 (p1).toNatClampNeg)]) ⟨hx, hb, hml, hown, hts⟩ (mt_T_harms l dC dI L a b c d bS ad cy hM r LS xs H.size I D K M p2 r_19 g_20) (cwV 1 hts gX5_bars_X5_harms rfl rfl rfl (by decide +kernel) ⟨(Nat.le_of_ble_eq_true rfl), (Nat.le_of_ble_eq_true rfl)⟩) ⟨(tW.pre [.ref (ad 40), .int p2] hP hK hN (hX0.kept (hS.2.1 bS hbl hbA))).1, tW.recv (C := RX5) (T := TX5) (N := 11) hP hK heq_21 rfl, (tW.pre [.ref (ad 40), .int p2] hP hK hN (hX0.kept (hS.2.1 bS hbl hbA))).2⟩ rfl rfl hl.1 rfl (lv_room (Nat.le_of_ble_eq_true rfl)) dX5_bars_60 ⟨(Nat.le_of_ble_eq_true rfl), (Nat.le_of_ble_eq_true rfl)⟩) hS (fun q _ h => hA q (Nat.le_trans hS.1 h)) (fun q h => hA q (Nat.le_trans hS.1 h)) (fun r9 u t H1 locs ht hvm hw hB hz1 hk1 hS9 => ?_)
          subst hw
          have hP := va_Pnew hP hk1
          have hS := hS9
          clear hB hz1 hk1 hvm ht hS9
          generalize H1 = H at hP hS ⊢
          refine lv_ior hx hb dX5_bars_63 ?_
          refine lv_aload_n hx hb dX5_bars_64 rfl (lv_at hl 1 rfl) ?_
          refine lv_iload_n hx hb dX5_bars_65 rfl (lv_at hl 3 rfl) ?_
          obtain ⟨r_22, g_23, hf⟩ := bd_out hf
          obtain ⟨q_24, wq_24, heq_24⟩ := heT_40 (L := L) (ad := ad) (cy := cy) (bS := bS) (a := a) (b := b) (c := c) (d := d) (r := r) (I := I) (D := D) (K := K) (M := M) hM
          refine va_calli (va_runV (As := [.int p2]) (rest := [.int ((K 44 (p1).toNatClampNeg) ||| r_19)]) ⟨hx, hb, hml, hown, hts⟩ (mt_T_harms l dC dI L a b c d bS ad cy hM r LS xs H.size I D K M p2 r_22 g_23) (cwV 1 hts gX5_bars_X5_harms rfl rfl rfl (by decide +kernel) ⟨(Nat.le_of_ble_eq_true rfl), (Nat.le_of_ble_eq_true rfl)⟩) ⟨(tW.pre [.ref (ad 40), .int p2] hP hK hN (hX0.kept (hS.2.1 bS hbl hbA))).1, tW.recv (C := RX5) (T := TX5) (N := 11) hP hK heq_24 rfl, (tW.pre [.ref (ad 40), .int p2] hP hK hN (hX0.kept (hS.2.1 bS hbl hbA))).2⟩ rfl rfl hl.1 rfl (lv_room (Nat.le_of_ble_eq_true rfl)) dX5_bars_66 ⟨(Nat.le_of_ble_eq_true rfl), (Nat.le_of_ble_eq_true rfl)⟩) hS (fun q _ h => hA q (Nat.le_trans hS.1 h)) (fun q h => hA q (Nat.le_trans hS.1 h)) (fun r9 u t H1 locs ht hvm hw hB hz1 hk1 hS9 => ?_)
          subst hw
          have hP := va_Pnew hP hk1
          have hS := hS9
          clear hB hz1 hk1 hvm ht hS9
          generalize H1 = H at hP hS ⊢
          refine lv_icmp_eq (tgt := 74) hx hb dX5_bars_69 (by decide) (fun c_25 => ?_) (fun c_25 => ?_)
          · have hf := it_t hf c_25
            refine lv_iload hx hb dX5_bars_74 (lv_at hl 5 rfl) ?_
            refine lv_bipush (v := 100) hx hb dX5_bars_76 (by decide) ?_
            refine lv_icmp_le (tgt := 92) hx hb dX5_bars_78 (by decide) (fun c_26 => ?_) (fun c_26 => ?_)
            · have hf := it_t hf c_26
              refine lv_aload_n hx hb dX5_bars_92 rfl (lv_at hl 1 rfl) ?_
              obtain ⟨q_27, wq_27, heq_27⟩ := heT_40 (L := L) (ad := ad) (cy := cy) (bS := bS) (a := a) (b := b) (c := c) (d := d) (r := r) (I := I) (D := D) (K := K) (M := M) hM
              refine va_get (D := (dC, dI)) (ci := 5) (v := .ref (ad 49)) (C := RX5) (T := TX5) (N := 11) hx hb hts iT_bars_RX5 hown hK hP q_27 heq_27 rfl 5 (by decide) (hts (.fieldLink RX5 25 "OverrunHouseLaw$Told" "batches" "[[I") (List.mem_cons_of_mem _ (List.mem_append_left _ (List.mem_of_getElem? (i := 2) rfl)))) (fun _ h9 => h9) rfl dX5_bars_93 ?_
              obtain ⟨q_28, wq_28, heq_28⟩ := heT_49 (L := L) (ad := ad) (cy := cy) (bS := bS) (a := a) (b := b) (c := c) (d := d) (r := r) (I := I) (D := D) (K := K) (M := M) hM
              refine va_alen (v := nI c) hx hb hK hP q_28 5 heq_28 rfl rfl dX5_bars_96 ?_
              refine lv_bipush (v := 11) hx hb dX5_bars_97 (by decide) ?_
              refine lv_icmp_le (tgt := 107) hx hb dX5_bars_99 (by decide) (fun c_29 => ?_) (fun c_29 => ?_)
              · have hf := it_t hf c_29
                refine lv_iconst (v := 0) hx hb dX5_bars_107 (by decide) ?_
                have hf := Option.some.inj hf
                have q1 := hf
                exact W.iret (v := 0) hx hb hr (fun t ht hW9 => ⟨⟨0, (), rfl, q1.symm, trivial⟩, hS.F ht⟩) hS.2.2 dX5_bars_108
              · have hf := it_f hf c_29
                refine lv_bipush (v := 7) hx hb dX5_bars_102 (by decide) ?_
                refine lv_goto (tgt := 108) hx hb dX5_bars_104 (by decide) ?_
                have hf := Option.some.inj hf
                have q1 := hf
                exact W.iret (v := 7) hx hb hr (fun t ht hW9 => ⟨⟨7, (), rfl, q1.symm, trivial⟩, hS.F ht⟩) hS.2.2 dX5_bars_108
            · have hf := it_f hf c_26
              refine lv_aload_n hx hb dX5_bars_81 rfl (lv_at hl 1 rfl) ?_
              refine lv_iload_n hx hb dX5_bars_82 rfl (lv_at hl 3 rfl) ?_
              obtain ⟨r_30, g_31, hf⟩ := bd_out hf
              obtain ⟨q_32, wq_32, heq_32⟩ := heT_40 (L := L) (ad := ad) (cy := cy) (bS := bS) (a := a) (b := b) (c := c) (d := d) (r := r) (I := I) (D := D) (K := K) (M := M) hM
              refine va_calli (va_runV (As := [.int p2]) (rest := []) ⟨hx, hb, hml, hown, hts⟩ (mt_T_isCream l dC dI L a b c d bS ad cy hM r LS xs H.size I D K M p2 r_30 g_31) (cwV 1 hts gX5_bars_X5_isCream rfl rfl rfl (by decide +kernel) ⟨(Nat.le_of_ble_eq_true rfl), (Nat.le_of_ble_eq_true rfl)⟩) ⟨(tW.pre [.ref (ad 40), .int p2] hP hK hN (hX0.kept (hS.2.1 bS hbl hbA))).1, tW.recv (C := RX5) (T := TX5) (N := 11) hP hK heq_32 rfl, (tW.pre [.ref (ad 40), .int p2] hP hK hN (hX0.kept (hS.2.1 bS hbl hbA))).2⟩ rfl rfl hl.1 rfl (lv_room (Nat.le_of_ble_eq_true rfl)) dX5_bars_83 ⟨(Nat.le_of_ble_eq_true rfl), (Nat.le_of_ble_eq_true rfl)⟩) hS (fun q _ h => hA q (Nat.le_trans hS.1 h)) (fun q h => hA q (Nat.le_trans hS.1 h)) (fun r9 u t H1 locs ht hvm hw hB hz1 hk1 hS9 => ?_)
              subst hw
              have hP := va_Pnew hP hk1
              have hS := hS9
              clear hB hz1 hk1 hvm ht hS9
              generalize H1 = H at hP hS ⊢
              refine lv_if_eq (tgt := 92) hx hb dX5_bars_86 (by decide) (fun c_33 => ?_) (fun c_33 => ?_)
              · have hf := it_t hf c_33
                refine lv_aload_n hx hb dX5_bars_92 rfl (lv_at hl 1 rfl) ?_
                obtain ⟨q_34, wq_34, heq_34⟩ := heT_40 (L := L) (ad := ad) (cy := cy) (bS := bS) (a := a) (b := b) (c := c) (d := d) (r := r) (I := I) (D := D) (K := K) (M := M) hM
                refine va_get (D := (dC, dI)) (ci := 5) (v := .ref (ad 49)) (C := RX5) (T := TX5) (N := 11) hx hb hts iT_bars_RX5 hown hK hP q_34 heq_34 rfl 5 (by decide) (hts (.fieldLink RX5 25 "OverrunHouseLaw$Told" "batches" "[[I") (List.mem_cons_of_mem _ (List.mem_append_left _ (List.mem_of_getElem? (i := 2) rfl)))) (fun _ h9 => h9) rfl dX5_bars_93 ?_
                obtain ⟨q_35, wq_35, heq_35⟩ := heT_49 (L := L) (ad := ad) (cy := cy) (bS := bS) (a := a) (b := b) (c := c) (d := d) (r := r) (I := I) (D := D) (K := K) (M := M) hM
                refine va_alen (v := nI c) hx hb hK hP q_35 5 heq_35 rfl rfl dX5_bars_96 ?_
                refine lv_bipush (v := 11) hx hb dX5_bars_97 (by decide) ?_
                refine lv_icmp_le (tgt := 107) hx hb dX5_bars_99 (by decide) (fun c_36 => ?_) (fun c_36 => ?_)
                · have hf := it_t hf c_36
                  refine lv_iconst (v := 0) hx hb dX5_bars_107 (by decide) ?_
                  have hf := Option.some.inj hf
                  have q1 := hf
                  exact W.iret (v := 0) hx hb hr (fun t ht hW9 => ⟨⟨0, (), rfl, q1.symm, trivial⟩, hS.F ht⟩) hS.2.2 dX5_bars_108
                · have hf := it_f hf c_36
                  refine lv_bipush (v := 7) hx hb dX5_bars_102 (by decide) ?_
                  refine lv_goto (tgt := 108) hx hb dX5_bars_104 (by decide) ?_
                  have hf := Option.some.inj hf
                  have q1 := hf
                  exact W.iret (v := 7) hx hb hr (fun t ht hW9 => ⟨⟨7, (), rfl, q1.symm, trivial⟩, hS.F ht⟩) hS.2.2 dX5_bars_108
              · have hf := it_f hf c_33
                refine lv_bipush (v := 6) hx hb dX5_bars_89 (by decide) ?_
                have hf := Option.some.inj hf
                have q1 := hf
                exact W.iret (v := 6) hx hb hr (fun t ht hW9 => ⟨⟨6, (), rfl, q1.symm, trivial⟩, hS.F ht⟩) hS.2.2 dX5_bars_91
          · have hf := it_f hf c_25
            refine lv_iconst (v := 5) hx hb dX5_bars_72 (by decide) ?_
            have hf := Option.some.inj hf
            have q1 := hf
            exact W.iret (v := 5) hx hb hr (fun t ht hW9 => ⟨⟨5, (), rfl, q1.symm, trivial⟩, hS.F ht⟩) hS.2.2 dX5_bars_73
        · have hf := it_f hf c_15
          refine lv_iconst (v := 4) hx hb dX5_bars_50 (by decide) ?_
          have hf := Option.some.inj hf
          have q1 := hf
          exact W.iret (v := 4) hx hb hr (fun t ht hW9 => ⟨⟨4, (), rfl, q1.symm, trivial⟩, hS.F ht⟩) hS.2.2 dX5_bars_51
      · have hf := it_f hf c_12
        refine lv_iconst (v := 3) hx hb dX5_bars_39 (by decide) ?_
        have hf := Option.some.inj hf
        have q1 := hf
        exact W.iret (v := 3) hx hb hr (fun t ht hW9 => ⟨⟨3, (), rfl, q1.symm, trivial⟩, hS.F ht⟩) hS.2.2 dX5_bars_40
    · have hf := it_f hf c_9
      refine lv_iconst (v := 2) hx hb dX5_bars_27 (by decide) ?_
      have hf := Option.some.inj hf
      have q1 := hf
      exact W.iret (v := 2) hx hb hr (fun t ht hW9 => ⟨⟨2, (), rfl, q1.symm, trivial⟩, hS.F ht⟩) hS.2.2 dX5_bars_28
  · have hf := it_t hf c_6
    refine lv_iconst (v := 1) hx hb dX5_bars_16 (by decide) ?_
    have hf := Option.some.inj hf
    have q1 := hf
    exact W.iret (v := 1) hx hb hr (fun t ht hW9 => ⟨⟨1, (), rfl, q1.symm, trivial⟩, hS.F ht⟩) hS.2.2 dX5_bars_17

def f_T_in_J41 (rec14 : Int32 → Int32 → Option (Int32)) (x5_14 : Int32) (x2_14 : Int32) (z0_41 : Int32) : Option (Int32) :=
  rec14 (x5_14 + 1) (x2_14 + z0_41)
def f_T_in_L14 (c : Nat) (K : Nat → Nat → Int32) (p1 : Int32) : Nat → Int32 → Int32 → Option (Int32)
  | 0, _, _ => none
  | n14 + 1, x5_14, x2_14 => (if (nI c) ≤ x5_14 then some x2_14 else ck (inB x5_14 c) (ck (inB 3 4) ((if (K (70 + (x5_14).toNatClampNeg) (3 : Int32).toNatClampNeg) = p1 then f_T_in_J41 (f_T_in_L14 c K p1 n14) x5_14 x2_14 1 else f_T_in_J41 (f_T_in_L14 c K p1 n14) x5_14 x2_14 0))))
def f_T_in (LS : Nat) (xs : Nat → Int32) (a b c d : Nat) (I : Nat → Nat → Int32) (D : Nat → Nat → UInt64) (K : Nat → Nat → Int32) (M : Nat → Nat → UInt64) (p1 : Int32) : Option (Int32) :=
  f_T_in_L14 c K p1 200 0 0
theorem iT_in_RX5 : ∀ w ∈ u_ws RX5 TX5 11, w ∈ wsX5_in := fun w h => List.mem_cons_of_mem _ (List.mem_append_right _ (h))
set_option maxHeartbeats 4000000 in
set_option maxRecDepth 100000 in
theorem mt_T_in (l : Launch) (dC : Nat → ClassId) (dI : Nat → Nat → Nat) (L : List Nat) (a b c d bS : Nat) (ad : Nat → Nat) (cy : Nat → ClassId) (hM : tOK L a b c d bS ad) (r LS : Nat) (xs : Nat → Int32) (sz : Nat) (I : Nat → Nat → Int32) (D : Nat → Nat → UInt64) (K : Nat → Nat → Int32) (M : Nat → Nat → UInt64) (p1 : Int32) (rr : Int32) (hf : f_T_in LS xs a b c d I D K M p1 = some rr) : Met l yX5_in wsX5_in ({ frames := 0, cells := 0, slots := 0, locals := 0 }) (va_Pc [.ref (ad 40), .int p1] (fun U => U.heap.size = sz ∧ tW dC dI L ad cy bS a b c d r LS xs I D K M U)) (va_Qi (fun r (_ : Unit) => rr = r) (fun _ _ => True) (fun q => sz ≤ q)) 0 0 (fun q => sz ≤ q) := by
  refine Met.ofW (cc := cX5_in) (maxL := 7) (ret := (some .int)) (by decide) rfl ?_
  intro p e s m args below meth cX s₁ B hml hv
  obtain ⟨rfl, hsz, hP, hK, hN, hX0⟩ := hv
  have hx := B.exec
  have hb := B.bytes
  have hr := B.returns
  have hts := atoms_spec (ws := wsX5_in) B.pre
  have hown : s.vm.findClass RX5 = some m.cls := findClass_of_methodNamed B.named
  have hlocks := B.notSynchronized
  subst hsz
  have hbl : bS < s.heap.size := by obtain ⟨scr, h, -⟩ := hX0; exact (Array.getElem?_eq_some_iff.mp h).1
  generalize hAe : (fun q : Nat => s.heap.size ≤ q) = A
  have hA : ∀ q : Nat, s.heap.size ≤ q → A q := fun q h => by rw [← hAe]; exact h
  have hbA : ¬ A bS := fun h => by rw [← hAe] at h; exact Nat.lt_irrefl _ (Nat.lt_of_lt_of_le hbl h)
  obtain ⟨H, hH⟩ : ∃ H : Heap, H = s.heap := ⟨_, rfl⟩
  have hS : va_S A s.heap H [] := by rw [hH]; exact va_S.rf
  have hP : va_P (dC, dI) vwCl (iwT L ad cy bS a b c d r I D K M) H := by rw [hH]; exact hP
  suffices hgo : ∀ locs, va_S A s.heap H locs → W p l e (headSpec wsX5_in ({ frames := 0, cells := 0, slots := 0, locals := 0 })).room s m ([.ref (ad 40), .int p1] : List Value).toArray below meth cX H locs 0 0 (MQ below (va_Qi (fun r (_ : Unit) => rr = r) (fun _ _ => True) A) ([.ref (ad 40), .int p1] : List Value).toArray s 0 0 A) (entryFrame m ([.ref (ad 40), .int p1] : List Value).toArray 7) by subst hH; exact hgo [] hS
  clear hS hH
  intro locs hS
  have hl := lv_entry ([.ref (ad 40), .int p1]) (n := 7) (Nat.le_of_ble_eq_true rfl)
  rw [lg_entry_eq]
  generalize (lg_sl ([.ref (ad 40), .int p1]) ++ List.replicate (7 - (lg_sl ([.ref (ad 40), .int p1])).length) Slot.unset).toArray = ls at hl ⊢
  have hl : lv_has ls 7 [(0, .ref (ad 40)), (1, .int p1)] := hl
  unfold f_T_in at hf
  refine lv_iconst (v := 0) hx hb dX5_in_0 (by decide) ?_
  refine lv_istore_n (lv' := [(2, .int 0), (0, .ref (ad 40)), (1, .int p1)]) hx hb dX5_in_1 rfl hl (by decide) rfl (fun ls hl => ?_)
  refine lv_aload_n hx hb dX5_in_2 rfl (lv_at hl 1 rfl) ?_
  obtain ⟨q_1, wq_1, heq_1⟩ := heT_40 (L := L) (ad := ad) (cy := cy) (bS := bS) (a := a) (b := b) (c := c) (d := d) (r := r) (I := I) (D := D) (K := K) (M := M) hM
  refine va_get (D := (dC, dI)) (ci := 5) (v := .ref (ad 49)) (C := RX5) (T := TX5) (N := 11) hx hb hts iT_in_RX5 hown hK hP q_1 heq_1 rfl 5 (by decide) (hts (.fieldLink RX5 25 "OverrunHouseLaw$Told" "batches" "[[I") (List.mem_cons_of_mem _ (List.mem_append_left _ (List.mem_of_getElem? (i := 0) rfl)))) (fun _ h9 => h9) rfl dX5_in_3 ?_
  refine lv_astore_n (lv' := [(3, .ref (ad 49)), (2, .int 0), (0, .ref (ad 40)), (1, .int p1)]) hx hb dX5_in_6 rfl hl (by decide) rfl (fun ls hl => ?_)
  refine lv_aload_n hx hb dX5_in_7 rfl (lv_at hl 0 rfl) ?_
  obtain ⟨q_2, wq_2, heq_2⟩ := heT_49 (L := L) (ad := ad) (cy := cy) (bS := bS) (a := a) (b := b) (c := c) (d := d) (r := r) (I := I) (D := D) (K := K) (M := M) hM
  refine va_alen (v := nI c) hx hb hK hP q_2 5 heq_2 rfl rfl dX5_in_8 ?_
  refine lv_istore (lv' := [(4, .int (nI c)), (3, .ref (ad 49)), (2, .int 0), (0, .ref (ad 40)), (1, .int p1)]) hx hb dX5_in_9 hl (by decide) rfl (fun ls hl => ?_)
  refine lv_iconst (v := 0) hx hb dX5_in_11 (by decide) ?_
  refine lv_istore (lv' := [(5, .int 0), (4, .int (nI c)), (3, .ref (ad 49)), (2, .int 0), (0, .ref (ad 40)), (1, .int p1)]) hx hb dX5_in_12 hl (by decide) rfl (fun ls hl => ?_)
  have L14 : ∀ (n14 : Nat) (x5_14 : Int32) (x2_14 : Int32), f_T_in_L14 c K p1 n14 x5_14 x2_14 = some rr → ∀ (H : Heap) (locs : List Loc) (ls : Array Slot), va_P (dC, dI) vwCl (iwT L ad cy bS a b c d r I D K M) H → va_S A s.heap H locs → lv_has ls 7 [(5, .int x5_14), (4, .int (nI c)), (3, .ref (ad 49)), (2, .int x2_14), (0, .ref (ad 40)), (1, .int p1)] → W p l e (headSpec wsX5_in ({ frames := 0, cells := 0, slots := 0, locals := 0 })).room s m ([.ref (ad 40), .int p1] : List Value).toArray below meth cX H locs 0 0 (MQ below (va_Qi (fun r (_ : Unit) => rr = r) (fun _ _ => True) A) ([.ref (ad 40), .int p1] : List Value).toArray s 0 0 A) (F0 m 14 ls []) := by
    intro n14
    induction n14 with
    | zero => intro x5_14 x2_14 hf; exact nomatch hf
    | succ n14 ih14 =>
      intro x5_14 x2_14 hf H locs ls hP hS hl
      unfold f_T_in_L14 at hf
      refine lv_iload hx hb dX5_in_14 (lv_at hl 0 rfl) ?_
      refine lv_iload hx hb dX5_in_16 (lv_at hl 1 rfl) ?_
      refine lv_icmp_ge (tgt := 49) hx hb dX5_in_18 (by decide) (fun c_3 => ?_) (fun c_3 => ?_)
      · have hf := it_t hf c_3
        refine lv_iload_n hx hb dX5_in_49 rfl (lv_at hl 3 rfl) ?_
        have hf := Option.some.inj hf
        have q1 := hf
        exact W.iret (v := x2_14) hx hb hr (fun t ht hW9 => ⟨⟨x2_14, (), rfl, q1.symm, trivial⟩, hS.F ht⟩) hS.2.2 dX5_in_50
      · have hf := it_f hf c_3
        refine lv_aload_n hx hb dX5_in_21 rfl (lv_at hl 2 rfl) ?_
        refine lv_iload hx hb dX5_in_22 (lv_at hl 0 rfl) ?_
        obtain ⟨q_4, wq_4, heq_4⟩ := heT_49 (L := L) (ad := ad) (cy := cy) (bS := bS) (a := a) (b := b) (c := c) (d := d) (r := r) (I := I) (D := D) (K := K) (M := M) hM
        obtain ⟨h_5, hf⟩ := ck_out hf
        refine ra_lda (bs := 70) (n := c) hx hb hK hP q_4 heq_4 (inB_in h_5) dX5_in_24 ?_
        refine lv_astore (lv' := [(6, .ref (ad (70 + (x5_14).toNatClampNeg))), (5, .int x5_14), (4, .int (nI c)), (3, .ref (ad 49)), (2, .int x2_14), (0, .ref (ad 40)), (1, .int p1)]) hx hb dX5_in_25 hl (by decide) rfl (fun ls hl => ?_)
        refine lv_iload_n hx hb dX5_in_27 rfl (lv_at hl 4 rfl) ?_
        refine lv_aload hx hb dX5_in_28 (lv_at hl 0 rfl) ?_
        refine lv_iconst (v := 3) hx hb dX5_in_30 (by decide) ?_
        obtain ⟨q_6, wq_6, heq_6⟩ := heT_Bat (L := L) (ad := ad) (cy := cy) (bS := bS) (a := a) (b := b) (c := c) (d := d) (r := r) (I := I) (D := D) (K := K) (M := M) hM (inB_lt h_5)
        obtain ⟨h_7, hf⟩ := ck_out hf
        refine va_iald (n := 4) (f := K (70 + (x5_14).toNatClampNeg)) hx hb hK hP q_6 0 heq_6 rfl (inB_in h_7) dX5_in_31 ?_
        refine lv_iload_n hx hb dX5_in_32 rfl (lv_at hl 6 rfl) ?_
        have J41 : ∀ (z0_41 : Int32), f_T_in_J41 (f_T_in_L14 c K p1 n14) x5_14 x2_14 z0_41 = some rr → ∀ (H : Heap) (locs : List Loc) (ls : Array Slot), va_P (dC, dI) vwCl (iwT L ad cy bS a b c d r I D K M) H → va_S A s.heap H locs → lv_has ls 7 [(6, .ref (ad (70 + (x5_14).toNatClampNeg))), (5, .int x5_14), (4, .int (nI c)), (3, .ref (ad 49)), (2, .int x2_14), (0, .ref (ad 40)), (1, .int p1)] → W p l e (headSpec wsX5_in ({ frames := 0, cells := 0, slots := 0, locals := 0 })).room s m ([.ref (ad 40), .int p1] : List Value).toArray below meth cX H locs 0 0 (MQ below (va_Qi (fun r (_ : Unit) => rr = r) (fun _ _ => True) A) ([.ref (ad 40), .int p1] : List Value).toArray s 0 0 A) (F0 m 41 ls [.int z0_41, .int x2_14]) := by
          intro z0_41 hf H locs ls hP hS hl
          unfold f_T_in_J41 at hf
          refine lv_iadd hx hb dX5_in_41 ?_
          refine lv_istore_n (lv' := [(2, .int (x2_14 + z0_41)), (6, .ref (ad (70 + (x5_14).toNatClampNeg))), (5, .int x5_14), (4, .int (nI c)), (3, .ref (ad 49)), (0, .ref (ad 40)), (1, .int p1)]) hx hb dX5_in_42 rfl hl (by decide) rfl (fun ls hl => ?_)
          refine lv_iinc (v := (x5_14 + 1)) (lv' := [(5, .int (x5_14 + 1)), (2, .int (x2_14 + z0_41)), (6, .ref (ad (70 + (x5_14).toNatClampNeg))), (4, .int (nI c)), (3, .ref (ad 49)), (0, .ref (ad 40)), (1, .int p1)]) hx hb dX5_in_43 hl (k := 2) rfl rfl (by decide) rfl (fun ls hl => ?_)
          refine lv_goto (tgt := 14) hx hb dX5_in_46 (by decide) ?_
          exact ih14 (x5_14 + 1) (x2_14 + z0_41) hf _ _ _ hP hS (lv_sub hl [0, 3, 4, 1, 5, 6] rfl)
        refine lv_icmp_ne (tgt := 40) hx hb dX5_in_33 (by decide) (fun c_8 => ?_) (fun c_8 => ?_)
        · have hf := it_f hf c_8
          refine lv_iconst (v := 0) hx hb dX5_in_40 (by decide) ?_
          exact J41 0 hf _ _ _ hP hS (lv_sub hl [0, 1, 2, 3, 4, 5, 6] rfl)
        · have hf := it_t hf c_8
          refine lv_iconst (v := 1) hx hb dX5_in_36 (by decide) ?_
          refine lv_goto (tgt := 41) hx hb dX5_in_37 (by decide) ?_
          exact J41 1 hf _ _ _ hP hS (lv_sub hl [0, 1, 2, 3, 4, 5, 6] rfl)
  exact L14 200 0 0 hf _ _ _ hP hS (lv_sub hl [0, 1, 2, 3, 4, 5] rfl)

def f_L_washes_J46 (rec4 : Int32 → Int32 → Option (Int32)) (x3_4 : Int32) (x2_4 : Int32) (z0_46 : Int32) : Option (Int32) :=
  rec4 (x3_4 + 1) (x2_4 + z0_46)
def f_L_washes_L4 (r : Nat) (I : Nat → Nat → Int32) (D : Nat → Nat → UInt64) (K : Nat → Nat → Int32) : Nat → Int32 → Int32 → Option (Int32)
  | 0, _, _ => none
  | n4 + 1, x3_4, x2_4 => (if (nI r) ≤ x3_4 then some x2_4 else ck (inB (x3_4 - 1) r) (bd (eO (f_X4_ofMix I D (K 34 ((x3_4 - 1)).toNatClampNeg) 3)) (fun r_6 => ck (inB x3_4 r) (bd (eO (f_X4_ofMix I D (K 34 (x3_4).toNatClampNeg) 3)) (fun r_11 => (if (r_6 &&& (r_11 ^^^ (-1))) = 0 then f_L_washes_J46 (f_L_washes_L4 r I D K n4) x3_4 x2_4 0 else f_L_washes_J46 (f_L_washes_L4 r I D K n4) x3_4 x2_4 1))))))
def f_L_washes (LS : Nat) (xs : Nat → Int32) (a b c d : Nat) (r : Nat) (I : Nat → Nat → Int32) (D : Nat → Nat → UInt64) (K : Nat → Nat → Int32) (M : Nat → Nat → UInt64) : Option (Int32) :=
  f_L_washes_L4 r I D K 200 1 0
theorem iL_washes_RX5 : ∀ w ∈ u_ws RX5 TX5 11, w ∈ wsL_washes := fun w h => List.mem_cons_of_mem _ (List.mem_append_left _ (List.mem_append_left _ (List.mem_append_left _ (List.mem_append_left _ (List.mem_append_right _ (h))))))
set_option maxHeartbeats 4000000 in
set_option maxRecDepth 100000 in
theorem mt_L_washes (l : Launch) (dC : Nat → ClassId) (dI : Nat → Nat → Nat) (L : List Nat) (a b c d bS : Nat) (ad : Nat → Nat) (cy : Nat → ClassId) (hM : tOK L a b c d bS ad) (h34 : 34 ∈ L) (r LS : Nat) (xs : Nat → Int32) (sz : Nat) (I : Nat → Nat → Int32) (D : Nat → Nat → UInt64) (K : Nat → Nat → Int32) (M : Nat → Nat → UInt64) (rr : Int32) (hf : f_L_washes LS xs a b c d r I D K M = some rr) : Met l yL_washes wsL_washes ({ frames := 3, cells := 0, slots := 0, locals := 64 }) (va_Pc [.ref (ad 40), .ref (ad 34)] (fun U => U.heap.size = sz ∧ tW dC dI L ad cy bS a b c d r LS xs I D K M U)) (va_Qi (fun r (_ : Unit) => rr = r) (fun _ _ => True) (fun q => sz ≤ q)) 0 0 (fun q => sz ≤ q) := by
  refine Met.ofW (cc := cL_washes) (maxL := 4) (ret := (some .int)) (by decide) rfl ?_
  intro p e s m args below meth cX s₁ B hml hv
  obtain ⟨rfl, hsz, hP, hK, hN, hX0⟩ := hv
  have hx := B.exec
  have hb := B.bytes
  have hr := B.returns
  have hts := atoms_spec (ws := wsL_washes) B.pre
  have hown : s.vm.findClass RL = some m.cls := findClass_of_methodNamed B.named
  have hlocks := B.notSynchronized
  subst hsz
  have hbl : bS < s.heap.size := by obtain ⟨scr, h, -⟩ := hX0; exact (Array.getElem?_eq_some_iff.mp h).1
  generalize hAe : (fun q : Nat => s.heap.size ≤ q) = A
  have hA : ∀ q : Nat, s.heap.size ≤ q → A q := fun q h => by rw [← hAe]; exact h
  have hbA : ¬ A bS := fun h => by rw [← hAe] at h; exact Nat.lt_irrefl _ (Nat.lt_of_lt_of_le hbl h)
  obtain ⟨H, hH⟩ : ∃ H : Heap, H = s.heap := ⟨_, rfl⟩
  have hS : va_S A s.heap H [] := by rw [hH]; exact va_S.rf
  have hP : va_P (dC, dI) vwCl (iwT L ad cy bS a b c d r I D K M) H := by rw [hH]; exact hP
  suffices hgo : ∀ locs, va_S A s.heap H locs → W p l e (headSpec wsL_washes ({ frames := 3, cells := 0, slots := 0, locals := 64 })).room s m ([.ref (ad 40), .ref (ad 34)] : List Value).toArray below meth cX H locs 0 0 (MQ below (va_Qi (fun r (_ : Unit) => rr = r) (fun _ _ => True) A) ([.ref (ad 40), .ref (ad 34)] : List Value).toArray s 0 0 A) (entryFrame m ([.ref (ad 40), .ref (ad 34)] : List Value).toArray 4) by subst hH; exact hgo [] hS
  clear hS hH
  intro locs hS
  have hl := lv_entry ([.ref (ad 40), .ref (ad 34)]) (n := 4) (Nat.le_of_ble_eq_true rfl)
  rw [lg_entry_eq]
  generalize (lg_sl ([.ref (ad 40), .ref (ad 34)]) ++ List.replicate (4 - (lg_sl ([.ref (ad 40), .ref (ad 34)])).length) Slot.unset).toArray = ls at hl ⊢
  have hl : lv_has ls 4 [(0, .ref (ad 40)), (1, .ref (ad 34))] := hl
  unfold f_L_washes at hf
  refine lv_iconst (v := 0) hx hb dL_washes_0 (by decide) ?_
  refine lv_istore_n (lv' := [(2, .int 0), (0, .ref (ad 40)), (1, .ref (ad 34))]) hx hb dL_washes_1 rfl hl (by decide) rfl (fun ls hl => ?_)
  refine lv_iconst (v := 1) hx hb dL_washes_2 (by decide) ?_
  refine lv_istore_n (lv' := [(3, .int 1), (2, .int 0), (0, .ref (ad 40)), (1, .ref (ad 34))]) hx hb dL_washes_3 rfl hl (by decide) rfl (fun ls hl => ?_)
  have L4 : ∀ (n4 : Nat) (x3_4 : Int32) (x2_4 : Int32), f_L_washes_L4 r I D K n4 x3_4 x2_4 = some rr → ∀ (H : Heap) (locs : List Loc) (ls : Array Slot), va_P (dC, dI) vwCl (iwT L ad cy bS a b c d r I D K M) H → va_S A s.heap H locs → lv_has ls 4 [(3, .int x3_4), (2, .int x2_4), (0, .ref (ad 40)), (1, .ref (ad 34))] → W p l e (headSpec wsL_washes ({ frames := 3, cells := 0, slots := 0, locals := 64 })).room s m ([.ref (ad 40), .ref (ad 34)] : List Value).toArray below meth cX H locs 0 0 (MQ below (va_Qi (fun r (_ : Unit) => rr = r) (fun _ _ => True) A) ([.ref (ad 40), .ref (ad 34)] : List Value).toArray s 0 0 A) (F0 m 4 ls []) := by
    intro n4
    induction n4 with
    | zero => intro x3_4 x2_4 hf; exact nomatch hf
    | succ n4 ih4 =>
      intro x3_4 x2_4 hf H locs ls hP hS hl
      unfold f_L_washes_L4 at hf
      refine lv_iload_n hx hb dL_washes_4 rfl (lv_at hl 0 rfl) ?_
      refine lv_aload_n hx hb dL_washes_5 rfl (lv_at hl 3 rfl) ?_
      obtain ⟨q_1, wq_1, heq_1⟩ := heT_34 (L := L) (ad := ad) (cy := cy) (bS := bS) (a := a) (b := b) (c := c) (d := d) (r := r) (I := I) (D := D) (K := K) (M := M) h34
      refine va_alen (v := nI r) hx hb hK hP q_1 0 heq_1 rfl rfl dL_washes_6 ?_
      refine lv_icmp_ge (tgt := 54) hx hb dL_washes_7 (by decide) (fun c_2 => ?_) (fun c_2 => ?_)
      · have hf := it_t hf c_2
        refine lv_iload_n hx hb dL_washes_54 rfl (lv_at hl 1 rfl) ?_
        have hf := Option.some.inj hf
        have q1 := hf
        exact W.iret (v := x2_4) hx hb hr (fun t ht hW9 => ⟨⟨x2_4, (), rfl, q1.symm, trivial⟩, hS.F ht⟩) hS.2.2 dL_washes_55
      · have hf := it_f hf c_2
        refine lv_iload_n hx hb dL_washes_10 rfl (lv_at hl 1 rfl) ?_
        refine lv_aload_n hx hb dL_washes_11 rfl (lv_at hl 2 rfl) ?_
        obtain ⟨q_3, wq_3, heq_3⟩ := heT_40 (L := L) (ad := ad) (cy := cy) (bS := bS) (a := a) (b := b) (c := c) (d := d) (r := r) (I := I) (D := D) (K := K) (M := M) hM
        refine va_get (D := (dC, dI)) (ci := 5) (v := .ref (ad 0)) (C := RX5) (T := TX5) (N := 11) hx hb hts iL_washes_RX5 hown hK hP q_3 heq_3 rfl 0 (by decide) (hts (.fieldLink RL 14 "OverrunHouseLaw$Told" "m" "LOverrunHouse;") (List.mem_cons_of_mem _ (List.mem_append_left _ (List.mem_append_left _ (List.mem_append_left _ (List.mem_append_left _ (List.mem_append_left _ (List.mem_append_left _ (List.mem_of_getElem? (i := 0) rfl))))))))) (fun _ h9 => h9) rfl dL_washes_12 ?_
        refine lv_aload_n hx hb dL_washes_15 rfl (lv_at hl 3 rfl) ?_
        refine lv_iload_n hx hb dL_washes_16 rfl (lv_at hl 0 rfl) ?_
        refine lv_iconst (v := 1) hx hb dL_washes_17 (by decide) ?_
        refine lv_isub hx hb dL_washes_18 ?_
        obtain ⟨q_4, wq_4, heq_4⟩ := heT_34 (L := L) (ad := ad) (cy := cy) (bS := bS) (a := a) (b := b) (c := c) (d := d) (r := r) (I := I) (D := D) (K := K) (M := M) h34
        obtain ⟨h_5, hf⟩ := ck_out hf
        refine va_iald (n := r) (f := K 34) hx hb hK hP q_4 0 heq_4 rfl (inB_in h_5) dL_washes_19 ?_
        refine lv_iconst (v := 3) hx hb dL_washes_20 (by decide) ?_
        obtain ⟨r_6, g_7, hf⟩ := bd_out hf
        have hPH := iwT_H hM hP
        refine va_calli (va_runV (As := [.int (K 34 ((x3_4 - 1)).toNatClampNeg), .int 3]) (rest := [.int x2_4]) ⟨hx, hb, hml, hown, hts⟩ (mt_X4_ofMix l dC dI ad cy hM.J H.size I D (K 34 ((x3_4 - 1)).toNatClampNeg) 3 r_6 (eO_out g_7)) (cwV 2 hts gL_washes_X4_ofMix rfl rfl rfl (by decide +kernel) ⟨(Nat.le_of_ble_eq_true rfl), (Nat.le_of_ble_eq_true rfl)⟩) ⟨(hW.pre [.ref (ad 0), .int (K 34 ((x3_4 - 1)).toNatClampNeg), .int 3] hPH hK hN.1).1, hW.recv (C := RX4) (T := TX4) (N := 14) hPH hK heH_0 rfl, (hW.pre [.ref (ad 0), .int (K 34 ((x3_4 - 1)).toNatClampNeg), .int 3] hPH hK hN.1).2⟩ rfl rfl hl.1 rfl (lv_room (Nat.le_of_ble_eq_true rfl)) dL_washes_21 ⟨(Nat.le_of_ble_eq_true rfl), (Nat.le_of_ble_eq_true rfl)⟩) hS (fun q _ h => hA q (Nat.le_trans hS.1 h)) (fun q h => hA q (Nat.le_trans hS.1 h)) (fun r9 u t H1 locs ht hvm hw hB hz1 hk1 hS9 => ?_)
        subst hw
        have hP := va_Pnew hP hk1
        have hS := hS9
        clear hB hz1 hk1 hvm ht hS9
        generalize H1 = H at hP hS ⊢
        refine lv_aload_n hx hb dL_washes_24 rfl (lv_at hl 2 rfl) ?_
        obtain ⟨q_8, wq_8, heq_8⟩ := heT_40 (L := L) (ad := ad) (cy := cy) (bS := bS) (a := a) (b := b) (c := c) (d := d) (r := r) (I := I) (D := D) (K := K) (M := M) hM
        refine va_get (D := (dC, dI)) (ci := 5) (v := .ref (ad 0)) (C := RX5) (T := TX5) (N := 11) hx hb hts iL_washes_RX5 hown hK hP q_8 heq_8 rfl 0 (by decide) (hts (.fieldLink RL 14 "OverrunHouseLaw$Told" "m" "LOverrunHouse;") (List.mem_cons_of_mem _ (List.mem_append_left _ (List.mem_append_left _ (List.mem_append_left _ (List.mem_append_left _ (List.mem_append_left _ (List.mem_append_left _ (List.mem_of_getElem? (i := 0) rfl))))))))) (fun _ h9 => h9) rfl dL_washes_25 ?_
        refine lv_aload_n hx hb dL_washes_28 rfl (lv_at hl 3 rfl) ?_
        refine lv_iload_n hx hb dL_washes_29 rfl (lv_at hl 0 rfl) ?_
        obtain ⟨q_9, wq_9, heq_9⟩ := heT_34 (L := L) (ad := ad) (cy := cy) (bS := bS) (a := a) (b := b) (c := c) (d := d) (r := r) (I := I) (D := D) (K := K) (M := M) h34
        obtain ⟨h_10, hf⟩ := ck_out hf
        refine va_iald (n := r) (f := K 34) hx hb hK hP q_9 0 heq_9 rfl (inB_in h_10) dL_washes_30 ?_
        refine lv_iconst (v := 3) hx hb dL_washes_31 (by decide) ?_
        obtain ⟨r_11, g_12, hf⟩ := bd_out hf
        have hPH := iwT_H hM hP
        refine va_calli (va_runV (As := [.int (K 34 (x3_4).toNatClampNeg), .int 3]) (rest := [.int r_6, .int x2_4]) ⟨hx, hb, hml, hown, hts⟩ (mt_X4_ofMix l dC dI ad cy hM.J H.size I D (K 34 (x3_4).toNatClampNeg) 3 r_11 (eO_out g_12)) (cwV 2 hts gL_washes_X4_ofMix rfl rfl rfl (by decide +kernel) ⟨(Nat.le_of_ble_eq_true rfl), (Nat.le_of_ble_eq_true rfl)⟩) ⟨(hW.pre [.ref (ad 0), .int (K 34 (x3_4).toNatClampNeg), .int 3] hPH hK hN.1).1, hW.recv (C := RX4) (T := TX4) (N := 14) hPH hK heH_0 rfl, (hW.pre [.ref (ad 0), .int (K 34 (x3_4).toNatClampNeg), .int 3] hPH hK hN.1).2⟩ rfl rfl hl.1 rfl (lv_room (Nat.le_of_ble_eq_true rfl)) dL_washes_32 ⟨(Nat.le_of_ble_eq_true rfl), (Nat.le_of_ble_eq_true rfl)⟩) hS (fun q _ h => hA q (Nat.le_trans hS.1 h)) (fun q h => hA q (Nat.le_trans hS.1 h)) (fun r9 u t H1 locs ht hvm hw hB hz1 hk1 hS9 => ?_)
        subst hw
        have hP := va_Pnew hP hk1
        have hS := hS9
        clear hB hz1 hk1 hvm ht hS9
        generalize H1 = H at hP hS ⊢
        refine lv_iconst (v := (-1)) hx hb dL_washes_35 (by decide) ?_
        refine lv_ixor hx hb dL_washes_36 ?_
        refine lv_iand hx hb dL_washes_37 ?_
        have J46 : ∀ (z0_46 : Int32), f_L_washes_J46 (f_L_washes_L4 r I D K n4) x3_4 x2_4 z0_46 = some rr → ∀ (H : Heap) (locs : List Loc) (ls : Array Slot), va_P (dC, dI) vwCl (iwT L ad cy bS a b c d r I D K M) H → va_S A s.heap H locs → lv_has ls 4 [(3, .int x3_4), (2, .int x2_4), (0, .ref (ad 40)), (1, .ref (ad 34))] → W p l e (headSpec wsL_washes ({ frames := 3, cells := 0, slots := 0, locals := 64 })).room s m ([.ref (ad 40), .ref (ad 34)] : List Value).toArray below meth cX H locs 0 0 (MQ below (va_Qi (fun r (_ : Unit) => rr = r) (fun _ _ => True) A) ([.ref (ad 40), .ref (ad 34)] : List Value).toArray s 0 0 A) (F0 m 46 ls [.int z0_46, .int x2_4]) := by
          intro z0_46 hf H locs ls hP hS hl
          unfold f_L_washes_J46 at hf
          refine lv_iadd hx hb dL_washes_46 ?_
          refine lv_istore_n (lv' := [(2, .int (x2_4 + z0_46)), (3, .int x3_4), (0, .ref (ad 40)), (1, .ref (ad 34))]) hx hb dL_washes_47 rfl hl (by decide) rfl (fun ls hl => ?_)
          refine lv_iinc (v := (x3_4 + 1)) (lv' := [(3, .int (x3_4 + 1)), (2, .int (x2_4 + z0_46)), (0, .ref (ad 40)), (1, .ref (ad 34))]) hx hb dL_washes_48 hl (k := 1) rfl rfl (by decide) rfl (fun ls hl => ?_)
          refine lv_goto (tgt := 4) hx hb dL_washes_51 (by decide) ?_
          exact ih4 (x3_4 + 1) (x2_4 + z0_46) hf _ _ _ hP hS (lv_sub hl [0, 1, 2, 3] rfl)
        refine lv_if_ne (tgt := 45) hx hb dL_washes_38 (by decide) (fun c_13 => ?_) (fun c_13 => ?_)
        · have hf := it_f hf c_13
          refine lv_iconst (v := 1) hx hb dL_washes_45 (by decide) ?_
          exact J46 1 hf _ _ _ hP hS (lv_sub hl [0, 1, 2, 3] rfl)
        · have hf := it_t hf c_13
          refine lv_iconst (v := 0) hx hb dL_washes_41 (by decide) ?_
          refine lv_goto (tgt := 46) hx hb dL_washes_42 (by decide) ?_
          exact J46 0 hf _ _ _ hP hS (lv_sub hl [0, 1, 2, 3] rfl)
  exact L4 200 1 0 hf _ _ _ hP hS (lv_sub hl [0, 1, 2, 3] rfl)

def f_L_number_L10 (r : Nat) (K : Nat → Nat → Int32) : Nat → Int32 → Int32 → Option (Int32)
  | 0, _, _ => none
  | n10 + 1, x4_10, x1_10 => (if (nI r) ≤ x4_10 then some x1_10 else ck (inB x4_10 r) (f_L_number_L10 r K n10 (x4_10 + 1) (((x1_10 * 10) + (K 34 (x4_10).toNatClampNeg)) + 1)))
def f_L_number (LS : Nat) (xs : Nat → Int32) (a b c d : Nat) (r : Nat) (I : Nat → Nat → Int32) (D : Nat → Nat → UInt64) (K : Nat → Nat → Int32) (M : Nat → Nat → UInt64) : Option (Int32) :=
  f_L_number_L10 r K 200 0 0
set_option maxHeartbeats 4000000 in
set_option maxRecDepth 100000 in
theorem mt_L_number (l : Launch) (dC : Nat → ClassId) (dI : Nat → Nat → Nat) (L : List Nat) (a b c d bS : Nat) (ad : Nat → Nat) (cy : Nat → ClassId) (hM : tOK L a b c d bS ad) (h34 : 34 ∈ L) (r LS : Nat) (xs : Nat → Int32) (sz : Nat) (I : Nat → Nat → Int32) (D : Nat → Nat → UInt64) (K : Nat → Nat → Int32) (M : Nat → Nat → UInt64) (rr : Int32) (hf : f_L_number LS xs a b c d r I D K M = some rr) : Met l yL_number wsL_number ({ frames := 0, cells := 0, slots := 0, locals := 0 }) (va_Pc [.ref (ad 34)] (fun U => U.heap.size = sz ∧ tW dC dI L ad cy bS a b c d r LS xs I D K M U)) (va_Qi (fun r (_ : Unit) => rr = r) (fun _ _ => True) (fun q => sz ≤ q)) 0 0 (fun q => sz ≤ q) := by
  refine Met.ofW (cc := cL_number) (maxL := 6) (ret := (some .int)) (by decide) rfl ?_
  intro p e s m args below meth cX s₁ B hml hv
  obtain ⟨rfl, hsz, hP, hK, hN, hX0⟩ := hv
  have hx := B.exec
  have hb := B.bytes
  have hr := B.returns
  have hts := atoms_spec (ws := wsL_number) B.pre
  have hown : s.vm.findClass RL = some m.cls := findClass_of_methodNamed B.named
  have hlocks := B.notSynchronized
  subst hsz
  have hbl : bS < s.heap.size := by obtain ⟨scr, h, -⟩ := hX0; exact (Array.getElem?_eq_some_iff.mp h).1
  generalize hAe : (fun q : Nat => s.heap.size ≤ q) = A
  have hA : ∀ q : Nat, s.heap.size ≤ q → A q := fun q h => by rw [← hAe]; exact h
  have hbA : ¬ A bS := fun h => by rw [← hAe] at h; exact Nat.lt_irrefl _ (Nat.lt_of_lt_of_le hbl h)
  obtain ⟨H, hH⟩ : ∃ H : Heap, H = s.heap := ⟨_, rfl⟩
  have hS : va_S A s.heap H [] := by rw [hH]; exact va_S.rf
  have hP : va_P (dC, dI) vwCl (iwT L ad cy bS a b c d r I D K M) H := by rw [hH]; exact hP
  suffices hgo : ∀ locs, va_S A s.heap H locs → W p l e (headSpec wsL_number ({ frames := 0, cells := 0, slots := 0, locals := 0 })).room s m ([.ref (ad 34)] : List Value).toArray below meth cX H locs 0 0 (MQ below (va_Qi (fun r (_ : Unit) => rr = r) (fun _ _ => True) A) ([.ref (ad 34)] : List Value).toArray s 0 0 A) (entryFrame m ([.ref (ad 34)] : List Value).toArray 6) by subst hH; exact hgo [] hS
  clear hS hH
  intro locs hS
  have hl := lv_entry ([.ref (ad 34)]) (n := 6) (Nat.le_of_ble_eq_true rfl)
  rw [lg_entry_eq]
  generalize (lg_sl ([.ref (ad 34)]) ++ List.replicate (6 - (lg_sl ([.ref (ad 34)])).length) Slot.unset).toArray = ls at hl ⊢
  have hl : lv_has ls 6 [(0, .ref (ad 34))] := hl
  unfold f_L_number at hf
  refine lv_iconst (v := 0) hx hb dL_number_0 (by decide) ?_
  refine lv_istore_n (lv' := [(1, .int 0), (0, .ref (ad 34))]) hx hb dL_number_1 rfl hl (by decide) rfl (fun ls hl => ?_)
  refine lv_aload_n hx hb dL_number_2 rfl (lv_at hl 1 rfl) ?_
  refine lv_astore_n (lv' := [(2, .ref (ad 34)), (1, .int 0), (0, .ref (ad 34))]) hx hb dL_number_3 rfl hl (by decide) rfl (fun ls hl => ?_)
  refine lv_aload_n hx hb dL_number_4 rfl (lv_at hl 0 rfl) ?_
  obtain ⟨q_1, wq_1, heq_1⟩ := heT_34 (L := L) (ad := ad) (cy := cy) (bS := bS) (a := a) (b := b) (c := c) (d := d) (r := r) (I := I) (D := D) (K := K) (M := M) h34
  refine va_alen (v := nI r) hx hb hK hP q_1 0 heq_1 rfl rfl dL_number_5 ?_
  refine lv_istore_n (lv' := [(3, .int (nI r)), (2, .ref (ad 34)), (1, .int 0), (0, .ref (ad 34))]) hx hb dL_number_6 rfl hl (by decide) rfl (fun ls hl => ?_)
  refine lv_iconst (v := 0) hx hb dL_number_7 (by decide) ?_
  refine lv_istore (lv' := [(4, .int 0), (3, .int (nI r)), (2, .ref (ad 34)), (1, .int 0), (0, .ref (ad 34))]) hx hb dL_number_8 hl (by decide) rfl (fun ls hl => ?_)
  have L10 : ∀ (n10 : Nat) (x4_10 : Int32) (x1_10 : Int32), f_L_number_L10 r K n10 x4_10 x1_10 = some rr → ∀ (H : Heap) (locs : List Loc) (ls : Array Slot), va_P (dC, dI) vwCl (iwT L ad cy bS a b c d r I D K M) H → va_S A s.heap H locs → lv_has ls 6 [(4, .int x4_10), (3, .int (nI r)), (2, .ref (ad 34)), (1, .int x1_10), (0, .ref (ad 34))] → W p l e (headSpec wsL_number ({ frames := 0, cells := 0, slots := 0, locals := 0 })).room s m ([.ref (ad 34)] : List Value).toArray below meth cX H locs 0 0 (MQ below (va_Qi (fun r (_ : Unit) => rr = r) (fun _ _ => True) A) ([.ref (ad 34)] : List Value).toArray s 0 0 A) (F0 m 10 ls []) := by
    intro n10
    induction n10 with
    | zero => intro x4_10 x1_10 hf; exact nomatch hf
    | succ n10 ih10 =>
      intro x4_10 x1_10 hf H locs ls hP hS hl
      unfold f_L_number_L10 at hf
      refine lv_iload hx hb dL_number_10 (lv_at hl 0 rfl) ?_
      refine lv_iload_n hx hb dL_number_12 rfl (lv_at hl 1 rfl) ?_
      refine lv_icmp_ge (tgt := 38) hx hb dL_number_13 (by decide) (fun c_2 => ?_) (fun c_2 => ?_)
      · have hf := it_t hf c_2
        refine lv_iload_n hx hb dL_number_38 rfl (lv_at hl 3 rfl) ?_
        have hf := Option.some.inj hf
        have q1 := hf
        exact W.iret (v := x1_10) hx hb hr (fun t ht hW9 => ⟨⟨x1_10, (), rfl, q1.symm, trivial⟩, hS.F ht⟩) hS.2.2 dL_number_39
      · have hf := it_f hf c_2
        refine lv_aload_n hx hb dL_number_16 rfl (lv_at hl 2 rfl) ?_
        refine lv_iload hx hb dL_number_17 (lv_at hl 0 rfl) ?_
        obtain ⟨q_3, wq_3, heq_3⟩ := heT_34 (L := L) (ad := ad) (cy := cy) (bS := bS) (a := a) (b := b) (c := c) (d := d) (r := r) (I := I) (D := D) (K := K) (M := M) h34
        obtain ⟨h_4, hf⟩ := ck_out hf
        refine va_iald (n := r) (f := K 34) hx hb hK hP q_3 0 heq_3 rfl (inB_in h_4) dL_number_19 ?_
        refine lv_istore (lv' := [(5, .int (K 34 (x4_10).toNatClampNeg)), (4, .int x4_10), (3, .int (nI r)), (2, .ref (ad 34)), (1, .int x1_10), (0, .ref (ad 34))]) hx hb dL_number_20 hl (by decide) rfl (fun ls hl => ?_)
        refine lv_iload_n hx hb dL_number_22 rfl (lv_at hl 4 rfl) ?_
        refine lv_bipush (v := 10) hx hb dL_number_23 (by decide) ?_
        refine lv_imul hx hb dL_number_25 ?_
        refine lv_iload hx hb dL_number_26 (lv_at hl 0 rfl) ?_
        refine lv_iadd hx hb dL_number_28 ?_
        refine lv_iconst (v := 1) hx hb dL_number_29 (by decide) ?_
        refine lv_iadd hx hb dL_number_30 ?_
        refine lv_istore_n (lv' := [(1, .int (((x1_10 * 10) + (K 34 (x4_10).toNatClampNeg)) + 1)), (5, .int (K 34 (x4_10).toNatClampNeg)), (4, .int x4_10), (3, .int (nI r)), (2, .ref (ad 34)), (0, .ref (ad 34))]) hx hb dL_number_31 rfl hl (by decide) rfl (fun ls hl => ?_)
        refine lv_iinc (v := (x4_10 + 1)) (lv' := [(4, .int (x4_10 + 1)), (1, .int (((x1_10 * 10) + (K 34 (x4_10).toNatClampNeg)) + 1)), (5, .int (K 34 (x4_10).toNatClampNeg)), (3, .int (nI r)), (2, .ref (ad 34)), (0, .ref (ad 34))]) hx hb dL_number_32 hl (k := 2) rfl rfl (by decide) rfl (fun ls hl => ?_)
        refine lv_goto (tgt := 10) hx hb dL_number_35 (by decide) ?_
        exact ih10 (x4_10 + 1) (((x1_10 * 10) + (K 34 (x4_10).toNatClampNeg)) + 1) hf _ _ _ hP hS (lv_sub hl [0, 3, 4, 1, 5] rfl)
  exact L10 200 0 0 hf _ _ _ hP hS (lv_sub hl [0, 1, 2, 3, 4] rfl)
