def f_T_put (LS : Nat) (xs : Nat → Int32) (a b c d : Nat) (I : Nat → Nat → Int32) (D : Nat → Nat → UInt64) (K : Nat → Nat → Int32) (M : Nat → Nat → UInt64) (p1 : Int32) : Option (Int32 × (Nat → Nat → Int32) × (Nat → Nat → UInt64) × (Nat → Nat → Int32)) :=
  bd (f_T_draw LS xs a b c d I D K M (nI a)) (fun (r_3, K_5) => bd (f_T_draw LS xs a b c d I D K_5 M 80) (fun (r_7, K_9) => ck (inB p1 b) (bd (f_T_all LS xs a b c d I D K_9 M p1) (fun r_14 => (if 500 < (r_14 + (1 + r_7)) then some (1, I, D, K_9) else ck (inB 9 10) ((if (K_9 (60 + (p1).toNatClampNeg) (9 : Int32).toNatClampNeg) ≤ 0 then ck (inB r_3 10) (ck (inB r_3 10) (nm (up2 K_9 (60 + (p1).toNatClampNeg) (r_3).toNatClampNeg ((K_9 (60 + (p1).toNatClampNeg) (r_3).toNatClampNeg) + (1 + r_7))) (fun K_25 => ck (inB 6 10) (ck (inB 6 10) (nm (up2 K_25 (60 + (p1).toNatClampNeg) (6 : Int32).toNatClampNeg ((K_25 (60 + (p1).toNatClampNeg) (6 : Int32).toNatClampNeg) + (1 + r_7))) (fun K_30 => ck (inB 7 10) (nm (up2 K_30 (60 + (p1).toNatClampNeg) (7 : Int32).toNatClampNeg 0) (fun K_33 => bd (eO (f_X4_put I D p1 r_3 (1 + r_7))) (fun (r_35, I_37, D_38) => bd (f_T_all LS xs a b c d I_37 D_38 K_33 M p1) (fun r_39 => (if r_35 = r_39 then some (1, I_37, D_38, K_33) else some (0, I_37, D_38, K_33)))))))))))) else some (1, I, D, K_9))))))))
theorem iT_put_RX5 : ∀ w ∈ u_ws RX5 TX5 11, w ∈ wsX5_put := fun w h => List.mem_cons_of_mem _ (List.mem_append_left _ (List.mem_append_left _ (List.mem_append_left _ (List.mem_append_left _ (List.mem_append_left _ (List.mem_append_left _ (List.mem_append_right _ (h))))))))
set_option maxHeartbeats 4000000 in
set_option maxRecDepth 100000 in
theorem mt_T_put (l : Launch) (dC : Nat → ClassId) (dI : Nat → Nat → Nat) (L : List Nat) (a b c d bS : Nat) (ad : Nat → Nat) (cy : Nat → ClassId) (hM : tOK L a b c d bS ad) (r LS : Nat) (xs : Nat → Int32) (sz : Nat) (I : Nat → Nat → Int32) (D : Nat → Nat → UInt64) (K : Nat → Nat → Int32) (M : Nat → Nat → UInt64) (p1 : Int32) (rr : Int32) (I9 : Nat → Nat → Int32) (D9 : Nat → Nat → UInt64) (K9 : Nat → Nat → Int32) (hf : f_T_put LS xs a b c d I D K M p1 = some (rr, I9, D9, K9)) : Met l yX5_put wsX5_put ({ frames := 3, cells := 0, slots := 0, locals := 68 }) (va_Pc [.ref (ad 40), .int p1] (fun U => U.heap.size = sz ∧ tW dC dI L ad cy bS a b c d r LS xs I D K M U)) (va_Qi (fun r (_ : Unit) => rr = r) (fun _ t => tW dC dI L ad cy bS a b c d r LS xs I9 D9 K9 M t) (AT L ad sz)) 0 0 (AT L ad sz) := by
  refine Met.ofW (cc := cX5_put) (maxL := 5) (ret := (some .boolean)) (by decide) rfl ?_
  intro p e s m args below meth cX s₁ B hml hv
  obtain ⟨rfl, hsz, hP, hK, hN, hX0⟩ := hv
  have hx := B.exec
  have hb := B.bytes
  have hr := B.returns
  have hts := atoms_spec (ws := wsX5_put) B.pre
  have hown : s.vm.findClass RX5 = some m.cls := findClass_of_methodNamed B.named
  have hlocks := B.notSynchronized
  subst hsz
  have hbl : bS < s.heap.size := by obtain ⟨scr, h, -⟩ := hX0; exact (Array.getElem?_eq_some_iff.mp h).1
  generalize hAe : AT L ad s.heap.size = A
  have hA : ∀ q : Nat, s.heap.size ≤ q → A q := fun q h => by rw [← hAe]; exact Or.inr h
  have hAL : ∀ k, k ∈ L → A (ad k) := fun k h => by rw [← hAe]; exact Or.inl ⟨k, h, rfl⟩
  have hDD : ∀ r I D K M, va_D A (iwT L ad cy bS a b c d r I D K M) := fun r I D K M => iwT_D hM hAL I D K M
  have hbA : ¬ A bS := fun h => by rw [← hAe] at h; exact h.elim (fun ⟨k, k1, k2⟩ => hM.2.1 k k1 k2) (fun h => Nat.lt_irrefl _ (Nat.lt_of_lt_of_le hbl h))
  obtain ⟨H, hH⟩ : ∃ H : Heap, H = s.heap := ⟨_, rfl⟩
  have hS : va_S A s.heap H [] := by rw [hH]; exact va_S.rf
  have hP : va_P (dC, dI) vwCl (iwT L ad cy bS a b c d r I D K M) H := by rw [hH]; exact hP
  suffices hgo : ∀ locs, va_S A s.heap H locs → W p l e (headSpec wsX5_put ({ frames := 3, cells := 0, slots := 0, locals := 68 })).room s m ([.ref (ad 40), .int p1] : List Value).toArray below meth cX H locs 0 0 (MQ below (va_Qi (fun r (_ : Unit) => rr = r) (fun _ t => tW dC dI L ad cy bS a b c d r LS xs I9 D9 K9 M t) A) ([.ref (ad 40), .int p1] : List Value).toArray s 0 0 A) (entryFrame m ([.ref (ad 40), .int p1] : List Value).toArray 5) by subst hH; exact hgo [] hS
  clear hS hH
  intro locs hS
  have hl := lv_entry ([.ref (ad 40), .int p1]) (n := 5) (Nat.le_of_ble_eq_true rfl)
  rw [lg_entry_eq]
  generalize (lg_sl ([.ref (ad 40), .int p1]) ++ List.replicate (5 - (lg_sl ([.ref (ad 40), .int p1])).length) Slot.unset).toArray = ls at hl ⊢
  have hl : lv_has ls 5 [(0, .ref (ad 40)), (1, .int p1)] := hl
  unfold f_T_put at hf
  refine lv_aload_n hx hb dX5_put_0 rfl (lv_at hl 0 rfl) ?_
  refine lv_aload_n hx hb dX5_put_1 rfl (lv_at hl 0 rfl) ?_
  obtain ⟨q_1, wq_1, heq_1⟩ := heT_40 (L := L) (ad := ad) (cy := cy) (bS := bS) (a := a) (b := b) (c := c) (d := d) (r := r) (I := I) (D := D) (K := K) (M := M) hM
  refine va_get (D := (dC, dI)) (ci := 5) (v := .ref (ad 47)) (C := RX5) (T := TX5) (N := 11) hx hb hts iT_put_RX5 hown hK hP q_1 heq_1 rfl 3 (by decide) (hts (.fieldLink RX5 18 "OverrunHouseLaw$Told" "ingredients" "[[I") (List.mem_cons_of_mem _ (List.mem_append_left _ (List.mem_append_left _ (List.mem_append_left _ (List.mem_append_left _ (List.mem_append_left _ (List.mem_append_left _ (List.mem_append_left _ (List.mem_append_left _ (List.mem_of_getElem? (i := 0) rfl))))))))))) (fun _ h9 => h9) rfl dX5_put_2 ?_
  obtain ⟨q_2, wq_2, heq_2⟩ := heT_47 (L := L) (ad := ad) (cy := cy) (bS := bS) (a := a) (b := b) (c := c) (d := d) (r := r) (I := I) (D := D) (K := K) (M := M) hM
  refine va_alen (v := nI a) hx hb hK hP q_2 5 heq_2 rfl rfl dX5_put_5 ?_
  obtain ⟨⟨r_3, K_5⟩, g_4, hf⟩ := bd_out hf
  have hAW : ∀ q, AT L ad H.size q → A q := fun q h => h.elim (fun ⟨k, k1, k2⟩ => k2 ▸ hAL k k1) (fun h => hA q (Nat.le_trans hS.1 h))
  obtain ⟨q_6, wq_6, heq_6⟩ := heT_40 (L := L) (ad := ad) (cy := cy) (bS := bS) (a := a) (b := b) (c := c) (d := d) (r := r) (I := I) (D := D) (K := K) (M := M) hM
  refine va_calli (va_runV (As := [.int (nI a)]) (rest := []) ⟨hx, hb, hml, hown, hts⟩ (mt_T_draw l dC dI L a b c d bS ad cy hM r LS xs H.size I D K M (nI a) r_3 K_5 g_4) (cwV 1 hts gX5_put_X5_draw rfl rfl rfl (by decide +kernel) ⟨(Nat.le_of_ble_eq_true rfl), (Nat.le_of_ble_eq_true rfl)⟩) ⟨(tW.pre [.ref (ad 40), .int (nI a)] hP hK hN (hX0.kept (hS.2.1 bS hbl hbA))).1, tW.recv (C := RX5) (T := TX5) (N := 11) hP hK heq_6 rfl, (tW.pre [.ref (ad 40), .int (nI a)] hP hK hN (hX0.kept (hS.2.1 bS hbl hbA))).2⟩ rfl rfl hl.1 rfl (lv_room (Nat.le_of_ble_eq_true rfl)) dX5_put_6 ⟨(Nat.le_of_ble_eq_true rfl), (Nat.le_of_ble_eq_true rfl)⟩) hS (fun q _ h => hAW q h) (fun q h => hAW q h) (fun r9 u t H1 locs ht hvm hw hB hz1 hk1 hS9 => ?_)
  subst hw
  have hP : va_P (dC, dI) vwCl (iwT L ad cy bS a b c d r I D K_5 M) H1 := by rw [← ht]; exact hB.1
  have hS := hS9
  clear hB hz1 hk1 hvm ht hS9
  generalize H1 = H at hP hS ⊢
  refine lv_istore_n (lv' := [(2, .int r_3), (0, .ref (ad 40)), (1, .int p1)]) hx hb dX5_put_9 rfl hl (by decide) rfl (fun ls hl => ?_)
  refine lv_iconst (v := 1) hx hb dX5_put_10 (by decide) ?_
  refine lv_aload_n hx hb dX5_put_11 rfl (lv_at hl 1 rfl) ?_
  refine lv_bipush (v := 80) hx hb dX5_put_12 (by decide) ?_
  obtain ⟨⟨r_7, K_9⟩, g_8, hf⟩ := bd_out hf
  have hAW : ∀ q, AT L ad H.size q → A q := fun q h => h.elim (fun ⟨k, k1, k2⟩ => k2 ▸ hAL k k1) (fun h => hA q (Nat.le_trans hS.1 h))
  obtain ⟨q_10, wq_10, heq_10⟩ := heT_40 (L := L) (ad := ad) (cy := cy) (bS := bS) (a := a) (b := b) (c := c) (d := d) (r := r) (I := I) (D := D) (K := K_5) (M := M) hM
  refine va_calli (va_runV (As := [.int 80]) (rest := [.int 1]) ⟨hx, hb, hml, hown, hts⟩ (mt_T_draw l dC dI L a b c d bS ad cy hM r LS xs H.size I D K_5 M 80 r_7 K_9 g_8) (cwV 1 hts gX5_put_X5_draw rfl rfl rfl (by decide +kernel) ⟨(Nat.le_of_ble_eq_true rfl), (Nat.le_of_ble_eq_true rfl)⟩) ⟨(tW.pre [.ref (ad 40), .int 80] hP hK hN (hX0.kept (hS.2.1 bS hbl hbA))).1, tW.recv (C := RX5) (T := TX5) (N := 11) hP hK heq_10 rfl, (tW.pre [.ref (ad 40), .int 80] hP hK hN (hX0.kept (hS.2.1 bS hbl hbA))).2⟩ rfl rfl hl.1 rfl (lv_room (Nat.le_of_ble_eq_true rfl)) dX5_put_14 ⟨(Nat.le_of_ble_eq_true rfl), (Nat.le_of_ble_eq_true rfl)⟩) hS (fun q _ h => hAW q h) (fun q h => hAW q h) (fun r9 u t H1 locs ht hvm hw hB hz1 hk1 hS9 => ?_)
  subst hw
  have hP : va_P (dC, dI) vwCl (iwT L ad cy bS a b c d r I D K_9 M) H1 := by rw [← ht]; exact hB.1
  have hS := hS9
  clear hB hz1 hk1 hvm ht hS9
  generalize H1 = H at hP hS ⊢
  refine lv_iadd hx hb dX5_put_17 ?_
  refine lv_istore_n (lv' := [(3, .int (1 + r_7)), (2, .int r_3), (0, .ref (ad 40)), (1, .int p1)]) hx hb dX5_put_18 rfl hl (by decide) rfl (fun ls hl => ?_)
  refine lv_aload_n hx hb dX5_put_19 rfl (lv_at hl 2 rfl) ?_
  obtain ⟨q_11, wq_11, heq_11⟩ := heT_40 (L := L) (ad := ad) (cy := cy) (bS := bS) (a := a) (b := b) (c := c) (d := d) (r := r) (I := I) (D := D) (K := K_9) (M := M) hM
  refine va_get (D := (dC, dI)) (ci := 5) (v := .ref (ad 48)) (C := RX5) (T := TX5) (N := 11) hx hb hts iT_put_RX5 hown hK hP q_11 heq_11 rfl 4 (by decide) (hts (.fieldLink RX5 22 "OverrunHouseLaw$Told" "mixes" "[[I") (List.mem_cons_of_mem _ (List.mem_append_left _ (List.mem_append_left _ (List.mem_append_left _ (List.mem_append_left _ (List.mem_append_left _ (List.mem_append_left _ (List.mem_append_left _ (List.mem_append_left _ (List.mem_of_getElem? (i := 1) rfl))))))))))) (fun _ h9 => h9) rfl dX5_put_20 ?_
  refine lv_iload_n hx hb dX5_put_23 rfl (lv_at hl 3 rfl) ?_
  obtain ⟨q_12, wq_12, heq_12⟩ := heT_48 (L := L) (ad := ad) (cy := cy) (bS := bS) (a := a) (b := b) (c := c) (d := d) (r := r) (I := I) (D := D) (K := K_9) (M := M) hM
  obtain ⟨h_13, hf⟩ := ck_out hf
  refine ra_lda (bs := 60) (n := b) hx hb hK hP q_12 heq_12 (inB_in h_13) dX5_put_24 ?_
  refine lv_astore (lv' := [(4, .ref (ad (60 + (p1).toNatClampNeg))), (3, .int (1 + r_7)), (2, .int r_3), (0, .ref (ad 40)), (1, .int p1)]) hx hb dX5_put_25 hl (by decide) rfl (fun ls hl => ?_)
  refine lv_aload_n hx hb dX5_put_27 rfl (lv_at hl 3 rfl) ?_
  refine lv_iload_n hx hb dX5_put_28 rfl (lv_at hl 4 rfl) ?_
  obtain ⟨r_14, g_15, hf⟩ := bd_out hf
  obtain ⟨q_16, wq_16, heq_16⟩ := heT_40 (L := L) (ad := ad) (cy := cy) (bS := bS) (a := a) (b := b) (c := c) (d := d) (r := r) (I := I) (D := D) (K := K_9) (M := M) hM
  refine va_calli (va_runV (As := [.int p1]) (rest := []) ⟨hx, hb, hml, hown, hts⟩ (mt_T_all l dC dI L a b c d bS ad cy hM r LS xs H.size I D K_9 M p1 r_14 g_15) (cwV 1 hts gX5_put_X5_all rfl rfl rfl (by decide +kernel) ⟨(Nat.le_of_ble_eq_true rfl), (Nat.le_of_ble_eq_true rfl)⟩) ⟨(tW.pre [.ref (ad 40), .int p1] hP hK hN (hX0.kept (hS.2.1 bS hbl hbA))).1, tW.recv (C := RX5) (T := TX5) (N := 11) hP hK heq_16 rfl, (tW.pre [.ref (ad 40), .int p1] hP hK hN (hX0.kept (hS.2.1 bS hbl hbA))).2⟩ rfl rfl hl.1 rfl (lv_room (Nat.le_of_ble_eq_true rfl)) dX5_put_29 ⟨(Nat.le_of_ble_eq_true rfl), (Nat.le_of_ble_eq_true rfl)⟩) hS (fun q _ h => hA q (Nat.le_trans hS.1 h)) (fun q h => hA q (Nat.le_trans hS.1 h)) (fun r9 u t H1 locs ht hvm hw hB hz1 hk1 hS9 => ?_)
  subst hw
  have hP := va_Pnew hP hk1
  have hS := hS9
  clear hB hz1 hk1 hvm ht hS9
  generalize H1 = H at hP hS ⊢
  refine lv_iload_n hx hb dX5_put_32 rfl (lv_at hl 1 rfl) ?_
  refine lv_iadd hx hb dX5_put_33 ?_
  refine lv_sipush (v := 500) hx hb dX5_put_34 (by decide) ?_
  refine lv_icmp_gt (tgt := 48) hx hb dX5_put_37 (by decide) (fun c_17 => ?_) (fun c_17 => ?_)
  · have hf := it_t hf c_17
    refine lv_iconst (v := 1) hx hb dX5_put_48 (by decide) ?_
    have hf := Option.some.inj hf
    obtain ⟨q1, hf⟩ := Prod.mk.inj hf
    obtain ⟨qI, hf⟩ := Prod.mk.inj hf
    obtain ⟨qD, qK⟩ := Prod.mk.inj hf
    exact W.zret (ty := .boolean) (v := 1) hx hb hr rfl (fun t ht hW9 => ⟨⟨1, (), rfl, q1.symm, (by rw [← qI, ← qD, ← qK]; exact tW.of hP hK hN (hX0.kept (hS.2.1 bS hbl hbA)) ht hW9)⟩, hS.F ht⟩) hS.2.2 dX5_put_49
  · have hf := it_f hf c_17
    refine lv_aload hx hb dX5_put_40 (lv_at hl 0 rfl) ?_
    refine lv_bipush (v := 9) hx hb dX5_put_42 (by decide) ?_
    obtain ⟨q_18, wq_18, heq_18⟩ := heT_Mixr (L := L) (ad := ad) (cy := cy) (bS := bS) (a := a) (b := b) (c := c) (d := d) (r := r) (I := I) (D := D) (K := K_9) (M := M) hM (inB_lt h_13)
    obtain ⟨h_19, hf⟩ := ck_out hf
    refine va_iald (n := 10) (f := K_9 (60 + (p1).toNatClampNeg)) hx hb hK hP q_18 0 heq_18 rfl (inB_in h_19) dX5_put_44 ?_
    refine lv_if_le (tgt := 50) hx hb dX5_put_45 (by decide) (fun c_20 => ?_) (fun c_20 => ?_)
    · have hf := it_t hf c_20
      refine lv_aload hx hb dX5_put_50 (lv_at hl 0 rfl) ?_
      refine lv_iload_n hx hb dX5_put_52 rfl (lv_at hl 2 rfl) ?_
      refine lv_dup2_11 hx hb dX5_put_53 rfl rfl ?_
      obtain ⟨q_21, wq_21, heq_21⟩ := heT_Mixr (L := L) (ad := ad) (cy := cy) (bS := bS) (a := a) (b := b) (c := c) (d := d) (r := r) (I := I) (D := D) (K := K_9) (M := M) hM (inB_lt h_13)
      obtain ⟨h_22, hf⟩ := ck_out hf
      refine va_iald (n := 10) (f := K_9 (60 + (p1).toNatClampNeg)) hx hb hK hP q_21 0 heq_21 rfl (inB_in h_22) dX5_put_54 ?_
      refine lv_iload_n hx hb dX5_put_55 rfl (lv_at hl 1 rfl) ?_
      refine lv_iadd hx hb dX5_put_56 ?_
      obtain ⟨q_23, wq_23, heq_23⟩ := heT_Mixr (L := L) (ad := ad) (cy := cy) (bS := bS) (a := a) (b := b) (c := c) (d := d) (r := r) (I := I) (D := D) (K := K_9) (M := M) hM (inB_lt h_13)
      obtain ⟨h_24, hf⟩ := ck_out hf
      obtain ⟨K_25, eK_25, hf⟩ := nm_out hf
      refine va_iast (n := 10) (f := K_9 (60 + (p1).toNatClampNeg)) hx hb hK hP (hDD r I D K_9 M) hS q_23 0 heq_23 rfl (inB_in h_24) dX5_put_57 (fun H locs hP _ hS => ?_)
      have hP : va_P (dC, dI) vwCl (iwT L ad cy bS a b c d r I D K_25 M) H := by rw [eK_25]; exact hqK hM wq_23 (by omega) ((cellT_Mixr ad cy bS a b c d r (by have := hM.2.2; have := (inB_lt h_13); omega) _ _).trans rfl) hP
      refine lv_aload hx hb dX5_put_58 (lv_at hl 0 rfl) ?_
      refine lv_bipush (v := 6) hx hb dX5_put_60 (by decide) ?_
      refine lv_dup2_11 hx hb dX5_put_62 rfl rfl ?_
      obtain ⟨q_26, wq_26, heq_26⟩ := heT_Mixr (L := L) (ad := ad) (cy := cy) (bS := bS) (a := a) (b := b) (c := c) (d := d) (r := r) (I := I) (D := D) (K := K_25) (M := M) hM (inB_lt h_13)
      obtain ⟨h_27, hf⟩ := ck_out hf
      refine va_iald (n := 10) (f := K_25 (60 + (p1).toNatClampNeg)) hx hb hK hP q_26 0 heq_26 rfl (inB_in h_27) dX5_put_63 ?_
      refine lv_iload_n hx hb dX5_put_64 rfl (lv_at hl 1 rfl) ?_
      refine lv_iadd hx hb dX5_put_65 ?_
      obtain ⟨q_28, wq_28, heq_28⟩ := heT_Mixr (L := L) (ad := ad) (cy := cy) (bS := bS) (a := a) (b := b) (c := c) (d := d) (r := r) (I := I) (D := D) (K := K_25) (M := M) hM (inB_lt h_13)
      obtain ⟨h_29, hf⟩ := ck_out hf
      obtain ⟨K_30, eK_30, hf⟩ := nm_out hf
      refine va_iast (n := 10) (f := K_25 (60 + (p1).toNatClampNeg)) hx hb hK hP (hDD r I D K_25 M) hS q_28 0 heq_28 rfl (inB_in h_29) dX5_put_66 (fun H locs hP _ hS => ?_)
      have hP : va_P (dC, dI) vwCl (iwT L ad cy bS a b c d r I D K_30 M) H := by rw [eK_30]; exact hqK hM wq_28 (by omega) ((cellT_Mixr ad cy bS a b c d r (by have := hM.2.2; have := (inB_lt h_13); omega) _ _).trans rfl) hP
      refine lv_aload hx hb dX5_put_67 (lv_at hl 0 rfl) ?_
      refine lv_bipush (v := 7) hx hb dX5_put_69 (by decide) ?_
      refine lv_iconst (v := 0) hx hb dX5_put_71 (by decide) ?_
      obtain ⟨q_31, wq_31, heq_31⟩ := heT_Mixr (L := L) (ad := ad) (cy := cy) (bS := bS) (a := a) (b := b) (c := c) (d := d) (r := r) (I := I) (D := D) (K := K_30) (M := M) hM (inB_lt h_13)
      obtain ⟨h_32, hf⟩ := ck_out hf
      obtain ⟨K_33, eK_33, hf⟩ := nm_out hf
      refine va_iast (n := 10) (f := K_30 (60 + (p1).toNatClampNeg)) hx hb hK hP (hDD r I D K_30 M) hS q_31 0 heq_31 rfl (inB_in h_32) dX5_put_72 (fun H locs hP _ hS => ?_)
      have hP : va_P (dC, dI) vwCl (iwT L ad cy bS a b c d r I D K_33 M) H := by rw [eK_33]; exact hqK hM wq_31 (by omega) ((cellT_Mixr ad cy bS a b c d r (by have := hM.2.2; have := (inB_lt h_13); omega) _ _).trans rfl) hP
      refine lv_aload_n hx hb dX5_put_73 rfl (lv_at hl 3 rfl) ?_
      obtain ⟨q_34, wq_34, heq_34⟩ := heT_40 (L := L) (ad := ad) (cy := cy) (bS := bS) (a := a) (b := b) (c := c) (d := d) (r := r) (I := I) (D := D) (K := K_33) (M := M) hM
      refine va_get (D := (dC, dI)) (ci := 5) (v := .ref (ad 0)) (C := RX5) (T := TX5) (N := 11) hx hb hts iT_put_RX5 hown hK hP q_34 heq_34 rfl 0 (by decide) (hts (.fieldLink RX5 10 "OverrunHouseLaw$Told" "m" "LOverrunHouse;") (List.mem_cons_of_mem _ (List.mem_append_left _ (List.mem_append_left _ (List.mem_append_left _ (List.mem_append_left _ (List.mem_append_left _ (List.mem_append_left _ (List.mem_append_left _ (List.mem_append_left _ (List.mem_of_getElem? (i := 2) rfl))))))))))) (fun _ h9 => h9) rfl dX5_put_74 ?_
      refine lv_iload_n hx hb dX5_put_77 rfl (lv_at hl 4 rfl) ?_
      refine lv_iload_n hx hb dX5_put_78 rfl (lv_at hl 2 rfl) ?_
      refine lv_iload_n hx hb dX5_put_79 rfl (lv_at hl 1 rfl) ?_
      obtain ⟨⟨r_35, I_37, D_38⟩, g_36, hf⟩ := bd_out hf
      have hPH := iwT_H hM hP
      have hAW : ∀ q, AW ad H.size q → A q := fun q h => h.elim (fun ⟨k, k1, k2⟩ => k2 ▸ hAL k (hM.1.2.1 _ (tL_H k1))) (fun h => hA q (Nat.le_trans hS.1 h))
      refine va_calli (va_runV (As := [.int p1, .int r_3, .int (1 + r_7)]) (rest := []) ⟨hx, hb, hml, hown, hts⟩ (mt_X4_put l dC dI ad cy hM.J H.size I D p1 r_3 (1 + r_7) r_35 I_37 D_38 (eO_out g_36)) (cwV 3 hts gX5_put_X4_put rfl rfl rfl (by decide +kernel) ⟨(Nat.le_of_ble_eq_true rfl), (Nat.le_of_ble_eq_true rfl)⟩) ⟨(hW.pre [.ref (ad 0), .int p1, .int r_3, .int (1 + r_7)] hPH hK hN.1).1, hW.recv (C := RX4) (T := TX4) (N := 14) hPH hK heH_0 rfl, (hW.pre [.ref (ad 0), .int p1, .int r_3, .int (1 + r_7)] hPH hK hN.1).2⟩ rfl rfl hl.1 rfl (lv_room (Nat.le_of_ble_eq_true rfl)) dX5_put_80 ⟨(Nat.le_of_ble_eq_true rfl), (Nat.le_of_ble_eq_true rfl)⟩) hS (fun q _ h => hAW q h) (fun q h => hAW q h) (fun r9 u t H1 locs ht hvm hw hB hz1 hk1 hS9 => ?_)
      subst hw
      have hP : va_P (dC, dI) vwCl (iwT L ad cy bS a b c d r I_37 D_38 K_33 M) H1 := iwT_join hM hP (by rw [← ht]; exact hB.1) hk1
      have hS := hS9
      clear hB hz1 hk1 hvm ht hS9
      generalize H1 = H at hP hS ⊢
      refine lv_aload_n hx hb dX5_put_83 rfl (lv_at hl 3 rfl) ?_
      refine lv_iload_n hx hb dX5_put_84 rfl (lv_at hl 4 rfl) ?_
      obtain ⟨r_39, g_40, hf⟩ := bd_out hf
      obtain ⟨q_41, wq_41, heq_41⟩ := heT_40 (L := L) (ad := ad) (cy := cy) (bS := bS) (a := a) (b := b) (c := c) (d := d) (r := r) (I := I_37) (D := D_38) (K := K_33) (M := M) hM
      refine va_calli (va_runV (As := [.int p1]) (rest := [.int r_35]) ⟨hx, hb, hml, hown, hts⟩ (mt_T_all l dC dI L a b c d bS ad cy hM r LS xs H.size I_37 D_38 K_33 M p1 r_39 g_40) (cwV 1 hts gX5_put_X5_all rfl rfl rfl (by decide +kernel) ⟨(Nat.le_of_ble_eq_true rfl), (Nat.le_of_ble_eq_true rfl)⟩) ⟨(tW.pre [.ref (ad 40), .int p1] hP hK hN (hX0.kept (hS.2.1 bS hbl hbA))).1, tW.recv (C := RX5) (T := TX5) (N := 11) hP hK heq_41 rfl, (tW.pre [.ref (ad 40), .int p1] hP hK hN (hX0.kept (hS.2.1 bS hbl hbA))).2⟩ rfl rfl hl.1 rfl (lv_room (Nat.le_of_ble_eq_true rfl)) dX5_put_85 ⟨(Nat.le_of_ble_eq_true rfl), (Nat.le_of_ble_eq_true rfl)⟩) hS (fun q _ h => hA q (Nat.le_trans hS.1 h)) (fun q h => hA q (Nat.le_trans hS.1 h)) (fun r9 u t H1 locs ht hvm hw hB hz1 hk1 hS9 => ?_)
      subst hw
      have hP := va_Pnew hP hk1
      have hS := hS9
      clear hB hz1 hk1 hvm ht hS9
      generalize H1 = H at hP hS ⊢
      refine lv_icmp_ne (tgt := 95) hx hb dX5_put_88 (by decide) (fun c_42 => ?_) (fun c_42 => ?_)
      · have hf := it_f hf c_42
        refine lv_iconst (v := 0) hx hb dX5_put_95 (by decide) ?_
        have hf := Option.some.inj hf
        obtain ⟨q1, hf⟩ := Prod.mk.inj hf
        obtain ⟨qI, hf⟩ := Prod.mk.inj hf
        obtain ⟨qD, qK⟩ := Prod.mk.inj hf
        exact W.zret (ty := .boolean) (v := 0) hx hb hr rfl (fun t ht hW9 => ⟨⟨0, (), rfl, q1.symm, (by rw [← qI, ← qD, ← qK]; exact tW.of hP hK hN (hX0.kept (hS.2.1 bS hbl hbA)) ht hW9)⟩, hS.F ht⟩) hS.2.2 dX5_put_96
      · have hf := it_t hf c_42
        refine lv_iconst (v := 1) hx hb dX5_put_91 (by decide) ?_
        refine lv_goto (tgt := 96) hx hb dX5_put_92 (by decide) ?_
        have hf := Option.some.inj hf
        obtain ⟨q1, hf⟩ := Prod.mk.inj hf
        obtain ⟨qI, hf⟩ := Prod.mk.inj hf
        obtain ⟨qD, qK⟩ := Prod.mk.inj hf
        exact W.zret (ty := .boolean) (v := 1) hx hb hr rfl (fun t ht hW9 => ⟨⟨1, (), rfl, q1.symm, (by rw [← qI, ← qD, ← qK]; exact tW.of hP hK hN (hX0.kept (hS.2.1 bS hbl hbA)) ht hW9)⟩, hS.F ht⟩) hS.2.2 dX5_put_96
    · have hf := it_f hf c_20
      refine lv_iconst (v := 1) hx hb dX5_put_48 (by decide) ?_
      have hf := Option.some.inj hf
      obtain ⟨q1, hf⟩ := Prod.mk.inj hf
      obtain ⟨qI, hf⟩ := Prod.mk.inj hf
      obtain ⟨qD, qK⟩ := Prod.mk.inj hf
      exact W.zret (ty := .boolean) (v := 1) hx hb hr rfl (fun t ht hW9 => ⟨⟨1, (), rfl, q1.symm, (by rw [← qI, ← qD, ← qK]; exact tW.of hP hK hN (hX0.kept (hS.2.1 bS hbl hbA)) ht hW9)⟩, hS.F ht⟩) hS.2.2 dX5_put_49

def f_T_heat_J151 (K_22 : Nat → Nat → Int32) (I_26 : Nat → Nat → Int32) (D_27 : Nat → Nat → UInt64) (r_24 : Int32) (z0_151 : Int32) : Option (Int32 × (Nat → Nat → Int32) × (Nat → Nat → UInt64) × (Nat → Nat → Int32)) :=
  (if r_24 = z0_151 then some (1, I_26, D_27, K_22) else some (0, I_26, D_27, K_22))
def f_T_heat_J111 (b : Nat) (I : Nat → Nat → Int32) (D : Nat → Nat → UInt64) (p1 : Int32) (r_1 : Int32) (z0_33 : Int32) (K_J33 : Nat → Nat → Int32) (z0_111 : Int32) : Option (Int32 × (Nat → Nat → Int32) × (Nat → Nat → UInt64) × (Nat → Nat → Int32)) :=
  ck (inB 7 10) (nm (up2 K_J33 (60 + (p1).toNatClampNeg) (7 : Int32).toNatClampNeg ((K_J33 (60 + (p1).toNatClampNeg) (7 : Int32).toNatClampNeg) ||| z0_111)) (fun K_16 => ck (inB p1 b) (ck (inB 8 10) (nm (up2 K_16 (60 + (p1).toNatClampNeg) (8 : Int32).toNatClampNeg 0) (fun K_22 => bd (eO (f_X4_heat I D p1 (60 + r_1) z0_33)) (fun (r_24, I_26, D_27) => ck (inB p1 b) (ck (inB 7 10) ((if (K_22 (60 + (p1).toNatClampNeg) (7 : Int32).toNatClampNeg) = 1 then f_T_heat_J151 K_22 I_26 D_27 r_24 1 else f_T_heat_J151 K_22 I_26 D_27 r_24 0)))))))))
def f_T_heat_J89 (b : Nat) (I : Nat → Nat → Int32) (D : Nat → Nat → UInt64) (p1 : Int32) (r_1 : Int32) (z0_33 : Int32) (K_J33 : Nat → Nat → Int32) (z0_89 : Int32) : Option (Int32 × (Nat → Nat → Int32) × (Nat → Nat → UInt64) × (Nat → Nat → Int32)) :=
  ck (inB p1 b) (ck (inB 7 10) ((if z0_89 = 0 then f_T_heat_J111 b I D p1 r_1 z0_33 K_J33 0 else f_T_heat_J111 b I D p1 r_1 z0_33 K_J33 1)))
def f_T_heat_J33 (b : Nat) (I : Nat → Nat → Int32) (D : Nat → Nat → UInt64) (p1 : Int32) (r_1 : Int32) (z0_33 : Int32) (K_J33 : Nat → Nat → Int32) : Option (Int32 × (Nat → Nat → Int32) × (Nat → Nat → UInt64) × (Nat → Nat → Int32)) :=
  (if (60 + r_1) < 65 then (if (60 + r_1) < 70 then (if (60 + r_1) < 75 then (if (60 + r_1) < 80 then f_T_heat_J89 b I D p1 r_1 z0_33 K_J33 0 else (if z0_33 < 15 then f_T_heat_J89 b I D p1 r_1 z0_33 K_J33 0 else f_T_heat_J89 b I D p1 r_1 z0_33 K_J33 1)) else (if 60 ≤ z0_33 then f_T_heat_J89 b I D p1 r_1 z0_33 K_J33 1 else (if (60 + r_1) < 80 then f_T_heat_J89 b I D p1 r_1 z0_33 K_J33 0 else (if z0_33 < 15 then f_T_heat_J89 b I D p1 r_1 z0_33 K_J33 0 else f_T_heat_J89 b I D p1 r_1 z0_33 K_J33 1)))) else (if 300 ≤ z0_33 then f_T_heat_J89 b I D p1 r_1 z0_33 K_J33 1 else (if (60 + r_1) < 75 then (if (60 + r_1) < 80 then f_T_heat_J89 b I D p1 r_1 z0_33 K_J33 0 else (if z0_33 < 15 then f_T_heat_J89 b I D p1 r_1 z0_33 K_J33 0 else f_T_heat_J89 b I D p1 r_1 z0_33 K_J33 1)) else (if 60 ≤ z0_33 then f_T_heat_J89 b I D p1 r_1 z0_33 K_J33 1 else (if (60 + r_1) < 80 then f_T_heat_J89 b I D p1 r_1 z0_33 K_J33 0 else (if z0_33 < 15 then f_T_heat_J89 b I D p1 r_1 z0_33 K_J33 0 else f_T_heat_J89 b I D p1 r_1 z0_33 K_J33 1)))))) else (if 1800 ≤ z0_33 then f_T_heat_J89 b I D p1 r_1 z0_33 K_J33 1 else (if (60 + r_1) < 70 then (if (60 + r_1) < 75 then (if (60 + r_1) < 80 then f_T_heat_J89 b I D p1 r_1 z0_33 K_J33 0 else (if z0_33 < 15 then f_T_heat_J89 b I D p1 r_1 z0_33 K_J33 0 else f_T_heat_J89 b I D p1 r_1 z0_33 K_J33 1)) else (if 60 ≤ z0_33 then f_T_heat_J89 b I D p1 r_1 z0_33 K_J33 1 else (if (60 + r_1) < 80 then f_T_heat_J89 b I D p1 r_1 z0_33 K_J33 0 else (if z0_33 < 15 then f_T_heat_J89 b I D p1 r_1 z0_33 K_J33 0 else f_T_heat_J89 b I D p1 r_1 z0_33 K_J33 1)))) else (if 300 ≤ z0_33 then f_T_heat_J89 b I D p1 r_1 z0_33 K_J33 1 else (if (60 + r_1) < 75 then (if (60 + r_1) < 80 then f_T_heat_J89 b I D p1 r_1 z0_33 K_J33 0 else (if z0_33 < 15 then f_T_heat_J89 b I D p1 r_1 z0_33 K_J33 0 else f_T_heat_J89 b I D p1 r_1 z0_33 K_J33 1)) else (if 60 ≤ z0_33 then f_T_heat_J89 b I D p1 r_1 z0_33 K_J33 1 else (if (60 + r_1) < 80 then f_T_heat_J89 b I D p1 r_1 z0_33 K_J33 0 else (if z0_33 < 15 then f_T_heat_J89 b I D p1 r_1 z0_33 K_J33 0 else f_T_heat_J89 b I D p1 r_1 z0_33 K_J33 1))))))))
def f_T_heat (LS : Nat) (xs : Nat → Int32) (a b c d : Nat) (I : Nat → Nat → Int32) (D : Nat → Nat → UInt64) (K : Nat → Nat → Int32) (M : Nat → Nat → UInt64) (p1 : Int32) : Option (Int32 × (Nat → Nat → Int32) × (Nat → Nat → UInt64) × (Nat → Nat → Int32)) :=
  bd (f_T_draw LS xs a b c d I D K M 30) (fun (r_1, K_3) => bd (f_T_draw LS xs a b c d I D K_3 M 2) (fun (r_5, K_7) => (if r_5 = 0 then f_T_heat_J33 b I D p1 r_1 2000 K_7 else bd (f_T_draw LS xs a b c d I D K_7 M 400) (fun (r_67, K_69) => f_T_heat_J33 b I D p1 r_1 (1 + r_67) K_69))))
theorem iT_heat_RX5 : ∀ w ∈ u_ws RX5 TX5 11, w ∈ wsX5_heat := fun w h => List.mem_cons_of_mem _ (List.mem_append_left _ (List.mem_append_left _ (List.mem_append_left _ (List.mem_append_left _ (List.mem_append_right _ (h))))))
set_option maxHeartbeats 4000000 in
set_option maxRecDepth 100000 in
theorem mt_T_heat (l : Launch) (dC : Nat → ClassId) (dI : Nat → Nat → Nat) (L : List Nat) (a b c d bS : Nat) (ad : Nat → Nat) (cy : Nat → ClassId) (hM : tOK L a b c d bS ad) (r LS : Nat) (xs : Nat → Int32) (sz : Nat) (I : Nat → Nat → Int32) (D : Nat → Nat → UInt64) (K : Nat → Nat → Int32) (M : Nat → Nat → UInt64) (p1 : Int32) (rr : Int32) (I9 : Nat → Nat → Int32) (D9 : Nat → Nat → UInt64) (K9 : Nat → Nat → Int32) (hf : f_T_heat LS xs a b c d I D K M p1 = some (rr, I9, D9, K9)) : Met l yX5_heat wsX5_heat ({ frames := 2, cells := 0, slots := 0, locals := 46 }) (va_Pc [.ref (ad 40), .int p1] (fun U => U.heap.size = sz ∧ tW dC dI L ad cy bS a b c d r LS xs I D K M U)) (va_Qi (fun r (_ : Unit) => rr = r) (fun _ t => tW dC dI L ad cy bS a b c d r LS xs I9 D9 K9 M t) (AT L ad sz)) 0 0 (AT L ad sz) := by
  refine Met.ofW (cc := cX5_heat) (maxL := 5) (ret := (some .boolean)) (by decide) rfl ?_
  intro p e s m args below meth cX s₁ B hml hv
  obtain ⟨rfl, hsz, hP, hK, hN, hX0⟩ := hv
  have hx := B.exec
  have hb := B.bytes
  have hr := B.returns
  have hts := atoms_spec (ws := wsX5_heat) B.pre
  have hown : s.vm.findClass RX5 = some m.cls := findClass_of_methodNamed B.named
  have hlocks := B.notSynchronized
  subst hsz
  have hbl : bS < s.heap.size := by obtain ⟨scr, h, -⟩ := hX0; exact (Array.getElem?_eq_some_iff.mp h).1
  generalize hAe : AT L ad s.heap.size = A
  have hA : ∀ q : Nat, s.heap.size ≤ q → A q := fun q h => by rw [← hAe]; exact Or.inr h
  have hAL : ∀ k, k ∈ L → A (ad k) := fun k h => by rw [← hAe]; exact Or.inl ⟨k, h, rfl⟩
  have hDD : ∀ r I D K M, va_D A (iwT L ad cy bS a b c d r I D K M) := fun r I D K M => iwT_D hM hAL I D K M
  have hbA : ¬ A bS := fun h => by rw [← hAe] at h; exact h.elim (fun ⟨k, k1, k2⟩ => hM.2.1 k k1 k2) (fun h => Nat.lt_irrefl _ (Nat.lt_of_lt_of_le hbl h))
  obtain ⟨H, hH⟩ : ∃ H : Heap, H = s.heap := ⟨_, rfl⟩
  have hS : va_S A s.heap H [] := by rw [hH]; exact va_S.rf
  have hP : va_P (dC, dI) vwCl (iwT L ad cy bS a b c d r I D K M) H := by rw [hH]; exact hP
  suffices hgo : ∀ locs, va_S A s.heap H locs → W p l e (headSpec wsX5_heat ({ frames := 2, cells := 0, slots := 0, locals := 46 })).room s m ([.ref (ad 40), .int p1] : List Value).toArray below meth cX H locs 0 0 (MQ below (va_Qi (fun r (_ : Unit) => rr = r) (fun _ t => tW dC dI L ad cy bS a b c d r LS xs I9 D9 K9 M t) A) ([.ref (ad 40), .int p1] : List Value).toArray s 0 0 A) (entryFrame m ([.ref (ad 40), .int p1] : List Value).toArray 5) by subst hH; exact hgo [] hS
  clear hS hH
  intro locs hS
  have hl := lv_entry ([.ref (ad 40), .int p1]) (n := 5) (Nat.le_of_ble_eq_true rfl)
  rw [lg_entry_eq]
  generalize (lg_sl ([.ref (ad 40), .int p1]) ++ List.replicate (5 - (lg_sl ([.ref (ad 40), .int p1])).length) Slot.unset).toArray = ls at hl ⊢
  have hl : lv_has ls 5 [(0, .ref (ad 40)), (1, .int p1)] := hl
  unfold f_T_heat at hf
  refine lv_bipush (v := 60) hx hb dX5_heat_0 (by decide) ?_
  refine lv_aload_n hx hb dX5_heat_2 rfl (lv_at hl 0 rfl) ?_
  refine lv_bipush (v := 30) hx hb dX5_heat_3 (by decide) ?_
  obtain ⟨⟨r_1, K_3⟩, g_2, hf⟩ := bd_out hf
  have hAW : ∀ q, AT L ad H.size q → A q := fun q h => h.elim (fun ⟨k, k1, k2⟩ => k2 ▸ hAL k k1) (fun h => hA q (Nat.le_trans hS.1 h))
  obtain ⟨q_4, wq_4, heq_4⟩ := heT_40 (L := L) (ad := ad) (cy := cy) (bS := bS) (a := a) (b := b) (c := c) (d := d) (r := r) (I := I) (D := D) (K := K) (M := M) hM
  refine va_calli (va_runV (As := [.int 30]) (rest := [.int 60]) ⟨hx, hb, hml, hown, hts⟩ (mt_T_draw l dC dI L a b c d bS ad cy hM r LS xs H.size I D K M 30 r_1 K_3 g_2) (cwV 1 hts gX5_heat_X5_draw rfl rfl rfl (by decide +kernel) ⟨(Nat.le_of_ble_eq_true rfl), (Nat.le_of_ble_eq_true rfl)⟩) ⟨(tW.pre [.ref (ad 40), .int 30] hP hK hN (hX0.kept (hS.2.1 bS hbl hbA))).1, tW.recv (C := RX5) (T := TX5) (N := 11) hP hK heq_4 rfl, (tW.pre [.ref (ad 40), .int 30] hP hK hN (hX0.kept (hS.2.1 bS hbl hbA))).2⟩ rfl rfl hl.1 rfl (lv_room (Nat.le_of_ble_eq_true rfl)) dX5_heat_5 ⟨(Nat.le_of_ble_eq_true rfl), (Nat.le_of_ble_eq_true rfl)⟩) hS (fun q _ h => hAW q h) (fun q h => hAW q h) (fun r9 u t H1 locs ht hvm hw hB hz1 hk1 hS9 => ?_)
  subst hw
  have hP : va_P (dC, dI) vwCl (iwT L ad cy bS a b c d r I D K_3 M) H1 := by rw [← ht]; exact hB.1
  have hS := hS9
  clear hB hz1 hk1 hvm ht hS9
  generalize H1 = H at hP hS ⊢
  refine lv_iadd hx hb dX5_heat_8 ?_
  refine lv_istore_n (lv' := [(2, .int (60 + r_1)), (0, .ref (ad 40)), (1, .int p1)]) hx hb dX5_heat_9 rfl hl (by decide) rfl (fun ls hl => ?_)
  refine lv_aload_n hx hb dX5_heat_10 rfl (lv_at hl 1 rfl) ?_
  refine lv_iconst (v := 2) hx hb dX5_heat_11 (by decide) ?_
  obtain ⟨⟨r_5, K_7⟩, g_6, hf⟩ := bd_out hf
  have hAW : ∀ q, AT L ad H.size q → A q := fun q h => h.elim (fun ⟨k, k1, k2⟩ => k2 ▸ hAL k k1) (fun h => hA q (Nat.le_trans hS.1 h))
  obtain ⟨q_8, wq_8, heq_8⟩ := heT_40 (L := L) (ad := ad) (cy := cy) (bS := bS) (a := a) (b := b) (c := c) (d := d) (r := r) (I := I) (D := D) (K := K_3) (M := M) hM
  refine va_calli (va_runV (As := [.int 2]) (rest := []) ⟨hx, hb, hml, hown, hts⟩ (mt_T_draw l dC dI L a b c d bS ad cy hM r LS xs H.size I D K_3 M 2 r_5 K_7 g_6) (cwV 1 hts gX5_heat_X5_draw rfl rfl rfl (by decide +kernel) ⟨(Nat.le_of_ble_eq_true rfl), (Nat.le_of_ble_eq_true rfl)⟩) ⟨(tW.pre [.ref (ad 40), .int 2] hP hK hN (hX0.kept (hS.2.1 bS hbl hbA))).1, tW.recv (C := RX5) (T := TX5) (N := 11) hP hK heq_8 rfl, (tW.pre [.ref (ad 40), .int 2] hP hK hN (hX0.kept (hS.2.1 bS hbl hbA))).2⟩ rfl rfl hl.1 rfl (lv_room (Nat.le_of_ble_eq_true rfl)) dX5_heat_12 ⟨(Nat.le_of_ble_eq_true rfl), (Nat.le_of_ble_eq_true rfl)⟩) hS (fun q _ h => hAW q h) (fun q h => hAW q h) (fun r9 u t H1 locs ht hvm hw hB hz1 hk1 hS9 => ?_)
  subst hw
  have hP : va_P (dC, dI) vwCl (iwT L ad cy bS a b c d r I D K_7 M) H1 := by rw [← ht]; exact hB.1
  have hS := hS9
  clear hB hz1 hk1 hvm ht hS9
  generalize H1 = H at hP hS ⊢
  have J33 : ∀ (z0_33 : Int32) (K_J33 : Nat → Nat → Int32), f_T_heat_J33 b I D p1 r_1 z0_33 K_J33 = some (rr, I9, D9, K9) → ∀ (H : Heap) (locs : List Loc) (ls : Array Slot), va_P (dC, dI) vwCl (iwT L ad cy bS a b c d r I D K_J33 M) H → va_S A s.heap H locs → lv_has ls 5 [(2, .int (60 + r_1)), (0, .ref (ad 40)), (1, .int p1)] → W p l e (headSpec wsX5_heat ({ frames := 2, cells := 0, slots := 0, locals := 46 })).room s m ([.ref (ad 40), .int p1] : List Value).toArray below meth cX H locs 0 0 (MQ below (va_Qi (fun r (_ : Unit) => rr = r) (fun _ t => tW dC dI L ad cy bS a b c d r LS xs I9 D9 K9 M t) A) ([.ref (ad 40), .int p1] : List Value).toArray s 0 0 A) (F0 m 33 ls [.int z0_33]) := by
    intro z0_33 K_J33 hf H locs ls hP hS hl
    unfold f_T_heat_J33 at hf
    refine lv_istore_n (lv' := [(3, .int z0_33), (2, .int (60 + r_1)), (0, .ref (ad 40)), (1, .int p1)]) hx hb dX5_heat_33 rfl hl (by decide) rfl (fun ls hl => ?_)
    refine lv_iload_n hx hb dX5_heat_34 rfl (lv_at hl 1 rfl) ?_
    refine lv_bipush (v := 65) hx hb dX5_heat_35 (by decide) ?_
    have J89 : ∀ (z0_89 : Int32), f_T_heat_J89 b I D p1 r_1 z0_33 K_J33 z0_89 = some (rr, I9, D9, K9) → ∀ (H : Heap) (locs : List Loc) (ls : Array Slot), va_P (dC, dI) vwCl (iwT L ad cy bS a b c d r I D K_J33 M) H → va_S A s.heap H locs → lv_has ls 5 [(3, .int z0_33), (2, .int (60 + r_1)), (0, .ref (ad 40)), (1, .int p1)] → W p l e (headSpec wsX5_heat ({ frames := 2, cells := 0, slots := 0, locals := 46 })).room s m ([.ref (ad 40), .int p1] : List Value).toArray below meth cX H locs 0 0 (MQ below (va_Qi (fun r (_ : Unit) => rr = r) (fun _ t => tW dC dI L ad cy bS a b c d r LS xs I9 D9 K9 M t) A) ([.ref (ad 40), .int p1] : List Value).toArray s 0 0 A) (F0 m 89 ls [.int z0_89]) := by
      intro z0_89 hf H locs ls hP hS hl
      unfold f_T_heat_J89 at hf
      refine lv_istore (lv' := [(4, .int z0_89), (3, .int z0_33), (2, .int (60 + r_1)), (0, .ref (ad 40)), (1, .int p1)]) hx hb dX5_heat_89 hl (by decide) rfl (fun ls hl => ?_)
      refine lv_aload_n hx hb dX5_heat_91 rfl (lv_at hl 3 rfl) ?_
      obtain ⟨q_9, wq_9, heq_9⟩ := heT_40 (L := L) (ad := ad) (cy := cy) (bS := bS) (a := a) (b := b) (c := c) (d := d) (r := r) (I := I) (D := D) (K := K_J33) (M := M) hM
      refine va_get (D := (dC, dI)) (ci := 5) (v := .ref (ad 48)) (C := RX5) (T := TX5) (N := 11) hx hb hts iT_heat_RX5 hown hK hP q_9 heq_9 rfl 4 (by decide) (hts (.fieldLink RX5 22 "OverrunHouseLaw$Told" "mixes" "[[I") (List.mem_cons_of_mem _ (List.mem_append_left _ (List.mem_append_left _ (List.mem_append_left _ (List.mem_append_left _ (List.mem_append_left _ (List.mem_append_left _ (List.mem_of_getElem? (i := 0) rfl))))))))) (fun _ h9 => h9) rfl dX5_heat_92 ?_
      refine lv_iload_n hx hb dX5_heat_95 rfl (lv_at hl 4 rfl) ?_
      obtain ⟨q_10, wq_10, heq_10⟩ := heT_48 (L := L) (ad := ad) (cy := cy) (bS := bS) (a := a) (b := b) (c := c) (d := d) (r := r) (I := I) (D := D) (K := K_J33) (M := M) hM
      obtain ⟨h_11, hf⟩ := ck_out hf
      refine ra_lda (bs := 60) (n := b) hx hb hK hP q_10 heq_10 (inB_in h_11) dX5_heat_96 ?_
      refine lv_bipush (v := 7) hx hb dX5_heat_97 (by decide) ?_
      refine lv_dup2_11 hx hb dX5_heat_99 rfl rfl ?_
      obtain ⟨q_12, wq_12, heq_12⟩ := heT_Mixr (L := L) (ad := ad) (cy := cy) (bS := bS) (a := a) (b := b) (c := c) (d := d) (r := r) (I := I) (D := D) (K := K_J33) (M := M) hM (inB_lt h_11)
      obtain ⟨h_13, hf⟩ := ck_out hf
      refine va_iald (n := 10) (f := K_J33 (60 + (p1).toNatClampNeg)) hx hb hK hP q_12 0 heq_12 rfl (inB_in h_13) dX5_heat_100 ?_
      refine lv_iload hx hb dX5_heat_101 (lv_at hl 0 rfl) ?_
      have J111 : ∀ (z0_111 : Int32), f_T_heat_J111 b I D p1 r_1 z0_33 K_J33 z0_111 = some (rr, I9, D9, K9) → ∀ (H : Heap) (locs : List Loc) (ls : Array Slot), va_P (dC, dI) vwCl (iwT L ad cy bS a b c d r I D K_J33 M) H → va_S A s.heap H locs → lv_has ls 5 [(4, .int z0_89), (3, .int z0_33), (2, .int (60 + r_1)), (0, .ref (ad 40)), (1, .int p1)] → W p l e (headSpec wsX5_heat ({ frames := 2, cells := 0, slots := 0, locals := 46 })).room s m ([.ref (ad 40), .int p1] : List Value).toArray below meth cX H locs 0 0 (MQ below (va_Qi (fun r (_ : Unit) => rr = r) (fun _ t => tW dC dI L ad cy bS a b c d r LS xs I9 D9 K9 M t) A) ([.ref (ad 40), .int p1] : List Value).toArray s 0 0 A) (F0 m 111 ls [.int z0_111, .int (K_J33 (60 + (p1).toNatClampNeg) (7 : Int32).toNatClampNeg), .int 7, .ref (ad (60 + (p1).toNatClampNeg))]) := by
        intro z0_111 hf H locs ls hP hS hl
        unfold f_T_heat_J111 at hf
        refine lv_ior hx hb dX5_heat_111 ?_
        obtain ⟨q_14, wq_14, heq_14⟩ := heT_Mixr (L := L) (ad := ad) (cy := cy) (bS := bS) (a := a) (b := b) (c := c) (d := d) (r := r) (I := I) (D := D) (K := K_J33) (M := M) hM (inB_lt h_11)
        obtain ⟨h_15, hf⟩ := ck_out hf
        obtain ⟨K_16, eK_16, hf⟩ := nm_out hf
        refine va_iast (n := 10) (f := K_J33 (60 + (p1).toNatClampNeg)) hx hb hK hP (hDD r I D K_J33 M) hS q_14 0 heq_14 rfl (inB_in h_15) dX5_heat_112 (fun H locs hP _ hS => ?_)
        have hP : va_P (dC, dI) vwCl (iwT L ad cy bS a b c d r I D K_16 M) H := by rw [eK_16]; exact hqK hM wq_14 (by omega) ((cellT_Mixr ad cy bS a b c d r (by have := hM.2.2; have := (inB_lt h_11); omega) _ _).trans rfl) hP
        refine lv_aload_n hx hb dX5_heat_113 rfl (lv_at hl 3 rfl) ?_
        obtain ⟨q_17, wq_17, heq_17⟩ := heT_40 (L := L) (ad := ad) (cy := cy) (bS := bS) (a := a) (b := b) (c := c) (d := d) (r := r) (I := I) (D := D) (K := K_16) (M := M) hM
        refine va_get (D := (dC, dI)) (ci := 5) (v := .ref (ad 48)) (C := RX5) (T := TX5) (N := 11) hx hb hts iT_heat_RX5 hown hK hP q_17 heq_17 rfl 4 (by decide) (hts (.fieldLink RX5 22 "OverrunHouseLaw$Told" "mixes" "[[I") (List.mem_cons_of_mem _ (List.mem_append_left _ (List.mem_append_left _ (List.mem_append_left _ (List.mem_append_left _ (List.mem_append_left _ (List.mem_append_left _ (List.mem_of_getElem? (i := 0) rfl))))))))) (fun _ h9 => h9) rfl dX5_heat_114 ?_
        refine lv_iload_n hx hb dX5_heat_117 rfl (lv_at hl 4 rfl) ?_
        obtain ⟨q_18, wq_18, heq_18⟩ := heT_48 (L := L) (ad := ad) (cy := cy) (bS := bS) (a := a) (b := b) (c := c) (d := d) (r := r) (I := I) (D := D) (K := K_16) (M := M) hM
        obtain ⟨h_19, hf⟩ := ck_out hf
        refine ra_lda (bs := 60) (n := b) hx hb hK hP q_18 heq_18 (inB_in h_19) dX5_heat_118 ?_
        refine lv_bipush (v := 8) hx hb dX5_heat_119 (by decide) ?_
        refine lv_iconst (v := 0) hx hb dX5_heat_121 (by decide) ?_
        obtain ⟨q_20, wq_20, heq_20⟩ := heT_Mixr (L := L) (ad := ad) (cy := cy) (bS := bS) (a := a) (b := b) (c := c) (d := d) (r := r) (I := I) (D := D) (K := K_16) (M := M) hM (inB_lt h_19)
        obtain ⟨h_21, hf⟩ := ck_out hf
        obtain ⟨K_22, eK_22, hf⟩ := nm_out hf
        refine va_iast (n := 10) (f := K_16 (60 + (p1).toNatClampNeg)) hx hb hK hP (hDD r I D K_16 M) hS q_20 0 heq_20 rfl (inB_in h_21) dX5_heat_122 (fun H locs hP _ hS => ?_)
        have hP : va_P (dC, dI) vwCl (iwT L ad cy bS a b c d r I D K_22 M) H := by rw [eK_22]; exact hqK hM wq_20 (by omega) ((cellT_Mixr ad cy bS a b c d r (by have := hM.2.2; have := (inB_lt h_19); omega) _ _).trans rfl) hP
        refine lv_aload_n hx hb dX5_heat_123 rfl (lv_at hl 3 rfl) ?_
        obtain ⟨q_23, wq_23, heq_23⟩ := heT_40 (L := L) (ad := ad) (cy := cy) (bS := bS) (a := a) (b := b) (c := c) (d := d) (r := r) (I := I) (D := D) (K := K_22) (M := M) hM
        refine va_get (D := (dC, dI)) (ci := 5) (v := .ref (ad 0)) (C := RX5) (T := TX5) (N := 11) hx hb hts iT_heat_RX5 hown hK hP q_23 heq_23 rfl 0 (by decide) (hts (.fieldLink RX5 10 "OverrunHouseLaw$Told" "m" "LOverrunHouse;") (List.mem_cons_of_mem _ (List.mem_append_left _ (List.mem_append_left _ (List.mem_append_left _ (List.mem_append_left _ (List.mem_append_left _ (List.mem_append_left _ (List.mem_of_getElem? (i := 1) rfl))))))))) (fun _ h9 => h9) rfl dX5_heat_124 ?_
        refine lv_iload_n hx hb dX5_heat_127 rfl (lv_at hl 4 rfl) ?_
        refine lv_iload_n hx hb dX5_heat_128 rfl (lv_at hl 2 rfl) ?_
        refine lv_iload_n hx hb dX5_heat_129 rfl (lv_at hl 1 rfl) ?_
        obtain ⟨⟨r_24, I_26, D_27⟩, g_25, hf⟩ := bd_out hf
        have hPH := iwT_H hM hP
        have hAW : ∀ q, AW ad H.size q → A q := fun q h => h.elim (fun ⟨k, k1, k2⟩ => k2 ▸ hAL k (hM.1.2.1 _ (tL_H k1))) (fun h => hA q (Nat.le_trans hS.1 h))
        refine va_calli (va_runV (As := [.int p1, .int (60 + r_1), .int z0_33]) (rest := []) ⟨hx, hb, hml, hown, hts⟩ (mt_X4_heat l dC dI ad cy hM.J H.size I D p1 (60 + r_1) z0_33 r_24 I_26 D_27 (eO_out g_25)) (cwV 3 hts gX5_heat_X4_heat rfl rfl rfl (by decide +kernel) ⟨(Nat.le_of_ble_eq_true rfl), (Nat.le_of_ble_eq_true rfl)⟩) ⟨(hW.pre [.ref (ad 0), .int p1, .int (60 + r_1), .int z0_33] hPH hK hN.1).1, hW.recv (C := RX4) (T := TX4) (N := 14) hPH hK heH_0 rfl, (hW.pre [.ref (ad 0), .int p1, .int (60 + r_1), .int z0_33] hPH hK hN.1).2⟩ rfl rfl hl.1 rfl (lv_room (Nat.le_of_ble_eq_true rfl)) dX5_heat_130 ⟨(Nat.le_of_ble_eq_true rfl), (Nat.le_of_ble_eq_true rfl)⟩) hS (fun q _ h => hAW q h) (fun q h => hAW q h) (fun r9 u t H1 locs ht hvm hw hB hz1 hk1 hS9 => ?_)
        subst hw
        have hP : va_P (dC, dI) vwCl (iwT L ad cy bS a b c d r I_26 D_27 K_22 M) H1 := iwT_join hM hP (by rw [← ht]; exact hB.1) hk1
        have hS := hS9
        clear hB hz1 hk1 hvm ht hS9
        generalize H1 = H at hP hS ⊢
        refine lv_aload_n hx hb dX5_heat_133 rfl (lv_at hl 3 rfl) ?_
        obtain ⟨q_28, wq_28, heq_28⟩ := heT_40 (L := L) (ad := ad) (cy := cy) (bS := bS) (a := a) (b := b) (c := c) (d := d) (r := r) (I := I_26) (D := D_27) (K := K_22) (M := M) hM
        refine va_get (D := (dC, dI)) (ci := 5) (v := .ref (ad 48)) (C := RX5) (T := TX5) (N := 11) hx hb hts iT_heat_RX5 hown hK hP q_28 heq_28 rfl 4 (by decide) (hts (.fieldLink RX5 22 "OverrunHouseLaw$Told" "mixes" "[[I") (List.mem_cons_of_mem _ (List.mem_append_left _ (List.mem_append_left _ (List.mem_append_left _ (List.mem_append_left _ (List.mem_append_left _ (List.mem_append_left _ (List.mem_of_getElem? (i := 0) rfl))))))))) (fun _ h9 => h9) rfl dX5_heat_134 ?_
        refine lv_iload_n hx hb dX5_heat_137 rfl (lv_at hl 4 rfl) ?_
        obtain ⟨q_29, wq_29, heq_29⟩ := heT_48 (L := L) (ad := ad) (cy := cy) (bS := bS) (a := a) (b := b) (c := c) (d := d) (r := r) (I := I_26) (D := D_27) (K := K_22) (M := M) hM
        obtain ⟨h_30, hf⟩ := ck_out hf
        refine ra_lda (bs := 60) (n := b) hx hb hK hP q_29 heq_29 (inB_in h_30) dX5_heat_138 ?_
        refine lv_bipush (v := 7) hx hb dX5_heat_139 (by decide) ?_
        obtain ⟨q_31, wq_31, heq_31⟩ := heT_Mixr (L := L) (ad := ad) (cy := cy) (bS := bS) (a := a) (b := b) (c := c) (d := d) (r := r) (I := I_26) (D := D_27) (K := K_22) (M := M) hM (inB_lt h_30)
        obtain ⟨h_32, hf⟩ := ck_out hf
        refine va_iald (n := 10) (f := K_22 (60 + (p1).toNatClampNeg)) hx hb hK hP q_31 0 heq_31 rfl (inB_in h_32) dX5_heat_141 ?_
        refine lv_iconst (v := 1) hx hb dX5_heat_142 (by decide) ?_
        have J151 : ∀ (z0_151 : Int32), f_T_heat_J151 K_22 I_26 D_27 r_24 z0_151 = some (rr, I9, D9, K9) → ∀ (H : Heap) (locs : List Loc) (ls : Array Slot), va_P (dC, dI) vwCl (iwT L ad cy bS a b c d r I_26 D_27 K_22 M) H → va_S A s.heap H locs → lv_has ls 5 [(4, .int z0_89), (3, .int z0_33), (2, .int (60 + r_1)), (0, .ref (ad 40)), (1, .int p1)] → W p l e (headSpec wsX5_heat ({ frames := 2, cells := 0, slots := 0, locals := 46 })).room s m ([.ref (ad 40), .int p1] : List Value).toArray below meth cX H locs 0 0 (MQ below (va_Qi (fun r (_ : Unit) => rr = r) (fun _ t => tW dC dI L ad cy bS a b c d r LS xs I9 D9 K9 M t) A) ([.ref (ad 40), .int p1] : List Value).toArray s 0 0 A) (F0 m 151 ls [.int z0_151, .int r_24]) := by
          intro z0_151 hf H locs ls hP hS hl
          unfold f_T_heat_J151 at hf
          refine lv_icmp_ne (tgt := 158) hx hb dX5_heat_151 (by decide) (fun c_33 => ?_) (fun c_33 => ?_)
          · have hf := it_f hf c_33
            refine lv_iconst (v := 0) hx hb dX5_heat_158 (by decide) ?_
            have hf := Option.some.inj hf
            obtain ⟨q1, hf⟩ := Prod.mk.inj hf
            obtain ⟨qI, hf⟩ := Prod.mk.inj hf
            obtain ⟨qD, qK⟩ := Prod.mk.inj hf
            exact W.zret (ty := .boolean) (v := 0) hx hb hr rfl (fun t ht hW9 => ⟨⟨0, (), rfl, q1.symm, (by rw [← qI, ← qD, ← qK]; exact tW.of hP hK hN (hX0.kept (hS.2.1 bS hbl hbA)) ht hW9)⟩, hS.F ht⟩) hS.2.2 dX5_heat_159
          · have hf := it_t hf c_33
            refine lv_iconst (v := 1) hx hb dX5_heat_154 (by decide) ?_
            refine lv_goto (tgt := 159) hx hb dX5_heat_155 (by decide) ?_
            have hf := Option.some.inj hf
            obtain ⟨q1, hf⟩ := Prod.mk.inj hf
            obtain ⟨qI, hf⟩ := Prod.mk.inj hf
            obtain ⟨qD, qK⟩ := Prod.mk.inj hf
            exact W.zret (ty := .boolean) (v := 1) hx hb hr rfl (fun t ht hW9 => ⟨⟨1, (), rfl, q1.symm, (by rw [← qI, ← qD, ← qK]; exact tW.of hP hK hN (hX0.kept (hS.2.1 bS hbl hbA)) ht hW9)⟩, hS.F ht⟩) hS.2.2 dX5_heat_159
        refine lv_icmp_ne (tgt := 150) hx hb dX5_heat_143 (by decide) (fun c_34 => ?_) (fun c_34 => ?_)
        · have hf := it_f hf c_34
          refine lv_iconst (v := 0) hx hb dX5_heat_150 (by decide) ?_
          exact J151 0 hf _ _ _ hP hS (lv_sub hl [0, 1, 2, 3, 4] rfl)
        · have hf := it_t hf c_34
          refine lv_iconst (v := 1) hx hb dX5_heat_146 (by decide) ?_
          refine lv_goto (tgt := 151) hx hb dX5_heat_147 (by decide) ?_
          exact J151 1 hf _ _ _ hP hS (lv_sub hl [0, 1, 2, 3, 4] rfl)
      refine lv_if_eq (tgt := 110) hx hb dX5_heat_103 (by decide) (fun c_35 => ?_) (fun c_35 => ?_)
      · have hf := it_t hf c_35
        refine lv_iconst (v := 0) hx hb dX5_heat_110 (by decide) ?_
        exact J111 0 hf _ _ _ hP hS (lv_sub hl [0, 1, 2, 3, 4] rfl)
      · have hf := it_f hf c_35
        refine lv_iconst (v := 1) hx hb dX5_heat_106 (by decide) ?_
        refine lv_goto (tgt := 111) hx hb dX5_heat_107 (by decide) ?_
        exact J111 1 hf _ _ _ hP hS (lv_sub hl [0, 1, 2, 3, 4] rfl)
    refine lv_icmp_lt (tgt := 47) hx hb dX5_heat_37 (by decide) (fun c_36 => ?_) (fun c_36 => ?_)
    · have hf := it_t hf c_36
      refine lv_iload_n hx hb dX5_heat_47 rfl (lv_at hl 1 rfl) ?_
      refine lv_bipush (v := 70) hx hb dX5_heat_48 (by decide) ?_
      refine lv_icmp_lt (tgt := 60) hx hb dX5_heat_50 (by decide) (fun c_37 => ?_) (fun c_37 => ?_)
      · have hf := it_t hf c_37
        refine lv_iload_n hx hb dX5_heat_60 rfl (lv_at hl 1 rfl) ?_
        refine lv_bipush (v := 75) hx hb dX5_heat_61 (by decide) ?_
        refine lv_icmp_lt (tgt := 72) hx hb dX5_heat_63 (by decide) (fun c_38 => ?_) (fun c_38 => ?_)
        · have hf := it_t hf c_38
          refine lv_iload_n hx hb dX5_heat_72 rfl (lv_at hl 1 rfl) ?_
          refine lv_bipush (v := 80) hx hb dX5_heat_73 (by decide) ?_
          refine lv_icmp_lt (tgt := 88) hx hb dX5_heat_75 (by decide) (fun c_39 => ?_) (fun c_39 => ?_)
          · have hf := it_t hf c_39
            refine lv_iconst (v := 0) hx hb dX5_heat_88 (by decide) ?_
            exact J89 0 hf _ _ _ hP hS (lv_sub hl [0, 1, 2, 3] rfl)
          · have hf := it_f hf c_39
            refine lv_iload_n hx hb dX5_heat_78 rfl (lv_at hl 0 rfl) ?_
            refine lv_bipush (v := 15) hx hb dX5_heat_79 (by decide) ?_
            refine lv_icmp_lt (tgt := 88) hx hb dX5_heat_81 (by decide) (fun c_40 => ?_) (fun c_40 => ?_)
            · have hf := it_t hf c_40
              refine lv_iconst (v := 0) hx hb dX5_heat_88 (by decide) ?_
              exact J89 0 hf _ _ _ hP hS (lv_sub hl [0, 1, 2, 3] rfl)
            · have hf := it_f hf c_40
              refine lv_iconst (v := 1) hx hb dX5_heat_84 (by decide) ?_
              refine lv_goto (tgt := 89) hx hb dX5_heat_85 (by decide) ?_
              exact J89 1 hf _ _ _ hP hS (lv_sub hl [0, 1, 2, 3] rfl)
        · have hf := it_f hf c_38
          refine lv_iload_n hx hb dX5_heat_66 rfl (lv_at hl 0 rfl) ?_
          refine lv_bipush (v := 60) hx hb dX5_heat_67 (by decide) ?_
          refine lv_icmp_ge (tgt := 84) hx hb dX5_heat_69 (by decide) (fun c_41 => ?_) (fun c_41 => ?_)
          · have hf := it_t hf c_41
            refine lv_iconst (v := 1) hx hb dX5_heat_84 (by decide) ?_
            refine lv_goto (tgt := 89) hx hb dX5_heat_85 (by decide) ?_
            exact J89 1 hf _ _ _ hP hS (lv_sub hl [0, 1, 2, 3] rfl)
          · have hf := it_f hf c_41
            refine lv_iload_n hx hb dX5_heat_72 rfl (lv_at hl 1 rfl) ?_
            refine lv_bipush (v := 80) hx hb dX5_heat_73 (by decide) ?_
            refine lv_icmp_lt (tgt := 88) hx hb dX5_heat_75 (by decide) (fun c_42 => ?_) (fun c_42 => ?_)
            · have hf := it_t hf c_42
              refine lv_iconst (v := 0) hx hb dX5_heat_88 (by decide) ?_
              exact J89 0 hf _ _ _ hP hS (lv_sub hl [0, 1, 2, 3] rfl)
            · have hf := it_f hf c_42
              refine lv_iload_n hx hb dX5_heat_78 rfl (lv_at hl 0 rfl) ?_
              refine lv_bipush (v := 15) hx hb dX5_heat_79 (by decide) ?_
              refine lv_icmp_lt (tgt := 88) hx hb dX5_heat_81 (by decide) (fun c_43 => ?_) (fun c_43 => ?_)
              · have hf := it_t hf c_43
                refine lv_iconst (v := 0) hx hb dX5_heat_88 (by decide) ?_
                exact J89 0 hf _ _ _ hP hS (lv_sub hl [0, 1, 2, 3] rfl)
              · have hf := it_f hf c_43
                refine lv_iconst (v := 1) hx hb dX5_heat_84 (by decide) ?_
                refine lv_goto (tgt := 89) hx hb dX5_heat_85 (by decide) ?_
                exact J89 1 hf _ _ _ hP hS (lv_sub hl [0, 1, 2, 3] rfl)
      · have hf := it_f hf c_37
        refine lv_iload_n hx hb dX5_heat_53 rfl (lv_at hl 0 rfl) ?_
        refine lv_sipush (v := 300) hx hb dX5_heat_54 (by decide) ?_
        refine lv_icmp_ge (tgt := 84) hx hb dX5_heat_57 (by decide) (fun c_44 => ?_) (fun c_44 => ?_)
        · have hf := it_t hf c_44
          refine lv_iconst (v := 1) hx hb dX5_heat_84 (by decide) ?_
          refine lv_goto (tgt := 89) hx hb dX5_heat_85 (by decide) ?_
          exact J89 1 hf _ _ _ hP hS (lv_sub hl [0, 1, 2, 3] rfl)
        · have hf := it_f hf c_44
          refine lv_iload_n hx hb dX5_heat_60 rfl (lv_at hl 1 rfl) ?_
          refine lv_bipush (v := 75) hx hb dX5_heat_61 (by decide) ?_
          refine lv_icmp_lt (tgt := 72) hx hb dX5_heat_63 (by decide) (fun c_45 => ?_) (fun c_45 => ?_)
          · have hf := it_t hf c_45
            refine lv_iload_n hx hb dX5_heat_72 rfl (lv_at hl 1 rfl) ?_
            refine lv_bipush (v := 80) hx hb dX5_heat_73 (by decide) ?_
            refine lv_icmp_lt (tgt := 88) hx hb dX5_heat_75 (by decide) (fun c_46 => ?_) (fun c_46 => ?_)
            · have hf := it_t hf c_46
              refine lv_iconst (v := 0) hx hb dX5_heat_88 (by decide) ?_
              exact J89 0 hf _ _ _ hP hS (lv_sub hl [0, 1, 2, 3] rfl)
            · have hf := it_f hf c_46
              refine lv_iload_n hx hb dX5_heat_78 rfl (lv_at hl 0 rfl) ?_
              refine lv_bipush (v := 15) hx hb dX5_heat_79 (by decide) ?_
              refine lv_icmp_lt (tgt := 88) hx hb dX5_heat_81 (by decide) (fun c_47 => ?_) (fun c_47 => ?_)
              · have hf := it_t hf c_47
                refine lv_iconst (v := 0) hx hb dX5_heat_88 (by decide) ?_
                exact J89 0 hf _ _ _ hP hS (lv_sub hl [0, 1, 2, 3] rfl)
              · have hf := it_f hf c_47
                refine lv_iconst (v := 1) hx hb dX5_heat_84 (by decide) ?_
                refine lv_goto (tgt := 89) hx hb dX5_heat_85 (by decide) ?_
                exact J89 1 hf _ _ _ hP hS (lv_sub hl [0, 1, 2, 3] rfl)
          · have hf := it_f hf c_45
            refine lv_iload_n hx hb dX5_heat_66 rfl (lv_at hl 0 rfl) ?_
            refine lv_bipush (v := 60) hx hb dX5_heat_67 (by decide) ?_
            refine lv_icmp_ge (tgt := 84) hx hb dX5_heat_69 (by decide) (fun c_48 => ?_) (fun c_48 => ?_)
            · have hf := it_t hf c_48
              refine lv_iconst (v := 1) hx hb dX5_heat_84 (by decide) ?_
              refine lv_goto (tgt := 89) hx hb dX5_heat_85 (by decide) ?_
              exact J89 1 hf _ _ _ hP hS (lv_sub hl [0, 1, 2, 3] rfl)
            · have hf := it_f hf c_48
              refine lv_iload_n hx hb dX5_heat_72 rfl (lv_at hl 1 rfl) ?_
              refine lv_bipush (v := 80) hx hb dX5_heat_73 (by decide) ?_
              refine lv_icmp_lt (tgt := 88) hx hb dX5_heat_75 (by decide) (fun c_49 => ?_) (fun c_49 => ?_)
              · have hf := it_t hf c_49
                refine lv_iconst (v := 0) hx hb dX5_heat_88 (by decide) ?_
                exact J89 0 hf _ _ _ hP hS (lv_sub hl [0, 1, 2, 3] rfl)
              · have hf := it_f hf c_49
                refine lv_iload_n hx hb dX5_heat_78 rfl (lv_at hl 0 rfl) ?_
                refine lv_bipush (v := 15) hx hb dX5_heat_79 (by decide) ?_
                refine lv_icmp_lt (tgt := 88) hx hb dX5_heat_81 (by decide) (fun c_50 => ?_) (fun c_50 => ?_)
                · have hf := it_t hf c_50
                  refine lv_iconst (v := 0) hx hb dX5_heat_88 (by decide) ?_
                  exact J89 0 hf _ _ _ hP hS (lv_sub hl [0, 1, 2, 3] rfl)
                · have hf := it_f hf c_50
                  refine lv_iconst (v := 1) hx hb dX5_heat_84 (by decide) ?_
                  refine lv_goto (tgt := 89) hx hb dX5_heat_85 (by decide) ?_
                  exact J89 1 hf _ _ _ hP hS (lv_sub hl [0, 1, 2, 3] rfl)
    · have hf := it_f hf c_36
      refine lv_iload_n hx hb dX5_heat_40 rfl (lv_at hl 0 rfl) ?_
      refine lv_sipush (v := 1800) hx hb dX5_heat_41 (by decide) ?_
      refine lv_icmp_ge (tgt := 84) hx hb dX5_heat_44 (by decide) (fun c_51 => ?_) (fun c_51 => ?_)
      · have hf := it_t hf c_51
        refine lv_iconst (v := 1) hx hb dX5_heat_84 (by decide) ?_
        refine lv_goto (tgt := 89) hx hb dX5_heat_85 (by decide) ?_
        exact J89 1 hf _ _ _ hP hS (lv_sub hl [0, 1, 2, 3] rfl)
      · have hf := it_f hf c_51
        refine lv_iload_n hx hb dX5_heat_47 rfl (lv_at hl 1 rfl) ?_
        refine lv_bipush (v := 70) hx hb dX5_heat_48 (by decide) ?_
        refine lv_icmp_lt (tgt := 60) hx hb dX5_heat_50 (by decide) (fun c_52 => ?_) (fun c_52 => ?_)
        · have hf := it_t hf c_52
          refine lv_iload_n hx hb dX5_heat_60 rfl (lv_at hl 1 rfl) ?_
          refine lv_bipush (v := 75) hx hb dX5_heat_61 (by decide) ?_
          refine lv_icmp_lt (tgt := 72) hx hb dX5_heat_63 (by decide) (fun c_53 => ?_) (fun c_53 => ?_)
          · have hf := it_t hf c_53
            refine lv_iload_n hx hb dX5_heat_72 rfl (lv_at hl 1 rfl) ?_
            refine lv_bipush (v := 80) hx hb dX5_heat_73 (by decide) ?_
            refine lv_icmp_lt (tgt := 88) hx hb dX5_heat_75 (by decide) (fun c_54 => ?_) (fun c_54 => ?_)
            · have hf := it_t hf c_54
              refine lv_iconst (v := 0) hx hb dX5_heat_88 (by decide) ?_
              exact J89 0 hf _ _ _ hP hS (lv_sub hl [0, 1, 2, 3] rfl)
            · have hf := it_f hf c_54
              refine lv_iload_n hx hb dX5_heat_78 rfl (lv_at hl 0 rfl) ?_
              refine lv_bipush (v := 15) hx hb dX5_heat_79 (by decide) ?_
              refine lv_icmp_lt (tgt := 88) hx hb dX5_heat_81 (by decide) (fun c_55 => ?_) (fun c_55 => ?_)
              · have hf := it_t hf c_55
                refine lv_iconst (v := 0) hx hb dX5_heat_88 (by decide) ?_
                exact J89 0 hf _ _ _ hP hS (lv_sub hl [0, 1, 2, 3] rfl)
              · have hf := it_f hf c_55
                refine lv_iconst (v := 1) hx hb dX5_heat_84 (by decide) ?_
                refine lv_goto (tgt := 89) hx hb dX5_heat_85 (by decide) ?_
                exact J89 1 hf _ _ _ hP hS (lv_sub hl [0, 1, 2, 3] rfl)
          · have hf := it_f hf c_53
            refine lv_iload_n hx hb dX5_heat_66 rfl (lv_at hl 0 rfl) ?_
            refine lv_bipush (v := 60) hx hb dX5_heat_67 (by decide) ?_
            refine lv_icmp_ge (tgt := 84) hx hb dX5_heat_69 (by decide) (fun c_56 => ?_) (fun c_56 => ?_)
            · have hf := it_t hf c_56
              refine lv_iconst (v := 1) hx hb dX5_heat_84 (by decide) ?_
              refine lv_goto (tgt := 89) hx hb dX5_heat_85 (by decide) ?_
              exact J89 1 hf _ _ _ hP hS (lv_sub hl [0, 1, 2, 3] rfl)
            · have hf := it_f hf c_56
              refine lv_iload_n hx hb dX5_heat_72 rfl (lv_at hl 1 rfl) ?_
              refine lv_bipush (v := 80) hx hb dX5_heat_73 (by decide) ?_
              refine lv_icmp_lt (tgt := 88) hx hb dX5_heat_75 (by decide) (fun c_57 => ?_) (fun c_57 => ?_)
              · have hf := it_t hf c_57
                refine lv_iconst (v := 0) hx hb dX5_heat_88 (by decide) ?_
                exact J89 0 hf _ _ _ hP hS (lv_sub hl [0, 1, 2, 3] rfl)
              · have hf := it_f hf c_57
                refine lv_iload_n hx hb dX5_heat_78 rfl (lv_at hl 0 rfl) ?_
                refine lv_bipush (v := 15) hx hb dX5_heat_79 (by decide) ?_
                refine lv_icmp_lt (tgt := 88) hx hb dX5_heat_81 (by decide) (fun c_58 => ?_) (fun c_58 => ?_)
                · have hf := it_t hf c_58
                  refine lv_iconst (v := 0) hx hb dX5_heat_88 (by decide) ?_
                  exact J89 0 hf _ _ _ hP hS (lv_sub hl [0, 1, 2, 3] rfl)
                · have hf := it_f hf c_58
                  refine lv_iconst (v := 1) hx hb dX5_heat_84 (by decide) ?_
                  refine lv_goto (tgt := 89) hx hb dX5_heat_85 (by decide) ?_
                  exact J89 1 hf _ _ _ hP hS (lv_sub hl [0, 1, 2, 3] rfl)
        · have hf := it_f hf c_52
          refine lv_iload_n hx hb dX5_heat_53 rfl (lv_at hl 0 rfl) ?_
          refine lv_sipush (v := 300) hx hb dX5_heat_54 (by decide) ?_
          refine lv_icmp_ge (tgt := 84) hx hb dX5_heat_57 (by decide) (fun c_59 => ?_) (fun c_59 => ?_)
          · have hf := it_t hf c_59
            refine lv_iconst (v := 1) hx hb dX5_heat_84 (by decide) ?_
            refine lv_goto (tgt := 89) hx hb dX5_heat_85 (by decide) ?_
            exact J89 1 hf _ _ _ hP hS (lv_sub hl [0, 1, 2, 3] rfl)
          · have hf := it_f hf c_59
            refine lv_iload_n hx hb dX5_heat_60 rfl (lv_at hl 1 rfl) ?_
            refine lv_bipush (v := 75) hx hb dX5_heat_61 (by decide) ?_
            refine lv_icmp_lt (tgt := 72) hx hb dX5_heat_63 (by decide) (fun c_60 => ?_) (fun c_60 => ?_)
            · have hf := it_t hf c_60
              refine lv_iload_n hx hb dX5_heat_72 rfl (lv_at hl 1 rfl) ?_
              refine lv_bipush (v := 80) hx hb dX5_heat_73 (by decide) ?_
              refine lv_icmp_lt (tgt := 88) hx hb dX5_heat_75 (by decide) (fun c_61 => ?_) (fun c_61 => ?_)
              · have hf := it_t hf c_61
                refine lv_iconst (v := 0) hx hb dX5_heat_88 (by decide) ?_
                exact J89 0 hf _ _ _ hP hS (lv_sub hl [0, 1, 2, 3] rfl)
              · have hf := it_f hf c_61
                refine lv_iload_n hx hb dX5_heat_78 rfl (lv_at hl 0 rfl) ?_
                refine lv_bipush (v := 15) hx hb dX5_heat_79 (by decide) ?_
                refine lv_icmp_lt (tgt := 88) hx hb dX5_heat_81 (by decide) (fun c_62 => ?_) (fun c_62 => ?_)
                · have hf := it_t hf c_62
                  refine lv_iconst (v := 0) hx hb dX5_heat_88 (by decide) ?_
                  exact J89 0 hf _ _ _ hP hS (lv_sub hl [0, 1, 2, 3] rfl)
                · have hf := it_f hf c_62
                  refine lv_iconst (v := 1) hx hb dX5_heat_84 (by decide) ?_
                  refine lv_goto (tgt := 89) hx hb dX5_heat_85 (by decide) ?_
                  exact J89 1 hf _ _ _ hP hS (lv_sub hl [0, 1, 2, 3] rfl)
            · have hf := it_f hf c_60
              refine lv_iload_n hx hb dX5_heat_66 rfl (lv_at hl 0 rfl) ?_
              refine lv_bipush (v := 60) hx hb dX5_heat_67 (by decide) ?_
              refine lv_icmp_ge (tgt := 84) hx hb dX5_heat_69 (by decide) (fun c_63 => ?_) (fun c_63 => ?_)
              · have hf := it_t hf c_63
                refine lv_iconst (v := 1) hx hb dX5_heat_84 (by decide) ?_
                refine lv_goto (tgt := 89) hx hb dX5_heat_85 (by decide) ?_
                exact J89 1 hf _ _ _ hP hS (lv_sub hl [0, 1, 2, 3] rfl)
              · have hf := it_f hf c_63
                refine lv_iload_n hx hb dX5_heat_72 rfl (lv_at hl 1 rfl) ?_
                refine lv_bipush (v := 80) hx hb dX5_heat_73 (by decide) ?_
                refine lv_icmp_lt (tgt := 88) hx hb dX5_heat_75 (by decide) (fun c_64 => ?_) (fun c_64 => ?_)
                · have hf := it_t hf c_64
                  refine lv_iconst (v := 0) hx hb dX5_heat_88 (by decide) ?_
                  exact J89 0 hf _ _ _ hP hS (lv_sub hl [0, 1, 2, 3] rfl)
                · have hf := it_f hf c_64
                  refine lv_iload_n hx hb dX5_heat_78 rfl (lv_at hl 0 rfl) ?_
                  refine lv_bipush (v := 15) hx hb dX5_heat_79 (by decide) ?_
                  refine lv_icmp_lt (tgt := 88) hx hb dX5_heat_81 (by decide) (fun c_65 => ?_) (fun c_65 => ?_)
                  · have hf := it_t hf c_65
                    refine lv_iconst (v := 0) hx hb dX5_heat_88 (by decide) ?_
                    exact J89 0 hf _ _ _ hP hS (lv_sub hl [0, 1, 2, 3] rfl)
                  · have hf := it_f hf c_65
                    refine lv_iconst (v := 1) hx hb dX5_heat_84 (by decide) ?_
                    refine lv_goto (tgt := 89) hx hb dX5_heat_85 (by decide) ?_
                    exact J89 1 hf _ _ _ hP hS (lv_sub hl [0, 1, 2, 3] rfl)
  refine lv_if_ne (tgt := 24) hx hb dX5_heat_15 (by decide) (fun c_66 => ?_) (fun c_66 => ?_)
  · have hf := it_f hf c_66
    refine lv_iconst (v := 1) hx hb dX5_heat_24 (by decide) ?_
    refine lv_aload_n hx hb dX5_heat_25 rfl (lv_at hl 1 rfl) ?_
    refine lv_sipush (v := 400) hx hb dX5_heat_26 (by decide) ?_
    obtain ⟨⟨r_67, K_69⟩, g_68, hf⟩ := bd_out hf
    have hAW : ∀ q, AT L ad H.size q → A q := fun q h => h.elim (fun ⟨k, k1, k2⟩ => k2 ▸ hAL k k1) (fun h => hA q (Nat.le_trans hS.1 h))
    obtain ⟨q_70, wq_70, heq_70⟩ := heT_40 (L := L) (ad := ad) (cy := cy) (bS := bS) (a := a) (b := b) (c := c) (d := d) (r := r) (I := I) (D := D) (K := K_7) (M := M) hM
    refine va_calli (va_runV (As := [.int 400]) (rest := [.int 1]) ⟨hx, hb, hml, hown, hts⟩ (mt_T_draw l dC dI L a b c d bS ad cy hM r LS xs H.size I D K_7 M 400 r_67 K_69 g_68) (cwV 1 hts gX5_heat_X5_draw rfl rfl rfl (by decide +kernel) ⟨(Nat.le_of_ble_eq_true rfl), (Nat.le_of_ble_eq_true rfl)⟩) ⟨(tW.pre [.ref (ad 40), .int 400] hP hK hN (hX0.kept (hS.2.1 bS hbl hbA))).1, tW.recv (C := RX5) (T := TX5) (N := 11) hP hK heq_70 rfl, (tW.pre [.ref (ad 40), .int 400] hP hK hN (hX0.kept (hS.2.1 bS hbl hbA))).2⟩ rfl rfl hl.1 rfl (lv_room (Nat.le_of_ble_eq_true rfl)) dX5_heat_29 ⟨(Nat.le_of_ble_eq_true rfl), (Nat.le_of_ble_eq_true rfl)⟩) hS (fun q _ h => hAW q h) (fun q h => hAW q h) (fun r9 u t H1 locs ht hvm hw hB hz1 hk1 hS9 => ?_)
    subst hw
    have hP : va_P (dC, dI) vwCl (iwT L ad cy bS a b c d r I D K_69 M) H1 := by rw [← ht]; exact hB.1
    have hS := hS9
    clear hB hz1 hk1 hvm ht hS9
    generalize H1 = H at hP hS ⊢
    refine lv_iadd hx hb dX5_heat_32 ?_
    exact J33 (1 + r_67) K_69 hf _ _ _ hP hS (lv_sub hl [0, 1, 2] rfl)
  · have hf := it_t hf c_66
    refine lv_sipush (v := 2000) hx hb dX5_heat_18 (by decide) ?_
    refine lv_goto (tgt := 33) hx hb dX5_heat_21 (by decide) ?_
    exact J33 2000 K_7 hf _ _ _ hP hS (lv_sub hl [0, 1, 2] rfl)

def f_T_harden (LS : Nat) (xs : Nat → Int32) (a b c d : Nat) (I : Nat → Nat → Int32) (D : Nat → Nat → UInt64) (K : Nat → Nat → Int32) (M : Nat → Nat → UInt64) (p1 : Int32) : Option (Int32 × (Nat → Nat → Int32) × (Nat → Nat → UInt64) × (Nat → Nat → Int32) × (Nat → Nat → UInt64)) :=
  ck (inB p1 c) (ck (inB 3 4) ((if (K (70 + (p1).toNatClampNeg) (3 : Int32).toNatClampNeg) = (-1) then ck (inB p1 c) (ck (inB 2 4) ((if (K (70 + (p1).toNatClampNeg) (2 : Int32).toNatClampNeg) = 1 then some (1, I, D, K, M) else bd (f_T_draw LS xs a b c d I D K M 81) (fun (r_13, K_15) => ck (inB p1 c) (ck (inB 2 4) (nm (up2 K_15 (70 + (p1).toNatClampNeg) (2 : Int32).toNatClampNeg 1) (fun K_22 => ck (inB p1 12) (ck (okD (FP.dmul (FP.i2d (10 + r_13)) (4598175219545276416 : UInt64))) (ck (okD (FP.dadd (M 42 (p1).toNatClampNeg) (FP.dmul (FP.i2d (10 + r_13)) (4598175219545276416 : UInt64)))) (ck (inB p1 12) (nm (up2 M 42 (p1).toNatClampNeg (FP.dadd (M 42 (p1).toNatClampNeg) (FP.dmul (FP.i2d (10 + r_13)) (4598175219545276416 : UInt64)))) (fun M_30 => bd (eO (f_X4_harden I D p1 (10 + r_13))) (fun (r_32, I_34, D_35) => ck (inB p1 12) ((if (Op.cmpValue (FP.dcmp r_32 (M_30 42 (p1).toNatClampNeg)) CmpOp.l) = 0 then some (1, I_34, D_35, K_22, M_30) else some (0, I_34, D_35, K_22, M_30)))))))))))))))) else some (1, I, D, K, M))))
theorem iT_harden_RX5 : ∀ w ∈ u_ws RX5 TX5 11, w ∈ wsX5_harden := fun w h => List.mem_cons_of_mem _ (List.mem_append_left _ (List.mem_append_left _ (List.mem_append_left _ (List.mem_append_left _ (List.mem_append_left _ (List.mem_append_right _ (h)))))))
set_option maxHeartbeats 4000000 in
set_option maxRecDepth 100000 in
theorem mt_T_harden (l : Launch) (dC : Nat → ClassId) (dI : Nat → Nat → Nat) (L : List Nat) (a b c d bS : Nat) (ad : Nat → Nat) (cy : Nat → ClassId) (hM : tOK L a b c d bS ad) (r LS : Nat) (xs : Nat → Int32) (sz : Nat) (I : Nat → Nat → Int32) (D : Nat → Nat → UInt64) (K : Nat → Nat → Int32) (M : Nat → Nat → UInt64) (p1 : Int32) (rr : Int32) (I9 : Nat → Nat → Int32) (D9 : Nat → Nat → UInt64) (K9 : Nat → Nat → Int32) (M9 : Nat → Nat → UInt64) (hf : f_T_harden LS xs a b c d I D K M p1 = some (rr, I9, D9, K9, M9)) : Met l yX5_harden wsX5_harden ({ frames := 2, cells := 0, slots := 0, locals := 45 }) (va_Pc [.ref (ad 40), .int p1] (fun U => U.heap.size = sz ∧ tW dC dI L ad cy bS a b c d r LS xs I D K M U)) (va_Qi (fun r (_ : Unit) => rr = r) (fun _ t => tW dC dI L ad cy bS a b c d r LS xs I9 D9 K9 M9 t) (AT L ad sz)) 0 0 (AT L ad sz) := by
  refine Met.ofW (cc := cX5_harden) (maxL := 3) (ret := (some .boolean)) (by decide) rfl ?_
  intro p e s m args below meth cX s₁ B hml hv
  obtain ⟨rfl, hsz, hP, hK, hN, hX0⟩ := hv
  have hx := B.exec
  have hb := B.bytes
  have hr := B.returns
  have hts := atoms_spec (ws := wsX5_harden) B.pre
  have hown : s.vm.findClass RX5 = some m.cls := findClass_of_methodNamed B.named
  have hlocks := B.notSynchronized
  subst hsz
  have hbl : bS < s.heap.size := by obtain ⟨scr, h, -⟩ := hX0; exact (Array.getElem?_eq_some_iff.mp h).1
  generalize hAe : AT L ad s.heap.size = A
  have hA : ∀ q : Nat, s.heap.size ≤ q → A q := fun q h => by rw [← hAe]; exact Or.inr h
  have hAL : ∀ k, k ∈ L → A (ad k) := fun k h => by rw [← hAe]; exact Or.inl ⟨k, h, rfl⟩
  have hDD : ∀ r I D K M, va_D A (iwT L ad cy bS a b c d r I D K M) := fun r I D K M => iwT_D hM hAL I D K M
  have hbA : ¬ A bS := fun h => by rw [← hAe] at h; exact h.elim (fun ⟨k, k1, k2⟩ => hM.2.1 k k1 k2) (fun h => Nat.lt_irrefl _ (Nat.lt_of_lt_of_le hbl h))
  obtain ⟨H, hH⟩ : ∃ H : Heap, H = s.heap := ⟨_, rfl⟩
  have hS : va_S A s.heap H [] := by rw [hH]; exact va_S.rf
  have hP : va_P (dC, dI) vwCl (iwT L ad cy bS a b c d r I D K M) H := by rw [hH]; exact hP
  suffices hgo : ∀ locs, va_S A s.heap H locs → W p l e (headSpec wsX5_harden ({ frames := 2, cells := 0, slots := 0, locals := 45 })).room s m ([.ref (ad 40), .int p1] : List Value).toArray below meth cX H locs 0 0 (MQ below (va_Qi (fun r (_ : Unit) => rr = r) (fun _ t => tW dC dI L ad cy bS a b c d r LS xs I9 D9 K9 M9 t) A) ([.ref (ad 40), .int p1] : List Value).toArray s 0 0 A) (entryFrame m ([.ref (ad 40), .int p1] : List Value).toArray 3) by subst hH; exact hgo [] hS
  clear hS hH
  intro locs hS
  have hl := lv_entry ([.ref (ad 40), .int p1]) (n := 3) (Nat.le_of_ble_eq_true rfl)
  rw [lg_entry_eq]
  generalize (lg_sl ([.ref (ad 40), .int p1]) ++ List.replicate (3 - (lg_sl ([.ref (ad 40), .int p1])).length) Slot.unset).toArray = ls at hl ⊢
  have hl : lv_has ls 3 [(0, .ref (ad 40)), (1, .int p1)] := hl
  unfold f_T_harden at hf
  refine lv_aload_n hx hb dX5_harden_0 rfl (lv_at hl 0 rfl) ?_
  obtain ⟨q_1, wq_1, heq_1⟩ := heT_40 (L := L) (ad := ad) (cy := cy) (bS := bS) (a := a) (b := b) (c := c) (d := d) (r := r) (I := I) (D := D) (K := K) (M := M) hM
  refine va_get (D := (dC, dI)) (ci := 5) (v := .ref (ad 49)) (C := RX5) (T := TX5) (N := 11) hx hb hts iT_harden_RX5 hown hK hP q_1 heq_1 rfl 5 (by decide) (hts (.fieldLink RX5 25 "OverrunHouseLaw$Told" "batches" "[[I") (List.mem_cons_of_mem _ (List.mem_append_left _ (List.mem_append_left _ (List.mem_append_left _ (List.mem_append_left _ (List.mem_append_left _ (List.mem_append_left _ (List.mem_append_left _ (List.mem_of_getElem? (i := 0) rfl)))))))))) (fun _ h9 => h9) rfl dX5_harden_1 ?_
  refine lv_iload_n hx hb dX5_harden_4 rfl (lv_at hl 1 rfl) ?_
  obtain ⟨q_2, wq_2, heq_2⟩ := heT_49 (L := L) (ad := ad) (cy := cy) (bS := bS) (a := a) (b := b) (c := c) (d := d) (r := r) (I := I) (D := D) (K := K) (M := M) hM
  obtain ⟨h_3, hf⟩ := ck_out hf
  refine ra_lda (bs := 70) (n := c) hx hb hK hP q_2 heq_2 (inB_in h_3) dX5_harden_5 ?_
  refine lv_iconst (v := 3) hx hb dX5_harden_6 (by decide) ?_
  obtain ⟨q_4, wq_4, heq_4⟩ := heT_Bat (L := L) (ad := ad) (cy := cy) (bS := bS) (a := a) (b := b) (c := c) (d := d) (r := r) (I := I) (D := D) (K := K) (M := M) hM (inB_lt h_3)
  obtain ⟨h_5, hf⟩ := ck_out hf
  refine va_iald (n := 4) (f := K (70 + (p1).toNatClampNeg)) hx hb hK hP q_4 0 heq_4 rfl (inB_in h_5) dX5_harden_7 ?_
  refine lv_iconst (v := (-1)) hx hb dX5_harden_8 (by decide) ?_
  refine lv_icmp_ne (tgt := 24) hx hb dX5_harden_9 (by decide) (fun c_6 => ?_) (fun c_6 => ?_)
  · have hf := it_f hf c_6
    refine lv_iconst (v := 1) hx hb dX5_harden_24 (by decide) ?_
    have hf := Option.some.inj hf
    obtain ⟨q1, hf⟩ := Prod.mk.inj hf
    obtain ⟨qI, hf⟩ := Prod.mk.inj hf
    obtain ⟨qD, hf⟩ := Prod.mk.inj hf
    obtain ⟨qK, qM⟩ := Prod.mk.inj hf
    exact W.zret (ty := .boolean) (v := 1) hx hb hr rfl (fun t ht hW9 => ⟨⟨1, (), rfl, q1.symm, (by rw [← qI, ← qD, ← qK, ← qM]; exact tW.of hP hK hN (hX0.kept (hS.2.1 bS hbl hbA)) ht hW9)⟩, hS.F ht⟩) hS.2.2 dX5_harden_25
  · have hf := it_t hf c_6
    refine lv_aload_n hx hb dX5_harden_12 rfl (lv_at hl 0 rfl) ?_
    obtain ⟨q_7, wq_7, heq_7⟩ := heT_40 (L := L) (ad := ad) (cy := cy) (bS := bS) (a := a) (b := b) (c := c) (d := d) (r := r) (I := I) (D := D) (K := K) (M := M) hM
    refine va_get (D := (dC, dI)) (ci := 5) (v := .ref (ad 49)) (C := RX5) (T := TX5) (N := 11) hx hb hts iT_harden_RX5 hown hK hP q_7 heq_7 rfl 5 (by decide) (hts (.fieldLink RX5 25 "OverrunHouseLaw$Told" "batches" "[[I") (List.mem_cons_of_mem _ (List.mem_append_left _ (List.mem_append_left _ (List.mem_append_left _ (List.mem_append_left _ (List.mem_append_left _ (List.mem_append_left _ (List.mem_append_left _ (List.mem_of_getElem? (i := 0) rfl)))))))))) (fun _ h9 => h9) rfl dX5_harden_13 ?_
    refine lv_iload_n hx hb dX5_harden_16 rfl (lv_at hl 1 rfl) ?_
    obtain ⟨q_8, wq_8, heq_8⟩ := heT_49 (L := L) (ad := ad) (cy := cy) (bS := bS) (a := a) (b := b) (c := c) (d := d) (r := r) (I := I) (D := D) (K := K) (M := M) hM
    obtain ⟨h_9, hf⟩ := ck_out hf
    refine ra_lda (bs := 70) (n := c) hx hb hK hP q_8 heq_8 (inB_in h_9) dX5_harden_17 ?_
    refine lv_iconst (v := 2) hx hb dX5_harden_18 (by decide) ?_
    obtain ⟨q_10, wq_10, heq_10⟩ := heT_Bat (L := L) (ad := ad) (cy := cy) (bS := bS) (a := a) (b := b) (c := c) (d := d) (r := r) (I := I) (D := D) (K := K) (M := M) hM (inB_lt h_9)
    obtain ⟨h_11, hf⟩ := ck_out hf
    refine va_iald (n := 4) (f := K (70 + (p1).toNatClampNeg)) hx hb hK hP q_10 0 heq_10 rfl (inB_in h_11) dX5_harden_19 ?_
    refine lv_iconst (v := 1) hx hb dX5_harden_20 (by decide) ?_
    refine lv_icmp_ne (tgt := 26) hx hb dX5_harden_21 (by decide) (fun c_12 => ?_) (fun c_12 => ?_)
    · have hf := it_f hf c_12
      refine lv_bipush (v := 10) hx hb dX5_harden_26 (by decide) ?_
      refine lv_aload_n hx hb dX5_harden_28 rfl (lv_at hl 0 rfl) ?_
      refine lv_bipush (v := 81) hx hb dX5_harden_29 (by decide) ?_
      obtain ⟨⟨r_13, K_15⟩, g_14, hf⟩ := bd_out hf
      have hAW : ∀ q, AT L ad H.size q → A q := fun q h => h.elim (fun ⟨k, k1, k2⟩ => k2 ▸ hAL k k1) (fun h => hA q (Nat.le_trans hS.1 h))
      obtain ⟨q_16, wq_16, heq_16⟩ := heT_40 (L := L) (ad := ad) (cy := cy) (bS := bS) (a := a) (b := b) (c := c) (d := d) (r := r) (I := I) (D := D) (K := K) (M := M) hM
      refine va_calli (va_runV (As := [.int 81]) (rest := [.int 10]) ⟨hx, hb, hml, hown, hts⟩ (mt_T_draw l dC dI L a b c d bS ad cy hM r LS xs H.size I D K M 81 r_13 K_15 g_14) (cwV 1 hts gX5_harden_X5_draw rfl rfl rfl (by decide +kernel) ⟨(Nat.le_of_ble_eq_true rfl), (Nat.le_of_ble_eq_true rfl)⟩) ⟨(tW.pre [.ref (ad 40), .int 81] hP hK hN (hX0.kept (hS.2.1 bS hbl hbA))).1, tW.recv (C := RX5) (T := TX5) (N := 11) hP hK heq_16 rfl, (tW.pre [.ref (ad 40), .int 81] hP hK hN (hX0.kept (hS.2.1 bS hbl hbA))).2⟩ rfl rfl hl.1 rfl (lv_room (Nat.le_of_ble_eq_true rfl)) dX5_harden_31 ⟨(Nat.le_of_ble_eq_true rfl), (Nat.le_of_ble_eq_true rfl)⟩) hS (fun q _ h => hAW q h) (fun q h => hAW q h) (fun r9 u t H1 locs ht hvm hw hB hz1 hk1 hS9 => ?_)
      subst hw
      have hP : va_P (dC, dI) vwCl (iwT L ad cy bS a b c d r I D K_15 M) H1 := by rw [← ht]; exact hB.1
      have hS := hS9
      clear hB hz1 hk1 hvm ht hS9
      generalize H1 = H at hP hS ⊢
      refine lv_iadd hx hb dX5_harden_34 ?_
      refine lv_istore_n (lv' := [(2, .int (10 + r_13)), (0, .ref (ad 40)), (1, .int p1)]) hx hb dX5_harden_35 rfl hl (by decide) rfl (fun ls hl => ?_)
      refine lv_aload_n hx hb dX5_harden_36 rfl (lv_at hl 1 rfl) ?_
      obtain ⟨q_17, wq_17, heq_17⟩ := heT_40 (L := L) (ad := ad) (cy := cy) (bS := bS) (a := a) (b := b) (c := c) (d := d) (r := r) (I := I) (D := D) (K := K_15) (M := M) hM
      refine va_get (D := (dC, dI)) (ci := 5) (v := .ref (ad 49)) (C := RX5) (T := TX5) (N := 11) hx hb hts iT_harden_RX5 hown hK hP q_17 heq_17 rfl 5 (by decide) (hts (.fieldLink RX5 25 "OverrunHouseLaw$Told" "batches" "[[I") (List.mem_cons_of_mem _ (List.mem_append_left _ (List.mem_append_left _ (List.mem_append_left _ (List.mem_append_left _ (List.mem_append_left _ (List.mem_append_left _ (List.mem_append_left _ (List.mem_of_getElem? (i := 0) rfl)))))))))) (fun _ h9 => h9) rfl dX5_harden_37 ?_
      refine lv_iload_n hx hb dX5_harden_40 rfl (lv_at hl 2 rfl) ?_
      obtain ⟨q_18, wq_18, heq_18⟩ := heT_49 (L := L) (ad := ad) (cy := cy) (bS := bS) (a := a) (b := b) (c := c) (d := d) (r := r) (I := I) (D := D) (K := K_15) (M := M) hM
      obtain ⟨h_19, hf⟩ := ck_out hf
      refine ra_lda (bs := 70) (n := c) hx hb hK hP q_18 heq_18 (inB_in h_19) dX5_harden_41 ?_
      refine lv_iconst (v := 2) hx hb dX5_harden_42 (by decide) ?_
      refine lv_iconst (v := 1) hx hb dX5_harden_43 (by decide) ?_
      obtain ⟨q_20, wq_20, heq_20⟩ := heT_Bat (L := L) (ad := ad) (cy := cy) (bS := bS) (a := a) (b := b) (c := c) (d := d) (r := r) (I := I) (D := D) (K := K_15) (M := M) hM (inB_lt h_19)
      obtain ⟨h_21, hf⟩ := ck_out hf
      obtain ⟨K_22, eK_22, hf⟩ := nm_out hf
      refine va_iast (n := 4) (f := K_15 (70 + (p1).toNatClampNeg)) hx hb hK hP (hDD r I D K_15 M) hS q_20 0 heq_20 rfl (inB_in h_21) dX5_harden_44 (fun H locs hP _ hS => ?_)
      have hP : va_P (dC, dI) vwCl (iwT L ad cy bS a b c d r I D K_22 M) H := by rw [eK_22]; exact hqK hM wq_20 (by omega) ((cellT_Bat ad cy bS a b c d r (by have := hM.2.2; have := (inB_lt h_19); omega) _ _).trans rfl) hP
      refine lv_aload_n hx hb dX5_harden_45 rfl (lv_at hl 1 rfl) ?_
      obtain ⟨q_23, wq_23, heq_23⟩ := heT_40 (L := L) (ad := ad) (cy := cy) (bS := bS) (a := a) (b := b) (c := c) (d := d) (r := r) (I := I) (D := D) (K := K_22) (M := M) hM
      refine va_get (D := (dC, dI)) (ci := 5) (v := .ref (ad 42)) (C := RX5) (T := TX5) (N := 11) hx hb hts iT_harden_RX5 hown hK hP q_23 heq_23 rfl 6 (by decide) (hts (.fieldLink RX5 28 "OverrunHouseLaw$Told" "crystals" "[D") (List.mem_cons_of_mem _ (List.mem_append_left _ (List.mem_append_left _ (List.mem_append_left _ (List.mem_append_left _ (List.mem_append_left _ (List.mem_append_left _ (List.mem_append_left _ (List.mem_of_getElem? (i := 1) rfl)))))))))) (fun _ h9 => h9) rfl dX5_harden_46 ?_
      refine lv_iload_n hx hb dX5_harden_49 rfl (lv_at hl 2 rfl) ?_
      refine lv_dup2_11 hx hb dX5_harden_50 rfl rfl ?_
      obtain ⟨q_24, wq_24, heq_24⟩ := heT_42 (L := L) (ad := ad) (cy := cy) (bS := bS) (a := a) (b := b) (c := c) (d := d) (r := r) (I := I) (D := D) (K := K_22) (M := M) hM
      obtain ⟨h_25, hf⟩ := ck_out hf
      refine va_dald (n := 12) (f := M 42) hx hb hK hP q_24 6 heq_24 rfl (inB_in h_25) dX5_harden_51 ?_
      refine lv_iload_n hx hb dX5_harden_52 rfl (lv_at hl 0 rfl) ?_
      refine lv_i2d hx hb dX5_harden_53 ?_
      refine lv_ldc2d (v := 4598175219545276416) hx hb hown (hts (.constantDouble RX5 129 (4598175219545276416)) (List.mem_cons_of_mem _ (List.mem_append_left _ (List.mem_append_left _ (List.mem_append_left _ (List.mem_append_left _ (List.mem_append_left _ (List.mem_append_left _ (List.mem_append_left _ (List.mem_of_getElem? (i := 2) rfl)))))))))) dX5_harden_54 ?_
      obtain ⟨h_26, hf⟩ := ck_out hf
      refine lv_dmul hx hb dX5_harden_57 (okD_n h_26) ?_
      obtain ⟨h_27, hf⟩ := ck_out hf
      refine lv_dadd hx hb dX5_harden_58 (okD_n h_27) ?_
      obtain ⟨q_28, wq_28, heq_28⟩ := heT_42 (L := L) (ad := ad) (cy := cy) (bS := bS) (a := a) (b := b) (c := c) (d := d) (r := r) (I := I) (D := D) (K := K_22) (M := M) hM
      obtain ⟨h_29, hf⟩ := ck_out hf
      obtain ⟨M_30, eM_30, hf⟩ := nm_out hf
      refine va_dast (n := 12) (f := M 42) hx hb hK hP (hDD r I D K_22 M) hS q_28 6 heq_28 rfl (inB_in h_29) dX5_harden_59 (fun H locs hP _ hS => ?_)
      have hP : va_P (dC, dI) vwCl (iwT L ad cy bS a b c d r I D K_22 M_30) H := by rw [eM_30]; exact hqM hM wq_28 (by decide) ((cellT_42 ad cy bS a b c d r _ _).trans rfl) hP
      refine lv_aload_n hx hb dX5_harden_60 rfl (lv_at hl 1 rfl) ?_
      obtain ⟨q_31, wq_31, heq_31⟩ := heT_40 (L := L) (ad := ad) (cy := cy) (bS := bS) (a := a) (b := b) (c := c) (d := d) (r := r) (I := I) (D := D) (K := K_22) (M := M_30) hM
      refine va_get (D := (dC, dI)) (ci := 5) (v := .ref (ad 0)) (C := RX5) (T := TX5) (N := 11) hx hb hts iT_harden_RX5 hown hK hP q_31 heq_31 rfl 0 (by decide) (hts (.fieldLink RX5 10 "OverrunHouseLaw$Told" "m" "LOverrunHouse;") (List.mem_cons_of_mem _ (List.mem_append_left _ (List.mem_append_left _ (List.mem_append_left _ (List.mem_append_left _ (List.mem_append_left _ (List.mem_append_left _ (List.mem_append_left _ (List.mem_of_getElem? (i := 3) rfl)))))))))) (fun _ h9 => h9) rfl dX5_harden_61 ?_
      refine lv_iload_n hx hb dX5_harden_64 rfl (lv_at hl 2 rfl) ?_
      refine lv_iload_n hx hb dX5_harden_65 rfl (lv_at hl 0 rfl) ?_
      obtain ⟨⟨r_32, I_34, D_35⟩, g_33, hf⟩ := bd_out hf
      have hPH := iwT_H hM hP
      have hAW : ∀ q, AW ad H.size q → A q := fun q h => h.elim (fun ⟨k, k1, k2⟩ => k2 ▸ hAL k (hM.1.2.1 _ (tL_H k1))) (fun h => hA q (Nat.le_trans hS.1 h))
      refine va_calld (va_runV (As := [.int p1, .int (10 + r_13)]) (rest := []) ⟨hx, hb, hml, hown, hts⟩ (mt_X4_harden l dC dI ad cy hM.J H.size I D p1 (10 + r_13) r_32 I_34 D_35 (eO_out g_33)) (cwV 2 hts gX5_harden_X4_harden rfl rfl rfl (by decide +kernel) ⟨(Nat.le_of_ble_eq_true rfl), (Nat.le_of_ble_eq_true rfl)⟩) ⟨(hW.pre [.ref (ad 0), .int p1, .int (10 + r_13)] hPH hK hN.1).1, hW.recv (C := RX4) (T := TX4) (N := 14) hPH hK heH_0 rfl, (hW.pre [.ref (ad 0), .int p1, .int (10 + r_13)] hPH hK hN.1).2⟩ rfl rfl hl.1 rfl (lv_room (Nat.le_of_ble_eq_true rfl)) dX5_harden_66 ⟨(Nat.le_of_ble_eq_true rfl), (Nat.le_of_ble_eq_true rfl)⟩) hS (fun q _ h => hAW q h) (fun q h => hAW q h) (fun r9 u t H1 locs ht hvm hw hB hz1 hk1 hS9 => ?_)
      subst hw
      have hP : va_P (dC, dI) vwCl (iwT L ad cy bS a b c d r I_34 D_35 K_22 M_30) H1 := iwT_join hM hP (by rw [← ht]; exact hB.1) hk1
      have hS := hS9
      clear hB hz1 hk1 hvm ht hS9
      generalize H1 = H at hP hS ⊢
      refine lv_aload_n hx hb dX5_harden_69 rfl (lv_at hl 1 rfl) ?_
      obtain ⟨q_36, wq_36, heq_36⟩ := heT_40 (L := L) (ad := ad) (cy := cy) (bS := bS) (a := a) (b := b) (c := c) (d := d) (r := r) (I := I_34) (D := D_35) (K := K_22) (M := M_30) hM
      refine va_get (D := (dC, dI)) (ci := 5) (v := .ref (ad 42)) (C := RX5) (T := TX5) (N := 11) hx hb hts iT_harden_RX5 hown hK hP q_36 heq_36 rfl 6 (by decide) (hts (.fieldLink RX5 28 "OverrunHouseLaw$Told" "crystals" "[D") (List.mem_cons_of_mem _ (List.mem_append_left _ (List.mem_append_left _ (List.mem_append_left _ (List.mem_append_left _ (List.mem_append_left _ (List.mem_append_left _ (List.mem_append_left _ (List.mem_of_getElem? (i := 1) rfl)))))))))) (fun _ h9 => h9) rfl dX5_harden_70 ?_
      refine lv_iload_n hx hb dX5_harden_73 rfl (lv_at hl 2 rfl) ?_
      obtain ⟨q_37, wq_37, heq_37⟩ := heT_42 (L := L) (ad := ad) (cy := cy) (bS := bS) (a := a) (b := b) (c := c) (d := d) (r := r) (I := I_34) (D := D_35) (K := K_22) (M := M_30) hM
      obtain ⟨h_38, hf⟩ := ck_out hf
      refine va_dald (n := 12) (f := M_30 42) hx hb hK hP q_37 6 heq_37 rfl (inB_in h_38) dX5_harden_74 ?_
      refine lv_dcmp hx hb dX5_harden_75 ?_
      refine lv_if_ne (tgt := 83) hx hb dX5_harden_76 (by decide) (fun c_39 => ?_) (fun c_39 => ?_)
      · have hf := it_f hf c_39
        refine lv_iconst (v := 0) hx hb dX5_harden_83 (by decide) ?_
        have hf := Option.some.inj hf
        obtain ⟨q1, hf⟩ := Prod.mk.inj hf
        obtain ⟨qI, hf⟩ := Prod.mk.inj hf
        obtain ⟨qD, hf⟩ := Prod.mk.inj hf
        obtain ⟨qK, qM⟩ := Prod.mk.inj hf
        exact W.zret (ty := .boolean) (v := 0) hx hb hr rfl (fun t ht hW9 => ⟨⟨0, (), rfl, q1.symm, (by rw [← qI, ← qD, ← qK, ← qM]; exact tW.of hP hK hN (hX0.kept (hS.2.1 bS hbl hbA)) ht hW9)⟩, hS.F ht⟩) hS.2.2 dX5_harden_84
      · have hf := it_t hf c_39
        refine lv_iconst (v := 1) hx hb dX5_harden_79 (by decide) ?_
        refine lv_goto (tgt := 84) hx hb dX5_harden_80 (by decide) ?_
        have hf := Option.some.inj hf
        obtain ⟨q1, hf⟩ := Prod.mk.inj hf
        obtain ⟨qI, hf⟩ := Prod.mk.inj hf
        obtain ⟨qD, hf⟩ := Prod.mk.inj hf
        obtain ⟨qK, qM⟩ := Prod.mk.inj hf
        exact W.zret (ty := .boolean) (v := 1) hx hb hr rfl (fun t ht hW9 => ⟨⟨1, (), rfl, q1.symm, (by rw [← qI, ← qD, ← qK, ← qM]; exact tW.of hP hK hN (hX0.kept (hS.2.1 bS hbl hbA)) ht hW9)⟩, hS.F ht⟩) hS.2.2 dX5_harden_84
    · have hf := it_t hf c_12
      refine lv_iconst (v := 1) hx hb dX5_harden_24 (by decide) ?_
      have hf := Option.some.inj hf
      obtain ⟨q1, hf⟩ := Prod.mk.inj hf
      obtain ⟨qI, hf⟩ := Prod.mk.inj hf
      obtain ⟨qD, hf⟩ := Prod.mk.inj hf
      obtain ⟨qK, qM⟩ := Prod.mk.inj hf
      exact W.zret (ty := .boolean) (v := 1) hx hb hr rfl (fun t ht hW9 => ⟨⟨1, (), rfl, q1.symm, (by rw [← qI, ← qD, ← qK, ← qM]; exact tW.of hP hK hN (hX0.kept (hS.2.1 bS hbl hbA)) ht hW9)⟩, hS.F ht⟩) hS.2.2 dX5_harden_25

def f_T_lay (LS : Nat) (xs : Nat → Int32) (a b c d : Nat) (I : Nat → Nat → Int32) (D : Nat → Nat → UInt64) (K : Nat → Nat → Int32) (M : Nat → Nat → UInt64) (p1 : Int32) : Option (Int32 × (Nat → Nat → Int32) × (Nat → Nat → UInt64) × (Nat → Nat → Int32)) :=
  ck (inB p1 c) (ck (inB 2 4) ((if (K (70 + (p1).toNatClampNeg) (2 : Int32).toNatClampNeg) = 0 then some (1, I, D, K) else ck (inB p1 c) (ck (inB 3 4) ((if (K (70 + (p1).toNatClampNeg) (3 : Int32).toNatClampNeg) ≤ 9 then bd (f_T_draw LS xs a b c d I D K M (nI d)) (fun (r_15, K_17) => ck (inB p1 c) (ck (inB 3 4) (nm (up2 K_17 (70 + (p1).toNatClampNeg) (3 : Int32).toNatClampNeg r_15) (fun K_24 => bd (eO (f_X4_lay I D p1 r_15)) (fun (r_26, I_28, D_29) => bd (f_T_in LS xs a b c d I_28 D_29 K_24 M r_15) (fun r_30 => (if r_26 = r_30 then some (1, I_28, D_29, K_24) else some (0, I_28, D_29, K_24)))))))) else some (1, I, D, K)))))))
theorem iT_lay_RX5 : ∀ w ∈ u_ws RX5 TX5 11, w ∈ wsX5_lay := fun w h => List.mem_cons_of_mem _ (List.mem_append_left _ (List.mem_append_left _ (List.mem_append_left _ (List.mem_append_left _ (List.mem_append_right _ (h))))))
set_option maxHeartbeats 4000000 in
set_option maxRecDepth 100000 in
theorem mt_T_lay (l : Launch) (dC : Nat → ClassId) (dI : Nat → Nat → Nat) (L : List Nat) (a b c d bS : Nat) (ad : Nat → Nat) (cy : Nat → ClassId) (hM : tOK L a b c d bS ad) (r LS : Nat) (xs : Nat → Int32) (sz : Nat) (I : Nat → Nat → Int32) (D : Nat → Nat → UInt64) (K : Nat → Nat → Int32) (M : Nat → Nat → UInt64) (p1 : Int32) (rr : Int32) (I9 : Nat → Nat → Int32) (D9 : Nat → Nat → UInt64) (K9 : Nat → Nat → Int32) (hf : f_T_lay LS xs a b c d I D K M p1 = some (rr, I9, D9, K9)) : Met l yX5_lay wsX5_lay ({ frames := 2, cells := 0, slots := 0, locals := 46 }) (va_Pc [.ref (ad 40), .int p1] (fun U => U.heap.size = sz ∧ tW dC dI L ad cy bS a b c d r LS xs I D K M U)) (va_Qi (fun r (_ : Unit) => rr = r) (fun _ t => tW dC dI L ad cy bS a b c d r LS xs I9 D9 K9 M t) (AT L ad sz)) 0 0 (AT L ad sz) := by
  refine Met.ofW (cc := cX5_lay) (maxL := 3) (ret := (some .boolean)) (by decide) rfl ?_
  intro p e s m args below meth cX s₁ B hml hv
  obtain ⟨rfl, hsz, hP, hK, hN, hX0⟩ := hv
  have hx := B.exec
  have hb := B.bytes
  have hr := B.returns
  have hts := atoms_spec (ws := wsX5_lay) B.pre
  have hown : s.vm.findClass RX5 = some m.cls := findClass_of_methodNamed B.named
  have hlocks := B.notSynchronized
  subst hsz
  have hbl : bS < s.heap.size := by obtain ⟨scr, h, -⟩ := hX0; exact (Array.getElem?_eq_some_iff.mp h).1
  generalize hAe : AT L ad s.heap.size = A
  have hA : ∀ q : Nat, s.heap.size ≤ q → A q := fun q h => by rw [← hAe]; exact Or.inr h
  have hAL : ∀ k, k ∈ L → A (ad k) := fun k h => by rw [← hAe]; exact Or.inl ⟨k, h, rfl⟩
  have hDD : ∀ r I D K M, va_D A (iwT L ad cy bS a b c d r I D K M) := fun r I D K M => iwT_D hM hAL I D K M
  have hbA : ¬ A bS := fun h => by rw [← hAe] at h; exact h.elim (fun ⟨k, k1, k2⟩ => hM.2.1 k k1 k2) (fun h => Nat.lt_irrefl _ (Nat.lt_of_lt_of_le hbl h))
  obtain ⟨H, hH⟩ : ∃ H : Heap, H = s.heap := ⟨_, rfl⟩
  have hS : va_S A s.heap H [] := by rw [hH]; exact va_S.rf
  have hP : va_P (dC, dI) vwCl (iwT L ad cy bS a b c d r I D K M) H := by rw [hH]; exact hP
  suffices hgo : ∀ locs, va_S A s.heap H locs → W p l e (headSpec wsX5_lay ({ frames := 2, cells := 0, slots := 0, locals := 46 })).room s m ([.ref (ad 40), .int p1] : List Value).toArray below meth cX H locs 0 0 (MQ below (va_Qi (fun r (_ : Unit) => rr = r) (fun _ t => tW dC dI L ad cy bS a b c d r LS xs I9 D9 K9 M t) A) ([.ref (ad 40), .int p1] : List Value).toArray s 0 0 A) (entryFrame m ([.ref (ad 40), .int p1] : List Value).toArray 3) by subst hH; exact hgo [] hS
  clear hS hH
  intro locs hS
  have hl := lv_entry ([.ref (ad 40), .int p1]) (n := 3) (Nat.le_of_ble_eq_true rfl)
  rw [lg_entry_eq]
  generalize (lg_sl ([.ref (ad 40), .int p1]) ++ List.replicate (3 - (lg_sl ([.ref (ad 40), .int p1])).length) Slot.unset).toArray = ls at hl ⊢
  have hl : lv_has ls 3 [(0, .ref (ad 40)), (1, .int p1)] := hl
  unfold f_T_lay at hf
  refine lv_aload_n hx hb dX5_lay_0 rfl (lv_at hl 0 rfl) ?_
  obtain ⟨q_1, wq_1, heq_1⟩ := heT_40 (L := L) (ad := ad) (cy := cy) (bS := bS) (a := a) (b := b) (c := c) (d := d) (r := r) (I := I) (D := D) (K := K) (M := M) hM
  refine va_get (D := (dC, dI)) (ci := 5) (v := .ref (ad 49)) (C := RX5) (T := TX5) (N := 11) hx hb hts iT_lay_RX5 hown hK hP q_1 heq_1 rfl 5 (by decide) (hts (.fieldLink RX5 25 "OverrunHouseLaw$Told" "batches" "[[I") (List.mem_cons_of_mem _ (List.mem_append_left _ (List.mem_append_left _ (List.mem_append_left _ (List.mem_append_left _ (List.mem_append_left _ (List.mem_append_left _ (List.mem_of_getElem? (i := 0) rfl))))))))) (fun _ h9 => h9) rfl dX5_lay_1 ?_
  refine lv_iload_n hx hb dX5_lay_4 rfl (lv_at hl 1 rfl) ?_
  obtain ⟨q_2, wq_2, heq_2⟩ := heT_49 (L := L) (ad := ad) (cy := cy) (bS := bS) (a := a) (b := b) (c := c) (d := d) (r := r) (I := I) (D := D) (K := K) (M := M) hM
  obtain ⟨h_3, hf⟩ := ck_out hf
  refine ra_lda (bs := 70) (n := c) hx hb hK hP q_2 heq_2 (inB_in h_3) dX5_lay_5 ?_
  refine lv_iconst (v := 2) hx hb dX5_lay_6 (by decide) ?_
  obtain ⟨q_4, wq_4, heq_4⟩ := heT_Bat (L := L) (ad := ad) (cy := cy) (bS := bS) (a := a) (b := b) (c := c) (d := d) (r := r) (I := I) (D := D) (K := K) (M := M) hM (inB_lt h_3)
  obtain ⟨h_5, hf⟩ := ck_out hf
  refine va_iald (n := 4) (f := K (70 + (p1).toNatClampNeg)) hx hb hK hP q_4 0 heq_4 rfl (inB_in h_5) dX5_lay_7 ?_
  refine lv_if_eq (tgt := 24) hx hb dX5_lay_8 (by decide) (fun c_6 => ?_) (fun c_6 => ?_)
  · have hf := it_t hf c_6
    refine lv_iconst (v := 1) hx hb dX5_lay_24 (by decide) ?_
    have hf := Option.some.inj hf
    obtain ⟨q1, hf⟩ := Prod.mk.inj hf
    obtain ⟨qI, hf⟩ := Prod.mk.inj hf
    obtain ⟨qD, qK⟩ := Prod.mk.inj hf
    exact W.zret (ty := .boolean) (v := 1) hx hb hr rfl (fun t ht hW9 => ⟨⟨1, (), rfl, q1.symm, (by rw [← qI, ← qD, ← qK]; exact tW.of hP hK hN (hX0.kept (hS.2.1 bS hbl hbA)) ht hW9)⟩, hS.F ht⟩) hS.2.2 dX5_lay_25
  · have hf := it_f hf c_6
    refine lv_aload_n hx hb dX5_lay_11 rfl (lv_at hl 0 rfl) ?_
    obtain ⟨q_7, wq_7, heq_7⟩ := heT_40 (L := L) (ad := ad) (cy := cy) (bS := bS) (a := a) (b := b) (c := c) (d := d) (r := r) (I := I) (D := D) (K := K) (M := M) hM
    refine va_get (D := (dC, dI)) (ci := 5) (v := .ref (ad 49)) (C := RX5) (T := TX5) (N := 11) hx hb hts iT_lay_RX5 hown hK hP q_7 heq_7 rfl 5 (by decide) (hts (.fieldLink RX5 25 "OverrunHouseLaw$Told" "batches" "[[I") (List.mem_cons_of_mem _ (List.mem_append_left _ (List.mem_append_left _ (List.mem_append_left _ (List.mem_append_left _ (List.mem_append_left _ (List.mem_append_left _ (List.mem_of_getElem? (i := 0) rfl))))))))) (fun _ h9 => h9) rfl dX5_lay_12 ?_
    refine lv_iload_n hx hb dX5_lay_15 rfl (lv_at hl 1 rfl) ?_
    obtain ⟨q_8, wq_8, heq_8⟩ := heT_49 (L := L) (ad := ad) (cy := cy) (bS := bS) (a := a) (b := b) (c := c) (d := d) (r := r) (I := I) (D := D) (K := K) (M := M) hM
    obtain ⟨h_9, hf⟩ := ck_out hf
    refine ra_lda (bs := 70) (n := c) hx hb hK hP q_8 heq_8 (inB_in h_9) dX5_lay_16 ?_
    refine lv_iconst (v := 3) hx hb dX5_lay_17 (by decide) ?_
    obtain ⟨q_10, wq_10, heq_10⟩ := heT_Bat (L := L) (ad := ad) (cy := cy) (bS := bS) (a := a) (b := b) (c := c) (d := d) (r := r) (I := I) (D := D) (K := K) (M := M) hM (inB_lt h_9)
    obtain ⟨h_11, hf⟩ := ck_out hf
    refine va_iald (n := 4) (f := K (70 + (p1).toNatClampNeg)) hx hb hK hP q_10 0 heq_10 rfl (inB_in h_11) dX5_lay_18 ?_
    refine lv_bipush (v := 9) hx hb dX5_lay_19 (by decide) ?_
    refine lv_icmp_le (tgt := 26) hx hb dX5_lay_21 (by decide) (fun c_12 => ?_) (fun c_12 => ?_)
    · have hf := it_t hf c_12
      refine lv_aload_n hx hb dX5_lay_26 rfl (lv_at hl 0 rfl) ?_
      refine lv_aload_n hx hb dX5_lay_27 rfl (lv_at hl 0 rfl) ?_
      obtain ⟨q_13, wq_13, heq_13⟩ := heT_40 (L := L) (ad := ad) (cy := cy) (bS := bS) (a := a) (b := b) (c := c) (d := d) (r := r) (I := I) (D := D) (K := K) (M := M) hM
      refine va_get (D := (dC, dI)) (ci := 5) (v := .ref (ad 46)) (C := RX5) (T := TX5) (N := 11) hx hb hts iT_lay_RX5 hown hK hP q_13 heq_13 rfl 7 (by decide) (hts (.fieldLink RX5 32 "OverrunHouseLaw$Told" "sets" "[I") (List.mem_cons_of_mem _ (List.mem_append_left _ (List.mem_append_left _ (List.mem_append_left _ (List.mem_append_left _ (List.mem_append_left _ (List.mem_append_left _ (List.mem_of_getElem? (i := 1) rfl))))))))) (fun _ h9 => h9) rfl dX5_lay_28 ?_
      obtain ⟨q_14, wq_14, heq_14⟩ := heT_46 (L := L) (ad := ad) (cy := cy) (bS := bS) (a := a) (b := b) (c := c) (d := d) (r := r) (I := I) (D := D) (K := K) (M := M) hM
      refine va_alen (v := nI d) hx hb hK hP q_14 0 heq_14 rfl rfl dX5_lay_31 ?_
      obtain ⟨⟨r_15, K_17⟩, g_16, hf⟩ := bd_out hf
      have hAW : ∀ q, AT L ad H.size q → A q := fun q h => h.elim (fun ⟨k, k1, k2⟩ => k2 ▸ hAL k k1) (fun h => hA q (Nat.le_trans hS.1 h))
      obtain ⟨q_18, wq_18, heq_18⟩ := heT_40 (L := L) (ad := ad) (cy := cy) (bS := bS) (a := a) (b := b) (c := c) (d := d) (r := r) (I := I) (D := D) (K := K) (M := M) hM
      refine va_calli (va_runV (As := [.int (nI d)]) (rest := []) ⟨hx, hb, hml, hown, hts⟩ (mt_T_draw l dC dI L a b c d bS ad cy hM r LS xs H.size I D K M (nI d) r_15 K_17 g_16) (cwV 1 hts gX5_lay_X5_draw rfl rfl rfl (by decide +kernel) ⟨(Nat.le_of_ble_eq_true rfl), (Nat.le_of_ble_eq_true rfl)⟩) ⟨(tW.pre [.ref (ad 40), .int (nI d)] hP hK hN (hX0.kept (hS.2.1 bS hbl hbA))).1, tW.recv (C := RX5) (T := TX5) (N := 11) hP hK heq_18 rfl, (tW.pre [.ref (ad 40), .int (nI d)] hP hK hN (hX0.kept (hS.2.1 bS hbl hbA))).2⟩ rfl rfl hl.1 rfl (lv_room (Nat.le_of_ble_eq_true rfl)) dX5_lay_32 ⟨(Nat.le_of_ble_eq_true rfl), (Nat.le_of_ble_eq_true rfl)⟩) hS (fun q _ h => hAW q h) (fun q h => hAW q h) (fun r9 u t H1 locs ht hvm hw hB hz1 hk1 hS9 => ?_)
      subst hw
      have hP : va_P (dC, dI) vwCl (iwT L ad cy bS a b c d r I D K_17 M) H1 := by rw [← ht]; exact hB.1
      have hS := hS9
      clear hB hz1 hk1 hvm ht hS9
      generalize H1 = H at hP hS ⊢
      refine lv_istore_n (lv' := [(2, .int r_15), (0, .ref (ad 40)), (1, .int p1)]) hx hb dX5_lay_35 rfl hl (by decide) rfl (fun ls hl => ?_)
      refine lv_aload_n hx hb dX5_lay_36 rfl (lv_at hl 1 rfl) ?_
      obtain ⟨q_19, wq_19, heq_19⟩ := heT_40 (L := L) (ad := ad) (cy := cy) (bS := bS) (a := a) (b := b) (c := c) (d := d) (r := r) (I := I) (D := D) (K := K_17) (M := M) hM
      refine va_get (D := (dC, dI)) (ci := 5) (v := .ref (ad 49)) (C := RX5) (T := TX5) (N := 11) hx hb hts iT_lay_RX5 hown hK hP q_19 heq_19 rfl 5 (by decide) (hts (.fieldLink RX5 25 "OverrunHouseLaw$Told" "batches" "[[I") (List.mem_cons_of_mem _ (List.mem_append_left _ (List.mem_append_left _ (List.mem_append_left _ (List.mem_append_left _ (List.mem_append_left _ (List.mem_append_left _ (List.mem_of_getElem? (i := 0) rfl))))))))) (fun _ h9 => h9) rfl dX5_lay_37 ?_
      refine lv_iload_n hx hb dX5_lay_40 rfl (lv_at hl 2 rfl) ?_
      obtain ⟨q_20, wq_20, heq_20⟩ := heT_49 (L := L) (ad := ad) (cy := cy) (bS := bS) (a := a) (b := b) (c := c) (d := d) (r := r) (I := I) (D := D) (K := K_17) (M := M) hM
      obtain ⟨h_21, hf⟩ := ck_out hf
      refine ra_lda (bs := 70) (n := c) hx hb hK hP q_20 heq_20 (inB_in h_21) dX5_lay_41 ?_
      refine lv_iconst (v := 3) hx hb dX5_lay_42 (by decide) ?_
      refine lv_iload_n hx hb dX5_lay_43 rfl (lv_at hl 0 rfl) ?_
      obtain ⟨q_22, wq_22, heq_22⟩ := heT_Bat (L := L) (ad := ad) (cy := cy) (bS := bS) (a := a) (b := b) (c := c) (d := d) (r := r) (I := I) (D := D) (K := K_17) (M := M) hM (inB_lt h_21)
      obtain ⟨h_23, hf⟩ := ck_out hf
      obtain ⟨K_24, eK_24, hf⟩ := nm_out hf
      refine va_iast (n := 4) (f := K_17 (70 + (p1).toNatClampNeg)) hx hb hK hP (hDD r I D K_17 M) hS q_22 0 heq_22 rfl (inB_in h_23) dX5_lay_44 (fun H locs hP _ hS => ?_)
      have hP : va_P (dC, dI) vwCl (iwT L ad cy bS a b c d r I D K_24 M) H := by rw [eK_24]; exact hqK hM wq_22 (by omega) ((cellT_Bat ad cy bS a b c d r (by have := hM.2.2; have := (inB_lt h_21); omega) _ _).trans rfl) hP
      refine lv_aload_n hx hb dX5_lay_45 rfl (lv_at hl 1 rfl) ?_
      obtain ⟨q_25, wq_25, heq_25⟩ := heT_40 (L := L) (ad := ad) (cy := cy) (bS := bS) (a := a) (b := b) (c := c) (d := d) (r := r) (I := I) (D := D) (K := K_24) (M := M) hM
      refine va_get (D := (dC, dI)) (ci := 5) (v := .ref (ad 0)) (C := RX5) (T := TX5) (N := 11) hx hb hts iT_lay_RX5 hown hK hP q_25 heq_25 rfl 0 (by decide) (hts (.fieldLink RX5 10 "OverrunHouseLaw$Told" "m" "LOverrunHouse;") (List.mem_cons_of_mem _ (List.mem_append_left _ (List.mem_append_left _ (List.mem_append_left _ (List.mem_append_left _ (List.mem_append_left _ (List.mem_append_left _ (List.mem_of_getElem? (i := 2) rfl))))))))) (fun _ h9 => h9) rfl dX5_lay_46 ?_
      refine lv_iload_n hx hb dX5_lay_49 rfl (lv_at hl 2 rfl) ?_
      refine lv_iload_n hx hb dX5_lay_50 rfl (lv_at hl 0 rfl) ?_
      obtain ⟨⟨r_26, I_28, D_29⟩, g_27, hf⟩ := bd_out hf
      have hPH := iwT_H hM hP
      have hAW : ∀ q, AW ad H.size q → A q := fun q h => h.elim (fun ⟨k, k1, k2⟩ => k2 ▸ hAL k (hM.1.2.1 _ (tL_H k1))) (fun h => hA q (Nat.le_trans hS.1 h))
      refine va_calli (va_runV (As := [.int p1, .int r_15]) (rest := []) ⟨hx, hb, hml, hown, hts⟩ (mt_X4_lay l dC dI ad cy hM.J H.size I D p1 r_15 r_26 I_28 D_29 (eO_out g_27)) (cwV 2 hts gX5_lay_X4_lay rfl rfl rfl (by decide +kernel) ⟨(Nat.le_of_ble_eq_true rfl), (Nat.le_of_ble_eq_true rfl)⟩) ⟨(hW.pre [.ref (ad 0), .int p1, .int r_15] hPH hK hN.1).1, hW.recv (C := RX4) (T := TX4) (N := 14) hPH hK heH_0 rfl, (hW.pre [.ref (ad 0), .int p1, .int r_15] hPH hK hN.1).2⟩ rfl rfl hl.1 rfl (lv_room (Nat.le_of_ble_eq_true rfl)) dX5_lay_51 ⟨(Nat.le_of_ble_eq_true rfl), (Nat.le_of_ble_eq_true rfl)⟩) hS (fun q _ h => hAW q h) (fun q h => hAW q h) (fun r9 u t H1 locs ht hvm hw hB hz1 hk1 hS9 => ?_)
      subst hw
      have hP : va_P (dC, dI) vwCl (iwT L ad cy bS a b c d r I_28 D_29 K_24 M) H1 := iwT_join hM hP (by rw [← ht]; exact hB.1) hk1
      have hS := hS9
      clear hB hz1 hk1 hvm ht hS9
      generalize H1 = H at hP hS ⊢
      refine lv_aload_n hx hb dX5_lay_54 rfl (lv_at hl 1 rfl) ?_
      refine lv_iload_n hx hb dX5_lay_55 rfl (lv_at hl 0 rfl) ?_
      obtain ⟨r_30, g_31, hf⟩ := bd_out hf
      obtain ⟨q_32, wq_32, heq_32⟩ := heT_40 (L := L) (ad := ad) (cy := cy) (bS := bS) (a := a) (b := b) (c := c) (d := d) (r := r) (I := I_28) (D := D_29) (K := K_24) (M := M) hM
      refine va_calli (va_runV (As := [.int r_15]) (rest := [.int r_26]) ⟨hx, hb, hml, hown, hts⟩ (mt_T_in l dC dI L a b c d bS ad cy hM r LS xs H.size I_28 D_29 K_24 M r_15 r_30 g_31) (cwV 1 hts gX5_lay_X5_in rfl rfl rfl (by decide +kernel) ⟨(Nat.le_of_ble_eq_true rfl), (Nat.le_of_ble_eq_true rfl)⟩) ⟨(tW.pre [.ref (ad 40), .int r_15] hP hK hN (hX0.kept (hS.2.1 bS hbl hbA))).1, tW.recv (C := RX5) (T := TX5) (N := 11) hP hK heq_32 rfl, (tW.pre [.ref (ad 40), .int r_15] hP hK hN (hX0.kept (hS.2.1 bS hbl hbA))).2⟩ rfl rfl hl.1 rfl (lv_room (Nat.le_of_ble_eq_true rfl)) dX5_lay_56 ⟨(Nat.le_of_ble_eq_true rfl), (Nat.le_of_ble_eq_true rfl)⟩) hS (fun q _ h => hA q (Nat.le_trans hS.1 h)) (fun q h => hA q (Nat.le_trans hS.1 h)) (fun r9 u t H1 locs ht hvm hw hB hz1 hk1 hS9 => ?_)
      subst hw
      have hP := va_Pnew hP hk1
      have hS := hS9
      clear hB hz1 hk1 hvm ht hS9
      generalize H1 = H at hP hS ⊢
      refine lv_icmp_ne (tgt := 66) hx hb dX5_lay_59 (by decide) (fun c_33 => ?_) (fun c_33 => ?_)
      · have hf := it_f hf c_33
        refine lv_iconst (v := 0) hx hb dX5_lay_66 (by decide) ?_
        have hf := Option.some.inj hf
        obtain ⟨q1, hf⟩ := Prod.mk.inj hf
        obtain ⟨qI, hf⟩ := Prod.mk.inj hf
        obtain ⟨qD, qK⟩ := Prod.mk.inj hf
        exact W.zret (ty := .boolean) (v := 0) hx hb hr rfl (fun t ht hW9 => ⟨⟨0, (), rfl, q1.symm, (by rw [← qI, ← qD, ← qK]; exact tW.of hP hK hN (hX0.kept (hS.2.1 bS hbl hbA)) ht hW9)⟩, hS.F ht⟩) hS.2.2 dX5_lay_67
      · have hf := it_t hf c_33
        refine lv_iconst (v := 1) hx hb dX5_lay_62 (by decide) ?_
        refine lv_goto (tgt := 67) hx hb dX5_lay_63 (by decide) ?_
        have hf := Option.some.inj hf
        obtain ⟨q1, hf⟩ := Prod.mk.inj hf
        obtain ⟨qI, hf⟩ := Prod.mk.inj hf
        obtain ⟨qD, qK⟩ := Prod.mk.inj hf
        exact W.zret (ty := .boolean) (v := 1) hx hb hr rfl (fun t ht hW9 => ⟨⟨1, (), rfl, q1.symm, (by rw [← qI, ← qD, ← qK]; exact tW.of hP hK hN (hX0.kept (hS.2.1 bS hbl hbA)) ht hW9)⟩, hS.F ht⟩) hS.2.2 dX5_lay_67
    · have hf := it_f hf c_12
      refine lv_iconst (v := 1) hx hb dX5_lay_24 (by decide) ?_
      have hf := Option.some.inj hf
      obtain ⟨q1, hf⟩ := Prod.mk.inj hf
      obtain ⟨qI, hf⟩ := Prod.mk.inj hf
      obtain ⟨qD, qK⟩ := Prod.mk.inj hf
      exact W.zret (ty := .boolean) (v := 1) hx hb hr rfl (fun t ht hW9 => ⟨⟨1, (), rfl, q1.symm, (by rw [← qI, ← qD, ← qK]; exact tW.of hP hK hN (hX0.kept (hS.2.1 bS hbl hbA)) ht hW9)⟩, hS.F ht⟩) hS.2.2 dX5_lay_25

def f_T_hour_L124 (rec83 : Int32 → (Nat → Nat → Int32) → (Nat → Nat → UInt64) → Option ((Nat → Nat → Int32) × (Nat → Nat → UInt64))) (c : Nat) (x1_83 : Int32) : Nat → Int32 → (Nat → Nat → Int32) → (Nat → Nat → UInt64) → Option ((Nat → Nat → Int32) × (Nat → Nat → UInt64))
  | 0, _, _, _ => none
  | n124 + 1, x4_124, K_L124, M_L124 => (if (nI c) ≤ x4_124 then rec83 (x1_83 + 1) K_L124 M_L124 else none)
def f_T_hour_L83 (c : Nat) (d : Nat) : Nat → Int32 → (Nat → Nat → Int32) → (Nat → Nat → UInt64) → Option ((Nat → Nat → Int32) × (Nat → Nat → UInt64))
  | 0, _, _, _ => none
  | n83 + 1, x1_83, K_L83, M_L83 => (if (nI d) ≤ x1_83 then ck (inB 0 4) (ck (inB 0 4) (nm (up2 K_L83 45 (0 : Int32).toNatClampNeg ((K_L83 45 (0 : Int32).toNatClampNeg) + 1)) (fun K_15 => some (K_15, M_L83)))) else ck (inB x1_83 3) (ck (inB x1_83 3) (ck (inB x1_83 d) (ck (okD (FP.dsub (FP.i2d (K_L83 46 (x1_83).toNatClampNeg)) (M_L83 43 (x1_83).toNatClampNeg))) (ck (okD (FP.dmul (FP.dsub (FP.i2d (K_L83 46 (x1_83).toNatClampNeg)) (M_L83 43 (x1_83).toNatClampNeg)) (4598175219545276416 : UInt64))) (ck (okD (FP.dadd (M_L83 43 (x1_83).toNatClampNeg) (FP.dmul (FP.dsub (FP.i2d (K_L83 46 (x1_83).toNatClampNeg)) (M_L83 43 (x1_83).toNatClampNeg)) (4598175219545276416 : UInt64)))) (ck (inB x1_83 3) (nm (up2 M_L83 43 (x1_83).toNatClampNeg (FP.dadd (M_L83 43 (x1_83).toNatClampNeg) (FP.dmul (FP.dsub (FP.i2d (K_L83 46 (x1_83).toNatClampNeg)) (M_L83 43 (x1_83).toNatClampNeg)) (4598175219545276416 : UInt64)))) (fun M_30 => f_T_hour_L124 (f_T_hour_L83 c d n83) c x1_83 200 0 K_L83 M_30)))))))))
def f_T_hour_L45 (c : Nat) (d : Nat) (M : Nat → Nat → UInt64) : Nat → Int32 → (Nat → Nat → Int32) → Option ((Nat → Nat → Int32) × (Nat → Nat → UInt64))
  | 0, _, _ => none
  | n45 + 1, x3_45, K_L45 => (if (nI c) ≤ x3_45 then f_T_hour_L83 c d 200 0 K_L45 M else ck (inB x3_45 c) (ck (inB 3 4) ((if 0 ≤ (K_L45 (70 + (x3_45).toNatClampNeg) (3 : Int32).toNatClampNeg) then f_T_hour_L45 c d M n45 (x3_45 + 1) K_L45 else ck (inB 2 4) ((if (K_L45 (70 + (x3_45).toNatClampNeg) (2 : Int32).toNatClampNeg) = 0 then ck (inB 3 4) (nm (up2 K_L45 (70 + (x3_45).toNatClampNeg) (3 : Int32).toNatClampNeg 11) (fun K_44 => f_T_hour_L45 c d M n45 (x3_45 + 1) K_44)) else f_T_hour_L45 c d M n45 (x3_45 + 1) K_L45))))))
def f_T_hour_L10 (b : Nat) (c : Nat) (d : Nat) (M : Nat → Nat → UInt64) : Nat → Int32 → (Nat → Nat → Int32) → Option ((Nat → Nat → Int32) × (Nat → Nat → UInt64))
  | 0, _, _ => none
  | n10 + 1, x3_10, K_L10 => (if (nI b) ≤ x3_10 then f_T_hour_L45 c d M 200 0 K_L10 else ck (inB x3_10 b) (ck (inB 8 10) (ck (inB 8 10) (nm (up2 K_L10 (60 + (x3_10).toNatClampNeg) (8 : Int32).toNatClampNeg ((K_L10 (60 + (x3_10).toNatClampNeg) (8 : Int32).toNatClampNeg) + 1)) (fun K_51 => f_T_hour_L10 b c d M n10 (x3_10 + 1) K_51)))))
def f_T_hour (LS : Nat) (xs : Nat → Int32) (a b c d : Nat) (I : Nat → Nat → Int32) (D : Nat → Nat → UInt64) (K : Nat → Nat → Int32) (M : Nat → Nat → UInt64) : Option ((Nat → Nat → Int32) × (Nat → Nat → UInt64)) :=
  f_T_hour_L10 b c d M 200 0 K
theorem iT_hour_RX5 : ∀ w ∈ u_ws RX5 TX5 11, w ∈ wsX5_hour := fun w h => List.mem_cons_of_mem _ (List.mem_append_right _ (h))
set_option maxHeartbeats 4000000 in
set_option maxRecDepth 100000 in
theorem mt_T_hour (l : Launch) (dC : Nat → ClassId) (dI : Nat → Nat → Nat) (L : List Nat) (a b c d bS : Nat) (ad : Nat → Nat) (cy : Nat → ClassId) (hM : tOK L a b c d bS ad) (r LS : Nat) (xs : Nat → Int32) (sz : Nat) (I : Nat → Nat → Int32) (D : Nat → Nat → UInt64) (K : Nat → Nat → Int32) (M : Nat → Nat → UInt64) (K9 : Nat → Nat → Int32) (M9 : Nat → Nat → UInt64) (hf : f_T_hour LS xs a b c d I D K M = some (K9, M9)) : Met l yX5_hour wsX5_hour ({ frames := 1, cells := 0, slots := 0, locals := 90 }) (va_Pc [.ref (ad 40)] (fun U => U.heap.size = sz ∧ tW dC dI L ad cy bS a b c d r LS xs I D K M U)) (va_Qv (fun (_ : Unit) => True) (fun _ t => tW dC dI L ad cy bS a b c d r LS xs I D K9 M9 t) (AT L ad sz)) 0 0 (AT L ad sz) := by
  refine Met.ofW (cc := cX5_hour) (maxL := 8) (ret := none) (by decide) rfl ?_
  intro p e s m args below meth cX s₁ B hml hv
  obtain ⟨rfl, hsz, hP, hK, hN, hX0⟩ := hv
  have hx := B.exec
  have hb := B.bytes
  have hr := B.returns
  have hts := atoms_spec (ws := wsX5_hour) B.pre
  have hown : s.vm.findClass RX5 = some m.cls := findClass_of_methodNamed B.named
  have hlocks := B.notSynchronized
  subst hsz
  have hbl : bS < s.heap.size := by obtain ⟨scr, h, -⟩ := hX0; exact (Array.getElem?_eq_some_iff.mp h).1
  generalize hAe : AT L ad s.heap.size = A
  have hA : ∀ q : Nat, s.heap.size ≤ q → A q := fun q h => by rw [← hAe]; exact Or.inr h
  have hAL : ∀ k, k ∈ L → A (ad k) := fun k h => by rw [← hAe]; exact Or.inl ⟨k, h, rfl⟩
  have hDD : ∀ r I D K M, va_D A (iwT L ad cy bS a b c d r I D K M) := fun r I D K M => iwT_D hM hAL I D K M
  have hbA : ¬ A bS := fun h => by rw [← hAe] at h; exact h.elim (fun ⟨k, k1, k2⟩ => hM.2.1 k k1 k2) (fun h => Nat.lt_irrefl _ (Nat.lt_of_lt_of_le hbl h))
  obtain ⟨H, hH⟩ : ∃ H : Heap, H = s.heap := ⟨_, rfl⟩
  have hS : va_S A s.heap H [] := by rw [hH]; exact va_S.rf
  have hP : va_P (dC, dI) vwCl (iwT L ad cy bS a b c d r I D K M) H := by rw [hH]; exact hP
  suffices hgo : ∀ locs, va_S A s.heap H locs → W p l e (headSpec wsX5_hour ({ frames := 1, cells := 0, slots := 0, locals := 90 })).room s m ([.ref (ad 40)] : List Value).toArray below meth cX H locs 0 0 (MQ below (va_Qv (fun (_ : Unit) => True) (fun _ t => tW dC dI L ad cy bS a b c d r LS xs I D K9 M9 t) A) ([.ref (ad 40)] : List Value).toArray s 0 0 A) (entryFrame m ([.ref (ad 40)] : List Value).toArray 8) by subst hH; exact hgo [] hS
  clear hS hH
  intro locs hS
  have hl := lv_entry ([.ref (ad 40)]) (n := 8) (Nat.le_of_ble_eq_true rfl)
  rw [lg_entry_eq]
  generalize (lg_sl ([.ref (ad 40)]) ++ List.replicate (8 - (lg_sl ([.ref (ad 40)])).length) Slot.unset).toArray = ls at hl ⊢
  have hl : lv_has ls 8 [(0, .ref (ad 40))] := hl
  unfold f_T_hour at hf
  refine lv_aload_n hx hb dX5_hour_0 rfl (lv_at hl 0 rfl) ?_
  obtain ⟨q_1, wq_1, heq_1⟩ := heT_40 (L := L) (ad := ad) (cy := cy) (bS := bS) (a := a) (b := b) (c := c) (d := d) (r := r) (I := I) (D := D) (K := K) (M := M) hM
  refine va_get (D := (dC, dI)) (ci := 5) (v := .ref (ad 48)) (C := RX5) (T := TX5) (N := 11) hx hb hts iT_hour_RX5 hown hK hP q_1 heq_1 rfl 4 (by decide) (hts (.fieldLink RX5 22 "OverrunHouseLaw$Told" "mixes" "[[I") (List.mem_cons_of_mem _ (List.mem_append_left _ (List.mem_append_left _ (List.mem_of_getElem? (i := 0) rfl))))) (fun _ h9 => h9) rfl dX5_hour_1 ?_
  refine lv_astore_n (lv' := [(1, .ref (ad 48)), (0, .ref (ad 40))]) hx hb dX5_hour_4 rfl hl (by decide) rfl (fun ls hl => ?_)
  refine lv_aload_n hx hb dX5_hour_5 rfl (lv_at hl 0 rfl) ?_
  obtain ⟨q_2, wq_2, heq_2⟩ := heT_48 (L := L) (ad := ad) (cy := cy) (bS := bS) (a := a) (b := b) (c := c) (d := d) (r := r) (I := I) (D := D) (K := K) (M := M) hM
  refine va_alen (v := nI b) hx hb hK hP q_2 5 heq_2 rfl rfl dX5_hour_6 ?_
  refine lv_istore_n (lv' := [(2, .int (nI b)), (1, .ref (ad 48)), (0, .ref (ad 40))]) hx hb dX5_hour_7 rfl hl (by decide) rfl (fun ls hl => ?_)
  refine lv_iconst (v := 0) hx hb dX5_hour_8 (by decide) ?_
  refine lv_istore_n (lv' := [(3, .int 0), (2, .int (nI b)), (1, .ref (ad 48)), (0, .ref (ad 40))]) hx hb dX5_hour_9 rfl hl (by decide) rfl (fun ls hl => ?_)
  have L10 : ∀ (n10 : Nat) (x3_10 : Int32) (K_L10 : Nat → Nat → Int32), f_T_hour_L10 b c d M n10 x3_10 K_L10 = some (K9, M9) → ∀ (H : Heap) (locs : List Loc) (ls : Array Slot), va_P (dC, dI) vwCl (iwT L ad cy bS a b c d r I D K_L10 M) H → va_S A s.heap H locs → lv_has ls 8 [(3, .int x3_10), (2, .int (nI b)), (1, .ref (ad 48)), (0, .ref (ad 40))] → W p l e (headSpec wsX5_hour ({ frames := 1, cells := 0, slots := 0, locals := 90 })).room s m ([.ref (ad 40)] : List Value).toArray below meth cX H locs 0 0 (MQ below (va_Qv (fun (_ : Unit) => True) (fun _ t => tW dC dI L ad cy bS a b c d r LS xs I D K9 M9 t) A) ([.ref (ad 40)] : List Value).toArray s 0 0 A) (F0 m 10 ls []) := by
    intro n10
    induction n10 with
    | zero => intro x3_10 K_L10 hf; exact nomatch hf
    | succ n10 ih10 =>
      intro x3_10 K_L10 hf H locs ls hP hS hl
      unfold f_T_hour_L10 at hf
      refine lv_iload_n hx hb dX5_hour_10 rfl (lv_at hl 0 rfl) ?_
      refine lv_iload_n hx hb dX5_hour_11 rfl (lv_at hl 1 rfl) ?_
      refine lv_icmp_ge (tgt := 35) hx hb dX5_hour_12 (by decide) (fun c_3 => ?_) (fun c_3 => ?_)
      · have hf := it_t hf c_3
        refine lv_aload_n hx hb dX5_hour_35 rfl (lv_at hl 3 rfl) ?_
        obtain ⟨q_4, wq_4, heq_4⟩ := heT_40 (L := L) (ad := ad) (cy := cy) (bS := bS) (a := a) (b := b) (c := c) (d := d) (r := r) (I := I) (D := D) (K := K_L10) (M := M) hM
        refine va_get (D := (dC, dI)) (ci := 5) (v := .ref (ad 49)) (C := RX5) (T := TX5) (N := 11) hx hb hts iT_hour_RX5 hown hK hP q_4 heq_4 rfl 5 (by decide) (hts (.fieldLink RX5 25 "OverrunHouseLaw$Told" "batches" "[[I") (List.mem_cons_of_mem _ (List.mem_append_left _ (List.mem_append_left _ (List.mem_of_getElem? (i := 1) rfl))))) (fun _ h9 => h9) rfl dX5_hour_36 ?_
        refine lv_astore_n (lv' := [(1, .ref (ad 49)), (3, .int x3_10), (2, .int (nI b)), (0, .ref (ad 40))]) hx hb dX5_hour_39 rfl hl (by decide) rfl (fun ls hl => ?_)
        refine lv_aload_n hx hb dX5_hour_40 rfl (lv_at hl 0 rfl) ?_
        obtain ⟨q_5, wq_5, heq_5⟩ := heT_49 (L := L) (ad := ad) (cy := cy) (bS := bS) (a := a) (b := b) (c := c) (d := d) (r := r) (I := I) (D := D) (K := K_L10) (M := M) hM
        refine va_alen (v := nI c) hx hb hK hP q_5 5 heq_5 rfl rfl dX5_hour_41 ?_
        refine lv_istore_n (lv' := [(2, .int (nI c)), (1, .ref (ad 49)), (3, .int x3_10), (0, .ref (ad 40))]) hx hb dX5_hour_42 rfl hl (by decide) rfl (fun ls hl => ?_)
        refine lv_iconst (v := 0) hx hb dX5_hour_43 (by decide) ?_
        refine lv_istore_n (lv' := [(3, .int 0), (2, .int (nI c)), (1, .ref (ad 49)), (0, .ref (ad 40))]) hx hb dX5_hour_44 rfl hl (by decide) rfl (fun ls hl => ?_)
        have L45 : ∀ (n45 : Nat) (x3_45 : Int32) (K_L45 : Nat → Nat → Int32), f_T_hour_L45 c d M n45 x3_45 K_L45 = some (K9, M9) → ∀ (H : Heap) (locs : List Loc) (ls : Array Slot), va_P (dC, dI) vwCl (iwT L ad cy bS a b c d r I D K_L45 M) H → va_S A s.heap H locs → lv_has ls 8 [(3, .int x3_45), (2, .int (nI c)), (1, .ref (ad 49)), (0, .ref (ad 40))] → W p l e (headSpec wsX5_hour ({ frames := 1, cells := 0, slots := 0, locals := 90 })).room s m ([.ref (ad 40)] : List Value).toArray below meth cX H locs 0 0 (MQ below (va_Qv (fun (_ : Unit) => True) (fun _ t => tW dC dI L ad cy bS a b c d r LS xs I D K9 M9 t) A) ([.ref (ad 40)] : List Value).toArray s 0 0 A) (F0 m 45 ls []) := by
          intro n45
          induction n45 with
          | zero => intro x3_45 K_L45 hf; exact nomatch hf
          | succ n45 ih45 =>
            intro x3_45 K_L45 hf H locs ls hP hS hl
            unfold f_T_hour_L45 at hf
            refine lv_iload_n hx hb dX5_hour_45 rfl (lv_at hl 0 rfl) ?_
            refine lv_iload_n hx hb dX5_hour_46 rfl (lv_at hl 1 rfl) ?_
            refine lv_icmp_ge (tgt := 81) hx hb dX5_hour_47 (by decide) (fun c_6 => ?_) (fun c_6 => ?_)
            · have hf := it_t hf c_6
              refine lv_iconst (v := 0) hx hb dX5_hour_81 (by decide) ?_
              refine lv_istore_n (lv' := [(1, .int 0), (3, .int x3_45), (2, .int (nI c)), (0, .ref (ad 40))]) hx hb dX5_hour_82 rfl hl (by decide) rfl (fun ls hl => ?_)
              have L83 : ∀ (n83 : Nat) (x1_83 : Int32) (K_L83 : Nat → Nat → Int32) (M_L83 : Nat → Nat → UInt64), f_T_hour_L83 c d n83 x1_83 K_L83 M_L83 = some (K9, M9) → ∀ (H : Heap) (locs : List Loc) (ls : Array Slot), va_P (dC, dI) vwCl (iwT L ad cy bS a b c d r I D K_L83 M_L83) H → va_S A s.heap H locs → lv_has ls 8 [(1, .int x1_83), (0, .ref (ad 40))] → W p l e (headSpec wsX5_hour ({ frames := 1, cells := 0, slots := 0, locals := 90 })).room s m ([.ref (ad 40)] : List Value).toArray below meth cX H locs 0 0 (MQ below (va_Qv (fun (_ : Unit) => True) (fun _ t => tW dC dI L ad cy bS a b c d r LS xs I D K9 M9 t) A) ([.ref (ad 40)] : List Value).toArray s 0 0 A) (F0 m 83 ls []) := by
                intro n83
                induction n83 with
                | zero => intro x1_83 K_L83 M_L83 hf; exact nomatch hf
                | succ n83 ih83 =>
                  intro x1_83 K_L83 M_L83 hf H locs ls hP hS hl
                  unfold f_T_hour_L83 at hf
                  refine lv_iload_n hx hb dX5_hour_83 rfl (lv_at hl 0 rfl) ?_
                  refine lv_aload_n hx hb dX5_hour_84 rfl (lv_at hl 1 rfl) ?_
                  obtain ⟨q_7, wq_7, heq_7⟩ := heT_40 (L := L) (ad := ad) (cy := cy) (bS := bS) (a := a) (b := b) (c := c) (d := d) (r := r) (I := I) (D := D) (K := K_L83) (M := M_L83) hM
                  refine va_get (D := (dC, dI)) (ci := 5) (v := .ref (ad 46)) (C := RX5) (T := TX5) (N := 11) hx hb hts iT_hour_RX5 hown hK hP q_7 heq_7 rfl 7 (by decide) (hts (.fieldLink RX5 32 "OverrunHouseLaw$Told" "sets" "[I") (List.mem_cons_of_mem _ (List.mem_append_left _ (List.mem_append_left _ (List.mem_of_getElem? (i := 2) rfl))))) (fun _ h9 => h9) rfl dX5_hour_85 ?_
                  obtain ⟨q_8, wq_8, heq_8⟩ := heT_46 (L := L) (ad := ad) (cy := cy) (bS := bS) (a := a) (b := b) (c := c) (d := d) (r := r) (I := I) (D := D) (K := K_L83) (M := M_L83) hM
                  refine va_alen (v := nI d) hx hb hK hP q_8 0 heq_8 rfl rfl dX5_hour_88 ?_
                  refine lv_icmp_ge (tgt := 236) hx hb dX5_hour_89 (by decide) (fun c_9 => ?_) (fun c_9 => ?_)
                  · have hf := it_t hf c_9
                    refine lv_aload_n hx hb dX5_hour_236 rfl (lv_at hl 1 rfl) ?_
                    obtain ⟨q_10, wq_10, heq_10⟩ := heT_40 (L := L) (ad := ad) (cy := cy) (bS := bS) (a := a) (b := b) (c := c) (d := d) (r := r) (I := I) (D := D) (K := K_L83) (M := M_L83) hM
                    refine va_get (D := (dC, dI)) (ci := 5) (v := .ref (ad 45)) (C := RX5) (T := TX5) (N := 11) hx hb hts iT_hour_RX5 hown hK hP q_10 heq_10 rfl 10 (by decide) (hts (.fieldLink RX5 41 "OverrunHouseLaw$Told" "sums" "[I") (List.mem_cons_of_mem _ (List.mem_append_left _ (List.mem_append_left _ (List.mem_of_getElem? (i := 7) rfl))))) (fun _ h9 => h9) rfl dX5_hour_237 ?_
                    refine lv_iconst (v := 0) hx hb dX5_hour_240 (by decide) ?_
                    refine lv_dup2_11 hx hb dX5_hour_241 rfl rfl ?_
                    obtain ⟨q_11, wq_11, heq_11⟩ := heT_45 (L := L) (ad := ad) (cy := cy) (bS := bS) (a := a) (b := b) (c := c) (d := d) (r := r) (I := I) (D := D) (K := K_L83) (M := M_L83) hM
                    obtain ⟨h_12, hf⟩ := ck_out hf
                    refine va_iald (n := 4) (f := K_L83 45) hx hb hK hP q_11 0 heq_11 rfl (inB_in h_12) dX5_hour_242 ?_
                    refine lv_iconst (v := 1) hx hb dX5_hour_243 (by decide) ?_
                    refine lv_iadd hx hb dX5_hour_244 ?_
                    obtain ⟨q_13, wq_13, heq_13⟩ := heT_45 (L := L) (ad := ad) (cy := cy) (bS := bS) (a := a) (b := b) (c := c) (d := d) (r := r) (I := I) (D := D) (K := K_L83) (M := M_L83) hM
                    obtain ⟨h_14, hf⟩ := ck_out hf
                    obtain ⟨K_15, eK_15, hf⟩ := nm_out hf
                    refine va_iast (n := 4) (f := K_L83 45) hx hb hK hP (hDD r I D K_L83 M_L83) hS q_13 0 heq_13 rfl (inB_in h_14) dX5_hour_245 (fun H locs hP _ hS => ?_)
                    have hP : va_P (dC, dI) vwCl (iwT L ad cy bS a b c d r I D K_15 M_L83) H := by rw [eK_15]; exact hqK hM wq_13 (by decide) ((cellT_45 ad cy bS a b c d r _ _).trans rfl) hP
                    have hf := Option.some.inj hf
                    obtain ⟨qK, qM⟩ := Prod.mk.inj hf
                    exact W.vret hx hb hr (fun t ht hW9 => ⟨⟨(), rfl, trivial, (by rw [← qK, ← qM]; exact tW.of hP hK hN (hX0.kept (hS.2.1 bS hbl hbA)) ht hW9)⟩, hS.F ht⟩) hS.2.2 dX5_hour_246
                  · have hf := it_f hf c_9
                    refine lv_aload_n hx hb dX5_hour_92 rfl (lv_at hl 1 rfl) ?_
                    obtain ⟨q_16, wq_16, heq_16⟩ := heT_40 (L := L) (ad := ad) (cy := cy) (bS := bS) (a := a) (b := b) (c := c) (d := d) (r := r) (I := I) (D := D) (K := K_L83) (M := M_L83) hM
                    refine va_get (D := (dC, dI)) (ci := 5) (v := .ref (ad 43)) (C := RX5) (T := TX5) (N := 11) hx hb hts iT_hour_RX5 hown hK hP q_16 heq_16 rfl 8 (by decide) (hts (.fieldLink RX5 35 "OverrunHouseLaw$Told" "temps" "[D") (List.mem_cons_of_mem _ (List.mem_append_left _ (List.mem_append_left _ (List.mem_of_getElem? (i := 3) rfl))))) (fun _ h9 => h9) rfl dX5_hour_93 ?_
                    refine lv_iload_n hx hb dX5_hour_96 rfl (lv_at hl 0 rfl) ?_
                    obtain ⟨q_17, wq_17, heq_17⟩ := heT_43 (L := L) (ad := ad) (cy := cy) (bS := bS) (a := a) (b := b) (c := c) (d := d) (r := r) (I := I) (D := D) (K := K_L83) (M := M_L83) hM
                    obtain ⟨h_18, hf⟩ := ck_out hf
                    refine va_dald (n := 3) (f := M_L83 43) hx hb hK hP q_17 6 heq_17 rfl (inB_in h_18) dX5_hour_97 ?_
                    refine lv_dstore_n (lv' := [(2, .double (M_L83 43 (x1_83).toNatClampNeg)), (1, .int x1_83), (0, .ref (ad 40))]) hx hb dX5_hour_98 rfl hl (by decide) rfl (fun ls hl => ?_)
                    refine lv_aload_n hx hb dX5_hour_99 rfl (lv_at hl 2 rfl) ?_
                    obtain ⟨q_19, wq_19, heq_19⟩ := heT_40 (L := L) (ad := ad) (cy := cy) (bS := bS) (a := a) (b := b) (c := c) (d := d) (r := r) (I := I) (D := D) (K := K_L83) (M := M_L83) hM
                    refine va_get (D := (dC, dI)) (ci := 5) (v := .ref (ad 43)) (C := RX5) (T := TX5) (N := 11) hx hb hts iT_hour_RX5 hown hK hP q_19 heq_19 rfl 8 (by decide) (hts (.fieldLink RX5 35 "OverrunHouseLaw$Told" "temps" "[D") (List.mem_cons_of_mem _ (List.mem_append_left _ (List.mem_append_left _ (List.mem_of_getElem? (i := 3) rfl))))) (fun _ h9 => h9) rfl dX5_hour_100 ?_
                    refine lv_iload_n hx hb dX5_hour_103 rfl (lv_at hl 1 rfl) ?_
                    refine lv_dup2_11 hx hb dX5_hour_104 rfl rfl ?_
                    obtain ⟨q_20, wq_20, heq_20⟩ := heT_43 (L := L) (ad := ad) (cy := cy) (bS := bS) (a := a) (b := b) (c := c) (d := d) (r := r) (I := I) (D := D) (K := K_L83) (M := M_L83) hM
                    obtain ⟨h_21, hf⟩ := ck_out hf
                    refine va_dald (n := 3) (f := M_L83 43) hx hb hK hP q_20 6 heq_20 rfl (inB_in h_21) dX5_hour_105 ?_
                    refine lv_aload_n hx hb dX5_hour_106 rfl (lv_at hl 2 rfl) ?_
                    obtain ⟨q_22, wq_22, heq_22⟩ := heT_40 (L := L) (ad := ad) (cy := cy) (bS := bS) (a := a) (b := b) (c := c) (d := d) (r := r) (I := I) (D := D) (K := K_L83) (M := M_L83) hM
                    refine va_get (D := (dC, dI)) (ci := 5) (v := .ref (ad 46)) (C := RX5) (T := TX5) (N := 11) hx hb hts iT_hour_RX5 hown hK hP q_22 heq_22 rfl 7 (by decide) (hts (.fieldLink RX5 32 "OverrunHouseLaw$Told" "sets" "[I") (List.mem_cons_of_mem _ (List.mem_append_left _ (List.mem_append_left _ (List.mem_of_getElem? (i := 2) rfl))))) (fun _ h9 => h9) rfl dX5_hour_107 ?_
                    refine lv_iload_n hx hb dX5_hour_110 rfl (lv_at hl 1 rfl) ?_
                    obtain ⟨q_23, wq_23, heq_23⟩ := heT_46 (L := L) (ad := ad) (cy := cy) (bS := bS) (a := a) (b := b) (c := c) (d := d) (r := r) (I := I) (D := D) (K := K_L83) (M := M_L83) hM
                    obtain ⟨h_24, hf⟩ := ck_out hf
                    refine va_iald (n := d) (f := K_L83 46) hx hb hK hP q_23 0 heq_23 rfl (inB_in h_24) dX5_hour_111 ?_
                    refine lv_i2d hx hb dX5_hour_112 ?_
                    refine lv_dload_n hx hb dX5_hour_113 rfl (lv_at hl 0 rfl) ?_
                    obtain ⟨h_25, hf⟩ := ck_out hf
                    refine lv_dsub hx hb dX5_hour_114 (okD_n h_25) ?_
                    refine lv_ldc2d (v := 4598175219545276416) hx hb hown (hts (.constantDouble RX5 129 (4598175219545276416)) (List.mem_cons_of_mem _ (List.mem_append_left _ (List.mem_append_left _ (List.mem_of_getElem? (i := 4) rfl))))) dX5_hour_115 ?_
                    obtain ⟨h_26, hf⟩ := ck_out hf
                    refine lv_dmul hx hb dX5_hour_118 (okD_n h_26) ?_
                    obtain ⟨h_27, hf⟩ := ck_out hf
                    refine lv_dadd hx hb dX5_hour_119 (okD_n h_27) ?_
                    obtain ⟨q_28, wq_28, heq_28⟩ := heT_43 (L := L) (ad := ad) (cy := cy) (bS := bS) (a := a) (b := b) (c := c) (d := d) (r := r) (I := I) (D := D) (K := K_L83) (M := M_L83) hM
                    obtain ⟨h_29, hf⟩ := ck_out hf
                    obtain ⟨M_30, eM_30, hf⟩ := nm_out hf
                    refine va_dast (n := 3) (f := M_L83 43) hx hb hK hP (hDD r I D K_L83 M_L83) hS q_28 6 heq_28 rfl (inB_in h_29) dX5_hour_120 (fun H locs hP _ hS => ?_)
                    have hP : va_P (dC, dI) vwCl (iwT L ad cy bS a b c d r I D K_L83 M_30) H := by rw [eM_30]; exact hqM hM wq_28 (by decide) ((cellT_43 ad cy bS a b c d r _ _).trans rfl) hP
                    refine lv_iconst (v := 0) hx hb dX5_hour_121 (by decide) ?_
                    refine lv_istore (lv' := [(4, .int 0), (2, .double (M_L83 43 (x1_83).toNatClampNeg)), (1, .int x1_83), (0, .ref (ad 40))]) hx hb dX5_hour_122 hl (by decide) rfl (fun ls hl => ?_)
                    have L124 : ∀ (n124 : Nat) (x4_124 : Int32) (K_L124 : Nat → Nat → Int32) (M_L124 : Nat → Nat → UInt64), f_T_hour_L124 (f_T_hour_L83 c d n83) c x1_83 n124 x4_124 K_L124 M_L124 = some (K9, M9) → ∀ (H : Heap) (locs : List Loc) (ls : Array Slot), va_P (dC, dI) vwCl (iwT L ad cy bS a b c d r I D K_L124 M_L124) H → va_S A s.heap H locs → lv_has ls 8 [(4, .int x4_124), (2, .double (M_L83 43 (x1_83).toNatClampNeg)), (1, .int x1_83), (0, .ref (ad 40))] → W p l e (headSpec wsX5_hour ({ frames := 1, cells := 0, slots := 0, locals := 90 })).room s m ([.ref (ad 40)] : List Value).toArray below meth cX H locs 0 0 (MQ below (va_Qv (fun (_ : Unit) => True) (fun _ t => tW dC dI L ad cy bS a b c d r LS xs I D K9 M9 t) A) ([.ref (ad 40)] : List Value).toArray s 0 0 A) (F0 m 124 ls []) := by
                      intro n124
                      induction n124 with
                      | zero => intro x4_124 K_L124 M_L124 hf; exact nomatch hf
                      | succ n124 ih124 =>
                        intro x4_124 K_L124 M_L124 hf H locs ls hP hS hl
                        unfold f_T_hour_L124 at hf
                        refine lv_iload hx hb dX5_hour_124 (lv_at hl 0 rfl) ?_
                        refine lv_aload_n hx hb dX5_hour_126 rfl (lv_at hl 3 rfl) ?_
                        obtain ⟨q_31, wq_31, heq_31⟩ := heT_40 (L := L) (ad := ad) (cy := cy) (bS := bS) (a := a) (b := b) (c := c) (d := d) (r := r) (I := I) (D := D) (K := K_L124) (M := M_L124) hM
                        refine va_get (D := (dC, dI)) (ci := 5) (v := .ref (ad 49)) (C := RX5) (T := TX5) (N := 11) hx hb hts iT_hour_RX5 hown hK hP q_31 heq_31 rfl 5 (by decide) (hts (.fieldLink RX5 25 "OverrunHouseLaw$Told" "batches" "[[I") (List.mem_cons_of_mem _ (List.mem_append_left _ (List.mem_append_left _ (List.mem_of_getElem? (i := 1) rfl))))) (fun _ h9 => h9) rfl dX5_hour_127 ?_
                        obtain ⟨q_32, wq_32, heq_32⟩ := heT_49 (L := L) (ad := ad) (cy := cy) (bS := bS) (a := a) (b := b) (c := c) (d := d) (r := r) (I := I) (D := D) (K := K_L124) (M := M_L124) hM
                        refine va_alen (v := nI c) hx hb hK hP q_32 5 heq_32 rfl rfl dX5_hour_130 ?_
                        refine lv_icmp_ge (tgt := 230) hx hb dX5_hour_131 (by decide) (fun c_33 => ?_) (fun c_33 => ?_)
                        · have hf := it_t hf c_33
                          refine lv_iinc (v := (x1_83 + 1)) (lv' := [(1, .int (x1_83 + 1)), (4, .int x4_124), (2, .double (M_L83 43 (x1_83).toNatClampNeg)), (0, .ref (ad 40))]) hx hb dX5_hour_230 hl (k := 2) rfl rfl (by decide) rfl (fun ls hl => ?_)
                          refine lv_goto (tgt := 83) hx hb dX5_hour_233 (by decide) ?_
                          exact ih83 (x1_83 + 1) K_L124 M_L124 hf _ _ _ hP hS (lv_sub hl [0, 3] rfl)
                        · have hf := it_f hf c_33
                          exact nomatch hf
                    exact L124 200 0 K_L83 M_30 hf _ _ _ hP hS (lv_sub hl [0, 1, 2, 3] rfl)
              exact L83 200 0 K_L45 M hf _ _ _ hP hS (lv_sub hl [0, 3] rfl)
            · have hf := it_f hf c_6
              refine lv_aload_n hx hb dX5_hour_50 rfl (lv_at hl 2 rfl) ?_
              refine lv_iload_n hx hb dX5_hour_51 rfl (lv_at hl 0 rfl) ?_
              obtain ⟨q_34, wq_34, heq_34⟩ := heT_49 (L := L) (ad := ad) (cy := cy) (bS := bS) (a := a) (b := b) (c := c) (d := d) (r := r) (I := I) (D := D) (K := K_L45) (M := M) hM
              obtain ⟨h_35, hf⟩ := ck_out hf
              refine ra_lda (bs := 70) (n := c) hx hb hK hP q_34 heq_34 (inB_in h_35) dX5_hour_52 ?_
              refine lv_astore (lv' := [(4, .ref (ad (70 + (x3_45).toNatClampNeg))), (3, .int x3_45), (2, .int (nI c)), (1, .ref (ad 49)), (0, .ref (ad 40))]) hx hb dX5_hour_53 hl (by decide) rfl (fun ls hl => ?_)
              refine lv_aload hx hb dX5_hour_55 (lv_at hl 0 rfl) ?_
              refine lv_iconst (v := 3) hx hb dX5_hour_57 (by decide) ?_
              obtain ⟨q_36, wq_36, heq_36⟩ := heT_Bat (L := L) (ad := ad) (cy := cy) (bS := bS) (a := a) (b := b) (c := c) (d := d) (r := r) (I := I) (D := D) (K := K_L45) (M := M) hM (inB_lt h_35)
              obtain ⟨h_37, hf⟩ := ck_out hf
              refine va_iald (n := 4) (f := K_L45 (70 + (x3_45).toNatClampNeg)) hx hb hK hP q_36 0 heq_36 rfl (inB_in h_37) dX5_hour_58 ?_
              refine lv_if_ge (tgt := 75) hx hb dX5_hour_59 (by decide) (fun c_38 => ?_) (fun c_38 => ?_)
              · have hf := it_t hf c_38
                refine lv_iinc (v := (x3_45 + 1)) (lv' := [(3, .int (x3_45 + 1)), (4, .ref (ad (70 + (x3_45).toNatClampNeg))), (2, .int (nI c)), (1, .ref (ad 49)), (0, .ref (ad 40))]) hx hb dX5_hour_75 hl (k := 1) rfl rfl (by decide) rfl (fun ls hl => ?_)
                refine lv_goto (tgt := 45) hx hb dX5_hour_78 (by decide) ?_
                exact ih45 (x3_45 + 1) K_L45 hf _ _ _ hP hS (lv_sub hl [0, 2, 3, 4] rfl)
              · have hf := it_f hf c_38
                refine lv_aload hx hb dX5_hour_62 (lv_at hl 0 rfl) ?_
                refine lv_iconst (v := 2) hx hb dX5_hour_64 (by decide) ?_
                obtain ⟨q_39, wq_39, heq_39⟩ := heT_Bat (L := L) (ad := ad) (cy := cy) (bS := bS) (a := a) (b := b) (c := c) (d := d) (r := r) (I := I) (D := D) (K := K_L45) (M := M) hM (inB_lt h_35)
                obtain ⟨h_40, hf⟩ := ck_out hf
                refine va_iald (n := 4) (f := K_L45 (70 + (x3_45).toNatClampNeg)) hx hb hK hP q_39 0 heq_39 rfl (inB_in h_40) dX5_hour_65 ?_
                refine lv_if_ne (tgt := 75) hx hb dX5_hour_66 (by decide) (fun c_41 => ?_) (fun c_41 => ?_)
                · have hf := it_f hf c_41
                  refine lv_iinc (v := (x3_45 + 1)) (lv' := [(3, .int (x3_45 + 1)), (4, .ref (ad (70 + (x3_45).toNatClampNeg))), (2, .int (nI c)), (1, .ref (ad 49)), (0, .ref (ad 40))]) hx hb dX5_hour_75 hl (k := 1) rfl rfl (by decide) rfl (fun ls hl => ?_)
                  refine lv_goto (tgt := 45) hx hb dX5_hour_78 (by decide) ?_
                  exact ih45 (x3_45 + 1) K_L45 hf _ _ _ hP hS (lv_sub hl [0, 2, 3, 4] rfl)
                · have hf := it_t hf c_41
                  refine lv_aload hx hb dX5_hour_69 (lv_at hl 0 rfl) ?_
                  refine lv_iconst (v := 3) hx hb dX5_hour_71 (by decide) ?_
                  refine lv_bipush (v := 11) hx hb dX5_hour_72 (by decide) ?_
                  obtain ⟨q_42, wq_42, heq_42⟩ := heT_Bat (L := L) (ad := ad) (cy := cy) (bS := bS) (a := a) (b := b) (c := c) (d := d) (r := r) (I := I) (D := D) (K := K_L45) (M := M) hM (inB_lt h_35)
                  obtain ⟨h_43, hf⟩ := ck_out hf
                  obtain ⟨K_44, eK_44, hf⟩ := nm_out hf
                  refine va_iast (n := 4) (f := K_L45 (70 + (x3_45).toNatClampNeg)) hx hb hK hP (hDD r I D K_L45 M) hS q_42 0 heq_42 rfl (inB_in h_43) dX5_hour_74 (fun H locs hP _ hS => ?_)
                  have hP : va_P (dC, dI) vwCl (iwT L ad cy bS a b c d r I D K_44 M) H := by rw [eK_44]; exact hqK hM wq_42 (by omega) ((cellT_Bat ad cy bS a b c d r (by have := hM.2.2; have := (inB_lt h_35); omega) _ _).trans rfl) hP
                  refine lv_iinc (v := (x3_45 + 1)) (lv' := [(3, .int (x3_45 + 1)), (4, .ref (ad (70 + (x3_45).toNatClampNeg))), (2, .int (nI c)), (1, .ref (ad 49)), (0, .ref (ad 40))]) hx hb dX5_hour_75 hl (k := 1) rfl rfl (by decide) rfl (fun ls hl => ?_)
                  refine lv_goto (tgt := 45) hx hb dX5_hour_78 (by decide) ?_
                  exact ih45 (x3_45 + 1) K_44 hf _ _ _ hP hS (lv_sub hl [0, 2, 3, 4] rfl)
        exact L45 200 0 K_L10 hf _ _ _ hP hS (lv_sub hl [0, 1, 2, 3] rfl)
      · have hf := it_f hf c_3
        refine lv_aload_n hx hb dX5_hour_15 rfl (lv_at hl 2 rfl) ?_
        refine lv_iload_n hx hb dX5_hour_16 rfl (lv_at hl 0 rfl) ?_
        obtain ⟨q_45, wq_45, heq_45⟩ := heT_48 (L := L) (ad := ad) (cy := cy) (bS := bS) (a := a) (b := b) (c := c) (d := d) (r := r) (I := I) (D := D) (K := K_L10) (M := M) hM
        obtain ⟨h_46, hf⟩ := ck_out hf
        refine ra_lda (bs := 60) (n := b) hx hb hK hP q_45 heq_45 (inB_in h_46) dX5_hour_17 ?_
        refine lv_astore (lv' := [(4, .ref (ad (60 + (x3_10).toNatClampNeg))), (3, .int x3_10), (2, .int (nI b)), (1, .ref (ad 48)), (0, .ref (ad 40))]) hx hb dX5_hour_18 hl (by decide) rfl (fun ls hl => ?_)
        refine lv_aload hx hb dX5_hour_20 (lv_at hl 0 rfl) ?_
        refine lv_bipush (v := 8) hx hb dX5_hour_22 (by decide) ?_
        refine lv_dup2_11 hx hb dX5_hour_24 rfl rfl ?_
        obtain ⟨q_47, wq_47, heq_47⟩ := heT_Mixr (L := L) (ad := ad) (cy := cy) (bS := bS) (a := a) (b := b) (c := c) (d := d) (r := r) (I := I) (D := D) (K := K_L10) (M := M) hM (inB_lt h_46)
        obtain ⟨h_48, hf⟩ := ck_out hf
        refine va_iald (n := 10) (f := K_L10 (60 + (x3_10).toNatClampNeg)) hx hb hK hP q_47 0 heq_47 rfl (inB_in h_48) dX5_hour_25 ?_
        refine lv_iconst (v := 1) hx hb dX5_hour_26 (by decide) ?_
        refine lv_iadd hx hb dX5_hour_27 ?_
        obtain ⟨q_49, wq_49, heq_49⟩ := heT_Mixr (L := L) (ad := ad) (cy := cy) (bS := bS) (a := a) (b := b) (c := c) (d := d) (r := r) (I := I) (D := D) (K := K_L10) (M := M) hM (inB_lt h_46)
        obtain ⟨h_50, hf⟩ := ck_out hf
        obtain ⟨K_51, eK_51, hf⟩ := nm_out hf
        refine va_iast (n := 10) (f := K_L10 (60 + (x3_10).toNatClampNeg)) hx hb hK hP (hDD r I D K_L10 M) hS q_49 0 heq_49 rfl (inB_in h_50) dX5_hour_28 (fun H locs hP _ hS => ?_)
        have hP : va_P (dC, dI) vwCl (iwT L ad cy bS a b c d r I D K_51 M) H := by rw [eK_51]; exact hqK hM wq_49 (by omega) ((cellT_Mixr ad cy bS a b c d r (by have := hM.2.2; have := (inB_lt h_46); omega) _ _).trans rfl) hP
        refine lv_iinc (v := (x3_10 + 1)) (lv' := [(3, .int (x3_10 + 1)), (4, .ref (ad (60 + (x3_10).toNatClampNeg))), (2, .int (nI b)), (1, .ref (ad 48)), (0, .ref (ad 40))]) hx hb dX5_hour_29 hl (k := 1) rfl rfl (by decide) rfl (fun ls hl => ?_)
        refine lv_goto (tgt := 10) hx hb dX5_hour_32 (by decide) ?_
        exact ih10 (x3_10 + 1) K_51 hf _ _ _ hP hS (lv_sub hl [0, 2, 3, 4] rfl)
  exact L10 200 0 K hf _ _ _ hP hS (lv_sub hl [0, 1, 2, 3] rfl)

def f_T_pass_L2 (LS : Nat) (xs : Nat → Int32) (a : Nat) (b : Nat) (c : Nat) (d : Nat) (I : Nat → Nat → Int32) (D : Nat → Nat → UInt64) (p1 : Int32) : Nat → Int32 → (Nat → Nat → Int32) → (Nat → Nat → UInt64) → Option (Int32 × (Nat → Nat → Int32) × (Nat → Nat → UInt64) × (Nat → Nat → Int32) × (Nat → Nat → UInt64))
  | 0, _, _, _ => none
  | n2 + 1, x2_2, K_L2, M_L2 => (if p1 ≤ x2_2 then bd (eO (f_X4_pass I D p1)) (fun (r_3, I_5, D_6) => bd (f_T_in LS xs a b c d I_5 D_6 K_L2 M_L2 11) (fun r_7 => (if r_3 = r_7 then some (1, I_5, D_6, K_L2, M_L2) else some (0, I_5, D_6, K_L2, M_L2)))) else bd (f_T_hour LS xs a b c d I D K_L2 M_L2 ) (fun (K_13, M_14) => f_T_pass_L2 LS xs a b c d I D p1 n2 (x2_2 + 1) K_13 M_14))
def f_T_pass (LS : Nat) (xs : Nat → Int32) (a b c d : Nat) (I : Nat → Nat → Int32) (D : Nat → Nat → UInt64) (K : Nat → Nat → Int32) (M : Nat → Nat → UInt64) (p1 : Int32) : Option (Int32 × (Nat → Nat → Int32) × (Nat → Nat → UInt64) × (Nat → Nat → Int32) × (Nat → Nat → UInt64)) :=
  f_T_pass_L2 LS xs a b c d I D p1 200 0 K M
theorem iT_pass_RX5 : ∀ w ∈ u_ws RX5 TX5 11, w ∈ wsX5_pass := fun w h => List.mem_cons_of_mem _ (List.mem_append_left _ (List.mem_append_left _ (List.mem_append_left _ (List.mem_append_left _ (List.mem_append_left _ (List.mem_append_right _ (h)))))))
set_option maxHeartbeats 4000000 in
set_option maxRecDepth 100000 in
theorem mt_T_pass (l : Launch) (dC : Nat → ClassId) (dI : Nat → Nat → Nat) (L : List Nat) (a b c d bS : Nat) (ad : Nat → Nat) (cy : Nat → ClassId) (hM : tOK L a b c d bS ad) (r LS : Nat) (xs : Nat → Int32) (sz : Nat) (I : Nat → Nat → Int32) (D : Nat → Nat → UInt64) (K : Nat → Nat → Int32) (M : Nat → Nat → UInt64) (p1 : Int32) (rr : Int32) (I9 : Nat → Nat → Int32) (D9 : Nat → Nat → UInt64) (K9 : Nat → Nat → Int32) (M9 : Nat → Nat → UInt64) (hf : f_T_pass LS xs a b c d I D K M p1 = some (rr, I9, D9, K9, M9)) : Met l yX5_pass wsX5_pass ({ frames := 5, cells := 0, slots := 0, locals := 119 }) (va_Pc [.ref (ad 40), .int p1] (fun U => U.heap.size = sz ∧ tW dC dI L ad cy bS a b c d r LS xs I D K M U)) (va_Qi (fun r (_ : Unit) => rr = r) (fun _ t => tW dC dI L ad cy bS a b c d r LS xs I9 D9 K9 M9 t) (AT L ad sz)) 0 0 (AT L ad sz) := by
  refine Met.ofW (cc := cX5_pass) (maxL := 3) (ret := (some .boolean)) (by decide) rfl ?_
  intro p e s m args below meth cX s₁ B hml hv
  obtain ⟨rfl, hsz, hP, hK, hN, hX0⟩ := hv
  have hx := B.exec
  have hb := B.bytes
  have hr := B.returns
  have hts := atoms_spec (ws := wsX5_pass) B.pre
  have hown : s.vm.findClass RX5 = some m.cls := findClass_of_methodNamed B.named
  have hlocks := B.notSynchronized
  subst hsz
  have hbl : bS < s.heap.size := by obtain ⟨scr, h, -⟩ := hX0; exact (Array.getElem?_eq_some_iff.mp h).1
  generalize hAe : AT L ad s.heap.size = A
  have hA : ∀ q : Nat, s.heap.size ≤ q → A q := fun q h => by rw [← hAe]; exact Or.inr h
  have hAL : ∀ k, k ∈ L → A (ad k) := fun k h => by rw [← hAe]; exact Or.inl ⟨k, h, rfl⟩
  have hDD : ∀ r I D K M, va_D A (iwT L ad cy bS a b c d r I D K M) := fun r I D K M => iwT_D hM hAL I D K M
  have hbA : ¬ A bS := fun h => by rw [← hAe] at h; exact h.elim (fun ⟨k, k1, k2⟩ => hM.2.1 k k1 k2) (fun h => Nat.lt_irrefl _ (Nat.lt_of_lt_of_le hbl h))
  obtain ⟨H, hH⟩ : ∃ H : Heap, H = s.heap := ⟨_, rfl⟩
  have hS : va_S A s.heap H [] := by rw [hH]; exact va_S.rf
  have hP : va_P (dC, dI) vwCl (iwT L ad cy bS a b c d r I D K M) H := by rw [hH]; exact hP
  suffices hgo : ∀ locs, va_S A s.heap H locs → W p l e (headSpec wsX5_pass ({ frames := 5, cells := 0, slots := 0, locals := 119 })).room s m ([.ref (ad 40), .int p1] : List Value).toArray below meth cX H locs 0 0 (MQ below (va_Qi (fun r (_ : Unit) => rr = r) (fun _ t => tW dC dI L ad cy bS a b c d r LS xs I9 D9 K9 M9 t) A) ([.ref (ad 40), .int p1] : List Value).toArray s 0 0 A) (entryFrame m ([.ref (ad 40), .int p1] : List Value).toArray 3) by subst hH; exact hgo [] hS
  clear hS hH
  intro locs hS
  have hl := lv_entry ([.ref (ad 40), .int p1]) (n := 3) (Nat.le_of_ble_eq_true rfl)
  rw [lg_entry_eq]
  generalize (lg_sl ([.ref (ad 40), .int p1]) ++ List.replicate (3 - (lg_sl ([.ref (ad 40), .int p1])).length) Slot.unset).toArray = ls at hl ⊢
  have hl : lv_has ls 3 [(0, .ref (ad 40)), (1, .int p1)] := hl
  unfold f_T_pass at hf
  refine lv_iconst (v := 0) hx hb dX5_pass_0 (by decide) ?_
  refine lv_istore_n (lv' := [(2, .int 0), (0, .ref (ad 40)), (1, .int p1)]) hx hb dX5_pass_1 rfl hl (by decide) rfl (fun ls hl => ?_)
  have L2 : ∀ (n2 : Nat) (x2_2 : Int32) (K_L2 : Nat → Nat → Int32) (M_L2 : Nat → Nat → UInt64), f_T_pass_L2 LS xs a b c d I D p1 n2 x2_2 K_L2 M_L2 = some (rr, I9, D9, K9, M9) → ∀ (H : Heap) (locs : List Loc) (ls : Array Slot), va_P (dC, dI) vwCl (iwT L ad cy bS a b c d r I D K_L2 M_L2) H → va_S A s.heap H locs → lv_has ls 3 [(2, .int x2_2), (0, .ref (ad 40)), (1, .int p1)] → W p l e (headSpec wsX5_pass ({ frames := 5, cells := 0, slots := 0, locals := 119 })).room s m ([.ref (ad 40), .int p1] : List Value).toArray below meth cX H locs 0 0 (MQ below (va_Qi (fun r (_ : Unit) => rr = r) (fun _ t => tW dC dI L ad cy bS a b c d r LS xs I9 D9 K9 M9 t) A) ([.ref (ad 40), .int p1] : List Value).toArray s 0 0 A) (F0 m 2 ls []) := by
    intro n2
    induction n2 with
    | zero => intro x2_2 K_L2 M_L2 hf; exact nomatch hf
    | succ n2 ih2 =>
      intro x2_2 K_L2 M_L2 hf H locs ls hP hS hl
      unfold f_T_pass_L2 at hf
      refine lv_iload_n hx hb dX5_pass_2 rfl (lv_at hl 0 rfl) ?_
      refine lv_iload_n hx hb dX5_pass_3 rfl (lv_at hl 2 rfl) ?_
      refine lv_icmp_ge (tgt := 17) hx hb dX5_pass_4 (by decide) (fun c_1 => ?_) (fun c_1 => ?_)
      · have hf := it_t hf c_1
        refine lv_aload_n hx hb dX5_pass_17 rfl (lv_at hl 1 rfl) ?_
        obtain ⟨q_2, wq_2, heq_2⟩ := heT_40 (L := L) (ad := ad) (cy := cy) (bS := bS) (a := a) (b := b) (c := c) (d := d) (r := r) (I := I) (D := D) (K := K_L2) (M := M_L2) hM
        refine va_get (D := (dC, dI)) (ci := 5) (v := .ref (ad 0)) (C := RX5) (T := TX5) (N := 11) hx hb hts iT_pass_RX5 hown hK hP q_2 heq_2 rfl 0 (by decide) (hts (.fieldLink RX5 10 "OverrunHouseLaw$Told" "m" "LOverrunHouse;") (List.mem_cons_of_mem _ (List.mem_append_left _ (List.mem_append_left _ (List.mem_append_left _ (List.mem_append_left _ (List.mem_append_left _ (List.mem_append_left _ (List.mem_append_left _ (List.mem_of_getElem? (i := 0) rfl)))))))))) (fun _ h9 => h9) rfl dX5_pass_18 ?_
        refine lv_iload_n hx hb dX5_pass_21 rfl (lv_at hl 2 rfl) ?_
        obtain ⟨⟨r_3, I_5, D_6⟩, g_4, hf⟩ := bd_out hf
        have hPH := iwT_H hM hP
        have hAW : ∀ q, AW ad H.size q → A q := fun q h => h.elim (fun ⟨k, k1, k2⟩ => k2 ▸ hAL k (hM.1.2.1 _ (tL_H k1))) (fun h => hA q (Nat.le_trans hS.1 h))
        refine va_calli (va_runV (As := [.int p1]) (rest := []) ⟨hx, hb, hml, hown, hts⟩ (mt_X4_pass l dC dI ad cy hM.J H.size I D p1 r_3 I_5 D_6 (eO_out g_4)) (cwV 1 hts gX5_pass_X4_pass rfl rfl rfl (by decide +kernel) ⟨(Nat.le_of_ble_eq_true rfl), (Nat.le_of_ble_eq_true rfl)⟩) ⟨(hW.pre [.ref (ad 0), .int p1] hPH hK hN.1).1, hW.recv (C := RX4) (T := TX4) (N := 14) hPH hK heH_0 rfl, (hW.pre [.ref (ad 0), .int p1] hPH hK hN.1).2⟩ rfl rfl hl.1 rfl (lv_room (Nat.le_of_ble_eq_true rfl)) dX5_pass_22 ⟨(Nat.le_of_ble_eq_true rfl), (Nat.le_of_ble_eq_true rfl)⟩) hS (fun q _ h => hAW q h) (fun q h => hAW q h) (fun r9 u t H1 locs ht hvm hw hB hz1 hk1 hS9 => ?_)
        subst hw
        have hP : va_P (dC, dI) vwCl (iwT L ad cy bS a b c d r I_5 D_6 K_L2 M_L2) H1 := iwT_join hM hP (by rw [← ht]; exact hB.1) hk1
        have hS := hS9
        clear hB hz1 hk1 hvm ht hS9
        generalize H1 = H at hP hS ⊢
        refine lv_aload_n hx hb dX5_pass_25 rfl (lv_at hl 1 rfl) ?_
        refine lv_bipush (v := 11) hx hb dX5_pass_26 (by decide) ?_
        obtain ⟨r_7, g_8, hf⟩ := bd_out hf
        obtain ⟨q_9, wq_9, heq_9⟩ := heT_40 (L := L) (ad := ad) (cy := cy) (bS := bS) (a := a) (b := b) (c := c) (d := d) (r := r) (I := I_5) (D := D_6) (K := K_L2) (M := M_L2) hM
        refine va_calli (va_runV (As := [.int 11]) (rest := [.int r_3]) ⟨hx, hb, hml, hown, hts⟩ (mt_T_in l dC dI L a b c d bS ad cy hM r LS xs H.size I_5 D_6 K_L2 M_L2 11 r_7 g_8) (cwV 1 hts gX5_pass_X5_in rfl rfl rfl (by decide +kernel) ⟨(Nat.le_of_ble_eq_true rfl), (Nat.le_of_ble_eq_true rfl)⟩) ⟨(tW.pre [.ref (ad 40), .int 11] hP hK hN (hX0.kept (hS.2.1 bS hbl hbA))).1, tW.recv (C := RX5) (T := TX5) (N := 11) hP hK heq_9 rfl, (tW.pre [.ref (ad 40), .int 11] hP hK hN (hX0.kept (hS.2.1 bS hbl hbA))).2⟩ rfl rfl hl.1 rfl (lv_room (Nat.le_of_ble_eq_true rfl)) dX5_pass_28 ⟨(Nat.le_of_ble_eq_true rfl), (Nat.le_of_ble_eq_true rfl)⟩) hS (fun q _ h => hA q (Nat.le_trans hS.1 h)) (fun q h => hA q (Nat.le_trans hS.1 h)) (fun r9 u t H1 locs ht hvm hw hB hz1 hk1 hS9 => ?_)
        subst hw
        have hP := va_Pnew hP hk1
        have hS := hS9
        clear hB hz1 hk1 hvm ht hS9
        generalize H1 = H at hP hS ⊢
        refine lv_icmp_ne (tgt := 38) hx hb dX5_pass_31 (by decide) (fun c_10 => ?_) (fun c_10 => ?_)
        · have hf := it_f hf c_10
          refine lv_iconst (v := 0) hx hb dX5_pass_38 (by decide) ?_
          have hf := Option.some.inj hf
          obtain ⟨q1, hf⟩ := Prod.mk.inj hf
          obtain ⟨qI, hf⟩ := Prod.mk.inj hf
          obtain ⟨qD, hf⟩ := Prod.mk.inj hf
          obtain ⟨qK, qM⟩ := Prod.mk.inj hf
          exact W.zret (ty := .boolean) (v := 0) hx hb hr rfl (fun t ht hW9 => ⟨⟨0, (), rfl, q1.symm, (by rw [← qI, ← qD, ← qK, ← qM]; exact tW.of hP hK hN (hX0.kept (hS.2.1 bS hbl hbA)) ht hW9)⟩, hS.F ht⟩) hS.2.2 dX5_pass_39
        · have hf := it_t hf c_10
          refine lv_iconst (v := 1) hx hb dX5_pass_34 (by decide) ?_
          refine lv_goto (tgt := 39) hx hb dX5_pass_35 (by decide) ?_
          have hf := Option.some.inj hf
          obtain ⟨q1, hf⟩ := Prod.mk.inj hf
          obtain ⟨qI, hf⟩ := Prod.mk.inj hf
          obtain ⟨qD, hf⟩ := Prod.mk.inj hf
          obtain ⟨qK, qM⟩ := Prod.mk.inj hf
          exact W.zret (ty := .boolean) (v := 1) hx hb hr rfl (fun t ht hW9 => ⟨⟨1, (), rfl, q1.symm, (by rw [← qI, ← qD, ← qK, ← qM]; exact tW.of hP hK hN (hX0.kept (hS.2.1 bS hbl hbA)) ht hW9)⟩, hS.F ht⟩) hS.2.2 dX5_pass_39
      · have hf := it_f hf c_1
        refine lv_aload_n hx hb dX5_pass_7 rfl (lv_at hl 1 rfl) ?_
        obtain ⟨⟨K_13, M_14⟩, g_12, hf⟩ := bd_out hf
        have hAW : ∀ q, AT L ad H.size q → A q := fun q h => h.elim (fun ⟨k, k1, k2⟩ => k2 ▸ hAL k k1) (fun h => hA q (Nat.le_trans hS.1 h))
        obtain ⟨q_15, wq_15, heq_15⟩ := heT_40 (L := L) (ad := ad) (cy := cy) (bS := bS) (a := a) (b := b) (c := c) (d := d) (r := r) (I := I) (D := D) (K := K_L2) (M := M_L2) hM
        refine va_callv (va_runV (As := []) (rest := []) ⟨hx, hb, hml, hown, hts⟩ (mt_T_hour l dC dI L a b c d bS ad cy hM r LS xs H.size I D K_L2 M_L2  K_13 M_14 g_12) (cwV 0 hts gX5_pass_X5_hour rfl rfl rfl (by decide +kernel) ⟨(Nat.le_of_ble_eq_true rfl), (Nat.le_of_ble_eq_true rfl)⟩) ⟨(tW.pre [.ref (ad 40)] hP hK hN (hX0.kept (hS.2.1 bS hbl hbA))).1, tW.recv (C := RX5) (T := TX5) (N := 11) hP hK heq_15 rfl, (tW.pre [.ref (ad 40)] hP hK hN (hX0.kept (hS.2.1 bS hbl hbA))).2⟩ rfl rfl hl.1 rfl (lv_room (Nat.le_of_ble_eq_true rfl)) dX5_pass_8 ⟨(Nat.le_of_ble_eq_true rfl), (Nat.le_of_ble_eq_true rfl)⟩) hS (fun q _ h => hAW q h) (fun q h => hAW q h) (fun u t H1 locs ht hvm hw hB hz1 hk1 hS9 => ?_)
        have hP : va_P (dC, dI) vwCl (iwT L ad cy bS a b c d r I D K_13 M_14) H1 := by rw [← ht]; exact hB.1
        have hS := hS9
        clear hB hz1 hk1 hvm ht hS9
        generalize H1 = H at hP hS ⊢
        refine lv_iinc (v := (x2_2 + 1)) (lv' := [(2, .int (x2_2 + 1)), (0, .ref (ad 40)), (1, .int p1)]) hx hb dX5_pass_11 hl (k := 0) rfl rfl (by decide) rfl (fun ls hl => ?_)
        refine lv_goto (tgt := 2) hx hb dX5_pass_14 (by decide) ?_
        exact ih2 (x2_2 + 1) K_13 M_14 hf _ _ _ hP hS (lv_sub hl [0, 1, 2] rfl)
  exact L2 200 0 K M hf _ _ _ hP hS (lv_sub hl [0, 1, 2] rfl)

def f_T_wash (LS : Nat) (xs : Nat → Int32) (a b c d : Nat) (I : Nat → Nat → Int32) (D : Nat → Nat → UInt64) (K : Nat → Nat → Int32) (M : Nat → Nat → UInt64) : Option (Int32 × (Nat → Nat → Int32) × (Nat → Nat → UInt64) × (Nat → Nat → Int32)) :=
  bd (f_T_draw LS xs a b c d I D K M 2) (fun (r_1, K_3) => ck (inB r_1 2) (ck (inB r_1 2) (nm (up2 K_3 44 (r_1).toNatClampNeg 0) (fun K_11 => ck (inB 2 4) (ck (inB 2 4) (nm (up2 K_11 45 (2 : Int32).toNatClampNeg ((K_11 45 (2 : Int32).toNatClampNeg) + 1)) (fun K_17 => bd (eO (f_X4_wash I D r_1)) (fun (r_19, I_21, D_22) => (if r_19 = (K_3 44 (r_1).toNatClampNeg) then some (1, I_21, D_22, K_17) else some (0, I_21, D_22, K_17))))))))))
theorem iT_wash_RX5 : ∀ w ∈ u_ws RX5 TX5 11, w ∈ wsX5_wash := fun w h => List.mem_cons_of_mem _ (List.mem_append_left _ (List.mem_append_left _ (List.mem_append_right _ (h))))
set_option maxHeartbeats 4000000 in
set_option maxRecDepth 100000 in
theorem mt_T_wash (l : Launch) (dC : Nat → ClassId) (dI : Nat → Nat → Nat) (L : List Nat) (a b c d bS : Nat) (ad : Nat → Nat) (cy : Nat → ClassId) (hM : tOK L a b c d bS ad) (r LS : Nat) (xs : Nat → Int32) (sz : Nat) (I : Nat → Nat → Int32) (D : Nat → Nat → UInt64) (K : Nat → Nat → Int32) (M : Nat → Nat → UInt64) (rr : Int32) (I9 : Nat → Nat → Int32) (D9 : Nat → Nat → UInt64) (K9 : Nat → Nat → Int32) (hf : f_T_wash LS xs a b c d I D K M = some (rr, I9, D9, K9)) : Met l yX5_wash wsX5_wash ({ frames := 2, cells := 0, slots := 0, locals := 43 }) (va_Pc [.ref (ad 40)] (fun U => U.heap.size = sz ∧ tW dC dI L ad cy bS a b c d r LS xs I D K M U)) (va_Qi (fun r (_ : Unit) => rr = r) (fun _ t => tW dC dI L ad cy bS a b c d r LS xs I9 D9 K9 M t) (AT L ad sz)) 0 0 (AT L ad sz) := by
  refine Met.ofW (cc := cX5_wash) (maxL := 3) (ret := (some .boolean)) (by decide) rfl ?_
  intro p e s m args below meth cX s₁ B hml hv
  obtain ⟨rfl, hsz, hP, hK, hN, hX0⟩ := hv
  have hx := B.exec
  have hb := B.bytes
  have hr := B.returns
  have hts := atoms_spec (ws := wsX5_wash) B.pre
  have hown : s.vm.findClass RX5 = some m.cls := findClass_of_methodNamed B.named
  have hlocks := B.notSynchronized
  subst hsz
  have hbl : bS < s.heap.size := by obtain ⟨scr, h, -⟩ := hX0; exact (Array.getElem?_eq_some_iff.mp h).1
  generalize hAe : AT L ad s.heap.size = A
  have hA : ∀ q : Nat, s.heap.size ≤ q → A q := fun q h => by rw [← hAe]; exact Or.inr h
  have hAL : ∀ k, k ∈ L → A (ad k) := fun k h => by rw [← hAe]; exact Or.inl ⟨k, h, rfl⟩
  have hDD : ∀ r I D K M, va_D A (iwT L ad cy bS a b c d r I D K M) := fun r I D K M => iwT_D hM hAL I D K M
  have hbA : ¬ A bS := fun h => by rw [← hAe] at h; exact h.elim (fun ⟨k, k1, k2⟩ => hM.2.1 k k1 k2) (fun h => Nat.lt_irrefl _ (Nat.lt_of_lt_of_le hbl h))
  obtain ⟨H, hH⟩ : ∃ H : Heap, H = s.heap := ⟨_, rfl⟩
  have hS : va_S A s.heap H [] := by rw [hH]; exact va_S.rf
  have hP : va_P (dC, dI) vwCl (iwT L ad cy bS a b c d r I D K M) H := by rw [hH]; exact hP
  suffices hgo : ∀ locs, va_S A s.heap H locs → W p l e (headSpec wsX5_wash ({ frames := 2, cells := 0, slots := 0, locals := 43 })).room s m ([.ref (ad 40)] : List Value).toArray below meth cX H locs 0 0 (MQ below (va_Qi (fun r (_ : Unit) => rr = r) (fun _ t => tW dC dI L ad cy bS a b c d r LS xs I9 D9 K9 M t) A) ([.ref (ad 40)] : List Value).toArray s 0 0 A) (entryFrame m ([.ref (ad 40)] : List Value).toArray 3) by subst hH; exact hgo [] hS
  clear hS hH
  intro locs hS
  have hl := lv_entry ([.ref (ad 40)]) (n := 3) (Nat.le_of_ble_eq_true rfl)
  rw [lg_entry_eq]
  generalize (lg_sl ([.ref (ad 40)]) ++ List.replicate (3 - (lg_sl ([.ref (ad 40)])).length) Slot.unset).toArray = ls at hl ⊢
  have hl : lv_has ls 3 [(0, .ref (ad 40))] := hl
  unfold f_T_wash at hf
  refine lv_aload_n hx hb dX5_wash_0 rfl (lv_at hl 0 rfl) ?_
  refine lv_iconst (v := 2) hx hb dX5_wash_1 (by decide) ?_
  obtain ⟨⟨r_1, K_3⟩, g_2, hf⟩ := bd_out hf
  have hAW : ∀ q, AT L ad H.size q → A q := fun q h => h.elim (fun ⟨k, k1, k2⟩ => k2 ▸ hAL k k1) (fun h => hA q (Nat.le_trans hS.1 h))
  obtain ⟨q_4, wq_4, heq_4⟩ := heT_40 (L := L) (ad := ad) (cy := cy) (bS := bS) (a := a) (b := b) (c := c) (d := d) (r := r) (I := I) (D := D) (K := K) (M := M) hM
  refine va_calli (va_runV (As := [.int 2]) (rest := []) ⟨hx, hb, hml, hown, hts⟩ (mt_T_draw l dC dI L a b c d bS ad cy hM r LS xs H.size I D K M 2 r_1 K_3 g_2) (cwV 1 hts gX5_wash_X5_draw rfl rfl rfl (by decide +kernel) ⟨(Nat.le_of_ble_eq_true rfl), (Nat.le_of_ble_eq_true rfl)⟩) ⟨(tW.pre [.ref (ad 40), .int 2] hP hK hN (hX0.kept (hS.2.1 bS hbl hbA))).1, tW.recv (C := RX5) (T := TX5) (N := 11) hP hK heq_4 rfl, (tW.pre [.ref (ad 40), .int 2] hP hK hN (hX0.kept (hS.2.1 bS hbl hbA))).2⟩ rfl rfl hl.1 rfl (lv_room (Nat.le_of_ble_eq_true rfl)) dX5_wash_2 ⟨(Nat.le_of_ble_eq_true rfl), (Nat.le_of_ble_eq_true rfl)⟩) hS (fun q _ h => hAW q h) (fun q h => hAW q h) (fun r9 u t H1 locs ht hvm hw hB hz1 hk1 hS9 => ?_)
  subst hw
  have hP : va_P (dC, dI) vwCl (iwT L ad cy bS a b c d r I D K_3 M) H1 := by rw [← ht]; exact hB.1
  have hS := hS9
  clear hB hz1 hk1 hvm ht hS9
  generalize H1 = H at hP hS ⊢
  refine lv_istore_n (lv' := [(1, .int r_1), (0, .ref (ad 40))]) hx hb dX5_wash_5 rfl hl (by decide) rfl (fun ls hl => ?_)
  refine lv_aload_n hx hb dX5_wash_6 rfl (lv_at hl 1 rfl) ?_
  obtain ⟨q_5, wq_5, heq_5⟩ := heT_40 (L := L) (ad := ad) (cy := cy) (bS := bS) (a := a) (b := b) (c := c) (d := d) (r := r) (I := I) (D := D) (K := K_3) (M := M) hM
  refine va_get (D := (dC, dI)) (ci := 5) (v := .ref (ad 44)) (C := RX5) (T := TX5) (N := 11) hx hb hts iT_wash_RX5 hown hK hP q_5 heq_5 rfl 9 (by decide) (hts (.fieldLink RX5 38 "OverrunHouseLaw$Told" "rests" "[I") (List.mem_cons_of_mem _ (List.mem_append_left _ (List.mem_append_left _ (List.mem_append_left _ (List.mem_append_left _ (List.mem_of_getElem? (i := 0) rfl))))))) (fun _ h9 => h9) rfl dX5_wash_7 ?_
  refine lv_iload_n hx hb dX5_wash_10 rfl (lv_at hl 0 rfl) ?_
  obtain ⟨q_6, wq_6, heq_6⟩ := heT_44 (L := L) (ad := ad) (cy := cy) (bS := bS) (a := a) (b := b) (c := c) (d := d) (r := r) (I := I) (D := D) (K := K_3) (M := M) hM
  obtain ⟨h_7, hf⟩ := ck_out hf
  refine va_iald (n := 2) (f := K_3 44) hx hb hK hP q_6 0 heq_6 rfl (inB_in h_7) dX5_wash_11 ?_
  refine lv_istore_n (lv' := [(2, .int (K_3 44 (r_1).toNatClampNeg)), (1, .int r_1), (0, .ref (ad 40))]) hx hb dX5_wash_12 rfl hl (by decide) rfl (fun ls hl => ?_)
  refine lv_aload_n hx hb dX5_wash_13 rfl (lv_at hl 2 rfl) ?_
  obtain ⟨q_8, wq_8, heq_8⟩ := heT_40 (L := L) (ad := ad) (cy := cy) (bS := bS) (a := a) (b := b) (c := c) (d := d) (r := r) (I := I) (D := D) (K := K_3) (M := M) hM
  refine va_get (D := (dC, dI)) (ci := 5) (v := .ref (ad 44)) (C := RX5) (T := TX5) (N := 11) hx hb hts iT_wash_RX5 hown hK hP q_8 heq_8 rfl 9 (by decide) (hts (.fieldLink RX5 38 "OverrunHouseLaw$Told" "rests" "[I") (List.mem_cons_of_mem _ (List.mem_append_left _ (List.mem_append_left _ (List.mem_append_left _ (List.mem_append_left _ (List.mem_of_getElem? (i := 0) rfl))))))) (fun _ h9 => h9) rfl dX5_wash_14 ?_
  refine lv_iload_n hx hb dX5_wash_17 rfl (lv_at hl 1 rfl) ?_
  refine lv_iconst (v := 0) hx hb dX5_wash_18 (by decide) ?_
  obtain ⟨q_9, wq_9, heq_9⟩ := heT_44 (L := L) (ad := ad) (cy := cy) (bS := bS) (a := a) (b := b) (c := c) (d := d) (r := r) (I := I) (D := D) (K := K_3) (M := M) hM
  obtain ⟨h_10, hf⟩ := ck_out hf
  obtain ⟨K_11, eK_11, hf⟩ := nm_out hf
  refine va_iast (n := 2) (f := K_3 44) hx hb hK hP (hDD r I D K_3 M) hS q_9 0 heq_9 rfl (inB_in h_10) dX5_wash_19 (fun H locs hP _ hS => ?_)
  have hP : va_P (dC, dI) vwCl (iwT L ad cy bS a b c d r I D K_11 M) H := by rw [eK_11]; exact hqK hM wq_9 (by decide) ((cellT_44 ad cy bS a b c d r _ _).trans rfl) hP
  refine lv_aload_n hx hb dX5_wash_20 rfl (lv_at hl 2 rfl) ?_
  obtain ⟨q_12, wq_12, heq_12⟩ := heT_40 (L := L) (ad := ad) (cy := cy) (bS := bS) (a := a) (b := b) (c := c) (d := d) (r := r) (I := I) (D := D) (K := K_11) (M := M) hM
  refine va_get (D := (dC, dI)) (ci := 5) (v := .ref (ad 45)) (C := RX5) (T := TX5) (N := 11) hx hb hts iT_wash_RX5 hown hK hP q_12 heq_12 rfl 10 (by decide) (hts (.fieldLink RX5 41 "OverrunHouseLaw$Told" "sums" "[I") (List.mem_cons_of_mem _ (List.mem_append_left _ (List.mem_append_left _ (List.mem_append_left _ (List.mem_append_left _ (List.mem_of_getElem? (i := 1) rfl))))))) (fun _ h9 => h9) rfl dX5_wash_21 ?_
  refine lv_iconst (v := 2) hx hb dX5_wash_24 (by decide) ?_
  refine lv_dup2_11 hx hb dX5_wash_25 rfl rfl ?_
  obtain ⟨q_13, wq_13, heq_13⟩ := heT_45 (L := L) (ad := ad) (cy := cy) (bS := bS) (a := a) (b := b) (c := c) (d := d) (r := r) (I := I) (D := D) (K := K_11) (M := M) hM
  obtain ⟨h_14, hf⟩ := ck_out hf
  refine va_iald (n := 4) (f := K_11 45) hx hb hK hP q_13 0 heq_13 rfl (inB_in h_14) dX5_wash_26 ?_
  refine lv_iconst (v := 1) hx hb dX5_wash_27 (by decide) ?_
  refine lv_iadd hx hb dX5_wash_28 ?_
  obtain ⟨q_15, wq_15, heq_15⟩ := heT_45 (L := L) (ad := ad) (cy := cy) (bS := bS) (a := a) (b := b) (c := c) (d := d) (r := r) (I := I) (D := D) (K := K_11) (M := M) hM
  obtain ⟨h_16, hf⟩ := ck_out hf
  obtain ⟨K_17, eK_17, hf⟩ := nm_out hf
  refine va_iast (n := 4) (f := K_11 45) hx hb hK hP (hDD r I D K_11 M) hS q_15 0 heq_15 rfl (inB_in h_16) dX5_wash_29 (fun H locs hP _ hS => ?_)
  have hP : va_P (dC, dI) vwCl (iwT L ad cy bS a b c d r I D K_17 M) H := by rw [eK_17]; exact hqK hM wq_15 (by decide) ((cellT_45 ad cy bS a b c d r _ _).trans rfl) hP
  refine lv_aload_n hx hb dX5_wash_30 rfl (lv_at hl 2 rfl) ?_
  obtain ⟨q_18, wq_18, heq_18⟩ := heT_40 (L := L) (ad := ad) (cy := cy) (bS := bS) (a := a) (b := b) (c := c) (d := d) (r := r) (I := I) (D := D) (K := K_17) (M := M) hM
  refine va_get (D := (dC, dI)) (ci := 5) (v := .ref (ad 0)) (C := RX5) (T := TX5) (N := 11) hx hb hts iT_wash_RX5 hown hK hP q_18 heq_18 rfl 0 (by decide) (hts (.fieldLink RX5 10 "OverrunHouseLaw$Told" "m" "LOverrunHouse;") (List.mem_cons_of_mem _ (List.mem_append_left _ (List.mem_append_left _ (List.mem_append_left _ (List.mem_append_left _ (List.mem_of_getElem? (i := 2) rfl))))))) (fun _ h9 => h9) rfl dX5_wash_31 ?_
  refine lv_iload_n hx hb dX5_wash_34 rfl (lv_at hl 1 rfl) ?_
  obtain ⟨⟨r_19, I_21, D_22⟩, g_20, hf⟩ := bd_out hf
  have hPH := iwT_H hM hP
  have hAW : ∀ q, AW ad H.size q → A q := fun q h => h.elim (fun ⟨k, k1, k2⟩ => k2 ▸ hAL k (hM.1.2.1 _ (tL_H k1))) (fun h => hA q (Nat.le_trans hS.1 h))
  refine va_calli (va_runV (As := [.int r_1]) (rest := []) ⟨hx, hb, hml, hown, hts⟩ (mt_X4_wash l dC dI ad cy hM.J H.size I D r_1 r_19 I_21 D_22 (eO_out g_20)) (cwV 1 hts gX5_wash_X4_wash rfl rfl rfl (by decide +kernel) ⟨(Nat.le_of_ble_eq_true rfl), (Nat.le_of_ble_eq_true rfl)⟩) ⟨(hW.pre [.ref (ad 0), .int r_1] hPH hK hN.1).1, hW.recv (C := RX4) (T := TX4) (N := 14) hPH hK heH_0 rfl, (hW.pre [.ref (ad 0), .int r_1] hPH hK hN.1).2⟩ rfl rfl hl.1 rfl (lv_room (Nat.le_of_ble_eq_true rfl)) dX5_wash_35 ⟨(Nat.le_of_ble_eq_true rfl), (Nat.le_of_ble_eq_true rfl)⟩) hS (fun q _ h => hAW q h) (fun q h => hAW q h) (fun r9 u t H1 locs ht hvm hw hB hz1 hk1 hS9 => ?_)
  subst hw
  have hP : va_P (dC, dI) vwCl (iwT L ad cy bS a b c d r I_21 D_22 K_17 M) H1 := iwT_join hM hP (by rw [← ht]; exact hB.1) hk1
  have hS := hS9
  clear hB hz1 hk1 hvm ht hS9
  generalize H1 = H at hP hS ⊢
  refine lv_iload_n hx hb dX5_wash_38 rfl (lv_at hl 0 rfl) ?_
  refine lv_icmp_ne (tgt := 46) hx hb dX5_wash_39 (by decide) (fun c_23 => ?_) (fun c_23 => ?_)
  · have hf := it_f hf c_23
    refine lv_iconst (v := 0) hx hb dX5_wash_46 (by decide) ?_
    have hf := Option.some.inj hf
    obtain ⟨q1, hf⟩ := Prod.mk.inj hf
    obtain ⟨qI, hf⟩ := Prod.mk.inj hf
    obtain ⟨qD, qK⟩ := Prod.mk.inj hf
    exact W.zret (ty := .boolean) (v := 0) hx hb hr rfl (fun t ht hW9 => ⟨⟨0, (), rfl, q1.symm, (by rw [← qI, ← qD, ← qK]; exact tW.of hP hK hN (hX0.kept (hS.2.1 bS hbl hbA)) ht hW9)⟩, hS.F ht⟩) hS.2.2 dX5_wash_47
  · have hf := it_t hf c_23
    refine lv_iconst (v := 1) hx hb dX5_wash_42 (by decide) ?_
    refine lv_goto (tgt := 47) hx hb dX5_wash_43 (by decide) ?_
    have hf := Option.some.inj hf
    obtain ⟨q1, hf⟩ := Prod.mk.inj hf
    obtain ⟨qI, hf⟩ := Prod.mk.inj hf
    obtain ⟨qD, qK⟩ := Prod.mk.inj hf
    exact W.zret (ty := .boolean) (v := 1) hx hb hr rfl (fun t ht hW9 => ⟨⟨1, (), rfl, q1.symm, (by rw [← qI, ← qD, ← qK]; exact tW.of hP hK hN (hX0.kept (hS.2.1 bS hbl hbA)) ht hW9)⟩, hS.F ht⟩) hS.2.2 dX5_wash_47
