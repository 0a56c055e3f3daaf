def f_X4_lay (I : Nat → Nat → Int32) (D : Nat → Nat → UInt64) (p1 : Int32) (p2 : Int32) : Option (Except String (Int32 × (Nat → Nat → Int32) × (Nat → Nat → UInt64))) :=
  bE (f_X4_checkNumber p1 (I 0 7)) (fun _ => bE (f_X4_checkNumber p2 (I 0 8)) (fun _ => ck (inB p1 12) ((if (I (18 + (p1).toNatClampNeg) 2) = 10 then some (Except.error "java/lang/IllegalStateException") else (if (I (18 + (p1).toNatClampNeg) 2) = 11 then some (Except.error "java/lang/IllegalStateException") else (if (I (18 + (p1).toNatClampNeg) 3) = 0 then some (Except.error "java/lang/IllegalStateException") else nm (up2 I (18 + (p1).toNatClampNeg) 2 p2) (fun I_9 => bd (f_X4_countAt I_9 D p2) (fun r_10 => some (Except.ok (r_10, I_9, D))))))))))
theorem iX4_lay_RX0 : ∀ w ∈ u_ws RX0 TX0 5, w ∈ wsX4_lay := fun w h => List.mem_cons_of_mem _ (List.mem_append_left _ (List.mem_append_left _ (List.mem_append_right _ (h))))
theorem iX4_lay_RX4 : ∀ w ∈ u_ws RX4 TX4 14, w ∈ wsX4_lay := fun w h => List.mem_cons_of_mem _ (List.mem_append_left _ (List.mem_append_left _ (List.mem_append_left _ (List.mem_append_right _ (h)))))
set_option maxHeartbeats 4000000 in
set_option maxRecDepth 100000 in
theorem mt_X4_lay (l : Launch) (dC : Nat → ClassId) (dI : Nat → Nat → Nat) (ad : Nat → Nat) (cy : Nat → ClassId) (hJ : J33 ad) (sz : Nat) (I : Nat → Nat → Int32) (D : Nat → Nat → UInt64) (p1 : Int32) (p2 : Int32) (rr : Int32) (I9 : Nat → Nat → Int32) (D9 : Nat → Nat → UInt64) (hf : f_X4_lay I D p1 p2 = some (Except.ok (rr, I9, D9))) : Met l yX4_lay wsX4_lay ({ frames := 1, cells := 0, slots := 0, locals := 23 }) (va_Pc [.ref (ad 0), .int p1, .int p2] (fun U => U.heap.size = sz ∧ hW dC dI ad cy I D U)) (va_Qi (fun r (_ : Unit) => rr = r) (fun _ t => hW dC dI ad cy I9 D9 t) (AW ad sz)) 0 0 (AW ad sz) := by
  refine Met.ofW (cc := cX4_lay) (maxL := 4) (ret := (some .int)) (by decide) rfl ?_
  intro p e s m args below meth c s₁ B hml hv
  obtain ⟨rfl, hsz, hP, hK, hN⟩ := hv
  have hx := B.exec
  have hb := B.bytes
  have hr := B.returns
  have hts := atoms_spec (ws := wsX4_lay) B.pre
  have hown : s.vm.findClass RX4 = some m.cls := findClass_of_methodNamed B.named
  have hlocks := B.notSynchronized
  subst hsz
  generalize hAe : AW ad s.heap.size = A
  have hA : ∀ q : Nat, s.heap.size ≤ q → A q := fun q h => by rw [← hAe]; exact Or.inr h
  have hA33 : ∀ k, k < 33 → A (ad k) := fun k h => by rw [← hAe]; exact Or.inl ⟨k, h, rfl⟩
  have hDD : ∀ I D, va_D A (iwH ad cy I D) := fun I D => iwH_D hJ hA33 I D
  obtain ⟨H, hH⟩ : ∃ H : Heap, H = s.heap := ⟨_, rfl⟩
  have hS : va_S A s.heap H [] := by rw [hH]; exact va_S.rf
  rw [← hH]
  rw [← hH] at hP
  have hl := lv_entry ([.ref (ad 0), .int p1, .int p2]) (n := 4) (Nat.le_of_ble_eq_true rfl)
  rw [lg_entry_eq]
  generalize (lg_sl ([.ref (ad 0), .int p1, .int p2]) ++ List.replicate (4 - (lg_sl ([.ref (ad 0), .int p1, .int p2])).length) Slot.unset).toArray = ls at hl ⊢
  have hl : lv_has ls 4 [(0, .ref (ad 0)), (1, .int p1), (2, .int p2)] := hl
  unfold f_X4_lay at hf
  refine lv_iload_n hx hb dX4_lay_0 rfl (lv_at hl 1 rfl) ?_
  refine lv_aload_n hx hb dX4_lay_1 rfl (lv_at hl 0 rfl) ?_
  refine va_get (D := (dC, dI)) (ci := 4) (v := .int (I 0 7)) (C := RX4) (T := TX4) (N := 14) hx hb hts iX4_lay_RX4 hown hK hP 0 heH_0 rfl 7 (by decide) (hts (.fieldLink RX4 44 "OverrunHouse" "batchCount" "I") (List.mem_cons_of_mem _ (List.mem_append_left _ (List.mem_append_left _ (List.mem_append_left _ (List.mem_append_left _ (List.mem_of_getElem? (i := 2) rfl))))))) (fun _ h9 => h9) rfl dX4_lay_2 ?_
  obtain ⟨_, g_2, hf⟩ := bE_ok hf
  refine va_callv (va_runS (As := [.int p1, .int (I 0 7)]) (rest := []) ⟨hx, hb, hml, hown, hts⟩ (mt_X4_checkNumber l H.size p1 (I 0 7)  g_2) (va_cwS 2 hts gX4_lay_X4_checkNumber rfl rfl rfl (by decide +kernel) ⟨Nat.le_of_ble_eq_true rfl, Nat.le_of_ble_eq_true rfl⟩) (pre0 [.int p1, .int (I 0 7)]) rfl rfl hl.1 rfl (lv_room (Nat.le_of_ble_eq_true rfl)) dX4_lay_5 ⟨Nat.le_of_ble_eq_true rfl, Nat.le_of_ble_eq_true rfl⟩) hS (fun q _ h => hA q (Nat.le_trans hS.1 h)) (fun q h => hA q (Nat.le_trans hS.1 h)) (fun u t H1 locs ht hvm hw hB hz1 hk1 hS => ?_)
  have hP := va_Pnew hP hk1
  clear hB hz1 hk1 hvm ht
  generalize H1 = H at hP hS ⊢
  refine lv_iload_n hx hb dX4_lay_8 rfl (lv_at hl 2 rfl) ?_
  refine lv_aload_n hx hb dX4_lay_9 rfl (lv_at hl 0 rfl) ?_
  refine va_get (D := (dC, dI)) (ci := 4) (v := .int (I 0 8)) (C := RX4) (T := TX4) (N := 14) hx hb hts iX4_lay_RX4 hown hK hP 0 heH_0 rfl 8 (by decide) (hts (.fieldLink RX4 47 "OverrunHouse" "storeCount" "I") (List.mem_cons_of_mem _ (List.mem_append_left _ (List.mem_append_left _ (List.mem_append_left _ (List.mem_append_left _ (List.mem_of_getElem? (i := 3) rfl))))))) (fun _ h9 => h9) rfl dX4_lay_10 ?_
  obtain ⟨_, g_4, hf⟩ := bE_ok hf
  refine va_callv (va_runS (As := [.int p2, .int (I 0 8)]) (rest := []) ⟨hx, hb, hml, hown, hts⟩ (mt_X4_checkNumber l H.size p2 (I 0 8)  g_4) (va_cwS 2 hts gX4_lay_X4_checkNumber rfl rfl rfl (by decide +kernel) ⟨Nat.le_of_ble_eq_true rfl, Nat.le_of_ble_eq_true rfl⟩) (pre0 [.int p2, .int (I 0 8)]) rfl rfl hl.1 rfl (lv_room (Nat.le_of_ble_eq_true rfl)) dX4_lay_13 ⟨Nat.le_of_ble_eq_true rfl, Nat.le_of_ble_eq_true rfl⟩) hS (fun q _ h => hA q (Nat.le_trans hS.1 h)) (fun q h => hA q (Nat.le_trans hS.1 h)) (fun u t H1 locs ht hvm hw hB hz1 hk1 hS => ?_)
  have hP := va_Pnew hP hk1
  clear hB hz1 hk1 hvm ht
  generalize H1 = H at hP hS ⊢
  refine lv_aload_n hx hb dX4_lay_16 rfl (lv_at hl 0 rfl) ?_
  refine va_get (D := (dC, dI)) (ci := 4) (v := .ref (ad 3)) (C := RX4) (T := TX4) (N := 14) hx hb hts iX4_lay_RX4 hown hK hP 0 heH_0 rfl 2 (by decide) (hts (.fieldLink RX4 23 "OverrunHouse" "batches" "[LOverrunHouse$Batch;") (List.mem_cons_of_mem _ (List.mem_append_left _ (List.mem_append_left _ (List.mem_append_left _ (List.mem_append_left _ (List.mem_of_getElem? (i := 4) rfl))))))) (fun _ h9 => h9) rfl dX4_lay_17 ?_
  refine lv_iload_n hx hb dX4_lay_20 rfl (lv_at hl 1 rfl) ?_
  obtain ⟨h_5, hf⟩ := ck_out hf
  refine wr_aald (b := 18) (n := 12) hx hb hK hP 3 3 heH_3 rfl (inB_in h_5) dX4_lay_21 ?_
  refine lv_astore_n (lv' := [(3, .ref (ad (18 + (p1).toNatClampNeg))), (0, .ref (ad 0)), (1, .int p1), (2, .int p2)]) hx hb dX4_lay_22 rfl hl (by decide) rfl (fun ls hl => ?_)
  refine lv_aload_n hx hb dX4_lay_23 rfl (lv_at hl 0 rfl) ?_
  refine va_getN (D := (dC, dI)) (ci := 0) (v := .int (I (18 + (p1).toNatClampNeg) 2)) (C := RX0) (T := TX0) (N := 5) hx hb hts iX4_lay_RX0 hown hK hP (18 + (p1).toNatClampNeg) (heH_Batch (inB_lt h_5)) rfl 2 (by decide) (va_Nw.use (w := .fieldLinkNest "OverrunHouse" 143 "OverrunHouse$Batch" "place" "I" "OverrunHouse") rfl (hN _ (List.mem_of_getElem? (i := 20) rfl))) (fun _ h9 => h9) rfl dX4_lay_24 ?_
  refine lv_bipush (v := 10) hx hb dX4_lay_27 (by decide) ?_
  refine lv_icmp_eq (tgt := 48) hx hb dX4_lay_29 (by decide) (fun c_6 => ?_) (fun c_6 => ?_)
  · have hf := it_t hf c_6
    exact (ok_ne hf).elim
  · have hf := it_f hf c_6
    refine lv_aload_n hx hb dX4_lay_32 rfl (lv_at hl 0 rfl) ?_
    refine va_getN (D := (dC, dI)) (ci := 0) (v := .int (I (18 + (p1).toNatClampNeg) 2)) (C := RX0) (T := TX0) (N := 5) hx hb hts iX4_lay_RX0 hown hK hP (18 + (p1).toNatClampNeg) (heH_Batch (inB_lt h_5)) rfl 2 (by decide) (va_Nw.use (w := .fieldLinkNest "OverrunHouse" 143 "OverrunHouse$Batch" "place" "I" "OverrunHouse") rfl (hN _ (List.mem_of_getElem? (i := 20) rfl))) (fun _ h9 => h9) rfl dX4_lay_33 ?_
    refine lv_bipush (v := 11) hx hb dX4_lay_36 (by decide) ?_
    refine lv_icmp_eq (tgt := 48) hx hb dX4_lay_38 (by decide) (fun c_7 => ?_) (fun c_7 => ?_)
    · have hf := it_t hf c_7
      exact (ok_ne hf).elim
    · have hf := it_f hf c_7
      refine lv_aload_n hx hb dX4_lay_41 rfl (lv_at hl 0 rfl) ?_
      refine va_getN (D := (dC, dI)) (ci := 0) (v := .int (I (18 + (p1).toNatClampNeg) 3)) (C := RX0) (T := TX0) (N := 5) hx hb hts iX4_lay_RX0 hown hK hP (18 + (p1).toNatClampNeg) (heH_Batch (inB_lt h_5)) rfl 3 (by decide) (va_Nw.use (w := .fieldLinkNest "OverrunHouse" 146 "OverrunHouse$Batch" "isHard" "Z" "OverrunHouse") rfl (hN _ (List.mem_of_getElem? (i := 21) rfl))) (fun _ h9 => h9) rfl dX4_lay_42 ?_
      refine lv_if_ne (tgt := 58) hx hb dX4_lay_45 (by decide) (fun c_8 => ?_) (fun c_8 => ?_)
      · have hf := it_f hf c_8
        refine lv_aload_n hx hb dX4_lay_58 rfl (lv_at hl 0 rfl) ?_
        refine lv_iload_n hx hb dX4_lay_59 rfl (lv_at hl 3 rfl) ?_
        obtain ⟨I_9, eI_9, hf⟩ := nm_out hf
        refine va_putN (D := (dC, dI)) (ci := 0) (v := .int p2) (ty := .int) (C := RX0) (T := TX0) (N := 5) hx hb hts iX4_lay_RX0 tyX0 tyX0_ok nmX0 hown hK hP (hDD I D) hS (18 + (p1).toNatClampNeg) (heH_Batch (inB_lt h_5)) rfl 2 (by decide) (va_Nw.use (w := .fieldLinkNest "OverrunHouse" 143 "OverrunHouse$Batch" "place" "I" "OverrunHouse") rfl (hN _ (List.mem_of_getElem? (i := 20) rfl))) (fun _ h9 => h9) rfl (by decide +kernel) rfl rfl (Nat.le_of_ble_eq_true rfl) dX4_lay_60 (fun H locs hP _ hS => ?_)
        have hP : va_P (dC, dI) vwCl (iwH ad cy I_9 D) H := by rw [eI_9]; exact hpI (by have := (inB_lt h_5); omega) ((cellH_Batch ad cy (inB_lt h_5) _ _).trans rfl) hP
        refine lv_aload_n hx hb dX4_lay_63 rfl (lv_at hl 1 rfl) ?_
        refine lv_iload_n hx hb dX4_lay_64 rfl (lv_at hl 3 rfl) ?_
        obtain ⟨r_10, g_11, hf⟩ := bd_out hf
        refine va_calli (va_runV (As := [.int p2]) (rest := []) ⟨hx, hb, hml, hown, hts⟩ (mt_X4_countAt l dC dI ad cy hJ H.size I_9 D p2 r_10 g_11) (cwV 1 hts gX4_lay_X4_countAt rfl rfl rfl (by decide +kernel) ⟨Nat.le_of_ble_eq_true rfl, Nat.le_of_ble_eq_true rfl⟩) ⟨(hW.pre [.ref (ad 0), .int p2] hP hK hN).1, hW.recv (C := RX4) (T := TX4) (N := 14) hP hK heH_0 rfl, (hW.pre [.ref (ad 0), .int p2] hP hK hN).2⟩ rfl rfl hl.1 rfl (lv_room (Nat.le_of_ble_eq_true rfl)) dX4_lay_65 ⟨Nat.le_of_ble_eq_true rfl, Nat.le_of_ble_eq_true rfl⟩) hS (fun q _ h => hA q (Nat.le_trans hS.1 h)) (fun q h => hA q (Nat.le_trans hS.1 h)) (fun r9 u t H1 locs ht hvm hw hB hz1 hk1 hS => ?_)
        subst hw
        have hP := va_Pnew hP hk1
        clear hB hz1 hk1 hvm ht
        generalize H1 = H at hP hS ⊢
        have hf := ok_in hf
        obtain ⟨q1, q2⟩ := Prod.mk.inj hf
        obtain ⟨q2, q3⟩ := Prod.mk.inj q2
        rw [q2, q3] at hP
        exact W.iret (v := r_10) hx hb hr (fun t ht hW9 => ⟨⟨r_10, (), rfl, q1.symm, hW.of hP hK hN ht hW9⟩, hS.F ht⟩) hS.2.2 dX4_lay_68
      · have hf := it_t hf c_8
        exact (ok_ne hf).elim

def f_X4_door (I : Nat → Nat → Int32) (D : Nat → Nat → UInt64) (p1 : Int32) (p2 : Int32) : Option (Except String (UInt64 × (Nat → Nat → Int32) × (Nat → Nat → UInt64))) :=
  bE (f_X4_checkNumber p1 (I 0 8)) (fun _ => bE (f_X4_checkRange p2 1 20) (fun _ => ck (inB p1 3) (ck (inB p1 3) (bd (f_X4_opened (D (30 + (p1).toNatClampNeg) 1) p2) (fun r_7 => nm (up2 D (30 + (p1).toNatClampNeg) 1 r_7) (fun D_9 => ck (inB p1 3) (some (Except.ok ((D_9 (30 + (p1).toNatClampNeg) 1), I, D_9)))))))))
theorem iX4_door_RX4 : ∀ w ∈ u_ws RX4 TX4 14, w ∈ wsX4_door := fun w h => List.mem_cons_of_mem _ (List.mem_append_left _ (List.mem_append_left _ (List.mem_append_left _ (List.mem_append_right _ (h)))))
theorem iX4_door_RX3 : ∀ w ∈ u_ws RX3 TX3 2, w ∈ wsX4_door := fun w h => List.mem_cons_of_mem _ (List.mem_append_left _ (List.mem_append_left _ (List.mem_append_right _ (h))))
set_option maxHeartbeats 4000000 in
set_option maxRecDepth 100000 in
theorem mt_X4_door (l : Launch) (dC : Nat → ClassId) (dI : Nat → Nat → Nat) (ad : Nat → Nat) (cy : Nat → ClassId) (hJ : J33 ad) (sz : Nat) (I : Nat → Nat → Int32) (D : Nat → Nat → UInt64) (p1 : Int32) (p2 : Int32) (rr : UInt64) (I9 : Nat → Nat → Int32) (D9 : Nat → Nat → UInt64) (hf : f_X4_door I D p1 p2 = some (Except.ok (rr, I9, D9))) : Met l yX4_door wsX4_door ({ frames := 1, cells := 0, slots := 0, locals := 27 }) (va_Pc [.ref (ad 0), .int p1, .int p2] (fun U => U.heap.size = sz ∧ hW dC dI ad cy I D U)) (va_Qd (fun r (_ : Unit) => rr = r) (fun _ t => hW dC dI ad cy I9 D9 t) (AW ad sz)) 0 0 (AW ad sz) := by
  refine Met.ofW (cc := cX4_door) (maxL := 3) (ret := (some .double)) (by decide) rfl ?_
  intro p e s m args below meth c s₁ B hml hv
  obtain ⟨rfl, hsz, hP, hK, hN⟩ := hv
  have hx := B.exec
  have hb := B.bytes
  have hr := B.returns
  have hts := atoms_spec (ws := wsX4_door) B.pre
  have hown : s.vm.findClass RX4 = some m.cls := findClass_of_methodNamed B.named
  have hlocks := B.notSynchronized
  subst hsz
  generalize hAe : AW ad s.heap.size = A
  have hA : ∀ q : Nat, s.heap.size ≤ q → A q := fun q h => by rw [← hAe]; exact Or.inr h
  have hA33 : ∀ k, k < 33 → A (ad k) := fun k h => by rw [← hAe]; exact Or.inl ⟨k, h, rfl⟩
  have hDD : ∀ I D, va_D A (iwH ad cy I D) := fun I D => iwH_D hJ hA33 I D
  obtain ⟨H, hH⟩ : ∃ H : Heap, H = s.heap := ⟨_, rfl⟩
  have hS : va_S A s.heap H [] := by rw [hH]; exact va_S.rf
  rw [← hH]
  rw [← hH] at hP
  have hl := lv_entry ([.ref (ad 0), .int p1, .int p2]) (n := 3) (Nat.le_of_ble_eq_true rfl)
  rw [lg_entry_eq]
  generalize (lg_sl ([.ref (ad 0), .int p1, .int p2]) ++ List.replicate (3 - (lg_sl ([.ref (ad 0), .int p1, .int p2])).length) Slot.unset).toArray = ls at hl ⊢
  have hl : lv_has ls 3 [(0, .ref (ad 0)), (1, .int p1), (2, .int p2)] := hl
  unfold f_X4_door at hf
  refine lv_iload_n hx hb dX4_door_0 rfl (lv_at hl 1 rfl) ?_
  refine lv_aload_n hx hb dX4_door_1 rfl (lv_at hl 0 rfl) ?_
  refine va_get (D := (dC, dI)) (ci := 4) (v := .int (I 0 8)) (C := RX4) (T := TX4) (N := 14) hx hb hts iX4_door_RX4 hown hK hP 0 heH_0 rfl 8 (by decide) (hts (.fieldLink RX4 47 "OverrunHouse" "storeCount" "I") (List.mem_cons_of_mem _ (List.mem_append_left _ (List.mem_append_left _ (List.mem_append_left _ (List.mem_append_left _ (List.mem_of_getElem? (i := 0) rfl))))))) (fun _ h9 => h9) rfl dX4_door_2 ?_
  obtain ⟨_, g_2, hf⟩ := bE_ok hf
  refine va_callv (va_runS (As := [.int p1, .int (I 0 8)]) (rest := []) ⟨hx, hb, hml, hown, hts⟩ (mt_X4_checkNumber l H.size p1 (I 0 8)  g_2) (va_cwS 2 hts gX4_door_X4_checkNumber rfl rfl rfl (by decide +kernel) ⟨Nat.le_of_ble_eq_true rfl, Nat.le_of_ble_eq_true rfl⟩) (pre0 [.int p1, .int (I 0 8)]) rfl rfl hl.1 rfl (lv_room (Nat.le_of_ble_eq_true rfl)) dX4_door_5 ⟨Nat.le_of_ble_eq_true rfl, Nat.le_of_ble_eq_true rfl⟩) hS (fun q _ h => hA q (Nat.le_trans hS.1 h)) (fun q h => hA q (Nat.le_trans hS.1 h)) (fun u t H1 locs ht hvm hw hB hz1 hk1 hS => ?_)
  have hP := va_Pnew hP hk1
  clear hB hz1 hk1 hvm ht
  generalize H1 = H at hP hS ⊢
  refine lv_iload_n hx hb dX4_door_8 rfl (lv_at hl 2 rfl) ?_
  refine lv_iconst (v := 1) hx hb dX4_door_9 (by decide) ?_
  refine lv_bipush (v := 20) hx hb dX4_door_10 (by decide) ?_
  obtain ⟨_, g_4, hf⟩ := bE_ok hf
  refine va_callv (va_runS (As := [.int p2, .int 1, .int 20]) (rest := []) ⟨hx, hb, hml, hown, hts⟩ (mt_X4_checkRange l H.size p2 1 20  g_4) (va_cwS 3 hts gX4_door_X4_checkRange rfl rfl rfl (by decide +kernel) ⟨Nat.le_of_ble_eq_true rfl, Nat.le_of_ble_eq_true rfl⟩) (pre0 [.int p2, .int 1, .int 20]) rfl rfl hl.1 rfl (lv_room (Nat.le_of_ble_eq_true rfl)) dX4_door_12 ⟨Nat.le_of_ble_eq_true rfl, Nat.le_of_ble_eq_true rfl⟩) hS (fun q _ h => hA q (Nat.le_trans hS.1 h)) (fun q h => hA q (Nat.le_trans hS.1 h)) (fun u t H1 locs ht hvm hw hB hz1 hk1 hS => ?_)
  have hP := va_Pnew hP hk1
  clear hB hz1 hk1 hvm ht
  generalize H1 = H at hP hS ⊢
  refine lv_aload_n hx hb dX4_door_15 rfl (lv_at hl 0 rfl) ?_
  refine va_get (D := (dC, dI)) (ci := 4) (v := .ref (ad 4)) (C := RX4) (T := TX4) (N := 14) hx hb hts iX4_door_RX4 hown hK hP 0 heH_0 rfl 3 (by decide) (hts (.fieldLink RX4 29 "OverrunHouse" "stores" "[LOverrunHouse$Store;") (List.mem_cons_of_mem _ (List.mem_append_left _ (List.mem_append_left _ (List.mem_append_left _ (List.mem_append_left _ (List.mem_of_getElem? (i := 1) rfl))))))) (fun _ h9 => h9) rfl dX4_door_16 ?_
  refine lv_iload_n hx hb dX4_door_19 rfl (lv_at hl 1 rfl) ?_
  obtain ⟨h_5, hf⟩ := ck_out hf
  refine wr_aald (b := 30) (n := 3) hx hb hK hP 4 4 heH_4 rfl (inB_in h_5) dX4_door_20 ?_
  refine lv_aload_n hx hb dX4_door_21 rfl (lv_at hl 0 rfl) ?_
  refine va_get (D := (dC, dI)) (ci := 4) (v := .ref (ad 4)) (C := RX4) (T := TX4) (N := 14) hx hb hts iX4_door_RX4 hown hK hP 0 heH_0 rfl 3 (by decide) (hts (.fieldLink RX4 29 "OverrunHouse" "stores" "[LOverrunHouse$Store;") (List.mem_cons_of_mem _ (List.mem_append_left _ (List.mem_append_left _ (List.mem_append_left _ (List.mem_append_left _ (List.mem_of_getElem? (i := 1) rfl))))))) (fun _ h9 => h9) rfl dX4_door_22 ?_
  refine lv_iload_n hx hb dX4_door_25 rfl (lv_at hl 1 rfl) ?_
  obtain ⟨h_6, hf⟩ := ck_out hf
  refine wr_aald (b := 30) (n := 3) hx hb hK hP 4 4 heH_4 rfl (inB_in h_6) dX4_door_26 ?_
  refine va_getN (D := (dC, dI)) (ci := 3) (v := .double (D (30 + (p1).toNatClampNeg) 1)) (C := RX3) (T := TX3) (N := 2) hx hb hts iX4_door_RX3 hown hK hP (30 + (p1).toNatClampNeg) (heH_Store (inB_lt h_6)) rfl 1 (by decide) (va_Nw.use (w := .fieldLinkNest "OverrunHouse" 156 "OverrunHouse$Store" "degrees" "D" "OverrunHouse") rfl (hN _ (List.mem_of_getElem? (i := 24) rfl))) (fun _ h9 => h9) rfl dX4_door_27 ?_
  refine lv_iload_n hx hb dX4_door_30 rfl (lv_at hl 2 rfl) ?_
  obtain ⟨r_7, g_8, hf⟩ := bd_out hf
  refine va_calld (va_runS (As := [.double (D (30 + (p1).toNatClampNeg) 1), .int p2]) (rest := [.ref (ad (30 + (p1).toNatClampNeg))]) ⟨hx, hb, hml, hown, hts⟩ (mt_X4_opened l H.size (D (30 + (p1).toNatClampNeg) 1) p2 r_7 g_8) (va_cwS 2 hts gX4_door_X4_opened rfl rfl rfl (by decide +kernel) ⟨Nat.le_of_ble_eq_true rfl, Nat.le_of_ble_eq_true rfl⟩) (pre0 [.double (D (30 + (p1).toNatClampNeg) 1), .int p2]) rfl rfl hl.1 rfl (lv_room (Nat.le_of_ble_eq_true rfl)) dX4_door_31 ⟨Nat.le_of_ble_eq_true rfl, Nat.le_of_ble_eq_true rfl⟩) hS (fun q _ h => hA q (Nat.le_trans hS.1 h)) (fun q h => hA q (Nat.le_trans hS.1 h)) (fun r9 u t H1 locs ht hvm hw hB hz1 hk1 hS => ?_)
  subst hw
  have hP := va_Pnew hP hk1
  clear hB hz1 hk1 hvm ht
  generalize H1 = H at hP hS ⊢
  obtain ⟨D_9, eD_9, hf⟩ := nm_out hf
  refine va_putN (D := (dC, dI)) (ci := 3) (v := .double r_7) (ty := .double) (C := RX3) (T := TX3) (N := 2) hx hb hts iX4_door_RX3 tyX3 tyX3_ok nmX3 hown hK hP (hDD I D) hS (30 + (p1).toNatClampNeg) (heH_Store (inB_lt h_5)) rfl 1 (by decide) (va_Nw.use (w := .fieldLinkNest "OverrunHouse" 156 "OverrunHouse$Store" "degrees" "D" "OverrunHouse") rfl (hN _ (List.mem_of_getElem? (i := 24) rfl))) (fun _ h9 => h9) rfl (by decide +kernel) rfl rfl (Nat.le_of_ble_eq_true rfl) dX4_door_34 (fun H locs hP _ hS => ?_)
  have hP : va_P (dC, dI) vwCl (iwH ad cy I D_9) H := by rw [eD_9]; exact hpD (by have := (inB_lt h_5); omega) ((cellH_Store ad cy (inB_lt h_5) _ _).trans rfl) hP
  refine lv_aload_n hx hb dX4_door_37 rfl (lv_at hl 0 rfl) ?_
  refine va_get (D := (dC, dI)) (ci := 4) (v := .ref (ad 4)) (C := RX4) (T := TX4) (N := 14) hx hb hts iX4_door_RX4 hown hK hP 0 heH_0 rfl 3 (by decide) (hts (.fieldLink RX4 29 "OverrunHouse" "stores" "[LOverrunHouse$Store;") (List.mem_cons_of_mem _ (List.mem_append_left _ (List.mem_append_left _ (List.mem_append_left _ (List.mem_append_left _ (List.mem_of_getElem? (i := 1) rfl))))))) (fun _ h9 => h9) rfl dX4_door_38 ?_
  refine lv_iload_n hx hb dX4_door_41 rfl (lv_at hl 1 rfl) ?_
  obtain ⟨h_10, hf⟩ := ck_out hf
  refine wr_aald (b := 30) (n := 3) hx hb hK hP 4 4 heH_4 rfl (inB_in h_10) dX4_door_42 ?_
  refine va_getN (D := (dC, dI)) (ci := 3) (v := .double (D_9 (30 + (p1).toNatClampNeg) 1)) (C := RX3) (T := TX3) (N := 2) hx hb hts iX4_door_RX3 hown hK hP (30 + (p1).toNatClampNeg) (heH_Store (inB_lt h_10)) rfl 1 (by decide) (va_Nw.use (w := .fieldLinkNest "OverrunHouse" 156 "OverrunHouse$Store" "degrees" "D" "OverrunHouse") rfl (hN _ (List.mem_of_getElem? (i := 24) rfl))) (fun _ h9 => h9) rfl dX4_door_43 ?_
  have hf := ok_in hf
  obtain ⟨q1, q2⟩ := Prod.mk.inj hf
  obtain ⟨q2, q3⟩ := Prod.mk.inj q2
  rw [q2, q3] at hP
  exact W.dret (v := (D_9 (30 + (p1).toNatClampNeg) 1)) hx hb hr (fun t ht hW9 => ⟨⟨(D_9 (30 + (p1).toNatClampNeg) 1), (), rfl, q1.symm, hW.of hP hK hN ht hW9⟩, hS.F ht⟩) hS.2.2 dX4_door_46

def f_X4_pass_L9 (p1 : Int32) : Nat → Int32 → (Nat → Nat → Int32) → (Nat → Nat → UInt64) → Option (Except String (Int32 × (Nat → Nat → Int32) × (Nat → Nat → UInt64)))
  | 0, _, _, _ => none
  | n9 + 1, x2_9, I_L9, D_L9 => (if p1 ≤ x2_9 then bd (f_X4_countAt I_L9 D_L9 11) (fun r_4 => some (Except.ok (r_4, I_L9, D_L9))) else bd (f_X4_passHour I_L9 D_L9 ) (fun (I_8, D_9) => f_X4_pass_L9 p1 n9 (x2_9 + 1) I_8 D_9))
def f_X4_pass (I : Nat → Nat → Int32) (D : Nat → Nat → UInt64) (p1 : Int32) : Option (Except String (Int32 × (Nat → Nat → Int32) × (Nat → Nat → UInt64))) :=
  bE (f_X4_checkRange p1 1 48) (fun _ => f_X4_pass_L9 p1 200 0 I D)
set_option maxHeartbeats 4000000 in
set_option maxRecDepth 100000 in
theorem mt_X4_pass (l : Launch) (dC : Nat → ClassId) (dI : Nat → Nat → Nat) (ad : Nat → Nat) (cy : Nat → ClassId) (hJ : J33 ad) (sz : Nat) (I : Nat → Nat → Int32) (D : Nat → Nat → UInt64) (p1 : Int32) (rr : Int32) (I9 : Nat → Nat → Int32) (D9 : Nat → Nat → UInt64) (hf : f_X4_pass I D p1 = some (Except.ok (rr, I9, D9))) : Met l yX4_pass wsX4_pass ({ frames := 4, cells := 0, slots := 0, locals := 97 }) (va_Pc [.ref (ad 0), .int p1] (fun U => U.heap.size = sz ∧ hW dC dI ad cy I D U)) (va_Qi (fun r (_ : Unit) => rr = r) (fun _ t => hW dC dI ad cy I9 D9 t) (AW ad sz)) 0 0 (AW ad sz) := by
  refine Met.ofW (cc := cX4_pass) (maxL := 3) (ret := (some .int)) (by decide) rfl ?_
  intro p e s m args below meth c s₁ B hml hv
  obtain ⟨rfl, hsz, hP, hK, hN⟩ := hv
  have hx := B.exec
  have hb := B.bytes
  have hr := B.returns
  have hts := atoms_spec (ws := wsX4_pass) B.pre
  have hown : s.vm.findClass RX4 = some m.cls := findClass_of_methodNamed B.named
  have hlocks := B.notSynchronized
  subst hsz
  generalize hAe : AW ad s.heap.size = A
  have hA : ∀ q : Nat, s.heap.size ≤ q → A q := fun q h => by rw [← hAe]; exact Or.inr h
  have hA33 : ∀ k, k < 33 → A (ad k) := fun k h => by rw [← hAe]; exact Or.inl ⟨k, h, rfl⟩
  have hDD : ∀ I D, va_D A (iwH ad cy I D) := fun I D => iwH_D hJ hA33 I D
  obtain ⟨H, hH⟩ : ∃ H : Heap, H = s.heap := ⟨_, rfl⟩
  have hS : va_S A s.heap H [] := by rw [hH]; exact va_S.rf
  rw [← hH]
  rw [← hH] at hP
  have hl := lv_entry ([.ref (ad 0), .int p1]) (n := 3) (Nat.le_of_ble_eq_true rfl)
  rw [lg_entry_eq]
  generalize (lg_sl ([.ref (ad 0), .int p1]) ++ List.replicate (3 - (lg_sl ([.ref (ad 0), .int p1])).length) Slot.unset).toArray = ls at hl ⊢
  have hl : lv_has ls 3 [(0, .ref (ad 0)), (1, .int p1)] := hl
  unfold f_X4_pass at hf
  refine lv_iload_n hx hb dX4_pass_0 rfl (lv_at hl 1 rfl) ?_
  refine lv_iconst (v := 1) hx hb dX4_pass_1 (by decide) ?_
  refine lv_bipush (v := 48) hx hb dX4_pass_2 (by decide) ?_
  obtain ⟨_, g_2, hf⟩ := bE_ok hf
  refine va_callv (va_runS (As := [.int p1, .int 1, .int 48]) (rest := []) ⟨hx, hb, hml, hown, hts⟩ (mt_X4_checkRange l H.size p1 1 48  g_2) (va_cwS 3 hts gX4_pass_X4_checkRange rfl rfl rfl (by decide +kernel) ⟨Nat.le_of_ble_eq_true rfl, Nat.le_of_ble_eq_true rfl⟩) (pre0 [.int p1, .int 1, .int 48]) rfl rfl hl.1 rfl (lv_room (Nat.le_of_ble_eq_true rfl)) dX4_pass_4 ⟨Nat.le_of_ble_eq_true rfl, Nat.le_of_ble_eq_true rfl⟩) hS (fun q _ h => hA q (Nat.le_trans hS.1 h)) (fun q h => hA q (Nat.le_trans hS.1 h)) (fun u t H1 locs ht hvm hw hB hz1 hk1 hS => ?_)
  have hP := va_Pnew hP hk1
  clear hB hz1 hk1 hvm ht
  generalize H1 = H at hP hS ⊢
  refine lv_iconst (v := 0) hx hb dX4_pass_7 (by decide) ?_
  refine lv_istore_n (lv' := [(2, .int 0), (0, .ref (ad 0)), (1, .int p1)]) hx hb dX4_pass_8 rfl hl (by decide) rfl (fun ls hl => ?_)
  have L9 : ∀ (n9 : Nat) (x2_9 : Int32) (I_L9 : Nat → Nat → Int32) (D_L9 : Nat → Nat → UInt64), f_X4_pass_L9 p1 n9 x2_9 I_L9 D_L9 = some (Except.ok (rr, I9, D9)) → ∀ (H : Heap) (locs : List Loc) (ls : Array Slot), va_P (dC, dI) vwCl (iwH ad cy I_L9 D_L9) H → va_S A s.heap H locs → lv_has ls 3 [(2, .int x2_9), (0, .ref (ad 0)), (1, .int p1)] → W p l e (headSpec wsX4_pass ({ frames := 4, cells := 0, slots := 0, locals := 97 })).room s m ([.ref (ad 0), .int p1] : List Value).toArray below meth c H locs 0 0 (MQ below (va_Qi (fun r (_ : Unit) => rr = r) (fun _ t => hW dC dI ad cy I9 D9 t) A) ([.ref (ad 0), .int p1] : List Value).toArray s 0 0 A) (F0 m 9 ls []) := by
    intro n9
    induction n9 with
    | zero => intro x2_9 I_L9 D_L9 hf; exact nomatch hf
    | succ n9 ih9 =>
      intro x2_9 I_L9 D_L9 hf H locs ls hP hS hl
      unfold f_X4_pass_L9 at hf
      refine lv_iload_n hx hb dX4_pass_9 rfl (lv_at hl 0 rfl) ?_
      refine lv_iload_n hx hb dX4_pass_10 rfl (lv_at hl 2 rfl) ?_
      refine lv_icmp_ge (tgt := 24) hx hb dX4_pass_11 (by decide) (fun c_3 => ?_) (fun c_3 => ?_)
      · have hf := it_t hf c_3
        refine lv_aload_n hx hb dX4_pass_24 rfl (lv_at hl 1 rfl) ?_
        refine lv_bipush (v := 11) hx hb dX4_pass_25 (by decide) ?_
        obtain ⟨r_4, g_5, hf⟩ := bd_out hf
        refine va_calli (va_runV (As := [.int 11]) (rest := []) ⟨hx, hb, hml, hown, hts⟩ (mt_X4_countAt l dC dI ad cy hJ H.size I_L9 D_L9 11 r_4 g_5) (cwV 1 hts gX4_pass_X4_countAt rfl rfl rfl (by decide +kernel) ⟨Nat.le_of_ble_eq_true rfl, Nat.le_of_ble_eq_true rfl⟩) ⟨(hW.pre [.ref (ad 0), .int 11] hP hK hN).1, hW.recv (C := RX4) (T := TX4) (N := 14) hP hK heH_0 rfl, (hW.pre [.ref (ad 0), .int 11] hP hK hN).2⟩ rfl rfl hl.1 rfl (lv_room (Nat.le_of_ble_eq_true rfl)) dX4_pass_27 ⟨Nat.le_of_ble_eq_true rfl, Nat.le_of_ble_eq_true rfl⟩) hS (fun q _ h => hA q (Nat.le_trans hS.1 h)) (fun q h => hA q (Nat.le_trans hS.1 h)) (fun r9 u t H1 locs ht hvm hw hB hz1 hk1 hS => ?_)
        subst hw
        have hP := va_Pnew hP hk1
        clear hB hz1 hk1 hvm ht
        generalize H1 = H at hP hS ⊢
        have hf := ok_in hf
        obtain ⟨q1, q2⟩ := Prod.mk.inj hf
        obtain ⟨q2, q3⟩ := Prod.mk.inj q2
        rw [q2, q3] at hP
        exact W.iret (v := r_4) hx hb hr (fun t ht hW9 => ⟨⟨r_4, (), rfl, q1.symm, hW.of hP hK hN ht hW9⟩, hS.F ht⟩) hS.2.2 dX4_pass_30
      · have hf := it_f hf c_3
        refine lv_aload_n hx hb dX4_pass_14 rfl (lv_at hl 1 rfl) ?_
        obtain ⟨⟨I_8, D_9⟩, g_7, hf⟩ := bd_out hf
        have hAW : ∀ q, AW ad H.size q → A q := fun q h => h.elim (fun ⟨k, k1, k2⟩ => k2 ▸ hA33 k k1) (fun h => hA q (Nat.le_trans hS.1 h))
        refine va_callv (va_runV (As := []) (rest := []) ⟨hx, hb, hml, hown, hts⟩ (mt_X4_passHour l dC dI ad cy hJ H.size I_L9 D_L9  I_8 D_9 g_7) (cwV 0 hts gX4_pass_X4_passHour rfl rfl rfl (by decide +kernel) ⟨Nat.le_of_ble_eq_true rfl, Nat.le_of_ble_eq_true rfl⟩) ⟨(hW.pre [.ref (ad 0)] hP hK hN).1, hW.recv (C := RX4) (T := TX4) (N := 14) hP hK heH_0 rfl, (hW.pre [.ref (ad 0)] hP hK hN).2⟩ rfl rfl hl.1 rfl (lv_room (Nat.le_of_ble_eq_true rfl)) dX4_pass_15 ⟨Nat.le_of_ble_eq_true rfl, Nat.le_of_ble_eq_true rfl⟩) hS (fun q _ h => hAW q h) (fun q h => hAW q h) (fun u t H1 locs ht hvm hw hB hz1 hk1 hS => ?_)
        have hP : va_P (dC, dI) vwCl (iwH ad cy I_8 D_9) H1 := by rw [← ht]; exact hB.1
        clear hB hz1 hk1 hvm ht
        generalize H1 = H at hP hS ⊢
        refine lv_iinc (v := (x2_9 + 1)) (lv' := [(2, .int (x2_9 + 1)), (0, .ref (ad 0)), (1, .int p1)]) hx hb dX4_pass_18 hl (k := 0) rfl rfl (by decide) rfl (fun ls hl => ?_)
        refine lv_goto (tgt := 9) hx hb dX4_pass_21 (by decide) ?_
        exact ih9 (x2_9 + 1) I_8 D_9 hf _ _ _ hP hS (lv_sub hl [0, 1, 2] rfl)
  exact L9 200 0 I D hf _ _ _ hP hS (lv_sub hl [0, 1, 2] rfl)

def f_X4_ofMix (I : Nat → Nat → Int32) (D : Nat → Nat → UInt64) (p1 : Int32) (p2 : Int32) : Option (Except String (Int32)) :=
  bE (f_X4_checkNumber p1 (I 0 6)) (fun _ => bE (f_X4_checkRange p2 0 8) (fun _ => ck (inB p1 5) ((if p2 = 0 then some (Except.ok (I (13 + (p1).toNatClampNeg) 0)) else (if p2 = 1 then some (Except.ok (I (13 + (p1).toNatClampNeg) 1)) else (if p2 = 2 then some (Except.ok (I (13 + (p1).toNatClampNeg) 5)) else (if p2 = 3 then some (Except.ok (I (13 + (p1).toNatClampNeg) 6)) else (if p2 = 4 then (if (I (13 + (p1).toNatClampNeg) 10) = 0 then some (Except.ok 0) else some (Except.ok 1)) else (if p2 = 5 then some (Except.ok (I (13 + (p1).toNatClampNeg) 8)) else (if p2 = 6 then bd (f_X2_isCream I D (p1).toNatClampNeg) (fun r_14 => (if r_14 = 0 then some (Except.ok 0) else some (Except.ok 1))) else (if p2 = 7 then some (Except.ok (I (13 + (p1).toNatClampNeg) 7)) else some (Except.ok (I (13 + (p1).toNatClampNeg) 9)))))))))))))
theorem iX4_ofMix_RX4 : ∀ w ∈ u_ws RX4 TX4 14, w ∈ wsX4_ofMix := fun w h => List.mem_cons_of_mem _ (List.mem_append_left _ (List.mem_append_left _ (List.mem_append_left _ (List.mem_append_right _ (h)))))
theorem iX4_ofMix_RX2 : ∀ w ∈ u_ws RX2 TX2 12, w ∈ wsX4_ofMix := fun w h => List.mem_cons_of_mem _ (List.mem_append_left _ (List.mem_append_left _ (List.mem_append_right _ (h))))
set_option maxHeartbeats 4000000 in
set_option maxRecDepth 100000 in
theorem mt_X4_ofMix (l : Launch) (dC : Nat → ClassId) (dI : Nat → Nat → Nat) (ad : Nat → Nat) (cy : Nat → ClassId) (hJ : J33 ad) (sz : Nat) (I : Nat → Nat → Int32) (D : Nat → Nat → UInt64) (p1 : Int32) (p2 : Int32) (rr : Int32) (hf : f_X4_ofMix I D p1 p2 = some (Except.ok rr)) : Met l yX4_ofMix wsX4_ofMix ({ frames := 2, cells := 0, slots := 0, locals := 41 }) (va_Pc [.ref (ad 0), .int p1, .int p2] (fun U => U.heap.size = sz ∧ hW dC dI ad cy I D U)) (va_Qi (fun r (_ : Unit) => rr = r) (fun _ _ => True) (fun q => sz ≤ q)) 0 0 (fun q => sz ≤ q) := by
  refine Met.ofW (cc := cX4_ofMix) (maxL := 4) (ret := (some .int)) (by decide) rfl ?_
  intro p e s m args below meth c s₁ B hml hv
  obtain ⟨rfl, hsz, hP, hK, hN⟩ := hv
  have hx := B.exec
  have hb := B.bytes
  have hr := B.returns
  have hts := atoms_spec (ws := wsX4_ofMix) B.pre
  have hown : s.vm.findClass RX4 = some m.cls := findClass_of_methodNamed B.named
  have hlocks := B.notSynchronized
  subst hsz
  generalize hAe : (fun q : Nat => s.heap.size ≤ q) = A
  have hA : ∀ q : Nat, s.heap.size ≤ q → A q := fun q h => by rw [← hAe]; exact h
  obtain ⟨H, hH⟩ : ∃ H : Heap, H = s.heap := ⟨_, rfl⟩
  have hS : va_S A s.heap H [] := by rw [hH]; exact va_S.rf
  rw [← hH]
  rw [← hH] at hP
  have hl := lv_entry ([.ref (ad 0), .int p1, .int p2]) (n := 4) (Nat.le_of_ble_eq_true rfl)
  rw [lg_entry_eq]
  generalize (lg_sl ([.ref (ad 0), .int p1, .int p2]) ++ List.replicate (4 - (lg_sl ([.ref (ad 0), .int p1, .int p2])).length) Slot.unset).toArray = ls at hl ⊢
  have hl : lv_has ls 4 [(0, .ref (ad 0)), (1, .int p1), (2, .int p2)] := hl
  unfold f_X4_ofMix at hf
  refine lv_iload_n hx hb dX4_ofMix_0 rfl (lv_at hl 1 rfl) ?_
  refine lv_aload_n hx hb dX4_ofMix_1 rfl (lv_at hl 0 rfl) ?_
  refine va_get (D := (dC, dI)) (ci := 4) (v := .int (I 0 6)) (C := RX4) (T := TX4) (N := 14) hx hb hts iX4_ofMix_RX4 hown hK hP 0 heH_0 rfl 6 (by decide) (hts (.fieldLink RX4 41 "OverrunHouse" "mixCount" "I") (List.mem_cons_of_mem _ (List.mem_append_left _ (List.mem_append_left _ (List.mem_append_left _ (List.mem_append_left _ (List.mem_append_left _ (List.mem_of_getElem? (i := 0) rfl)))))))) (fun _ h9 => h9) rfl dX4_ofMix_2 ?_
  obtain ⟨_, g_2, hf⟩ := bE_ok hf
  refine va_callv (va_runS (As := [.int p1, .int (I 0 6)]) (rest := []) ⟨hx, hb, hml, hown, hts⟩ (mt_X4_checkNumber l H.size p1 (I 0 6)  g_2) (va_cwS 2 hts gX4_ofMix_X4_checkNumber rfl rfl rfl (by decide +kernel) ⟨Nat.le_of_ble_eq_true rfl, Nat.le_of_ble_eq_true rfl⟩) (pre0 [.int p1, .int (I 0 6)]) rfl rfl hl.1 rfl (lv_room (Nat.le_of_ble_eq_true rfl)) dX4_ofMix_5 ⟨Nat.le_of_ble_eq_true rfl, Nat.le_of_ble_eq_true rfl⟩) hS (fun q _ h => hA q (Nat.le_trans hS.1 h)) (fun q h => hA q (Nat.le_trans hS.1 h)) (fun u t H1 locs ht hvm hw hB hz1 hk1 hS => ?_)
  have hP := va_Pnew hP hk1
  clear hB hz1 hk1 hvm ht
  generalize H1 = H at hP hS ⊢
  refine lv_iload_n hx hb dX4_ofMix_8 rfl (lv_at hl 2 rfl) ?_
  refine lv_iconst (v := 0) hx hb dX4_ofMix_9 (by decide) ?_
  refine lv_bipush (v := 8) hx hb dX4_ofMix_10 (by decide) ?_
  obtain ⟨_, g_4, hf⟩ := bE_ok hf
  refine va_callv (va_runS (As := [.int p2, .int 0, .int 8]) (rest := []) ⟨hx, hb, hml, hown, hts⟩ (mt_X4_checkRange l H.size p2 0 8  g_4) (va_cwS 3 hts gX4_ofMix_X4_checkRange rfl rfl rfl (by decide +kernel) ⟨Nat.le_of_ble_eq_true rfl, Nat.le_of_ble_eq_true rfl⟩) (pre0 [.int p2, .int 0, .int 8]) rfl rfl hl.1 rfl (lv_room (Nat.le_of_ble_eq_true rfl)) dX4_ofMix_12 ⟨Nat.le_of_ble_eq_true rfl, Nat.le_of_ble_eq_true rfl⟩) hS (fun q _ h => hA q (Nat.le_trans hS.1 h)) (fun q h => hA q (Nat.le_trans hS.1 h)) (fun u t H1 locs ht hvm hw hB hz1 hk1 hS => ?_)
  have hP := va_Pnew hP hk1
  clear hB hz1 hk1 hvm ht
  generalize H1 = H at hP hS ⊢
  refine lv_aload_n hx hb dX4_ofMix_15 rfl (lv_at hl 0 rfl) ?_
  refine va_get (D := (dC, dI)) (ci := 4) (v := .ref (ad 2)) (C := RX4) (T := TX4) (N := 14) hx hb hts iX4_ofMix_RX4 hown hK hP 0 heH_0 rfl 1 (by decide) (hts (.fieldLink RX4 17 "OverrunHouse" "mixes" "[LOverrunHouse$Mix;") (List.mem_cons_of_mem _ (List.mem_append_left _ (List.mem_append_left _ (List.mem_append_left _ (List.mem_append_left _ (List.mem_append_left _ (List.mem_of_getElem? (i := 1) rfl)))))))) (fun _ h9 => h9) rfl dX4_ofMix_16 ?_
  refine lv_iload_n hx hb dX4_ofMix_19 rfl (lv_at hl 1 rfl) ?_
  obtain ⟨h_5, hf⟩ := ck_out hf
  refine wr_aald (b := 13) (n := 5) hx hb hK hP 2 2 heH_2 rfl (inB_in h_5) dX4_ofMix_20 ?_
  refine lv_astore_n (lv' := [(3, .ref (ad (13 + (p1).toNatClampNeg))), (0, .ref (ad 0)), (1, .int p1), (2, .int p2)]) hx hb dX4_ofMix_21 rfl hl (by decide) rfl (fun ls hl => ?_)
  refine lv_iload_n hx hb dX4_ofMix_22 rfl (lv_at hl 3 rfl) ?_
  by_cases c_6 : p2 = 0
  · have hf := it_t hf c_6
    refine lv_tableIn (off := 45) (tgt := 68) hx hb dX4_ofMix_23 (by rw [c_6]; decide) (by rw [c_6]; decide) (by rw [c_6]; decide) (by decide) ?_
    refine lv_aload_n hx hb dX4_ofMix_68 rfl (lv_at hl 0 rfl) ?_
    refine va_getN (D := (dC, dI)) (ci := 2) (v := .int (I (13 + (p1).toNatClampNeg) 0)) (C := RX2) (T := TX2) (N := 12) hx hb hts iX4_ofMix_RX2 hown hK hP (13 + (p1).toNatClampNeg) (heH_Mix (inB_lt h_5)) rfl 0 (by decide) (va_Nw.use (w := .fieldLinkNest "OverrunHouse" 99 "OverrunHouse$Mix" "kilos" "I" "OverrunHouse") rfl (hN _ (List.mem_of_getElem? (i := 10) rfl))) (fun _ h9 => h9) rfl dX4_ofMix_69 ?_
    have hf := ok_in hf
    have q1 := hf
    exact W.iret (v := (I (13 + (p1).toNatClampNeg) 0)) hx hb hr (fun t ht hW9 => ⟨⟨(I (13 + (p1).toNatClampNeg) 0), (), rfl, q1.symm, trivial⟩, hS.F ht⟩) hS.2.2 dX4_ofMix_72
  · have hf := it_f hf c_6
    by_cases c_7 : p2 = 1
    · have hf := it_t hf c_7
      refine lv_tableIn (off := 50) (tgt := 73) hx hb dX4_ofMix_23 (by rw [c_7]; decide) (by rw [c_7]; decide) (by rw [c_7]; decide) (by decide) ?_
      refine lv_aload_n hx hb dX4_ofMix_73 rfl (lv_at hl 0 rfl) ?_
      refine va_getN (D := (dC, dI)) (ci := 2) (v := .int (I (13 + (p1).toNatClampNeg) 1)) (C := RX2) (T := TX2) (N := 12) hx hb hts iX4_ofMix_RX2 hown hK hP (13 + (p1).toNatClampNeg) (heH_Mix (inB_lt h_5)) rfl 1 (by decide) (va_Nw.use (w := .fieldLinkNest "OverrunHouse" 127 "OverrunHouse$Mix" "left" "I" "OverrunHouse") rfl (hN _ (List.mem_of_getElem? (i := 11) rfl))) (fun _ h9 => h9) rfl dX4_ofMix_74 ?_
      have hf := ok_in hf
      have q1 := hf
      exact W.iret (v := (I (13 + (p1).toNatClampNeg) 1)) hx hb hr (fun t ht hW9 => ⟨⟨(I (13 + (p1).toNatClampNeg) 1), (), rfl, q1.symm, trivial⟩, hS.F ht⟩) hS.2.2 dX4_ofMix_77
    · have hf := it_f hf c_7
      by_cases c_8 : p2 = 2
      · have hf := it_t hf c_8
        refine lv_tableIn (off := 55) (tgt := 78) hx hb dX4_ofMix_23 (by rw [c_8]; decide) (by rw [c_8]; decide) (by rw [c_8]; decide) (by decide) ?_
        refine lv_aload_n hx hb dX4_ofMix_78 rfl (lv_at hl 0 rfl) ?_
        refine va_getN (D := (dC, dI)) (ci := 2) (v := .int (I (13 + (p1).toNatClampNeg) 5)) (C := RX2) (T := TX2) (N := 12) hx hb hts iX4_ofMix_RX2 hown hK hP (13 + (p1).toNatClampNeg) (heH_Mix (inB_lt h_5)) rfl 5 (by decide) (va_Nw.use (w := .fieldLinkNest "OverrunHouse" 212 "OverrunHouse$Mix" "cost" "I" "OverrunHouse") rfl (hN _ (List.mem_of_getElem? (i := 12) rfl))) (fun _ h9 => h9) rfl dX4_ofMix_79 ?_
        have hf := ok_in hf
        have q1 := hf
        exact W.iret (v := (I (13 + (p1).toNatClampNeg) 5)) hx hb hr (fun t ht hW9 => ⟨⟨(I (13 + (p1).toNatClampNeg) 5), (), rfl, q1.symm, trivial⟩, hS.F ht⟩) hS.2.2 dX4_ofMix_82
      · have hf := it_f hf c_8
        by_cases c_9 : p2 = 3
        · have hf := it_t hf c_9
          refine lv_tableIn (off := 60) (tgt := 83) hx hb dX4_ofMix_23 (by rw [c_9]; decide) (by rw [c_9]; decide) (by rw [c_9]; decide) (by decide) ?_
          refine lv_aload_n hx hb dX4_ofMix_83 rfl (lv_at hl 0 rfl) ?_
          refine va_getN (D := (dC, dI)) (ci := 2) (v := .int (I (13 + (p1).toNatClampNeg) 6)) (C := RX2) (T := TX2) (N := 12) hx hb hts iX4_ofMix_RX2 hown hK hP (13 + (p1).toNatClampNeg) (heH_Mix (inB_lt h_5)) rfl 6 (by decide) (va_Nw.use (w := .fieldLinkNest "OverrunHouse" 130 "OverrunHouse$Mix" "harms" "I" "OverrunHouse") rfl (hN _ (List.mem_of_getElem? (i := 13) rfl))) (fun _ h9 => h9) rfl dX4_ofMix_84 ?_
          have hf := ok_in hf
          have q1 := hf
          exact W.iret (v := (I (13 + (p1).toNatClampNeg) 6)) hx hb hr (fun t ht hW9 => ⟨⟨(I (13 + (p1).toNatClampNeg) 6), (), rfl, q1.symm, trivial⟩, hS.F ht⟩) hS.2.2 dX4_ofMix_87
        · have hf := it_f hf c_9
          by_cases c_10 : p2 = 4
          · have hf := it_t hf c_10
            refine lv_tableIn (off := 65) (tgt := 88) hx hb dX4_ofMix_23 (by rw [c_10]; decide) (by rw [c_10]; decide) (by rw [c_10]; decide) (by decide) ?_
            refine lv_aload_n hx hb dX4_ofMix_88 rfl (lv_at hl 0 rfl) ?_
            refine va_getN (D := (dC, dI)) (ci := 2) (v := .int (I (13 + (p1).toNatClampNeg) 10)) (C := RX2) (T := TX2) (N := 12) hx hb hts iX4_ofMix_RX2 hown hK hP (13 + (p1).toNatClampNeg) (heH_Mix (inB_lt h_5)) rfl 10 (by decide) (va_Nw.use (w := .fieldLinkNest "OverrunHouse" 112 "OverrunHouse$Mix" "isProved" "Z" "OverrunHouse") rfl (hN _ (List.mem_of_getElem? (i := 17) rfl))) (fun _ h9 => h9) rfl dX4_ofMix_89 ?_
            refine lv_if_eq (tgt := 99) hx hb dX4_ofMix_92 (by decide) (fun c_11 => ?_) (fun c_11 => ?_)
            · have hf := it_t hf c_11
              refine lv_iconst (v := 0) hx hb dX4_ofMix_99 (by decide) ?_
              have hf := ok_in hf
              have q1 := hf
              exact W.iret (v := 0) hx hb hr (fun t ht hW9 => ⟨⟨0, (), rfl, q1.symm, trivial⟩, hS.F ht⟩) hS.2.2 dX4_ofMix_100
            · have hf := it_f hf c_11
              refine lv_iconst (v := 1) hx hb dX4_ofMix_95 (by decide) ?_
              refine lv_goto (tgt := 100) hx hb dX4_ofMix_96 (by decide) ?_
              have hf := ok_in hf
              have q1 := hf
              exact W.iret (v := 1) hx hb hr (fun t ht hW9 => ⟨⟨1, (), rfl, q1.symm, trivial⟩, hS.F ht⟩) hS.2.2 dX4_ofMix_100
          · have hf := it_f hf c_10
            by_cases c_12 : p2 = 5
            · have hf := it_t hf c_12
              refine lv_tableIn (off := 78) (tgt := 101) hx hb dX4_ofMix_23 (by rw [c_12]; decide) (by rw [c_12]; decide) (by rw [c_12]; decide) (by decide) ?_
              refine lv_aload_n hx hb dX4_ofMix_101 rfl (lv_at hl 0 rfl) ?_
              refine va_getN (D := (dC, dI)) (ci := 2) (v := .int (I (13 + (p1).toNatClampNeg) 8)) (C := RX2) (T := TX2) (N := 12) hx hb hts iX4_ofMix_RX2 hown hK hP (13 + (p1).toNatClampNeg) (heH_Mix (inB_lt h_5)) rfl 8 (by decide) (va_Nw.use (w := .fieldLinkNest "OverrunHouse" 120 "OverrunHouse$Mix" "age" "I" "OverrunHouse") rfl (hN _ (List.mem_of_getElem? (i := 15) rfl))) (fun _ h9 => h9) rfl dX4_ofMix_102 ?_
              have hf := ok_in hf
              have q1 := hf
              exact W.iret (v := (I (13 + (p1).toNatClampNeg) 8)) hx hb hr (fun t ht hW9 => ⟨⟨(I (13 + (p1).toNatClampNeg) 8), (), rfl, q1.symm, trivial⟩, hS.F ht⟩) hS.2.2 dX4_ofMix_105
            · have hf := it_f hf c_12
              by_cases c_13 : p2 = 6
              · have hf := it_t hf c_13
                refine lv_tableIn (off := 83) (tgt := 106) hx hb dX4_ofMix_23 (by rw [c_13]; decide) (by rw [c_13]; decide) (by rw [c_13]; decide) (by decide) ?_
                refine lv_aload_n hx hb dX4_ofMix_106 rfl (lv_at hl 0 rfl) ?_
                obtain ⟨r_14, g_15, hf⟩ := bd_out hf
                refine va_calli (va_runVN (As := []) (rest := []) ⟨hx, hb, hml, hown, hts⟩ (mt_X2_isCream l dC dI ad cy hJ H.size I D (p1).toNatClampNeg (inB_lt h_5) r_14 g_15) ⟨va_cnB 0 hts gX4_ofMix_X2_isCream_n213 rfl rfl rfl (hN (.methodLinkNest "OverrunHouse" 213 ⟨"OverrunHouse$Mix", "isCream", "()Z"⟩ "OverrunHouse") (List.mem_of_getElem? (i := 28) rfl)) (hts (.initialized RX2) (List.mem_cons_of_mem _ (List.mem_append_left _ (List.mem_append_left _ (List.mem_append_left _ (List.mem_append_left _ (List.mem_append_left _ (List.mem_of_getElem? (i := 14) rfl)))))))) (by decide +kernel) ⟨Nat.le_of_ble_eq_true rfl, Nat.le_of_ble_eq_true rfl⟩, (hts (.instanceMethod yX2_isCream) (List.mem_cons_of_mem _ (List.mem_append_left _ (List.mem_append_left _ (List.mem_append_left _ (List.mem_append_left _ (List.mem_append_left _ (List.mem_of_getElem? (i := 13) rfl)))))))), (hts (.selects RX2 yX2_isCream yX2_isCream) (List.mem_cons_of_mem _ (List.mem_append_left _ (List.mem_append_left _ (List.mem_append_left _ (List.mem_append_left _ (List.mem_append_left _ (List.mem_of_getElem? (i := 15) rfl))))))))⟩ ⟨(hW.pre [.ref (ad (13 + (p1).toNatClampNeg))] hP hK hN).1, hW.recv (C := RX2) (T := TX2) (N := 12) hP hK (heH_Mix (inB_lt h_5)) rfl, (hW.pre [.ref (ad (13 + (p1).toNatClampNeg))] hP hK hN).2⟩ rfl rfl hl.1 rfl (lv_room (Nat.le_of_ble_eq_true rfl)) dX4_ofMix_107 ⟨Nat.le_of_ble_eq_true rfl, Nat.le_of_ble_eq_true rfl⟩) hS (fun q _ h => hA q (Nat.le_trans hS.1 h)) (fun q h => hA q (Nat.le_trans hS.1 h)) (fun r9 u t H1 locs ht hvm hw hB hz1 hk1 hS => ?_)
                subst hw
                have hP := va_Pnew hP hk1
                clear hB hz1 hk1 hvm ht
                generalize H1 = H at hP hS ⊢
                refine lv_if_eq (tgt := 117) hx hb dX4_ofMix_110 (by decide) (fun c_16 => ?_) (fun c_16 => ?_)
                · have hf := it_t hf c_16
                  refine lv_iconst (v := 0) hx hb dX4_ofMix_117 (by decide) ?_
                  have hf := ok_in hf
                  have q1 := hf
                  exact W.iret (v := 0) hx hb hr (fun t ht hW9 => ⟨⟨0, (), rfl, q1.symm, trivial⟩, hS.F ht⟩) hS.2.2 dX4_ofMix_118
                · have hf := it_f hf c_16
                  refine lv_iconst (v := 1) hx hb dX4_ofMix_113 (by decide) ?_
                  refine lv_goto (tgt := 118) hx hb dX4_ofMix_114 (by decide) ?_
                  have hf := ok_in hf
                  have q1 := hf
                  exact W.iret (v := 1) hx hb hr (fun t ht hW9 => ⟨⟨1, (), rfl, q1.symm, trivial⟩, hS.F ht⟩) hS.2.2 dX4_ofMix_118
              · have hf := it_f hf c_13
                by_cases c_17 : p2 = 7
                · have hf := it_t hf c_17
                  refine lv_tableIn (off := 96) (tgt := 119) hx hb dX4_ofMix_23 (by rw [c_17]; decide) (by rw [c_17]; decide) (by rw [c_17]; decide) (by decide) ?_
                  refine lv_aload_n hx hb dX4_ofMix_119 rfl (lv_at hl 0 rfl) ?_
                  refine va_getN (D := (dC, dI)) (ci := 2) (v := .int (I (13 + (p1).toNatClampNeg) 7)) (C := RX2) (T := TX2) (N := 12) hx hb hts iX4_ofMix_RX2 hown hK hP (13 + (p1).toNatClampNeg) (heH_Mix (inB_lt h_5)) rfl 7 (by decide) (va_Nw.use (w := .fieldLinkNest "OverrunHouse" 209 "OverrunHouse$Mix" "ingredientSet" "I" "OverrunHouse") rfl (hN _ (List.mem_of_getElem? (i := 14) rfl))) (fun _ h9 => h9) rfl dX4_ofMix_120 ?_
                  have hf := ok_in hf
                  have q1 := hf
                  exact W.iret (v := (I (13 + (p1).toNatClampNeg) 7)) hx hb hr (fun t ht hW9 => ⟨⟨(I (13 + (p1).toNatClampNeg) 7), (), rfl, q1.symm, trivial⟩, hS.F ht⟩) hS.2.2 dX4_ofMix_123
                · have hf := it_f hf c_17
                  refine lv_tableOut (tgt := 124) hx hb dX4_ofMix_23 (sw_out8 c_6 c_7 c_8 c_9 c_10 c_12 c_13 c_17) (by decide) ?_
                  refine lv_aload_n hx hb dX4_ofMix_124 rfl (lv_at hl 0 rfl) ?_
                  refine va_getN (D := (dC, dI)) (ci := 2) (v := .int (I (13 + (p1).toNatClampNeg) 9)) (C := RX2) (T := TX2) (N := 12) hx hb hts iX4_ofMix_RX2 hown hK hP (13 + (p1).toNatClampNeg) (heH_Mix (inB_lt h_5)) rfl 9 (by decide) (va_Nw.use (w := .fieldLinkNest "OverrunHouse" 102 "OverrunHouse$Mix" "batchesOfIt" "I" "OverrunHouse") rfl (hN _ (List.mem_of_getElem? (i := 16) rfl))) (fun _ h9 => h9) rfl dX4_ofMix_125 ?_
                  have hf := ok_in hf
                  have q1 := hf
                  exact W.iret (v := (I (13 + (p1).toNatClampNeg) 9)) hx hb hr (fun t ht hW9 => ⟨⟨(I (13 + (p1).toNatClampNeg) 9), (), rfl, q1.symm, trivial⟩, hS.F ht⟩) hS.2.2 dX4_ofMix_128

def f_X4_ofBatch (I : Nat → Nat → Int32) (D : Nat → Nat → UInt64) (p1 : Int32) (p2 : Int32) : Option (Except String (Int32)) :=
  bE (f_X4_checkNumber p1 (I 0 7)) (fun _ => bE (f_X4_checkRange p2 0 5) (fun _ => ck (inB p1 12) ((if p2 = 0 then some (Except.ok (I (18 + (p1).toNatClampNeg) 0)) else (if p2 = 1 then some (Except.ok (I (18 + (p1).toNatClampNeg) 1)) else (if p2 = 2 then (if (I (18 + (p1).toNatClampNeg) 3) = 0 then some (Except.ok 0) else some (Except.ok 1)) else (if p2 = 3 then some (Except.ok (I (18 + (p1).toNatClampNeg) 2)) else (if p2 = 4 then bd (f_X0_isCoarse I D (p1).toNatClampNeg) (fun r_12 => (if r_12 = 0 then some (Except.ok 0) else some (Except.ok 1))) else bd (f_X4_isCalled I D (p1).toNatClampNeg) (fun r_15 => (if r_15 = 0 then some (Except.ok 0) else some (Except.ok 1)))))))))))
theorem iX4_ofBatch_RX0 : ∀ w ∈ u_ws RX0 TX0 5, w ∈ wsX4_ofBatch := fun w h => List.mem_cons_of_mem _ (List.mem_append_left _ (List.mem_append_left _ (List.mem_append_left _ (List.mem_append_right _ (h)))))
theorem iX4_ofBatch_RX4 : ∀ w ∈ u_ws RX4 TX4 14, w ∈ wsX4_ofBatch := fun w h => List.mem_cons_of_mem _ (List.mem_append_left _ (List.mem_append_left _ (List.mem_append_left _ (List.mem_append_left _ (List.mem_append_right _ (h))))))
set_option maxHeartbeats 4000000 in
set_option maxRecDepth 100000 in
theorem mt_X4_ofBatch (l : Launch) (dC : Nat → ClassId) (dI : Nat → Nat → Nat) (ad : Nat → Nat) (cy : Nat → ClassId) (hJ : J33 ad) (sz : Nat) (I : Nat → Nat → Int32) (D : Nat → Nat → UInt64) (p1 : Int32) (p2 : Int32) (rr : Int32) (hf : f_X4_ofBatch I D p1 p2 = some (Except.ok rr)) : Met l yX4_ofBatch wsX4_ofBatch ({ frames := 2, cells := 0, slots := 0, locals := 43 }) (va_Pc [.ref (ad 0), .int p1, .int p2] (fun U => U.heap.size = sz ∧ hW dC dI ad cy I D U)) (va_Qi (fun r (_ : Unit) => rr = r) (fun _ _ => True) (fun q => sz ≤ q)) 0 0 (fun q => sz ≤ q) := by
  refine Met.ofW (cc := cX4_ofBatch) (maxL := 4) (ret := (some .int)) (by decide) rfl ?_
  intro p e s m args below meth c s₁ B hml hv
  obtain ⟨rfl, hsz, hP, hK, hN⟩ := hv
  have hx := B.exec
  have hb := B.bytes
  have hr := B.returns
  have hts := atoms_spec (ws := wsX4_ofBatch) B.pre
  have hown : s.vm.findClass RX4 = some m.cls := findClass_of_methodNamed B.named
  have hlocks := B.notSynchronized
  subst hsz
  generalize hAe : (fun q : Nat => s.heap.size ≤ q) = A
  have hA : ∀ q : Nat, s.heap.size ≤ q → A q := fun q h => by rw [← hAe]; exact h
  obtain ⟨H, hH⟩ : ∃ H : Heap, H = s.heap := ⟨_, rfl⟩
  have hS : va_S A s.heap H [] := by rw [hH]; exact va_S.rf
  rw [← hH]
  rw [← hH] at hP
  have hl := lv_entry ([.ref (ad 0), .int p1, .int p2]) (n := 4) (Nat.le_of_ble_eq_true rfl)
  rw [lg_entry_eq]
  generalize (lg_sl ([.ref (ad 0), .int p1, .int p2]) ++ List.replicate (4 - (lg_sl ([.ref (ad 0), .int p1, .int p2])).length) Slot.unset).toArray = ls at hl ⊢
  have hl : lv_has ls 4 [(0, .ref (ad 0)), (1, .int p1), (2, .int p2)] := hl
  unfold f_X4_ofBatch at hf
  refine lv_iload_n hx hb dX4_ofBatch_0 rfl (lv_at hl 1 rfl) ?_
  refine lv_aload_n hx hb dX4_ofBatch_1 rfl (lv_at hl 0 rfl) ?_
  refine va_get (D := (dC, dI)) (ci := 4) (v := .int (I 0 7)) (C := RX4) (T := TX4) (N := 14) hx hb hts iX4_ofBatch_RX4 hown hK hP 0 heH_0 rfl 7 (by decide) (hts (.fieldLink RX4 44 "OverrunHouse" "batchCount" "I") (List.mem_cons_of_mem _ (List.mem_append_left _ (List.mem_append_left _ (List.mem_append_left _ (List.mem_append_left _ (List.mem_append_left _ (List.mem_append_left _ (List.mem_of_getElem? (i := 0) rfl))))))))) (fun _ h9 => h9) rfl dX4_ofBatch_2 ?_
  obtain ⟨_, g_2, hf⟩ := bE_ok hf
  refine va_callv (va_runS (As := [.int p1, .int (I 0 7)]) (rest := []) ⟨hx, hb, hml, hown, hts⟩ (mt_X4_checkNumber l H.size p1 (I 0 7)  g_2) (va_cwS 2 hts gX4_ofBatch_X4_checkNumber rfl rfl rfl (by decide +kernel) ⟨Nat.le_of_ble_eq_true rfl, Nat.le_of_ble_eq_true rfl⟩) (pre0 [.int p1, .int (I 0 7)]) rfl rfl hl.1 rfl (lv_room (Nat.le_of_ble_eq_true rfl)) dX4_ofBatch_5 ⟨Nat.le_of_ble_eq_true rfl, Nat.le_of_ble_eq_true rfl⟩) hS (fun q _ h => hA q (Nat.le_trans hS.1 h)) (fun q h => hA q (Nat.le_trans hS.1 h)) (fun u t H1 locs ht hvm hw hB hz1 hk1 hS => ?_)
  have hP := va_Pnew hP hk1
  clear hB hz1 hk1 hvm ht
  generalize H1 = H at hP hS ⊢
  refine lv_iload_n hx hb dX4_ofBatch_8 rfl (lv_at hl 2 rfl) ?_
  refine lv_iconst (v := 0) hx hb dX4_ofBatch_9 (by decide) ?_
  refine lv_iconst (v := 5) hx hb dX4_ofBatch_10 (by decide) ?_
  obtain ⟨_, g_4, hf⟩ := bE_ok hf
  refine va_callv (va_runS (As := [.int p2, .int 0, .int 5]) (rest := []) ⟨hx, hb, hml, hown, hts⟩ (mt_X4_checkRange l H.size p2 0 5  g_4) (va_cwS 3 hts gX4_ofBatch_X4_checkRange rfl rfl rfl (by decide +kernel) ⟨Nat.le_of_ble_eq_true rfl, Nat.le_of_ble_eq_true rfl⟩) (pre0 [.int p2, .int 0, .int 5]) rfl rfl hl.1 rfl (lv_room (Nat.le_of_ble_eq_true rfl)) dX4_ofBatch_11 ⟨Nat.le_of_ble_eq_true rfl, Nat.le_of_ble_eq_true rfl⟩) hS (fun q _ h => hA q (Nat.le_trans hS.1 h)) (fun q h => hA q (Nat.le_trans hS.1 h)) (fun u t H1 locs ht hvm hw hB hz1 hk1 hS => ?_)
  have hP := va_Pnew hP hk1
  clear hB hz1 hk1 hvm ht
  generalize H1 = H at hP hS ⊢
  refine lv_aload_n hx hb dX4_ofBatch_14 rfl (lv_at hl 0 rfl) ?_
  refine va_get (D := (dC, dI)) (ci := 4) (v := .ref (ad 3)) (C := RX4) (T := TX4) (N := 14) hx hb hts iX4_ofBatch_RX4 hown hK hP 0 heH_0 rfl 2 (by decide) (hts (.fieldLink RX4 23 "OverrunHouse" "batches" "[LOverrunHouse$Batch;") (List.mem_cons_of_mem _ (List.mem_append_left _ (List.mem_append_left _ (List.mem_append_left _ (List.mem_append_left _ (List.mem_append_left _ (List.mem_append_left _ (List.mem_of_getElem? (i := 1) rfl))))))))) (fun _ h9 => h9) rfl dX4_ofBatch_15 ?_
  refine lv_iload_n hx hb dX4_ofBatch_18 rfl (lv_at hl 1 rfl) ?_
  obtain ⟨h_5, hf⟩ := ck_out hf
  refine wr_aald (b := 18) (n := 12) hx hb hK hP 3 3 heH_3 rfl (inB_in h_5) dX4_ofBatch_19 ?_
  refine lv_astore_n (lv' := [(3, .ref (ad (18 + (p1).toNatClampNeg))), (0, .ref (ad 0)), (1, .int p1), (2, .int p2)]) hx hb dX4_ofBatch_20 rfl hl (by decide) rfl (fun ls hl => ?_)
  refine lv_iload_n hx hb dX4_ofBatch_21 rfl (lv_at hl 3 rfl) ?_
  by_cases c_6 : p2 = 0
  · have hf := it_t hf c_6
    refine lv_tableIn (off := 34) (tgt := 56) hx hb dX4_ofBatch_22 (by rw [c_6]; decide) (by rw [c_6]; decide) (by rw [c_6]; decide) (by decide) ?_
    refine lv_aload_n hx hb dX4_ofBatch_56 rfl (lv_at hl 0 rfl) ?_
    refine va_getN (D := (dC, dI)) (ci := 0) (v := .int (I (18 + (p1).toNatClampNeg) 0)) (C := RX0) (T := TX0) (N := 5) hx hb hts iX4_ofBatch_RX0 hown hK hP (18 + (p1).toNatClampNeg) (heH_Batch (inB_lt h_5)) rfl 0 (by decide) (va_Nw.use (w := .fieldLinkNest "OverrunHouse" 131 "OverrunHouse$Batch" "mix" "I" "OverrunHouse") rfl (hN _ (List.mem_of_getElem? (i := 18) rfl))) (fun _ h9 => h9) rfl dX4_ofBatch_57 ?_
    have hf := ok_in hf
    have q1 := hf
    exact W.iret (v := (I (18 + (p1).toNatClampNeg) 0)) hx hb hr (fun t ht hW9 => ⟨⟨(I (18 + (p1).toNatClampNeg) 0), (), rfl, q1.symm, trivial⟩, hS.F ht⟩) hS.2.2 dX4_ofBatch_60
  · have hf := it_f hf c_6
    by_cases c_7 : p2 = 1
    · have hf := it_t hf c_7
      refine lv_tableIn (off := 39) (tgt := 61) hx hb dX4_ofBatch_22 (by rw [c_7]; decide) (by rw [c_7]; decide) (by rw [c_7]; decide) (by decide) ?_
      refine lv_aload_n hx hb dX4_ofBatch_61 rfl (lv_at hl 0 rfl) ?_
      refine va_getN (D := (dC, dI)) (ci := 0) (v := .int (I (18 + (p1).toNatClampNeg) 1)) (C := RX0) (T := TX0) (N := 5) hx hb hts iX4_ofBatch_RX0 hown hK hP (18 + (p1).toNatClampNeg) (heH_Batch (inB_lt h_5)) rfl 1 (by decide) (va_Nw.use (w := .fieldLinkNest "OverrunHouse" 134 "OverrunHouse$Batch" "litres" "I" "OverrunHouse") rfl (hN _ (List.mem_of_getElem? (i := 19) rfl))) (fun _ h9 => h9) rfl dX4_ofBatch_62 ?_
      have hf := ok_in hf
      have q1 := hf
      exact W.iret (v := (I (18 + (p1).toNatClampNeg) 1)) hx hb hr (fun t ht hW9 => ⟨⟨(I (18 + (p1).toNatClampNeg) 1), (), rfl, q1.symm, trivial⟩, hS.F ht⟩) hS.2.2 dX4_ofBatch_65
    · have hf := it_f hf c_7
      by_cases c_8 : p2 = 2
      · have hf := it_t hf c_8
        refine lv_tableIn (off := 44) (tgt := 66) hx hb dX4_ofBatch_22 (by rw [c_8]; decide) (by rw [c_8]; decide) (by rw [c_8]; decide) (by decide) ?_
        refine lv_aload_n hx hb dX4_ofBatch_66 rfl (lv_at hl 0 rfl) ?_
        refine va_getN (D := (dC, dI)) (ci := 0) (v := .int (I (18 + (p1).toNatClampNeg) 3)) (C := RX0) (T := TX0) (N := 5) hx hb hts iX4_ofBatch_RX0 hown hK hP (18 + (p1).toNatClampNeg) (heH_Batch (inB_lt h_5)) rfl 3 (by decide) (va_Nw.use (w := .fieldLinkNest "OverrunHouse" 146 "OverrunHouse$Batch" "isHard" "Z" "OverrunHouse") rfl (hN _ (List.mem_of_getElem? (i := 21) rfl))) (fun _ h9 => h9) rfl dX4_ofBatch_67 ?_
        refine lv_if_eq (tgt := 77) hx hb dX4_ofBatch_70 (by decide) (fun c_9 => ?_) (fun c_9 => ?_)
        · have hf := it_t hf c_9
          refine lv_iconst (v := 0) hx hb dX4_ofBatch_77 (by decide) ?_
          have hf := ok_in hf
          have q1 := hf
          exact W.iret (v := 0) hx hb hr (fun t ht hW9 => ⟨⟨0, (), rfl, q1.symm, trivial⟩, hS.F ht⟩) hS.2.2 dX4_ofBatch_78
        · have hf := it_f hf c_9
          refine lv_iconst (v := 1) hx hb dX4_ofBatch_73 (by decide) ?_
          refine lv_goto (tgt := 78) hx hb dX4_ofBatch_74 (by decide) ?_
          have hf := ok_in hf
          have q1 := hf
          exact W.iret (v := 1) hx hb hr (fun t ht hW9 => ⟨⟨1, (), rfl, q1.symm, trivial⟩, hS.F ht⟩) hS.2.2 dX4_ofBatch_78
      · have hf := it_f hf c_8
        by_cases c_10 : p2 = 3
        · have hf := it_t hf c_10
          refine lv_tableIn (off := 57) (tgt := 79) hx hb dX4_ofBatch_22 (by rw [c_10]; decide) (by rw [c_10]; decide) (by rw [c_10]; decide) (by decide) ?_
          refine lv_aload_n hx hb dX4_ofBatch_79 rfl (lv_at hl 0 rfl) ?_
          refine va_getN (D := (dC, dI)) (ci := 0) (v := .int (I (18 + (p1).toNatClampNeg) 2)) (C := RX0) (T := TX0) (N := 5) hx hb hts iX4_ofBatch_RX0 hown hK hP (18 + (p1).toNatClampNeg) (heH_Batch (inB_lt h_5)) rfl 2 (by decide) (va_Nw.use (w := .fieldLinkNest "OverrunHouse" 143 "OverrunHouse$Batch" "place" "I" "OverrunHouse") rfl (hN _ (List.mem_of_getElem? (i := 20) rfl))) (fun _ h9 => h9) rfl dX4_ofBatch_80 ?_
          have hf := ok_in hf
          have q1 := hf
          exact W.iret (v := (I (18 + (p1).toNatClampNeg) 2)) hx hb hr (fun t ht hW9 => ⟨⟨(I (18 + (p1).toNatClampNeg) 2), (), rfl, q1.symm, trivial⟩, hS.F ht⟩) hS.2.2 dX4_ofBatch_83
        · have hf := it_f hf c_10
          by_cases c_11 : p2 = 4
          · have hf := it_t hf c_11
            refine lv_tableIn (off := 62) (tgt := 84) hx hb dX4_ofBatch_22 (by rw [c_11]; decide) (by rw [c_11]; decide) (by rw [c_11]; decide) (by decide) ?_
            refine lv_aload_n hx hb dX4_ofBatch_84 rfl (lv_at hl 0 rfl) ?_
            obtain ⟨r_12, g_13, hf⟩ := bd_out hf
            refine va_calli (va_runVN (As := []) (rest := []) ⟨hx, hb, hml, hown, hts⟩ (mt_X0_isCoarse l dC dI ad cy hJ H.size I D (p1).toNatClampNeg (inB_lt h_5) r_12 g_13) ⟨va_cnB 0 hts gX4_ofBatch_X0_isCoarse_n196 rfl rfl rfl (hN (.methodLinkNest "OverrunHouse" 196 ⟨"OverrunHouse$Batch", "isCoarse", "()Z"⟩ "OverrunHouse") (List.mem_of_getElem? (i := 29) rfl)) (hts (.initialized RX0) (List.mem_cons_of_mem _ (List.mem_append_left _ (List.mem_append_left _ (List.mem_append_left _ (List.mem_append_left _ (List.mem_append_left _ (List.mem_append_left _ (List.mem_of_getElem? (i := 14) rfl))))))))) (by decide +kernel) ⟨Nat.le_of_ble_eq_true rfl, Nat.le_of_ble_eq_true rfl⟩, (hts (.instanceMethod yX0_isCoarse) (List.mem_cons_of_mem _ (List.mem_append_left _ (List.mem_append_left _ (List.mem_append_left _ (List.mem_append_left _ (List.mem_append_left _ (List.mem_append_left _ (List.mem_of_getElem? (i := 13) rfl))))))))), (hts (.selects RX0 yX0_isCoarse yX0_isCoarse) (List.mem_cons_of_mem _ (List.mem_append_left _ (List.mem_append_left _ (List.mem_append_left _ (List.mem_append_left _ (List.mem_append_left _ (List.mem_append_left _ (List.mem_of_getElem? (i := 15) rfl)))))))))⟩ ⟨(hW.pre [.ref (ad (18 + (p1).toNatClampNeg))] hP hK hN).1, hW.recv (C := RX0) (T := TX0) (N := 5) hP hK (heH_Batch (inB_lt h_5)) rfl, (hW.pre [.ref (ad (18 + (p1).toNatClampNeg))] hP hK hN).2⟩ rfl rfl hl.1 rfl (lv_room (Nat.le_of_ble_eq_true rfl)) dX4_ofBatch_85 ⟨Nat.le_of_ble_eq_true rfl, Nat.le_of_ble_eq_true rfl⟩) hS (fun q _ h => hA q (Nat.le_trans hS.1 h)) (fun q h => hA q (Nat.le_trans hS.1 h)) (fun r9 u t H1 locs ht hvm hw hB hz1 hk1 hS => ?_)
            subst hw
            have hP := va_Pnew hP hk1
            clear hB hz1 hk1 hvm ht
            generalize H1 = H at hP hS ⊢
            refine lv_if_eq (tgt := 95) hx hb dX4_ofBatch_88 (by decide) (fun c_14 => ?_) (fun c_14 => ?_)
            · have hf := it_t hf c_14
              refine lv_iconst (v := 0) hx hb dX4_ofBatch_95 (by decide) ?_
              have hf := ok_in hf
              have q1 := hf
              exact W.iret (v := 0) hx hb hr (fun t ht hW9 => ⟨⟨0, (), rfl, q1.symm, trivial⟩, hS.F ht⟩) hS.2.2 dX4_ofBatch_96
            · have hf := it_f hf c_14
              refine lv_iconst (v := 1) hx hb dX4_ofBatch_91 (by decide) ?_
              refine lv_goto (tgt := 96) hx hb dX4_ofBatch_92 (by decide) ?_
              have hf := ok_in hf
              have q1 := hf
              exact W.iret (v := 1) hx hb hr (fun t ht hW9 => ⟨⟨1, (), rfl, q1.symm, trivial⟩, hS.F ht⟩) hS.2.2 dX4_ofBatch_96
          · have hf := it_f hf c_11
            refine lv_tableOut (tgt := 97) hx hb dX4_ofBatch_22 (sw_out5 c_6 c_7 c_8 c_10 c_11) (by decide) ?_
            refine lv_aload_n hx hb dX4_ofBatch_97 rfl (lv_at hl 1 rfl) ?_
            refine lv_aload_n hx hb dX4_ofBatch_98 rfl (lv_at hl 0 rfl) ?_
            obtain ⟨r_15, g_16, hf⟩ := bd_out hf
            refine va_calli (va_runV (As := [.ref (ad (18 + (p1).toNatClampNeg))]) (rest := []) ⟨hx, hb, hml, hown, hts⟩ (mt_X4_isCalled l dC dI ad cy hJ H.size I D (p1).toNatClampNeg (inB_lt h_5) r_15 g_16) (cwV 1 hts gX4_ofBatch_X4_isCalled rfl rfl rfl (by decide +kernel) ⟨Nat.le_of_ble_eq_true rfl, Nat.le_of_ble_eq_true rfl⟩) ⟨(hW.pre [.ref (ad 0), .ref (ad (18 + (p1).toNatClampNeg))] hP hK hN).1, hW.recv (C := RX4) (T := TX4) (N := 14) hP hK heH_0 rfl, (hW.pre [.ref (ad 0), .ref (ad (18 + (p1).toNatClampNeg))] hP hK hN).2⟩ rfl rfl hl.1 rfl (lv_room (Nat.le_of_ble_eq_true rfl)) dX4_ofBatch_99 ⟨Nat.le_of_ble_eq_true rfl, Nat.le_of_ble_eq_true rfl⟩) hS (fun q _ h => hA q (Nat.le_trans hS.1 h)) (fun q h => hA q (Nat.le_trans hS.1 h)) (fun r9 u t H1 locs ht hvm hw hB hz1 hk1 hS => ?_)
            subst hw
            have hP := va_Pnew hP hk1
            clear hB hz1 hk1 hvm ht
            generalize H1 = H at hP hS ⊢
            refine lv_if_eq (tgt := 109) hx hb dX4_ofBatch_102 (by decide) (fun c_17 => ?_) (fun c_17 => ?_)
            · have hf := it_t hf c_17
              refine lv_iconst (v := 0) hx hb dX4_ofBatch_109 (by decide) ?_
              have hf := ok_in hf
              have q1 := hf
              exact W.iret (v := 0) hx hb hr (fun t ht hW9 => ⟨⟨0, (), rfl, q1.symm, trivial⟩, hS.F ht⟩) hS.2.2 dX4_ofBatch_110
            · have hf := it_f hf c_17
              refine lv_iconst (v := 1) hx hb dX4_ofBatch_105 (by decide) ?_
              refine lv_goto (tgt := 110) hx hb dX4_ofBatch_106 (by decide) ?_
              have hf := ok_in hf
              have q1 := hf
              exact W.iret (v := 1) hx hb hr (fun t ht hW9 => ⟨⟨1, (), rfl, q1.symm, trivial⟩, hS.F ht⟩) hS.2.2 dX4_ofBatch_110

def f_X4_crystal (I : Nat → Nat → Int32) (D : Nat → Nat → UInt64) (p1 : Int32) : Option (Except String (UInt64)) :=
  bE (f_X4_checkNumber p1 (I 0 7)) (fun _ => ck (inB p1 12) (some (Except.ok (D (18 + (p1).toNatClampNeg) 4))))
theorem iX4_crystal_RX0 : ∀ w ∈ u_ws RX0 TX0 5, w ∈ wsX4_crystal := fun w h => List.mem_cons_of_mem _ (List.mem_append_left _ (List.mem_append_right _ (h)))
theorem iX4_crystal_RX4 : ∀ w ∈ u_ws RX4 TX4 14, w ∈ wsX4_crystal := fun w h => List.mem_cons_of_mem _ (List.mem_append_left _ (List.mem_append_left _ (List.mem_append_right _ (h))))
set_option maxHeartbeats 4000000 in
set_option maxRecDepth 100000 in
theorem mt_X4_crystal (l : Launch) (dC : Nat → ClassId) (dI : Nat → Nat → Nat) (ad : Nat → Nat) (cy : Nat → ClassId) (hJ : J33 ad) (sz : Nat) (I : Nat → Nat → Int32) (D : Nat → Nat → UInt64) (p1 : Int32) (rr : UInt64) (hf : f_X4_crystal I D p1 = some (Except.ok rr)) : Met l yX4_crystal wsX4_crystal ({ frames := 1, cells := 0, slots := 0, locals := 21 }) (va_Pc [.ref (ad 0), .int p1] (fun U => U.heap.size = sz ∧ hW dC dI ad cy I D U)) (va_Qd (fun r (_ : Unit) => rr = r) (fun _ _ => True) (fun q => sz ≤ q)) 0 0 (fun q => sz ≤ q) := by
  refine Met.ofW (cc := cX4_crystal) (maxL := 2) (ret := (some .double)) (by decide) rfl ?_
  intro p e s m args below meth c s₁ B hml hv
  obtain ⟨rfl, hsz, hP, hK, hN⟩ := hv
  have hx := B.exec
  have hb := B.bytes
  have hr := B.returns
  have hts := atoms_spec (ws := wsX4_crystal) B.pre
  have hown : s.vm.findClass RX4 = some m.cls := findClass_of_methodNamed B.named
  have hlocks := B.notSynchronized
  subst hsz
  generalize hAe : (fun q : Nat => s.heap.size ≤ q) = A
  have hA : ∀ q : Nat, s.heap.size ≤ q → A q := fun q h => by rw [← hAe]; exact h
  obtain ⟨H, hH⟩ : ∃ H : Heap, H = s.heap := ⟨_, rfl⟩
  have hS : va_S A s.heap H [] := by rw [hH]; exact va_S.rf
  rw [← hH]
  rw [← hH] at hP
  have hl := lv_entry ([.ref (ad 0), .int p1]) (n := 2) (Nat.le_of_ble_eq_true rfl)
  rw [lg_entry_eq]
  generalize (lg_sl ([.ref (ad 0), .int p1]) ++ List.replicate (2 - (lg_sl ([.ref (ad 0), .int p1])).length) Slot.unset).toArray = ls at hl ⊢
  have hl : lv_has ls 2 [(0, .ref (ad 0)), (1, .int p1)] := hl
  unfold f_X4_crystal at hf
  refine lv_iload_n hx hb dX4_crystal_0 rfl (lv_at hl 1 rfl) ?_
  refine lv_aload_n hx hb dX4_crystal_1 rfl (lv_at hl 0 rfl) ?_
  refine va_get (D := (dC, dI)) (ci := 4) (v := .int (I 0 7)) (C := RX4) (T := TX4) (N := 14) hx hb hts iX4_crystal_RX4 hown hK hP 0 heH_0 rfl 7 (by decide) (hts (.fieldLink RX4 44 "OverrunHouse" "batchCount" "I") (List.mem_cons_of_mem _ (List.mem_append_left _ (List.mem_append_left _ (List.mem_append_left _ (List.mem_of_getElem? (i := 0) rfl)))))) (fun _ h9 => h9) rfl dX4_crystal_2 ?_
  obtain ⟨_, g_2, hf⟩ := bE_ok hf
  refine va_callv (va_runS (As := [.int p1, .int (I 0 7)]) (rest := []) ⟨hx, hb, hml, hown, hts⟩ (mt_X4_checkNumber l H.size p1 (I 0 7)  g_2) (va_cwS 2 hts gX4_crystal_X4_checkNumber rfl rfl rfl (by decide +kernel) ⟨Nat.le_of_ble_eq_true rfl, Nat.le_of_ble_eq_true rfl⟩) (pre0 [.int p1, .int (I 0 7)]) rfl rfl hl.1 rfl (lv_room (Nat.le_of_ble_eq_true rfl)) dX4_crystal_5 ⟨Nat.le_of_ble_eq_true rfl, Nat.le_of_ble_eq_true rfl⟩) hS (fun q _ h => hA q (Nat.le_trans hS.1 h)) (fun q h => hA q (Nat.le_trans hS.1 h)) (fun u t H1 locs ht hvm hw hB hz1 hk1 hS => ?_)
  have hP := va_Pnew hP hk1
  clear hB hz1 hk1 hvm ht
  generalize H1 = H at hP hS ⊢
  refine lv_aload_n hx hb dX4_crystal_8 rfl (lv_at hl 0 rfl) ?_
  refine va_get (D := (dC, dI)) (ci := 4) (v := .ref (ad 3)) (C := RX4) (T := TX4) (N := 14) hx hb hts iX4_crystal_RX4 hown hK hP 0 heH_0 rfl 2 (by decide) (hts (.fieldLink RX4 23 "OverrunHouse" "batches" "[LOverrunHouse$Batch;") (List.mem_cons_of_mem _ (List.mem_append_left _ (List.mem_append_left _ (List.mem_append_left _ (List.mem_of_getElem? (i := 1) rfl)))))) (fun _ h9 => h9) rfl dX4_crystal_9 ?_
  refine lv_iload_n hx hb dX4_crystal_12 rfl (lv_at hl 1 rfl) ?_
  obtain ⟨h_3, hf⟩ := ck_out hf
  refine wr_aald (b := 18) (n := 12) hx hb hK hP 3 3 heH_3 rfl (inB_in h_3) dX4_crystal_13 ?_
  refine va_getN (D := (dC, dI)) (ci := 0) (v := .double (D (18 + (p1).toNatClampNeg) 4)) (C := RX0) (T := TX0) (N := 5) hx hb hts iX4_crystal_RX0 hown hK hP (18 + (p1).toNatClampNeg) (heH_Batch (inB_lt h_3)) rfl 4 (by decide) (va_Nw.use (w := .fieldLinkNest "OverrunHouse" 139 "OverrunHouse$Batch" "crystal" "D" "OverrunHouse") rfl (hN _ (List.mem_of_getElem? (i := 22) rfl))) (fun _ h9 => h9) rfl dX4_crystal_14 ?_
  have hf := ok_in hf
  have q1 := hf
  exact W.dret (v := (D (18 + (p1).toNatClampNeg) 4)) hx hb hr (fun t ht hW9 => ⟨⟨(D (18 + (p1).toNatClampNeg) 4), (), rfl, q1.symm, trivial⟩, hS.F ht⟩) hS.2.2 dX4_crystal_17

def f_X4_many (I : Nat → Nat → Int32) (D : Nat → Nat → UInt64) (p1 : Int32) : Option (Except String (Int32)) :=
  bE (f_X4_checkRange p1 0 11) (fun _ => (if p1 = 0 then some (Except.ok (I 0 5)) else (if p1 = 1 then some (Except.ok (I 0 6)) else (if p1 = 2 then some (Except.ok (I 0 7)) else (if p1 = 3 then bd (f_X4_countAt I D 11) (fun r_7 => some (Except.ok r_7)) else (if p1 = 4 then bd (f_X4_countAt I D 10) (fun r_10 => some (Except.ok r_10)) else (if p1 = 5 then some (Except.ok (I 0 8)) else (if p1 = 6 then some (Except.ok (I 0 9)) else (if p1 = 7 then some (Except.ok (I 0 10)) else (if p1 = 8 then ck (inB 0 2) (some (Except.ok (I 5 (0 : Int32).toNatClampNeg))) else (if p1 = 9 then ck (inB 1 2) (some (Except.ok (I 5 (1 : Int32).toNatClampNeg))) else (if p1 = 10 then some (Except.ok (I 0 11)) else some (Except.ok (I 0 12))))))))))))))
theorem iX4_many_RX4 : ∀ w ∈ u_ws RX4 TX4 14, w ∈ wsX4_many := fun w h => List.mem_cons_of_mem _ (List.mem_append_left _ (List.mem_append_left _ (List.mem_append_right _ (h))))
set_option maxHeartbeats 4000000 in
set_option maxRecDepth 100000 in
theorem mt_X4_many (l : Launch) (dC : Nat → ClassId) (dI : Nat → Nat → Nat) (ad : Nat → Nat) (cy : Nat → ClassId) (hJ : J33 ad) (sz : Nat) (I : Nat → Nat → Int32) (D : Nat → Nat → UInt64) (p1 : Int32) (rr : Int32) (hf : f_X4_many I D p1 = some (Except.ok rr)) : Met l yX4_many wsX4_many ({ frames := 1, cells := 0, slots := 0, locals := 23 }) (va_Pc [.ref (ad 0), .int p1] (fun U => U.heap.size = sz ∧ hW dC dI ad cy I D U)) (va_Qi (fun r (_ : Unit) => rr = r) (fun _ _ => True) (fun q => sz ≤ q)) 0 0 (fun q => sz ≤ q) := by
  refine Met.ofW (cc := cX4_many) (maxL := 2) (ret := (some .int)) (by decide) rfl ?_
  intro p e s m args below meth c s₁ B hml hv
  obtain ⟨rfl, hsz, hP, hK, hN⟩ := hv
  have hx := B.exec
  have hb := B.bytes
  have hr := B.returns
  have hts := atoms_spec (ws := wsX4_many) B.pre
  have hown : s.vm.findClass RX4 = some m.cls := findClass_of_methodNamed B.named
  have hlocks := B.notSynchronized
  subst hsz
  generalize hAe : (fun q : Nat => s.heap.size ≤ q) = A
  have hA : ∀ q : Nat, s.heap.size ≤ q → A q := fun q h => by rw [← hAe]; exact h
  obtain ⟨H, hH⟩ : ∃ H : Heap, H = s.heap := ⟨_, rfl⟩
  have hS : va_S A s.heap H [] := by rw [hH]; exact va_S.rf
  rw [← hH]
  rw [← hH] at hP
  have hl := lv_entry ([.ref (ad 0), .int p1]) (n := 2) (Nat.le_of_ble_eq_true rfl)
  rw [lg_entry_eq]
  generalize (lg_sl ([.ref (ad 0), .int p1]) ++ List.replicate (2 - (lg_sl ([.ref (ad 0), .int p1])).length) Slot.unset).toArray = ls at hl ⊢
  have hl : lv_has ls 2 [(0, .ref (ad 0)), (1, .int p1)] := hl
  unfold f_X4_many at hf
  refine lv_iload_n hx hb dX4_many_0 rfl (lv_at hl 1 rfl) ?_
  refine lv_iconst (v := 0) hx hb dX4_many_1 (by decide) ?_
  refine lv_bipush (v := 11) hx hb dX4_many_2 (by decide) ?_
  obtain ⟨_, g_2, hf⟩ := bE_ok hf
  refine va_callv (va_runS (As := [.int p1, .int 0, .int 11]) (rest := []) ⟨hx, hb, hml, hown, hts⟩ (mt_X4_checkRange l H.size p1 0 11  g_2) (va_cwS 3 hts gX4_many_X4_checkRange rfl rfl rfl (by decide +kernel) ⟨Nat.le_of_ble_eq_true rfl, Nat.le_of_ble_eq_true rfl⟩) (pre0 [.int p1, .int 0, .int 11]) rfl rfl hl.1 rfl (lv_room (Nat.le_of_ble_eq_true rfl)) dX4_many_4 ⟨Nat.le_of_ble_eq_true rfl, Nat.le_of_ble_eq_true rfl⟩) hS (fun q _ h => hA q (Nat.le_trans hS.1 h)) (fun q h => hA q (Nat.le_trans hS.1 h)) (fun u t H1 locs ht hvm hw hB hz1 hk1 hS => ?_)
  have hP := va_Pnew hP hk1
  clear hB hz1 hk1 hvm ht
  generalize H1 = H at hP hS ⊢
  refine lv_iload_n hx hb dX4_many_7 rfl (lv_at hl 1 rfl) ?_
  by_cases c_3 : p1 = 0
  · have hf := it_t hf c_3
    refine lv_tableIn (off := 60) (tgt := 68) hx hb dX4_many_8 (by rw [c_3]; decide) (by rw [c_3]; decide) (by rw [c_3]; decide) (by decide) ?_
    refine lv_aload_n hx hb dX4_many_68 rfl (lv_at hl 0 rfl) ?_
    refine va_get (D := (dC, dI)) (ci := 4) (v := .int (I 0 5)) (C := RX4) (T := TX4) (N := 14) hx hb hts iX4_many_RX4 hown hK hP 0 heH_0 rfl 5 (by decide) (hts (.fieldLink RX4 37 "OverrunHouse" "ingredientCount" "I") (List.mem_cons_of_mem _ (List.mem_append_left _ (List.mem_append_left _ (List.mem_append_left _ (List.mem_of_getElem? (i := 0) rfl)))))) (fun _ h9 => h9) rfl dX4_many_69 ?_
    have hf := ok_in hf
    have q1 := hf
    exact W.iret (v := (I 0 5)) hx hb hr (fun t ht hW9 => ⟨⟨(I 0 5), (), rfl, q1.symm, trivial⟩, hS.F ht⟩) hS.2.2 dX4_many_72
  · have hf := it_f hf c_3
    by_cases c_4 : p1 = 1
    · have hf := it_t hf c_4
      refine lv_tableIn (off := 65) (tgt := 73) hx hb dX4_many_8 (by rw [c_4]; decide) (by rw [c_4]; decide) (by rw [c_4]; decide) (by decide) ?_
      refine lv_aload_n hx hb dX4_many_73 rfl (lv_at hl 0 rfl) ?_
      refine va_get (D := (dC, dI)) (ci := 4) (v := .int (I 0 6)) (C := RX4) (T := TX4) (N := 14) hx hb hts iX4_many_RX4 hown hK hP 0 heH_0 rfl 6 (by decide) (hts (.fieldLink RX4 41 "OverrunHouse" "mixCount" "I") (List.mem_cons_of_mem _ (List.mem_append_left _ (List.mem_append_left _ (List.mem_append_left _ (List.mem_of_getElem? (i := 1) rfl)))))) (fun _ h9 => h9) rfl dX4_many_74 ?_
      have hf := ok_in hf
      have q1 := hf
      exact W.iret (v := (I 0 6)) hx hb hr (fun t ht hW9 => ⟨⟨(I 0 6), (), rfl, q1.symm, trivial⟩, hS.F ht⟩) hS.2.2 dX4_many_77
    · have hf := it_f hf c_4
      by_cases c_5 : p1 = 2
      · have hf := it_t hf c_5
        refine lv_tableIn (off := 70) (tgt := 78) hx hb dX4_many_8 (by rw [c_5]; decide) (by rw [c_5]; decide) (by rw [c_5]; decide) (by decide) ?_
        refine lv_aload_n hx hb dX4_many_78 rfl (lv_at hl 0 rfl) ?_
        refine va_get (D := (dC, dI)) (ci := 4) (v := .int (I 0 7)) (C := RX4) (T := TX4) (N := 14) hx hb hts iX4_many_RX4 hown hK hP 0 heH_0 rfl 7 (by decide) (hts (.fieldLink RX4 44 "OverrunHouse" "batchCount" "I") (List.mem_cons_of_mem _ (List.mem_append_left _ (List.mem_append_left _ (List.mem_append_left _ (List.mem_of_getElem? (i := 2) rfl)))))) (fun _ h9 => h9) rfl dX4_many_79 ?_
        have hf := ok_in hf
        have q1 := hf
        exact W.iret (v := (I 0 7)) hx hb hr (fun t ht hW9 => ⟨⟨(I 0 7), (), rfl, q1.symm, trivial⟩, hS.F ht⟩) hS.2.2 dX4_many_82
      · have hf := it_f hf c_5
        by_cases c_6 : p1 = 3
        · have hf := it_t hf c_6
          refine lv_tableIn (off := 75) (tgt := 83) hx hb dX4_many_8 (by rw [c_6]; decide) (by rw [c_6]; decide) (by rw [c_6]; decide) (by decide) ?_
          refine lv_aload_n hx hb dX4_many_83 rfl (lv_at hl 0 rfl) ?_
          refine lv_bipush (v := 11) hx hb dX4_many_84 (by decide) ?_
          obtain ⟨r_7, g_8, hf⟩ := bd_out hf
          refine va_calli (va_runV (As := [.int 11]) (rest := []) ⟨hx, hb, hml, hown, hts⟩ (mt_X4_countAt l dC dI ad cy hJ H.size I D 11 r_7 g_8) (cwV 1 hts gX4_many_X4_countAt rfl rfl rfl (by decide +kernel) ⟨Nat.le_of_ble_eq_true rfl, Nat.le_of_ble_eq_true rfl⟩) ⟨(hW.pre [.ref (ad 0), .int 11] hP hK hN).1, hW.recv (C := RX4) (T := TX4) (N := 14) hP hK heH_0 rfl, (hW.pre [.ref (ad 0), .int 11] hP hK hN).2⟩ rfl rfl hl.1 rfl (lv_room (Nat.le_of_ble_eq_true rfl)) dX4_many_86 ⟨Nat.le_of_ble_eq_true rfl, Nat.le_of_ble_eq_true rfl⟩) hS (fun q _ h => hA q (Nat.le_trans hS.1 h)) (fun q h => hA q (Nat.le_trans hS.1 h)) (fun r9 u t H1 locs ht hvm hw hB hz1 hk1 hS => ?_)
          subst hw
          have hP := va_Pnew hP hk1
          clear hB hz1 hk1 hvm ht
          generalize H1 = H at hP hS ⊢
          have hf := ok_in hf
          have q1 := hf
          exact W.iret (v := r_7) hx hb hr (fun t ht hW9 => ⟨⟨r_7, (), rfl, q1.symm, trivial⟩, hS.F ht⟩) hS.2.2 dX4_many_89
        · have hf := it_f hf c_6
          by_cases c_9 : p1 = 4
          · have hf := it_t hf c_9
            refine lv_tableIn (off := 82) (tgt := 90) hx hb dX4_many_8 (by rw [c_9]; decide) (by rw [c_9]; decide) (by rw [c_9]; decide) (by decide) ?_
            refine lv_aload_n hx hb dX4_many_90 rfl (lv_at hl 0 rfl) ?_
            refine lv_bipush (v := 10) hx hb dX4_many_91 (by decide) ?_
            obtain ⟨r_10, g_11, hf⟩ := bd_out hf
            refine va_calli (va_runV (As := [.int 10]) (rest := []) ⟨hx, hb, hml, hown, hts⟩ (mt_X4_countAt l dC dI ad cy hJ H.size I D 10 r_10 g_11) (cwV 1 hts gX4_many_X4_countAt rfl rfl rfl (by decide +kernel) ⟨Nat.le_of_ble_eq_true rfl, Nat.le_of_ble_eq_true rfl⟩) ⟨(hW.pre [.ref (ad 0), .int 10] hP hK hN).1, hW.recv (C := RX4) (T := TX4) (N := 14) hP hK heH_0 rfl, (hW.pre [.ref (ad 0), .int 10] hP hK hN).2⟩ rfl rfl hl.1 rfl (lv_room (Nat.le_of_ble_eq_true rfl)) dX4_many_93 ⟨Nat.le_of_ble_eq_true rfl, Nat.le_of_ble_eq_true rfl⟩) hS (fun q _ h => hA q (Nat.le_trans hS.1 h)) (fun q h => hA q (Nat.le_trans hS.1 h)) (fun r9 u t H1 locs ht hvm hw hB hz1 hk1 hS => ?_)
            subst hw
            have hP := va_Pnew hP hk1
            clear hB hz1 hk1 hvm ht
            generalize H1 = H at hP hS ⊢
            have hf := ok_in hf
            have q1 := hf
            exact W.iret (v := r_10) hx hb hr (fun t ht hW9 => ⟨⟨r_10, (), rfl, q1.symm, trivial⟩, hS.F ht⟩) hS.2.2 dX4_many_96
          · have hf := it_f hf c_9
            by_cases c_12 : p1 = 5
            · have hf := it_t hf c_12
              refine lv_tableIn (off := 89) (tgt := 97) hx hb dX4_many_8 (by rw [c_12]; decide) (by rw [c_12]; decide) (by rw [c_12]; decide) (by decide) ?_
              refine lv_aload_n hx hb dX4_many_97 rfl (lv_at hl 0 rfl) ?_
              refine va_get (D := (dC, dI)) (ci := 4) (v := .int (I 0 8)) (C := RX4) (T := TX4) (N := 14) hx hb hts iX4_many_RX4 hown hK hP 0 heH_0 rfl 8 (by decide) (hts (.fieldLink RX4 47 "OverrunHouse" "storeCount" "I") (List.mem_cons_of_mem _ (List.mem_append_left _ (List.mem_append_left _ (List.mem_append_left _ (List.mem_of_getElem? (i := 3) rfl)))))) (fun _ h9 => h9) rfl dX4_many_98 ?_
              have hf := ok_in hf
              have q1 := hf
              exact W.iret (v := (I 0 8)) hx hb hr (fun t ht hW9 => ⟨⟨(I 0 8), (), rfl, q1.symm, trivial⟩, hS.F ht⟩) hS.2.2 dX4_many_101
            · have hf := it_f hf c_12
              by_cases c_13 : p1 = 6
              · have hf := it_t hf c_13
                refine lv_tableIn (off := 94) (tgt := 102) hx hb dX4_many_8 (by rw [c_13]; decide) (by rw [c_13]; decide) (by rw [c_13]; decide) (by decide) ?_
                refine lv_aload_n hx hb dX4_many_102 rfl (lv_at hl 0 rfl) ?_
                refine va_get (D := (dC, dI)) (ci := 4) (v := .int (I 0 9)) (C := RX4) (T := TX4) (N := 14) hx hb hts iX4_many_RX4 hown hK hP 0 heH_0 rfl 9 (by decide) (hts (.fieldLink RX4 50 "OverrunHouse" "hoursEver" "I") (List.mem_cons_of_mem _ (List.mem_append_left _ (List.mem_append_left _ (List.mem_append_left _ (List.mem_of_getElem? (i := 4) rfl)))))) (fun _ h9 => h9) rfl dX4_many_103 ?_
                have hf := ok_in hf
                have q1 := hf
                exact W.iret (v := (I 0 9)) hx hb hr (fun t ht hW9 => ⟨⟨(I 0 9), (), rfl, q1.symm, trivial⟩, hS.F ht⟩) hS.2.2 dX4_many_106
              · have hf := it_f hf c_13
                by_cases c_14 : p1 = 7
                · have hf := it_t hf c_14
                  refine lv_tableIn (off := 99) (tgt := 107) hx hb dX4_many_8 (by rw [c_14]; decide) (by rw [c_14]; decide) (by rw [c_14]; decide) (by decide) ?_
                  refine lv_aload_n hx hb dX4_many_107 rfl (lv_at hl 0 rfl) ?_
                  refine va_get (D := (dC, dI)) (ci := 4) (v := .int (I 0 10)) (C := RX4) (T := TX4) (N := 14) hx hb hts iX4_many_RX4 hown hK hP 0 heH_0 rfl 10 (by decide) (hts (.fieldLink RX4 53 "OverrunHouse" "gainEver" "I") (List.mem_cons_of_mem _ (List.mem_append_left _ (List.mem_append_left _ (List.mem_append_left _ (List.mem_of_getElem? (i := 5) rfl)))))) (fun _ h9 => h9) rfl dX4_many_108 ?_
                  have hf := ok_in hf
                  have q1 := hf
                  exact W.iret (v := (I 0 10)) hx hb hr (fun t ht hW9 => ⟨⟨(I 0 10), (), rfl, q1.symm, trivial⟩, hS.F ht⟩) hS.2.2 dX4_many_111
                · have hf := it_f hf c_14
                  by_cases c_15 : p1 = 8
                  · have hf := it_t hf c_15
                    refine lv_tableIn (off := 104) (tgt := 112) hx hb dX4_many_8 (by rw [c_15]; decide) (by rw [c_15]; decide) (by rw [c_15]; decide) (by decide) ?_
                    refine lv_aload_n hx hb dX4_many_112 rfl (lv_at hl 0 rfl) ?_
                    refine va_get (D := (dC, dI)) (ci := 4) (v := .ref (ad 5)) (C := RX4) (T := TX4) (N := 14) hx hb hts iX4_many_RX4 hown hK hP 0 heH_0 rfl 4 (by decide) (hts (.fieldLink RX4 33 "OverrunHouse" "rests" "[I") (List.mem_cons_of_mem _ (List.mem_append_left _ (List.mem_append_left _ (List.mem_append_left _ (List.mem_of_getElem? (i := 6) rfl)))))) (fun _ h9 => h9) rfl dX4_many_113 ?_
                    refine lv_iconst (v := 0) hx hb dX4_many_116 (by decide) ?_
                    obtain ⟨h_16, hf⟩ := ck_out hf
                    refine va_iald (n := 2) (f := I 5) hx hb hK hP 5 0 heH_5 rfl (inB_in h_16) dX4_many_117 ?_
                    have hf := ok_in hf
                    have q1 := hf
                    exact W.iret (v := (I 5 (0 : Int32).toNatClampNeg)) hx hb hr (fun t ht hW9 => ⟨⟨(I 5 (0 : Int32).toNatClampNeg), (), rfl, q1.symm, trivial⟩, hS.F ht⟩) hS.2.2 dX4_many_118
                  · have hf := it_f hf c_15
                    by_cases c_17 : p1 = 9
                    · have hf := it_t hf c_17
                      refine lv_tableIn (off := 111) (tgt := 119) hx hb dX4_many_8 (by rw [c_17]; decide) (by rw [c_17]; decide) (by rw [c_17]; decide) (by decide) ?_
                      refine lv_aload_n hx hb dX4_many_119 rfl (lv_at hl 0 rfl) ?_
                      refine va_get (D := (dC, dI)) (ci := 4) (v := .ref (ad 5)) (C := RX4) (T := TX4) (N := 14) hx hb hts iX4_many_RX4 hown hK hP 0 heH_0 rfl 4 (by decide) (hts (.fieldLink RX4 33 "OverrunHouse" "rests" "[I") (List.mem_cons_of_mem _ (List.mem_append_left _ (List.mem_append_left _ (List.mem_append_left _ (List.mem_of_getElem? (i := 6) rfl)))))) (fun _ h9 => h9) rfl dX4_many_120 ?_
                      refine lv_iconst (v := 1) hx hb dX4_many_123 (by decide) ?_
                      obtain ⟨h_18, hf⟩ := ck_out hf
                      refine va_iald (n := 2) (f := I 5) hx hb hK hP 5 0 heH_5 rfl (inB_in h_18) dX4_many_124 ?_
                      have hf := ok_in hf
                      have q1 := hf
                      exact W.iret (v := (I 5 (1 : Int32).toNatClampNeg)) hx hb hr (fun t ht hW9 => ⟨⟨(I 5 (1 : Int32).toNatClampNeg), (), rfl, q1.symm, trivial⟩, hS.F ht⟩) hS.2.2 dX4_many_125
                    · have hf := it_f hf c_17
                      by_cases c_19 : p1 = 10
                      · have hf := it_t hf c_19
                        refine lv_tableIn (off := 118) (tgt := 126) hx hb dX4_many_8 (by rw [c_19]; decide) (by rw [c_19]; decide) (by rw [c_19]; decide) (by decide) ?_
                        refine lv_aload_n hx hb dX4_many_126 rfl (lv_at hl 0 rfl) ?_
                        refine va_get (D := (dC, dI)) (ci := 4) (v := .int (I 0 11)) (C := RX4) (T := TX4) (N := 14) hx hb hts iX4_many_RX4 hown hK hP 0 heH_0 rfl 11 (by decide) (hts (.fieldLink RX4 56 "OverrunHouse" "washesEver" "I") (List.mem_cons_of_mem _ (List.mem_append_left _ (List.mem_append_left _ (List.mem_append_left _ (List.mem_of_getElem? (i := 7) rfl)))))) (fun _ h9 => h9) rfl dX4_many_127 ?_
                        have hf := ok_in hf
                        have q1 := hf
                        exact W.iret (v := (I 0 11)) hx hb hr (fun t ht hW9 => ⟨⟨(I 0 11), (), rfl, q1.symm, trivial⟩, hS.F ht⟩) hS.2.2 dX4_many_130
                      · have hf := it_f hf c_19
                        refine lv_tableOut (tgt := 131) hx hb dX4_many_8 (sw_out11 c_3 c_4 c_5 c_6 c_9 c_12 c_13 c_14 c_15 c_17 c_19) (by decide) ?_
                        refine lv_aload_n hx hb dX4_many_131 rfl (lv_at hl 0 rfl) ?_
                        refine va_get (D := (dC, dI)) (ci := 4) (v := .int (I 0 12)) (C := RX4) (T := TX4) (N := 14) hx hb hts iX4_many_RX4 hown hK hP 0 heH_0 rfl 12 (by decide) (hts (.fieldLink RX4 59 "OverrunHouse" "calledSet" "I") (List.mem_cons_of_mem _ (List.mem_append_left _ (List.mem_append_left _ (List.mem_append_left _ (List.mem_of_getElem? (i := 8) rfl)))))) (fun _ h9 => h9) rfl dX4_many_132 ?_
                        have hf := ok_in hf
                        have q1 := hf
                        exact W.iret (v := (I 0 12)) hx hb hr (fun t ht hW9 => ⟨⟨(I 0 12), (), rfl, q1.symm, trivial⟩, hS.F ht⟩) hS.2.2 dX4_many_135

def f_X4_day (I : Nat → Nat → Int32) (D : Nat → Nat → UInt64) (p1 : Int32) (p2 : Int32) : Option (Except String (Int32 × (Nat → Nat → Int32) × (Nat → Nat → UInt64))) :=
  bE (f_X4_checkRange p1 0 ((1 <<< ((I 0 6) &&& 31)) - 1)) (fun _ => bd (f_X4_reckonWashes I D ) (fun (I_5, D_6) => (if p2 = 0 then bd (f_X4_cell 5 p1) (fun r_8 => ck (inB r_8 192) (some (Except.ok ((I_5 6 (r_8).toNatClampNeg), I_5, D_6)))) else bd (f_X4_bestOrder I_5 D_6 p1) (fun r_11 => some (Except.ok (r_11, I_5, D_6))))))
theorem iX4_day_RX4 : ∀ w ∈ u_ws RX4 TX4 14, w ∈ wsX4_day := fun w h => List.mem_cons_of_mem _ (List.mem_append_left _ (List.mem_append_left _ (List.mem_append_right _ (h))))
set_option maxHeartbeats 4000000 in
set_option maxRecDepth 100000 in
theorem mt_X4_day (l : Launch) (dC : Nat → ClassId) (dI : Nat → Nat → Nat) (ad : Nat → Nat) (cy : Nat → ClassId) (hJ : J33 ad) (sz : Nat) (I : Nat → Nat → Int32) (D : Nat → Nat → UInt64) (p1 : Int32) (p2 : Int32) (rr : Int32) (I9 : Nat → Nat → Int32) (D9 : Nat → Nat → UInt64) (hf : f_X4_day I D p1 p2 = some (Except.ok (rr, I9, D9))) : Met l yX4_day wsX4_day ({ frames := 4, cells := 0, slots := 0, locals := 98 }) (va_Pc [.ref (ad 0), .int p1, .int p2] (fun U => U.heap.size = sz ∧ hW dC dI ad cy I D U)) (va_Qi (fun r (_ : Unit) => rr = r) (fun _ t => hW dC dI ad cy I9 D9 t) (AW ad sz)) 0 0 (AW ad sz) := by
  refine Met.ofW (cc := cX4_day) (maxL := 3) (ret := (some .int)) (by decide) rfl ?_
  intro p e s m args below meth c s₁ B hml hv
  obtain ⟨rfl, hsz, hP, hK, hN⟩ := hv
  have hx := B.exec
  have hb := B.bytes
  have hr := B.returns
  have hts := atoms_spec (ws := wsX4_day) B.pre
  have hown : s.vm.findClass RX4 = some m.cls := findClass_of_methodNamed B.named
  have hlocks := B.notSynchronized
  subst hsz
  generalize hAe : AW ad s.heap.size = A
  have hA : ∀ q : Nat, s.heap.size ≤ q → A q := fun q h => by rw [← hAe]; exact Or.inr h
  have hA33 : ∀ k, k < 33 → A (ad k) := fun k h => by rw [← hAe]; exact Or.inl ⟨k, h, rfl⟩
  have hDD : ∀ I D, va_D A (iwH ad cy I D) := fun I D => iwH_D hJ hA33 I D
  obtain ⟨H, hH⟩ : ∃ H : Heap, H = s.heap := ⟨_, rfl⟩
  have hS : va_S A s.heap H [] := by rw [hH]; exact va_S.rf
  rw [← hH]
  rw [← hH] at hP
  have hl := lv_entry ([.ref (ad 0), .int p1, .int p2]) (n := 3) (Nat.le_of_ble_eq_true rfl)
  rw [lg_entry_eq]
  generalize (lg_sl ([.ref (ad 0), .int p1, .int p2]) ++ List.replicate (3 - (lg_sl ([.ref (ad 0), .int p1, .int p2])).length) Slot.unset).toArray = ls at hl ⊢
  have hl : lv_has ls 3 [(0, .ref (ad 0)), (1, .int p1), (2, .int p2)] := hl
  unfold f_X4_day at hf
  refine lv_iload_n hx hb dX4_day_0 rfl (lv_at hl 1 rfl) ?_
  refine lv_iconst (v := 0) hx hb dX4_day_1 (by decide) ?_
  refine lv_iconst (v := 1) hx hb dX4_day_2 (by decide) ?_
  refine lv_aload_n hx hb dX4_day_3 rfl (lv_at hl 0 rfl) ?_
  refine va_get (D := (dC, dI)) (ci := 4) (v := .int (I 0 6)) (C := RX4) (T := TX4) (N := 14) hx hb hts iX4_day_RX4 hown hK hP 0 heH_0 rfl 6 (by decide) (hts (.fieldLink RX4 41 "OverrunHouse" "mixCount" "I") (List.mem_cons_of_mem _ (List.mem_append_left _ (List.mem_append_left _ (List.mem_append_left _ (List.mem_append_left _ (List.mem_of_getElem? (i := 0) rfl))))))) (fun _ h9 => h9) rfl dX4_day_4 ?_
  refine lv_ishl hx hb dX4_day_7 ?_
  refine lv_iconst (v := 1) hx hb dX4_day_8 (by decide) ?_
  refine lv_isub hx hb dX4_day_9 ?_
  obtain ⟨_, g_2, hf⟩ := bE_ok hf
  refine va_callv (va_runS (As := [.int p1, .int 0, .int ((1 <<< ((I 0 6) &&& 31)) - 1)]) (rest := []) ⟨hx, hb, hml, hown, hts⟩ (mt_X4_checkRange l H.size p1 0 ((1 <<< ((I 0 6) &&& 31)) - 1)  g_2) (va_cwS 3 hts gX4_day_X4_checkRange rfl rfl rfl (by decide +kernel) ⟨Nat.le_of_ble_eq_true rfl, Nat.le_of_ble_eq_true rfl⟩) (pre0 [.int p1, .int 0, .int ((1 <<< ((I 0 6) &&& 31)) - 1)]) rfl rfl hl.1 rfl (lv_room (Nat.le_of_ble_eq_true rfl)) dX4_day_10 ⟨Nat.le_of_ble_eq_true rfl, Nat.le_of_ble_eq_true rfl⟩) hS (fun q _ h => hA q (Nat.le_trans hS.1 h)) (fun q h => hA q (Nat.le_trans hS.1 h)) (fun u t H1 locs ht hvm hw hB hz1 hk1 hS => ?_)
  have hP := va_Pnew hP hk1
  clear hB hz1 hk1 hvm ht
  generalize H1 = H at hP hS ⊢
  refine lv_aload_n hx hb dX4_day_13 rfl (lv_at hl 0 rfl) ?_
  obtain ⟨⟨I_5, D_6⟩, g_4, hf⟩ := bd_out hf
  have hAW : ∀ q, AW ad H.size q → A q := fun q h => h.elim (fun ⟨k, k1, k2⟩ => k2 ▸ hA33 k k1) (fun h => hA q (Nat.le_trans hS.1 h))
  refine va_callv (va_runV (As := []) (rest := []) ⟨hx, hb, hml, hown, hts⟩ (mt_X4_reckonWashes l dC dI ad cy hJ H.size I D  I_5 D_6 g_4) (cwV 0 hts gX4_day_X4_reckonWashes rfl rfl rfl (by decide +kernel) ⟨Nat.le_of_ble_eq_true rfl, Nat.le_of_ble_eq_true rfl⟩) ⟨(hW.pre [.ref (ad 0)] hP hK hN).1, hW.recv (C := RX4) (T := TX4) (N := 14) hP hK heH_0 rfl, (hW.pre [.ref (ad 0)] hP hK hN).2⟩ rfl rfl hl.1 rfl (lv_room (Nat.le_of_ble_eq_true rfl)) dX4_day_14 ⟨Nat.le_of_ble_eq_true rfl, Nat.le_of_ble_eq_true rfl⟩) hS (fun q _ h => hAW q h) (fun q h => hAW q h) (fun u t H1 locs ht hvm hw hB hz1 hk1 hS => ?_)
  have hP : va_P (dC, dI) vwCl (iwH ad cy I_5 D_6) H1 := by rw [← ht]; exact hB.1
  clear hB hz1 hk1 hvm ht
  generalize H1 = H at hP hS ⊢
  refine lv_iload_n hx hb dX4_day_17 rfl (lv_at hl 2 rfl) ?_
  refine lv_if_eq (tgt := 29) hx hb dX4_day_18 (by decide) (fun c_7 => ?_) (fun c_7 => ?_)
  · have hf := it_t hf c_7
    refine lv_aload_n hx hb dX4_day_29 rfl (lv_at hl 0 rfl) ?_
    refine va_get (D := (dC, dI)) (ci := 4) (v := .ref (ad 6)) (C := RX4) (T := TX4) (N := 14) hx hb hts iX4_day_RX4 hown hK hP 0 heH_0 rfl 13 (by decide) (hts (.fieldLink RX4 62 "OverrunHouse" "fewestWashes" "[I") (List.mem_cons_of_mem _ (List.mem_append_left _ (List.mem_append_left _ (List.mem_append_left _ (List.mem_append_left _ (List.mem_of_getElem? (i := 1) rfl))))))) (fun _ h9 => h9) rfl dX4_day_30 ?_
    refine lv_iconst (v := 5) hx hb dX4_day_33 (by decide) ?_
    refine lv_iload_n hx hb dX4_day_34 rfl (lv_at hl 1 rfl) ?_
    obtain ⟨r_8, g_9, hf⟩ := bd_out hf
    refine va_calli (va_runS (As := [.int 5, .int p1]) (rest := [.ref (ad 6)]) ⟨hx, hb, hml, hown, hts⟩ (mt_X4_cell l H.size 5 p1 r_8 g_9) (va_cwS 2 hts gX4_day_X4_cell rfl rfl rfl (by decide +kernel) ⟨Nat.le_of_ble_eq_true rfl, Nat.le_of_ble_eq_true rfl⟩) (pre0 [.int 5, .int p1]) rfl rfl hl.1 rfl (lv_room (Nat.le_of_ble_eq_true rfl)) dX4_day_35 ⟨Nat.le_of_ble_eq_true rfl, Nat.le_of_ble_eq_true rfl⟩) hS (fun q _ h => hA q (Nat.le_trans hS.1 h)) (fun q h => hA q (Nat.le_trans hS.1 h)) (fun r9 u t H1 locs ht hvm hw hB hz1 hk1 hS => ?_)
    subst hw
    have hP := va_Pnew hP hk1
    clear hB hz1 hk1 hvm ht
    generalize H1 = H at hP hS ⊢
    obtain ⟨h_10, hf⟩ := ck_out hf
    refine va_iald (n := 192) (f := I_5 6) hx hb hK hP 6 0 heH_6 rfl (inB_in h_10) dX4_day_38 ?_
    have hf := ok_in hf
    obtain ⟨q1, q2⟩ := Prod.mk.inj hf
    obtain ⟨q2, q3⟩ := Prod.mk.inj q2
    rw [q2, q3] at hP
    exact W.iret (v := (I_5 6 (r_8).toNatClampNeg)) hx hb hr (fun t ht hW9 => ⟨⟨(I_5 6 (r_8).toNatClampNeg), (), rfl, q1.symm, hW.of hP hK hN ht hW9⟩, hS.F ht⟩) hS.2.2 dX4_day_39
  · have hf := it_f hf c_7
    refine lv_aload_n hx hb dX4_day_21 rfl (lv_at hl 0 rfl) ?_
    refine lv_iload_n hx hb dX4_day_22 rfl (lv_at hl 1 rfl) ?_
    obtain ⟨r_11, g_12, hf⟩ := bd_out hf
    refine va_calli (va_runV (As := [.int p1]) (rest := []) ⟨hx, hb, hml, hown, hts⟩ (mt_X4_bestOrder l dC dI ad cy hJ H.size I_5 D_6 p1 r_11 g_12) (cwV 1 hts gX4_day_X4_bestOrder rfl rfl rfl (by decide +kernel) ⟨Nat.le_of_ble_eq_true rfl, Nat.le_of_ble_eq_true rfl⟩) ⟨(hW.pre [.ref (ad 0), .int p1] hP hK hN).1, hW.recv (C := RX4) (T := TX4) (N := 14) hP hK heH_0 rfl, (hW.pre [.ref (ad 0), .int p1] hP hK hN).2⟩ rfl rfl hl.1 rfl (lv_room (Nat.le_of_ble_eq_true rfl)) dX4_day_23 ⟨Nat.le_of_ble_eq_true rfl, Nat.le_of_ble_eq_true rfl⟩) hS (fun q _ h => hA q (Nat.le_trans hS.1 h)) (fun q h => hA q (Nat.le_trans hS.1 h)) (fun r9 u t H1 locs ht hvm hw hB hz1 hk1 hS => ?_)
    subst hw
    have hP := va_Pnew hP hk1
    clear hB hz1 hk1 hvm ht
    generalize H1 = H at hP hS ⊢
    refine lv_goto (tgt := 39) hx hb dX4_day_26 (by decide) ?_
    have hf := ok_in hf
    obtain ⟨q1, q2⟩ := Prod.mk.inj hf
    obtain ⟨q2, q3⟩ := Prod.mk.inj q2
    rw [q2, q3] at hP
    exact W.iret (v := r_11) hx hb hr (fun t ht hW9 => ⟨⟨r_11, (), rfl, q1.symm, hW.of hP hK hN ht hW9⟩, hS.F ht⟩) hS.2.2 dX4_day_39

def f_X4_wouldBe (I : Nat → Nat → Int32) (D : Nat → Nat → UInt64) (p1 : Int32) (p2 : Int32) : Option (Except String (UInt64)) :=
  bE (f_X4_checkNumber p1 (I 0 7)) (fun _ => bE (f_X4_checkRange p2 1 48) (fun _ => ck (inB p1 12) (bd (f_X0_isStored I D (p1).toNatClampNeg) (fun r_6 => (if r_6 = 0 then (if (I (18 + (p1).toNatClampNeg) 2) = (-1) then (if (I (18 + (p1).toNatClampNeg) 3) = 0 then some (Except.ok (13830554455654793216 : UInt64)) else some (Except.ok (D (18 + (p1).toNatClampNeg) 4))) else some (Except.ok (13830554455654793216 : UInt64))) else ck (inB (I (18 + (p1).toNatClampNeg) 2) 3) (bd (f_X4_crystalLater I D (p1).toNatClampNeg (D (30 + ((I (18 + (p1).toNatClampNeg) 2)).toNatClampNeg) 1) p2) (fun r_12 => some (Except.ok r_12))))))))
theorem iX4_wouldBe_RX0 : ∀ w ∈ u_ws RX0 TX0 5, w ∈ wsX4_wouldBe := fun w h => List.mem_cons_of_mem _ (List.mem_append_left _ (List.mem_append_left _ (List.mem_append_left _ (List.mem_append_left _ (List.mem_append_right _ (h))))))
theorem iX4_wouldBe_RX4 : ∀ w ∈ u_ws RX4 TX4 14, w ∈ wsX4_wouldBe := fun w h => List.mem_cons_of_mem _ (List.mem_append_left _ (List.mem_append_left _ (List.mem_append_left _ (List.mem_append_left _ (List.mem_append_left _ (List.mem_append_right _ (h)))))))
theorem iX4_wouldBe_RX3 : ∀ w ∈ u_ws RX3 TX3 2, w ∈ wsX4_wouldBe := fun w h => List.mem_cons_of_mem _ (List.mem_append_left _ (List.mem_append_left _ (List.mem_append_left _ (List.mem_append_right _ (h)))))
set_option maxHeartbeats 4000000 in
set_option maxRecDepth 100000 in
theorem mt_X4_wouldBe (l : Launch) (dC : Nat → ClassId) (dI : Nat → Nat → Nat) (ad : Nat → Nat) (cy : Nat → ClassId) (hJ : J33 ad) (sz : Nat) (I : Nat → Nat → Int32) (D : Nat → Nat → UInt64) (p1 : Int32) (p2 : Int32) (rr : UInt64) (hf : f_X4_wouldBe I D p1 p2 = some (Except.ok rr)) : Met l yX4_wouldBe wsX4_wouldBe ({ frames := 3, cells := 0, slots := 0, locals := 81 }) (va_Pc [.ref (ad 0), .int p1, .int p2] (fun U => U.heap.size = sz ∧ hW dC dI ad cy I D U)) (va_Qd (fun r (_ : Unit) => rr = r) (fun _ _ => True) (fun q => sz ≤ q)) 0 0 (fun q => sz ≤ q) := by
  refine Met.ofW (cc := cX4_wouldBe) (maxL := 4) (ret := (some .double)) (by decide) rfl ?_
  intro p e s m args below meth c s₁ B hml hv
  obtain ⟨rfl, hsz, hP, hK, hN⟩ := hv
  have hx := B.exec
  have hb := B.bytes
  have hr := B.returns
  have hts := atoms_spec (ws := wsX4_wouldBe) B.pre
  have hown : s.vm.findClass RX4 = some m.cls := findClass_of_methodNamed B.named
  have hlocks := B.notSynchronized
  subst hsz
  generalize hAe : (fun q : Nat => s.heap.size ≤ q) = A
  have hA : ∀ q : Nat, s.heap.size ≤ q → A q := fun q h => by rw [← hAe]; exact h
  obtain ⟨H, hH⟩ : ∃ H : Heap, H = s.heap := ⟨_, rfl⟩
  have hS : va_S A s.heap H [] := by rw [hH]; exact va_S.rf
  rw [← hH]
  rw [← hH] at hP
  have hl := lv_entry ([.ref (ad 0), .int p1, .int p2]) (n := 4) (Nat.le_of_ble_eq_true rfl)
  rw [lg_entry_eq]
  generalize (lg_sl ([.ref (ad 0), .int p1, .int p2]) ++ List.replicate (4 - (lg_sl ([.ref (ad 0), .int p1, .int p2])).length) Slot.unset).toArray = ls at hl ⊢
  have hl : lv_has ls 4 [(0, .ref (ad 0)), (1, .int p1), (2, .int p2)] := hl
  unfold f_X4_wouldBe at hf
  refine lv_iload_n hx hb dX4_wouldBe_0 rfl (lv_at hl 1 rfl) ?_
  refine lv_aload_n hx hb dX4_wouldBe_1 rfl (lv_at hl 0 rfl) ?_
  refine va_get (D := (dC, dI)) (ci := 4) (v := .int (I 0 7)) (C := RX4) (T := TX4) (N := 14) hx hb hts iX4_wouldBe_RX4 hown hK hP 0 heH_0 rfl 7 (by decide) (hts (.fieldLink RX4 44 "OverrunHouse" "batchCount" "I") (List.mem_cons_of_mem _ (List.mem_append_left _ (List.mem_append_left _ (List.mem_append_left _ (List.mem_append_left _ (List.mem_append_left _ (List.mem_append_left _ (List.mem_append_left _ (List.mem_of_getElem? (i := 0) rfl)))))))))) (fun _ h9 => h9) rfl dX4_wouldBe_2 ?_
  obtain ⟨_, g_2, hf⟩ := bE_ok hf
  refine va_callv (va_runS (As := [.int p1, .int (I 0 7)]) (rest := []) ⟨hx, hb, hml, hown, hts⟩ (mt_X4_checkNumber l H.size p1 (I 0 7)  g_2) (va_cwS 2 hts gX4_wouldBe_X4_checkNumber rfl rfl rfl (by decide +kernel) ⟨Nat.le_of_ble_eq_true rfl, Nat.le_of_ble_eq_true rfl⟩) (pre0 [.int p1, .int (I 0 7)]) rfl rfl hl.1 rfl (lv_room (Nat.le_of_ble_eq_true rfl)) dX4_wouldBe_5 ⟨Nat.le_of_ble_eq_true rfl, Nat.le_of_ble_eq_true rfl⟩) hS (fun q _ h => hA q (Nat.le_trans hS.1 h)) (fun q h => hA q (Nat.le_trans hS.1 h)) (fun u t H1 locs ht hvm hw hB hz1 hk1 hS => ?_)
  have hP := va_Pnew hP hk1
  clear hB hz1 hk1 hvm ht
  generalize H1 = H at hP hS ⊢
  refine lv_iload_n hx hb dX4_wouldBe_8 rfl (lv_at hl 2 rfl) ?_
  refine lv_iconst (v := 1) hx hb dX4_wouldBe_9 (by decide) ?_
  refine lv_bipush (v := 48) hx hb dX4_wouldBe_10 (by decide) ?_
  obtain ⟨_, g_4, hf⟩ := bE_ok hf
  refine va_callv (va_runS (As := [.int p2, .int 1, .int 48]) (rest := []) ⟨hx, hb, hml, hown, hts⟩ (mt_X4_checkRange l H.size p2 1 48  g_4) (va_cwS 3 hts gX4_wouldBe_X4_checkRange rfl rfl rfl (by decide +kernel) ⟨Nat.le_of_ble_eq_true rfl, Nat.le_of_ble_eq_true rfl⟩) (pre0 [.int p2, .int 1, .int 48]) rfl rfl hl.1 rfl (lv_room (Nat.le_of_ble_eq_true rfl)) dX4_wouldBe_12 ⟨Nat.le_of_ble_eq_true rfl, Nat.le_of_ble_eq_true rfl⟩) hS (fun q _ h => hA q (Nat.le_trans hS.1 h)) (fun q h => hA q (Nat.le_trans hS.1 h)) (fun u t H1 locs ht hvm hw hB hz1 hk1 hS => ?_)
  have hP := va_Pnew hP hk1
  clear hB hz1 hk1 hvm ht
  generalize H1 = H at hP hS ⊢
  refine lv_aload_n hx hb dX4_wouldBe_15 rfl (lv_at hl 0 rfl) ?_
  refine va_get (D := (dC, dI)) (ci := 4) (v := .ref (ad 3)) (C := RX4) (T := TX4) (N := 14) hx hb hts iX4_wouldBe_RX4 hown hK hP 0 heH_0 rfl 2 (by decide) (hts (.fieldLink RX4 23 "OverrunHouse" "batches" "[LOverrunHouse$Batch;") (List.mem_cons_of_mem _ (List.mem_append_left _ (List.mem_append_left _ (List.mem_append_left _ (List.mem_append_left _ (List.mem_append_left _ (List.mem_append_left _ (List.mem_append_left _ (List.mem_of_getElem? (i := 1) rfl)))))))))) (fun _ h9 => h9) rfl dX4_wouldBe_16 ?_
  refine lv_iload_n hx hb dX4_wouldBe_19 rfl (lv_at hl 1 rfl) ?_
  obtain ⟨h_5, hf⟩ := ck_out hf
  refine wr_aald (b := 18) (n := 12) hx hb hK hP 3 3 heH_3 rfl (inB_in h_5) dX4_wouldBe_20 ?_
  refine lv_astore_n (lv' := [(3, .ref (ad (18 + (p1).toNatClampNeg))), (0, .ref (ad 0)), (1, .int p1), (2, .int p2)]) hx hb dX4_wouldBe_21 rfl hl (by decide) rfl (fun ls hl => ?_)
  refine lv_aload_n hx hb dX4_wouldBe_22 rfl (lv_at hl 0 rfl) ?_
  obtain ⟨r_6, g_7, hf⟩ := bd_out hf
  refine va_calli (va_runVN (As := []) (rest := []) ⟨hx, hb, hml, hown, hts⟩ (mt_X0_isStored l dC dI ad cy hJ H.size I D (p1).toNatClampNeg (inB_lt h_5) r_6 g_7) ⟨va_cnB 0 hts gX4_wouldBe_X0_isStored_n192 rfl rfl rfl (hN (.methodLinkNest "OverrunHouse" 192 ⟨"OverrunHouse$Batch", "isStored", "()Z"⟩ "OverrunHouse") (List.mem_of_getElem? (i := 30) rfl)) (hts (.initialized RX0) (List.mem_cons_of_mem _ (List.mem_append_left _ (List.mem_append_left _ (List.mem_append_left _ (List.mem_append_left _ (List.mem_append_left _ (List.mem_append_left _ (List.mem_append_left _ (List.mem_of_getElem? (i := 16) rfl)))))))))) (by decide +kernel) ⟨Nat.le_of_ble_eq_true rfl, Nat.le_of_ble_eq_true rfl⟩, (hts (.instanceMethod yX0_isStored) (List.mem_cons_of_mem _ (List.mem_append_left _ (List.mem_append_left _ (List.mem_append_left _ (List.mem_append_left _ (List.mem_append_left _ (List.mem_append_left _ (List.mem_append_left _ (List.mem_of_getElem? (i := 15) rfl)))))))))), (hts (.selects RX0 yX0_isStored yX0_isStored) (List.mem_cons_of_mem _ (List.mem_append_left _ (List.mem_append_left _ (List.mem_append_left _ (List.mem_append_left _ (List.mem_append_left _ (List.mem_append_left _ (List.mem_append_left _ (List.mem_of_getElem? (i := 17) rfl))))))))))⟩ ⟨(hW.pre [.ref (ad (18 + (p1).toNatClampNeg))] hP hK hN).1, hW.recv (C := RX0) (T := TX0) (N := 5) hP hK (heH_Batch (inB_lt h_5)) rfl, (hW.pre [.ref (ad (18 + (p1).toNatClampNeg))] hP hK hN).2⟩ rfl rfl hl.1 rfl (lv_room (Nat.le_of_ble_eq_true rfl)) dX4_wouldBe_23 ⟨Nat.le_of_ble_eq_true rfl, Nat.le_of_ble_eq_true rfl⟩) hS (fun q _ h => hA q (Nat.le_trans hS.1 h)) (fun q h => hA q (Nat.le_trans hS.1 h)) (fun r9 u t H1 locs ht hvm hw hB hz1 hk1 hS => ?_)
  subst hw
  have hP := va_Pnew hP hk1
  clear hB hz1 hk1 hvm ht
  generalize H1 = H at hP hS ⊢
  refine lv_if_eq (tgt := 48) hx hb dX4_wouldBe_26 (by decide) (fun c_8 => ?_) (fun c_8 => ?_)
  · have hf := it_t hf c_8
    refine lv_aload_n hx hb dX4_wouldBe_48 rfl (lv_at hl 0 rfl) ?_
    refine va_getN (D := (dC, dI)) (ci := 0) (v := .int (I (18 + (p1).toNatClampNeg) 2)) (C := RX0) (T := TX0) (N := 5) hx hb hts iX4_wouldBe_RX0 hown hK hP (18 + (p1).toNatClampNeg) (heH_Batch (inB_lt h_5)) rfl 2 (by decide) (va_Nw.use (w := .fieldLinkNest "OverrunHouse" 143 "OverrunHouse$Batch" "place" "I" "OverrunHouse") rfl (hN _ (List.mem_of_getElem? (i := 20) rfl))) (fun _ h9 => h9) rfl dX4_wouldBe_49 ?_
    refine lv_iconst (v := (-1)) hx hb dX4_wouldBe_52 (by decide) ?_
    refine lv_icmp_ne (tgt := 70) hx hb dX4_wouldBe_53 (by decide) (fun c_9 => ?_) (fun c_9 => ?_)
    · have hf := it_f hf c_9
      refine lv_ldc2d (v := 13830554455654793216) hx hb hown (hts (.constantDouble RX4 262 (13830554455654793216)) (List.mem_cons_of_mem _ (List.mem_append_left _ (List.mem_append_left _ (List.mem_append_left _ (List.mem_append_left _ (List.mem_append_left _ (List.mem_append_left _ (List.mem_append_left _ (List.mem_of_getElem? (i := 3) rfl)))))))))) dX4_wouldBe_70 ?_
      have hf := ok_in hf
      have q1 := hf
      exact W.dret (v := (13830554455654793216 : UInt64)) hx hb hr (fun t ht hW9 => ⟨⟨(13830554455654793216 : UInt64), (), rfl, q1.symm, trivial⟩, hS.F ht⟩) hS.2.2 dX4_wouldBe_73
    · have hf := it_t hf c_9
      refine lv_aload_n hx hb dX4_wouldBe_56 rfl (lv_at hl 0 rfl) ?_
      refine va_getN (D := (dC, dI)) (ci := 0) (v := .int (I (18 + (p1).toNatClampNeg) 3)) (C := RX0) (T := TX0) (N := 5) hx hb hts iX4_wouldBe_RX0 hown hK hP (18 + (p1).toNatClampNeg) (heH_Batch (inB_lt h_5)) rfl 3 (by decide) (va_Nw.use (w := .fieldLinkNest "OverrunHouse" 146 "OverrunHouse$Batch" "isHard" "Z" "OverrunHouse") rfl (hN _ (List.mem_of_getElem? (i := 21) rfl))) (fun _ h9 => h9) rfl dX4_wouldBe_57 ?_
      refine lv_if_eq (tgt := 70) hx hb dX4_wouldBe_60 (by decide) (fun c_10 => ?_) (fun c_10 => ?_)
      · have hf := it_t hf c_10
        refine lv_ldc2d (v := 13830554455654793216) hx hb hown (hts (.constantDouble RX4 262 (13830554455654793216)) (List.mem_cons_of_mem _ (List.mem_append_left _ (List.mem_append_left _ (List.mem_append_left _ (List.mem_append_left _ (List.mem_append_left _ (List.mem_append_left _ (List.mem_append_left _ (List.mem_of_getElem? (i := 3) rfl)))))))))) dX4_wouldBe_70 ?_
        have hf := ok_in hf
        have q1 := hf
        exact W.dret (v := (13830554455654793216 : UInt64)) hx hb hr (fun t ht hW9 => ⟨⟨(13830554455654793216 : UInt64), (), rfl, q1.symm, trivial⟩, hS.F ht⟩) hS.2.2 dX4_wouldBe_73
      · have hf := it_f hf c_10
        refine lv_aload_n hx hb dX4_wouldBe_63 rfl (lv_at hl 0 rfl) ?_
        refine va_getN (D := (dC, dI)) (ci := 0) (v := .double (D (18 + (p1).toNatClampNeg) 4)) (C := RX0) (T := TX0) (N := 5) hx hb hts iX4_wouldBe_RX0 hown hK hP (18 + (p1).toNatClampNeg) (heH_Batch (inB_lt h_5)) rfl 4 (by decide) (va_Nw.use (w := .fieldLinkNest "OverrunHouse" 139 "OverrunHouse$Batch" "crystal" "D" "OverrunHouse") rfl (hN _ (List.mem_of_getElem? (i := 22) rfl))) (fun _ h9 => h9) rfl dX4_wouldBe_64 ?_
        refine lv_goto (tgt := 73) hx hb dX4_wouldBe_67 (by decide) ?_
        have hf := ok_in hf
        have q1 := hf
        exact W.dret (v := (D (18 + (p1).toNatClampNeg) 4)) hx hb hr (fun t ht hW9 => ⟨⟨(D (18 + (p1).toNatClampNeg) 4), (), rfl, q1.symm, trivial⟩, hS.F ht⟩) hS.2.2 dX4_wouldBe_73
  · have hf := it_f hf c_8
    refine lv_aload_n hx hb dX4_wouldBe_29 rfl (lv_at hl 1 rfl) ?_
    refine lv_aload_n hx hb dX4_wouldBe_30 rfl (lv_at hl 0 rfl) ?_
    refine lv_aload_n hx hb dX4_wouldBe_31 rfl (lv_at hl 1 rfl) ?_
    refine va_get (D := (dC, dI)) (ci := 4) (v := .ref (ad 4)) (C := RX4) (T := TX4) (N := 14) hx hb hts iX4_wouldBe_RX4 hown hK hP 0 heH_0 rfl 3 (by decide) (hts (.fieldLink RX4 29 "OverrunHouse" "stores" "[LOverrunHouse$Store;") (List.mem_cons_of_mem _ (List.mem_append_left _ (List.mem_append_left _ (List.mem_append_left _ (List.mem_append_left _ (List.mem_append_left _ (List.mem_append_left _ (List.mem_append_left _ (List.mem_of_getElem? (i := 2) rfl)))))))))) (fun _ h9 => h9) rfl dX4_wouldBe_32 ?_
    refine lv_aload_n hx hb dX4_wouldBe_35 rfl (lv_at hl 0 rfl) ?_
    refine va_getN (D := (dC, dI)) (ci := 0) (v := .int (I (18 + (p1).toNatClampNeg) 2)) (C := RX0) (T := TX0) (N := 5) hx hb hts iX4_wouldBe_RX0 hown hK hP (18 + (p1).toNatClampNeg) (heH_Batch (inB_lt h_5)) rfl 2 (by decide) (va_Nw.use (w := .fieldLinkNest "OverrunHouse" 143 "OverrunHouse$Batch" "place" "I" "OverrunHouse") rfl (hN _ (List.mem_of_getElem? (i := 20) rfl))) (fun _ h9 => h9) rfl dX4_wouldBe_36 ?_
    obtain ⟨h_11, hf⟩ := ck_out hf
    refine wr_aald (b := 30) (n := 3) hx hb hK hP 4 4 heH_4 rfl (inB_in h_11) dX4_wouldBe_39 ?_
    refine va_getN (D := (dC, dI)) (ci := 3) (v := .double (D (30 + ((I (18 + (p1).toNatClampNeg) 2)).toNatClampNeg) 1)) (C := RX3) (T := TX3) (N := 2) hx hb hts iX4_wouldBe_RX3 hown hK hP (30 + ((I (18 + (p1).toNatClampNeg) 2)).toNatClampNeg) (heH_Store (inB_lt h_11)) rfl 1 (by decide) (va_Nw.use (w := .fieldLinkNest "OverrunHouse" 156 "OverrunHouse$Store" "degrees" "D" "OverrunHouse") rfl (hN _ (List.mem_of_getElem? (i := 24) rfl))) (fun _ h9 => h9) rfl dX4_wouldBe_40 ?_
    refine lv_iload_n hx hb dX4_wouldBe_43 rfl (lv_at hl 3 rfl) ?_
    obtain ⟨r_12, g_13, hf⟩ := bd_out hf
    refine va_calld (va_runV (As := [.ref (ad (18 + (p1).toNatClampNeg)), .double (D (30 + ((I (18 + (p1).toNatClampNeg) 2)).toNatClampNeg) 1), .int p2]) (rest := []) ⟨hx, hb, hml, hown, hts⟩ (mt_X4_crystalLater l dC dI ad cy hJ H.size I D (p1).toNatClampNeg (inB_lt h_5) (D (30 + ((I (18 + (p1).toNatClampNeg) 2)).toNatClampNeg) 1) p2 r_12 g_13) (cwV 3 hts gX4_wouldBe_X4_crystalLater rfl rfl rfl (by decide +kernel) ⟨Nat.le_of_ble_eq_true rfl, Nat.le_of_ble_eq_true rfl⟩) ⟨(hW.pre [.ref (ad 0), .ref (ad (18 + (p1).toNatClampNeg)), .double (D (30 + ((I (18 + (p1).toNatClampNeg) 2)).toNatClampNeg) 1), .int p2] hP hK hN).1, hW.recv (C := RX4) (T := TX4) (N := 14) hP hK heH_0 rfl, (hW.pre [.ref (ad 0), .ref (ad (18 + (p1).toNatClampNeg)), .double (D (30 + ((I (18 + (p1).toNatClampNeg) 2)).toNatClampNeg) 1), .int p2] hP hK hN).2⟩ rfl rfl hl.1 rfl (lv_room (Nat.le_of_ble_eq_true rfl)) dX4_wouldBe_44 ⟨Nat.le_of_ble_eq_true rfl, Nat.le_of_ble_eq_true rfl⟩) hS (fun q _ h => hA q (Nat.le_trans hS.1 h)) (fun q h => hA q (Nat.le_trans hS.1 h)) (fun r9 u t H1 locs ht hvm hw hB hz1 hk1 hS => ?_)
    subst hw
    have hP := va_Pnew hP hk1
    clear hB hz1 hk1 hvm ht
    generalize H1 = H at hP hS ⊢
    have hf := ok_in hf
    have q1 := hf
    exact W.dret (v := r_12) hx hb hr (fun t ht hW9 => ⟨⟨r_12, (), rfl, q1.symm, trivial⟩, hS.F ht⟩) hS.2.2 dX4_wouldBe_47

def f_X4_wouldSpoil_L35 (I : Nat → Nat → Int32) (D : Nat → Nat → UInt64) (p1 : Int32) (r_6 : UInt64) : Nat → Int32 → Int32 → Option (Except String (Int32))
  | 0, _, _ => none
  | n35 + 1, x6_35, x5_35 => (if (I 0 7) ≤ x6_35 then some (Except.ok x5_35) else ck (inB x6_35 12) ((if (I (18 + (x6_35).toNatClampNeg) 2) = p1 then ck (inB x6_35 12) (bd (f_X0_isCoarse I D (x6_35).toNatClampNeg) (fun r_12 => (if r_12 = 0 then ck (inB x6_35 12) (bd (f_X4_crystalLater I D (x6_35).toNatClampNeg r_6 24) (fun r_16 => (if (Op.cmpValue (FP.dcmp r_16 FP.dconst0) CmpOp.g) < 0 then f_X4_wouldSpoil_L35 I D p1 r_6 n35 (x6_35 + 1) (x5_35 + 1) else (if (Op.cmpValue (FP.dcmp r_16 (4632233691727265792 : UInt64)) CmpOp.l) ≤ 0 then f_X4_wouldSpoil_L35 I D p1 r_6 n35 (x6_35 + 1) x5_35 else f_X4_wouldSpoil_L35 I D p1 r_6 n35 (x6_35 + 1) (x5_35 + 1))))) else f_X4_wouldSpoil_L35 I D p1 r_6 n35 (x6_35 + 1) x5_35))) else f_X4_wouldSpoil_L35 I D p1 r_6 n35 (x6_35 + 1) x5_35)))
def f_X4_wouldSpoil (I : Nat → Nat → Int32) (D : Nat → Nat → UInt64) (p1 : Int32) (p2 : Int32) : Option (Except String (Int32)) :=
  bE (f_X4_checkNumber p1 (I 0 8)) (fun _ => bE (f_X4_checkRange p2 0 20) (fun _ => ck (inB p1 3) (bd (f_X4_opened (D (30 + (p1).toNatClampNeg) 1) p2) (fun r_6 => f_X4_wouldSpoil_L35 I D p1 r_6 200 0 0))))
theorem iX4_wouldSpoil_RX0 : ∀ w ∈ u_ws RX0 TX0 5, w ∈ wsX4_wouldSpoil := fun w h => List.mem_cons_of_mem _ (List.mem_append_left _ (List.mem_append_left _ (List.mem_append_left _ (List.mem_append_right _ (h)))))
theorem iX4_wouldSpoil_RX4 : ∀ w ∈ u_ws RX4 TX4 14, w ∈ wsX4_wouldSpoil := fun w h => List.mem_cons_of_mem _ (List.mem_append_left _ (List.mem_append_left _ (List.mem_append_left _ (List.mem_append_left _ (List.mem_append_left _ (List.mem_append_right _ (h)))))))
theorem iX4_wouldSpoil_RX3 : ∀ w ∈ u_ws RX3 TX3 2, w ∈ wsX4_wouldSpoil := fun w h => List.mem_cons_of_mem _ (List.mem_append_left _ (List.mem_append_left _ (List.mem_append_left _ (List.mem_append_left _ (List.mem_append_right _ (h))))))
set_option maxHeartbeats 4000000 in
set_option maxRecDepth 100000 in
theorem mt_X4_wouldSpoil (l : Launch) (dC : Nat → ClassId) (dI : Nat → Nat → Nat) (ad : Nat → Nat) (cy : Nat → ClassId) (hJ : J33 ad) (sz : Nat) (I : Nat → Nat → Int32) (D : Nat → Nat → UInt64) (p1 : Int32) (p2 : Int32) (rr : Int32) (hf : f_X4_wouldSpoil I D p1 p2 = some (Except.ok rr)) : Met l yX4_wouldSpoil wsX4_wouldSpoil ({ frames := 3, cells := 0, slots := 0, locals := 81 }) (va_Pc [.ref (ad 0), .int p1, .int p2] (fun U => U.heap.size = sz ∧ hW dC dI ad cy I D U)) (va_Qi (fun r (_ : Unit) => rr = r) (fun _ _ => True) (fun q => sz ≤ q)) 0 0 (fun q => sz ≤ q) := by
  refine Met.ofW (cc := cX4_wouldSpoil) (maxL := 9) (ret := (some .int)) (by decide) rfl ?_
  intro p e s m args below meth c s₁ B hml hv
  obtain ⟨rfl, hsz, hP, hK, hN⟩ := hv
  have hx := B.exec
  have hb := B.bytes
  have hr := B.returns
  have hts := atoms_spec (ws := wsX4_wouldSpoil) B.pre
  have hown : s.vm.findClass RX4 = some m.cls := findClass_of_methodNamed B.named
  have hlocks := B.notSynchronized
  subst hsz
  generalize hAe : (fun q : Nat => s.heap.size ≤ q) = A
  have hA : ∀ q : Nat, s.heap.size ≤ q → A q := fun q h => by rw [← hAe]; exact h
  obtain ⟨H, hH⟩ : ∃ H : Heap, H = s.heap := ⟨_, rfl⟩
  have hS : va_S A s.heap H [] := by rw [hH]; exact va_S.rf
  rw [← hH]
  rw [← hH] at hP
  have hl := lv_entry ([.ref (ad 0), .int p1, .int p2]) (n := 9) (Nat.le_of_ble_eq_true rfl)
  rw [lg_entry_eq]
  generalize (lg_sl ([.ref (ad 0), .int p1, .int p2]) ++ List.replicate (9 - (lg_sl ([.ref (ad 0), .int p1, .int p2])).length) Slot.unset).toArray = ls at hl ⊢
  have hl : lv_has ls 9 [(0, .ref (ad 0)), (1, .int p1), (2, .int p2)] := hl
  unfold f_X4_wouldSpoil at hf
  refine lv_iload_n hx hb dX4_wouldSpoil_0 rfl (lv_at hl 1 rfl) ?_
  refine lv_aload_n hx hb dX4_wouldSpoil_1 rfl (lv_at hl 0 rfl) ?_
  refine va_get (D := (dC, dI)) (ci := 4) (v := .int (I 0 8)) (C := RX4) (T := TX4) (N := 14) hx hb hts iX4_wouldSpoil_RX4 hown hK hP 0 heH_0 rfl 8 (by decide) (hts (.fieldLink RX4 47 "OverrunHouse" "storeCount" "I") (List.mem_cons_of_mem _ (List.mem_append_left _ (List.mem_append_left _ (List.mem_append_left _ (List.mem_append_left _ (List.mem_append_left _ (List.mem_append_left _ (List.mem_append_left _ (List.mem_of_getElem? (i := 0) rfl)))))))))) (fun _ h9 => h9) rfl dX4_wouldSpoil_2 ?_
  obtain ⟨_, g_2, hf⟩ := bE_ok hf
  refine va_callv (va_runS (As := [.int p1, .int (I 0 8)]) (rest := []) ⟨hx, hb, hml, hown, hts⟩ (mt_X4_checkNumber l H.size p1 (I 0 8)  g_2) (va_cwS 2 hts gX4_wouldSpoil_X4_checkNumber rfl rfl rfl (by decide +kernel) ⟨Nat.le_of_ble_eq_true rfl, Nat.le_of_ble_eq_true rfl⟩) (pre0 [.int p1, .int (I 0 8)]) rfl rfl hl.1 rfl (lv_room (Nat.le_of_ble_eq_true rfl)) dX4_wouldSpoil_5 ⟨Nat.le_of_ble_eq_true rfl, Nat.le_of_ble_eq_true rfl⟩) hS (fun q _ h => hA q (Nat.le_trans hS.1 h)) (fun q h => hA q (Nat.le_trans hS.1 h)) (fun u t H1 locs ht hvm hw hB hz1 hk1 hS => ?_)
  have hP := va_Pnew hP hk1
  clear hB hz1 hk1 hvm ht
  generalize H1 = H at hP hS ⊢
  refine lv_iload_n hx hb dX4_wouldSpoil_8 rfl (lv_at hl 2 rfl) ?_
  refine lv_iconst (v := 0) hx hb dX4_wouldSpoil_9 (by decide) ?_
  refine lv_bipush (v := 20) hx hb dX4_wouldSpoil_10 (by decide) ?_
  obtain ⟨_, g_4, hf⟩ := bE_ok hf
  refine va_callv (va_runS (As := [.int p2, .int 0, .int 20]) (rest := []) ⟨hx, hb, hml, hown, hts⟩ (mt_X4_checkRange l H.size p2 0 20  g_4) (va_cwS 3 hts gX4_wouldSpoil_X4_checkRange rfl rfl rfl (by decide +kernel) ⟨Nat.le_of_ble_eq_true rfl, Nat.le_of_ble_eq_true rfl⟩) (pre0 [.int p2, .int 0, .int 20]) rfl rfl hl.1 rfl (lv_room (Nat.le_of_ble_eq_true rfl)) dX4_wouldSpoil_12 ⟨Nat.le_of_ble_eq_true rfl, Nat.le_of_ble_eq_true rfl⟩) hS (fun q _ h => hA q (Nat.le_trans hS.1 h)) (fun q h => hA q (Nat.le_trans hS.1 h)) (fun u t H1 locs ht hvm hw hB hz1 hk1 hS => ?_)
  have hP := va_Pnew hP hk1
  clear hB hz1 hk1 hvm ht
  generalize H1 = H at hP hS ⊢
  refine lv_aload_n hx hb dX4_wouldSpoil_15 rfl (lv_at hl 0 rfl) ?_
  refine va_get (D := (dC, dI)) (ci := 4) (v := .ref (ad 4)) (C := RX4) (T := TX4) (N := 14) hx hb hts iX4_wouldSpoil_RX4 hown hK hP 0 heH_0 rfl 3 (by decide) (hts (.fieldLink RX4 29 "OverrunHouse" "stores" "[LOverrunHouse$Store;") (List.mem_cons_of_mem _ (List.mem_append_left _ (List.mem_append_left _ (List.mem_append_left _ (List.mem_append_left _ (List.mem_append_left _ (List.mem_append_left _ (List.mem_append_left _ (List.mem_of_getElem? (i := 1) rfl)))))))))) (fun _ h9 => h9) rfl dX4_wouldSpoil_16 ?_
  refine lv_iload_n hx hb dX4_wouldSpoil_19 rfl (lv_at hl 1 rfl) ?_
  obtain ⟨h_5, hf⟩ := ck_out hf
  refine wr_aald (b := 30) (n := 3) hx hb hK hP 4 4 heH_4 rfl (inB_in h_5) dX4_wouldSpoil_20 ?_
  refine va_getN (D := (dC, dI)) (ci := 3) (v := .double (D (30 + (p1).toNatClampNeg) 1)) (C := RX3) (T := TX3) (N := 2) hx hb hts iX4_wouldSpoil_RX3 hown hK hP (30 + (p1).toNatClampNeg) (heH_Store (inB_lt h_5)) rfl 1 (by decide) (va_Nw.use (w := .fieldLinkNest "OverrunHouse" 156 "OverrunHouse$Store" "degrees" "D" "OverrunHouse") rfl (hN _ (List.mem_of_getElem? (i := 24) rfl))) (fun _ h9 => h9) rfl dX4_wouldSpoil_21 ?_
  refine lv_iload_n hx hb dX4_wouldSpoil_24 rfl (lv_at hl 2 rfl) ?_
  obtain ⟨r_6, g_7, hf⟩ := bd_out hf
  refine va_calld (va_runS (As := [.double (D (30 + (p1).toNatClampNeg) 1), .int p2]) (rest := []) ⟨hx, hb, hml, hown, hts⟩ (mt_X4_opened l H.size (D (30 + (p1).toNatClampNeg) 1) p2 r_6 g_7) (va_cwS 2 hts gX4_wouldSpoil_X4_opened rfl rfl rfl (by decide +kernel) ⟨Nat.le_of_ble_eq_true rfl, Nat.le_of_ble_eq_true rfl⟩) (pre0 [.double (D (30 + (p1).toNatClampNeg) 1), .int p2]) rfl rfl hl.1 rfl (lv_room (Nat.le_of_ble_eq_true rfl)) dX4_wouldSpoil_25 ⟨Nat.le_of_ble_eq_true rfl, Nat.le_of_ble_eq_true rfl⟩) hS (fun q _ h => hA q (Nat.le_trans hS.1 h)) (fun q h => hA q (Nat.le_trans hS.1 h)) (fun r9 u t H1 locs ht hvm hw hB hz1 hk1 hS => ?_)
  subst hw
  have hP := va_Pnew hP hk1
  clear hB hz1 hk1 hvm ht
  generalize H1 = H at hP hS ⊢
  refine lv_dstore_n (lv' := [(3, .double r_6), (0, .ref (ad 0)), (1, .int p1), (2, .int p2)]) hx hb dX4_wouldSpoil_28 rfl hl (by decide) rfl (fun ls hl => ?_)
  refine lv_iconst (v := 0) hx hb dX4_wouldSpoil_29 (by decide) ?_
  refine lv_istore (lv' := [(5, .int 0), (3, .double r_6), (0, .ref (ad 0)), (1, .int p1), (2, .int p2)]) hx hb dX4_wouldSpoil_30 hl (by decide) rfl (fun ls hl => ?_)
  refine lv_iconst (v := 0) hx hb dX4_wouldSpoil_32 (by decide) ?_
  refine lv_istore (lv' := [(6, .int 0), (5, .int 0), (3, .double r_6), (0, .ref (ad 0)), (1, .int p1), (2, .int p2)]) hx hb dX4_wouldSpoil_33 hl (by decide) rfl (fun ls hl => ?_)
  have L35 : ∀ (n35 : Nat) (x6_35 : Int32) (x5_35 : Int32), f_X4_wouldSpoil_L35 I D p1 r_6 n35 x6_35 x5_35 = some (Except.ok rr) → ∀ (H : Heap) (locs : List Loc) (ls : Array Slot), va_P (dC, dI) vwCl (iwH ad cy I D) H → va_S A s.heap H locs → lv_has ls 9 [(6, .int x6_35), (5, .int x5_35), (3, .double r_6), (0, .ref (ad 0)), (1, .int p1), (2, .int p2)] → W p l e (headSpec wsX4_wouldSpoil ({ frames := 3, cells := 0, slots := 0, locals := 81 })).room s m ([.ref (ad 0), .int p1, .int p2] : List Value).toArray below meth c H locs 0 0 (MQ below (va_Qi (fun r (_ : Unit) => rr = r) (fun _ _ => True) A) ([.ref (ad 0), .int p1, .int p2] : List Value).toArray s 0 0 A) (F0 m 35 ls []) := by
    intro n35
    induction n35 with
    | zero => intro x6_35 x5_35 hf; exact nomatch hf
    | succ n35 ih35 =>
      intro x6_35 x5_35 hf H locs ls hP hS hl
      unfold f_X4_wouldSpoil_L35 at hf
      refine lv_iload hx hb dX4_wouldSpoil_35 (lv_at hl 0 rfl) ?_
      refine lv_aload_n hx hb dX4_wouldSpoil_37 rfl (lv_at hl 3 rfl) ?_
      refine va_get (D := (dC, dI)) (ci := 4) (v := .int (I 0 7)) (C := RX4) (T := TX4) (N := 14) hx hb hts iX4_wouldSpoil_RX4 hown hK hP 0 heH_0 rfl 7 (by decide) (hts (.fieldLink RX4 44 "OverrunHouse" "batchCount" "I") (List.mem_cons_of_mem _ (List.mem_append_left _ (List.mem_append_left _ (List.mem_append_left _ (List.mem_append_left _ (List.mem_append_left _ (List.mem_append_left _ (List.mem_append_left _ (List.mem_of_getElem? (i := 2) rfl)))))))))) (fun _ h9 => h9) rfl dX4_wouldSpoil_38 ?_
      refine lv_icmp_ge (tgt := 112) hx hb dX4_wouldSpoil_41 (by decide) (fun c_8 => ?_) (fun c_8 => ?_)
      · have hf := it_t hf c_8
        refine lv_iload hx hb dX4_wouldSpoil_112 (lv_at hl 1 rfl) ?_
        have hf := ok_in hf
        have q1 := hf
        exact W.iret (v := x5_35) hx hb hr (fun t ht hW9 => ⟨⟨x5_35, (), rfl, q1.symm, trivial⟩, hS.F ht⟩) hS.2.2 dX4_wouldSpoil_114
      · have hf := it_f hf c_8
        refine lv_aload_n hx hb dX4_wouldSpoil_44 rfl (lv_at hl 3 rfl) ?_
        refine va_get (D := (dC, dI)) (ci := 4) (v := .ref (ad 3)) (C := RX4) (T := TX4) (N := 14) hx hb hts iX4_wouldSpoil_RX4 hown hK hP 0 heH_0 rfl 2 (by decide) (hts (.fieldLink RX4 23 "OverrunHouse" "batches" "[LOverrunHouse$Batch;") (List.mem_cons_of_mem _ (List.mem_append_left _ (List.mem_append_left _ (List.mem_append_left _ (List.mem_append_left _ (List.mem_append_left _ (List.mem_append_left _ (List.mem_append_left _ (List.mem_of_getElem? (i := 3) rfl)))))))))) (fun _ h9 => h9) rfl dX4_wouldSpoil_45 ?_
        refine lv_iload hx hb dX4_wouldSpoil_48 (lv_at hl 0 rfl) ?_
        obtain ⟨h_9, hf⟩ := ck_out hf
        refine wr_aald (b := 18) (n := 12) hx hb hK hP 3 3 heH_3 rfl (inB_in h_9) dX4_wouldSpoil_50 ?_
        refine va_getN (D := (dC, dI)) (ci := 0) (v := .int (I (18 + (x6_35).toNatClampNeg) 2)) (C := RX0) (T := TX0) (N := 5) hx hb hts iX4_wouldSpoil_RX0 hown hK hP (18 + (x6_35).toNatClampNeg) (heH_Batch (inB_lt h_9)) rfl 2 (by decide) (va_Nw.use (w := .fieldLinkNest "OverrunHouse" 143 "OverrunHouse$Batch" "place" "I" "OverrunHouse") rfl (hN _ (List.mem_of_getElem? (i := 20) rfl))) (fun _ h9 => h9) rfl dX4_wouldSpoil_51 ?_
        refine lv_iload_n hx hb dX4_wouldSpoil_54 rfl (lv_at hl 4 rfl) ?_
        refine lv_icmp_ne (tgt := 106) hx hb dX4_wouldSpoil_55 (by decide) (fun c_10 => ?_) (fun c_10 => ?_)
        · have hf := it_f hf c_10
          refine lv_iinc (v := (x6_35 + 1)) (lv' := [(6, .int (x6_35 + 1)), (5, .int x5_35), (3, .double r_6), (0, .ref (ad 0)), (1, .int p1), (2, .int p2)]) hx hb dX4_wouldSpoil_106 hl (k := 0) rfl rfl (by decide) rfl (fun ls hl => ?_)
          refine lv_goto (tgt := 35) hx hb dX4_wouldSpoil_109 (by decide) ?_
          exact ih35 (x6_35 + 1) x5_35 hf _ _ _ hP hS (lv_sub hl [0, 1, 2, 3, 4, 5] rfl)
        · have hf := it_t hf c_10
          refine lv_aload_n hx hb dX4_wouldSpoil_58 rfl (lv_at hl 3 rfl) ?_
          refine va_get (D := (dC, dI)) (ci := 4) (v := .ref (ad 3)) (C := RX4) (T := TX4) (N := 14) hx hb hts iX4_wouldSpoil_RX4 hown hK hP 0 heH_0 rfl 2 (by decide) (hts (.fieldLink RX4 23 "OverrunHouse" "batches" "[LOverrunHouse$Batch;") (List.mem_cons_of_mem _ (List.mem_append_left _ (List.mem_append_left _ (List.mem_append_left _ (List.mem_append_left _ (List.mem_append_left _ (List.mem_append_left _ (List.mem_append_left _ (List.mem_of_getElem? (i := 3) rfl)))))))))) (fun _ h9 => h9) rfl dX4_wouldSpoil_59 ?_
          refine lv_iload hx hb dX4_wouldSpoil_62 (lv_at hl 0 rfl) ?_
          obtain ⟨h_11, hf⟩ := ck_out hf
          refine wr_aald (b := 18) (n := 12) hx hb hK hP 3 3 heH_3 rfl (inB_in h_11) dX4_wouldSpoil_64 ?_
          obtain ⟨r_12, g_13, hf⟩ := bd_out hf
          refine va_calli (va_runVN (As := []) (rest := []) ⟨hx, hb, hml, hown, hts⟩ (mt_X0_isCoarse l dC dI ad cy hJ H.size I D (x6_35).toNatClampNeg (inB_lt h_11) r_12 g_13) ⟨va_cnB 0 hts gX4_wouldSpoil_X0_isCoarse_n196 rfl rfl rfl (hN (.methodLinkNest "OverrunHouse" 196 ⟨"OverrunHouse$Batch", "isCoarse", "()Z"⟩ "OverrunHouse") (List.mem_of_getElem? (i := 29) rfl)) (hts (.initialized RX0) (List.mem_cons_of_mem _ (List.mem_append_left _ (List.mem_append_left _ (List.mem_append_left _ (List.mem_append_left _ (List.mem_append_left _ (List.mem_append_left _ (List.mem_append_left _ (List.mem_of_getElem? (i := 22) rfl)))))))))) (by decide +kernel) ⟨Nat.le_of_ble_eq_true rfl, Nat.le_of_ble_eq_true rfl⟩, (hts (.instanceMethod yX0_isCoarse) (List.mem_cons_of_mem _ (List.mem_append_left _ (List.mem_append_left _ (List.mem_append_left _ (List.mem_append_left _ (List.mem_append_left _ (List.mem_append_left _ (List.mem_append_left _ (List.mem_of_getElem? (i := 21) rfl)))))))))), (hts (.selects RX0 yX0_isCoarse yX0_isCoarse) (List.mem_cons_of_mem _ (List.mem_append_left _ (List.mem_append_left _ (List.mem_append_left _ (List.mem_append_left _ (List.mem_append_left _ (List.mem_append_left _ (List.mem_append_left _ (List.mem_of_getElem? (i := 23) rfl))))))))))⟩ ⟨(hW.pre [.ref (ad (18 + (x6_35).toNatClampNeg))] hP hK hN).1, hW.recv (C := RX0) (T := TX0) (N := 5) hP hK (heH_Batch (inB_lt h_11)) rfl, (hW.pre [.ref (ad (18 + (x6_35).toNatClampNeg))] hP hK hN).2⟩ rfl rfl hl.1 rfl (lv_room (Nat.le_of_ble_eq_true rfl)) dX4_wouldSpoil_65 ⟨Nat.le_of_ble_eq_true rfl, Nat.le_of_ble_eq_true rfl⟩) hS (fun q _ h => hA q (Nat.le_trans hS.1 h)) (fun q h => hA q (Nat.le_trans hS.1 h)) (fun r9 u t H1 locs ht hvm hw hB hz1 hk1 hS => ?_)
          subst hw
          have hP := va_Pnew hP hk1
          clear hB hz1 hk1 hvm ht
          generalize H1 = H at hP hS ⊢
          refine lv_if_ne (tgt := 106) hx hb dX4_wouldSpoil_68 (by decide) (fun c_14 => ?_) (fun c_14 => ?_)
          · have hf := it_f hf c_14
            refine lv_iinc (v := (x6_35 + 1)) (lv' := [(6, .int (x6_35 + 1)), (5, .int x5_35), (3, .double r_6), (0, .ref (ad 0)), (1, .int p1), (2, .int p2)]) hx hb dX4_wouldSpoil_106 hl (k := 0) rfl rfl (by decide) rfl (fun ls hl => ?_)
            refine lv_goto (tgt := 35) hx hb dX4_wouldSpoil_109 (by decide) ?_
            exact ih35 (x6_35 + 1) x5_35 hf _ _ _ hP hS (lv_sub hl [0, 1, 2, 3, 4, 5] rfl)
          · have hf := it_t hf c_14
            refine lv_aload_n hx hb dX4_wouldSpoil_71 rfl (lv_at hl 3 rfl) ?_
            refine lv_aload_n hx hb dX4_wouldSpoil_72 rfl (lv_at hl 3 rfl) ?_
            refine va_get (D := (dC, dI)) (ci := 4) (v := .ref (ad 3)) (C := RX4) (T := TX4) (N := 14) hx hb hts iX4_wouldSpoil_RX4 hown hK hP 0 heH_0 rfl 2 (by decide) (hts (.fieldLink RX4 23 "OverrunHouse" "batches" "[LOverrunHouse$Batch;") (List.mem_cons_of_mem _ (List.mem_append_left _ (List.mem_append_left _ (List.mem_append_left _ (List.mem_append_left _ (List.mem_append_left _ (List.mem_append_left _ (List.mem_append_left _ (List.mem_of_getElem? (i := 3) rfl)))))))))) (fun _ h9 => h9) rfl dX4_wouldSpoil_73 ?_
            refine lv_iload hx hb dX4_wouldSpoil_76 (lv_at hl 0 rfl) ?_
            obtain ⟨h_15, hf⟩ := ck_out hf
            refine wr_aald (b := 18) (n := 12) hx hb hK hP 3 3 heH_3 rfl (inB_in h_15) dX4_wouldSpoil_78 ?_
            refine lv_dload_n hx hb dX4_wouldSpoil_79 rfl (lv_at hl 2 rfl) ?_
            refine lv_bipush (v := 24) hx hb dX4_wouldSpoil_80 (by decide) ?_
            obtain ⟨r_16, g_17, hf⟩ := bd_out hf
            refine va_calld (va_runV (As := [.ref (ad (18 + (x6_35).toNatClampNeg)), .double r_6, .int 24]) (rest := []) ⟨hx, hb, hml, hown, hts⟩ (mt_X4_crystalLater l dC dI ad cy hJ H.size I D (x6_35).toNatClampNeg (inB_lt h_15) r_6 24 r_16 g_17) (cwV 3 hts gX4_wouldSpoil_X4_crystalLater rfl rfl rfl (by decide +kernel) ⟨Nat.le_of_ble_eq_true rfl, Nat.le_of_ble_eq_true rfl⟩) ⟨(hW.pre [.ref (ad 0), .ref (ad (18 + (x6_35).toNatClampNeg)), .double r_6, .int 24] hP hK hN).1, hW.recv (C := RX4) (T := TX4) (N := 14) hP hK heH_0 rfl, (hW.pre [.ref (ad 0), .ref (ad (18 + (x6_35).toNatClampNeg)), .double r_6, .int 24] hP hK hN).2⟩ rfl rfl hl.1 rfl (lv_room (Nat.le_of_ble_eq_true rfl)) dX4_wouldSpoil_82 ⟨Nat.le_of_ble_eq_true rfl, Nat.le_of_ble_eq_true rfl⟩) hS (fun q _ h => hA q (Nat.le_trans hS.1 h)) (fun q h => hA q (Nat.le_trans hS.1 h)) (fun r9 u t H1 locs ht hvm hw hB hz1 hk1 hS => ?_)
            subst hw
            have hP := va_Pnew hP hk1
            clear hB hz1 hk1 hvm ht
            generalize H1 = H at hP hS ⊢
            refine lv_dstore (lv' := [(7, .double r_16), (6, .int x6_35), (5, .int x5_35), (3, .double r_6), (0, .ref (ad 0)), (1, .int p1), (2, .int p2)]) hx hb dX4_wouldSpoil_85 hl (by decide) rfl (fun ls hl => ?_)
            refine lv_dload hx hb dX4_wouldSpoil_87 (lv_at hl 0 rfl) ?_
            refine lv_dconst0 hx hb dX4_wouldSpoil_89 ?_
            refine lv_dcmp hx hb dX4_wouldSpoil_90 ?_
            refine lv_if_lt (tgt := 103) hx hb dX4_wouldSpoil_91 (by decide) (fun c_18 => ?_) (fun c_18 => ?_)
            · have hf := it_t hf c_18
              refine lv_iinc (v := (x5_35 + 1)) (lv' := [(5, .int (x5_35 + 1)), (7, .double r_16), (6, .int x6_35), (3, .double r_6), (0, .ref (ad 0)), (1, .int p1), (2, .int p2)]) hx hb dX4_wouldSpoil_103 hl (k := 2) rfl rfl (by decide) rfl (fun ls hl => ?_)
              refine lv_iinc (v := (x6_35 + 1)) (lv' := [(6, .int (x6_35 + 1)), (5, .int (x5_35 + 1)), (7, .double r_16), (3, .double r_6), (0, .ref (ad 0)), (1, .int p1), (2, .int p2)]) hx hb dX4_wouldSpoil_106 hl (k := 2) rfl rfl (by decide) rfl (fun ls hl => ?_)
              refine lv_goto (tgt := 35) hx hb dX4_wouldSpoil_109 (by decide) ?_
              exact ih35 (x6_35 + 1) (x5_35 + 1) hf _ _ _ hP hS (lv_sub hl [0, 1, 3, 4, 5, 6] rfl)
            · have hf := it_f hf c_18
              refine lv_dload hx hb dX4_wouldSpoil_94 (lv_at hl 0 rfl) ?_
              refine lv_ldc2d (v := 4632233691727265792) hx hb hown (hts (.constantDouble RX4 264 (4632233691727265792)) (List.mem_cons_of_mem _ (List.mem_append_left _ (List.mem_append_left _ (List.mem_append_left _ (List.mem_append_left _ (List.mem_append_left _ (List.mem_append_left _ (List.mem_append_left _ (List.mem_of_getElem? (i := 4) rfl)))))))))) dX4_wouldSpoil_96 ?_
              refine lv_dcmp hx hb dX4_wouldSpoil_99 ?_
              refine lv_if_le (tgt := 106) hx hb dX4_wouldSpoil_100 (by decide) (fun c_19 => ?_) (fun c_19 => ?_)
              · have hf := it_t hf c_19
                refine lv_iinc (v := (x6_35 + 1)) (lv' := [(6, .int (x6_35 + 1)), (7, .double r_16), (5, .int x5_35), (3, .double r_6), (0, .ref (ad 0)), (1, .int p1), (2, .int p2)]) hx hb dX4_wouldSpoil_106 hl (k := 1) rfl rfl (by decide) rfl (fun ls hl => ?_)
                refine lv_goto (tgt := 35) hx hb dX4_wouldSpoil_109 (by decide) ?_
                exact ih35 (x6_35 + 1) x5_35 hf _ _ _ hP hS (lv_sub hl [0, 2, 3, 4, 5, 6] rfl)
              · have hf := it_f hf c_19
                refine lv_iinc (v := (x5_35 + 1)) (lv' := [(5, .int (x5_35 + 1)), (7, .double r_16), (6, .int x6_35), (3, .double r_6), (0, .ref (ad 0)), (1, .int p1), (2, .int p2)]) hx hb dX4_wouldSpoil_103 hl (k := 2) rfl rfl (by decide) rfl (fun ls hl => ?_)
                refine lv_iinc (v := (x6_35 + 1)) (lv' := [(6, .int (x6_35 + 1)), (5, .int (x5_35 + 1)), (7, .double r_16), (3, .double r_6), (0, .ref (ad 0)), (1, .int p1), (2, .int p2)]) hx hb dX4_wouldSpoil_106 hl (k := 2) rfl rfl (by decide) rfl (fun ls hl => ?_)
                refine lv_goto (tgt := 35) hx hb dX4_wouldSpoil_109 (by decide) ?_
                exact ih35 (x6_35 + 1) (x5_35 + 1) hf _ _ _ hP hS (lv_sub hl [0, 1, 3, 4, 5, 6] rfl)
  exact L35 200 0 0 hf _ _ _ hP hS (lv_sub hl [0, 1, 2, 3, 4, 5] rfl)

def f_X4_digest_L165 (I : Nat → Nat → Int32) (D : Nat → Nat → UInt64) : Nat → Int32 → Int64 → Option (Except String (Int64 × (Nat → Nat → Int32) × (Nat → Nat → UInt64)))
  | 0, _, _ => none
  | n165 + 1, x3_165, x1_165 => (if (I 0 8) ≤ x3_165 then bE (f_X4_day I D ((1 <<< ((I 0 6) &&& 31)) - 1) 1) (fun (r_5, I_7, D_8) => bE (f_X4_day I_7 D_8 ((1 <<< ((I 0 6) &&& 31)) - 1) 0) (fun (r_9, I_11, D_12) => some (Except.ok (((((x1_165 * (31 : Int64)) + (r_5).toInt64) * (31 : Int64)) + (r_9).toInt64), I_11, D_12)))) else ck (inB x3_165 3) (ck (okD (FP.dmul (D (30 + (x3_165).toNatClampNeg) 1) (4620693217682128896 : UInt64))) (bE (f_X4_wouldSpoil I D x3_165 0) (fun r_15 => f_X4_digest_L165 I D n165 (x3_165 + 1) ((((x1_165 * (31 : Int64)) + (FP.d2l (FP.dmul (D (30 + (x3_165).toNatClampNeg) 1) (4620693217682128896 : UInt64)))) * (31 : Int64)) + (r_15).toInt64)))))
def f_X4_digest_L109 (rec98 : Int32 → Int64 → Option (Except String (Int64 × (Nat → Nat → Int32) × (Nat → Nat → UInt64)))) (I : Nat → Nat → Int32) (D : Nat → Nat → UInt64) (x3_98 : Int32) : Nat → Int32 → Int64 → Option (Except String (Int64 × (Nat → Nat → Int32) × (Nat → Nat → UInt64)))
  | 0, _, _ => none
  | n109 + 1, x4_109, x1_109 => (if 5 < x4_109 then ck (inB x3_98 12) (ck (okD (FP.dmul (D (18 + (x3_98).toNatClampNeg) 4) (4620693217682128896 : UInt64))) (rec98 (x3_98 + 1) ((x1_109 * (31 : Int64)) + (FP.d2l (FP.dmul (D (18 + (x3_98).toNatClampNeg) 4) (4620693217682128896 : UInt64)))))) else bE (f_X4_ofBatch I D x3_98 x4_109) (fun r_20 => f_X4_digest_L109 rec98 I D x3_98 n109 (x4_109 + 1) ((x1_109 * (31 : Int64)) + (r_20).toInt64)))
def f_X4_digest_L98 (I : Nat → Nat → Int32) (D : Nat → Nat → UInt64) : Nat → Int32 → Int64 → Option (Except String (Int64 × (Nat → Nat → Int32) × (Nat → Nat → UInt64)))
  | 0, _, _ => none
  | n98 + 1, x3_98, x1_98 => (if (I 0 7) ≤ x3_98 then f_X4_digest_L165 I D 200 0 x1_98 else f_X4_digest_L109 (f_X4_digest_L98 I D n98) I D x3_98 200 0 x1_98)
def f_X4_digest_L44 (rec33 : Int32 → Int64 → Option (Except String (Int64 × (Nat → Nat → Int32) × (Nat → Nat → UInt64)))) (I : Nat → Nat → Int32) (D : Nat → Nat → UInt64) (x3_33 : Int32) : Nat → Int32 → Int64 → Option (Except String (Int64 × (Nat → Nat → Int32) × (Nat → Nat → UInt64)))
  | 0, _, _ => none
  | n44 + 1, x4_44, x1_44 => (if 8 < x4_44 then bE (f_X4_bars I D 0 x3_33 20 80) (fun r_23 => rec33 (x3_33 + 1) ((x1_44 * (31 : Int64)) + (r_23).toInt64)) else bE (f_X4_ofMix I D x3_33 x4_44) (fun r_25 => f_X4_digest_L44 rec33 I D x3_33 n44 (x4_44 + 1) ((x1_44 * (31 : Int64)) + (r_25).toInt64)))
def f_X4_digest_L33 (I : Nat → Nat → Int32) (D : Nat → Nat → UInt64) : Nat → Int32 → Int64 → Option (Except String (Int64 × (Nat → Nat → Int32) × (Nat → Nat → UInt64)))
  | 0, _, _ => none
  | n33 + 1, x3_33, x1_33 => (if (I 0 6) ≤ x3_33 then f_X4_digest_L98 I D 200 0 x1_33 else f_X4_digest_L44 (f_X4_digest_L33 I D n33) I D x3_33 200 0 x1_33)
def f_X4_digest_L6 (I : Nat → Nat → Int32) (D : Nat → Nat → UInt64) : Nat → Int32 → Int64 → Option (Except String (Int64 × (Nat → Nat → Int32) × (Nat → Nat → UInt64)))
  | 0, _, _ => none
  | n6 + 1, x3_6, x1_6 => (if 11 < x3_6 then f_X4_digest_L33 I D 200 0 x1_6 else bE (f_X4_many I D x3_6) (fun r_27 => f_X4_digest_L6 I D n6 (x3_6 + 1) ((x1_6 * (31 : Int64)) + (r_27).toInt64)))
def f_X4_digest (I : Nat → Nat → Int32) (D : Nat → Nat → UInt64) : Option (Except String (Int64 × (Nat → Nat → Int32) × (Nat → Nat → UInt64))) :=
  f_X4_digest_L6 I D 200 0 (9606 : Int64)
theorem iX4_digest_RX0 : ∀ w ∈ u_ws RX0 TX0 5, w ∈ wsX4_digest := fun w h => List.mem_cons_of_mem _ (List.mem_append_left _ (List.mem_append_left _ (List.mem_append_left _ (List.mem_append_left _ (List.mem_append_right _ (h))))))
theorem iX4_digest_RX4 : ∀ w ∈ u_ws RX4 TX4 14, w ∈ wsX4_digest := fun w h => List.mem_cons_of_mem _ (List.mem_append_left _ (List.mem_append_left _ (List.mem_append_left _ (List.mem_append_left _ (List.mem_append_left _ (List.mem_append_right _ (h)))))))
theorem iX4_digest_RX3 : ∀ w ∈ u_ws RX3 TX3 2, w ∈ wsX4_digest := fun w h => List.mem_cons_of_mem _ (List.mem_append_left _ (List.mem_append_left _ (List.mem_append_left _ (List.mem_append_right _ (h)))))
set_option maxHeartbeats 4000000 in
set_option maxRecDepth 100000 in
theorem mt_X4_digest (l : Launch) (dC : Nat → ClassId) (dI : Nat → Nat → Nat) (ad : Nat → Nat) (cy : Nat → ClassId) (hJ : J33 ad) (sz : Nat) (I : Nat → Nat → Int32) (D : Nat → Nat → UInt64) (rr : Int64) (I9 : Nat → Nat → Int32) (D9 : Nat → Nat → UInt64) (hf : f_X4_digest I D = some (Except.ok (rr, I9, D9))) : Met l yX4_digest wsX4_digest ({ frames := 5, cells := 0, slots := 0, locals := 120 }) (va_Pc [.ref (ad 0)] (fun U => U.heap.size = sz ∧ hW dC dI ad cy I D U)) (va_Ql (fun r (_ : Unit) => rr = r) (fun _ t => hW dC dI ad cy I9 D9 t) (AW ad sz)) 0 0 (AW ad sz) := by
  refine Met.ofW (cc := cX4_digest) (maxL := 5) (ret := (some .long)) (by decide) rfl ?_
  intro p e s m args below meth c s₁ B hml hv
  obtain ⟨rfl, hsz, hP, hK, hN⟩ := hv
  have hx := B.exec
  have hb := B.bytes
  have hr := B.returns
  have hts := atoms_spec (ws := wsX4_digest) B.pre
  have hown : s.vm.findClass RX4 = some m.cls := findClass_of_methodNamed B.named
  have hlocks := B.notSynchronized
  subst hsz
  generalize hAe : AW ad s.heap.size = A
  have hA : ∀ q : Nat, s.heap.size ≤ q → A q := fun q h => by rw [← hAe]; exact Or.inr h
  have hA33 : ∀ k, k < 33 → A (ad k) := fun k h => by rw [← hAe]; exact Or.inl ⟨k, h, rfl⟩
  have hDD : ∀ I D, va_D A (iwH ad cy I D) := fun I D => iwH_D hJ hA33 I D
  obtain ⟨H, hH⟩ : ∃ H : Heap, H = s.heap := ⟨_, rfl⟩
  have hS : va_S A s.heap H [] := by rw [hH]; exact va_S.rf
  rw [← hH]
  rw [← hH] at hP
  have hl := lv_entry ([.ref (ad 0)]) (n := 5) (Nat.le_of_ble_eq_true rfl)
  rw [lg_entry_eq]
  generalize (lg_sl ([.ref (ad 0)]) ++ List.replicate (5 - (lg_sl ([.ref (ad 0)])).length) Slot.unset).toArray = ls at hl ⊢
  have hl : lv_has ls 5 [(0, .ref (ad 0))] := hl
  unfold f_X4_digest at hf
  refine lv_ldc2 (v := 9606) hx hb hown (hts (.constantLong RX4 266 (9606)) (List.mem_cons_of_mem _ (List.mem_append_left _ (List.mem_append_left _ (List.mem_append_left _ (List.mem_append_left _ (List.mem_append_left _ (List.mem_append_left _ (List.mem_append_left _ (List.mem_of_getElem? (i := 0) rfl)))))))))) dX4_digest_0 ?_
  refine lv_lstore_n (lv' := [(1, .long (9606 : Int64)), (0, .ref (ad 0))]) hx hb dX4_digest_3 rfl hl (by decide) rfl (fun ls hl => ?_)
  refine lv_iconst (v := 0) hx hb dX4_digest_4 (by decide) ?_
  refine lv_istore_n (lv' := [(3, .int 0), (1, .long (9606 : Int64)), (0, .ref (ad 0))]) hx hb dX4_digest_5 rfl hl (by decide) rfl (fun ls hl => ?_)
  have L6 : ∀ (n6 : Nat) (x3_6 : Int32) (x1_6 : Int64), f_X4_digest_L6 I D n6 x3_6 x1_6 = some (Except.ok (rr, I9, D9)) → ∀ (H : Heap) (locs : List Loc) (ls : Array Slot), va_P (dC, dI) vwCl (iwH ad cy I D) H → va_S A s.heap H locs → lv_has ls 5 [(3, .int x3_6), (1, .long x1_6), (0, .ref (ad 0))] → W p l e (headSpec wsX4_digest ({ frames := 5, cells := 0, slots := 0, locals := 120 })).room s m ([.ref (ad 0)] : List Value).toArray below meth c H locs 0 0 (MQ below (va_Ql (fun r (_ : Unit) => rr = r) (fun _ t => hW dC dI ad cy I9 D9 t) A) ([.ref (ad 0)] : List Value).toArray s 0 0 A) (F0 m 6 ls []) := by
    intro n6
    induction n6 with
    | zero => intro x3_6 x1_6 hf; exact nomatch hf
    | succ n6 ih6 =>
      intro x3_6 x1_6 hf H locs ls hP hS hl
      unfold f_X4_digest_L6 at hf
      refine lv_iload_n hx hb dX4_digest_6 rfl (lv_at hl 0 rfl) ?_
      refine lv_bipush (v := 11) hx hb dX4_digest_7 (by decide) ?_
      refine lv_icmp_gt (tgt := 31) hx hb dX4_digest_9 (by decide) (fun c_1 => ?_) (fun c_1 => ?_)
      · have hf := it_t hf c_1
        refine lv_iconst (v := 0) hx hb dX4_digest_31 (by decide) ?_
        refine lv_istore_n (lv' := [(3, .int 0), (1, .long x1_6), (0, .ref (ad 0))]) hx hb dX4_digest_32 rfl hl (by decide) rfl (fun ls hl => ?_)
        have L33 : ∀ (n33 : Nat) (x3_33 : Int32) (x1_33 : Int64), f_X4_digest_L33 I D n33 x3_33 x1_33 = some (Except.ok (rr, I9, D9)) → ∀ (H : Heap) (locs : List Loc) (ls : Array Slot), va_P (dC, dI) vwCl (iwH ad cy I D) H → va_S A s.heap H locs → lv_has ls 5 [(3, .int x3_33), (1, .long x1_33), (0, .ref (ad 0))] → W p l e (headSpec wsX4_digest ({ frames := 5, cells := 0, slots := 0, locals := 120 })).room s m ([.ref (ad 0)] : List Value).toArray below meth c H locs 0 0 (MQ below (va_Ql (fun r (_ : Unit) => rr = r) (fun _ t => hW dC dI ad cy I9 D9 t) A) ([.ref (ad 0)] : List Value).toArray s 0 0 A) (F0 m 33 ls []) := by
          intro n33
          induction n33 with
          | zero => intro x3_33 x1_33 hf; exact nomatch hf
          | succ n33 ih33 =>
            intro x3_33 x1_33 hf H locs ls hP hS hl
            unfold f_X4_digest_L33 at hf
            refine lv_iload_n hx hb dX4_digest_33 rfl (lv_at hl 0 rfl) ?_
            refine lv_aload_n hx hb dX4_digest_34 rfl (lv_at hl 2 rfl) ?_
            refine va_get (D := (dC, dI)) (ci := 4) (v := .int (I 0 6)) (C := RX4) (T := TX4) (N := 14) hx hb hts iX4_digest_RX4 hown hK hP 0 heH_0 rfl 6 (by decide) (hts (.fieldLink RX4 41 "OverrunHouse" "mixCount" "I") (List.mem_cons_of_mem _ (List.mem_append_left _ (List.mem_append_left _ (List.mem_append_left _ (List.mem_append_left _ (List.mem_append_left _ (List.mem_append_left _ (List.mem_append_left _ (List.mem_of_getElem? (i := 2) rfl)))))))))) (fun _ h9 => h9) rfl dX4_digest_35 ?_
            refine lv_icmp_ge (tgt := 96) hx hb dX4_digest_38 (by decide) (fun c_2 => ?_) (fun c_2 => ?_)
            · have hf := it_t hf c_2
              refine lv_iconst (v := 0) hx hb dX4_digest_96 (by decide) ?_
              refine lv_istore_n (lv' := [(3, .int 0), (1, .long x1_33), (0, .ref (ad 0))]) hx hb dX4_digest_97 rfl hl (by decide) rfl (fun ls hl => ?_)
              have L98 : ∀ (n98 : Nat) (x3_98 : Int32) (x1_98 : Int64), f_X4_digest_L98 I D n98 x3_98 x1_98 = some (Except.ok (rr, I9, D9)) → ∀ (H : Heap) (locs : List Loc) (ls : Array Slot), va_P (dC, dI) vwCl (iwH ad cy I D) H → va_S A s.heap H locs → lv_has ls 5 [(3, .int x3_98), (1, .long x1_98), (0, .ref (ad 0))] → W p l e (headSpec wsX4_digest ({ frames := 5, cells := 0, slots := 0, locals := 120 })).room s m ([.ref (ad 0)] : List Value).toArray below meth c H locs 0 0 (MQ below (va_Ql (fun r (_ : Unit) => rr = r) (fun _ t => hW dC dI ad cy I9 D9 t) A) ([.ref (ad 0)] : List Value).toArray s 0 0 A) (F0 m 98 ls []) := by
                intro n98
                induction n98 with
                | zero => intro x3_98 x1_98 hf; exact nomatch hf
                | succ n98 ih98 =>
                  intro x3_98 x1_98 hf H locs ls hP hS hl
                  unfold f_X4_digest_L98 at hf
                  refine lv_iload_n hx hb dX4_digest_98 rfl (lv_at hl 0 rfl) ?_
                  refine lv_aload_n hx hb dX4_digest_99 rfl (lv_at hl 2 rfl) ?_
                  refine va_get (D := (dC, dI)) (ci := 4) (v := .int (I 0 7)) (C := RX4) (T := TX4) (N := 14) hx hb hts iX4_digest_RX4 hown hK hP 0 heH_0 rfl 7 (by decide) (hts (.fieldLink RX4 44 "OverrunHouse" "batchCount" "I") (List.mem_cons_of_mem _ (List.mem_append_left _ (List.mem_append_left _ (List.mem_append_left _ (List.mem_append_left _ (List.mem_append_left _ (List.mem_append_left _ (List.mem_append_left _ (List.mem_of_getElem? (i := 3) rfl)))))))))) (fun _ h9 => h9) rfl dX4_digest_100 ?_
                  refine lv_icmp_ge (tgt := 163) hx hb dX4_digest_103 (by decide) (fun c_3 => ?_) (fun c_3 => ?_)
                  · have hf := it_t hf c_3
                    refine lv_iconst (v := 0) hx hb dX4_digest_163 (by decide) ?_
                    refine lv_istore_n (lv' := [(3, .int 0), (1, .long x1_98), (0, .ref (ad 0))]) hx hb dX4_digest_164 rfl hl (by decide) rfl (fun ls hl => ?_)
                    have L165 : ∀ (n165 : Nat) (x3_165 : Int32) (x1_165 : Int64), f_X4_digest_L165 I D n165 x3_165 x1_165 = some (Except.ok (rr, I9, D9)) → ∀ (H : Heap) (locs : List Loc) (ls : Array Slot), va_P (dC, dI) vwCl (iwH ad cy I D) H → va_S A s.heap H locs → lv_has ls 5 [(3, .int x3_165), (1, .long x1_165), (0, .ref (ad 0))] → W p l e (headSpec wsX4_digest ({ frames := 5, cells := 0, slots := 0, locals := 120 })).room s m ([.ref (ad 0)] : List Value).toArray below meth c H locs 0 0 (MQ below (va_Ql (fun r (_ : Unit) => rr = r) (fun _ t => hW dC dI ad cy I9 D9 t) A) ([.ref (ad 0)] : List Value).toArray s 0 0 A) (F0 m 165 ls []) := by
                      intro n165
                      induction n165 with
                      | zero => intro x3_165 x1_165 hf; exact nomatch hf
                      | succ n165 ih165 =>
                        intro x3_165 x1_165 hf H locs ls hP hS hl
                        unfold f_X4_digest_L165 at hf
                        refine lv_iload_n hx hb dX4_digest_165 rfl (lv_at hl 0 rfl) ?_
                        refine lv_aload_n hx hb dX4_digest_166 rfl (lv_at hl 2 rfl) ?_
                        refine va_get (D := (dC, dI)) (ci := 4) (v := .int (I 0 8)) (C := RX4) (T := TX4) (N := 14) hx hb hts iX4_digest_RX4 hown hK hP 0 heH_0 rfl 8 (by decide) (hts (.fieldLink RX4 47 "OverrunHouse" "storeCount" "I") (List.mem_cons_of_mem _ (List.mem_append_left _ (List.mem_append_left _ (List.mem_append_left _ (List.mem_append_left _ (List.mem_append_left _ (List.mem_append_left _ (List.mem_append_left _ (List.mem_of_getElem? (i := 6) rfl)))))))))) (fun _ h9 => h9) rfl dX4_digest_167 ?_
                        refine lv_icmp_ge (tgt := 214) hx hb dX4_digest_170 (by decide) (fun c_4 => ?_) (fun c_4 => ?_)
                        · have hf := it_t hf c_4
                          refine lv_iconst (v := 1) hx hb dX4_digest_214 (by decide) ?_
                          refine lv_aload_n hx hb dX4_digest_215 rfl (lv_at hl 2 rfl) ?_
                          refine va_get (D := (dC, dI)) (ci := 4) (v := .int (I 0 6)) (C := RX4) (T := TX4) (N := 14) hx hb hts iX4_digest_RX4 hown hK hP 0 heH_0 rfl 6 (by decide) (hts (.fieldLink RX4 41 "OverrunHouse" "mixCount" "I") (List.mem_cons_of_mem _ (List.mem_append_left _ (List.mem_append_left _ (List.mem_append_left _ (List.mem_append_left _ (List.mem_append_left _ (List.mem_append_left _ (List.mem_append_left _ (List.mem_of_getElem? (i := 2) rfl)))))))))) (fun _ h9 => h9) rfl dX4_digest_216 ?_
                          refine lv_ishl hx hb dX4_digest_219 ?_
                          refine lv_iconst (v := 1) hx hb dX4_digest_220 (by decide) ?_
                          refine lv_isub hx hb dX4_digest_221 ?_
                          refine lv_istore_n (lv' := [(3, .int ((1 <<< ((I 0 6) &&& 31)) - 1)), (1, .long x1_165), (0, .ref (ad 0))]) hx hb dX4_digest_222 rfl hl (by decide) rfl (fun ls hl => ?_)
                          refine lv_lload_n hx hb dX4_digest_223 rfl (lv_at hl 1 rfl) ?_
                          refine lv_ldc2 (v := 31) hx hb hown (hts (.constantLong RX4 268 (31)) (List.mem_cons_of_mem _ (List.mem_append_left _ (List.mem_append_left _ (List.mem_append_left _ (List.mem_append_left _ (List.mem_append_left _ (List.mem_append_left _ (List.mem_append_left _ (List.mem_of_getElem? (i := 1) rfl)))))))))) dX4_digest_224 ?_
                          refine lv_lmul hx hb dX4_digest_227 ?_
                          refine lv_aload_n hx hb dX4_digest_228 rfl (lv_at hl 2 rfl) ?_
                          refine lv_iload_n hx hb dX4_digest_229 rfl (lv_at hl 0 rfl) ?_
                          refine lv_iconst (v := 1) hx hb dX4_digest_230 (by decide) ?_
                          obtain ⟨⟨r_5, I_7, D_8⟩, g_6, hf⟩ := bE_ok hf
                          have hAW : ∀ q, AW ad H.size q → A q := fun q h => h.elim (fun ⟨k, k1, k2⟩ => k2 ▸ hA33 k k1) (fun h => hA q (Nat.le_trans hS.1 h))
                          refine va_calli (va_runV (As := [.int ((1 <<< ((I 0 6) &&& 31)) - 1), .int 1]) (rest := [.long (x1_165 * (31 : Int64))]) ⟨hx, hb, hml, hown, hts⟩ (mt_X4_day l dC dI ad cy hJ H.size I D ((1 <<< ((I 0 6) &&& 31)) - 1) 1 r_5 I_7 D_8 g_6) (cwV 2 hts gX4_digest_X4_day rfl rfl rfl (by decide +kernel) ⟨Nat.le_of_ble_eq_true rfl, Nat.le_of_ble_eq_true rfl⟩) ⟨(hW.pre [.ref (ad 0), .int ((1 <<< ((I 0 6) &&& 31)) - 1), .int 1] hP hK hN).1, hW.recv (C := RX4) (T := TX4) (N := 14) hP hK heH_0 rfl, (hW.pre [.ref (ad 0), .int ((1 <<< ((I 0 6) &&& 31)) - 1), .int 1] hP hK hN).2⟩ rfl rfl hl.1 rfl (lv_room (Nat.le_of_ble_eq_true rfl)) dX4_digest_231 ⟨Nat.le_of_ble_eq_true rfl, Nat.le_of_ble_eq_true rfl⟩) hS (fun q _ h => hAW q h) (fun q h => hAW q h) (fun r9 u t H1 locs ht hvm hw hB hz1 hk1 hS => ?_)
                          subst hw
                          have hP : va_P (dC, dI) vwCl (iwH ad cy I_7 D_8) H1 := by rw [← ht]; exact hB.1
                          clear hB hz1 hk1 hvm ht
                          generalize H1 = H at hP hS ⊢
                          refine lv_i2l (v := (r_5).toInt64) hx hb dX4_digest_234 rfl ?_
                          refine lv_ladd hx hb dX4_digest_235 ?_
                          refine lv_lstore_n (lv' := [(1, .long ((x1_165 * (31 : Int64)) + (r_5).toInt64)), (3, .int ((1 <<< ((I 0 6) &&& 31)) - 1)), (0, .ref (ad 0))]) hx hb dX4_digest_236 rfl hl (by decide) rfl (fun ls hl => ?_)
                          refine lv_lload_n hx hb dX4_digest_237 rfl (lv_at hl 0 rfl) ?_
                          refine lv_ldc2 (v := 31) hx hb hown (hts (.constantLong RX4 268 (31)) (List.mem_cons_of_mem _ (List.mem_append_left _ (List.mem_append_left _ (List.mem_append_left _ (List.mem_append_left _ (List.mem_append_left _ (List.mem_append_left _ (List.mem_append_left _ (List.mem_of_getElem? (i := 1) rfl)))))))))) dX4_digest_238 ?_
                          refine lv_lmul hx hb dX4_digest_241 ?_
                          refine lv_aload_n hx hb dX4_digest_242 rfl (lv_at hl 2 rfl) ?_
                          refine lv_iload_n hx hb dX4_digest_243 rfl (lv_at hl 1 rfl) ?_
                          refine lv_iconst (v := 0) hx hb dX4_digest_244 (by decide) ?_
                          obtain ⟨⟨r_9, I_11, D_12⟩, g_10, hf⟩ := bE_ok hf
                          have hAW : ∀ q, AW ad H.size q → A q := fun q h => h.elim (fun ⟨k, k1, k2⟩ => k2 ▸ hA33 k k1) (fun h => hA q (Nat.le_trans hS.1 h))
                          refine va_calli (va_runV (As := [.int ((1 <<< ((I 0 6) &&& 31)) - 1), .int 0]) (rest := [.long (((x1_165 * (31 : Int64)) + (r_5).toInt64) * (31 : Int64))]) ⟨hx, hb, hml, hown, hts⟩ (mt_X4_day l dC dI ad cy hJ H.size I_7 D_8 ((1 <<< ((I 0 6) &&& 31)) - 1) 0 r_9 I_11 D_12 g_10) (cwV 2 hts gX4_digest_X4_day rfl rfl rfl (by decide +kernel) ⟨Nat.le_of_ble_eq_true rfl, Nat.le_of_ble_eq_true rfl⟩) ⟨(hW.pre [.ref (ad 0), .int ((1 <<< ((I 0 6) &&& 31)) - 1), .int 0] hP hK hN).1, hW.recv (C := RX4) (T := TX4) (N := 14) hP hK heH_0 rfl, (hW.pre [.ref (ad 0), .int ((1 <<< ((I 0 6) &&& 31)) - 1), .int 0] hP hK hN).2⟩ rfl rfl hl.1 rfl (lv_room (Nat.le_of_ble_eq_true rfl)) dX4_digest_245 ⟨Nat.le_of_ble_eq_true rfl, Nat.le_of_ble_eq_true rfl⟩) hS (fun q _ h => hAW q h) (fun q h => hAW q h) (fun r9 u t H1 locs ht hvm hw hB hz1 hk1 hS => ?_)
                          subst hw
                          have hP : va_P (dC, dI) vwCl (iwH ad cy I_11 D_12) H1 := by rw [← ht]; exact hB.1
                          clear hB hz1 hk1 hvm ht
                          generalize H1 = H at hP hS ⊢
                          refine lv_i2l (v := (r_9).toInt64) hx hb dX4_digest_248 rfl ?_
                          refine lv_ladd hx hb dX4_digest_249 ?_
                          have hf := ok_in hf
                          obtain ⟨q1, q2⟩ := Prod.mk.inj hf
                          obtain ⟨q2, q3⟩ := Prod.mk.inj q2
                          rw [q2, q3] at hP
                          exact W.lret (v := ((((x1_165 * (31 : Int64)) + (r_5).toInt64) * (31 : Int64)) + (r_9).toInt64)) hx hb hr (fun t ht hW9 => ⟨⟨((((x1_165 * (31 : Int64)) + (r_5).toInt64) * (31 : Int64)) + (r_9).toInt64), (), rfl, q1.symm, hW.of hP hK hN ht hW9⟩, hS.F ht⟩) hS.2.2 dX4_digest_250
                        · have hf := it_f hf c_4
                          refine lv_lload_n hx hb dX4_digest_173 rfl (lv_at hl 1 rfl) ?_
                          refine lv_ldc2 (v := 31) hx hb hown (hts (.constantLong RX4 268 (31)) (List.mem_cons_of_mem _ (List.mem_append_left _ (List.mem_append_left _ (List.mem_append_left _ (List.mem_append_left _ (List.mem_append_left _ (List.mem_append_left _ (List.mem_append_left _ (List.mem_of_getElem? (i := 1) rfl)))))))))) dX4_digest_174 ?_
                          refine lv_lmul hx hb dX4_digest_177 ?_
                          refine lv_aload_n hx hb dX4_digest_178 rfl (lv_at hl 2 rfl) ?_
                          refine va_get (D := (dC, dI)) (ci := 4) (v := .ref (ad 4)) (C := RX4) (T := TX4) (N := 14) hx hb hts iX4_digest_RX4 hown hK hP 0 heH_0 rfl 3 (by decide) (hts (.fieldLink RX4 29 "OverrunHouse" "stores" "[LOverrunHouse$Store;") (List.mem_cons_of_mem _ (List.mem_append_left _ (List.mem_append_left _ (List.mem_append_left _ (List.mem_append_left _ (List.mem_append_left _ (List.mem_append_left _ (List.mem_append_left _ (List.mem_of_getElem? (i := 7) rfl)))))))))) (fun _ h9 => h9) rfl dX4_digest_179 ?_
                          refine lv_iload_n hx hb dX4_digest_182 rfl (lv_at hl 0 rfl) ?_
                          obtain ⟨h_13, hf⟩ := ck_out hf
                          refine wr_aald (b := 30) (n := 3) hx hb hK hP 4 4 heH_4 rfl (inB_in h_13) dX4_digest_183 ?_
                          refine va_getN (D := (dC, dI)) (ci := 3) (v := .double (D (30 + (x3_165).toNatClampNeg) 1)) (C := RX3) (T := TX3) (N := 2) hx hb hts iX4_digest_RX3 hown hK hP (30 + (x3_165).toNatClampNeg) (heH_Store (inB_lt h_13)) rfl 1 (by decide) (va_Nw.use (w := .fieldLinkNest "OverrunHouse" 156 "OverrunHouse$Store" "degrees" "D" "OverrunHouse") rfl (hN _ (List.mem_of_getElem? (i := 24) rfl))) (fun _ h9 => h9) rfl dX4_digest_184 ?_
                          refine lv_ldc2d (v := 4620693217682128896) hx hb hown (hts (.constantDouble RX4 171 (4620693217682128896)) (List.mem_cons_of_mem _ (List.mem_append_left _ (List.mem_append_left _ (List.mem_append_left _ (List.mem_append_left _ (List.mem_append_left _ (List.mem_append_left _ (List.mem_append_left _ (List.mem_of_getElem? (i := 5) rfl)))))))))) dX4_digest_187 ?_
                          obtain ⟨h_14, hf⟩ := ck_out hf
                          refine lv_dmul hx hb dX4_digest_190 (okD_n h_14) ?_
                          refine lv_d2l hx hb dX4_digest_191 ?_
                          refine lv_ladd hx hb dX4_digest_192 ?_
                          refine lv_lstore_n (lv' := [(1, .long ((x1_165 * (31 : Int64)) + (FP.d2l (FP.dmul (D (30 + (x3_165).toNatClampNeg) 1) (4620693217682128896 : UInt64))))), (3, .int x3_165), (0, .ref (ad 0))]) hx hb dX4_digest_193 rfl hl (by decide) rfl (fun ls hl => ?_)
                          refine lv_lload_n hx hb dX4_digest_194 rfl (lv_at hl 0 rfl) ?_
                          refine lv_ldc2 (v := 31) hx hb hown (hts (.constantLong RX4 268 (31)) (List.mem_cons_of_mem _ (List.mem_append_left _ (List.mem_append_left _ (List.mem_append_left _ (List.mem_append_left _ (List.mem_append_left _ (List.mem_append_left _ (List.mem_append_left _ (List.mem_of_getElem? (i := 1) rfl)))))))))) dX4_digest_195 ?_
                          refine lv_lmul hx hb dX4_digest_198 ?_
                          refine lv_aload_n hx hb dX4_digest_199 rfl (lv_at hl 2 rfl) ?_
                          refine lv_iload_n hx hb dX4_digest_200 rfl (lv_at hl 1 rfl) ?_
                          refine lv_iconst (v := 0) hx hb dX4_digest_201 (by decide) ?_
                          obtain ⟨r_15, g_16, hf⟩ := bE_ok hf
                          refine va_calli (va_runV (As := [.int x3_165, .int 0]) (rest := [.long (((x1_165 * (31 : Int64)) + (FP.d2l (FP.dmul (D (30 + (x3_165).toNatClampNeg) 1) (4620693217682128896 : UInt64)))) * (31 : Int64))]) ⟨hx, hb, hml, hown, hts⟩ (mt_X4_wouldSpoil l dC dI ad cy hJ H.size I D x3_165 0 r_15 g_16) (cwV 2 hts gX4_digest_X4_wouldSpoil rfl rfl rfl (by decide +kernel) ⟨Nat.le_of_ble_eq_true rfl, Nat.le_of_ble_eq_true rfl⟩) ⟨(hW.pre [.ref (ad 0), .int x3_165, .int 0] hP hK hN).1, hW.recv (C := RX4) (T := TX4) (N := 14) hP hK heH_0 rfl, (hW.pre [.ref (ad 0), .int x3_165, .int 0] hP hK hN).2⟩ rfl rfl hl.1 rfl (lv_room (Nat.le_of_ble_eq_true rfl)) dX4_digest_202 ⟨Nat.le_of_ble_eq_true rfl, Nat.le_of_ble_eq_true rfl⟩) hS (fun q _ h => hA q (Nat.le_trans hS.1 h)) (fun q h => hA q (Nat.le_trans hS.1 h)) (fun r9 u t H1 locs ht hvm hw hB hz1 hk1 hS => ?_)
                          subst hw
                          have hP := va_Pnew hP hk1
                          clear hB hz1 hk1 hvm ht
                          generalize H1 = H at hP hS ⊢
                          refine lv_i2l (v := (r_15).toInt64) hx hb dX4_digest_205 rfl ?_
                          refine lv_ladd hx hb dX4_digest_206 ?_
                          refine lv_lstore_n (lv' := [(1, .long ((((x1_165 * (31 : Int64)) + (FP.d2l (FP.dmul (D (30 + (x3_165).toNatClampNeg) 1) (4620693217682128896 : UInt64)))) * (31 : Int64)) + (r_15).toInt64)), (3, .int x3_165), (0, .ref (ad 0))]) hx hb dX4_digest_207 rfl hl (by decide) rfl (fun ls hl => ?_)
                          refine lv_iinc (v := (x3_165 + 1)) (lv' := [(3, .int (x3_165 + 1)), (1, .long ((((x1_165 * (31 : Int64)) + (FP.d2l (FP.dmul (D (30 + (x3_165).toNatClampNeg) 1) (4620693217682128896 : UInt64)))) * (31 : Int64)) + (r_15).toInt64)), (0, .ref (ad 0))]) hx hb dX4_digest_208 hl (k := 1) rfl rfl (by decide) rfl (fun ls hl => ?_)
                          refine lv_goto (tgt := 165) hx hb dX4_digest_211 (by decide) ?_
                          exact ih165 (x3_165 + 1) ((((x1_165 * (31 : Int64)) + (FP.d2l (FP.dmul (D (30 + (x3_165).toNatClampNeg) 1) (4620693217682128896 : UInt64)))) * (31 : Int64)) + (r_15).toInt64) hf _ _ _ hP hS (lv_sub hl [0, 1, 2] rfl)
                    exact L165 200 0 x1_98 hf _ _ _ hP hS (lv_sub hl [0, 1, 2] rfl)
                  · have hf := it_f hf c_3
                    refine lv_iconst (v := 0) hx hb dX4_digest_106 (by decide) ?_
                    refine lv_istore (lv' := [(4, .int 0), (3, .int x3_98), (1, .long x1_98), (0, .ref (ad 0))]) hx hb dX4_digest_107 hl (by decide) rfl (fun ls hl => ?_)
                    have L109 : ∀ (n109 : Nat) (x4_109 : Int32) (x1_109 : Int64), f_X4_digest_L109 (f_X4_digest_L98 I D n98) I D x3_98 n109 x4_109 x1_109 = some (Except.ok (rr, I9, D9)) → ∀ (H : Heap) (locs : List Loc) (ls : Array Slot), va_P (dC, dI) vwCl (iwH ad cy I D) H → va_S A s.heap H locs → lv_has ls 5 [(4, .int x4_109), (3, .int x3_98), (1, .long x1_109), (0, .ref (ad 0))] → W p l e (headSpec wsX4_digest ({ frames := 5, cells := 0, slots := 0, locals := 120 })).room s m ([.ref (ad 0)] : List Value).toArray below meth c H locs 0 0 (MQ below (va_Ql (fun r (_ : Unit) => rr = r) (fun _ t => hW dC dI ad cy I9 D9 t) A) ([.ref (ad 0)] : List Value).toArray s 0 0 A) (F0 m 109 ls []) := by
                      intro n109
                      induction n109 with
                      | zero => intro x4_109 x1_109 hf; exact nomatch hf
                      | succ n109 ih109 =>
                        intro x4_109 x1_109 hf H locs ls hP hS hl
                        unfold f_X4_digest_L109 at hf
                        refine lv_iload hx hb dX4_digest_109 (lv_at hl 0 rfl) ?_
                        refine lv_iconst (v := 5) hx hb dX4_digest_111 (by decide) ?_
                        refine lv_icmp_gt (tgt := 136) hx hb dX4_digest_112 (by decide) (fun c_17 => ?_) (fun c_17 => ?_)
                        · have hf := it_t hf c_17
                          refine lv_lload_n hx hb dX4_digest_136 rfl (lv_at hl 2 rfl) ?_
                          refine lv_ldc2 (v := 31) hx hb hown (hts (.constantLong RX4 268 (31)) (List.mem_cons_of_mem _ (List.mem_append_left _ (List.mem_append_left _ (List.mem_append_left _ (List.mem_append_left _ (List.mem_append_left _ (List.mem_append_left _ (List.mem_append_left _ (List.mem_of_getElem? (i := 1) rfl)))))))))) dX4_digest_137 ?_
                          refine lv_lmul hx hb dX4_digest_140 ?_
                          refine lv_aload_n hx hb dX4_digest_141 rfl (lv_at hl 3 rfl) ?_
                          refine va_get (D := (dC, dI)) (ci := 4) (v := .ref (ad 3)) (C := RX4) (T := TX4) (N := 14) hx hb hts iX4_digest_RX4 hown hK hP 0 heH_0 rfl 2 (by decide) (hts (.fieldLink RX4 23 "OverrunHouse" "batches" "[LOverrunHouse$Batch;") (List.mem_cons_of_mem _ (List.mem_append_left _ (List.mem_append_left _ (List.mem_append_left _ (List.mem_append_left _ (List.mem_append_left _ (List.mem_append_left _ (List.mem_append_left _ (List.mem_of_getElem? (i := 4) rfl)))))))))) (fun _ h9 => h9) rfl dX4_digest_142 ?_
                          refine lv_iload_n hx hb dX4_digest_145 rfl (lv_at hl 1 rfl) ?_
                          obtain ⟨h_18, hf⟩ := ck_out hf
                          refine wr_aald (b := 18) (n := 12) hx hb hK hP 3 3 heH_3 rfl (inB_in h_18) dX4_digest_146 ?_
                          refine va_getN (D := (dC, dI)) (ci := 0) (v := .double (D (18 + (x3_98).toNatClampNeg) 4)) (C := RX0) (T := TX0) (N := 5) hx hb hts iX4_digest_RX0 hown hK hP (18 + (x3_98).toNatClampNeg) (heH_Batch (inB_lt h_18)) rfl 4 (by decide) (va_Nw.use (w := .fieldLinkNest "OverrunHouse" 139 "OverrunHouse$Batch" "crystal" "D" "OverrunHouse") rfl (hN _ (List.mem_of_getElem? (i := 22) rfl))) (fun _ h9 => h9) rfl dX4_digest_147 ?_
                          refine lv_ldc2d (v := 4620693217682128896) hx hb hown (hts (.constantDouble RX4 171 (4620693217682128896)) (List.mem_cons_of_mem _ (List.mem_append_left _ (List.mem_append_left _ (List.mem_append_left _ (List.mem_append_left _ (List.mem_append_left _ (List.mem_append_left _ (List.mem_append_left _ (List.mem_of_getElem? (i := 5) rfl)))))))))) dX4_digest_150 ?_
                          obtain ⟨h_19, hf⟩ := ck_out hf
                          refine lv_dmul hx hb dX4_digest_153 (okD_n h_19) ?_
                          refine lv_d2l hx hb dX4_digest_154 ?_
                          refine lv_ladd hx hb dX4_digest_155 ?_
                          refine lv_lstore_n (lv' := [(1, .long ((x1_109 * (31 : Int64)) + (FP.d2l (FP.dmul (D (18 + (x3_98).toNatClampNeg) 4) (4620693217682128896 : UInt64))))), (4, .int x4_109), (3, .int x3_98), (0, .ref (ad 0))]) hx hb dX4_digest_156 rfl hl (by decide) rfl (fun ls hl => ?_)
                          refine lv_iinc (v := (x3_98 + 1)) (lv' := [(3, .int (x3_98 + 1)), (1, .long ((x1_109 * (31 : Int64)) + (FP.d2l (FP.dmul (D (18 + (x3_98).toNatClampNeg) 4) (4620693217682128896 : UInt64))))), (4, .int x4_109), (0, .ref (ad 0))]) hx hb dX4_digest_157 hl (k := 2) rfl rfl (by decide) rfl (fun ls hl => ?_)
                          refine lv_goto (tgt := 98) hx hb dX4_digest_160 (by decide) ?_
                          exact ih98 (x3_98 + 1) ((x1_109 * (31 : Int64)) + (FP.d2l (FP.dmul (D (18 + (x3_98).toNatClampNeg) 4) (4620693217682128896 : UInt64)))) hf _ _ _ hP hS (lv_sub hl [0, 1, 3] rfl)
                        · have hf := it_f hf c_17
                          refine lv_lload_n hx hb dX4_digest_115 rfl (lv_at hl 2 rfl) ?_
                          refine lv_ldc2 (v := 31) hx hb hown (hts (.constantLong RX4 268 (31)) (List.mem_cons_of_mem _ (List.mem_append_left _ (List.mem_append_left _ (List.mem_append_left _ (List.mem_append_left _ (List.mem_append_left _ (List.mem_append_left _ (List.mem_append_left _ (List.mem_of_getElem? (i := 1) rfl)))))))))) dX4_digest_116 ?_
                          refine lv_lmul hx hb dX4_digest_119 ?_
                          refine lv_aload_n hx hb dX4_digest_120 rfl (lv_at hl 3 rfl) ?_
                          refine lv_iload_n hx hb dX4_digest_121 rfl (lv_at hl 1 rfl) ?_
                          refine lv_iload hx hb dX4_digest_122 (lv_at hl 0 rfl) ?_
                          obtain ⟨r_20, g_21, hf⟩ := bE_ok hf
                          refine va_calli (va_runV (As := [.int x3_98, .int x4_109]) (rest := [.long (x1_109 * (31 : Int64))]) ⟨hx, hb, hml, hown, hts⟩ (mt_X4_ofBatch l dC dI ad cy hJ H.size I D x3_98 x4_109 r_20 g_21) (cwV 2 hts gX4_digest_X4_ofBatch rfl rfl rfl (by decide +kernel) ⟨Nat.le_of_ble_eq_true rfl, Nat.le_of_ble_eq_true rfl⟩) ⟨(hW.pre [.ref (ad 0), .int x3_98, .int x4_109] hP hK hN).1, hW.recv (C := RX4) (T := TX4) (N := 14) hP hK heH_0 rfl, (hW.pre [.ref (ad 0), .int x3_98, .int x4_109] hP hK hN).2⟩ rfl rfl hl.1 rfl (lv_room (Nat.le_of_ble_eq_true rfl)) dX4_digest_124 ⟨Nat.le_of_ble_eq_true rfl, Nat.le_of_ble_eq_true rfl⟩) hS (fun q _ h => hA q (Nat.le_trans hS.1 h)) (fun q h => hA q (Nat.le_trans hS.1 h)) (fun r9 u t H1 locs ht hvm hw hB hz1 hk1 hS => ?_)
                          subst hw
                          have hP := va_Pnew hP hk1
                          clear hB hz1 hk1 hvm ht
                          generalize H1 = H at hP hS ⊢
                          refine lv_i2l (v := (r_20).toInt64) hx hb dX4_digest_127 rfl ?_
                          refine lv_ladd hx hb dX4_digest_128 ?_
                          refine lv_lstore_n (lv' := [(1, .long ((x1_109 * (31 : Int64)) + (r_20).toInt64)), (4, .int x4_109), (3, .int x3_98), (0, .ref (ad 0))]) hx hb dX4_digest_129 rfl hl (by decide) rfl (fun ls hl => ?_)
                          refine lv_iinc (v := (x4_109 + 1)) (lv' := [(4, .int (x4_109 + 1)), (1, .long ((x1_109 * (31 : Int64)) + (r_20).toInt64)), (3, .int x3_98), (0, .ref (ad 0))]) hx hb dX4_digest_130 hl (k := 1) rfl rfl (by decide) rfl (fun ls hl => ?_)
                          refine lv_goto (tgt := 109) hx hb dX4_digest_133 (by decide) ?_
                          exact ih109 (x4_109 + 1) ((x1_109 * (31 : Int64)) + (r_20).toInt64) hf _ _ _ hP hS (lv_sub hl [0, 2, 1, 3] rfl)
                    exact L109 200 0 x1_98 hf _ _ _ hP hS (lv_sub hl [0, 1, 2, 3] rfl)
              exact L98 200 0 x1_33 hf _ _ _ hP hS (lv_sub hl [0, 1, 2] rfl)
            · have hf := it_f hf c_2
              refine lv_iconst (v := 0) hx hb dX4_digest_41 (by decide) ?_
              refine lv_istore (lv' := [(4, .int 0), (3, .int x3_33), (1, .long x1_33), (0, .ref (ad 0))]) hx hb dX4_digest_42 hl (by decide) rfl (fun ls hl => ?_)
              have L44 : ∀ (n44 : Nat) (x4_44 : Int32) (x1_44 : Int64), f_X4_digest_L44 (f_X4_digest_L33 I D n33) I D x3_33 n44 x4_44 x1_44 = some (Except.ok (rr, I9, D9)) → ∀ (H : Heap) (locs : List Loc) (ls : Array Slot), va_P (dC, dI) vwCl (iwH ad cy I D) H → va_S A s.heap H locs → lv_has ls 5 [(4, .int x4_44), (3, .int x3_33), (1, .long x1_44), (0, .ref (ad 0))] → W p l e (headSpec wsX4_digest ({ frames := 5, cells := 0, slots := 0, locals := 120 })).room s m ([.ref (ad 0)] : List Value).toArray below meth c H locs 0 0 (MQ below (va_Ql (fun r (_ : Unit) => rr = r) (fun _ t => hW dC dI ad cy I9 D9 t) A) ([.ref (ad 0)] : List Value).toArray s 0 0 A) (F0 m 44 ls []) := by
                intro n44
                induction n44 with
                | zero => intro x4_44 x1_44 hf; exact nomatch hf
                | succ n44 ih44 =>
                  intro x4_44 x1_44 hf H locs ls hP hS hl
                  unfold f_X4_digest_L44 at hf
                  refine lv_iload hx hb dX4_digest_44 (lv_at hl 0 rfl) ?_
                  refine lv_bipush (v := 8) hx hb dX4_digest_46 (by decide) ?_
                  refine lv_icmp_gt (tgt := 72) hx hb dX4_digest_48 (by decide) (fun c_22 => ?_) (fun c_22 => ?_)
                  · have hf := it_t hf c_22
                    refine lv_lload_n hx hb dX4_digest_72 rfl (lv_at hl 2 rfl) ?_
                    refine lv_ldc2 (v := 31) hx hb hown (hts (.constantLong RX4 268 (31)) (List.mem_cons_of_mem _ (List.mem_append_left _ (List.mem_append_left _ (List.mem_append_left _ (List.mem_append_left _ (List.mem_append_left _ (List.mem_append_left _ (List.mem_append_left _ (List.mem_of_getElem? (i := 1) rfl)))))))))) dX4_digest_73 ?_
                    refine lv_lmul hx hb dX4_digest_76 ?_
                    refine lv_aload_n hx hb dX4_digest_77 rfl (lv_at hl 3 rfl) ?_
                    refine lv_iconst (v := 0) hx hb dX4_digest_78 (by decide) ?_
                    refine lv_iload_n hx hb dX4_digest_79 rfl (lv_at hl 1 rfl) ?_
                    refine lv_bipush (v := 20) hx hb dX4_digest_80 (by decide) ?_
                    refine lv_bipush (v := 80) hx hb dX4_digest_82 (by decide) ?_
                    obtain ⟨r_23, g_24, hf⟩ := bE_ok hf
                    refine va_calli (va_runV (As := [.int 0, .int x3_33, .int 20, .int 80]) (rest := [.long (x1_44 * (31 : Int64))]) ⟨hx, hb, hml, hown, hts⟩ (mt_X4_bars l dC dI ad cy hJ H.size I D 0 x3_33 20 80 r_23 g_24) (cwV 4 hts gX4_digest_X4_bars rfl rfl rfl (by decide +kernel) ⟨Nat.le_of_ble_eq_true rfl, Nat.le_of_ble_eq_true rfl⟩) ⟨(hW.pre [.ref (ad 0), .int 0, .int x3_33, .int 20, .int 80] hP hK hN).1, hW.recv (C := RX4) (T := TX4) (N := 14) hP hK heH_0 rfl, (hW.pre [.ref (ad 0), .int 0, .int x3_33, .int 20, .int 80] hP hK hN).2⟩ rfl rfl hl.1 rfl (lv_room (Nat.le_of_ble_eq_true rfl)) dX4_digest_84 ⟨Nat.le_of_ble_eq_true rfl, Nat.le_of_ble_eq_true rfl⟩) hS (fun q _ h => hA q (Nat.le_trans hS.1 h)) (fun q h => hA q (Nat.le_trans hS.1 h)) (fun r9 u t H1 locs ht hvm hw hB hz1 hk1 hS => ?_)
                    subst hw
                    have hP := va_Pnew hP hk1
                    clear hB hz1 hk1 hvm ht
                    generalize H1 = H at hP hS ⊢
                    refine lv_i2l (v := (r_23).toInt64) hx hb dX4_digest_87 rfl ?_
                    refine lv_ladd hx hb dX4_digest_88 ?_
                    refine lv_lstore_n (lv' := [(1, .long ((x1_44 * (31 : Int64)) + (r_23).toInt64)), (4, .int x4_44), (3, .int x3_33), (0, .ref (ad 0))]) hx hb dX4_digest_89 rfl hl (by decide) rfl (fun ls hl => ?_)
                    refine lv_iinc (v := (x3_33 + 1)) (lv' := [(3, .int (x3_33 + 1)), (1, .long ((x1_44 * (31 : Int64)) + (r_23).toInt64)), (4, .int x4_44), (0, .ref (ad 0))]) hx hb dX4_digest_90 hl (k := 2) rfl rfl (by decide) rfl (fun ls hl => ?_)
                    refine lv_goto (tgt := 33) hx hb dX4_digest_93 (by decide) ?_
                    exact ih33 (x3_33 + 1) ((x1_44 * (31 : Int64)) + (r_23).toInt64) hf _ _ _ hP hS (lv_sub hl [0, 1, 3] rfl)
                  · have hf := it_f hf c_22
                    refine lv_lload_n hx hb dX4_digest_51 rfl (lv_at hl 2 rfl) ?_
                    refine lv_ldc2 (v := 31) hx hb hown (hts (.constantLong RX4 268 (31)) (List.mem_cons_of_mem _ (List.mem_append_left _ (List.mem_append_left _ (List.mem_append_left _ (List.mem_append_left _ (List.mem_append_left _ (List.mem_append_left _ (List.mem_append_left _ (List.mem_of_getElem? (i := 1) rfl)))))))))) dX4_digest_52 ?_
                    refine lv_lmul hx hb dX4_digest_55 ?_
                    refine lv_aload_n hx hb dX4_digest_56 rfl (lv_at hl 3 rfl) ?_
                    refine lv_iload_n hx hb dX4_digest_57 rfl (lv_at hl 1 rfl) ?_
                    refine lv_iload hx hb dX4_digest_58 (lv_at hl 0 rfl) ?_
                    obtain ⟨r_25, g_26, hf⟩ := bE_ok hf
                    refine va_calli (va_runV (As := [.int x3_33, .int x4_44]) (rest := [.long (x1_44 * (31 : Int64))]) ⟨hx, hb, hml, hown, hts⟩ (mt_X4_ofMix l dC dI ad cy hJ H.size I D x3_33 x4_44 r_25 g_26) (cwV 2 hts gX4_digest_X4_ofMix rfl rfl rfl (by decide +kernel) ⟨Nat.le_of_ble_eq_true rfl, Nat.le_of_ble_eq_true rfl⟩) ⟨(hW.pre [.ref (ad 0), .int x3_33, .int x4_44] hP hK hN).1, hW.recv (C := RX4) (T := TX4) (N := 14) hP hK heH_0 rfl, (hW.pre [.ref (ad 0), .int x3_33, .int x4_44] hP hK hN).2⟩ rfl rfl hl.1 rfl (lv_room (Nat.le_of_ble_eq_true rfl)) dX4_digest_60 ⟨Nat.le_of_ble_eq_true rfl, Nat.le_of_ble_eq_true rfl⟩) hS (fun q _ h => hA q (Nat.le_trans hS.1 h)) (fun q h => hA q (Nat.le_trans hS.1 h)) (fun r9 u t H1 locs ht hvm hw hB hz1 hk1 hS => ?_)
                    subst hw
                    have hP := va_Pnew hP hk1
                    clear hB hz1 hk1 hvm ht
                    generalize H1 = H at hP hS ⊢
                    refine lv_i2l (v := (r_25).toInt64) hx hb dX4_digest_63 rfl ?_
                    refine lv_ladd hx hb dX4_digest_64 ?_
                    refine lv_lstore_n (lv' := [(1, .long ((x1_44 * (31 : Int64)) + (r_25).toInt64)), (4, .int x4_44), (3, .int x3_33), (0, .ref (ad 0))]) hx hb dX4_digest_65 rfl hl (by decide) rfl (fun ls hl => ?_)
                    refine lv_iinc (v := (x4_44 + 1)) (lv' := [(4, .int (x4_44 + 1)), (1, .long ((x1_44 * (31 : Int64)) + (r_25).toInt64)), (3, .int x3_33), (0, .ref (ad 0))]) hx hb dX4_digest_66 hl (k := 1) rfl rfl (by decide) rfl (fun ls hl => ?_)
                    refine lv_goto (tgt := 44) hx hb dX4_digest_69 (by decide) ?_
                    exact ih44 (x4_44 + 1) ((x1_44 * (31 : Int64)) + (r_25).toInt64) hf _ _ _ hP hS (lv_sub hl [0, 2, 1, 3] rfl)
              exact L44 200 0 x1_33 hf _ _ _ hP hS (lv_sub hl [0, 1, 2, 3] rfl)
        exact L33 200 0 x1_6 hf _ _ _ hP hS (lv_sub hl [0, 1, 2] rfl)
      · have hf := it_f hf c_1
        refine lv_lload_n hx hb dX4_digest_12 rfl (lv_at hl 1 rfl) ?_
        refine lv_ldc2 (v := 31) hx hb hown (hts (.constantLong RX4 268 (31)) (List.mem_cons_of_mem _ (List.mem_append_left _ (List.mem_append_left _ (List.mem_append_left _ (List.mem_append_left _ (List.mem_append_left _ (List.mem_append_left _ (List.mem_append_left _ (List.mem_of_getElem? (i := 1) rfl)))))))))) dX4_digest_13 ?_
        refine lv_lmul hx hb dX4_digest_16 ?_
        refine lv_aload_n hx hb dX4_digest_17 rfl (lv_at hl 2 rfl) ?_
        refine lv_iload_n hx hb dX4_digest_18 rfl (lv_at hl 0 rfl) ?_
        obtain ⟨r_27, g_28, hf⟩ := bE_ok hf
        refine va_calli (va_runV (As := [.int x3_6]) (rest := [.long (x1_6 * (31 : Int64))]) ⟨hx, hb, hml, hown, hts⟩ (mt_X4_many l dC dI ad cy hJ H.size I D x3_6 r_27 g_28) (cwV 1 hts gX4_digest_X4_many rfl rfl rfl (by decide +kernel) ⟨Nat.le_of_ble_eq_true rfl, Nat.le_of_ble_eq_true rfl⟩) ⟨(hW.pre [.ref (ad 0), .int x3_6] hP hK hN).1, hW.recv (C := RX4) (T := TX4) (N := 14) hP hK heH_0 rfl, (hW.pre [.ref (ad 0), .int x3_6] hP hK hN).2⟩ rfl rfl hl.1 rfl (lv_room (Nat.le_of_ble_eq_true rfl)) dX4_digest_19 ⟨Nat.le_of_ble_eq_true rfl, Nat.le_of_ble_eq_true rfl⟩) hS (fun q _ h => hA q (Nat.le_trans hS.1 h)) (fun q h => hA q (Nat.le_trans hS.1 h)) (fun r9 u t H1 locs ht hvm hw hB hz1 hk1 hS => ?_)
        subst hw
        have hP := va_Pnew hP hk1
        clear hB hz1 hk1 hvm ht
        generalize H1 = H at hP hS ⊢
        refine lv_i2l (v := (r_27).toInt64) hx hb dX4_digest_22 rfl ?_
        refine lv_ladd hx hb dX4_digest_23 ?_
        refine lv_lstore_n (lv' := [(1, .long ((x1_6 * (31 : Int64)) + (r_27).toInt64)), (3, .int x3_6), (0, .ref (ad 0))]) hx hb dX4_digest_24 rfl hl (by decide) rfl (fun ls hl => ?_)
        refine lv_iinc (v := (x3_6 + 1)) (lv' := [(3, .int (x3_6 + 1)), (1, .long ((x1_6 * (31 : Int64)) + (r_27).toInt64)), (0, .ref (ad 0))]) hx hb dX4_digest_25 hl (k := 1) rfl rfl (by decide) rfl (fun ls hl => ?_)
        refine lv_goto (tgt := 6) hx hb dX4_digest_28 (by decide) ?_
        exact ih6 (x3_6 + 1) ((x1_6 * (31 : Int64)) + (r_27).toInt64) hf _ _ _ hP hS (lv_sub hl [0, 1, 2] rfl)
  exact L6 200 0 (9606 : Int64) hf _ _ _ hP hS (lv_sub hl [0, 1, 2] rfl)
