def f_X4_ingredient (I : Nat → Nat → Int32) (D : Nat → Nat → UInt64) (p1 : Int32) (p2 : Int32) (p3 : Int32) (p4 : Int32) (p5 : Int32) : Option (Except String (Int32 × (Nat → Nat → Int32) × (Nat → Nat → UInt64))) :=
  bE (f_X4_checkRange p1 0 1000) (fun _ => bE (f_X4_checkRange p2 0 (1000 - p1)) (fun _ => bE (f_X4_checkRange p3 0 ((1000 - p1) - p2)) (fun _ => bE (f_X4_checkRange p4 1 99) (fun _ => bE (f_X4_checkRange p5 0 15) (fun _ => bE (f_X4_checkRoom (I 0 5) 6) (fun _ => ck (inB (I 0 5) 6) (nm (up2 I (7 + ((I 0 5)).toNatClampNeg) 0 p1) (fun I_14 => nm (up2 I_14 (7 + ((I 0 5)).toNatClampNeg) 1 p2) (fun I_15 => nm (up2 I_15 (7 + ((I 0 5)).toNatClampNeg) 2 p3) (fun I_16 => nm (up2 I_16 (7 + ((I 0 5)).toNatClampNeg) 3 p4) (fun I_17 => nm (up2 I_17 (7 + ((I 0 5)).toNatClampNeg) 4 p5) (fun I_18 => nm (up2 I_18 0 5 ((I_18 0 5) + 1)) (fun I_19 => some (Except.ok (((I_19 0 5) - 1), I_19, D)))))))))))))))
theorem iX4_ingredient_RX4 : ∀ w ∈ u_ws RX4 TX4 14, w ∈ wsX4_ingredient := fun w h => List.mem_cons_of_mem _ (List.mem_append_left _ (List.mem_append_left _ (List.mem_append_left _ (List.mem_append_right _ (h)))))
theorem iX4_ingredient_RX1 : ∀ w ∈ u_ws RX1 TX1 5, w ∈ wsX4_ingredient := fun w h => List.mem_cons_of_mem _ (List.mem_append_left _ (List.mem_append_left _ (List.mem_append_right _ (h))))
set_option maxHeartbeats 4000000 in
set_option maxRecDepth 100000 in
theorem mt_X4_ingredient (l : Launch) (dC : Nat → ClassId) (dI : Nat → Nat → Nat) (ad : Nat → Nat) (cy : Nat → ClassId) (hJ : J33 ad) (sz : Nat) (I : Nat → Nat → Int32) (D : Nat → Nat → UInt64) (p1 : Int32) (p2 : Int32) (p3 : Int32) (p4 : Int32) (p5 : Int32) (rr : Int32) (I9 : Nat → Nat → Int32) (D9 : Nat → Nat → UInt64) (hf : f_X4_ingredient I D p1 p2 p3 p4 p5 = some (Except.ok (rr, I9, D9))) : Met l yX4_ingredient wsX4_ingredient ({ frames := 1, cells := 0, slots := 0, locals := 22 }) (va_Pc [.ref (ad 0), .int p1, .int p2, .int p3, .int p4, .int p5] (fun U => U.heap.size = sz ∧ hW dC dI ad cy I D U)) (va_Qi (fun r (_ : Unit) => rr = r) (fun _ t => hW dC dI ad cy I9 D9 t) (AW ad sz)) 0 0 (AW ad sz) := by
  refine Met.ofW (cc := cX4_ingredient) (maxL := 7) (ret := (some .int)) (by decide) rfl ?_
  intro p e s m args below meth c s₁ B hml hv
  obtain ⟨rfl, hsz, hP, hK, hN⟩ := hv
  have hx := B.exec
  have hb := B.bytes
  have hr := B.returns
  have hts := atoms_spec (ws := wsX4_ingredient) B.pre
  have hown : s.vm.findClass RX4 = some m.cls := findClass_of_methodNamed B.named
  have hlocks := B.notSynchronized
  subst hsz
  generalize hAe : AW ad s.heap.size = A
  have hA : ∀ q : Nat, s.heap.size ≤ q → A q := fun q h => by rw [← hAe]; exact Or.inr h
  have hA33 : ∀ k, k < 33 → A (ad k) := fun k h => by rw [← hAe]; exact Or.inl ⟨k, h, rfl⟩
  have hDD : ∀ I D, va_D A (iwH ad cy I D) := fun I D => iwH_D hJ hA33 I D
  obtain ⟨H, hH⟩ : ∃ H : Heap, H = s.heap := ⟨_, rfl⟩
  have hS : va_S A s.heap H [] := by rw [hH]; exact va_S.rf
  rw [← hH]
  rw [← hH] at hP
  have hl := lv_entry ([.ref (ad 0), .int p1, .int p2, .int p3, .int p4, .int p5]) (n := 7) (Nat.le_of_ble_eq_true rfl)
  rw [lg_entry_eq]
  generalize (lg_sl ([.ref (ad 0), .int p1, .int p2, .int p3, .int p4, .int p5]) ++ List.replicate (7 - (lg_sl ([.ref (ad 0), .int p1, .int p2, .int p3, .int p4, .int p5])).length) Slot.unset).toArray = ls at hl ⊢
  have hl : lv_has ls 7 [(0, .ref (ad 0)), (1, .int p1), (2, .int p2), (3, .int p3), (4, .int p4), (5, .int p5)] := hl
  unfold f_X4_ingredient at hf
  refine lv_iload_n hx hb dX4_ingredient_0 rfl (lv_at hl 1 rfl) ?_
  refine lv_iconst (v := 0) hx hb dX4_ingredient_1 (by decide) ?_
  refine lv_sipush (v := 1000) hx hb dX4_ingredient_2 (by decide) ?_
  obtain ⟨_, g_2, hf⟩ := bE_ok hf
  refine va_callv (va_runS (As := [.int p1, .int 0, .int 1000]) (rest := []) ⟨hx, hb, hml, hown, hts⟩ (mt_X4_checkRange l H.size p1 0 1000  g_2) (va_cwS 3 hts gX4_ingredient_X4_checkRange rfl rfl rfl (by decide +kernel) ⟨Nat.le_of_ble_eq_true rfl, Nat.le_of_ble_eq_true rfl⟩) (pre0 [.int p1, .int 0, .int 1000]) rfl rfl hl.1 rfl (lv_room (Nat.le_of_ble_eq_true rfl)) dX4_ingredient_5 ⟨Nat.le_of_ble_eq_true rfl, Nat.le_of_ble_eq_true rfl⟩) hS (fun q _ h => hA q (Nat.le_trans hS.1 h)) (fun q h => hA q (Nat.le_trans hS.1 h)) (fun u t H1 locs ht hvm hw hB hz1 hk1 hS => ?_)
  have hP := va_Pnew hP hk1
  clear hB hz1 hk1 hvm ht
  generalize H1 = H at hP hS ⊢
  refine lv_iload_n hx hb dX4_ingredient_8 rfl (lv_at hl 2 rfl) ?_
  refine lv_iconst (v := 0) hx hb dX4_ingredient_9 (by decide) ?_
  refine lv_sipush (v := 1000) hx hb dX4_ingredient_10 (by decide) ?_
  refine lv_iload_n hx hb dX4_ingredient_13 rfl (lv_at hl 1 rfl) ?_
  refine lv_isub hx hb dX4_ingredient_14 ?_
  obtain ⟨_, g_4, hf⟩ := bE_ok hf
  refine va_callv (va_runS (As := [.int p2, .int 0, .int (1000 - p1)]) (rest := []) ⟨hx, hb, hml, hown, hts⟩ (mt_X4_checkRange l H.size p2 0 (1000 - p1)  g_4) (va_cwS 3 hts gX4_ingredient_X4_checkRange rfl rfl rfl (by decide +kernel) ⟨Nat.le_of_ble_eq_true rfl, Nat.le_of_ble_eq_true rfl⟩) (pre0 [.int p2, .int 0, .int (1000 - p1)]) rfl rfl hl.1 rfl (lv_room (Nat.le_of_ble_eq_true rfl)) dX4_ingredient_15 ⟨Nat.le_of_ble_eq_true rfl, Nat.le_of_ble_eq_true rfl⟩) hS (fun q _ h => hA q (Nat.le_trans hS.1 h)) (fun q h => hA q (Nat.le_trans hS.1 h)) (fun u t H1 locs ht hvm hw hB hz1 hk1 hS => ?_)
  have hP := va_Pnew hP hk1
  clear hB hz1 hk1 hvm ht
  generalize H1 = H at hP hS ⊢
  refine lv_iload_n hx hb dX4_ingredient_18 rfl (lv_at hl 3 rfl) ?_
  refine lv_iconst (v := 0) hx hb dX4_ingredient_19 (by decide) ?_
  refine lv_sipush (v := 1000) hx hb dX4_ingredient_20 (by decide) ?_
  refine lv_iload_n hx hb dX4_ingredient_23 rfl (lv_at hl 1 rfl) ?_
  refine lv_isub hx hb dX4_ingredient_24 ?_
  refine lv_iload_n hx hb dX4_ingredient_25 rfl (lv_at hl 2 rfl) ?_
  refine lv_isub hx hb dX4_ingredient_26 ?_
  obtain ⟨_, g_6, hf⟩ := bE_ok hf
  refine va_callv (va_runS (As := [.int p3, .int 0, .int ((1000 - p1) - p2)]) (rest := []) ⟨hx, hb, hml, hown, hts⟩ (mt_X4_checkRange l H.size p3 0 ((1000 - p1) - p2)  g_6) (va_cwS 3 hts gX4_ingredient_X4_checkRange rfl rfl rfl (by decide +kernel) ⟨Nat.le_of_ble_eq_true rfl, Nat.le_of_ble_eq_true rfl⟩) (pre0 [.int p3, .int 0, .int ((1000 - p1) - p2)]) rfl rfl hl.1 rfl (lv_room (Nat.le_of_ble_eq_true rfl)) dX4_ingredient_27 ⟨Nat.le_of_ble_eq_true rfl, Nat.le_of_ble_eq_true rfl⟩) hS (fun q _ h => hA q (Nat.le_trans hS.1 h)) (fun q h => hA q (Nat.le_trans hS.1 h)) (fun u t H1 locs ht hvm hw hB hz1 hk1 hS => ?_)
  have hP := va_Pnew hP hk1
  clear hB hz1 hk1 hvm ht
  generalize H1 = H at hP hS ⊢
  refine lv_iload hx hb dX4_ingredient_30 (lv_at hl 4 rfl) ?_
  refine lv_iconst (v := 1) hx hb dX4_ingredient_32 (by decide) ?_
  refine lv_bipush (v := 99) hx hb dX4_ingredient_33 (by decide) ?_
  obtain ⟨_, g_8, hf⟩ := bE_ok hf
  refine va_callv (va_runS (As := [.int p4, .int 1, .int 99]) (rest := []) ⟨hx, hb, hml, hown, hts⟩ (mt_X4_checkRange l H.size p4 1 99  g_8) (va_cwS 3 hts gX4_ingredient_X4_checkRange rfl rfl rfl (by decide +kernel) ⟨Nat.le_of_ble_eq_true rfl, Nat.le_of_ble_eq_true rfl⟩) (pre0 [.int p4, .int 1, .int 99]) rfl rfl hl.1 rfl (lv_room (Nat.le_of_ble_eq_true rfl)) dX4_ingredient_35 ⟨Nat.le_of_ble_eq_true rfl, Nat.le_of_ble_eq_true rfl⟩) hS (fun q _ h => hA q (Nat.le_trans hS.1 h)) (fun q h => hA q (Nat.le_trans hS.1 h)) (fun u t H1 locs ht hvm hw hB hz1 hk1 hS => ?_)
  have hP := va_Pnew hP hk1
  clear hB hz1 hk1 hvm ht
  generalize H1 = H at hP hS ⊢
  refine lv_iload hx hb dX4_ingredient_38 (lv_at hl 5 rfl) ?_
  refine lv_iconst (v := 0) hx hb dX4_ingredient_40 (by decide) ?_
  refine lv_bipush (v := 15) hx hb dX4_ingredient_41 (by decide) ?_
  obtain ⟨_, g_10, hf⟩ := bE_ok hf
  refine va_callv (va_runS (As := [.int p5, .int 0, .int 15]) (rest := []) ⟨hx, hb, hml, hown, hts⟩ (mt_X4_checkRange l H.size p5 0 15  g_10) (va_cwS 3 hts gX4_ingredient_X4_checkRange rfl rfl rfl (by decide +kernel) ⟨Nat.le_of_ble_eq_true rfl, Nat.le_of_ble_eq_true rfl⟩) (pre0 [.int p5, .int 0, .int 15]) rfl rfl hl.1 rfl (lv_room (Nat.le_of_ble_eq_true rfl)) dX4_ingredient_43 ⟨Nat.le_of_ble_eq_true rfl, Nat.le_of_ble_eq_true rfl⟩) hS (fun q _ h => hA q (Nat.le_trans hS.1 h)) (fun q h => hA q (Nat.le_trans hS.1 h)) (fun u t H1 locs ht hvm hw hB hz1 hk1 hS => ?_)
  have hP := va_Pnew hP hk1
  clear hB hz1 hk1 hvm ht
  generalize H1 = H at hP hS ⊢
  refine lv_aload_n hx hb dX4_ingredient_46 rfl (lv_at hl 0 rfl) ?_
  refine va_get (D := (dC, dI)) (ci := 4) (v := .int (I 0 5)) (C := RX4) (T := TX4) (N := 14) hx hb hts iX4_ingredient_RX4 hown hK hP 0 heH_0 rfl 5 (by decide) (hts (.fieldLink RX4 37 "OverrunHouse" "ingredientCount" "I") (List.mem_cons_of_mem _ (List.mem_append_left _ (List.mem_append_left _ (List.mem_append_left _ (List.mem_append_left _ (List.mem_of_getElem? (i := 0) rfl))))))) (fun _ h9 => h9) rfl dX4_ingredient_47 ?_
  refine lv_bipush (v := 6) hx hb dX4_ingredient_50 (by decide) ?_
  obtain ⟨_, g_12, hf⟩ := bE_ok hf
  refine va_callv (va_runS (As := [.int (I 0 5), .int 6]) (rest := []) ⟨hx, hb, hml, hown, hts⟩ (mt_X4_checkRoom l H.size (I 0 5) 6  g_12) (va_cwS 2 hts gX4_ingredient_X4_checkRoom rfl rfl rfl (by decide +kernel) ⟨Nat.le_of_ble_eq_true rfl, Nat.le_of_ble_eq_true rfl⟩) (pre0 [.int (I 0 5), .int 6]) rfl rfl hl.1 rfl (lv_room (Nat.le_of_ble_eq_true rfl)) dX4_ingredient_52 ⟨Nat.le_of_ble_eq_true rfl, Nat.le_of_ble_eq_true rfl⟩) hS (fun q _ h => hA q (Nat.le_trans hS.1 h)) (fun q h => hA q (Nat.le_trans hS.1 h)) (fun u t H1 locs ht hvm hw hB hz1 hk1 hS => ?_)
  have hP := va_Pnew hP hk1
  clear hB hz1 hk1 hvm ht
  generalize H1 = H at hP hS ⊢
  refine lv_aload_n hx hb dX4_ingredient_55 rfl (lv_at hl 0 rfl) ?_
  refine va_get (D := (dC, dI)) (ci := 4) (v := .ref (ad 1)) (C := RX4) (T := TX4) (N := 14) hx hb hts iX4_ingredient_RX4 hown hK hP 0 heH_0 rfl 0 (by decide) (hts (.fieldLink RX4 11 "OverrunHouse" "ingredients" "[LOverrunHouse$Ingredient;") (List.mem_cons_of_mem _ (List.mem_append_left _ (List.mem_append_left _ (List.mem_append_left _ (List.mem_append_left _ (List.mem_of_getElem? (i := 1) rfl))))))) (fun _ h9 => h9) rfl dX4_ingredient_56 ?_
  refine lv_aload_n hx hb dX4_ingredient_59 rfl (lv_at hl 0 rfl) ?_
  refine va_get (D := (dC, dI)) (ci := 4) (v := .int (I 0 5)) (C := RX4) (T := TX4) (N := 14) hx hb hts iX4_ingredient_RX4 hown hK hP 0 heH_0 rfl 5 (by decide) (hts (.fieldLink RX4 37 "OverrunHouse" "ingredientCount" "I") (List.mem_cons_of_mem _ (List.mem_append_left _ (List.mem_append_left _ (List.mem_append_left _ (List.mem_append_left _ (List.mem_of_getElem? (i := 0) rfl))))))) (fun _ h9 => h9) rfl dX4_ingredient_60 ?_
  obtain ⟨h_13, hf⟩ := ck_out hf
  refine wr_aald (b := 7) (n := 6) hx hb hK hP 1 1 heH_1 rfl (inB_in h_13) dX4_ingredient_63 ?_
  refine lv_astore (lv' := [(6, .ref (ad (7 + ((I 0 5)).toNatClampNeg))), (0, .ref (ad 0)), (1, .int p1), (2, .int p2), (3, .int p3), (4, .int p4), (5, .int p5)]) hx hb dX4_ingredient_64 hl (by decide) rfl (fun ls hl => ?_)
  refine lv_aload hx hb dX4_ingredient_66 (lv_at hl 0 rfl) ?_
  refine lv_iload_n hx hb dX4_ingredient_68 rfl (lv_at hl 2 rfl) ?_
  obtain ⟨I_14, eI_14, hf⟩ := nm_out hf
  refine va_putN (D := (dC, dI)) (ci := 1) (v := .int p1) (ty := .int) (C := RX1) (T := TX1) (N := 5) hx hb hts iX4_ingredient_RX1 tyX1 tyX1_ok nmX1 hown hK hP (hDD I D) hS (7 + ((I 0 5)).toNatClampNeg) (heH_Ingredient (inB_lt h_13)) rfl 0 (by decide) (va_Nw.use (w := .fieldLinkNest "OverrunHouse" 77 "OverrunHouse$Ingredient" "fat" "I" "OverrunHouse") rfl (hN _ (List.mem_of_getElem? (i := 1) rfl))) (fun _ h9 => h9) rfl (by decide +kernel) rfl rfl (Nat.le_of_ble_eq_true rfl) dX4_ingredient_69 (fun H locs hP _ hS => ?_)
  have hP : va_P (dC, dI) vwCl (iwH ad cy I_14 D) H := by rw [eI_14]; exact hpI (by have := (inB_lt h_13); omega) ((cellH_Ingredient ad cy (inB_lt h_13) _ _).trans rfl) hP
  refine lv_aload hx hb dX4_ingredient_72 (lv_at hl 0 rfl) ?_
  refine lv_iload_n hx hb dX4_ingredient_74 rfl (lv_at hl 3 rfl) ?_
  obtain ⟨I_15, eI_15, hf⟩ := nm_out hf
  refine va_putN (D := (dC, dI)) (ci := 1) (v := .int p2) (ty := .int) (C := RX1) (T := TX1) (N := 5) hx hb hts iX4_ingredient_RX1 tyX1 tyX1_ok nmX1 hown hK hP (hDD I_14 D) hS (7 + ((I 0 5)).toNatClampNeg) (heH_Ingredient (inB_lt h_13)) rfl 1 (by decide) (va_Nw.use (w := .fieldLinkNest "OverrunHouse" 80 "OverrunHouse$Ingredient" "milk" "I" "OverrunHouse") rfl (hN _ (List.mem_of_getElem? (i := 3) rfl))) (fun _ h9 => h9) rfl (by decide +kernel) rfl rfl (Nat.le_of_ble_eq_true rfl) dX4_ingredient_75 (fun H locs hP _ hS => ?_)
  have hP : va_P (dC, dI) vwCl (iwH ad cy I_15 D) H := by rw [eI_15]; exact hpI (by have := (inB_lt h_13); omega) ((cellH_Ingredient ad cy (inB_lt h_13) _ _).trans rfl) hP
  refine lv_aload hx hb dX4_ingredient_78 (lv_at hl 0 rfl) ?_
  refine lv_iload_n hx hb dX4_ingredient_80 rfl (lv_at hl 4 rfl) ?_
  obtain ⟨I_16, eI_16, hf⟩ := nm_out hf
  refine va_putN (D := (dC, dI)) (ci := 1) (v := .int p3) (ty := .int) (C := RX1) (T := TX1) (N := 5) hx hb hts iX4_ingredient_RX1 tyX1 tyX1_ok nmX1 hown hK hP (hDD I_15 D) hS (7 + ((I 0 5)).toNatClampNeg) (heH_Ingredient (inB_lt h_13)) rfl 2 (by decide) (va_Nw.use (w := .fieldLinkNest "OverrunHouse" 83 "OverrunHouse$Ingredient" "sugar" "I" "OverrunHouse") rfl (hN _ (List.mem_of_getElem? (i := 5) rfl))) (fun _ h9 => h9) rfl (by decide +kernel) rfl rfl (Nat.le_of_ble_eq_true rfl) dX4_ingredient_81 (fun H locs hP _ hS => ?_)
  have hP : va_P (dC, dI) vwCl (iwH ad cy I_16 D) H := by rw [eI_16]; exact hpI (by have := (inB_lt h_13); omega) ((cellH_Ingredient ad cy (inB_lt h_13) _ _).trans rfl) hP
  refine lv_aload hx hb dX4_ingredient_84 (lv_at hl 0 rfl) ?_
  refine lv_iload hx hb dX4_ingredient_86 (lv_at hl 5 rfl) ?_
  obtain ⟨I_17, eI_17, hf⟩ := nm_out hf
  refine va_putN (D := (dC, dI)) (ci := 1) (v := .int p4) (ty := .int) (C := RX1) (T := TX1) (N := 5) hx hb hts iX4_ingredient_RX1 tyX1 tyX1_ok nmX1 hown hK hP (hDD I_16 D) hS (7 + ((I 0 5)).toNatClampNeg) (heH_Ingredient (inB_lt h_13)) rfl 3 (by decide) (va_Nw.use (w := .fieldLinkNest "OverrunHouse" 86 "OverrunHouse$Ingredient" "cost" "I" "OverrunHouse") rfl (hN _ (List.mem_of_getElem? (i := 7) rfl))) (fun _ h9 => h9) rfl (by decide +kernel) rfl rfl (Nat.le_of_ble_eq_true rfl) dX4_ingredient_88 (fun H locs hP _ hS => ?_)
  have hP : va_P (dC, dI) vwCl (iwH ad cy I_17 D) H := by rw [eI_17]; exact hpI (by have := (inB_lt h_13); omega) ((cellH_Ingredient ad cy (inB_lt h_13) _ _).trans rfl) hP
  refine lv_aload hx hb dX4_ingredient_91 (lv_at hl 0 rfl) ?_
  refine lv_iload hx hb dX4_ingredient_93 (lv_at hl 6 rfl) ?_
  obtain ⟨I_18, eI_18, hf⟩ := nm_out hf
  refine va_putN (D := (dC, dI)) (ci := 1) (v := .int p5) (ty := .int) (C := RX1) (T := TX1) (N := 5) hx hb hts iX4_ingredient_RX1 tyX1 tyX1_ok nmX1 hown hK hP (hDD I_17 D) hS (7 + ((I 0 5)).toNatClampNeg) (heH_Ingredient (inB_lt h_13)) rfl 4 (by decide) (va_Nw.use (w := .fieldLinkNest "OverrunHouse" 89 "OverrunHouse$Ingredient" "harms" "I" "OverrunHouse") rfl (hN _ (List.mem_of_getElem? (i := 9) rfl))) (fun _ h9 => h9) rfl (by decide +kernel) rfl rfl (Nat.le_of_ble_eq_true rfl) dX4_ingredient_95 (fun H locs hP _ hS => ?_)
  have hP : va_P (dC, dI) vwCl (iwH ad cy I_18 D) H := by rw [eI_18]; exact hpI (by have := (inB_lt h_13); omega) ((cellH_Ingredient ad cy (inB_lt h_13) _ _).trans rfl) hP
  refine lv_aload_n hx hb dX4_ingredient_98 rfl (lv_at hl 1 rfl) ?_
  refine lv_dup hx hb dX4_ingredient_99 rfl ?_
  refine va_get (D := (dC, dI)) (ci := 4) (v := .int (I_18 0 5)) (C := RX4) (T := TX4) (N := 14) hx hb hts iX4_ingredient_RX4 hown hK hP 0 heH_0 rfl 5 (by decide) (hts (.fieldLink RX4 37 "OverrunHouse" "ingredientCount" "I") (List.mem_cons_of_mem _ (List.mem_append_left _ (List.mem_append_left _ (List.mem_append_left _ (List.mem_append_left _ (List.mem_of_getElem? (i := 0) rfl))))))) (fun _ h9 => h9) rfl dX4_ingredient_100 ?_
  refine lv_iconst (v := 1) hx hb dX4_ingredient_103 (by decide) ?_
  refine lv_iadd hx hb dX4_ingredient_104 ?_
  obtain ⟨I_19, eI_19, hf⟩ := nm_out hf
  refine va_put (D := (dC, dI)) (ci := 4) (v := .int ((I_18 0 5) + 1)) (ty := .int) (C := RX4) (T := TX4) (N := 14) hx hb hts iX4_ingredient_RX4 tyX4 tyX4_ok nmX4 hown hK hP (hDD I_18 D) hS 0 heH_0 rfl 5 (by decide) (hts (.fieldLink RX4 37 "OverrunHouse" "ingredientCount" "I") (List.mem_cons_of_mem _ (List.mem_append_left _ (List.mem_append_left _ (List.mem_append_left _ (List.mem_append_left _ (List.mem_of_getElem? (i := 0) rfl))))))) (fun _ h9 => h9) rfl (by decide +kernel) rfl rfl (Nat.le_of_ble_eq_true rfl) dX4_ingredient_105 (fun H locs hP _ hS => ?_)
  have hP : va_P (dC, dI) vwCl (iwH ad cy I_19 D) H := by rw [eI_19]; exact hpI (by decide) ((cellH_0 ad cy _ _).trans rfl) hP
  refine lv_aload_n hx hb dX4_ingredient_108 rfl (lv_at hl 1 rfl) ?_
  refine va_get (D := (dC, dI)) (ci := 4) (v := .int (I_19 0 5)) (C := RX4) (T := TX4) (N := 14) hx hb hts iX4_ingredient_RX4 hown hK hP 0 heH_0 rfl 5 (by decide) (hts (.fieldLink RX4 37 "OverrunHouse" "ingredientCount" "I") (List.mem_cons_of_mem _ (List.mem_append_left _ (List.mem_append_left _ (List.mem_append_left _ (List.mem_append_left _ (List.mem_of_getElem? (i := 0) rfl))))))) (fun _ h9 => h9) rfl dX4_ingredient_109 ?_
  refine lv_iconst (v := 1) hx hb dX4_ingredient_112 (by decide) ?_
  refine lv_isub hx hb dX4_ingredient_113 ?_
  have hf := ok_in hf
  obtain ⟨q1, q2⟩ := Prod.mk.inj hf
  obtain ⟨q2, q3⟩ := Prod.mk.inj q2
  rw [q2, q3] at hP
  exact W.iret (v := ((I_19 0 5) - 1)) hx hb hr (fun t ht hW9 => ⟨⟨((I_19 0 5) - 1), (), rfl, q1.symm, hW.of hP hK hN ht hW9⟩, hS.F ht⟩) hS.2.2 dX4_ingredient_114

def f_X4_mix (I : Nat → Nat → Int32) (D : Nat → Nat → UInt64) (p1 : Int32) (p2 : Int32) : Option (Except String (Int32 × (Nat → Nat → Int32) × (Nat → Nat → UInt64))) :=
  bE (f_X4_checkNumber p1 (I 0 5)) (fun _ => bE (f_X4_checkRange p2 1 500) (fun _ => bE (f_X4_checkRoom (I 0 6) 5) (fun _ => ck (inB (I 0 6) 5) (ck (inB p1 6) (bd (f_X2_add I D (((I 0 6)).toNatClampNeg) (p1).toNatClampNeg p1 p2) (fun (I_11, D_12) => nm (up2 I_11 0 6 ((I_11 0 6) + 1)) (fun I_13 => some (Except.ok (((I_13 0 6) - 1), I_13, D_12)))))))))
theorem iX4_mix_RX4 : ∀ w ∈ u_ws RX4 TX4 14, w ∈ wsX4_mix := fun w h => List.mem_cons_of_mem _ (List.mem_append_left _ (List.mem_append_left _ (List.mem_append_left _ (List.mem_append_left _ (List.mem_append_left _ (List.mem_append_right _ (h)))))))
set_option maxHeartbeats 4000000 in
set_option maxRecDepth 100000 in
theorem mt_X4_mix (l : Launch) (dC : Nat → ClassId) (dI : Nat → Nat → Nat) (ad : Nat → Nat) (cy : Nat → ClassId) (hJ : J33 ad) (sz : Nat) (I : Nat → Nat → Int32) (D : Nat → Nat → UInt64) (p1 : Int32) (p2 : Int32) (rr : Int32) (I9 : Nat → Nat → Int32) (D9 : Nat → Nat → UInt64) (hf : f_X4_mix I D p1 p2 = some (Except.ok (rr, I9, D9))) : Met l yX4_mix wsX4_mix ({ frames := 2, cells := 0, slots := 0, locals := 44 }) (va_Pc [.ref (ad 0), .int p1, .int p2] (fun U => U.heap.size = sz ∧ hW dC dI ad cy I D U)) (va_Qi (fun r (_ : Unit) => rr = r) (fun _ t => hW dC dI ad cy I9 D9 t) (AW ad sz)) 0 0 (AW ad sz) := by
  refine Met.ofW (cc := cX4_mix) (maxL := 3) (ret := (some .int)) (by decide) rfl ?_
  intro p e s m args below meth c s₁ B hml hv
  obtain ⟨rfl, hsz, hP, hK, hN⟩ := hv
  have hx := B.exec
  have hb := B.bytes
  have hr := B.returns
  have hts := atoms_spec (ws := wsX4_mix) B.pre
  have hown : s.vm.findClass RX4 = some m.cls := findClass_of_methodNamed B.named
  have hlocks := B.notSynchronized
  subst hsz
  generalize hAe : AW ad s.heap.size = A
  have hA : ∀ q : Nat, s.heap.size ≤ q → A q := fun q h => by rw [← hAe]; exact Or.inr h
  have hA33 : ∀ k, k < 33 → A (ad k) := fun k h => by rw [← hAe]; exact Or.inl ⟨k, h, rfl⟩
  have hDD : ∀ I D, va_D A (iwH ad cy I D) := fun I D => iwH_D hJ hA33 I D
  obtain ⟨H, hH⟩ : ∃ H : Heap, H = s.heap := ⟨_, rfl⟩
  have hS : va_S A s.heap H [] := by rw [hH]; exact va_S.rf
  rw [← hH]
  rw [← hH] at hP
  have hl := lv_entry ([.ref (ad 0), .int p1, .int p2]) (n := 3) (Nat.le_of_ble_eq_true rfl)
  rw [lg_entry_eq]
  generalize (lg_sl ([.ref (ad 0), .int p1, .int p2]) ++ List.replicate (3 - (lg_sl ([.ref (ad 0), .int p1, .int p2])).length) Slot.unset).toArray = ls at hl ⊢
  have hl : lv_has ls 3 [(0, .ref (ad 0)), (1, .int p1), (2, .int p2)] := hl
  unfold f_X4_mix at hf
  refine lv_iload_n hx hb dX4_mix_0 rfl (lv_at hl 1 rfl) ?_
  refine lv_aload_n hx hb dX4_mix_1 rfl (lv_at hl 0 rfl) ?_
  refine va_get (D := (dC, dI)) (ci := 4) (v := .int (I 0 5)) (C := RX4) (T := TX4) (N := 14) hx hb hts iX4_mix_RX4 hown hK hP 0 heH_0 rfl 5 (by decide) (hts (.fieldLink RX4 37 "OverrunHouse" "ingredientCount" "I") (List.mem_cons_of_mem _ (List.mem_append_left _ (List.mem_append_left _ (List.mem_append_left _ (List.mem_append_left _ (List.mem_append_left _ (List.mem_append_left _ (List.mem_append_left _ (List.mem_of_getElem? (i := 0) rfl)))))))))) (fun _ h9 => h9) rfl dX4_mix_2 ?_
  obtain ⟨_, g_2, hf⟩ := bE_ok hf
  refine va_callv (va_runS (As := [.int p1, .int (I 0 5)]) (rest := []) ⟨hx, hb, hml, hown, hts⟩ (mt_X4_checkNumber l H.size p1 (I 0 5)  g_2) (va_cwS 2 hts gX4_mix_X4_checkNumber rfl rfl rfl (by decide +kernel) ⟨Nat.le_of_ble_eq_true rfl, Nat.le_of_ble_eq_true rfl⟩) (pre0 [.int p1, .int (I 0 5)]) rfl rfl hl.1 rfl (lv_room (Nat.le_of_ble_eq_true rfl)) dX4_mix_5 ⟨Nat.le_of_ble_eq_true rfl, Nat.le_of_ble_eq_true rfl⟩) hS (fun q _ h => hA q (Nat.le_trans hS.1 h)) (fun q h => hA q (Nat.le_trans hS.1 h)) (fun u t H1 locs ht hvm hw hB hz1 hk1 hS => ?_)
  have hP := va_Pnew hP hk1
  clear hB hz1 hk1 hvm ht
  generalize H1 = H at hP hS ⊢
  refine lv_iload_n hx hb dX4_mix_8 rfl (lv_at hl 2 rfl) ?_
  refine lv_iconst (v := 1) hx hb dX4_mix_9 (by decide) ?_
  refine lv_sipush (v := 500) hx hb dX4_mix_10 (by decide) ?_
  obtain ⟨_, g_4, hf⟩ := bE_ok hf
  refine va_callv (va_runS (As := [.int p2, .int 1, .int 500]) (rest := []) ⟨hx, hb, hml, hown, hts⟩ (mt_X4_checkRange l H.size p2 1 500  g_4) (va_cwS 3 hts gX4_mix_X4_checkRange rfl rfl rfl (by decide +kernel) ⟨Nat.le_of_ble_eq_true rfl, Nat.le_of_ble_eq_true rfl⟩) (pre0 [.int p2, .int 1, .int 500]) rfl rfl hl.1 rfl (lv_room (Nat.le_of_ble_eq_true rfl)) dX4_mix_13 ⟨Nat.le_of_ble_eq_true rfl, Nat.le_of_ble_eq_true rfl⟩) hS (fun q _ h => hA q (Nat.le_trans hS.1 h)) (fun q h => hA q (Nat.le_trans hS.1 h)) (fun u t H1 locs ht hvm hw hB hz1 hk1 hS => ?_)
  have hP := va_Pnew hP hk1
  clear hB hz1 hk1 hvm ht
  generalize H1 = H at hP hS ⊢
  refine lv_aload_n hx hb dX4_mix_16 rfl (lv_at hl 0 rfl) ?_
  refine va_get (D := (dC, dI)) (ci := 4) (v := .int (I 0 6)) (C := RX4) (T := TX4) (N := 14) hx hb hts iX4_mix_RX4 hown hK hP 0 heH_0 rfl 6 (by decide) (hts (.fieldLink RX4 41 "OverrunHouse" "mixCount" "I") (List.mem_cons_of_mem _ (List.mem_append_left _ (List.mem_append_left _ (List.mem_append_left _ (List.mem_append_left _ (List.mem_append_left _ (List.mem_append_left _ (List.mem_append_left _ (List.mem_of_getElem? (i := 1) rfl)))))))))) (fun _ h9 => h9) rfl dX4_mix_17 ?_
  refine lv_iconst (v := 5) hx hb dX4_mix_20 (by decide) ?_
  obtain ⟨_, g_6, hf⟩ := bE_ok hf
  refine va_callv (va_runS (As := [.int (I 0 6), .int 5]) (rest := []) ⟨hx, hb, hml, hown, hts⟩ (mt_X4_checkRoom l H.size (I 0 6) 5  g_6) (va_cwS 2 hts gX4_mix_X4_checkRoom rfl rfl rfl (by decide +kernel) ⟨Nat.le_of_ble_eq_true rfl, Nat.le_of_ble_eq_true rfl⟩) (pre0 [.int (I 0 6), .int 5]) rfl rfl hl.1 rfl (lv_room (Nat.le_of_ble_eq_true rfl)) dX4_mix_21 ⟨Nat.le_of_ble_eq_true rfl, Nat.le_of_ble_eq_true rfl⟩) hS (fun q _ h => hA q (Nat.le_trans hS.1 h)) (fun q h => hA q (Nat.le_trans hS.1 h)) (fun u t H1 locs ht hvm hw hB hz1 hk1 hS => ?_)
  have hP := va_Pnew hP hk1
  clear hB hz1 hk1 hvm ht
  generalize H1 = H at hP hS ⊢
  refine lv_aload_n hx hb dX4_mix_24 rfl (lv_at hl 0 rfl) ?_
  refine va_get (D := (dC, dI)) (ci := 4) (v := .ref (ad 2)) (C := RX4) (T := TX4) (N := 14) hx hb hts iX4_mix_RX4 hown hK hP 0 heH_0 rfl 1 (by decide) (hts (.fieldLink RX4 17 "OverrunHouse" "mixes" "[LOverrunHouse$Mix;") (List.mem_cons_of_mem _ (List.mem_append_left _ (List.mem_append_left _ (List.mem_append_left _ (List.mem_append_left _ (List.mem_append_left _ (List.mem_append_left _ (List.mem_append_left _ (List.mem_of_getElem? (i := 2) rfl)))))))))) (fun _ h9 => h9) rfl dX4_mix_25 ?_
  refine lv_aload_n hx hb dX4_mix_28 rfl (lv_at hl 0 rfl) ?_
  refine va_get (D := (dC, dI)) (ci := 4) (v := .int (I 0 6)) (C := RX4) (T := TX4) (N := 14) hx hb hts iX4_mix_RX4 hown hK hP 0 heH_0 rfl 6 (by decide) (hts (.fieldLink RX4 41 "OverrunHouse" "mixCount" "I") (List.mem_cons_of_mem _ (List.mem_append_left _ (List.mem_append_left _ (List.mem_append_left _ (List.mem_append_left _ (List.mem_append_left _ (List.mem_append_left _ (List.mem_append_left _ (List.mem_of_getElem? (i := 1) rfl)))))))))) (fun _ h9 => h9) rfl dX4_mix_29 ?_
  obtain ⟨h_7, hf⟩ := ck_out hf
  refine wr_aald (b := 13) (n := 5) hx hb hK hP 2 2 heH_2 rfl (inB_in h_7) dX4_mix_32 ?_
  refine lv_aload_n hx hb dX4_mix_33 rfl (lv_at hl 0 rfl) ?_
  refine va_get (D := (dC, dI)) (ci := 4) (v := .ref (ad 1)) (C := RX4) (T := TX4) (N := 14) hx hb hts iX4_mix_RX4 hown hK hP 0 heH_0 rfl 0 (by decide) (hts (.fieldLink RX4 11 "OverrunHouse" "ingredients" "[LOverrunHouse$Ingredient;") (List.mem_cons_of_mem _ (List.mem_append_left _ (List.mem_append_left _ (List.mem_append_left _ (List.mem_append_left _ (List.mem_append_left _ (List.mem_append_left _ (List.mem_append_left _ (List.mem_of_getElem? (i := 3) rfl)))))))))) (fun _ h9 => h9) rfl dX4_mix_34 ?_
  refine lv_iload_n hx hb dX4_mix_37 rfl (lv_at hl 1 rfl) ?_
  obtain ⟨h_8, hf⟩ := ck_out hf
  refine wr_aald (b := 7) (n := 6) hx hb hK hP 1 1 heH_1 rfl (inB_in h_8) dX4_mix_38 ?_
  refine lv_iload_n hx hb dX4_mix_39 rfl (lv_at hl 1 rfl) ?_
  refine lv_iload_n hx hb dX4_mix_40 rfl (lv_at hl 2 rfl) ?_
  obtain ⟨⟨I_11, D_12⟩, g_10, hf⟩ := bd_out hf
  have hAW : ∀ q, AW ad H.size q → A q := fun q h => h.elim (fun ⟨k, k1, k2⟩ => k2 ▸ hA33 k k1) (fun h => hA q (Nat.le_trans hS.1 h))
  refine va_callv (va_runVN (As := [.ref (ad (7 + (p1).toNatClampNeg)), .int p1, .int p2]) (rest := []) ⟨hx, hb, hml, hown, hts⟩ (mt_X2_add l dC dI ad cy hJ H.size I D ((I 0 6)).toNatClampNeg (inB_lt h_7) (p1).toNatClampNeg (inB_lt h_8) p1 p2 I_11 D_12 g_10) ⟨va_cnB 3 hts gX4_mix_X2_add_n95 rfl rfl rfl (hN (.methodLinkNest "OverrunHouse" 95 ⟨"OverrunHouse$Mix", "add", "(LOverrunHouse$Ingredient;II)V"⟩ "OverrunHouse") (List.mem_of_getElem? (i := 37) rfl)) (hts (.initialized RX2) (List.mem_cons_of_mem _ (List.mem_append_left _ (List.mem_append_left _ (List.mem_append_left _ (List.mem_append_left _ (List.mem_append_left _ (List.mem_append_left _ (List.mem_append_left _ (List.mem_of_getElem? (i := 21) rfl)))))))))) (by decide +kernel) ⟨Nat.le_of_ble_eq_true rfl, Nat.le_of_ble_eq_true rfl⟩, (hts (.instanceMethod yX2_add) (List.mem_cons_of_mem _ (List.mem_append_left _ (List.mem_append_left _ (List.mem_append_left _ (List.mem_append_left _ (List.mem_append_left _ (List.mem_append_left _ (List.mem_append_left _ (List.mem_of_getElem? (i := 20) rfl)))))))))), (hts (.selects RX2 yX2_add yX2_add) (List.mem_cons_of_mem _ (List.mem_append_left _ (List.mem_append_left _ (List.mem_append_left _ (List.mem_append_left _ (List.mem_append_left _ (List.mem_append_left _ (List.mem_append_left _ (List.mem_of_getElem? (i := 22) rfl))))))))))⟩ ⟨(hW.pre [.ref (ad (13 + ((I 0 6)).toNatClampNeg)), .ref (ad (7 + (p1).toNatClampNeg)), .int p1, .int p2] hP hK hN).1, hW.recv (C := RX2) (T := TX2) (N := 12) hP hK (heH_Mix (inB_lt h_7)) rfl, (hW.pre [.ref (ad (13 + ((I 0 6)).toNatClampNeg)), .ref (ad (7 + (p1).toNatClampNeg)), .int p1, .int p2] hP hK hN).2⟩ rfl rfl hl.1 rfl (lv_room (Nat.le_of_ble_eq_true rfl)) dX4_mix_41 ⟨Nat.le_of_ble_eq_true rfl, Nat.le_of_ble_eq_true rfl⟩) hS (fun q _ h => hAW q h) (fun q h => hAW q h) (fun u t H1 locs ht hvm hw hB hz1 hk1 hS => ?_)
  have hP : va_P (dC, dI) vwCl (iwH ad cy I_11 D_12) H1 := by rw [← ht]; exact hB.1
  clear hB hz1 hk1 hvm ht
  generalize H1 = H at hP hS ⊢
  refine lv_aload_n hx hb dX4_mix_44 rfl (lv_at hl 0 rfl) ?_
  refine lv_dup hx hb dX4_mix_45 rfl ?_
  refine va_get (D := (dC, dI)) (ci := 4) (v := .int (I_11 0 6)) (C := RX4) (T := TX4) (N := 14) hx hb hts iX4_mix_RX4 hown hK hP 0 heH_0 rfl 6 (by decide) (hts (.fieldLink RX4 41 "OverrunHouse" "mixCount" "I") (List.mem_cons_of_mem _ (List.mem_append_left _ (List.mem_append_left _ (List.mem_append_left _ (List.mem_append_left _ (List.mem_append_left _ (List.mem_append_left _ (List.mem_append_left _ (List.mem_of_getElem? (i := 1) rfl)))))))))) (fun _ h9 => h9) rfl dX4_mix_46 ?_
  refine lv_iconst (v := 1) hx hb dX4_mix_49 (by decide) ?_
  refine lv_iadd hx hb dX4_mix_50 ?_
  obtain ⟨I_13, eI_13, hf⟩ := nm_out hf
  refine va_put (D := (dC, dI)) (ci := 4) (v := .int ((I_11 0 6) + 1)) (ty := .int) (C := RX4) (T := TX4) (N := 14) hx hb hts iX4_mix_RX4 tyX4 tyX4_ok nmX4 hown hK hP (hDD I_11 D_12) hS 0 heH_0 rfl 6 (by decide) (hts (.fieldLink RX4 41 "OverrunHouse" "mixCount" "I") (List.mem_cons_of_mem _ (List.mem_append_left _ (List.mem_append_left _ (List.mem_append_left _ (List.mem_append_left _ (List.mem_append_left _ (List.mem_append_left _ (List.mem_append_left _ (List.mem_of_getElem? (i := 1) rfl)))))))))) (fun _ h9 => h9) rfl (by decide +kernel) rfl rfl (Nat.le_of_ble_eq_true rfl) dX4_mix_51 (fun H locs hP _ hS => ?_)
  have hP : va_P (dC, dI) vwCl (iwH ad cy I_13 D_12) H := by rw [eI_13]; exact hpI (by decide) ((cellH_0 ad cy _ _).trans rfl) hP
  refine lv_aload_n hx hb dX4_mix_54 rfl (lv_at hl 0 rfl) ?_
  refine va_get (D := (dC, dI)) (ci := 4) (v := .int (I_13 0 6)) (C := RX4) (T := TX4) (N := 14) hx hb hts iX4_mix_RX4 hown hK hP 0 heH_0 rfl 6 (by decide) (hts (.fieldLink RX4 41 "OverrunHouse" "mixCount" "I") (List.mem_cons_of_mem _ (List.mem_append_left _ (List.mem_append_left _ (List.mem_append_left _ (List.mem_append_left _ (List.mem_append_left _ (List.mem_append_left _ (List.mem_append_left _ (List.mem_of_getElem? (i := 1) rfl)))))))))) (fun _ h9 => h9) rfl dX4_mix_55 ?_
  refine lv_iconst (v := 1) hx hb dX4_mix_58 (by decide) ?_
  refine lv_isub hx hb dX4_mix_59 ?_
  have hf := ok_in hf
  obtain ⟨q1, q2⟩ := Prod.mk.inj hf
  obtain ⟨q2, q3⟩ := Prod.mk.inj q2
  rw [q2, q3] at hP
  exact W.iret (v := ((I_13 0 6) - 1)) hx hb hr (fun t ht hW9 => ⟨⟨((I_13 0 6) - 1), (), rfl, q1.symm, hW.of hP hK hN ht hW9⟩, hS.F ht⟩) hS.2.2 dX4_mix_60

def f_X4_put (I : Nat → Nat → Int32) (D : Nat → Nat → UInt64) (p1 : Int32) (p2 : Int32) (p3 : Int32) : Option (Except String (Int32 × (Nat → Nat → Int32) × (Nat → Nat → UInt64))) :=
  bE (f_X4_checkNumber p1 (I 0 6)) (fun _ => bE (f_X4_checkNumber p2 (I 0 5)) (fun _ => bE (f_X4_checkRange p3 1 500) (fun _ => ck (inB p1 5) ((if 500 < ((I (13 + (p1).toNatClampNeg) 0) + p3) then some (Except.error "java/lang/IllegalStateException") else (if (I (13 + (p1).toNatClampNeg) 9) ≤ 0 then ck (inB p2 6) (bd (f_X2_add I D (p1).toNatClampNeg (p2).toNatClampNeg p2 p3) (fun (I_13, D_14) => some (Except.ok ((I_13 (13 + (p1).toNatClampNeg) 0), I_13, D_14)))) else some (Except.error "java/lang/IllegalStateException")))))))
theorem iX4_put_RX4 : ∀ w ∈ u_ws RX4 TX4 14, w ∈ wsX4_put := fun w h => List.mem_cons_of_mem _ (List.mem_append_left _ (List.mem_append_left _ (List.mem_append_left _ (List.mem_append_left _ (List.mem_append_left _ (List.mem_append_right _ (h)))))))
theorem iX4_put_RX2 : ∀ w ∈ u_ws RX2 TX2 12, w ∈ wsX4_put := fun w h => List.mem_cons_of_mem _ (List.mem_append_left _ (List.mem_append_left _ (List.mem_append_left _ (List.mem_append_left _ (List.mem_append_right _ (h))))))
set_option maxHeartbeats 4000000 in
set_option maxRecDepth 100000 in
theorem mt_X4_put (l : Launch) (dC : Nat → ClassId) (dI : Nat → Nat → Nat) (ad : Nat → Nat) (cy : Nat → ClassId) (hJ : J33 ad) (sz : Nat) (I : Nat → Nat → Int32) (D : Nat → Nat → UInt64) (p1 : Int32) (p2 : Int32) (p3 : Int32) (rr : Int32) (I9 : Nat → Nat → Int32) (D9 : Nat → Nat → UInt64) (hf : f_X4_put I D p1 p2 p3 = some (Except.ok (rr, I9, D9))) : Met l yX4_put wsX4_put ({ frames := 2, cells := 0, slots := 0, locals := 44 }) (va_Pc [.ref (ad 0), .int p1, .int p2, .int p3] (fun U => U.heap.size = sz ∧ hW dC dI ad cy I D U)) (va_Qi (fun r (_ : Unit) => rr = r) (fun _ t => hW dC dI ad cy I9 D9 t) (AW ad sz)) 0 0 (AW ad sz) := by
  refine Met.ofW (cc := cX4_put) (maxL := 5) (ret := (some .int)) (by decide) rfl ?_
  intro p e s m args below meth c s₁ B hml hv
  obtain ⟨rfl, hsz, hP, hK, hN⟩ := hv
  have hx := B.exec
  have hb := B.bytes
  have hr := B.returns
  have hts := atoms_spec (ws := wsX4_put) B.pre
  have hown : s.vm.findClass RX4 = some m.cls := findClass_of_methodNamed B.named
  have hlocks := B.notSynchronized
  subst hsz
  generalize hAe : AW ad s.heap.size = A
  have hA : ∀ q : Nat, s.heap.size ≤ q → A q := fun q h => by rw [← hAe]; exact Or.inr h
  have hA33 : ∀ k, k < 33 → A (ad k) := fun k h => by rw [← hAe]; exact Or.inl ⟨k, h, rfl⟩
  have hDD : ∀ I D, va_D A (iwH ad cy I D) := fun I D => iwH_D hJ hA33 I D
  obtain ⟨H, hH⟩ : ∃ H : Heap, H = s.heap := ⟨_, rfl⟩
  have hS : va_S A s.heap H [] := by rw [hH]; exact va_S.rf
  rw [← hH]
  rw [← hH] at hP
  have hl := lv_entry ([.ref (ad 0), .int p1, .int p2, .int p3]) (n := 5) (Nat.le_of_ble_eq_true rfl)
  rw [lg_entry_eq]
  generalize (lg_sl ([.ref (ad 0), .int p1, .int p2, .int p3]) ++ List.replicate (5 - (lg_sl ([.ref (ad 0), .int p1, .int p2, .int p3])).length) Slot.unset).toArray = ls at hl ⊢
  have hl : lv_has ls 5 [(0, .ref (ad 0)), (1, .int p1), (2, .int p2), (3, .int p3)] := hl
  unfold f_X4_put at hf
  refine lv_iload_n hx hb dX4_put_0 rfl (lv_at hl 1 rfl) ?_
  refine lv_aload_n hx hb dX4_put_1 rfl (lv_at hl 0 rfl) ?_
  refine va_get (D := (dC, dI)) (ci := 4) (v := .int (I 0 6)) (C := RX4) (T := TX4) (N := 14) hx hb hts iX4_put_RX4 hown hK hP 0 heH_0 rfl 6 (by decide) (hts (.fieldLink RX4 41 "OverrunHouse" "mixCount" "I") (List.mem_cons_of_mem _ (List.mem_append_left _ (List.mem_append_left _ (List.mem_append_left _ (List.mem_append_left _ (List.mem_append_left _ (List.mem_append_left _ (List.mem_append_left _ (List.mem_of_getElem? (i := 2) rfl)))))))))) (fun _ h9 => h9) rfl dX4_put_2 ?_
  obtain ⟨_, g_2, hf⟩ := bE_ok hf
  refine va_callv (va_runS (As := [.int p1, .int (I 0 6)]) (rest := []) ⟨hx, hb, hml, hown, hts⟩ (mt_X4_checkNumber l H.size p1 (I 0 6)  g_2) (va_cwS 2 hts gX4_put_X4_checkNumber rfl rfl rfl (by decide +kernel) ⟨Nat.le_of_ble_eq_true rfl, Nat.le_of_ble_eq_true rfl⟩) (pre0 [.int p1, .int (I 0 6)]) rfl rfl hl.1 rfl (lv_room (Nat.le_of_ble_eq_true rfl)) dX4_put_5 ⟨Nat.le_of_ble_eq_true rfl, Nat.le_of_ble_eq_true rfl⟩) hS (fun q _ h => hA q (Nat.le_trans hS.1 h)) (fun q h => hA q (Nat.le_trans hS.1 h)) (fun u t H1 locs ht hvm hw hB hz1 hk1 hS => ?_)
  have hP := va_Pnew hP hk1
  clear hB hz1 hk1 hvm ht
  generalize H1 = H at hP hS ⊢
  refine lv_iload_n hx hb dX4_put_8 rfl (lv_at hl 2 rfl) ?_
  refine lv_aload_n hx hb dX4_put_9 rfl (lv_at hl 0 rfl) ?_
  refine va_get (D := (dC, dI)) (ci := 4) (v := .int (I 0 5)) (C := RX4) (T := TX4) (N := 14) hx hb hts iX4_put_RX4 hown hK hP 0 heH_0 rfl 5 (by decide) (hts (.fieldLink RX4 37 "OverrunHouse" "ingredientCount" "I") (List.mem_cons_of_mem _ (List.mem_append_left _ (List.mem_append_left _ (List.mem_append_left _ (List.mem_append_left _ (List.mem_append_left _ (List.mem_append_left _ (List.mem_append_left _ (List.mem_of_getElem? (i := 3) rfl)))))))))) (fun _ h9 => h9) rfl dX4_put_10 ?_
  obtain ⟨_, g_4, hf⟩ := bE_ok hf
  refine va_callv (va_runS (As := [.int p2, .int (I 0 5)]) (rest := []) ⟨hx, hb, hml, hown, hts⟩ (mt_X4_checkNumber l H.size p2 (I 0 5)  g_4) (va_cwS 2 hts gX4_put_X4_checkNumber rfl rfl rfl (by decide +kernel) ⟨Nat.le_of_ble_eq_true rfl, Nat.le_of_ble_eq_true rfl⟩) (pre0 [.int p2, .int (I 0 5)]) rfl rfl hl.1 rfl (lv_room (Nat.le_of_ble_eq_true rfl)) dX4_put_13 ⟨Nat.le_of_ble_eq_true rfl, Nat.le_of_ble_eq_true rfl⟩) hS (fun q _ h => hA q (Nat.le_trans hS.1 h)) (fun q h => hA q (Nat.le_trans hS.1 h)) (fun u t H1 locs ht hvm hw hB hz1 hk1 hS => ?_)
  have hP := va_Pnew hP hk1
  clear hB hz1 hk1 hvm ht
  generalize H1 = H at hP hS ⊢
  refine lv_iload_n hx hb dX4_put_16 rfl (lv_at hl 3 rfl) ?_
  refine lv_iconst (v := 1) hx hb dX4_put_17 (by decide) ?_
  refine lv_sipush (v := 500) hx hb dX4_put_18 (by decide) ?_
  obtain ⟨_, g_6, hf⟩ := bE_ok hf
  refine va_callv (va_runS (As := [.int p3, .int 1, .int 500]) (rest := []) ⟨hx, hb, hml, hown, hts⟩ (mt_X4_checkRange l H.size p3 1 500  g_6) (va_cwS 3 hts gX4_put_X4_checkRange rfl rfl rfl (by decide +kernel) ⟨Nat.le_of_ble_eq_true rfl, Nat.le_of_ble_eq_true rfl⟩) (pre0 [.int p3, .int 1, .int 500]) rfl rfl hl.1 rfl (lv_room (Nat.le_of_ble_eq_true rfl)) dX4_put_21 ⟨Nat.le_of_ble_eq_true rfl, Nat.le_of_ble_eq_true rfl⟩) hS (fun q _ h => hA q (Nat.le_trans hS.1 h)) (fun q h => hA q (Nat.le_trans hS.1 h)) (fun u t H1 locs ht hvm hw hB hz1 hk1 hS => ?_)
  have hP := va_Pnew hP hk1
  clear hB hz1 hk1 hvm ht
  generalize H1 = H at hP hS ⊢
  refine lv_aload_n hx hb dX4_put_24 rfl (lv_at hl 0 rfl) ?_
  refine va_get (D := (dC, dI)) (ci := 4) (v := .ref (ad 2)) (C := RX4) (T := TX4) (N := 14) hx hb hts iX4_put_RX4 hown hK hP 0 heH_0 rfl 1 (by decide) (hts (.fieldLink RX4 17 "OverrunHouse" "mixes" "[LOverrunHouse$Mix;") (List.mem_cons_of_mem _ (List.mem_append_left _ (List.mem_append_left _ (List.mem_append_left _ (List.mem_append_left _ (List.mem_append_left _ (List.mem_append_left _ (List.mem_append_left _ (List.mem_of_getElem? (i := 4) rfl)))))))))) (fun _ h9 => h9) rfl dX4_put_25 ?_
  refine lv_iload_n hx hb dX4_put_28 rfl (lv_at hl 1 rfl) ?_
  obtain ⟨h_7, hf⟩ := ck_out hf
  refine wr_aald (b := 13) (n := 5) hx hb hK hP 2 2 heH_2 rfl (inB_in h_7) dX4_put_29 ?_
  refine lv_astore (lv' := [(4, .ref (ad (13 + (p1).toNatClampNeg))), (0, .ref (ad 0)), (1, .int p1), (2, .int p2), (3, .int p3)]) hx hb dX4_put_30 hl (by decide) rfl (fun ls hl => ?_)
  refine lv_aload hx hb dX4_put_32 (lv_at hl 0 rfl) ?_
  refine va_getN (D := (dC, dI)) (ci := 2) (v := .int (I (13 + (p1).toNatClampNeg) 0)) (C := RX2) (T := TX2) (N := 12) hx hb hts iX4_put_RX2 hown hK hP (13 + (p1).toNatClampNeg) (heH_Mix (inB_lt h_7)) rfl 0 (by decide) (va_Nw.use (w := .fieldLinkNest "OverrunHouse" 99 "OverrunHouse$Mix" "kilos" "I" "OverrunHouse") rfl (hN _ (List.mem_of_getElem? (i := 10) rfl))) (fun _ h9 => h9) rfl dX4_put_34 ?_
  refine lv_iload_n hx hb dX4_put_37 rfl (lv_at hl 4 rfl) ?_
  refine lv_iadd hx hb dX4_put_38 ?_
  refine lv_sipush (v := 500) hx hb dX4_put_39 (by decide) ?_
  refine lv_icmp_gt (tgt := 53) hx hb dX4_put_42 (by decide) (fun c_8 => ?_) (fun c_8 => ?_)
  · have hf := it_t hf c_8
    exact (ok_ne hf).elim
  · have hf := it_f hf c_8
    refine lv_aload hx hb dX4_put_45 (lv_at hl 0 rfl) ?_
    refine va_getN (D := (dC, dI)) (ci := 2) (v := .int (I (13 + (p1).toNatClampNeg) 9)) (C := RX2) (T := TX2) (N := 12) hx hb hts iX4_put_RX2 hown hK hP (13 + (p1).toNatClampNeg) (heH_Mix (inB_lt h_7)) rfl 9 (by decide) (va_Nw.use (w := .fieldLinkNest "OverrunHouse" 102 "OverrunHouse$Mix" "batchesOfIt" "I" "OverrunHouse") rfl (hN _ (List.mem_of_getElem? (i := 16) rfl))) (fun _ h9 => h9) rfl dX4_put_47 ?_
    refine lv_if_le (tgt := 63) hx hb dX4_put_50 (by decide) (fun c_9 => ?_) (fun c_9 => ?_)
    · have hf := it_t hf c_9
      refine lv_aload hx hb dX4_put_63 (lv_at hl 0 rfl) ?_
      refine lv_aload_n hx hb dX4_put_65 rfl (lv_at hl 1 rfl) ?_
      refine va_get (D := (dC, dI)) (ci := 4) (v := .ref (ad 1)) (C := RX4) (T := TX4) (N := 14) hx hb hts iX4_put_RX4 hown hK hP 0 heH_0 rfl 0 (by decide) (hts (.fieldLink RX4 11 "OverrunHouse" "ingredients" "[LOverrunHouse$Ingredient;") (List.mem_cons_of_mem _ (List.mem_append_left _ (List.mem_append_left _ (List.mem_append_left _ (List.mem_append_left _ (List.mem_append_left _ (List.mem_append_left _ (List.mem_append_left _ (List.mem_of_getElem? (i := 5) rfl)))))))))) (fun _ h9 => h9) rfl dX4_put_66 ?_
      refine lv_iload_n hx hb dX4_put_69 rfl (lv_at hl 3 rfl) ?_
      obtain ⟨h_10, hf⟩ := ck_out hf
      refine wr_aald (b := 7) (n := 6) hx hb hK hP 1 1 heH_1 rfl (inB_in h_10) dX4_put_70 ?_
      refine lv_iload_n hx hb dX4_put_71 rfl (lv_at hl 3 rfl) ?_
      refine lv_iload_n hx hb dX4_put_72 rfl (lv_at hl 4 rfl) ?_
      obtain ⟨⟨I_13, D_14⟩, g_12, hf⟩ := bd_out hf
      have hAW : ∀ q, AW ad H.size q → A q := fun q h => h.elim (fun ⟨k, k1, k2⟩ => k2 ▸ hA33 k k1) (fun h => hA q (Nat.le_trans hS.1 h))
      refine va_callv (va_runVN (As := [.ref (ad (7 + (p2).toNatClampNeg)), .int p2, .int p3]) (rest := []) ⟨hx, hb, hml, hown, hts⟩ (mt_X2_add l dC dI ad cy hJ H.size I D (p1).toNatClampNeg (inB_lt h_7) (p2).toNatClampNeg (inB_lt h_10) p2 p3 I_13 D_14 g_12) ⟨va_cnB 3 hts gX4_put_X2_add_n95 rfl rfl rfl (hN (.methodLinkNest "OverrunHouse" 95 ⟨"OverrunHouse$Mix", "add", "(LOverrunHouse$Ingredient;II)V"⟩ "OverrunHouse") (List.mem_of_getElem? (i := 37) rfl)) (hts (.initialized RX2) (List.mem_cons_of_mem _ (List.mem_append_left _ (List.mem_append_left _ (List.mem_append_left _ (List.mem_append_left _ (List.mem_append_left _ (List.mem_append_left _ (List.mem_append_left _ (List.mem_of_getElem? (i := 18) rfl)))))))))) (by decide +kernel) ⟨Nat.le_of_ble_eq_true rfl, Nat.le_of_ble_eq_true rfl⟩, (hts (.instanceMethod yX2_add) (List.mem_cons_of_mem _ (List.mem_append_left _ (List.mem_append_left _ (List.mem_append_left _ (List.mem_append_left _ (List.mem_append_left _ (List.mem_append_left _ (List.mem_append_left _ (List.mem_of_getElem? (i := 17) rfl)))))))))), (hts (.selects RX2 yX2_add yX2_add) (List.mem_cons_of_mem _ (List.mem_append_left _ (List.mem_append_left _ (List.mem_append_left _ (List.mem_append_left _ (List.mem_append_left _ (List.mem_append_left _ (List.mem_append_left _ (List.mem_of_getElem? (i := 19) rfl))))))))))⟩ ⟨(hW.pre [.ref (ad (13 + (p1).toNatClampNeg)), .ref (ad (7 + (p2).toNatClampNeg)), .int p2, .int p3] hP hK hN).1, hW.recv (C := RX2) (T := TX2) (N := 12) hP hK (heH_Mix (inB_lt h_7)) rfl, (hW.pre [.ref (ad (13 + (p1).toNatClampNeg)), .ref (ad (7 + (p2).toNatClampNeg)), .int p2, .int p3] hP hK hN).2⟩ rfl rfl hl.1 rfl (lv_room (Nat.le_of_ble_eq_true rfl)) dX4_put_73 ⟨Nat.le_of_ble_eq_true rfl, Nat.le_of_ble_eq_true rfl⟩) hS (fun q _ h => hAW q h) (fun q h => hAW q h) (fun u t H1 locs ht hvm hw hB hz1 hk1 hS => ?_)
      have hP : va_P (dC, dI) vwCl (iwH ad cy I_13 D_14) H1 := by rw [← ht]; exact hB.1
      clear hB hz1 hk1 hvm ht
      generalize H1 = H at hP hS ⊢
      refine lv_aload hx hb dX4_put_76 (lv_at hl 0 rfl) ?_
      refine va_getN (D := (dC, dI)) (ci := 2) (v := .int (I_13 (13 + (p1).toNatClampNeg) 0)) (C := RX2) (T := TX2) (N := 12) hx hb hts iX4_put_RX2 hown hK hP (13 + (p1).toNatClampNeg) (heH_Mix (inB_lt h_7)) rfl 0 (by decide) (va_Nw.use (w := .fieldLinkNest "OverrunHouse" 99 "OverrunHouse$Mix" "kilos" "I" "OverrunHouse") rfl (hN _ (List.mem_of_getElem? (i := 10) rfl))) (fun _ h9 => h9) rfl dX4_put_78 ?_
      have hf := ok_in hf
      obtain ⟨q1, q2⟩ := Prod.mk.inj hf
      obtain ⟨q2, q3⟩ := Prod.mk.inj q2
      rw [q2, q3] at hP
      exact W.iret (v := (I_13 (13 + (p1).toNatClampNeg) 0)) hx hb hr (fun t ht hW9 => ⟨⟨(I_13 (13 + (p1).toNatClampNeg) 0), (), rfl, q1.symm, hW.of hP hK hN ht hW9⟩, hS.F ht⟩) hS.2.2 dX4_put_81
    · have hf := it_f hf c_9
      exact (ok_ne hf).elim

def f_X4_heat (I : Nat → Nat → Int32) (D : Nat → Nat → UInt64) (p1 : Int32) (p2 : Int32) (p3 : Int32) : Option (Except String (Int32 × (Nat → Nat → Int32) × (Nat → Nat → UInt64))) :=
  bE (f_X4_checkNumber p1 (I 0 6)) (fun _ => bE (f_X4_checkRange p2 20 120) (fun _ => bE (f_X4_checkRange p3 1 9999) (fun _ => ck (inB p1 5) ((if (I (13 + (p1).toNatClampNeg) 10) = 0 then bd (f_X4_proves p2 p3) (fun r_12 => (if r_12 = 0 then nm (up2 I (13 + (p1).toNatClampNeg) 10 0) (fun I_15 => nm (up2 I_15 (13 + (p1).toNatClampNeg) 8 0) (fun I_16 => ck (isB (I_16 (13 + (p1).toNatClampNeg) 10)) (some (Except.ok ((I_16 (13 + (p1).toNatClampNeg) 10), I_16, D))))) else nm (up2 I (13 + (p1).toNatClampNeg) 10 1) (fun I_18 => nm (up2 I_18 (13 + (p1).toNatClampNeg) 8 0) (fun I_19 => ck (isB (I_19 (13 + (p1).toNatClampNeg) 10)) (some (Except.ok ((I_19 (13 + (p1).toNatClampNeg) 10), I_19, D))))))) else nm (up2 I (13 + (p1).toNatClampNeg) 10 1) (fun I_9 => nm (up2 I_9 (13 + (p1).toNatClampNeg) 8 0) (fun I_10 => ck (isB (I_10 (13 + (p1).toNatClampNeg) 10)) (some (Except.ok ((I_10 (13 + (p1).toNatClampNeg) 10), I_10, D))))))))))
theorem iX4_heat_RX4 : ∀ w ∈ u_ws RX4 TX4 14, w ∈ wsX4_heat := fun w h => List.mem_cons_of_mem _ (List.mem_append_left _ (List.mem_append_left _ (List.mem_append_left _ (List.mem_append_right _ (h)))))
theorem iX4_heat_RX2 : ∀ w ∈ u_ws RX2 TX2 12, w ∈ wsX4_heat := fun w h => List.mem_cons_of_mem _ (List.mem_append_left _ (List.mem_append_left _ (List.mem_append_right _ (h))))
set_option maxHeartbeats 4000000 in
set_option maxRecDepth 100000 in
theorem mt_X4_heat (l : Launch) (dC : Nat → ClassId) (dI : Nat → Nat → Nat) (ad : Nat → Nat) (cy : Nat → ClassId) (hJ : J33 ad) (sz : Nat) (I : Nat → Nat → Int32) (D : Nat → Nat → UInt64) (p1 : Int32) (p2 : Int32) (p3 : Int32) (rr : Int32) (I9 : Nat → Nat → Int32) (D9 : Nat → Nat → UInt64) (hf : f_X4_heat I D p1 p2 p3 = some (Except.ok (rr, I9, D9))) : Met l yX4_heat wsX4_heat ({ frames := 1, cells := 0, slots := 0, locals := 22 }) (va_Pc [.ref (ad 0), .int p1, .int p2, .int p3] (fun U => U.heap.size = sz ∧ hW dC dI ad cy I D U)) (va_Qi (fun r (_ : Unit) => rr = r) (fun _ t => hW dC dI ad cy I9 D9 t) (AW ad sz)) 0 0 (AW ad sz) := by
  refine Met.ofW (cc := cX4_heat) (maxL := 5) (ret := (some .boolean)) (by decide) rfl ?_
  intro p e s m args below meth c s₁ B hml hv
  obtain ⟨rfl, hsz, hP, hK, hN⟩ := hv
  have hx := B.exec
  have hb := B.bytes
  have hr := B.returns
  have hts := atoms_spec (ws := wsX4_heat) B.pre
  have hown : s.vm.findClass RX4 = some m.cls := findClass_of_methodNamed B.named
  have hlocks := B.notSynchronized
  subst hsz
  generalize hAe : AW ad s.heap.size = A
  have hA : ∀ q : Nat, s.heap.size ≤ q → A q := fun q h => by rw [← hAe]; exact Or.inr h
  have hA33 : ∀ k, k < 33 → A (ad k) := fun k h => by rw [← hAe]; exact Or.inl ⟨k, h, rfl⟩
  have hDD : ∀ I D, va_D A (iwH ad cy I D) := fun I D => iwH_D hJ hA33 I D
  obtain ⟨H, hH⟩ : ∃ H : Heap, H = s.heap := ⟨_, rfl⟩
  have hS : va_S A s.heap H [] := by rw [hH]; exact va_S.rf
  rw [← hH]
  rw [← hH] at hP
  have hl := lv_entry ([.ref (ad 0), .int p1, .int p2, .int p3]) (n := 5) (Nat.le_of_ble_eq_true rfl)
  rw [lg_entry_eq]
  generalize (lg_sl ([.ref (ad 0), .int p1, .int p2, .int p3]) ++ List.replicate (5 - (lg_sl ([.ref (ad 0), .int p1, .int p2, .int p3])).length) Slot.unset).toArray = ls at hl ⊢
  have hl : lv_has ls 5 [(0, .ref (ad 0)), (1, .int p1), (2, .int p2), (3, .int p3)] := hl
  unfold f_X4_heat at hf
  refine lv_iload_n hx hb dX4_heat_0 rfl (lv_at hl 1 rfl) ?_
  refine lv_aload_n hx hb dX4_heat_1 rfl (lv_at hl 0 rfl) ?_
  refine va_get (D := (dC, dI)) (ci := 4) (v := .int (I 0 6)) (C := RX4) (T := TX4) (N := 14) hx hb hts iX4_heat_RX4 hown hK hP 0 heH_0 rfl 6 (by decide) (hts (.fieldLink RX4 41 "OverrunHouse" "mixCount" "I") (List.mem_cons_of_mem _ (List.mem_append_left _ (List.mem_append_left _ (List.mem_append_left _ (List.mem_append_left _ (List.mem_of_getElem? (i := 0) rfl))))))) (fun _ h9 => h9) rfl dX4_heat_2 ?_
  obtain ⟨_, g_2, hf⟩ := bE_ok hf
  refine va_callv (va_runS (As := [.int p1, .int (I 0 6)]) (rest := []) ⟨hx, hb, hml, hown, hts⟩ (mt_X4_checkNumber l H.size p1 (I 0 6)  g_2) (va_cwS 2 hts gX4_heat_X4_checkNumber rfl rfl rfl (by decide +kernel) ⟨Nat.le_of_ble_eq_true rfl, Nat.le_of_ble_eq_true rfl⟩) (pre0 [.int p1, .int (I 0 6)]) rfl rfl hl.1 rfl (lv_room (Nat.le_of_ble_eq_true rfl)) dX4_heat_5 ⟨Nat.le_of_ble_eq_true rfl, Nat.le_of_ble_eq_true rfl⟩) hS (fun q _ h => hA q (Nat.le_trans hS.1 h)) (fun q h => hA q (Nat.le_trans hS.1 h)) (fun u t H1 locs ht hvm hw hB hz1 hk1 hS => ?_)
  have hP := va_Pnew hP hk1
  clear hB hz1 hk1 hvm ht
  generalize H1 = H at hP hS ⊢
  refine lv_iload_n hx hb dX4_heat_8 rfl (lv_at hl 2 rfl) ?_
  refine lv_bipush (v := 20) hx hb dX4_heat_9 (by decide) ?_
  refine lv_bipush (v := 120) hx hb dX4_heat_11 (by decide) ?_
  obtain ⟨_, g_4, hf⟩ := bE_ok hf
  refine va_callv (va_runS (As := [.int p2, .int 20, .int 120]) (rest := []) ⟨hx, hb, hml, hown, hts⟩ (mt_X4_checkRange l H.size p2 20 120  g_4) (va_cwS 3 hts gX4_heat_X4_checkRange rfl rfl rfl (by decide +kernel) ⟨Nat.le_of_ble_eq_true rfl, Nat.le_of_ble_eq_true rfl⟩) (pre0 [.int p2, .int 20, .int 120]) rfl rfl hl.1 rfl (lv_room (Nat.le_of_ble_eq_true rfl)) dX4_heat_13 ⟨Nat.le_of_ble_eq_true rfl, Nat.le_of_ble_eq_true rfl⟩) hS (fun q _ h => hA q (Nat.le_trans hS.1 h)) (fun q h => hA q (Nat.le_trans hS.1 h)) (fun u t H1 locs ht hvm hw hB hz1 hk1 hS => ?_)
  have hP := va_Pnew hP hk1
  clear hB hz1 hk1 hvm ht
  generalize H1 = H at hP hS ⊢
  refine lv_iload_n hx hb dX4_heat_16 rfl (lv_at hl 3 rfl) ?_
  refine lv_iconst (v := 1) hx hb dX4_heat_17 (by decide) ?_
  refine lv_sipush (v := 9999) hx hb dX4_heat_18 (by decide) ?_
  obtain ⟨_, g_6, hf⟩ := bE_ok hf
  refine va_callv (va_runS (As := [.int p3, .int 1, .int 9999]) (rest := []) ⟨hx, hb, hml, hown, hts⟩ (mt_X4_checkRange l H.size p3 1 9999  g_6) (va_cwS 3 hts gX4_heat_X4_checkRange rfl rfl rfl (by decide +kernel) ⟨Nat.le_of_ble_eq_true rfl, Nat.le_of_ble_eq_true rfl⟩) (pre0 [.int p3, .int 1, .int 9999]) rfl rfl hl.1 rfl (lv_room (Nat.le_of_ble_eq_true rfl)) dX4_heat_21 ⟨Nat.le_of_ble_eq_true rfl, Nat.le_of_ble_eq_true rfl⟩) hS (fun q _ h => hA q (Nat.le_trans hS.1 h)) (fun q h => hA q (Nat.le_trans hS.1 h)) (fun u t H1 locs ht hvm hw hB hz1 hk1 hS => ?_)
  have hP := va_Pnew hP hk1
  clear hB hz1 hk1 hvm ht
  generalize H1 = H at hP hS ⊢
  refine lv_aload_n hx hb dX4_heat_24 rfl (lv_at hl 0 rfl) ?_
  refine va_get (D := (dC, dI)) (ci := 4) (v := .ref (ad 2)) (C := RX4) (T := TX4) (N := 14) hx hb hts iX4_heat_RX4 hown hK hP 0 heH_0 rfl 1 (by decide) (hts (.fieldLink RX4 17 "OverrunHouse" "mixes" "[LOverrunHouse$Mix;") (List.mem_cons_of_mem _ (List.mem_append_left _ (List.mem_append_left _ (List.mem_append_left _ (List.mem_append_left _ (List.mem_of_getElem? (i := 1) rfl))))))) (fun _ h9 => h9) rfl dX4_heat_25 ?_
  refine lv_iload_n hx hb dX4_heat_28 rfl (lv_at hl 1 rfl) ?_
  obtain ⟨h_7, hf⟩ := ck_out hf
  refine wr_aald (b := 13) (n := 5) hx hb hK hP 2 2 heH_2 rfl (inB_in h_7) dX4_heat_29 ?_
  refine lv_astore (lv' := [(4, .ref (ad (13 + (p1).toNatClampNeg))), (0, .ref (ad 0)), (1, .int p1), (2, .int p2), (3, .int p3)]) hx hb dX4_heat_30 hl (by decide) rfl (fun ls hl => ?_)
  refine lv_aload hx hb dX4_heat_32 (lv_at hl 0 rfl) ?_
  refine lv_aload hx hb dX4_heat_34 (lv_at hl 0 rfl) ?_
  refine va_getN (D := (dC, dI)) (ci := 2) (v := .int (I (13 + (p1).toNatClampNeg) 10)) (C := RX2) (T := TX2) (N := 12) hx hb hts iX4_heat_RX2 hown hK hP (13 + (p1).toNatClampNeg) (heH_Mix (inB_lt h_7)) rfl 10 (by decide) (va_Nw.use (w := .fieldLinkNest "OverrunHouse" 112 "OverrunHouse$Mix" "isProved" "Z" "OverrunHouse") rfl (hN _ (List.mem_of_getElem? (i := 17) rfl))) (fun _ h9 => h9) rfl dX4_heat_36 ?_
  refine lv_if_ne (tgt := 50) hx hb dX4_heat_39 (by decide) (fun c_8 => ?_) (fun c_8 => ?_)
  · have hf := it_f hf c_8
    refine lv_iconst (v := 1) hx hb dX4_heat_50 (by decide) ?_
    refine lv_goto (tgt := 55) hx hb dX4_heat_51 (by decide) ?_
    obtain ⟨I_9, eI_9, hf⟩ := nm_out hf
    refine va_putN (D := (dC, dI)) (ci := 2) (v := .int 1) (ty := .boolean) (C := RX2) (T := TX2) (N := 12) hx hb hts iX4_heat_RX2 tyX2 tyX2_ok nmX2 hown hK hP (hDD I D) hS (13 + (p1).toNatClampNeg) (heH_Mix (inB_lt h_7)) rfl 10 (by decide) (va_Nw.use (w := .fieldLinkNest "OverrunHouse" 112 "OverrunHouse$Mix" "isProved" "Z" "OverrunHouse") rfl (hN _ (List.mem_of_getElem? (i := 17) rfl))) (fun _ h9 => h9) rfl (by decide +kernel) rfl rfl (Nat.le_of_ble_eq_true rfl) dX4_heat_55 (fun H locs hP _ hS => ?_)
    have hP : va_P (dC, dI) vwCl (iwH ad cy I_9 D) H := by rw [eI_9]; exact hpI (by have := (inB_lt h_7); omega) ((cellH_Mix ad cy (inB_lt h_7) _ _).trans rfl) hP
    refine lv_aload hx hb dX4_heat_58 (lv_at hl 0 rfl) ?_
    refine lv_iconst (v := 0) hx hb dX4_heat_60 (by decide) ?_
    obtain ⟨I_10, eI_10, hf⟩ := nm_out hf
    refine va_putN (D := (dC, dI)) (ci := 2) (v := .int 0) (ty := .int) (C := RX2) (T := TX2) (N := 12) hx hb hts iX4_heat_RX2 tyX2 tyX2_ok nmX2 hown hK hP (hDD I_9 D) hS (13 + (p1).toNatClampNeg) (heH_Mix (inB_lt h_7)) rfl 8 (by decide) (va_Nw.use (w := .fieldLinkNest "OverrunHouse" 120 "OverrunHouse$Mix" "age" "I" "OverrunHouse") rfl (hN _ (List.mem_of_getElem? (i := 15) rfl))) (fun _ h9 => h9) rfl (by decide +kernel) rfl rfl (Nat.le_of_ble_eq_true rfl) dX4_heat_61 (fun H locs hP _ hS => ?_)
    have hP : va_P (dC, dI) vwCl (iwH ad cy I_10 D) H := by rw [eI_10]; exact hpI (by have := (inB_lt h_7); omega) ((cellH_Mix ad cy (inB_lt h_7) _ _).trans rfl) hP
    refine lv_aload hx hb dX4_heat_64 (lv_at hl 0 rfl) ?_
    refine va_getN (D := (dC, dI)) (ci := 2) (v := .int (I_10 (13 + (p1).toNatClampNeg) 10)) (C := RX2) (T := TX2) (N := 12) hx hb hts iX4_heat_RX2 hown hK hP (13 + (p1).toNatClampNeg) (heH_Mix (inB_lt h_7)) rfl 10 (by decide) (va_Nw.use (w := .fieldLinkNest "OverrunHouse" 112 "OverrunHouse$Mix" "isProved" "Z" "OverrunHouse") rfl (hN _ (List.mem_of_getElem? (i := 17) rfl))) (fun _ h9 => h9) rfl dX4_heat_66 ?_
    obtain ⟨h_11, hf⟩ := ck_out hf
    have hf := ok_in hf
    obtain ⟨q1, q2⟩ := Prod.mk.inj hf
    obtain ⟨q2, q3⟩ := Prod.mk.inj q2
    rw [q2, q3] at hP
    exact W.zret (ty := .boolean) (v := (I_10 (13 + (p1).toNatClampNeg) 10)) hx hb hr (isB_nar h_11) (fun t ht hW9 => ⟨⟨(I_10 (13 + (p1).toNatClampNeg) 10), (), rfl, q1.symm, hW.of hP hK hN ht hW9⟩, hS.F ht⟩) hS.2.2 dX4_heat_69
  · have hf := it_t hf c_8
    refine lv_iload_n hx hb dX4_heat_42 rfl (lv_at hl 3 rfl) ?_
    refine lv_iload_n hx hb dX4_heat_43 rfl (lv_at hl 4 rfl) ?_
    obtain ⟨r_12, g_13, hf⟩ := bd_out hf
    refine va_calli (va_runS (As := [.int p2, .int p3]) (rest := [.ref (ad (13 + (p1).toNatClampNeg))]) ⟨hx, hb, hml, hown, hts⟩ (mt_X4_proves l H.size p2 p3 r_12 g_13) (va_cwS 2 hts gX4_heat_X4_proves rfl rfl rfl (by decide +kernel) ⟨Nat.le_of_ble_eq_true rfl, Nat.le_of_ble_eq_true rfl⟩) (pre0 [.int p2, .int p3]) rfl rfl hl.1 rfl (lv_room (Nat.le_of_ble_eq_true rfl)) dX4_heat_44 ⟨Nat.le_of_ble_eq_true rfl, Nat.le_of_ble_eq_true rfl⟩) hS (fun q _ h => hA q (Nat.le_trans hS.1 h)) (fun q h => hA q (Nat.le_trans hS.1 h)) (fun r9 u t H1 locs ht hvm hw hB hz1 hk1 hS => ?_)
    subst hw
    have hP := va_Pnew hP hk1
    clear hB hz1 hk1 hvm ht
    generalize H1 = H at hP hS ⊢
    refine lv_if_eq (tgt := 54) hx hb dX4_heat_47 (by decide) (fun c_14 => ?_) (fun c_14 => ?_)
    · have hf := it_t hf c_14
      refine lv_iconst (v := 0) hx hb dX4_heat_54 (by decide) ?_
      obtain ⟨I_15, eI_15, hf⟩ := nm_out hf
      refine va_putN (D := (dC, dI)) (ci := 2) (v := .int 0) (ty := .boolean) (C := RX2) (T := TX2) (N := 12) hx hb hts iX4_heat_RX2 tyX2 tyX2_ok nmX2 hown hK hP (hDD I D) hS (13 + (p1).toNatClampNeg) (heH_Mix (inB_lt h_7)) rfl 10 (by decide) (va_Nw.use (w := .fieldLinkNest "OverrunHouse" 112 "OverrunHouse$Mix" "isProved" "Z" "OverrunHouse") rfl (hN _ (List.mem_of_getElem? (i := 17) rfl))) (fun _ h9 => h9) rfl (by decide +kernel) rfl rfl (Nat.le_of_ble_eq_true rfl) dX4_heat_55 (fun H locs hP _ hS => ?_)
      have hP : va_P (dC, dI) vwCl (iwH ad cy I_15 D) H := by rw [eI_15]; exact hpI (by have := (inB_lt h_7); omega) ((cellH_Mix ad cy (inB_lt h_7) _ _).trans rfl) hP
      refine lv_aload hx hb dX4_heat_58 (lv_at hl 0 rfl) ?_
      refine lv_iconst (v := 0) hx hb dX4_heat_60 (by decide) ?_
      obtain ⟨I_16, eI_16, hf⟩ := nm_out hf
      refine va_putN (D := (dC, dI)) (ci := 2) (v := .int 0) (ty := .int) (C := RX2) (T := TX2) (N := 12) hx hb hts iX4_heat_RX2 tyX2 tyX2_ok nmX2 hown hK hP (hDD I_15 D) hS (13 + (p1).toNatClampNeg) (heH_Mix (inB_lt h_7)) rfl 8 (by decide) (va_Nw.use (w := .fieldLinkNest "OverrunHouse" 120 "OverrunHouse$Mix" "age" "I" "OverrunHouse") rfl (hN _ (List.mem_of_getElem? (i := 15) rfl))) (fun _ h9 => h9) rfl (by decide +kernel) rfl rfl (Nat.le_of_ble_eq_true rfl) dX4_heat_61 (fun H locs hP _ hS => ?_)
      have hP : va_P (dC, dI) vwCl (iwH ad cy I_16 D) H := by rw [eI_16]; exact hpI (by have := (inB_lt h_7); omega) ((cellH_Mix ad cy (inB_lt h_7) _ _).trans rfl) hP
      refine lv_aload hx hb dX4_heat_64 (lv_at hl 0 rfl) ?_
      refine va_getN (D := (dC, dI)) (ci := 2) (v := .int (I_16 (13 + (p1).toNatClampNeg) 10)) (C := RX2) (T := TX2) (N := 12) hx hb hts iX4_heat_RX2 hown hK hP (13 + (p1).toNatClampNeg) (heH_Mix (inB_lt h_7)) rfl 10 (by decide) (va_Nw.use (w := .fieldLinkNest "OverrunHouse" 112 "OverrunHouse$Mix" "isProved" "Z" "OverrunHouse") rfl (hN _ (List.mem_of_getElem? (i := 17) rfl))) (fun _ h9 => h9) rfl dX4_heat_66 ?_
      obtain ⟨h_17, hf⟩ := ck_out hf
      have hf := ok_in hf
      obtain ⟨q1, q2⟩ := Prod.mk.inj hf
      obtain ⟨q2, q3⟩ := Prod.mk.inj q2
      rw [q2, q3] at hP
      exact W.zret (ty := .boolean) (v := (I_16 (13 + (p1).toNatClampNeg) 10)) hx hb hr (isB_nar h_17) (fun t ht hW9 => ⟨⟨(I_16 (13 + (p1).toNatClampNeg) 10), (), rfl, q1.symm, hW.of hP hK hN ht hW9⟩, hS.F ht⟩) hS.2.2 dX4_heat_69
    · have hf := it_f hf c_14
      refine lv_iconst (v := 1) hx hb dX4_heat_50 (by decide) ?_
      refine lv_goto (tgt := 55) hx hb dX4_heat_51 (by decide) ?_
      obtain ⟨I_18, eI_18, hf⟩ := nm_out hf
      refine va_putN (D := (dC, dI)) (ci := 2) (v := .int 1) (ty := .boolean) (C := RX2) (T := TX2) (N := 12) hx hb hts iX4_heat_RX2 tyX2 tyX2_ok nmX2 hown hK hP (hDD I D) hS (13 + (p1).toNatClampNeg) (heH_Mix (inB_lt h_7)) rfl 10 (by decide) (va_Nw.use (w := .fieldLinkNest "OverrunHouse" 112 "OverrunHouse$Mix" "isProved" "Z" "OverrunHouse") rfl (hN _ (List.mem_of_getElem? (i := 17) rfl))) (fun _ h9 => h9) rfl (by decide +kernel) rfl rfl (Nat.le_of_ble_eq_true rfl) dX4_heat_55 (fun H locs hP _ hS => ?_)
      have hP : va_P (dC, dI) vwCl (iwH ad cy I_18 D) H := by rw [eI_18]; exact hpI (by have := (inB_lt h_7); omega) ((cellH_Mix ad cy (inB_lt h_7) _ _).trans rfl) hP
      refine lv_aload hx hb dX4_heat_58 (lv_at hl 0 rfl) ?_
      refine lv_iconst (v := 0) hx hb dX4_heat_60 (by decide) ?_
      obtain ⟨I_19, eI_19, hf⟩ := nm_out hf
      refine va_putN (D := (dC, dI)) (ci := 2) (v := .int 0) (ty := .int) (C := RX2) (T := TX2) (N := 12) hx hb hts iX4_heat_RX2 tyX2 tyX2_ok nmX2 hown hK hP (hDD I_18 D) hS (13 + (p1).toNatClampNeg) (heH_Mix (inB_lt h_7)) rfl 8 (by decide) (va_Nw.use (w := .fieldLinkNest "OverrunHouse" 120 "OverrunHouse$Mix" "age" "I" "OverrunHouse") rfl (hN _ (List.mem_of_getElem? (i := 15) rfl))) (fun _ h9 => h9) rfl (by decide +kernel) rfl rfl (Nat.le_of_ble_eq_true rfl) dX4_heat_61 (fun H locs hP _ hS => ?_)
      have hP : va_P (dC, dI) vwCl (iwH ad cy I_19 D) H := by rw [eI_19]; exact hpI (by have := (inB_lt h_7); omega) ((cellH_Mix ad cy (inB_lt h_7) _ _).trans rfl) hP
      refine lv_aload hx hb dX4_heat_64 (lv_at hl 0 rfl) ?_
      refine va_getN (D := (dC, dI)) (ci := 2) (v := .int (I_19 (13 + (p1).toNatClampNeg) 10)) (C := RX2) (T := TX2) (N := 12) hx hb hts iX4_heat_RX2 hown hK hP (13 + (p1).toNatClampNeg) (heH_Mix (inB_lt h_7)) rfl 10 (by decide) (va_Nw.use (w := .fieldLinkNest "OverrunHouse" 112 "OverrunHouse$Mix" "isProved" "Z" "OverrunHouse") rfl (hN _ (List.mem_of_getElem? (i := 17) rfl))) (fun _ h9 => h9) rfl dX4_heat_66 ?_
      obtain ⟨h_20, hf⟩ := ck_out hf
      have hf := ok_in hf
      obtain ⟨q1, q2⟩ := Prod.mk.inj hf
      obtain ⟨q2, q3⟩ := Prod.mk.inj q2
      rw [q2, q3] at hP
      exact W.zret (ty := .boolean) (v := (I_19 (13 + (p1).toNatClampNeg) 10)) hx hb hr (isB_nar h_20) (fun t ht hW9 => ⟨⟨(I_19 (13 + (p1).toNatClampNeg) 10), (), rfl, q1.symm, hW.of hP hK hN ht hW9⟩, hS.F ht⟩) hS.2.2 dX4_heat_69

def f_X4_bars (I : Nat → Nat → Int32) (D : Nat → Nat → UInt64) (p1 : Int32) (p2 : Int32) (p3 : Int32) (p4 : Int32) : Option (Except String (Int32)) :=
  bE (f_X4_checkNumber p1 2) (fun _ => bE (f_X4_checkNumber p2 (I 0 6)) (fun _ => bE (f_X4_checkRange p3 5 500) (fun _ => bE (f_X4_checkRange p4 20 140) (fun _ => ck (inB p2 5) ((if (I (13 + (p2).toNatClampNeg) 10) = 0 then some (Except.ok 1) else (if 4 ≤ (I (13 + (p2).toNatClampNeg) 8) then (if (I (13 + (p2).toNatClampNeg) 8) ≤ 72 then (if p3 ≤ (I (13 + (p2).toNatClampNeg) 1) then ck (inB p1 2) ((if ((I 5 (p1).toNatClampNeg) &&& ((I (13 + (p2).toNatClampNeg) 6) ^^^ (-1))) = 0 then (if p4 ≤ 100 then (if (I 0 7) < 12 then some (Except.ok 0) else some (Except.ok 7)) else bd (f_X2_isCream I D (p2).toNatClampNeg) (fun r_18 => (if r_18 = 0 then (if (I 0 7) < 12 then some (Except.ok 0) else some (Except.ok 7)) else some (Except.ok 6)))) else some (Except.ok 5))) else some (Except.ok 4)) else some (Except.ok 3)) else some (Except.ok 2))))))))
theorem iX4_bars_RX4 : ∀ w ∈ u_ws RX4 TX4 14, w ∈ wsX4_bars := fun w h => List.mem_cons_of_mem _ (List.mem_append_left _ (List.mem_append_left _ (List.mem_append_left _ (List.mem_append_right _ (h)))))
theorem iX4_bars_RX2 : ∀ w ∈ u_ws RX2 TX2 12, w ∈ wsX4_bars := fun w h => List.mem_cons_of_mem _ (List.mem_append_left _ (List.mem_append_left _ (List.mem_append_right _ (h))))
set_option maxHeartbeats 4000000 in
set_option maxRecDepth 100000 in
theorem mt_X4_bars (l : Launch) (dC : Nat → ClassId) (dI : Nat → Nat → Nat) (ad : Nat → Nat) (cy : Nat → ClassId) (hJ : J33 ad) (sz : Nat) (I : Nat → Nat → Int32) (D : Nat → Nat → UInt64) (p1 : Int32) (p2 : Int32) (p3 : Int32) (p4 : Int32) (rr : Int32) (hf : f_X4_bars I D p1 p2 p3 p4 = some (Except.ok rr)) : Met l yX4_bars wsX4_bars ({ frames := 2, cells := 0, slots := 0, locals := 41 }) (va_Pc [.ref (ad 0), .int p1, .int p2, .int p3, .int p4] (fun U => U.heap.size = sz ∧ hW dC dI ad cy I D U)) (va_Qi (fun r (_ : Unit) => rr = r) (fun _ _ => True) (fun q => sz ≤ q)) 0 0 (fun q => sz ≤ q) := by
  refine Met.ofW (cc := cX4_bars) (maxL := 6) (ret := (some .int)) (by decide) rfl ?_
  intro p e s m args below meth c s₁ B hml hv
  obtain ⟨rfl, hsz, hP, hK, hN⟩ := hv
  have hx := B.exec
  have hb := B.bytes
  have hr := B.returns
  have hts := atoms_spec (ws := wsX4_bars) B.pre
  have hown : s.vm.findClass RX4 = some m.cls := findClass_of_methodNamed B.named
  have hlocks := B.notSynchronized
  subst hsz
  generalize hAe : (fun q : Nat => s.heap.size ≤ q) = A
  have hA : ∀ q : Nat, s.heap.size ≤ q → A q := fun q h => by rw [← hAe]; exact h
  obtain ⟨H, hH⟩ : ∃ H : Heap, H = s.heap := ⟨_, rfl⟩
  have hS : va_S A s.heap H [] := by rw [hH]; exact va_S.rf
  rw [← hH]
  rw [← hH] at hP
  have hl := lv_entry ([.ref (ad 0), .int p1, .int p2, .int p3, .int p4]) (n := 6) (Nat.le_of_ble_eq_true rfl)
  rw [lg_entry_eq]
  generalize (lg_sl ([.ref (ad 0), .int p1, .int p2, .int p3, .int p4]) ++ List.replicate (6 - (lg_sl ([.ref (ad 0), .int p1, .int p2, .int p3, .int p4])).length) Slot.unset).toArray = ls at hl ⊢
  have hl : lv_has ls 6 [(0, .ref (ad 0)), (1, .int p1), (2, .int p2), (3, .int p3), (4, .int p4)] := hl
  unfold f_X4_bars at hf
  refine lv_iload_n hx hb dX4_bars_0 rfl (lv_at hl 1 rfl) ?_
  refine lv_iconst (v := 2) hx hb dX4_bars_1 (by decide) ?_
  obtain ⟨_, g_2, hf⟩ := bE_ok hf
  refine va_callv (va_runS (As := [.int p1, .int 2]) (rest := []) ⟨hx, hb, hml, hown, hts⟩ (mt_X4_checkNumber l H.size p1 2  g_2) (va_cwS 2 hts gX4_bars_X4_checkNumber rfl rfl rfl (by decide +kernel) ⟨Nat.le_of_ble_eq_true rfl, Nat.le_of_ble_eq_true rfl⟩) (pre0 [.int p1, .int 2]) rfl rfl hl.1 rfl (lv_room (Nat.le_of_ble_eq_true rfl)) dX4_bars_2 ⟨Nat.le_of_ble_eq_true rfl, Nat.le_of_ble_eq_true rfl⟩) hS (fun q _ h => hA q (Nat.le_trans hS.1 h)) (fun q h => hA q (Nat.le_trans hS.1 h)) (fun u t H1 locs ht hvm hw hB hz1 hk1 hS => ?_)
  have hP := va_Pnew hP hk1
  clear hB hz1 hk1 hvm ht
  generalize H1 = H at hP hS ⊢
  refine lv_iload_n hx hb dX4_bars_5 rfl (lv_at hl 2 rfl) ?_
  refine lv_aload_n hx hb dX4_bars_6 rfl (lv_at hl 0 rfl) ?_
  refine va_get (D := (dC, dI)) (ci := 4) (v := .int (I 0 6)) (C := RX4) (T := TX4) (N := 14) hx hb hts iX4_bars_RX4 hown hK hP 0 heH_0 rfl 6 (by decide) (hts (.fieldLink RX4 41 "OverrunHouse" "mixCount" "I") (List.mem_cons_of_mem _ (List.mem_append_left _ (List.mem_append_left _ (List.mem_append_left _ (List.mem_append_left _ (List.mem_append_left _ (List.mem_of_getElem? (i := 0) rfl)))))))) (fun _ h9 => h9) rfl dX4_bars_7 ?_
  obtain ⟨_, g_4, hf⟩ := bE_ok hf
  refine va_callv (va_runS (As := [.int p2, .int (I 0 6)]) (rest := []) ⟨hx, hb, hml, hown, hts⟩ (mt_X4_checkNumber l H.size p2 (I 0 6)  g_4) (va_cwS 2 hts gX4_bars_X4_checkNumber rfl rfl rfl (by decide +kernel) ⟨Nat.le_of_ble_eq_true rfl, Nat.le_of_ble_eq_true rfl⟩) (pre0 [.int p2, .int (I 0 6)]) rfl rfl hl.1 rfl (lv_room (Nat.le_of_ble_eq_true rfl)) dX4_bars_10 ⟨Nat.le_of_ble_eq_true rfl, Nat.le_of_ble_eq_true rfl⟩) hS (fun q _ h => hA q (Nat.le_trans hS.1 h)) (fun q h => hA q (Nat.le_trans hS.1 h)) (fun u t H1 locs ht hvm hw hB hz1 hk1 hS => ?_)
  have hP := va_Pnew hP hk1
  clear hB hz1 hk1 hvm ht
  generalize H1 = H at hP hS ⊢
  refine lv_iload_n hx hb dX4_bars_13 rfl (lv_at hl 3 rfl) ?_
  refine lv_iconst (v := 5) hx hb dX4_bars_14 (by decide) ?_
  refine lv_sipush (v := 500) hx hb dX4_bars_15 (by decide) ?_
  obtain ⟨_, g_6, hf⟩ := bE_ok hf
  refine va_callv (va_runS (As := [.int p3, .int 5, .int 500]) (rest := []) ⟨hx, hb, hml, hown, hts⟩ (mt_X4_checkRange l H.size p3 5 500  g_6) (va_cwS 3 hts gX4_bars_X4_checkRange rfl rfl rfl (by decide +kernel) ⟨Nat.le_of_ble_eq_true rfl, Nat.le_of_ble_eq_true rfl⟩) (pre0 [.int p3, .int 5, .int 500]) rfl rfl hl.1 rfl (lv_room (Nat.le_of_ble_eq_true rfl)) dX4_bars_18 ⟨Nat.le_of_ble_eq_true rfl, Nat.le_of_ble_eq_true rfl⟩) hS (fun q _ h => hA q (Nat.le_trans hS.1 h)) (fun q h => hA q (Nat.le_trans hS.1 h)) (fun u t H1 locs ht hvm hw hB hz1 hk1 hS => ?_)
  have hP := va_Pnew hP hk1
  clear hB hz1 hk1 hvm ht
  generalize H1 = H at hP hS ⊢
  refine lv_iload hx hb dX4_bars_21 (lv_at hl 4 rfl) ?_
  refine lv_bipush (v := 20) hx hb dX4_bars_23 (by decide) ?_
  refine lv_sipush (v := 140) hx hb dX4_bars_25 (by decide) ?_
  obtain ⟨_, g_8, hf⟩ := bE_ok hf
  refine va_callv (va_runS (As := [.int p4, .int 20, .int 140]) (rest := []) ⟨hx, hb, hml, hown, hts⟩ (mt_X4_checkRange l H.size p4 20 140  g_8) (va_cwS 3 hts gX4_bars_X4_checkRange rfl rfl rfl (by decide +kernel) ⟨Nat.le_of_ble_eq_true rfl, Nat.le_of_ble_eq_true rfl⟩) (pre0 [.int p4, .int 20, .int 140]) rfl rfl hl.1 rfl (lv_room (Nat.le_of_ble_eq_true rfl)) dX4_bars_28 ⟨Nat.le_of_ble_eq_true rfl, Nat.le_of_ble_eq_true rfl⟩) hS (fun q _ h => hA q (Nat.le_trans hS.1 h)) (fun q h => hA q (Nat.le_trans hS.1 h)) (fun u t H1 locs ht hvm hw hB hz1 hk1 hS => ?_)
  have hP := va_Pnew hP hk1
  clear hB hz1 hk1 hvm ht
  generalize H1 = H at hP hS ⊢
  refine lv_aload_n hx hb dX4_bars_31 rfl (lv_at hl 0 rfl) ?_
  refine va_get (D := (dC, dI)) (ci := 4) (v := .ref (ad 2)) (C := RX4) (T := TX4) (N := 14) hx hb hts iX4_bars_RX4 hown hK hP 0 heH_0 rfl 1 (by decide) (hts (.fieldLink RX4 17 "OverrunHouse" "mixes" "[LOverrunHouse$Mix;") (List.mem_cons_of_mem _ (List.mem_append_left _ (List.mem_append_left _ (List.mem_append_left _ (List.mem_append_left _ (List.mem_append_left _ (List.mem_of_getElem? (i := 1) rfl)))))))) (fun _ h9 => h9) rfl dX4_bars_32 ?_
  refine lv_iload_n hx hb dX4_bars_35 rfl (lv_at hl 2 rfl) ?_
  obtain ⟨h_9, hf⟩ := ck_out hf
  refine wr_aald (b := 13) (n := 5) hx hb hK hP 2 2 heH_2 rfl (inB_in h_9) dX4_bars_36 ?_
  refine lv_astore (lv' := [(5, .ref (ad (13 + (p2).toNatClampNeg))), (0, .ref (ad 0)), (1, .int p1), (2, .int p2), (3, .int p3), (4, .int p4)]) hx hb dX4_bars_37 hl (by decide) rfl (fun ls hl => ?_)
  refine lv_aload hx hb dX4_bars_39 (lv_at hl 0 rfl) ?_
  refine va_getN (D := (dC, dI)) (ci := 2) (v := .int (I (13 + (p2).toNatClampNeg) 10)) (C := RX2) (T := TX2) (N := 12) hx hb hts iX4_bars_RX2 hown hK hP (13 + (p2).toNatClampNeg) (heH_Mix (inB_lt h_9)) rfl 10 (by decide) (va_Nw.use (w := .fieldLinkNest "OverrunHouse" 112 "OverrunHouse$Mix" "isProved" "Z" "OverrunHouse") rfl (hN _ (List.mem_of_getElem? (i := 17) rfl))) (fun _ h9 => h9) rfl dX4_bars_41 ?_
  refine lv_if_ne (tgt := 49) hx hb dX4_bars_44 (by decide) (fun c_10 => ?_) (fun c_10 => ?_)
  · have hf := it_f hf c_10
    refine lv_aload hx hb dX4_bars_49 (lv_at hl 0 rfl) ?_
    refine va_getN (D := (dC, dI)) (ci := 2) (v := .int (I (13 + (p2).toNatClampNeg) 8)) (C := RX2) (T := TX2) (N := 12) hx hb hts iX4_bars_RX2 hown hK hP (13 + (p2).toNatClampNeg) (heH_Mix (inB_lt h_9)) rfl 8 (by decide) (va_Nw.use (w := .fieldLinkNest "OverrunHouse" 120 "OverrunHouse$Mix" "age" "I" "OverrunHouse") rfl (hN _ (List.mem_of_getElem? (i := 15) rfl))) (fun _ h9 => h9) rfl dX4_bars_51 ?_
    refine lv_iconst (v := 4) hx hb dX4_bars_54 (by decide) ?_
    refine lv_icmp_ge (tgt := 60) hx hb dX4_bars_55 (by decide) (fun c_11 => ?_) (fun c_11 => ?_)
    · have hf := it_t hf c_11
      refine lv_aload hx hb dX4_bars_60 (lv_at hl 0 rfl) ?_
      refine va_getN (D := (dC, dI)) (ci := 2) (v := .int (I (13 + (p2).toNatClampNeg) 8)) (C := RX2) (T := TX2) (N := 12) hx hb hts iX4_bars_RX2 hown hK hP (13 + (p2).toNatClampNeg) (heH_Mix (inB_lt h_9)) rfl 8 (by decide) (va_Nw.use (w := .fieldLinkNest "OverrunHouse" 120 "OverrunHouse$Mix" "age" "I" "OverrunHouse") rfl (hN _ (List.mem_of_getElem? (i := 15) rfl))) (fun _ h9 => h9) rfl dX4_bars_62 ?_
      refine lv_bipush (v := 72) hx hb dX4_bars_65 (by decide) ?_
      refine lv_icmp_le (tgt := 72) hx hb dX4_bars_67 (by decide) (fun c_12 => ?_) (fun c_12 => ?_)
      · have hf := it_t hf c_12
        refine lv_aload hx hb dX4_bars_72 (lv_at hl 0 rfl) ?_
        refine va_getN (D := (dC, dI)) (ci := 2) (v := .int (I (13 + (p2).toNatClampNeg) 1)) (C := RX2) (T := TX2) (N := 12) hx hb hts iX4_bars_RX2 hown hK hP (13 + (p2).toNatClampNeg) (heH_Mix (inB_lt h_9)) rfl 1 (by decide) (va_Nw.use (w := .fieldLinkNest "OverrunHouse" 127 "OverrunHouse$Mix" "left" "I" "OverrunHouse") rfl (hN _ (List.mem_of_getElem? (i := 11) rfl))) (fun _ h9 => h9) rfl dX4_bars_74 ?_
        refine lv_iload_n hx hb dX4_bars_77 rfl (lv_at hl 4 rfl) ?_
        refine lv_icmp_ge (tgt := 83) hx hb dX4_bars_78 (by decide) (fun c_13 => ?_) (fun c_13 => ?_)
        · have hf := it_t hf c_13
          refine lv_aload_n hx hb dX4_bars_83 rfl (lv_at hl 1 rfl) ?_
          refine va_get (D := (dC, dI)) (ci := 4) (v := .ref (ad 5)) (C := RX4) (T := TX4) (N := 14) hx hb hts iX4_bars_RX4 hown hK hP 0 heH_0 rfl 4 (by decide) (hts (.fieldLink RX4 33 "OverrunHouse" "rests" "[I") (List.mem_cons_of_mem _ (List.mem_append_left _ (List.mem_append_left _ (List.mem_append_left _ (List.mem_append_left _ (List.mem_append_left _ (List.mem_of_getElem? (i := 2) rfl)))))))) (fun _ h9 => h9) rfl dX4_bars_84 ?_
          refine lv_iload_n hx hb dX4_bars_87 rfl (lv_at hl 2 rfl) ?_
          obtain ⟨h_14, hf⟩ := ck_out hf
          refine va_iald (n := 2) (f := I 5) hx hb hK hP 5 0 heH_5 rfl (inB_in h_14) dX4_bars_88 ?_
          refine lv_aload hx hb dX4_bars_89 (lv_at hl 0 rfl) ?_
          refine va_getN (D := (dC, dI)) (ci := 2) (v := .int (I (13 + (p2).toNatClampNeg) 6)) (C := RX2) (T := TX2) (N := 12) hx hb hts iX4_bars_RX2 hown hK hP (13 + (p2).toNatClampNeg) (heH_Mix (inB_lt h_9)) rfl 6 (by decide) (va_Nw.use (w := .fieldLinkNest "OverrunHouse" 130 "OverrunHouse$Mix" "harms" "I" "OverrunHouse") rfl (hN _ (List.mem_of_getElem? (i := 13) rfl))) (fun _ h9 => h9) rfl dX4_bars_91 ?_
          refine lv_iconst (v := (-1)) hx hb dX4_bars_94 (by decide) ?_
          refine lv_ixor hx hb dX4_bars_95 ?_
          refine lv_iand hx hb dX4_bars_96 ?_
          refine lv_if_eq (tgt := 102) hx hb dX4_bars_97 (by decide) (fun c_15 => ?_) (fun c_15 => ?_)
          · have hf := it_t hf c_15
            refine lv_iload hx hb dX4_bars_102 (lv_at hl 5 rfl) ?_
            refine lv_bipush (v := 100) hx hb dX4_bars_104 (by decide) ?_
            refine lv_icmp_le (tgt := 120) hx hb dX4_bars_106 (by decide) (fun c_16 => ?_) (fun c_16 => ?_)
            · have hf := it_t hf c_16
              refine lv_aload_n hx hb dX4_bars_120 rfl (lv_at hl 1 rfl) ?_
              refine va_get (D := (dC, dI)) (ci := 4) (v := .int (I 0 7)) (C := RX4) (T := TX4) (N := 14) hx hb hts iX4_bars_RX4 hown hK hP 0 heH_0 rfl 7 (by decide) (hts (.fieldLink RX4 44 "OverrunHouse" "batchCount" "I") (List.mem_cons_of_mem _ (List.mem_append_left _ (List.mem_append_left _ (List.mem_append_left _ (List.mem_append_left _ (List.mem_append_left _ (List.mem_of_getElem? (i := 3) rfl)))))))) (fun _ h9 => h9) rfl dX4_bars_121 ?_
              refine lv_bipush (v := 12) hx hb dX4_bars_124 (by decide) ?_
              refine lv_icmp_lt (tgt := 134) hx hb dX4_bars_126 (by decide) (fun c_17 => ?_) (fun c_17 => ?_)
              · have hf := it_t hf c_17
                refine lv_iconst (v := 0) hx hb dX4_bars_134 (by decide) ?_
                have hf := ok_in hf
                have q1 := hf
                exact W.iret (v := 0) hx hb hr (fun t ht hW9 => ⟨⟨0, (), rfl, q1.symm, trivial⟩, hS.F ht⟩) hS.2.2 dX4_bars_135
              · have hf := it_f hf c_17
                refine lv_bipush (v := 7) hx hb dX4_bars_129 (by decide) ?_
                refine lv_goto (tgt := 135) hx hb dX4_bars_131 (by decide) ?_
                have hf := ok_in hf
                have q1 := hf
                exact W.iret (v := 7) hx hb hr (fun t ht hW9 => ⟨⟨7, (), rfl, q1.symm, trivial⟩, hS.F ht⟩) hS.2.2 dX4_bars_135
            · have hf := it_f hf c_16
              refine lv_aload hx hb dX4_bars_109 (lv_at hl 0 rfl) ?_
              obtain ⟨r_18, g_19, hf⟩ := bd_out hf
              refine va_calli (va_runVN (As := []) (rest := []) ⟨hx, hb, hml, hown, hts⟩ (mt_X2_isCream l dC dI ad cy hJ H.size I D (p2).toNatClampNeg (inB_lt h_9) r_18 g_19) ⟨va_cnB 0 hts gX4_bars_X2_isCream_n213 rfl rfl rfl (hN (.methodLinkNest "OverrunHouse" 213 ⟨"OverrunHouse$Mix", "isCream", "()Z"⟩ "OverrunHouse") (List.mem_of_getElem? (i := 28) rfl)) (hts (.initialized RX2) (List.mem_cons_of_mem _ (List.mem_append_left _ (List.mem_append_left _ (List.mem_append_left _ (List.mem_append_left _ (List.mem_append_left _ (List.mem_of_getElem? (i := 16) rfl)))))))) (by decide +kernel) ⟨Nat.le_of_ble_eq_true rfl, Nat.le_of_ble_eq_true rfl⟩, (hts (.instanceMethod yX2_isCream) (List.mem_cons_of_mem _ (List.mem_append_left _ (List.mem_append_left _ (List.mem_append_left _ (List.mem_append_left _ (List.mem_append_left _ (List.mem_of_getElem? (i := 15) rfl)))))))), (hts (.selects RX2 yX2_isCream yX2_isCream) (List.mem_cons_of_mem _ (List.mem_append_left _ (List.mem_append_left _ (List.mem_append_left _ (List.mem_append_left _ (List.mem_append_left _ (List.mem_of_getElem? (i := 17) rfl))))))))⟩ ⟨(hW.pre [.ref (ad (13 + (p2).toNatClampNeg))] hP hK hN).1, hW.recv (C := RX2) (T := TX2) (N := 12) hP hK (heH_Mix (inB_lt h_9)) rfl, (hW.pre [.ref (ad (13 + (p2).toNatClampNeg))] hP hK hN).2⟩ rfl rfl hl.1 rfl (lv_room (Nat.le_of_ble_eq_true rfl)) dX4_bars_111 ⟨Nat.le_of_ble_eq_true rfl, Nat.le_of_ble_eq_true rfl⟩) hS (fun q _ h => hA q (Nat.le_trans hS.1 h)) (fun q h => hA q (Nat.le_trans hS.1 h)) (fun r9 u t H1 locs ht hvm hw hB hz1 hk1 hS => ?_)
              subst hw
              have hP := va_Pnew hP hk1
              clear hB hz1 hk1 hvm ht
              generalize H1 = H at hP hS ⊢
              refine lv_if_eq (tgt := 120) hx hb dX4_bars_114 (by decide) (fun c_20 => ?_) (fun c_20 => ?_)
              · have hf := it_t hf c_20
                refine lv_aload_n hx hb dX4_bars_120 rfl (lv_at hl 1 rfl) ?_
                refine va_get (D := (dC, dI)) (ci := 4) (v := .int (I 0 7)) (C := RX4) (T := TX4) (N := 14) hx hb hts iX4_bars_RX4 hown hK hP 0 heH_0 rfl 7 (by decide) (hts (.fieldLink RX4 44 "OverrunHouse" "batchCount" "I") (List.mem_cons_of_mem _ (List.mem_append_left _ (List.mem_append_left _ (List.mem_append_left _ (List.mem_append_left _ (List.mem_append_left _ (List.mem_of_getElem? (i := 3) rfl)))))))) (fun _ h9 => h9) rfl dX4_bars_121 ?_
                refine lv_bipush (v := 12) hx hb dX4_bars_124 (by decide) ?_
                refine lv_icmp_lt (tgt := 134) hx hb dX4_bars_126 (by decide) (fun c_21 => ?_) (fun c_21 => ?_)
                · have hf := it_t hf c_21
                  refine lv_iconst (v := 0) hx hb dX4_bars_134 (by decide) ?_
                  have hf := ok_in hf
                  have q1 := hf
                  exact W.iret (v := 0) hx hb hr (fun t ht hW9 => ⟨⟨0, (), rfl, q1.symm, trivial⟩, hS.F ht⟩) hS.2.2 dX4_bars_135
                · have hf := it_f hf c_21
                  refine lv_bipush (v := 7) hx hb dX4_bars_129 (by decide) ?_
                  refine lv_goto (tgt := 135) hx hb dX4_bars_131 (by decide) ?_
                  have hf := ok_in hf
                  have q1 := hf
                  exact W.iret (v := 7) hx hb hr (fun t ht hW9 => ⟨⟨7, (), rfl, q1.symm, trivial⟩, hS.F ht⟩) hS.2.2 dX4_bars_135
              · have hf := it_f hf c_20
                refine lv_bipush (v := 6) hx hb dX4_bars_117 (by decide) ?_
                have hf := ok_in hf
                have q1 := hf
                exact W.iret (v := 6) hx hb hr (fun t ht hW9 => ⟨⟨6, (), rfl, q1.symm, trivial⟩, hS.F ht⟩) hS.2.2 dX4_bars_119
          · have hf := it_f hf c_15
            refine lv_iconst (v := 5) hx hb dX4_bars_100 (by decide) ?_
            have hf := ok_in hf
            have q1 := hf
            exact W.iret (v := 5) hx hb hr (fun t ht hW9 => ⟨⟨5, (), rfl, q1.symm, trivial⟩, hS.F ht⟩) hS.2.2 dX4_bars_101
        · have hf := it_f hf c_13
          refine lv_iconst (v := 4) hx hb dX4_bars_81 (by decide) ?_
          have hf := ok_in hf
          have q1 := hf
          exact W.iret (v := 4) hx hb hr (fun t ht hW9 => ⟨⟨4, (), rfl, q1.symm, trivial⟩, hS.F ht⟩) hS.2.2 dX4_bars_82
      · have hf := it_f hf c_12
        refine lv_iconst (v := 3) hx hb dX4_bars_70 (by decide) ?_
        have hf := ok_in hf
        have q1 := hf
        exact W.iret (v := 3) hx hb hr (fun t ht hW9 => ⟨⟨3, (), rfl, q1.symm, trivial⟩, hS.F ht⟩) hS.2.2 dX4_bars_71
    · have hf := it_f hf c_11
      refine lv_iconst (v := 2) hx hb dX4_bars_58 (by decide) ?_
      have hf := ok_in hf
      have q1 := hf
      exact W.iret (v := 2) hx hb hr (fun t ht hW9 => ⟨⟨2, (), rfl, q1.symm, trivial⟩, hS.F ht⟩) hS.2.2 dX4_bars_59
  · have hf := it_t hf c_10
    refine lv_iconst (v := 1) hx hb dX4_bars_47 (by decide) ?_
    have hf := ok_in hf
    have q1 := hf
    exact W.iret (v := 1) hx hb hr (fun t ht hW9 => ⟨⟨1, (), rfl, q1.symm, trivial⟩, hS.F ht⟩) hS.2.2 dX4_bars_48

def f_X4_run (I : Nat → Nat → Int32) (D : Nat → Nat → UInt64) (p1 : Int32) (p2 : Int32) (p3 : Int32) (p4 : Int32) : Option (Except String (Int32 × (Nat → Nat → Int32) × (Nat → Nat → UInt64))) :=
  bE (f_X4_bars I D p1 p2 p3 p4) (fun r_1 => (if r_1 = 0 then ck (inB p2 5) (nm (up2 I (13 + (p2).toNatClampNeg) 1 ((I (13 + (p2).toNatClampNeg) 1) - p3)) (fun I_5 => nm (up2 I_5 (13 + (p2).toNatClampNeg) 9 ((I_5 (13 + (p2).toNatClampNeg) 9) + 1)) (fun I_6 => ck (inB p1 2) (nm (up2 I_6 5 (p1).toNatClampNeg (I_6 (13 + (p2).toNatClampNeg) 6)) (fun I_8 => ck (inB (I_8 0 7) 12) (nm (up2 I_8 (18 + ((I_8 0 7)).toNatClampNeg) 0 p2) (fun I_10 => nm (up2 I_10 (18 + ((I_8 0 7)).toNatClampNeg) 1 (((p3 - 2) * (100 + p4)) / 100)) (fun I_11 => nm (up2 D (18 + ((I_8 0 7)).toNatClampNeg) 4 (4626322717216342016 : UInt64)) (fun D_12 => nm (up2 I_11 0 7 ((I_11 0 7) + 1)) (fun I_13 => some (Except.ok (((I_13 0 7) - 1), I_13, D_12)))))))))))) else some (Except.ok (((-10) - r_1), I, D))))
theorem iX4_run_RX0 : ∀ w ∈ u_ws RX0 TX0 5, w ∈ wsX4_run := fun w h => List.mem_cons_of_mem _ (List.mem_append_left _ (List.mem_append_left _ (List.mem_append_right _ (h))))
theorem iX4_run_RX4 : ∀ w ∈ u_ws RX4 TX4 14, w ∈ wsX4_run := fun w h => List.mem_cons_of_mem _ (List.mem_append_left _ (List.mem_append_left _ (List.mem_append_left _ (List.mem_append_left _ (List.mem_append_right _ (h))))))
theorem iX4_run_RX2 : ∀ w ∈ u_ws RX2 TX2 12, w ∈ wsX4_run := fun w h => List.mem_cons_of_mem _ (List.mem_append_left _ (List.mem_append_left _ (List.mem_append_left _ (List.mem_append_right _ (h)))))
set_option maxHeartbeats 4000000 in
set_option maxRecDepth 100000 in
theorem mt_X4_run (l : Launch) (dC : Nat → ClassId) (dI : Nat → Nat → Nat) (ad : Nat → Nat) (cy : Nat → ClassId) (hJ : J33 ad) (sz : Nat) (I : Nat → Nat → Int32) (D : Nat → Nat → UInt64) (p1 : Int32) (p2 : Int32) (p3 : Int32) (p4 : Int32) (rr : Int32) (I9 : Nat → Nat → Int32) (D9 : Nat → Nat → UInt64) (hf : f_X4_run I D p1 p2 p3 p4 = some (Except.ok (rr, I9, D9))) : Met l yX4_run wsX4_run ({ frames := 3, cells := 0, slots := 0, locals := 66 }) (va_Pc [.ref (ad 0), .int p1, .int p2, .int p3, .int p4] (fun U => U.heap.size = sz ∧ hW dC dI ad cy I D U)) (va_Qi (fun r (_ : Unit) => rr = r) (fun _ t => hW dC dI ad cy I9 D9 t) (AW ad sz)) 0 0 (AW ad sz) := by
  refine Met.ofW (cc := cX4_run) (maxL := 8) (ret := (some .int)) (by decide) rfl ?_
  intro p e s m args below meth c s₁ B hml hv
  obtain ⟨rfl, hsz, hP, hK, hN⟩ := hv
  have hx := B.exec
  have hb := B.bytes
  have hr := B.returns
  have hts := atoms_spec (ws := wsX4_run) B.pre
  have hown : s.vm.findClass RX4 = some m.cls := findClass_of_methodNamed B.named
  have hlocks := B.notSynchronized
  subst hsz
  generalize hAe : AW ad s.heap.size = A
  have hA : ∀ q : Nat, s.heap.size ≤ q → A q := fun q h => by rw [← hAe]; exact Or.inr h
  have hA33 : ∀ k, k < 33 → A (ad k) := fun k h => by rw [← hAe]; exact Or.inl ⟨k, h, rfl⟩
  have hDD : ∀ I D, va_D A (iwH ad cy I D) := fun I D => iwH_D hJ hA33 I D
  obtain ⟨H, hH⟩ : ∃ H : Heap, H = s.heap := ⟨_, rfl⟩
  have hS : va_S A s.heap H [] := by rw [hH]; exact va_S.rf
  rw [← hH]
  rw [← hH] at hP
  have hl := lv_entry ([.ref (ad 0), .int p1, .int p2, .int p3, .int p4]) (n := 8) (Nat.le_of_ble_eq_true rfl)
  rw [lg_entry_eq]
  generalize (lg_sl ([.ref (ad 0), .int p1, .int p2, .int p3, .int p4]) ++ List.replicate (8 - (lg_sl ([.ref (ad 0), .int p1, .int p2, .int p3, .int p4])).length) Slot.unset).toArray = ls at hl ⊢
  have hl : lv_has ls 8 [(0, .ref (ad 0)), (1, .int p1), (2, .int p2), (3, .int p3), (4, .int p4)] := hl
  unfold f_X4_run at hf
  refine lv_aload_n hx hb dX4_run_0 rfl (lv_at hl 0 rfl) ?_
  refine lv_iload_n hx hb dX4_run_1 rfl (lv_at hl 1 rfl) ?_
  refine lv_iload_n hx hb dX4_run_2 rfl (lv_at hl 2 rfl) ?_
  refine lv_iload_n hx hb dX4_run_3 rfl (lv_at hl 3 rfl) ?_
  refine lv_iload hx hb dX4_run_4 (lv_at hl 4 rfl) ?_
  obtain ⟨r_1, g_2, hf⟩ := bE_ok hf
  refine va_calli (va_runV (As := [.int p1, .int p2, .int p3, .int p4]) (rest := []) ⟨hx, hb, hml, hown, hts⟩ (mt_X4_bars l dC dI ad cy hJ H.size I D p1 p2 p3 p4 r_1 g_2) (cwV 4 hts gX4_run_X4_bars rfl rfl rfl (by decide +kernel) ⟨Nat.le_of_ble_eq_true rfl, Nat.le_of_ble_eq_true rfl⟩) ⟨(hW.pre [.ref (ad 0), .int p1, .int p2, .int p3, .int p4] hP hK hN).1, hW.recv (C := RX4) (T := TX4) (N := 14) hP hK heH_0 rfl, (hW.pre [.ref (ad 0), .int p1, .int p2, .int p3, .int p4] hP hK hN).2⟩ rfl rfl hl.1 rfl (lv_room (Nat.le_of_ble_eq_true rfl)) dX4_run_6 ⟨Nat.le_of_ble_eq_true rfl, Nat.le_of_ble_eq_true rfl⟩) hS (fun q _ h => hA q (Nat.le_trans hS.1 h)) (fun q h => hA q (Nat.le_trans hS.1 h)) (fun r9 u t H1 locs ht hvm hw hB hz1 hk1 hS => ?_)
  subst hw
  have hP := va_Pnew hP hk1
  clear hB hz1 hk1 hvm ht
  generalize H1 = H at hP hS ⊢
  refine lv_istore (lv' := [(5, .int r_1), (0, .ref (ad 0)), (1, .int p1), (2, .int p2), (3, .int p3), (4, .int p4)]) hx hb dX4_run_9 hl (by decide) rfl (fun ls hl => ?_)
  refine lv_iload hx hb dX4_run_11 (lv_at hl 0 rfl) ?_
  refine lv_if_eq (tgt := 22) hx hb dX4_run_13 (by decide) (fun c_3 => ?_) (fun c_3 => ?_)
  · have hf := it_t hf c_3
    refine lv_aload_n hx hb dX4_run_22 rfl (lv_at hl 1 rfl) ?_
    refine va_get (D := (dC, dI)) (ci := 4) (v := .ref (ad 2)) (C := RX4) (T := TX4) (N := 14) hx hb hts iX4_run_RX4 hown hK hP 0 heH_0 rfl 1 (by decide) (hts (.fieldLink RX4 17 "OverrunHouse" "mixes" "[LOverrunHouse$Mix;") (List.mem_cons_of_mem _ (List.mem_append_left _ (List.mem_append_left _ (List.mem_append_left _ (List.mem_append_left _ (List.mem_append_left _ (List.mem_append_left _ (List.mem_of_getElem? (i := 0) rfl))))))))) (fun _ h9 => h9) rfl dX4_run_23 ?_
    refine lv_iload_n hx hb dX4_run_26 rfl (lv_at hl 3 rfl) ?_
    obtain ⟨h_4, hf⟩ := ck_out hf
    refine wr_aald (b := 13) (n := 5) hx hb hK hP 2 2 heH_2 rfl (inB_in h_4) dX4_run_27 ?_
    refine lv_astore (lv' := [(6, .ref (ad (13 + (p2).toNatClampNeg))), (5, .int r_1), (0, .ref (ad 0)), (1, .int p1), (2, .int p2), (3, .int p3), (4, .int p4)]) hx hb dX4_run_28 hl (by decide) rfl (fun ls hl => ?_)
    refine lv_aload hx hb dX4_run_30 (lv_at hl 0 rfl) ?_
    refine lv_dup hx hb dX4_run_32 rfl ?_
    refine va_getN (D := (dC, dI)) (ci := 2) (v := .int (I (13 + (p2).toNatClampNeg) 1)) (C := RX2) (T := TX2) (N := 12) hx hb hts iX4_run_RX2 hown hK hP (13 + (p2).toNatClampNeg) (heH_Mix (inB_lt h_4)) rfl 1 (by decide) (va_Nw.use (w := .fieldLinkNest "OverrunHouse" 127 "OverrunHouse$Mix" "left" "I" "OverrunHouse") rfl (hN _ (List.mem_of_getElem? (i := 11) rfl))) (fun _ h9 => h9) rfl dX4_run_33 ?_
    refine lv_iload_n hx hb dX4_run_36 rfl (lv_at hl 5 rfl) ?_
    refine lv_isub hx hb dX4_run_37 ?_
    obtain ⟨I_5, eI_5, hf⟩ := nm_out hf
    refine va_putN (D := (dC, dI)) (ci := 2) (v := .int ((I (13 + (p2).toNatClampNeg) 1) - p3)) (ty := .int) (C := RX2) (T := TX2) (N := 12) hx hb hts iX4_run_RX2 tyX2 tyX2_ok nmX2 hown hK hP (hDD I D) hS (13 + (p2).toNatClampNeg) (heH_Mix (inB_lt h_4)) rfl 1 (by decide) (va_Nw.use (w := .fieldLinkNest "OverrunHouse" 127 "OverrunHouse$Mix" "left" "I" "OverrunHouse") rfl (hN _ (List.mem_of_getElem? (i := 11) rfl))) (fun _ h9 => h9) rfl (by decide +kernel) rfl rfl (Nat.le_of_ble_eq_true rfl) dX4_run_38 (fun H locs hP _ hS => ?_)
    have hP : va_P (dC, dI) vwCl (iwH ad cy I_5 D) H := by rw [eI_5]; exact hpI (by have := (inB_lt h_4); omega) ((cellH_Mix ad cy (inB_lt h_4) _ _).trans rfl) hP
    refine lv_aload hx hb dX4_run_41 (lv_at hl 0 rfl) ?_
    refine lv_dup hx hb dX4_run_43 rfl ?_
    refine va_getN (D := (dC, dI)) (ci := 2) (v := .int (I_5 (13 + (p2).toNatClampNeg) 9)) (C := RX2) (T := TX2) (N := 12) hx hb hts iX4_run_RX2 hown hK hP (13 + (p2).toNatClampNeg) (heH_Mix (inB_lt h_4)) rfl 9 (by decide) (va_Nw.use (w := .fieldLinkNest "OverrunHouse" 102 "OverrunHouse$Mix" "batchesOfIt" "I" "OverrunHouse") rfl (hN _ (List.mem_of_getElem? (i := 16) rfl))) (fun _ h9 => h9) rfl dX4_run_44 ?_
    refine lv_iconst (v := 1) hx hb dX4_run_47 (by decide) ?_
    refine lv_iadd hx hb dX4_run_48 ?_
    obtain ⟨I_6, eI_6, hf⟩ := nm_out hf
    refine va_putN (D := (dC, dI)) (ci := 2) (v := .int ((I_5 (13 + (p2).toNatClampNeg) 9) + 1)) (ty := .int) (C := RX2) (T := TX2) (N := 12) hx hb hts iX4_run_RX2 tyX2 tyX2_ok nmX2 hown hK hP (hDD I_5 D) hS (13 + (p2).toNatClampNeg) (heH_Mix (inB_lt h_4)) rfl 9 (by decide) (va_Nw.use (w := .fieldLinkNest "OverrunHouse" 102 "OverrunHouse$Mix" "batchesOfIt" "I" "OverrunHouse") rfl (hN _ (List.mem_of_getElem? (i := 16) rfl))) (fun _ h9 => h9) rfl (by decide +kernel) rfl rfl (Nat.le_of_ble_eq_true rfl) dX4_run_49 (fun H locs hP _ hS => ?_)
    have hP : va_P (dC, dI) vwCl (iwH ad cy I_6 D) H := by rw [eI_6]; exact hpI (by have := (inB_lt h_4); omega) ((cellH_Mix ad cy (inB_lt h_4) _ _).trans rfl) hP
    refine lv_aload_n hx hb dX4_run_52 rfl (lv_at hl 2 rfl) ?_
    refine va_get (D := (dC, dI)) (ci := 4) (v := .ref (ad 5)) (C := RX4) (T := TX4) (N := 14) hx hb hts iX4_run_RX4 hown hK hP 0 heH_0 rfl 4 (by decide) (hts (.fieldLink RX4 33 "OverrunHouse" "rests" "[I") (List.mem_cons_of_mem _ (List.mem_append_left _ (List.mem_append_left _ (List.mem_append_left _ (List.mem_append_left _ (List.mem_append_left _ (List.mem_append_left _ (List.mem_of_getElem? (i := 1) rfl))))))))) (fun _ h9 => h9) rfl dX4_run_53 ?_
    refine lv_iload_n hx hb dX4_run_56 rfl (lv_at hl 3 rfl) ?_
    refine lv_aload hx hb dX4_run_57 (lv_at hl 0 rfl) ?_
    refine va_getN (D := (dC, dI)) (ci := 2) (v := .int (I_6 (13 + (p2).toNatClampNeg) 6)) (C := RX2) (T := TX2) (N := 12) hx hb hts iX4_run_RX2 hown hK hP (13 + (p2).toNatClampNeg) (heH_Mix (inB_lt h_4)) rfl 6 (by decide) (va_Nw.use (w := .fieldLinkNest "OverrunHouse" 130 "OverrunHouse$Mix" "harms" "I" "OverrunHouse") rfl (hN _ (List.mem_of_getElem? (i := 13) rfl))) (fun _ h9 => h9) rfl dX4_run_59 ?_
    obtain ⟨h_7, hf⟩ := ck_out hf
    obtain ⟨I_8, eI_8, hf⟩ := nm_out hf
    refine va_iast (n := 2) (f := I_6 5) hx hb hK hP (hDD I_6 D) hS 5 0 heH_5 rfl (inB_in h_7) dX4_run_62 (fun H locs hP _ hS => ?_)
    have hP : va_P (dC, dI) vwCl (iwH ad cy I_8 D) H := by rw [eI_8]; exact hpI (by decide) ((cellH_5 ad cy _ _).trans rfl) hP
    refine lv_aload_n hx hb dX4_run_63 rfl (lv_at hl 2 rfl) ?_
    refine va_get (D := (dC, dI)) (ci := 4) (v := .ref (ad 3)) (C := RX4) (T := TX4) (N := 14) hx hb hts iX4_run_RX4 hown hK hP 0 heH_0 rfl 2 (by decide) (hts (.fieldLink RX4 23 "OverrunHouse" "batches" "[LOverrunHouse$Batch;") (List.mem_cons_of_mem _ (List.mem_append_left _ (List.mem_append_left _ (List.mem_append_left _ (List.mem_append_left _ (List.mem_append_left _ (List.mem_append_left _ (List.mem_of_getElem? (i := 2) rfl))))))))) (fun _ h9 => h9) rfl dX4_run_64 ?_
    refine lv_aload_n hx hb dX4_run_67 rfl (lv_at hl 2 rfl) ?_
    refine va_get (D := (dC, dI)) (ci := 4) (v := .int (I_8 0 7)) (C := RX4) (T := TX4) (N := 14) hx hb hts iX4_run_RX4 hown hK hP 0 heH_0 rfl 7 (by decide) (hts (.fieldLink RX4 44 "OverrunHouse" "batchCount" "I") (List.mem_cons_of_mem _ (List.mem_append_left _ (List.mem_append_left _ (List.mem_append_left _ (List.mem_append_left _ (List.mem_append_left _ (List.mem_append_left _ (List.mem_of_getElem? (i := 3) rfl))))))))) (fun _ h9 => h9) rfl dX4_run_68 ?_
    obtain ⟨h_9, hf⟩ := ck_out hf
    refine wr_aald (b := 18) (n := 12) hx hb hK hP 3 3 heH_3 rfl (inB_in h_9) dX4_run_71 ?_
    refine lv_astore (lv' := [(7, .ref (ad (18 + ((I_8 0 7)).toNatClampNeg))), (6, .ref (ad (13 + (p2).toNatClampNeg))), (5, .int r_1), (0, .ref (ad 0)), (1, .int p1), (2, .int p2), (3, .int p3), (4, .int p4)]) hx hb dX4_run_72 hl (by decide) rfl (fun ls hl => ?_)
    refine lv_aload hx hb dX4_run_74 (lv_at hl 0 rfl) ?_
    refine lv_iload_n hx hb dX4_run_76 rfl (lv_at hl 5 rfl) ?_
    obtain ⟨I_10, eI_10, hf⟩ := nm_out hf
    refine va_putN (D := (dC, dI)) (ci := 0) (v := .int p2) (ty := .int) (C := RX0) (T := TX0) (N := 5) hx hb hts iX4_run_RX0 tyX0 tyX0_ok nmX0 hown hK hP (hDD I_8 D) hS (18 + ((I_8 0 7)).toNatClampNeg) (heH_Batch (inB_lt h_9)) rfl 0 (by decide) (va_Nw.use (w := .fieldLinkNest "OverrunHouse" 131 "OverrunHouse$Batch" "mix" "I" "OverrunHouse") rfl (hN _ (List.mem_of_getElem? (i := 18) rfl))) (fun _ h9 => h9) rfl (by decide +kernel) rfl rfl (Nat.le_of_ble_eq_true rfl) dX4_run_77 (fun H locs hP _ hS => ?_)
    have hP : va_P (dC, dI) vwCl (iwH ad cy I_10 D) H := by rw [eI_10]; exact hpI (by have := (inB_lt h_9); omega) ((cellH_Batch ad cy (inB_lt h_9) _ _).trans rfl) hP
    refine lv_aload hx hb dX4_run_80 (lv_at hl 0 rfl) ?_
    refine lv_iload_n hx hb dX4_run_82 rfl (lv_at hl 6 rfl) ?_
    refine lv_iconst (v := 2) hx hb dX4_run_83 (by decide) ?_
    refine lv_isub hx hb dX4_run_84 ?_
    refine lv_bipush (v := 100) hx hb dX4_run_85 (by decide) ?_
    refine lv_iload hx hb dX4_run_87 (lv_at hl 7 rfl) ?_
    refine lv_iadd hx hb dX4_run_89 ?_
    refine lv_imul hx hb dX4_run_90 ?_
    refine lv_bipush (v := 100) hx hb dX4_run_91 (by decide) ?_
    refine lv_idiv hx hb dX4_run_93 (by decide) ?_
    obtain ⟨I_11, eI_11, hf⟩ := nm_out hf
    refine va_putN (D := (dC, dI)) (ci := 0) (v := .int (((p3 - 2) * (100 + p4)) / 100)) (ty := .int) (C := RX0) (T := TX0) (N := 5) hx hb hts iX4_run_RX0 tyX0 tyX0_ok nmX0 hown hK hP (hDD I_10 D) hS (18 + ((I_8 0 7)).toNatClampNeg) (heH_Batch (inB_lt h_9)) rfl 1 (by decide) (va_Nw.use (w := .fieldLinkNest "OverrunHouse" 134 "OverrunHouse$Batch" "litres" "I" "OverrunHouse") rfl (hN _ (List.mem_of_getElem? (i := 19) rfl))) (fun _ h9 => h9) rfl (by decide +kernel) rfl rfl (Nat.le_of_ble_eq_true rfl) dX4_run_94 (fun H locs hP _ hS => ?_)
    have hP : va_P (dC, dI) vwCl (iwH ad cy I_11 D) H := by rw [eI_11]; exact hpI (by have := (inB_lt h_9); omega) ((cellH_Batch ad cy (inB_lt h_9) _ _).trans rfl) hP
    refine lv_aload hx hb dX4_run_97 (lv_at hl 0 rfl) ?_
    refine lv_ldc2d (v := 4626322717216342016) hx hb hown (hts (.constantDouble RX4 137 (4626322717216342016)) (List.mem_cons_of_mem _ (List.mem_append_left _ (List.mem_append_left _ (List.mem_append_left _ (List.mem_append_left _ (List.mem_append_left _ (List.mem_append_left _ (List.mem_of_getElem? (i := 4) rfl))))))))) dX4_run_99 ?_
    obtain ⟨D_12, eD_12, hf⟩ := nm_out hf
    refine va_putN (D := (dC, dI)) (ci := 0) (v := .double (4626322717216342016 : UInt64)) (ty := .double) (C := RX0) (T := TX0) (N := 5) hx hb hts iX4_run_RX0 tyX0 tyX0_ok nmX0 hown hK hP (hDD I_11 D) hS (18 + ((I_8 0 7)).toNatClampNeg) (heH_Batch (inB_lt h_9)) rfl 4 (by decide) (va_Nw.use (w := .fieldLinkNest "OverrunHouse" 139 "OverrunHouse$Batch" "crystal" "D" "OverrunHouse") rfl (hN _ (List.mem_of_getElem? (i := 22) rfl))) (fun _ h9 => h9) rfl (by decide +kernel) rfl rfl (Nat.le_of_ble_eq_true rfl) dX4_run_102 (fun H locs hP _ hS => ?_)
    have hP : va_P (dC, dI) vwCl (iwH ad cy I_11 D_12) H := by rw [eD_12]; exact hpD (by have := (inB_lt h_9); omega) ((cellH_Batch ad cy (inB_lt h_9) _ _).trans rfl) hP
    refine lv_aload_n hx hb dX4_run_105 rfl (lv_at hl 3 rfl) ?_
    refine lv_dup hx hb dX4_run_106 rfl ?_
    refine va_get (D := (dC, dI)) (ci := 4) (v := .int (I_11 0 7)) (C := RX4) (T := TX4) (N := 14) hx hb hts iX4_run_RX4 hown hK hP 0 heH_0 rfl 7 (by decide) (hts (.fieldLink RX4 44 "OverrunHouse" "batchCount" "I") (List.mem_cons_of_mem _ (List.mem_append_left _ (List.mem_append_left _ (List.mem_append_left _ (List.mem_append_left _ (List.mem_append_left _ (List.mem_append_left _ (List.mem_of_getElem? (i := 3) rfl))))))))) (fun _ h9 => h9) rfl dX4_run_107 ?_
    refine lv_iconst (v := 1) hx hb dX4_run_110 (by decide) ?_
    refine lv_iadd hx hb dX4_run_111 ?_
    obtain ⟨I_13, eI_13, hf⟩ := nm_out hf
    refine va_put (D := (dC, dI)) (ci := 4) (v := .int ((I_11 0 7) + 1)) (ty := .int) (C := RX4) (T := TX4) (N := 14) hx hb hts iX4_run_RX4 tyX4 tyX4_ok nmX4 hown hK hP (hDD I_11 D_12) hS 0 heH_0 rfl 7 (by decide) (hts (.fieldLink RX4 44 "OverrunHouse" "batchCount" "I") (List.mem_cons_of_mem _ (List.mem_append_left _ (List.mem_append_left _ (List.mem_append_left _ (List.mem_append_left _ (List.mem_append_left _ (List.mem_append_left _ (List.mem_of_getElem? (i := 3) rfl))))))))) (fun _ h9 => h9) rfl (by decide +kernel) rfl rfl (Nat.le_of_ble_eq_true rfl) dX4_run_112 (fun H locs hP _ hS => ?_)
    have hP : va_P (dC, dI) vwCl (iwH ad cy I_13 D_12) H := by rw [eI_13]; exact hpI (by decide) ((cellH_0 ad cy _ _).trans rfl) hP
    refine lv_aload_n hx hb dX4_run_115 rfl (lv_at hl 3 rfl) ?_
    refine va_get (D := (dC, dI)) (ci := 4) (v := .int (I_13 0 7)) (C := RX4) (T := TX4) (N := 14) hx hb hts iX4_run_RX4 hown hK hP 0 heH_0 rfl 7 (by decide) (hts (.fieldLink RX4 44 "OverrunHouse" "batchCount" "I") (List.mem_cons_of_mem _ (List.mem_append_left _ (List.mem_append_left _ (List.mem_append_left _ (List.mem_append_left _ (List.mem_append_left _ (List.mem_append_left _ (List.mem_of_getElem? (i := 3) rfl))))))))) (fun _ h9 => h9) rfl dX4_run_116 ?_
    refine lv_iconst (v := 1) hx hb dX4_run_119 (by decide) ?_
    refine lv_isub hx hb dX4_run_120 ?_
    have hf := ok_in hf
    obtain ⟨q1, q2⟩ := Prod.mk.inj hf
    obtain ⟨q2, q3⟩ := Prod.mk.inj q2
    rw [q2, q3] at hP
    exact W.iret (v := ((I_13 0 7) - 1)) hx hb hr (fun t ht hW9 => ⟨⟨((I_13 0 7) - 1), (), rfl, q1.symm, hW.of hP hK hN ht hW9⟩, hS.F ht⟩) hS.2.2 dX4_run_121
  · have hf := it_f hf c_3
    refine lv_bipush (v := (-10)) hx hb dX4_run_16 (by decide) ?_
    refine lv_iload hx hb dX4_run_18 (lv_at hl 0 rfl) ?_
    refine lv_isub hx hb dX4_run_20 ?_
    have hf := ok_in hf
    obtain ⟨q1, q2⟩ := Prod.mk.inj hf
    obtain ⟨q2, q3⟩ := Prod.mk.inj q2
    rw [q2, q3] at hP
    exact W.iret (v := ((-10) - r_1)) hx hb hr (fun t ht hW9 => ⟨⟨((-10) - r_1), (), rfl, q1.symm, hW.of hP hK hN ht hW9⟩, hS.F ht⟩) hS.2.2 dX4_run_21

def f_X4_wash (I : Nat → Nat → Int32) (D : Nat → Nat → UInt64) (p1 : Int32) : Option (Except String (Int32 × (Nat → Nat → Int32) × (Nat → Nat → UInt64))) :=
  bE (f_X4_checkNumber p1 2) (fun _ => ck (inB p1 2) (ck (inB p1 2) (nm (up2 I 5 (p1).toNatClampNeg 0) (fun I_5 => nm (up2 I_5 0 11 ((I_5 0 11) + 1)) (fun I_6 => some (Except.ok ((I 5 (p1).toNatClampNeg), I_6, D)))))))
theorem iX4_wash_RX4 : ∀ w ∈ u_ws RX4 TX4 14, w ∈ wsX4_wash := fun w h => List.mem_cons_of_mem _ (List.mem_append_left _ (List.mem_append_right _ (h)))
set_option maxHeartbeats 4000000 in
set_option maxRecDepth 100000 in
theorem mt_X4_wash (l : Launch) (dC : Nat → ClassId) (dI : Nat → Nat → Nat) (ad : Nat → Nat) (cy : Nat → ClassId) (hJ : J33 ad) (sz : Nat) (I : Nat → Nat → Int32) (D : Nat → Nat → UInt64) (p1 : Int32) (rr : Int32) (I9 : Nat → Nat → Int32) (D9 : Nat → Nat → UInt64) (hf : f_X4_wash I D p1 = some (Except.ok (rr, I9, D9))) : Met l yX4_wash wsX4_wash ({ frames := 1, cells := 0, slots := 0, locals := 21 }) (va_Pc [.ref (ad 0), .int p1] (fun U => U.heap.size = sz ∧ hW dC dI ad cy I D U)) (va_Qi (fun r (_ : Unit) => rr = r) (fun _ t => hW dC dI ad cy I9 D9 t) (AW ad sz)) 0 0 (AW ad sz) := by
  refine Met.ofW (cc := cX4_wash) (maxL := 3) (ret := (some .int)) (by decide) rfl ?_
  intro p e s m args below meth c s₁ B hml hv
  obtain ⟨rfl, hsz, hP, hK, hN⟩ := hv
  have hx := B.exec
  have hb := B.bytes
  have hr := B.returns
  have hts := atoms_spec (ws := wsX4_wash) B.pre
  have hown : s.vm.findClass RX4 = some m.cls := findClass_of_methodNamed B.named
  have hlocks := B.notSynchronized
  subst hsz
  generalize hAe : AW ad s.heap.size = A
  have hA : ∀ q : Nat, s.heap.size ≤ q → A q := fun q h => by rw [← hAe]; exact Or.inr h
  have hA33 : ∀ k, k < 33 → A (ad k) := fun k h => by rw [← hAe]; exact Or.inl ⟨k, h, rfl⟩
  have hDD : ∀ I D, va_D A (iwH ad cy I D) := fun I D => iwH_D hJ hA33 I D
  obtain ⟨H, hH⟩ : ∃ H : Heap, H = s.heap := ⟨_, rfl⟩
  have hS : va_S A s.heap H [] := by rw [hH]; exact va_S.rf
  rw [← hH]
  rw [← hH] at hP
  have hl := lv_entry ([.ref (ad 0), .int p1]) (n := 3) (Nat.le_of_ble_eq_true rfl)
  rw [lg_entry_eq]
  generalize (lg_sl ([.ref (ad 0), .int p1]) ++ List.replicate (3 - (lg_sl ([.ref (ad 0), .int p1])).length) Slot.unset).toArray = ls at hl ⊢
  have hl : lv_has ls 3 [(0, .ref (ad 0)), (1, .int p1)] := hl
  unfold f_X4_wash at hf
  refine lv_iload_n hx hb dX4_wash_0 rfl (lv_at hl 1 rfl) ?_
  refine lv_iconst (v := 2) hx hb dX4_wash_1 (by decide) ?_
  obtain ⟨_, g_2, hf⟩ := bE_ok hf
  refine va_callv (va_runS (As := [.int p1, .int 2]) (rest := []) ⟨hx, hb, hml, hown, hts⟩ (mt_X4_checkNumber l H.size p1 2  g_2) (va_cwS 2 hts gX4_wash_X4_checkNumber rfl rfl rfl (by decide +kernel) ⟨Nat.le_of_ble_eq_true rfl, Nat.le_of_ble_eq_true rfl⟩) (pre0 [.int p1, .int 2]) rfl rfl hl.1 rfl (lv_room (Nat.le_of_ble_eq_true rfl)) dX4_wash_2 ⟨Nat.le_of_ble_eq_true rfl, Nat.le_of_ble_eq_true rfl⟩) hS (fun q _ h => hA q (Nat.le_trans hS.1 h)) (fun q h => hA q (Nat.le_trans hS.1 h)) (fun u t H1 locs ht hvm hw hB hz1 hk1 hS => ?_)
  have hP := va_Pnew hP hk1
  clear hB hz1 hk1 hvm ht
  generalize H1 = H at hP hS ⊢
  refine lv_aload_n hx hb dX4_wash_5 rfl (lv_at hl 0 rfl) ?_
  refine va_get (D := (dC, dI)) (ci := 4) (v := .ref (ad 5)) (C := RX4) (T := TX4) (N := 14) hx hb hts iX4_wash_RX4 hown hK hP 0 heH_0 rfl 4 (by decide) (hts (.fieldLink RX4 33 "OverrunHouse" "rests" "[I") (List.mem_cons_of_mem _ (List.mem_append_left _ (List.mem_append_left _ (List.mem_of_getElem? (i := 0) rfl))))) (fun _ h9 => h9) rfl dX4_wash_6 ?_
  refine lv_iload_n hx hb dX4_wash_9 rfl (lv_at hl 1 rfl) ?_
  obtain ⟨h_3, hf⟩ := ck_out hf
  refine va_iald (n := 2) (f := I 5) hx hb hK hP 5 0 heH_5 rfl (inB_in h_3) dX4_wash_10 ?_
  refine lv_istore_n (lv' := [(2, .int (I 5 (p1).toNatClampNeg)), (0, .ref (ad 0)), (1, .int p1)]) hx hb dX4_wash_11 rfl hl (by decide) rfl (fun ls hl => ?_)
  refine lv_aload_n hx hb dX4_wash_12 rfl (lv_at hl 1 rfl) ?_
  refine va_get (D := (dC, dI)) (ci := 4) (v := .ref (ad 5)) (C := RX4) (T := TX4) (N := 14) hx hb hts iX4_wash_RX4 hown hK hP 0 heH_0 rfl 4 (by decide) (hts (.fieldLink RX4 33 "OverrunHouse" "rests" "[I") (List.mem_cons_of_mem _ (List.mem_append_left _ (List.mem_append_left _ (List.mem_of_getElem? (i := 0) rfl))))) (fun _ h9 => h9) rfl dX4_wash_13 ?_
  refine lv_iload_n hx hb dX4_wash_16 rfl (lv_at hl 2 rfl) ?_
  refine lv_iconst (v := 0) hx hb dX4_wash_17 (by decide) ?_
  obtain ⟨h_4, hf⟩ := ck_out hf
  obtain ⟨I_5, eI_5, hf⟩ := nm_out hf
  refine va_iast (n := 2) (f := I 5) hx hb hK hP (hDD I D) hS 5 0 heH_5 rfl (inB_in h_4) dX4_wash_18 (fun H locs hP _ hS => ?_)
  have hP : va_P (dC, dI) vwCl (iwH ad cy I_5 D) H := by rw [eI_5]; exact hpI (by decide) ((cellH_5 ad cy _ _).trans rfl) hP
  refine lv_aload_n hx hb dX4_wash_19 rfl (lv_at hl 1 rfl) ?_
  refine lv_dup hx hb dX4_wash_20 rfl ?_
  refine va_get (D := (dC, dI)) (ci := 4) (v := .int (I_5 0 11)) (C := RX4) (T := TX4) (N := 14) hx hb hts iX4_wash_RX4 hown hK hP 0 heH_0 rfl 11 (by decide) (hts (.fieldLink RX4 56 "OverrunHouse" "washesEver" "I") (List.mem_cons_of_mem _ (List.mem_append_left _ (List.mem_append_left _ (List.mem_of_getElem? (i := 1) rfl))))) (fun _ h9 => h9) rfl dX4_wash_21 ?_
  refine lv_iconst (v := 1) hx hb dX4_wash_24 (by decide) ?_
  refine lv_iadd hx hb dX4_wash_25 ?_
  obtain ⟨I_6, eI_6, hf⟩ := nm_out hf
  refine va_put (D := (dC, dI)) (ci := 4) (v := .int ((I_5 0 11) + 1)) (ty := .int) (C := RX4) (T := TX4) (N := 14) hx hb hts iX4_wash_RX4 tyX4 tyX4_ok nmX4 hown hK hP (hDD I_5 D) hS 0 heH_0 rfl 11 (by decide) (hts (.fieldLink RX4 56 "OverrunHouse" "washesEver" "I") (List.mem_cons_of_mem _ (List.mem_append_left _ (List.mem_append_left _ (List.mem_of_getElem? (i := 1) rfl))))) (fun _ h9 => h9) rfl (by decide +kernel) rfl rfl (Nat.le_of_ble_eq_true rfl) dX4_wash_26 (fun H locs hP _ hS => ?_)
  have hP : va_P (dC, dI) vwCl (iwH ad cy I_6 D) H := by rw [eI_6]; exact hpI (by decide) ((cellH_0 ad cy _ _).trans rfl) hP
  refine lv_iload_n hx hb dX4_wash_29 rfl (lv_at hl 0 rfl) ?_
  have hf := ok_in hf
  obtain ⟨q1, q2⟩ := Prod.mk.inj hf
  obtain ⟨q2, q3⟩ := Prod.mk.inj q2
  rw [q2, q3] at hP
  exact W.iret (v := (I 5 (p1).toNatClampNeg)) hx hb hr (fun t ht hW9 => ⟨⟨(I 5 (p1).toNatClampNeg), (), rfl, q1.symm, hW.of hP hK hN ht hW9⟩, hS.F ht⟩) hS.2.2 dX4_wash_30

def f_X4_harden (I : Nat → Nat → Int32) (D : Nat → Nat → UInt64) (p1 : Int32) (p2 : Int32) : Option (Except String (UInt64 × (Nat → Nat → Int32) × (Nat → Nat → UInt64))) :=
  bE (f_X4_checkNumber p1 (I 0 7)) (fun _ => bE (f_X4_checkRange p2 10 90) (fun _ => ck (inB p1 12) ((if (I (18 + (p1).toNatClampNeg) 2) = (-1) then (if (I (18 + (p1).toNatClampNeg) 3) = 0 then ck (okD (FP.dmul (FP.i2d p2) (4598175219545276416 : UInt64))) (ck (okD (FP.dadd (D (18 + (p1).toNatClampNeg) 4) (FP.dmul (FP.i2d p2) (4598175219545276416 : UInt64)))) (nm (up2 D (18 + (p1).toNatClampNeg) 4 (FP.dadd (D (18 + (p1).toNatClampNeg) 4) (FP.dmul (FP.i2d p2) (4598175219545276416 : UInt64)))) (fun D_10 => nm (up2 I (18 + (p1).toNatClampNeg) 3 1) (fun I_11 => some (Except.ok ((D_10 (18 + (p1).toNatClampNeg) 4), I_11, D_10)))))) else some (Except.error "java/lang/IllegalStateException")) else some (Except.error "java/lang/IllegalStateException")))))
theorem iX4_harden_RX0 : ∀ w ∈ u_ws RX0 TX0 5, w ∈ wsX4_harden := fun w h => List.mem_cons_of_mem _ (List.mem_append_left _ (List.mem_append_left _ (List.mem_append_left _ (List.mem_append_right _ (h)))))
theorem iX4_harden_RX4 : ∀ w ∈ u_ws RX4 TX4 14, w ∈ wsX4_harden := fun w h => List.mem_cons_of_mem _ (List.mem_append_left _ (List.mem_append_left _ (List.mem_append_left _ (List.mem_append_left _ (List.mem_append_right _ (h))))))
set_option maxHeartbeats 4000000 in
set_option maxRecDepth 100000 in
theorem mt_X4_harden (l : Launch) (dC : Nat → ClassId) (dI : Nat → Nat → Nat) (ad : Nat → Nat) (cy : Nat → ClassId) (hJ : J33 ad) (sz : Nat) (I : Nat → Nat → Int32) (D : Nat → Nat → UInt64) (p1 : Int32) (p2 : Int32) (rr : UInt64) (I9 : Nat → Nat → Int32) (D9 : Nat → Nat → UInt64) (hf : f_X4_harden I D p1 p2 = some (Except.ok (rr, I9, D9))) : Met l yX4_harden wsX4_harden ({ frames := 1, cells := 0, slots := 0, locals := 22 }) (va_Pc [.ref (ad 0), .int p1, .int p2] (fun U => U.heap.size = sz ∧ hW dC dI ad cy I D U)) (va_Qd (fun r (_ : Unit) => rr = r) (fun _ t => hW dC dI ad cy I9 D9 t) (AW ad sz)) 0 0 (AW ad sz) := by
  refine Met.ofW (cc := cX4_harden) (maxL := 4) (ret := (some .double)) (by decide) rfl ?_
  intro p e s m args below meth c s₁ B hml hv
  obtain ⟨rfl, hsz, hP, hK, hN⟩ := hv
  have hx := B.exec
  have hb := B.bytes
  have hr := B.returns
  have hts := atoms_spec (ws := wsX4_harden) B.pre
  have hown : s.vm.findClass RX4 = some m.cls := findClass_of_methodNamed B.named
  have hlocks := B.notSynchronized
  subst hsz
  generalize hAe : AW ad s.heap.size = A
  have hA : ∀ q : Nat, s.heap.size ≤ q → A q := fun q h => by rw [← hAe]; exact Or.inr h
  have hA33 : ∀ k, k < 33 → A (ad k) := fun k h => by rw [← hAe]; exact Or.inl ⟨k, h, rfl⟩
  have hDD : ∀ I D, va_D A (iwH ad cy I D) := fun I D => iwH_D hJ hA33 I D
  obtain ⟨H, hH⟩ : ∃ H : Heap, H = s.heap := ⟨_, rfl⟩
  have hS : va_S A s.heap H [] := by rw [hH]; exact va_S.rf
  rw [← hH]
  rw [← hH] at hP
  have hl := lv_entry ([.ref (ad 0), .int p1, .int p2]) (n := 4) (Nat.le_of_ble_eq_true rfl)
  rw [lg_entry_eq]
  generalize (lg_sl ([.ref (ad 0), .int p1, .int p2]) ++ List.replicate (4 - (lg_sl ([.ref (ad 0), .int p1, .int p2])).length) Slot.unset).toArray = ls at hl ⊢
  have hl : lv_has ls 4 [(0, .ref (ad 0)), (1, .int p1), (2, .int p2)] := hl
  unfold f_X4_harden at hf
  refine lv_iload_n hx hb dX4_harden_0 rfl (lv_at hl 1 rfl) ?_
  refine lv_aload_n hx hb dX4_harden_1 rfl (lv_at hl 0 rfl) ?_
  refine va_get (D := (dC, dI)) (ci := 4) (v := .int (I 0 7)) (C := RX4) (T := TX4) (N := 14) hx hb hts iX4_harden_RX4 hown hK hP 0 heH_0 rfl 7 (by decide) (hts (.fieldLink RX4 44 "OverrunHouse" "batchCount" "I") (List.mem_cons_of_mem _ (List.mem_append_left _ (List.mem_append_left _ (List.mem_append_left _ (List.mem_append_left _ (List.mem_append_left _ (List.mem_of_getElem? (i := 2) rfl)))))))) (fun _ h9 => h9) rfl dX4_harden_2 ?_
  obtain ⟨_, g_2, hf⟩ := bE_ok hf
  refine va_callv (va_runS (As := [.int p1, .int (I 0 7)]) (rest := []) ⟨hx, hb, hml, hown, hts⟩ (mt_X4_checkNumber l H.size p1 (I 0 7)  g_2) (va_cwS 2 hts gX4_harden_X4_checkNumber rfl rfl rfl (by decide +kernel) ⟨Nat.le_of_ble_eq_true rfl, Nat.le_of_ble_eq_true rfl⟩) (pre0 [.int p1, .int (I 0 7)]) rfl rfl hl.1 rfl (lv_room (Nat.le_of_ble_eq_true rfl)) dX4_harden_5 ⟨Nat.le_of_ble_eq_true rfl, Nat.le_of_ble_eq_true rfl⟩) hS (fun q _ h => hA q (Nat.le_trans hS.1 h)) (fun q h => hA q (Nat.le_trans hS.1 h)) (fun u t H1 locs ht hvm hw hB hz1 hk1 hS => ?_)
  have hP := va_Pnew hP hk1
  clear hB hz1 hk1 hvm ht
  generalize H1 = H at hP hS ⊢
  refine lv_iload_n hx hb dX4_harden_8 rfl (lv_at hl 2 rfl) ?_
  refine lv_bipush (v := 10) hx hb dX4_harden_9 (by decide) ?_
  refine lv_bipush (v := 90) hx hb dX4_harden_11 (by decide) ?_
  obtain ⟨_, g_4, hf⟩ := bE_ok hf
  refine va_callv (va_runS (As := [.int p2, .int 10, .int 90]) (rest := []) ⟨hx, hb, hml, hown, hts⟩ (mt_X4_checkRange l H.size p2 10 90  g_4) (va_cwS 3 hts gX4_harden_X4_checkRange rfl rfl rfl (by decide +kernel) ⟨Nat.le_of_ble_eq_true rfl, Nat.le_of_ble_eq_true rfl⟩) (pre0 [.int p2, .int 10, .int 90]) rfl rfl hl.1 rfl (lv_room (Nat.le_of_ble_eq_true rfl)) dX4_harden_13 ⟨Nat.le_of_ble_eq_true rfl, Nat.le_of_ble_eq_true rfl⟩) hS (fun q _ h => hA q (Nat.le_trans hS.1 h)) (fun q h => hA q (Nat.le_trans hS.1 h)) (fun u t H1 locs ht hvm hw hB hz1 hk1 hS => ?_)
  have hP := va_Pnew hP hk1
  clear hB hz1 hk1 hvm ht
  generalize H1 = H at hP hS ⊢
  refine lv_aload_n hx hb dX4_harden_16 rfl (lv_at hl 0 rfl) ?_
  refine va_get (D := (dC, dI)) (ci := 4) (v := .ref (ad 3)) (C := RX4) (T := TX4) (N := 14) hx hb hts iX4_harden_RX4 hown hK hP 0 heH_0 rfl 2 (by decide) (hts (.fieldLink RX4 23 "OverrunHouse" "batches" "[LOverrunHouse$Batch;") (List.mem_cons_of_mem _ (List.mem_append_left _ (List.mem_append_left _ (List.mem_append_left _ (List.mem_append_left _ (List.mem_append_left _ (List.mem_of_getElem? (i := 3) rfl)))))))) (fun _ h9 => h9) rfl dX4_harden_17 ?_
  refine lv_iload_n hx hb dX4_harden_20 rfl (lv_at hl 1 rfl) ?_
  obtain ⟨h_5, hf⟩ := ck_out hf
  refine wr_aald (b := 18) (n := 12) hx hb hK hP 3 3 heH_3 rfl (inB_in h_5) dX4_harden_21 ?_
  refine lv_astore_n (lv' := [(3, .ref (ad (18 + (p1).toNatClampNeg))), (0, .ref (ad 0)), (1, .int p1), (2, .int p2)]) hx hb dX4_harden_22 rfl hl (by decide) rfl (fun ls hl => ?_)
  refine lv_aload_n hx hb dX4_harden_23 rfl (lv_at hl 0 rfl) ?_
  refine va_getN (D := (dC, dI)) (ci := 0) (v := .int (I (18 + (p1).toNatClampNeg) 2)) (C := RX0) (T := TX0) (N := 5) hx hb hts iX4_harden_RX0 hown hK hP (18 + (p1).toNatClampNeg) (heH_Batch (inB_lt h_5)) rfl 2 (by decide) (va_Nw.use (w := .fieldLinkNest "OverrunHouse" 143 "OverrunHouse$Batch" "place" "I" "OverrunHouse") rfl (hN _ (List.mem_of_getElem? (i := 20) rfl))) (fun _ h9 => h9) rfl dX4_harden_24 ?_
  refine lv_iconst (v := (-1)) hx hb dX4_harden_27 (by decide) ?_
  refine lv_icmp_ne (tgt := 38) hx hb dX4_harden_28 (by decide) (fun c_6 => ?_) (fun c_6 => ?_)
  · have hf := it_f hf c_6
    exact (ok_ne hf).elim
  · have hf := it_t hf c_6
    refine lv_aload_n hx hb dX4_harden_31 rfl (lv_at hl 0 rfl) ?_
    refine va_getN (D := (dC, dI)) (ci := 0) (v := .int (I (18 + (p1).toNatClampNeg) 3)) (C := RX0) (T := TX0) (N := 5) hx hb hts iX4_harden_RX0 hown hK hP (18 + (p1).toNatClampNeg) (heH_Batch (inB_lt h_5)) rfl 3 (by decide) (va_Nw.use (w := .fieldLinkNest "OverrunHouse" 146 "OverrunHouse$Batch" "isHard" "Z" "OverrunHouse") rfl (hN _ (List.mem_of_getElem? (i := 21) rfl))) (fun _ h9 => h9) rfl dX4_harden_32 ?_
    refine lv_if_eq (tgt := 48) hx hb dX4_harden_35 (by decide) (fun c_7 => ?_) (fun c_7 => ?_)
    · have hf := it_t hf c_7
      refine lv_aload_n hx hb dX4_harden_48 rfl (lv_at hl 0 rfl) ?_
      refine lv_aload_n hx hb dX4_harden_49 rfl (lv_at hl 0 rfl) ?_
      refine va_getN (D := (dC, dI)) (ci := 0) (v := .double (D (18 + (p1).toNatClampNeg) 4)) (C := RX0) (T := TX0) (N := 5) hx hb hts iX4_harden_RX0 hown hK hP (18 + (p1).toNatClampNeg) (heH_Batch (inB_lt h_5)) rfl 4 (by decide) (va_Nw.use (w := .fieldLinkNest "OverrunHouse" 139 "OverrunHouse$Batch" "crystal" "D" "OverrunHouse") rfl (hN _ (List.mem_of_getElem? (i := 22) rfl))) (fun _ h9 => h9) rfl dX4_harden_50 ?_
      refine lv_iload_n hx hb dX4_harden_53 rfl (lv_at hl 3 rfl) ?_
      refine lv_i2d hx hb dX4_harden_54 ?_
      refine lv_ldc2d (v := 4598175219545276416) hx hb hown (hts (.constantDouble RX4 151 (4598175219545276416)) (List.mem_cons_of_mem _ (List.mem_append_left _ (List.mem_append_left _ (List.mem_append_left _ (List.mem_append_left _ (List.mem_append_left _ (List.mem_of_getElem? (i := 4) rfl)))))))) dX4_harden_55 ?_
      obtain ⟨h_8, hf⟩ := ck_out hf
      refine lv_dmul hx hb dX4_harden_58 (okD_n h_8) ?_
      obtain ⟨h_9, hf⟩ := ck_out hf
      refine lv_dadd hx hb dX4_harden_59 (okD_n h_9) ?_
      obtain ⟨D_10, eD_10, hf⟩ := nm_out hf
      refine va_putN (D := (dC, dI)) (ci := 0) (v := .double (FP.dadd (D (18 + (p1).toNatClampNeg) 4) (FP.dmul (FP.i2d p2) (4598175219545276416 : UInt64)))) (ty := .double) (C := RX0) (T := TX0) (N := 5) hx hb hts iX4_harden_RX0 tyX0 tyX0_ok nmX0 hown hK hP (hDD I D) hS (18 + (p1).toNatClampNeg) (heH_Batch (inB_lt h_5)) rfl 4 (by decide) (va_Nw.use (w := .fieldLinkNest "OverrunHouse" 139 "OverrunHouse$Batch" "crystal" "D" "OverrunHouse") rfl (hN _ (List.mem_of_getElem? (i := 22) rfl))) (fun _ h9 => h9) rfl (by decide +kernel) rfl rfl (Nat.le_of_ble_eq_true rfl) dX4_harden_60 (fun H locs hP _ hS => ?_)
      have hP : va_P (dC, dI) vwCl (iwH ad cy I D_10) H := by rw [eD_10]; exact hpD (by have := (inB_lt h_5); omega) ((cellH_Batch ad cy (inB_lt h_5) _ _).trans rfl) hP
      refine lv_aload_n hx hb dX4_harden_63 rfl (lv_at hl 0 rfl) ?_
      refine lv_iconst (v := 1) hx hb dX4_harden_64 (by decide) ?_
      obtain ⟨I_11, eI_11, hf⟩ := nm_out hf
      refine va_putN (D := (dC, dI)) (ci := 0) (v := .int 1) (ty := .boolean) (C := RX0) (T := TX0) (N := 5) hx hb hts iX4_harden_RX0 tyX0 tyX0_ok nmX0 hown hK hP (hDD I D_10) hS (18 + (p1).toNatClampNeg) (heH_Batch (inB_lt h_5)) rfl 3 (by decide) (va_Nw.use (w := .fieldLinkNest "OverrunHouse" 146 "OverrunHouse$Batch" "isHard" "Z" "OverrunHouse") rfl (hN _ (List.mem_of_getElem? (i := 21) rfl))) (fun _ h9 => h9) rfl (by decide +kernel) rfl rfl (Nat.le_of_ble_eq_true rfl) dX4_harden_65 (fun H locs hP _ hS => ?_)
      have hP : va_P (dC, dI) vwCl (iwH ad cy I_11 D_10) H := by rw [eI_11]; exact hpI (by have := (inB_lt h_5); omega) ((cellH_Batch ad cy (inB_lt h_5) _ _).trans rfl) hP
      refine lv_aload_n hx hb dX4_harden_68 rfl (lv_at hl 0 rfl) ?_
      refine va_getN (D := (dC, dI)) (ci := 0) (v := .double (D_10 (18 + (p1).toNatClampNeg) 4)) (C := RX0) (T := TX0) (N := 5) hx hb hts iX4_harden_RX0 hown hK hP (18 + (p1).toNatClampNeg) (heH_Batch (inB_lt h_5)) rfl 4 (by decide) (va_Nw.use (w := .fieldLinkNest "OverrunHouse" 139 "OverrunHouse$Batch" "crystal" "D" "OverrunHouse") rfl (hN _ (List.mem_of_getElem? (i := 22) rfl))) (fun _ h9 => h9) rfl dX4_harden_69 ?_
      have hf := ok_in hf
      obtain ⟨q1, q2⟩ := Prod.mk.inj hf
      obtain ⟨q2, q3⟩ := Prod.mk.inj q2
      rw [q2, q3] at hP
      exact W.dret (v := (D_10 (18 + (p1).toNatClampNeg) 4)) hx hb hr (fun t ht hW9 => ⟨⟨(D_10 (18 + (p1).toNatClampNeg) 4), (), rfl, q1.symm, hW.of hP hK hN ht hW9⟩, hS.F ht⟩) hS.2.2 dX4_harden_72
    · have hf := it_f hf c_7
      exact (ok_ne hf).elim

def f_X4_store (I : Nat → Nat → Int32) (D : Nat → Nat → UInt64) (p1 : Int32) : Option (Except String (Int32 × (Nat → Nat → Int32) × (Nat → Nat → UInt64))) :=
  bE (f_X4_checkRange p1 (-30) (-10)) (fun _ => bE (f_X4_checkRoom (I 0 8) 3) (fun _ => ck (inB (I 0 8) 3) (nm (up2 I (30 + ((I 0 8)).toNatClampNeg) 0 p1) (fun I_6 => ck (inB (I_6 0 8) 3) (nm (up2 D (30 + ((I_6 0 8)).toNatClampNeg) 1 (FP.i2d p1)) (fun D_8 => nm (up2 I_6 0 8 ((I_6 0 8) + 1)) (fun I_9 => some (Except.ok (((I_9 0 8) - 1), I_9, D_8)))))))))
theorem iX4_store_RX4 : ∀ w ∈ u_ws RX4 TX4 14, w ∈ wsX4_store := fun w h => List.mem_cons_of_mem _ (List.mem_append_left _ (List.mem_append_left _ (List.mem_append_left _ (List.mem_append_right _ (h)))))
theorem iX4_store_RX3 : ∀ w ∈ u_ws RX3 TX3 2, w ∈ wsX4_store := fun w h => List.mem_cons_of_mem _ (List.mem_append_left _ (List.mem_append_left _ (List.mem_append_right _ (h))))
set_option maxHeartbeats 4000000 in
set_option maxRecDepth 100000 in
theorem mt_X4_store (l : Launch) (dC : Nat → ClassId) (dI : Nat → Nat → Nat) (ad : Nat → Nat) (cy : Nat → ClassId) (hJ : J33 ad) (sz : Nat) (I : Nat → Nat → Int32) (D : Nat → Nat → UInt64) (p1 : Int32) (rr : Int32) (I9 : Nat → Nat → Int32) (D9 : Nat → Nat → UInt64) (hf : f_X4_store I D p1 = some (Except.ok (rr, I9, D9))) : Met l yX4_store wsX4_store ({ frames := 1, cells := 0, slots := 0, locals := 22 }) (va_Pc [.ref (ad 0), .int p1] (fun U => U.heap.size = sz ∧ hW dC dI ad cy I D U)) (va_Qi (fun r (_ : Unit) => rr = r) (fun _ t => hW dC dI ad cy I9 D9 t) (AW ad sz)) 0 0 (AW ad sz) := by
  refine Met.ofW (cc := cX4_store) (maxL := 2) (ret := (some .int)) (by decide) rfl ?_
  intro p e s m args below meth c s₁ B hml hv
  obtain ⟨rfl, hsz, hP, hK, hN⟩ := hv
  have hx := B.exec
  have hb := B.bytes
  have hr := B.returns
  have hts := atoms_spec (ws := wsX4_store) B.pre
  have hown : s.vm.findClass RX4 = some m.cls := findClass_of_methodNamed B.named
  have hlocks := B.notSynchronized
  subst hsz
  generalize hAe : AW ad s.heap.size = A
  have hA : ∀ q : Nat, s.heap.size ≤ q → A q := fun q h => by rw [← hAe]; exact Or.inr h
  have hA33 : ∀ k, k < 33 → A (ad k) := fun k h => by rw [← hAe]; exact Or.inl ⟨k, h, rfl⟩
  have hDD : ∀ I D, va_D A (iwH ad cy I D) := fun I D => iwH_D hJ hA33 I D
  obtain ⟨H, hH⟩ : ∃ H : Heap, H = s.heap := ⟨_, rfl⟩
  have hS : va_S A s.heap H [] := by rw [hH]; exact va_S.rf
  rw [← hH]
  rw [← hH] at hP
  have hl := lv_entry ([.ref (ad 0), .int p1]) (n := 2) (Nat.le_of_ble_eq_true rfl)
  rw [lg_entry_eq]
  generalize (lg_sl ([.ref (ad 0), .int p1]) ++ List.replicate (2 - (lg_sl ([.ref (ad 0), .int p1])).length) Slot.unset).toArray = ls at hl ⊢
  have hl : lv_has ls 2 [(0, .ref (ad 0)), (1, .int p1)] := hl
  unfold f_X4_store at hf
  refine lv_iload_n hx hb dX4_store_0 rfl (lv_at hl 1 rfl) ?_
  refine lv_bipush (v := (-30)) hx hb dX4_store_1 (by decide) ?_
  refine lv_bipush (v := (-10)) hx hb dX4_store_3 (by decide) ?_
  obtain ⟨_, g_2, hf⟩ := bE_ok hf
  refine va_callv (va_runS (As := [.int p1, .int (-30), .int (-10)]) (rest := []) ⟨hx, hb, hml, hown, hts⟩ (mt_X4_checkRange l H.size p1 (-30) (-10)  g_2) (va_cwS 3 hts gX4_store_X4_checkRange rfl rfl rfl (by decide +kernel) ⟨Nat.le_of_ble_eq_true rfl, Nat.le_of_ble_eq_true rfl⟩) (pre0 [.int p1, .int (-30), .int (-10)]) rfl rfl hl.1 rfl (lv_room (Nat.le_of_ble_eq_true rfl)) dX4_store_5 ⟨Nat.le_of_ble_eq_true rfl, Nat.le_of_ble_eq_true rfl⟩) hS (fun q _ h => hA q (Nat.le_trans hS.1 h)) (fun q h => hA q (Nat.le_trans hS.1 h)) (fun u t H1 locs ht hvm hw hB hz1 hk1 hS => ?_)
  have hP := va_Pnew hP hk1
  clear hB hz1 hk1 hvm ht
  generalize H1 = H at hP hS ⊢
  refine lv_aload_n hx hb dX4_store_8 rfl (lv_at hl 0 rfl) ?_
  refine va_get (D := (dC, dI)) (ci := 4) (v := .int (I 0 8)) (C := RX4) (T := TX4) (N := 14) hx hb hts iX4_store_RX4 hown hK hP 0 heH_0 rfl 8 (by decide) (hts (.fieldLink RX4 47 "OverrunHouse" "storeCount" "I") (List.mem_cons_of_mem _ (List.mem_append_left _ (List.mem_append_left _ (List.mem_append_left _ (List.mem_append_left _ (List.mem_of_getElem? (i := 0) rfl))))))) (fun _ h9 => h9) rfl dX4_store_9 ?_
  refine lv_iconst (v := 3) hx hb dX4_store_12 (by decide) ?_
  obtain ⟨_, g_4, hf⟩ := bE_ok hf
  refine va_callv (va_runS (As := [.int (I 0 8), .int 3]) (rest := []) ⟨hx, hb, hml, hown, hts⟩ (mt_X4_checkRoom l H.size (I 0 8) 3  g_4) (va_cwS 2 hts gX4_store_X4_checkRoom rfl rfl rfl (by decide +kernel) ⟨Nat.le_of_ble_eq_true rfl, Nat.le_of_ble_eq_true rfl⟩) (pre0 [.int (I 0 8), .int 3]) rfl rfl hl.1 rfl (lv_room (Nat.le_of_ble_eq_true rfl)) dX4_store_13 ⟨Nat.le_of_ble_eq_true rfl, Nat.le_of_ble_eq_true rfl⟩) hS (fun q _ h => hA q (Nat.le_trans hS.1 h)) (fun q h => hA q (Nat.le_trans hS.1 h)) (fun u t H1 locs ht hvm hw hB hz1 hk1 hS => ?_)
  have hP := va_Pnew hP hk1
  clear hB hz1 hk1 hvm ht
  generalize H1 = H at hP hS ⊢
  refine lv_aload_n hx hb dX4_store_16 rfl (lv_at hl 0 rfl) ?_
  refine va_get (D := (dC, dI)) (ci := 4) (v := .ref (ad 4)) (C := RX4) (T := TX4) (N := 14) hx hb hts iX4_store_RX4 hown hK hP 0 heH_0 rfl 3 (by decide) (hts (.fieldLink RX4 29 "OverrunHouse" "stores" "[LOverrunHouse$Store;") (List.mem_cons_of_mem _ (List.mem_append_left _ (List.mem_append_left _ (List.mem_append_left _ (List.mem_append_left _ (List.mem_of_getElem? (i := 1) rfl))))))) (fun _ h9 => h9) rfl dX4_store_17 ?_
  refine lv_aload_n hx hb dX4_store_20 rfl (lv_at hl 0 rfl) ?_
  refine va_get (D := (dC, dI)) (ci := 4) (v := .int (I 0 8)) (C := RX4) (T := TX4) (N := 14) hx hb hts iX4_store_RX4 hown hK hP 0 heH_0 rfl 8 (by decide) (hts (.fieldLink RX4 47 "OverrunHouse" "storeCount" "I") (List.mem_cons_of_mem _ (List.mem_append_left _ (List.mem_append_left _ (List.mem_append_left _ (List.mem_append_left _ (List.mem_of_getElem? (i := 0) rfl))))))) (fun _ h9 => h9) rfl dX4_store_21 ?_
  obtain ⟨h_5, hf⟩ := ck_out hf
  refine wr_aald (b := 30) (n := 3) hx hb hK hP 4 4 heH_4 rfl (inB_in h_5) dX4_store_24 ?_
  refine lv_iload_n hx hb dX4_store_25 rfl (lv_at hl 1 rfl) ?_
  obtain ⟨I_6, eI_6, hf⟩ := nm_out hf
  refine va_putN (D := (dC, dI)) (ci := 3) (v := .int p1) (ty := .int) (C := RX3) (T := TX3) (N := 2) hx hb hts iX4_store_RX3 tyX3 tyX3_ok nmX3 hown hK hP (hDD I D) hS (30 + ((I 0 8)).toNatClampNeg) (heH_Store (inB_lt h_5)) rfl 0 (by decide) (va_Nw.use (w := .fieldLinkNest "OverrunHouse" 153 "OverrunHouse$Store" "wanted" "I" "OverrunHouse") rfl (hN _ (List.mem_of_getElem? (i := 23) rfl))) (fun _ h9 => h9) rfl (by decide +kernel) rfl rfl (Nat.le_of_ble_eq_true rfl) dX4_store_26 (fun H locs hP _ hS => ?_)
  have hP : va_P (dC, dI) vwCl (iwH ad cy I_6 D) H := by rw [eI_6]; exact hpI (by have := (inB_lt h_5); omega) ((cellH_Store ad cy (inB_lt h_5) _ _).trans rfl) hP
  refine lv_aload_n hx hb dX4_store_29 rfl (lv_at hl 0 rfl) ?_
  refine va_get (D := (dC, dI)) (ci := 4) (v := .ref (ad 4)) (C := RX4) (T := TX4) (N := 14) hx hb hts iX4_store_RX4 hown hK hP 0 heH_0 rfl 3 (by decide) (hts (.fieldLink RX4 29 "OverrunHouse" "stores" "[LOverrunHouse$Store;") (List.mem_cons_of_mem _ (List.mem_append_left _ (List.mem_append_left _ (List.mem_append_left _ (List.mem_append_left _ (List.mem_of_getElem? (i := 1) rfl))))))) (fun _ h9 => h9) rfl dX4_store_30 ?_
  refine lv_aload_n hx hb dX4_store_33 rfl (lv_at hl 0 rfl) ?_
  refine va_get (D := (dC, dI)) (ci := 4) (v := .int (I_6 0 8)) (C := RX4) (T := TX4) (N := 14) hx hb hts iX4_store_RX4 hown hK hP 0 heH_0 rfl 8 (by decide) (hts (.fieldLink RX4 47 "OverrunHouse" "storeCount" "I") (List.mem_cons_of_mem _ (List.mem_append_left _ (List.mem_append_left _ (List.mem_append_left _ (List.mem_append_left _ (List.mem_of_getElem? (i := 0) rfl))))))) (fun _ h9 => h9) rfl dX4_store_34 ?_
  obtain ⟨h_7, hf⟩ := ck_out hf
  refine wr_aald (b := 30) (n := 3) hx hb hK hP 4 4 heH_4 rfl (inB_in h_7) dX4_store_37 ?_
  refine lv_iload_n hx hb dX4_store_38 rfl (lv_at hl 1 rfl) ?_
  refine lv_i2d hx hb dX4_store_39 ?_
  obtain ⟨D_8, eD_8, hf⟩ := nm_out hf
  refine va_putN (D := (dC, dI)) (ci := 3) (v := .double (FP.i2d p1)) (ty := .double) (C := RX3) (T := TX3) (N := 2) hx hb hts iX4_store_RX3 tyX3 tyX3_ok nmX3 hown hK hP (hDD I_6 D) hS (30 + ((I_6 0 8)).toNatClampNeg) (heH_Store (inB_lt h_7)) rfl 1 (by decide) (va_Nw.use (w := .fieldLinkNest "OverrunHouse" 156 "OverrunHouse$Store" "degrees" "D" "OverrunHouse") rfl (hN _ (List.mem_of_getElem? (i := 24) rfl))) (fun _ h9 => h9) rfl (by decide +kernel) rfl rfl (Nat.le_of_ble_eq_true rfl) dX4_store_40 (fun H locs hP _ hS => ?_)
  have hP : va_P (dC, dI) vwCl (iwH ad cy I_6 D_8) H := by rw [eD_8]; exact hpD (by have := (inB_lt h_7); omega) ((cellH_Store ad cy (inB_lt h_7) _ _).trans rfl) hP
  refine lv_aload_n hx hb dX4_store_43 rfl (lv_at hl 0 rfl) ?_
  refine lv_dup hx hb dX4_store_44 rfl ?_
  refine va_get (D := (dC, dI)) (ci := 4) (v := .int (I_6 0 8)) (C := RX4) (T := TX4) (N := 14) hx hb hts iX4_store_RX4 hown hK hP 0 heH_0 rfl 8 (by decide) (hts (.fieldLink RX4 47 "OverrunHouse" "storeCount" "I") (List.mem_cons_of_mem _ (List.mem_append_left _ (List.mem_append_left _ (List.mem_append_left _ (List.mem_append_left _ (List.mem_of_getElem? (i := 0) rfl))))))) (fun _ h9 => h9) rfl dX4_store_45 ?_
  refine lv_iconst (v := 1) hx hb dX4_store_48 (by decide) ?_
  refine lv_iadd hx hb dX4_store_49 ?_
  obtain ⟨I_9, eI_9, hf⟩ := nm_out hf
  refine va_put (D := (dC, dI)) (ci := 4) (v := .int ((I_6 0 8) + 1)) (ty := .int) (C := RX4) (T := TX4) (N := 14) hx hb hts iX4_store_RX4 tyX4 tyX4_ok nmX4 hown hK hP (hDD I_6 D_8) hS 0 heH_0 rfl 8 (by decide) (hts (.fieldLink RX4 47 "OverrunHouse" "storeCount" "I") (List.mem_cons_of_mem _ (List.mem_append_left _ (List.mem_append_left _ (List.mem_append_left _ (List.mem_append_left _ (List.mem_of_getElem? (i := 0) rfl))))))) (fun _ h9 => h9) rfl (by decide +kernel) rfl rfl (Nat.le_of_ble_eq_true rfl) dX4_store_50 (fun H locs hP _ hS => ?_)
  have hP : va_P (dC, dI) vwCl (iwH ad cy I_9 D_8) H := by rw [eI_9]; exact hpI (by decide) ((cellH_0 ad cy _ _).trans rfl) hP
  refine lv_aload_n hx hb dX4_store_53 rfl (lv_at hl 0 rfl) ?_
  refine va_get (D := (dC, dI)) (ci := 4) (v := .int (I_9 0 8)) (C := RX4) (T := TX4) (N := 14) hx hb hts iX4_store_RX4 hown hK hP 0 heH_0 rfl 8 (by decide) (hts (.fieldLink RX4 47 "OverrunHouse" "storeCount" "I") (List.mem_cons_of_mem _ (List.mem_append_left _ (List.mem_append_left _ (List.mem_append_left _ (List.mem_append_left _ (List.mem_of_getElem? (i := 0) rfl))))))) (fun _ h9 => h9) rfl dX4_store_54 ?_
  refine lv_iconst (v := 1) hx hb dX4_store_57 (by decide) ?_
  refine lv_isub hx hb dX4_store_58 ?_
  have hf := ok_in hf
  obtain ⟨q1, q2⟩ := Prod.mk.inj hf
  obtain ⟨q2, q3⟩ := Prod.mk.inj q2
  rw [q2, q3] at hP
  exact W.iret (v := ((I_9 0 8) - 1)) hx hb hr (fun t ht hW9 => ⟨⟨((I_9 0 8) - 1), (), rfl, q1.symm, hW.of hP hK hN ht hW9⟩, hS.F ht⟩) hS.2.2 dX4_store_59
