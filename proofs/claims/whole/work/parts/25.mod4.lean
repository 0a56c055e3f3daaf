def f_X7_mixNow (a b : Nat) (I : Nat → Nat → Int32) (D : Nat → Nat → UInt64) (p1 : Int32) (p2 : Int32) : Option (Int32) :=
  bd (f_get2 a b I D p1) (fun r_2 => nm (fun _ => (0 : Int32)) (fun (T_8 : Nat → Int32) => bd (f_X6_all a b I D r_2) (fun r_9 => nm (upd T_8 0 r_9) (fun T_12 => nm (upd T_12 1 (I (20 + r_2) 1)) (fun T_14 => bd (f_X6_sum a b I D r_2 3) (fun r_15 => nm (upd T_14 2 r_15) (fun T_18 => bd (f_X6_harms a b I D r_2) (fun r_19 => nm (upd T_18 3 r_19) (fun T_22 => (if (I (20 + r_2) 2) = 0 then nm (upd T_22 4 0) (fun T_25 => nm (upd T_25 5 (I (20 + r_2) 3)) (fun T_27 => bd (f_X6_isCream a b I D r_2) (fun r_28 => (if r_28 = 0 then nm (upd T_27 6 0) (fun T_32 => bd (f_X6_set a b I D r_2) (fun r_33 => nm (upd T_32 7 r_33) (fun T_36 => bd (f_X7_batchesOf a b I D p1) (fun r_37 => nm (upd T_36 8 r_37) (fun T_40 => ck (inB p2 9) (some (T_40 (p2).toNatClampNeg))))))) else nm (upd T_27 6 1) (fun T_42 => bd (f_X6_set a b I D r_2) (fun r_43 => nm (upd T_42 7 r_43) (fun T_46 => bd (f_X7_batchesOf a b I D p1) (fun r_47 => nm (upd T_46 8 r_47) (fun T_50 => ck (inB p2 9) (some (T_50 (p2).toNatClampNeg))))))))))) else nm (upd T_22 4 1) (fun T_52 => nm (upd T_52 5 (I (20 + r_2) 3)) (fun T_54 => bd (f_X6_isCream a b I D r_2) (fun r_55 => (if r_55 = 0 then nm (upd T_54 6 0) (fun T_59 => bd (f_X6_set a b I D r_2) (fun r_60 => nm (upd T_59 7 r_60) (fun T_63 => bd (f_X7_batchesOf a b I D p1) (fun r_64 => nm (upd T_63 8 r_64) (fun T_67 => ck (inB p2 9) (some (T_67 (p2).toNatClampNeg))))))) else nm (upd T_54 6 1) (fun T_69 => bd (f_X6_set a b I D r_2) (fun r_70 => nm (upd T_69 7 r_70) (fun T_73 => bd (f_X7_batchesOf a b I D p1) (fun r_74 => nm (upd T_73 8 r_74) (fun T_77 => ck (inB p2 9) (some (T_77 (p2).toNatClampNeg)))))))))))))))))))))
theorem iX7_mixNow_RX7 : ∀ w ∈ u_ws RX7 TX7 9, w ∈ wsX7_mixNow := fun w h => List.mem_cons_of_mem _ (List.mem_append_left _ (List.mem_append_left _ (List.mem_append_left _ (List.mem_append_right _ (h)))))
theorem iX7_mixNow_RX6 : ∀ w ∈ u_ws RX6 TX6 5, w ∈ wsX7_mixNow := fun w h => List.mem_cons_of_mem _ (List.mem_append_left _ (List.mem_append_left _ (List.mem_append_right _ (h))))
set_option maxHeartbeats 4000000 in
set_option maxRecDepth 100000 in
theorem mt_X7_mixNow (l : Launch) (dC : Nat → ClassId) (dI : Nat → Nat → Nat) (L : List Nat) (a b : Nat) (ad : Nat → Nat) (cy : Nat → ClassId) (hM : mOK L a b ad) (sz : Nat) (I : Nat → Nat → Int32) (D : Nat → Nat → UInt64) (p1 : Int32) (p2 : Int32) (rr : Int32) (hf : f_X7_mixNow a b I D p1 p2 = some rr) : Met l yX7_mixNow wsX7_mixNow ({ frames := 7, cells := 1, slots := 9, locals := 198 }) (va_Pc [.ref (ad 0), .int p1, .int p2] (fun U => U.heap.size = sz ∧ wM dC dI L a b ad cy I D U)) (va_Qi (fun r (_ : Unit) => rr = r) (fun _ _ => True) (fun q => sz ≤ q)) 1 9 (fun q => sz ≤ q) := by
  refine Met.ofW (cc := cX7_mixNow) (maxL := 5) (ret := (some .int)) (by decide) rfl ?_
  intro p e s m args below meth c s₁ B hml hv
  obtain ⟨rfl, hsz, hP, hK, hN⟩ := hv
  have hx := B.exec
  have hb := B.bytes
  have hr := B.returns
  have hts := atoms_spec (ws := wsX7_mixNow) B.pre
  have hown : s.vm.findClass RX7 = some m.cls := findClass_of_methodNamed B.named
  have hlocks := B.notSynchronized
  subst hsz
  generalize hAe : (fun q : Nat => s.heap.size ≤ q) = A
  have hA : ∀ q : Nat, s.heap.size ≤ q → A q := fun q h => by rw [← hAe]; exact h
  have hAs : ∀ q : Nat, A q → s.heap.size ≤ q := fun q h => by rw [← hAe] at h; exact h
  have hP0 := hP
  obtain ⟨H, hH⟩ : ∃ H : Heap, H = s.heap := ⟨_, rfl⟩
  have hS : va_S A s.heap H [] := by rw [hH]; exact va_S.rf
  rw [← hH]
  rw [← hH] at hP
  have hl := lv_entry ([.ref (ad 0), .int p1, .int p2]) (n := 5) (Nat.le_of_ble_eq_true rfl)
  rw [lg_entry_eq]
  generalize (lg_sl ([.ref (ad 0), .int p1, .int p2]) ++ List.replicate (5 - (lg_sl ([.ref (ad 0), .int p1, .int p2])).length) Slot.unset).toArray = ls at hl ⊢
  have hl : lv_has ls 5 [(0, .ref (ad 0)), (1, .int p1), (2, .int p2)] := hl
  unfold f_X7_mixNow at hf
  refine lv_aload_n hx hb dX7_mixNow_0 rfl (lv_at hl 0 rfl) ?_
  obtain ⟨q_1, wq_1, heq_1⟩ := heM_0 (cy := cy) (I := I) (D := D) hM
  refine va_get (D := (dC, dI)) (ci := 8) (v := .ref (ad 2)) (C := RX7) (T := TX7) (N := 9) hx hb hts iX7_mixNow_RX7 hown hK hP q_1 heq_1 rfl 2 (by decide) (hts (.fieldLink RX7 16 "OverrunHouseModel" "mixes" "Ljava/util/List;") (List.mem_cons_of_mem _ (List.mem_append_left _ (List.mem_append_left _ (List.mem_append_left _ (List.mem_append_left _ (List.mem_append_left _ (List.mem_of_getElem? (i := 0) rfl)))))))) (fun _ h9 => h9) rfl dX7_mixNow_1 ?_
  refine lv_iload_n hx hb dX7_mixNow_4 rfl (lv_at hl 1 rfl) ?_
  obtain ⟨r_2, g_3, hf⟩ := bd_out hf
  obtain ⟨q_4, wq_4, heq_4⟩ := heM_2 (cy := cy) (I := I) (D := D) hM
  refine va_callFr (va_runF (As := [.int p1]) (rest := []) (hK.1 0 _ rfl).2 ⟨hx, hb, hml, hown, hts⟩ (mt_get2 l dC dI L a b ad cy hM H.size I D p1 r_2 g_3) (va_cwF 1 hts gX7_mixNow_Jx4a65c_get_915e3_f55Jx4a65c rfl rfl rfl hN.2.2.1 (by decide +kernel) ⟨Nat.le_of_ble_eq_true rfl, Nat.le_of_ble_eq_true rfl⟩) ⟨(wM.pre [.ref (ad 2), .int p1] hP hK hN).1, wM.recv (C := RJx4a65c) (T := TJx4a65c) (N := 3) hP hK heq_4 rfl, (wM.pre [.ref (ad 2), .int p1] hP hK hN).2⟩ rfl rfl hl.1 rfl (lv_room (Nat.le_of_ble_eq_true rfl)) dX7_mixNow_5 ⟨Nat.le_of_ble_eq_true rfl, Nat.le_of_ble_eq_true rfl⟩) hS (fun q _ h => hA q (Nat.le_trans hS.1 h)) (fun q h => hA q (Nat.le_trans hS.1 h)) (fun u r9 t H1 locs ht hvm hw hB hz1 hk1 hS => ?_)
  subst hB
  have hP := va_Pnew hP hk1
  clear hz1 hk1 hvm ht
  generalize H1 = H at hP hS ⊢
  obtain ⟨q_5, wq_5, heq_5⟩ := heM_Mixx (cy := cy) (I := I) (D := D) hM (f_get2_lt g_3)
  refine va_castS hx hb hown (hts (.classLink RX7 59 "OverrunHouseModel$Mix") (List.mem_cons_of_mem _ (List.mem_append_left _ (List.mem_append_left _ (List.mem_append_left _ (List.mem_append_left _ (List.mem_append_left _ (List.mem_of_getElem? (i := 1) rfl)))))))) (hK.1 7 _ rfl).2 (wM.recv (C := RX6) (T := TX6) (N := 5) hP hK heq_5 rfl) dX7_mixNow_10 ?_
  refine lv_astore_n (lv' := [(3, .ref (ad (20 + r_2))), (0, .ref (ad 0)), (1, .int p1), (2, .int p2)]) hx hb dX7_mixNow_13 rfl hl (by decide) rfl (fun ls hl => ?_)
  refine lv_bipush (v := 9) hx hb dX7_mixNow_14 (by decide) ?_
  obtain ⟨T_8, eT_8, hf⟩ := nm_out hf
  refine va_newa (atype := .int) (ty := .int) (N' := 9) (a0 := (9, .inl (fun _ => 0))) (ws := []) (D := (dC, dI)) (cl := vwCl) hx hb (hts (.arrayClass .int) (List.mem_cons_of_mem _ (List.mem_append_left _ (List.mem_append_left _ (List.mem_append_left _ (List.mem_append_left _ (List.mem_append_left _ (List.mem_of_getElem? (i := 2) rfl)))))))) rfl hK va_P0 va_D0 hS hA (fun cA => va_arr0 cA 9) (by decide) (by decide) (by decide) (Nat.le_of_ble_eq_true rfl) (Nat.le_of_ble_eq_true rfl) dX7_mixNow_16 (fun q_6 cA_7 H hKt hT hTD hS => ?_)
  have hT : va_P (dC, dI) vwCl [(q_6, .inl (cA_7, 9, .inl T_8))] H := by rw [eT_8]; exact hT
  have hTD : va_D A [(q_6, .inl (cA_7, 9, .inl T_8))] := by rw [eT_8]; exact hTD
  have hP := va_Pk hP0 hS hAs
  refine lv_dup hx hb dX7_mixNow_18 rfl ?_
  refine lv_iconst (v := 0) hx hb dX7_mixNow_19 (by decide) ?_
  refine lv_aload_n hx hb dX7_mixNow_20 rfl (lv_at hl 0 rfl) ?_
  obtain ⟨r_9, g_10, hf⟩ := bd_out hf
  obtain ⟨q_11, wq_11, heq_11⟩ := heM_Mixx (cy := cy) (I := I) (D := D) hM (f_get2_lt g_3)
  refine va_calli (va_runV (As := []) (rest := [.int 0, .ref q_6, .ref q_6]) ⟨hx, hb, hml, hown, hts⟩ (mt_X6_all l dC dI L a b ad cy hM H.size I D r_2 (f_get2_lt g_3) r_9 g_10) (cwV 0 hts gX7_mixNow_X6_all rfl rfl rfl (by decide +kernel) ⟨Nat.le_of_ble_eq_true rfl, Nat.le_of_ble_eq_true rfl⟩) ⟨(wM.pre [.ref (ad (20 + r_2))] hP hK hN).1, wM.recv (C := RX6) (T := TX6) (N := 5) hP hK heq_11 rfl, (wM.pre [.ref (ad (20 + r_2))] hP hK hN).2⟩ rfl rfl hl.1 rfl (lv_room (Nat.le_of_ble_eq_true rfl)) dX7_mixNow_21 ⟨Nat.le_of_ble_eq_true rfl, Nat.le_of_ble_eq_true rfl⟩) hS (fun q _ h => hA q (Nat.le_trans hS.1 h)) (fun q h => hA q (Nat.le_trans hS.1 h)) (fun r9 u t H1 locs ht hvm hw hB hz1 hk1 hS => ?_)
  subst hw
  have hP := va_Pnew hP hk1
  have hT := va_Pnew hT hk1
  clear hz1 hk1 hvm ht hB
  generalize H1 = H at hP hT hS ⊢
  obtain ⟨T_12, eT_12, hf⟩ := nm_out hf
  refine va_iast (n := 9) (f := T_8) hx hb hKt hT hTD hS 0 8 rfl rfl (inB_in (n := 9) (i := 0) rfl) dX7_mixNow_24 (fun H locs hT hTD hS => ?_)
  have hT : va_P (dC, dI) vwCl [(q_6, .inl (cA_7, 9, .inl T_12))] H := by rw [eT_12]; exact hT
  have hTD : va_D A [(q_6, .inl (cA_7, 9, .inl T_12))] := by rw [eT_12]; exact hTD
  have hP := va_Pk hP0 hS hAs
  refine lv_dup hx hb dX7_mixNow_25 rfl ?_
  refine lv_iconst (v := 1) hx hb dX7_mixNow_26 (by decide) ?_
  refine lv_aload_n hx hb dX7_mixNow_27 rfl (lv_at hl 0 rfl) ?_
  obtain ⟨q_13, wq_13, heq_13⟩ := heM_Mixx (cy := cy) (I := I) (D := D) hM (f_get2_lt g_3)
  refine va_get (D := (dC, dI)) (ci := 7) (v := .int (I (20 + r_2) 1)) (C := RX6) (T := TX6) (N := 5) hx hb hts iX7_mixNow_RX6 hown hK hP q_13 heq_13 rfl 1 (by decide) (hts (.fieldLink RX7 102 "OverrunHouseModel$Mix" "left" "I") (List.mem_cons_of_mem _ (List.mem_append_left _ (List.mem_append_left _ (List.mem_append_left _ (List.mem_append_left _ (List.mem_append_left _ (List.mem_of_getElem? (i := 3) rfl)))))))) (fun _ h9 => h9) rfl dX7_mixNow_28 ?_
  obtain ⟨T_14, eT_14, hf⟩ := nm_out hf
  refine va_iast (n := 9) (f := T_12) hx hb hKt hT hTD hS 0 8 rfl rfl (inB_in (n := 9) (i := 1) rfl) dX7_mixNow_31 (fun H locs hT hTD hS => ?_)
  have hT : va_P (dC, dI) vwCl [(q_6, .inl (cA_7, 9, .inl T_14))] H := by rw [eT_14]; exact hT
  have hTD : va_D A [(q_6, .inl (cA_7, 9, .inl T_14))] := by rw [eT_14]; exact hTD
  have hP := va_Pk hP0 hS hAs
  refine lv_dup hx hb dX7_mixNow_32 rfl ?_
  refine lv_iconst (v := 2) hx hb dX7_mixNow_33 (by decide) ?_
  refine lv_aload_n hx hb dX7_mixNow_34 rfl (lv_at hl 0 rfl) ?_
  refine lv_iconst (v := 3) hx hb dX7_mixNow_35 (by decide) ?_
  obtain ⟨r_15, g_16, hf⟩ := bd_out hf
  obtain ⟨q_17, wq_17, heq_17⟩ := heM_Mixx (cy := cy) (I := I) (D := D) hM (f_get2_lt g_3)
  refine va_calli (va_runV (As := [.int 3]) (rest := [.int 2, .ref q_6, .ref q_6]) ⟨hx, hb, hml, hown, hts⟩ (mt_X6_sum l dC dI L a b ad cy hM H.size I D r_2 (f_get2_lt g_3) 3 r_15 g_16) (cwV 1 hts gX7_mixNow_X6_sum rfl rfl rfl (by decide +kernel) ⟨Nat.le_of_ble_eq_true rfl, Nat.le_of_ble_eq_true rfl⟩) ⟨(wM.pre [.ref (ad (20 + r_2)), .int 3] hP hK hN).1, wM.recv (C := RX6) (T := TX6) (N := 5) hP hK heq_17 rfl, (wM.pre [.ref (ad (20 + r_2)), .int 3] hP hK hN).2⟩ rfl rfl hl.1 rfl (lv_room (Nat.le_of_ble_eq_true rfl)) dX7_mixNow_36 ⟨Nat.le_of_ble_eq_true rfl, Nat.le_of_ble_eq_true rfl⟩) hS (fun q _ h => hA q (Nat.le_trans hS.1 h)) (fun q h => hA q (Nat.le_trans hS.1 h)) (fun r9 u t H1 locs ht hvm hw hB hz1 hk1 hS => ?_)
  subst hw
  have hP := va_Pnew hP hk1
  have hT := va_Pnew hT hk1
  clear hz1 hk1 hvm ht hB
  generalize H1 = H at hP hT hS ⊢
  obtain ⟨T_18, eT_18, hf⟩ := nm_out hf
  refine va_iast (n := 9) (f := T_14) hx hb hKt hT hTD hS 0 8 rfl rfl (inB_in (n := 9) (i := 2) rfl) dX7_mixNow_39 (fun H locs hT hTD hS => ?_)
  have hT : va_P (dC, dI) vwCl [(q_6, .inl (cA_7, 9, .inl T_18))] H := by rw [eT_18]; exact hT
  have hTD : va_D A [(q_6, .inl (cA_7, 9, .inl T_18))] := by rw [eT_18]; exact hTD
  have hP := va_Pk hP0 hS hAs
  refine lv_dup hx hb dX7_mixNow_40 rfl ?_
  refine lv_iconst (v := 3) hx hb dX7_mixNow_41 (by decide) ?_
  refine lv_aload_n hx hb dX7_mixNow_42 rfl (lv_at hl 0 rfl) ?_
  obtain ⟨r_19, g_20, hf⟩ := bd_out hf
  obtain ⟨q_21, wq_21, heq_21⟩ := heM_Mixx (cy := cy) (I := I) (D := D) hM (f_get2_lt g_3)
  refine va_calli (va_runV (As := []) (rest := [.int 3, .ref q_6, .ref q_6]) ⟨hx, hb, hml, hown, hts⟩ (mt_X6_harms l dC dI L a b ad cy hM H.size I D r_2 (f_get2_lt g_3) r_19 g_20) (cwV 0 hts gX7_mixNow_X6_harms rfl rfl rfl (by decide +kernel) ⟨Nat.le_of_ble_eq_true rfl, Nat.le_of_ble_eq_true rfl⟩) ⟨(wM.pre [.ref (ad (20 + r_2))] hP hK hN).1, wM.recv (C := RX6) (T := TX6) (N := 5) hP hK heq_21 rfl, (wM.pre [.ref (ad (20 + r_2))] hP hK hN).2⟩ rfl rfl hl.1 rfl (lv_room (Nat.le_of_ble_eq_true rfl)) dX7_mixNow_43 ⟨Nat.le_of_ble_eq_true rfl, Nat.le_of_ble_eq_true rfl⟩) hS (fun q _ h => hA q (Nat.le_trans hS.1 h)) (fun q h => hA q (Nat.le_trans hS.1 h)) (fun r9 u t H1 locs ht hvm hw hB hz1 hk1 hS => ?_)
  subst hw
  have hP := va_Pnew hP hk1
  have hT := va_Pnew hT hk1
  clear hz1 hk1 hvm ht hB
  generalize H1 = H at hP hT hS ⊢
  obtain ⟨T_22, eT_22, hf⟩ := nm_out hf
  refine va_iast (n := 9) (f := T_18) hx hb hKt hT hTD hS 0 8 rfl rfl (inB_in (n := 9) (i := 3) rfl) dX7_mixNow_46 (fun H locs hT hTD hS => ?_)
  have hT : va_P (dC, dI) vwCl [(q_6, .inl (cA_7, 9, .inl T_22))] H := by rw [eT_22]; exact hT
  have hTD : va_D A [(q_6, .inl (cA_7, 9, .inl T_22))] := by rw [eT_22]; exact hTD
  have hP := va_Pk hP0 hS hAs
  refine lv_dup hx hb dX7_mixNow_47 rfl ?_
  refine lv_iconst (v := 4) hx hb dX7_mixNow_48 (by decide) ?_
  refine lv_aload_n hx hb dX7_mixNow_49 rfl (lv_at hl 0 rfl) ?_
  obtain ⟨q_23, wq_23, heq_23⟩ := heM_Mixx (cy := cy) (I := I) (D := D) hM (f_get2_lt g_3)
  refine va_get (D := (dC, dI)) (ci := 7) (v := .int (I (20 + r_2) 2)) (C := RX6) (T := TX6) (N := 5) hx hb hts iX7_mixNow_RX6 hown hK hP q_23 heq_23 rfl 2 (by decide) (hts (.fieldLink RX7 95 "OverrunHouseModel$Mix" "isProved" "Z") (List.mem_cons_of_mem _ (List.mem_append_left _ (List.mem_append_left _ (List.mem_append_left _ (List.mem_append_left _ (List.mem_append_left _ (List.mem_of_getElem? (i := 4) rfl)))))))) (fun _ h9 => h9) rfl dX7_mixNow_50 ?_
  refine lv_if_eq (tgt := 60) hx hb dX7_mixNow_53 (by decide) (fun c_24 => ?_) (fun c_24 => ?_)
  · have hf := it_t hf c_24
    refine lv_iconst (v := 0) hx hb dX7_mixNow_60 (by decide) ?_
    obtain ⟨T_25, eT_25, hf⟩ := nm_out hf
    refine va_iast (n := 9) (f := T_22) hx hb hKt hT hTD hS 0 8 rfl rfl (inB_in (n := 9) (i := 4) rfl) dX7_mixNow_61 (fun H locs hT hTD hS => ?_)
    have hT : va_P (dC, dI) vwCl [(q_6, .inl (cA_7, 9, .inl T_25))] H := by rw [eT_25]; exact hT
    have hTD : va_D A [(q_6, .inl (cA_7, 9, .inl T_25))] := by rw [eT_25]; exact hTD
    have hP := va_Pk hP0 hS hAs
    refine lv_dup hx hb dX7_mixNow_62 rfl ?_
    refine lv_iconst (v := 5) hx hb dX7_mixNow_63 (by decide) ?_
    refine lv_aload_n hx hb dX7_mixNow_64 rfl (lv_at hl 0 rfl) ?_
    obtain ⟨q_26, wq_26, heq_26⟩ := heM_Mixx (cy := cy) (I := I) (D := D) hM (f_get2_lt g_3)
    refine va_get (D := (dC, dI)) (ci := 7) (v := .int (I (20 + r_2) 3)) (C := RX6) (T := TX6) (N := 5) hx hb hts iX7_mixNow_RX6 hown hK hP q_26 heq_26 rfl 3 (by decide) (hts (.fieldLink RX7 99 "OverrunHouseModel$Mix" "age" "I") (List.mem_cons_of_mem _ (List.mem_append_left _ (List.mem_append_left _ (List.mem_append_left _ (List.mem_append_left _ (List.mem_append_left _ (List.mem_of_getElem? (i := 5) rfl)))))))) (fun _ h9 => h9) rfl dX7_mixNow_65 ?_
    obtain ⟨T_27, eT_27, hf⟩ := nm_out hf
    refine va_iast (n := 9) (f := T_25) hx hb hKt hT hTD hS 0 8 rfl rfl (inB_in (n := 9) (i := 5) rfl) dX7_mixNow_68 (fun H locs hT hTD hS => ?_)
    have hT : va_P (dC, dI) vwCl [(q_6, .inl (cA_7, 9, .inl T_27))] H := by rw [eT_27]; exact hT
    have hTD : va_D A [(q_6, .inl (cA_7, 9, .inl T_27))] := by rw [eT_27]; exact hTD
    have hP := va_Pk hP0 hS hAs
    refine lv_dup hx hb dX7_mixNow_69 rfl ?_
    refine lv_bipush (v := 6) hx hb dX7_mixNow_70 (by decide) ?_
    refine lv_aload_n hx hb dX7_mixNow_72 rfl (lv_at hl 0 rfl) ?_
    obtain ⟨r_28, g_29, hf⟩ := bd_out hf
    obtain ⟨q_30, wq_30, heq_30⟩ := heM_Mixx (cy := cy) (I := I) (D := D) hM (f_get2_lt g_3)
    refine va_calli (va_runV (As := []) (rest := [.int 6, .ref q_6, .ref q_6]) ⟨hx, hb, hml, hown, hts⟩ (mt_X6_isCream l dC dI L a b ad cy hM H.size I D r_2 (f_get2_lt g_3) r_28 g_29) (cwV 0 hts gX7_mixNow_X6_isCream rfl rfl rfl (by decide +kernel) ⟨Nat.le_of_ble_eq_true rfl, Nat.le_of_ble_eq_true rfl⟩) ⟨(wM.pre [.ref (ad (20 + r_2))] hP hK hN).1, wM.recv (C := RX6) (T := TX6) (N := 5) hP hK heq_30 rfl, (wM.pre [.ref (ad (20 + r_2))] hP hK hN).2⟩ rfl rfl hl.1 rfl (lv_room (Nat.le_of_ble_eq_true rfl)) dX7_mixNow_73 ⟨Nat.le_of_ble_eq_true rfl, Nat.le_of_ble_eq_true rfl⟩) hS (fun q _ h => hA q (Nat.le_trans hS.1 h)) (fun q h => hA q (Nat.le_trans hS.1 h)) (fun r9 u t H1 locs ht hvm hw hB hz1 hk1 hS => ?_)
    subst hw
    have hP := va_Pnew hP hk1
    have hT := va_Pnew hT hk1
    clear hz1 hk1 hvm ht hB
    generalize H1 = H at hP hT hS ⊢
    refine lv_if_eq (tgt := 83) hx hb dX7_mixNow_76 (by decide) (fun c_31 => ?_) (fun c_31 => ?_)
    · have hf := it_t hf c_31
      refine lv_iconst (v := 0) hx hb dX7_mixNow_83 (by decide) ?_
      obtain ⟨T_32, eT_32, hf⟩ := nm_out hf
      refine va_iast (n := 9) (f := T_27) hx hb hKt hT hTD hS 0 8 rfl rfl (inB_in (n := 9) (i := 6) rfl) dX7_mixNow_84 (fun H locs hT hTD hS => ?_)
      have hT : va_P (dC, dI) vwCl [(q_6, .inl (cA_7, 9, .inl T_32))] H := by rw [eT_32]; exact hT
      have hTD : va_D A [(q_6, .inl (cA_7, 9, .inl T_32))] := by rw [eT_32]; exact hTD
      have hP := va_Pk hP0 hS hAs
      refine lv_dup hx hb dX7_mixNow_85 rfl ?_
      refine lv_bipush (v := 7) hx hb dX7_mixNow_86 (by decide) ?_
      refine lv_aload_n hx hb dX7_mixNow_88 rfl (lv_at hl 0 rfl) ?_
      obtain ⟨r_33, g_34, hf⟩ := bd_out hf
      obtain ⟨q_35, wq_35, heq_35⟩ := heM_Mixx (cy := cy) (I := I) (D := D) hM (f_get2_lt g_3)
      refine va_calli (va_runV (As := []) (rest := [.int 7, .ref q_6, .ref q_6]) ⟨hx, hb, hml, hown, hts⟩ (mt_X6_set l dC dI L a b ad cy hM H.size I D r_2 (f_get2_lt g_3) r_33 g_34) (cwV 0 hts gX7_mixNow_X6_set rfl rfl rfl (by decide +kernel) ⟨Nat.le_of_ble_eq_true rfl, Nat.le_of_ble_eq_true rfl⟩) ⟨(wM.pre [.ref (ad (20 + r_2))] hP hK hN).1, wM.recv (C := RX6) (T := TX6) (N := 5) hP hK heq_35 rfl, (wM.pre [.ref (ad (20 + r_2))] hP hK hN).2⟩ rfl rfl hl.1 rfl (lv_room (Nat.le_of_ble_eq_true rfl)) dX7_mixNow_89 ⟨Nat.le_of_ble_eq_true rfl, Nat.le_of_ble_eq_true rfl⟩) hS (fun q _ h => hA q (Nat.le_trans hS.1 h)) (fun q h => hA q (Nat.le_trans hS.1 h)) (fun r9 u t H1 locs ht hvm hw hB hz1 hk1 hS => ?_)
      subst hw
      have hP := va_Pnew hP hk1
      have hT := va_Pnew hT hk1
      clear hz1 hk1 hvm ht hB
      generalize H1 = H at hP hT hS ⊢
      obtain ⟨T_36, eT_36, hf⟩ := nm_out hf
      refine va_iast (n := 9) (f := T_32) hx hb hKt hT hTD hS 0 8 rfl rfl (inB_in (n := 9) (i := 7) rfl) dX7_mixNow_92 (fun H locs hT hTD hS => ?_)
      have hT : va_P (dC, dI) vwCl [(q_6, .inl (cA_7, 9, .inl T_36))] H := by rw [eT_36]; exact hT
      have hTD : va_D A [(q_6, .inl (cA_7, 9, .inl T_36))] := by rw [eT_36]; exact hTD
      have hP := va_Pk hP0 hS hAs
      refine lv_dup hx hb dX7_mixNow_93 rfl ?_
      refine lv_bipush (v := 8) hx hb dX7_mixNow_94 (by decide) ?_
      refine lv_aload_n hx hb dX7_mixNow_96 rfl (lv_at hl 1 rfl) ?_
      refine lv_iload_n hx hb dX7_mixNow_97 rfl (lv_at hl 2 rfl) ?_
      obtain ⟨r_37, g_38, hf⟩ := bd_out hf
      obtain ⟨q_39, wq_39, heq_39⟩ := heM_0 (cy := cy) (I := I) (D := D) hM
      refine va_calli (va_runV (As := [.int p1]) (rest := [.int 8, .ref q_6, .ref q_6]) ⟨hx, hb, hml, hown, hts⟩ (mt_X7_batchesOf l dC dI L a b ad cy hM H.size I D p1 r_37 g_38) (cwV 1 hts gX7_mixNow_X7_batchesOf rfl rfl rfl (by decide +kernel) ⟨Nat.le_of_ble_eq_true rfl, Nat.le_of_ble_eq_true rfl⟩) ⟨(wM.pre [.ref (ad 0), .int p1] hP hK hN).1, wM.recv (C := RX7) (T := TX7) (N := 9) hP hK heq_39 rfl, (wM.pre [.ref (ad 0), .int p1] hP hK hN).2⟩ rfl rfl hl.1 rfl (lv_room (Nat.le_of_ble_eq_true rfl)) dX7_mixNow_98 ⟨Nat.le_of_ble_eq_true rfl, Nat.le_of_ble_eq_true rfl⟩) hS (fun q _ h => hA q (Nat.le_trans hS.1 h)) (fun q h => hA q (Nat.le_trans hS.1 h)) (fun r9 u t H1 locs ht hvm hw hB hz1 hk1 hS => ?_)
      subst hw
      have hP := va_Pnew hP hk1
      have hT := va_Pnew hT hk1
      clear hz1 hk1 hvm ht hB
      generalize H1 = H at hP hT hS ⊢
      obtain ⟨T_40, eT_40, hf⟩ := nm_out hf
      refine va_iast (n := 9) (f := T_36) hx hb hKt hT hTD hS 0 8 rfl rfl (inB_in (n := 9) (i := 8) rfl) dX7_mixNow_101 (fun H locs hT hTD hS => ?_)
      have hT : va_P (dC, dI) vwCl [(q_6, .inl (cA_7, 9, .inl T_40))] H := by rw [eT_40]; exact hT
      have hTD : va_D A [(q_6, .inl (cA_7, 9, .inl T_40))] := by rw [eT_40]; exact hTD
      have hP := va_Pk hP0 hS hAs
      refine lv_astore (lv' := [(4, .ref q_6), (3, .ref (ad (20 + r_2))), (0, .ref (ad 0)), (1, .int p1), (2, .int p2)]) hx hb dX7_mixNow_102 hl (by decide) rfl (fun ls hl => ?_)
      refine lv_aload hx hb dX7_mixNow_104 (lv_at hl 0 rfl) ?_
      refine lv_iload_n hx hb dX7_mixNow_106 rfl (lv_at hl 4 rfl) ?_
      obtain ⟨h_41, hf⟩ := ck_out hf
      refine va_iald (n := 9) (f := T_40) hx hb hKt hT 0 8 rfl rfl (inB_in h_41) dX7_mixNow_107 ?_
      have hf := Option.some.inj hf
      have q1 := hf
      exact W.iret (v := (T_40 (p2).toNatClampNeg)) hx hb hr (fun t ht hW9 => ⟨⟨(T_40 (p2).toNatClampNeg), (), rfl, q1.symm, trivial⟩, hS.F ht⟩) hS.2.2 dX7_mixNow_108
    · have hf := it_f hf c_31
      refine lv_iconst (v := 1) hx hb dX7_mixNow_79 (by decide) ?_
      refine lv_goto (tgt := 84) hx hb dX7_mixNow_80 (by decide) ?_
      obtain ⟨T_42, eT_42, hf⟩ := nm_out hf
      refine va_iast (n := 9) (f := T_27) hx hb hKt hT hTD hS 0 8 rfl rfl (inB_in (n := 9) (i := 6) rfl) dX7_mixNow_84 (fun H locs hT hTD hS => ?_)
      have hT : va_P (dC, dI) vwCl [(q_6, .inl (cA_7, 9, .inl T_42))] H := by rw [eT_42]; exact hT
      have hTD : va_D A [(q_6, .inl (cA_7, 9, .inl T_42))] := by rw [eT_42]; exact hTD
      have hP := va_Pk hP0 hS hAs
      refine lv_dup hx hb dX7_mixNow_85 rfl ?_
      refine lv_bipush (v := 7) hx hb dX7_mixNow_86 (by decide) ?_
      refine lv_aload_n hx hb dX7_mixNow_88 rfl (lv_at hl 0 rfl) ?_
      obtain ⟨r_43, g_44, hf⟩ := bd_out hf
      obtain ⟨q_45, wq_45, heq_45⟩ := heM_Mixx (cy := cy) (I := I) (D := D) hM (f_get2_lt g_3)
      refine va_calli (va_runV (As := []) (rest := [.int 7, .ref q_6, .ref q_6]) ⟨hx, hb, hml, hown, hts⟩ (mt_X6_set l dC dI L a b ad cy hM H.size I D r_2 (f_get2_lt g_3) r_43 g_44) (cwV 0 hts gX7_mixNow_X6_set rfl rfl rfl (by decide +kernel) ⟨Nat.le_of_ble_eq_true rfl, Nat.le_of_ble_eq_true rfl⟩) ⟨(wM.pre [.ref (ad (20 + r_2))] hP hK hN).1, wM.recv (C := RX6) (T := TX6) (N := 5) hP hK heq_45 rfl, (wM.pre [.ref (ad (20 + r_2))] hP hK hN).2⟩ rfl rfl hl.1 rfl (lv_room (Nat.le_of_ble_eq_true rfl)) dX7_mixNow_89 ⟨Nat.le_of_ble_eq_true rfl, Nat.le_of_ble_eq_true rfl⟩) hS (fun q _ h => hA q (Nat.le_trans hS.1 h)) (fun q h => hA q (Nat.le_trans hS.1 h)) (fun r9 u t H1 locs ht hvm hw hB hz1 hk1 hS => ?_)
      subst hw
      have hP := va_Pnew hP hk1
      have hT := va_Pnew hT hk1
      clear hz1 hk1 hvm ht hB
      generalize H1 = H at hP hT hS ⊢
      obtain ⟨T_46, eT_46, hf⟩ := nm_out hf
      refine va_iast (n := 9) (f := T_42) hx hb hKt hT hTD hS 0 8 rfl rfl (inB_in (n := 9) (i := 7) rfl) dX7_mixNow_92 (fun H locs hT hTD hS => ?_)
      have hT : va_P (dC, dI) vwCl [(q_6, .inl (cA_7, 9, .inl T_46))] H := by rw [eT_46]; exact hT
      have hTD : va_D A [(q_6, .inl (cA_7, 9, .inl T_46))] := by rw [eT_46]; exact hTD
      have hP := va_Pk hP0 hS hAs
      refine lv_dup hx hb dX7_mixNow_93 rfl ?_
      refine lv_bipush (v := 8) hx hb dX7_mixNow_94 (by decide) ?_
      refine lv_aload_n hx hb dX7_mixNow_96 rfl (lv_at hl 1 rfl) ?_
      refine lv_iload_n hx hb dX7_mixNow_97 rfl (lv_at hl 2 rfl) ?_
      obtain ⟨r_47, g_48, hf⟩ := bd_out hf
      obtain ⟨q_49, wq_49, heq_49⟩ := heM_0 (cy := cy) (I := I) (D := D) hM
      refine va_calli (va_runV (As := [.int p1]) (rest := [.int 8, .ref q_6, .ref q_6]) ⟨hx, hb, hml, hown, hts⟩ (mt_X7_batchesOf l dC dI L a b ad cy hM H.size I D p1 r_47 g_48) (cwV 1 hts gX7_mixNow_X7_batchesOf rfl rfl rfl (by decide +kernel) ⟨Nat.le_of_ble_eq_true rfl, Nat.le_of_ble_eq_true rfl⟩) ⟨(wM.pre [.ref (ad 0), .int p1] hP hK hN).1, wM.recv (C := RX7) (T := TX7) (N := 9) hP hK heq_49 rfl, (wM.pre [.ref (ad 0), .int p1] hP hK hN).2⟩ rfl rfl hl.1 rfl (lv_room (Nat.le_of_ble_eq_true rfl)) dX7_mixNow_98 ⟨Nat.le_of_ble_eq_true rfl, Nat.le_of_ble_eq_true rfl⟩) hS (fun q _ h => hA q (Nat.le_trans hS.1 h)) (fun q h => hA q (Nat.le_trans hS.1 h)) (fun r9 u t H1 locs ht hvm hw hB hz1 hk1 hS => ?_)
      subst hw
      have hP := va_Pnew hP hk1
      have hT := va_Pnew hT hk1
      clear hz1 hk1 hvm ht hB
      generalize H1 = H at hP hT hS ⊢
      obtain ⟨T_50, eT_50, hf⟩ := nm_out hf
      refine va_iast (n := 9) (f := T_46) hx hb hKt hT hTD hS 0 8 rfl rfl (inB_in (n := 9) (i := 8) rfl) dX7_mixNow_101 (fun H locs hT hTD hS => ?_)
      have hT : va_P (dC, dI) vwCl [(q_6, .inl (cA_7, 9, .inl T_50))] H := by rw [eT_50]; exact hT
      have hTD : va_D A [(q_6, .inl (cA_7, 9, .inl T_50))] := by rw [eT_50]; exact hTD
      have hP := va_Pk hP0 hS hAs
      refine lv_astore (lv' := [(4, .ref q_6), (3, .ref (ad (20 + r_2))), (0, .ref (ad 0)), (1, .int p1), (2, .int p2)]) hx hb dX7_mixNow_102 hl (by decide) rfl (fun ls hl => ?_)
      refine lv_aload hx hb dX7_mixNow_104 (lv_at hl 0 rfl) ?_
      refine lv_iload_n hx hb dX7_mixNow_106 rfl (lv_at hl 4 rfl) ?_
      obtain ⟨h_51, hf⟩ := ck_out hf
      refine va_iald (n := 9) (f := T_50) hx hb hKt hT 0 8 rfl rfl (inB_in h_51) dX7_mixNow_107 ?_
      have hf := Option.some.inj hf
      have q1 := hf
      exact W.iret (v := (T_50 (p2).toNatClampNeg)) hx hb hr (fun t ht hW9 => ⟨⟨(T_50 (p2).toNatClampNeg), (), rfl, q1.symm, trivial⟩, hS.F ht⟩) hS.2.2 dX7_mixNow_108
  · have hf := it_f hf c_24
    refine lv_iconst (v := 1) hx hb dX7_mixNow_56 (by decide) ?_
    refine lv_goto (tgt := 61) hx hb dX7_mixNow_57 (by decide) ?_
    obtain ⟨T_52, eT_52, hf⟩ := nm_out hf
    refine va_iast (n := 9) (f := T_22) hx hb hKt hT hTD hS 0 8 rfl rfl (inB_in (n := 9) (i := 4) rfl) dX7_mixNow_61 (fun H locs hT hTD hS => ?_)
    have hT : va_P (dC, dI) vwCl [(q_6, .inl (cA_7, 9, .inl T_52))] H := by rw [eT_52]; exact hT
    have hTD : va_D A [(q_6, .inl (cA_7, 9, .inl T_52))] := by rw [eT_52]; exact hTD
    have hP := va_Pk hP0 hS hAs
    refine lv_dup hx hb dX7_mixNow_62 rfl ?_
    refine lv_iconst (v := 5) hx hb dX7_mixNow_63 (by decide) ?_
    refine lv_aload_n hx hb dX7_mixNow_64 rfl (lv_at hl 0 rfl) ?_
    obtain ⟨q_53, wq_53, heq_53⟩ := heM_Mixx (cy := cy) (I := I) (D := D) hM (f_get2_lt g_3)
    refine va_get (D := (dC, dI)) (ci := 7) (v := .int (I (20 + r_2) 3)) (C := RX6) (T := TX6) (N := 5) hx hb hts iX7_mixNow_RX6 hown hK hP q_53 heq_53 rfl 3 (by decide) (hts (.fieldLink RX7 99 "OverrunHouseModel$Mix" "age" "I") (List.mem_cons_of_mem _ (List.mem_append_left _ (List.mem_append_left _ (List.mem_append_left _ (List.mem_append_left _ (List.mem_append_left _ (List.mem_of_getElem? (i := 5) rfl)))))))) (fun _ h9 => h9) rfl dX7_mixNow_65 ?_
    obtain ⟨T_54, eT_54, hf⟩ := nm_out hf
    refine va_iast (n := 9) (f := T_52) hx hb hKt hT hTD hS 0 8 rfl rfl (inB_in (n := 9) (i := 5) rfl) dX7_mixNow_68 (fun H locs hT hTD hS => ?_)
    have hT : va_P (dC, dI) vwCl [(q_6, .inl (cA_7, 9, .inl T_54))] H := by rw [eT_54]; exact hT
    have hTD : va_D A [(q_6, .inl (cA_7, 9, .inl T_54))] := by rw [eT_54]; exact hTD
    have hP := va_Pk hP0 hS hAs
    refine lv_dup hx hb dX7_mixNow_69 rfl ?_
    refine lv_bipush (v := 6) hx hb dX7_mixNow_70 (by decide) ?_
    refine lv_aload_n hx hb dX7_mixNow_72 rfl (lv_at hl 0 rfl) ?_
    obtain ⟨r_55, g_56, hf⟩ := bd_out hf
    obtain ⟨q_57, wq_57, heq_57⟩ := heM_Mixx (cy := cy) (I := I) (D := D) hM (f_get2_lt g_3)
    refine va_calli (va_runV (As := []) (rest := [.int 6, .ref q_6, .ref q_6]) ⟨hx, hb, hml, hown, hts⟩ (mt_X6_isCream l dC dI L a b ad cy hM H.size I D r_2 (f_get2_lt g_3) r_55 g_56) (cwV 0 hts gX7_mixNow_X6_isCream rfl rfl rfl (by decide +kernel) ⟨Nat.le_of_ble_eq_true rfl, Nat.le_of_ble_eq_true rfl⟩) ⟨(wM.pre [.ref (ad (20 + r_2))] hP hK hN).1, wM.recv (C := RX6) (T := TX6) (N := 5) hP hK heq_57 rfl, (wM.pre [.ref (ad (20 + r_2))] hP hK hN).2⟩ rfl rfl hl.1 rfl (lv_room (Nat.le_of_ble_eq_true rfl)) dX7_mixNow_73 ⟨Nat.le_of_ble_eq_true rfl, Nat.le_of_ble_eq_true rfl⟩) hS (fun q _ h => hA q (Nat.le_trans hS.1 h)) (fun q h => hA q (Nat.le_trans hS.1 h)) (fun r9 u t H1 locs ht hvm hw hB hz1 hk1 hS => ?_)
    subst hw
    have hP := va_Pnew hP hk1
    have hT := va_Pnew hT hk1
    clear hz1 hk1 hvm ht hB
    generalize H1 = H at hP hT hS ⊢
    refine lv_if_eq (tgt := 83) hx hb dX7_mixNow_76 (by decide) (fun c_58 => ?_) (fun c_58 => ?_)
    · have hf := it_t hf c_58
      refine lv_iconst (v := 0) hx hb dX7_mixNow_83 (by decide) ?_
      obtain ⟨T_59, eT_59, hf⟩ := nm_out hf
      refine va_iast (n := 9) (f := T_54) hx hb hKt hT hTD hS 0 8 rfl rfl (inB_in (n := 9) (i := 6) rfl) dX7_mixNow_84 (fun H locs hT hTD hS => ?_)
      have hT : va_P (dC, dI) vwCl [(q_6, .inl (cA_7, 9, .inl T_59))] H := by rw [eT_59]; exact hT
      have hTD : va_D A [(q_6, .inl (cA_7, 9, .inl T_59))] := by rw [eT_59]; exact hTD
      have hP := va_Pk hP0 hS hAs
      refine lv_dup hx hb dX7_mixNow_85 rfl ?_
      refine lv_bipush (v := 7) hx hb dX7_mixNow_86 (by decide) ?_
      refine lv_aload_n hx hb dX7_mixNow_88 rfl (lv_at hl 0 rfl) ?_
      obtain ⟨r_60, g_61, hf⟩ := bd_out hf
      obtain ⟨q_62, wq_62, heq_62⟩ := heM_Mixx (cy := cy) (I := I) (D := D) hM (f_get2_lt g_3)
      refine va_calli (va_runV (As := []) (rest := [.int 7, .ref q_6, .ref q_6]) ⟨hx, hb, hml, hown, hts⟩ (mt_X6_set l dC dI L a b ad cy hM H.size I D r_2 (f_get2_lt g_3) r_60 g_61) (cwV 0 hts gX7_mixNow_X6_set rfl rfl rfl (by decide +kernel) ⟨Nat.le_of_ble_eq_true rfl, Nat.le_of_ble_eq_true rfl⟩) ⟨(wM.pre [.ref (ad (20 + r_2))] hP hK hN).1, wM.recv (C := RX6) (T := TX6) (N := 5) hP hK heq_62 rfl, (wM.pre [.ref (ad (20 + r_2))] hP hK hN).2⟩ rfl rfl hl.1 rfl (lv_room (Nat.le_of_ble_eq_true rfl)) dX7_mixNow_89 ⟨Nat.le_of_ble_eq_true rfl, Nat.le_of_ble_eq_true rfl⟩) hS (fun q _ h => hA q (Nat.le_trans hS.1 h)) (fun q h => hA q (Nat.le_trans hS.1 h)) (fun r9 u t H1 locs ht hvm hw hB hz1 hk1 hS => ?_)
      subst hw
      have hP := va_Pnew hP hk1
      have hT := va_Pnew hT hk1
      clear hz1 hk1 hvm ht hB
      generalize H1 = H at hP hT hS ⊢
      obtain ⟨T_63, eT_63, hf⟩ := nm_out hf
      refine va_iast (n := 9) (f := T_59) hx hb hKt hT hTD hS 0 8 rfl rfl (inB_in (n := 9) (i := 7) rfl) dX7_mixNow_92 (fun H locs hT hTD hS => ?_)
      have hT : va_P (dC, dI) vwCl [(q_6, .inl (cA_7, 9, .inl T_63))] H := by rw [eT_63]; exact hT
      have hTD : va_D A [(q_6, .inl (cA_7, 9, .inl T_63))] := by rw [eT_63]; exact hTD
      have hP := va_Pk hP0 hS hAs
      refine lv_dup hx hb dX7_mixNow_93 rfl ?_
      refine lv_bipush (v := 8) hx hb dX7_mixNow_94 (by decide) ?_
      refine lv_aload_n hx hb dX7_mixNow_96 rfl (lv_at hl 1 rfl) ?_
      refine lv_iload_n hx hb dX7_mixNow_97 rfl (lv_at hl 2 rfl) ?_
      obtain ⟨r_64, g_65, hf⟩ := bd_out hf
      obtain ⟨q_66, wq_66, heq_66⟩ := heM_0 (cy := cy) (I := I) (D := D) hM
      refine va_calli (va_runV (As := [.int p1]) (rest := [.int 8, .ref q_6, .ref q_6]) ⟨hx, hb, hml, hown, hts⟩ (mt_X7_batchesOf l dC dI L a b ad cy hM H.size I D p1 r_64 g_65) (cwV 1 hts gX7_mixNow_X7_batchesOf rfl rfl rfl (by decide +kernel) ⟨Nat.le_of_ble_eq_true rfl, Nat.le_of_ble_eq_true rfl⟩) ⟨(wM.pre [.ref (ad 0), .int p1] hP hK hN).1, wM.recv (C := RX7) (T := TX7) (N := 9) hP hK heq_66 rfl, (wM.pre [.ref (ad 0), .int p1] hP hK hN).2⟩ rfl rfl hl.1 rfl (lv_room (Nat.le_of_ble_eq_true rfl)) dX7_mixNow_98 ⟨Nat.le_of_ble_eq_true rfl, Nat.le_of_ble_eq_true rfl⟩) hS (fun q _ h => hA q (Nat.le_trans hS.1 h)) (fun q h => hA q (Nat.le_trans hS.1 h)) (fun r9 u t H1 locs ht hvm hw hB hz1 hk1 hS => ?_)
      subst hw
      have hP := va_Pnew hP hk1
      have hT := va_Pnew hT hk1
      clear hz1 hk1 hvm ht hB
      generalize H1 = H at hP hT hS ⊢
      obtain ⟨T_67, eT_67, hf⟩ := nm_out hf
      refine va_iast (n := 9) (f := T_63) hx hb hKt hT hTD hS 0 8 rfl rfl (inB_in (n := 9) (i := 8) rfl) dX7_mixNow_101 (fun H locs hT hTD hS => ?_)
      have hT : va_P (dC, dI) vwCl [(q_6, .inl (cA_7, 9, .inl T_67))] H := by rw [eT_67]; exact hT
      have hTD : va_D A [(q_6, .inl (cA_7, 9, .inl T_67))] := by rw [eT_67]; exact hTD
      have hP := va_Pk hP0 hS hAs
      refine lv_astore (lv' := [(4, .ref q_6), (3, .ref (ad (20 + r_2))), (0, .ref (ad 0)), (1, .int p1), (2, .int p2)]) hx hb dX7_mixNow_102 hl (by decide) rfl (fun ls hl => ?_)
      refine lv_aload hx hb dX7_mixNow_104 (lv_at hl 0 rfl) ?_
      refine lv_iload_n hx hb dX7_mixNow_106 rfl (lv_at hl 4 rfl) ?_
      obtain ⟨h_68, hf⟩ := ck_out hf
      refine va_iald (n := 9) (f := T_67) hx hb hKt hT 0 8 rfl rfl (inB_in h_68) dX7_mixNow_107 ?_
      have hf := Option.some.inj hf
      have q1 := hf
      exact W.iret (v := (T_67 (p2).toNatClampNeg)) hx hb hr (fun t ht hW9 => ⟨⟨(T_67 (p2).toNatClampNeg), (), rfl, q1.symm, trivial⟩, hS.F ht⟩) hS.2.2 dX7_mixNow_108
    · have hf := it_f hf c_58
      refine lv_iconst (v := 1) hx hb dX7_mixNow_79 (by decide) ?_
      refine lv_goto (tgt := 84) hx hb dX7_mixNow_80 (by decide) ?_
      obtain ⟨T_69, eT_69, hf⟩ := nm_out hf
      refine va_iast (n := 9) (f := T_54) hx hb hKt hT hTD hS 0 8 rfl rfl (inB_in (n := 9) (i := 6) rfl) dX7_mixNow_84 (fun H locs hT hTD hS => ?_)
      have hT : va_P (dC, dI) vwCl [(q_6, .inl (cA_7, 9, .inl T_69))] H := by rw [eT_69]; exact hT
      have hTD : va_D A [(q_6, .inl (cA_7, 9, .inl T_69))] := by rw [eT_69]; exact hTD
      have hP := va_Pk hP0 hS hAs
      refine lv_dup hx hb dX7_mixNow_85 rfl ?_
      refine lv_bipush (v := 7) hx hb dX7_mixNow_86 (by decide) ?_
      refine lv_aload_n hx hb dX7_mixNow_88 rfl (lv_at hl 0 rfl) ?_
      obtain ⟨r_70, g_71, hf⟩ := bd_out hf
      obtain ⟨q_72, wq_72, heq_72⟩ := heM_Mixx (cy := cy) (I := I) (D := D) hM (f_get2_lt g_3)
      refine va_calli (va_runV (As := []) (rest := [.int 7, .ref q_6, .ref q_6]) ⟨hx, hb, hml, hown, hts⟩ (mt_X6_set l dC dI L a b ad cy hM H.size I D r_2 (f_get2_lt g_3) r_70 g_71) (cwV 0 hts gX7_mixNow_X6_set rfl rfl rfl (by decide +kernel) ⟨Nat.le_of_ble_eq_true rfl, Nat.le_of_ble_eq_true rfl⟩) ⟨(wM.pre [.ref (ad (20 + r_2))] hP hK hN).1, wM.recv (C := RX6) (T := TX6) (N := 5) hP hK heq_72 rfl, (wM.pre [.ref (ad (20 + r_2))] hP hK hN).2⟩ rfl rfl hl.1 rfl (lv_room (Nat.le_of_ble_eq_true rfl)) dX7_mixNow_89 ⟨Nat.le_of_ble_eq_true rfl, Nat.le_of_ble_eq_true rfl⟩) hS (fun q _ h => hA q (Nat.le_trans hS.1 h)) (fun q h => hA q (Nat.le_trans hS.1 h)) (fun r9 u t H1 locs ht hvm hw hB hz1 hk1 hS => ?_)
      subst hw
      have hP := va_Pnew hP hk1
      have hT := va_Pnew hT hk1
      clear hz1 hk1 hvm ht hB
      generalize H1 = H at hP hT hS ⊢
      obtain ⟨T_73, eT_73, hf⟩ := nm_out hf
      refine va_iast (n := 9) (f := T_69) hx hb hKt hT hTD hS 0 8 rfl rfl (inB_in (n := 9) (i := 7) rfl) dX7_mixNow_92 (fun H locs hT hTD hS => ?_)
      have hT : va_P (dC, dI) vwCl [(q_6, .inl (cA_7, 9, .inl T_73))] H := by rw [eT_73]; exact hT
      have hTD : va_D A [(q_6, .inl (cA_7, 9, .inl T_73))] := by rw [eT_73]; exact hTD
      have hP := va_Pk hP0 hS hAs
      refine lv_dup hx hb dX7_mixNow_93 rfl ?_
      refine lv_bipush (v := 8) hx hb dX7_mixNow_94 (by decide) ?_
      refine lv_aload_n hx hb dX7_mixNow_96 rfl (lv_at hl 1 rfl) ?_
      refine lv_iload_n hx hb dX7_mixNow_97 rfl (lv_at hl 2 rfl) ?_
      obtain ⟨r_74, g_75, hf⟩ := bd_out hf
      obtain ⟨q_76, wq_76, heq_76⟩ := heM_0 (cy := cy) (I := I) (D := D) hM
      refine va_calli (va_runV (As := [.int p1]) (rest := [.int 8, .ref q_6, .ref q_6]) ⟨hx, hb, hml, hown, hts⟩ (mt_X7_batchesOf l dC dI L a b ad cy hM H.size I D p1 r_74 g_75) (cwV 1 hts gX7_mixNow_X7_batchesOf rfl rfl rfl (by decide +kernel) ⟨Nat.le_of_ble_eq_true rfl, Nat.le_of_ble_eq_true rfl⟩) ⟨(wM.pre [.ref (ad 0), .int p1] hP hK hN).1, wM.recv (C := RX7) (T := TX7) (N := 9) hP hK heq_76 rfl, (wM.pre [.ref (ad 0), .int p1] hP hK hN).2⟩ rfl rfl hl.1 rfl (lv_room (Nat.le_of_ble_eq_true rfl)) dX7_mixNow_98 ⟨Nat.le_of_ble_eq_true rfl, Nat.le_of_ble_eq_true rfl⟩) hS (fun q _ h => hA q (Nat.le_trans hS.1 h)) (fun q h => hA q (Nat.le_trans hS.1 h)) (fun r9 u t H1 locs ht hvm hw hB hz1 hk1 hS => ?_)
      subst hw
      have hP := va_Pnew hP hk1
      have hT := va_Pnew hT hk1
      clear hz1 hk1 hvm ht hB
      generalize H1 = H at hP hT hS ⊢
      obtain ⟨T_77, eT_77, hf⟩ := nm_out hf
      refine va_iast (n := 9) (f := T_73) hx hb hKt hT hTD hS 0 8 rfl rfl (inB_in (n := 9) (i := 8) rfl) dX7_mixNow_101 (fun H locs hT hTD hS => ?_)
      have hT : va_P (dC, dI) vwCl [(q_6, .inl (cA_7, 9, .inl T_77))] H := by rw [eT_77]; exact hT
      have hTD : va_D A [(q_6, .inl (cA_7, 9, .inl T_77))] := by rw [eT_77]; exact hTD
      have hP := va_Pk hP0 hS hAs
      refine lv_astore (lv' := [(4, .ref q_6), (3, .ref (ad (20 + r_2))), (0, .ref (ad 0)), (1, .int p1), (2, .int p2)]) hx hb dX7_mixNow_102 hl (by decide) rfl (fun ls hl => ?_)
      refine lv_aload hx hb dX7_mixNow_104 (lv_at hl 0 rfl) ?_
      refine lv_iload_n hx hb dX7_mixNow_106 rfl (lv_at hl 4 rfl) ?_
      obtain ⟨h_78, hf⟩ := ck_out hf
      refine va_iald (n := 9) (f := T_77) hx hb hKt hT 0 8 rfl rfl (inB_in h_78) dX7_mixNow_107 ?_
      have hf := Option.some.inj hf
      have q1 := hf
      exact W.iret (v := (T_77 (p2).toNatClampNeg)) hx hb hr (fun t ht hW9 => ⟨⟨(T_77 (p2).toNatClampNeg), (), rfl, q1.symm, trivial⟩, hS.F ht⟩) hS.2.2 dX7_mixNow_108

def f_X7_ofMix (a b : Nat) (I : Nat → Nat → Int32) (D : Nat → Nat → UInt64) (p1 : Int32) (p2 : Int32) : Option (Int32 × (Nat → Nat → Int32) × (Nat → Nat → UInt64)) :=
  nm (up2 I 0 0 0) (fun I_2 => bd (f_X7_isMix a b I_2 D p1) (fun r_3 => (if r_3 = 0 then bd (f_X7_no a b I_2 D 1) (fun (r_18, I_20, D_21) => some (r_18, I_20, D_21)) else bd (f_X7_in p2 0 8) (fun r_7 => (if r_7 = 0 then bd (f_X7_no a b I_2 D 2) (fun (r_13, I_15, D_16) => some (r_13, I_15, D_16)) else bd (f_X7_mixNow a b I_2 D p1 p2) (fun r_10 => some (r_10, I_2, D)))))))
theorem iX7_ofMix_RX7 : ∀ w ∈ u_ws RX7 TX7 9, w ∈ wsX7_ofMix := fun w h => List.mem_cons_of_mem _ (List.mem_append_left _ (List.mem_append_left _ (List.mem_append_left _ (List.mem_append_right _ (h)))))
set_option maxHeartbeats 4000000 in
set_option maxRecDepth 100000 in
theorem mt_X7_ofMix (l : Launch) (dC : Nat → ClassId) (dI : Nat → Nat → Nat) (L : List Nat) (a b : Nat) (ad : Nat → Nat) (cy : Nat → ClassId) (hM : mOK L a b ad) (sz : Nat) (I : Nat → Nat → Int32) (D : Nat → Nat → UInt64) (p1 : Int32) (p2 : Int32) (rr : Int32) (I9 : Nat → Nat → Int32) (D9 : Nat → Nat → UInt64) (hf : f_X7_ofMix a b I D p1 p2 = some (rr, I9, D9)) : Met l yX7_ofMix wsX7_ofMix ({ frames := 8, cells := 1, slots := 9, locals := 222 }) (va_Pc [.ref (ad 0), .int p1, .int p2] (fun U => U.heap.size = sz ∧ wM dC dI L a b ad cy I D U)) (va_Qi (fun r (_ : Unit) => rr = r) (fun _ t => wM dC dI L a b ad cy I9 D9 t) (AM L ad sz)) 1 9 (AM L ad sz) := by
  refine Met.ofW (cc := cX7_ofMix) (maxL := 3) (ret := (some .int)) (by decide) rfl ?_
  intro p e s m args below meth c s₁ B hml hv
  obtain ⟨rfl, hsz, hP, hK, hN⟩ := hv
  have hx := B.exec
  have hb := B.bytes
  have hr := B.returns
  have hts := atoms_spec (ws := wsX7_ofMix) B.pre
  have hown : s.vm.findClass RX7 = some m.cls := findClass_of_methodNamed B.named
  have hlocks := B.notSynchronized
  subst hsz
  generalize hAe : AM L ad s.heap.size = A
  have hA : ∀ q : Nat, s.heap.size ≤ q → A q := fun q h => by rw [← hAe]; exact Or.inr h
  have hAL : ∀ k, k ∈ L → A (ad k) := fun k h => by rw [← hAe]; exact Or.inl ⟨k, h, rfl⟩
  have hDD : ∀ I D, va_D A (iwM L a b ad cy I D) := fun I D => iwM_D hM hAL I D
  obtain ⟨H, hH⟩ : ∃ H : Heap, H = s.heap := ⟨_, rfl⟩
  have hS : va_S A s.heap H [] := by rw [hH]; exact va_S.rf
  rw [← hH]
  rw [← hH] at hP
  have hl := lv_entry ([.ref (ad 0), .int p1, .int p2]) (n := 3) (Nat.le_of_ble_eq_true rfl)
  rw [lg_entry_eq]
  generalize (lg_sl ([.ref (ad 0), .int p1, .int p2]) ++ List.replicate (3 - (lg_sl ([.ref (ad 0), .int p1, .int p2])).length) Slot.unset).toArray = ls at hl ⊢
  have hl : lv_has ls 3 [(0, .ref (ad 0)), (1, .int p1), (2, .int p2)] := hl
  unfold f_X7_ofMix at hf
  refine lv_aload_n hx hb dX7_ofMix_0 rfl (lv_at hl 0 rfl) ?_
  refine lv_iconst (v := 0) hx hb dX7_ofMix_1 (by decide) ?_
  obtain ⟨q_1, wq_1, heq_1⟩ := heM_0 (cy := cy) (I := I) (D := D) hM
  obtain ⟨I_2, eI_2, hf⟩ := nm_out hf
  refine va_put (D := (dC, dI)) (ci := 8) (v := .int 0) (ty := .int) (C := RX7) (T := TX7) (N := 9) hx hb hts iX7_ofMix_RX7 tyX7 tyX7_ok nmX7 hown hK hP (hDD I D) hS q_1 heq_1 rfl 0 (by decide) (hts (.fieldLink RX7 32 "OverrunHouseModel" "thrown" "I") (List.mem_cons_of_mem _ (List.mem_append_left _ (List.mem_append_left _ (List.mem_append_left _ (List.mem_append_left _ (List.mem_append_left _ (List.mem_of_getElem? (i := 0) rfl)))))))) (fun _ h9 => h9) rfl (by decide +kernel) rfl rfl (Nat.le_of_ble_eq_true rfl) dX7_ofMix_2 (fun H locs hP _ hS => ?_)
  have hP : va_P (dC, dI) vwCl (iwM L a b ad cy I_2 D) H := by rw [eI_2]; exact hqI hM wq_1 ((cellM_0 ad cy a b _ _).trans rfl) hP
  refine lv_aload_n hx hb dX7_ofMix_5 rfl (lv_at hl 0 rfl) ?_
  refine lv_iload_n hx hb dX7_ofMix_6 rfl (lv_at hl 1 rfl) ?_
  obtain ⟨r_3, g_4, hf⟩ := bd_out hf
  obtain ⟨q_5, wq_5, heq_5⟩ := heM_0 (cy := cy) (I := I_2) (D := D) hM
  refine va_calli (va_runV (As := [.int p1]) (rest := []) ⟨hx, hb, hml, hown, hts⟩ (mt_X7_isMix l dC dI L a b ad cy hM H.size I_2 D p1 r_3 g_4) (cwV 1 hts gX7_ofMix_X7_isMix rfl rfl rfl (by decide +kernel) ⟨Nat.le_of_ble_eq_true rfl, Nat.le_of_ble_eq_true rfl⟩) ⟨(wM.pre [.ref (ad 0), .int p1] hP hK hN).1, wM.recv (C := RX7) (T := TX7) (N := 9) hP hK heq_5 rfl, (wM.pre [.ref (ad 0), .int p1] hP hK hN).2⟩ rfl rfl hl.1 rfl (lv_room (Nat.le_of_ble_eq_true rfl)) dX7_ofMix_7 ⟨Nat.le_of_ble_eq_true rfl, Nat.le_of_ble_eq_true rfl⟩) hS (fun q _ h => hA q (Nat.le_trans hS.1 h)) (fun q h => hA q (Nat.le_trans hS.1 h)) (fun r9 u t H1 locs ht hvm hw hB hz1 hk1 hS => ?_)
  subst hw
  have hP := va_Pnew hP hk1
  clear hz1 hk1 hvm ht hB
  generalize H1 = H at hP hS ⊢
  refine lv_if_ne (tgt := 19) hx hb dX7_ofMix_10 (by decide) (fun c_6 => ?_) (fun c_6 => ?_)
  · have hf := it_f hf c_6
    refine lv_iload_n hx hb dX7_ofMix_19 rfl (lv_at hl 2 rfl) ?_
    refine lv_iconst (v := 0) hx hb dX7_ofMix_20 (by decide) ?_
    refine lv_bipush (v := 8) hx hb dX7_ofMix_21 (by decide) ?_
    obtain ⟨r_7, g_8, hf⟩ := bd_out hf
    refine va_calli (va_runS (As := [.int p2, .int 0, .int 8]) (rest := []) ⟨hx, hb, hml, hown, hts⟩ (mt_X7_in l H.size p2 0 8 r_7 g_8) (va_cwS 3 hts gX7_ofMix_X7_in rfl rfl rfl (by decide +kernel) ⟨Nat.le_of_ble_eq_true rfl, Nat.le_of_ble_eq_true rfl⟩) (pre0 [.int p2, .int 0, .int 8]) rfl rfl hl.1 rfl (lv_room (Nat.le_of_ble_eq_true rfl)) dX7_ofMix_23 ⟨Nat.le_of_ble_eq_true rfl, Nat.le_of_ble_eq_true rfl⟩) hS (fun q _ h => hA q (Nat.le_trans hS.1 h)) (fun q h => hA q (Nat.le_trans hS.1 h)) (fun r9 u t H1 locs ht hvm hw hB hz1 hk1 hS => ?_)
    subst hw
    have hP := va_Pnew hP hk1
    clear hz1 hk1 hvm ht hB
    generalize H1 = H at hP hS ⊢
    refine lv_if_ne (tgt := 35) hx hb dX7_ofMix_26 (by decide) (fun c_9 => ?_) (fun c_9 => ?_)
    · have hf := it_f hf c_9
      refine lv_aload_n hx hb dX7_ofMix_35 rfl (lv_at hl 0 rfl) ?_
      refine lv_iload_n hx hb dX7_ofMix_36 rfl (lv_at hl 1 rfl) ?_
      refine lv_iload_n hx hb dX7_ofMix_37 rfl (lv_at hl 2 rfl) ?_
      obtain ⟨r_10, g_11, hf⟩ := bd_out hf
      obtain ⟨q_12, wq_12, heq_12⟩ := heM_0 (cy := cy) (I := I_2) (D := D) hM
      refine va_calli (va_runV (As := [.int p1, .int p2]) (rest := []) ⟨hx, hb, hml, hown, hts⟩ (mt_X7_mixNow l dC dI L a b ad cy hM H.size I_2 D p1 p2 r_10 g_11) (cwV 2 hts gX7_ofMix_X7_mixNow rfl rfl rfl (by decide +kernel) ⟨Nat.le_of_ble_eq_true rfl, Nat.le_of_ble_eq_true rfl⟩) ⟨(wM.pre [.ref (ad 0), .int p1, .int p2] hP hK hN).1, wM.recv (C := RX7) (T := TX7) (N := 9) hP hK heq_12 rfl, (wM.pre [.ref (ad 0), .int p1, .int p2] hP hK hN).2⟩ rfl rfl hl.1 rfl (lv_room (Nat.le_of_ble_eq_true rfl)) dX7_ofMix_38 ⟨Nat.le_of_ble_eq_true rfl, Nat.le_of_ble_eq_true rfl⟩) hS (fun q _ h => hA q (Nat.le_trans hS.1 h)) (fun q h => hA q (Nat.le_trans hS.1 h)) (fun r9 u t H1 locs ht hvm hw hB hz1 hk1 hS => ?_)
      subst hw
      have hP := va_Pnew hP hk1
      clear hz1 hk1 hvm ht hB
      generalize H1 = H at hP hS ⊢
      have hf := Option.some.inj hf
      obtain ⟨q1, q2⟩ := Prod.mk.inj hf
      obtain ⟨q2, q3⟩ := Prod.mk.inj q2
      rw [q2, q3] at hP
      exact W.iret (v := r_10) hx hb hr (fun t ht hW9 => ⟨⟨r_10, (), rfl, q1.symm, wM.of hP hK hN ht hW9⟩, hS.F ht⟩) hS.2.2 dX7_ofMix_41
    · have hf := it_t hf c_9
      refine lv_aload_n hx hb dX7_ofMix_29 rfl (lv_at hl 0 rfl) ?_
      refine lv_iconst (v := 2) hx hb dX7_ofMix_30 (by decide) ?_
      obtain ⟨⟨r_13, I_15, D_16⟩, g_14, hf⟩ := bd_out hf
      obtain ⟨q_17, wq_17, heq_17⟩ := heM_0 (cy := cy) (I := I_2) (D := D) hM
      have hAW : ∀ q, AM L ad H.size q → A q := fun q h => h.elim (fun ⟨k, k1, k2⟩ => k2 ▸ hAL k k1) (fun h => hA q (Nat.le_trans hS.1 h))
      refine va_calli (va_runV (As := [.int 2]) (rest := []) ⟨hx, hb, hml, hown, hts⟩ (mt_X7_no l dC dI L a b ad cy hM H.size I_2 D 2 r_13 I_15 D_16 g_14) (cwV 1 hts gX7_ofMix_X7_no rfl rfl rfl (by decide +kernel) ⟨Nat.le_of_ble_eq_true rfl, Nat.le_of_ble_eq_true rfl⟩) ⟨(wM.pre [.ref (ad 0), .int 2] hP hK hN).1, wM.recv (C := RX7) (T := TX7) (N := 9) hP hK heq_17 rfl, (wM.pre [.ref (ad 0), .int 2] hP hK hN).2⟩ rfl rfl hl.1 rfl (lv_room (Nat.le_of_ble_eq_true rfl)) dX7_ofMix_31 ⟨Nat.le_of_ble_eq_true rfl, Nat.le_of_ble_eq_true rfl⟩) hS (fun q _ h => hAW q h) hAW (fun r9 u t H1 locs ht hvm hw hB hz1 hk1 hS => ?_)
      subst hw
      have hP : va_P (dC, dI) vwCl (iwM L a b ad cy I_15 D_16) H1 := by rw [← ht]; exact hB.1
      clear hz1 hk1 hvm ht hB
      generalize H1 = H at hP hS ⊢
      have hf := Option.some.inj hf
      obtain ⟨q1, q2⟩ := Prod.mk.inj hf
      obtain ⟨q2, q3⟩ := Prod.mk.inj q2
      rw [q2, q3] at hP
      refine W.widen (k := 1) (n := 9) (Nat.le_of_ble_eq_true rfl) (Nat.le_of_ble_eq_true rfl) ?_
      exact W.iret (v := r_13) hx hb hr (fun t ht hW9 => ⟨⟨r_13, (), rfl, q1.symm, wM.of hP hK hN ht hW9⟩, hS.F ht⟩) hS.2.2 dX7_ofMix_34
  · have hf := it_t hf c_6
    refine lv_aload_n hx hb dX7_ofMix_13 rfl (lv_at hl 0 rfl) ?_
    refine lv_iconst (v := 1) hx hb dX7_ofMix_14 (by decide) ?_
    obtain ⟨⟨r_18, I_20, D_21⟩, g_19, hf⟩ := bd_out hf
    obtain ⟨q_22, wq_22, heq_22⟩ := heM_0 (cy := cy) (I := I_2) (D := D) hM
    have hAW : ∀ q, AM L ad H.size q → A q := fun q h => h.elim (fun ⟨k, k1, k2⟩ => k2 ▸ hAL k k1) (fun h => hA q (Nat.le_trans hS.1 h))
    refine va_calli (va_runV (As := [.int 1]) (rest := []) ⟨hx, hb, hml, hown, hts⟩ (mt_X7_no l dC dI L a b ad cy hM H.size I_2 D 1 r_18 I_20 D_21 g_19) (cwV 1 hts gX7_ofMix_X7_no rfl rfl rfl (by decide +kernel) ⟨Nat.le_of_ble_eq_true rfl, Nat.le_of_ble_eq_true rfl⟩) ⟨(wM.pre [.ref (ad 0), .int 1] hP hK hN).1, wM.recv (C := RX7) (T := TX7) (N := 9) hP hK heq_22 rfl, (wM.pre [.ref (ad 0), .int 1] hP hK hN).2⟩ rfl rfl hl.1 rfl (lv_room (Nat.le_of_ble_eq_true rfl)) dX7_ofMix_15 ⟨Nat.le_of_ble_eq_true rfl, Nat.le_of_ble_eq_true rfl⟩) hS (fun q _ h => hAW q h) hAW (fun r9 u t H1 locs ht hvm hw hB hz1 hk1 hS => ?_)
    subst hw
    have hP : va_P (dC, dI) vwCl (iwM L a b ad cy I_20 D_21) H1 := by rw [← ht]; exact hB.1
    clear hz1 hk1 hvm ht hB
    generalize H1 = H at hP hS ⊢
    have hf := Option.some.inj hf
    obtain ⟨q1, q2⟩ := Prod.mk.inj hf
    obtain ⟨q2, q3⟩ := Prod.mk.inj q2
    rw [q2, q3] at hP
    refine W.widen (k := 1) (n := 9) (Nat.le_of_ble_eq_true rfl) (Nat.le_of_ble_eq_true rfl) ?_
    exact W.iret (v := r_18) hx hb hr (fun t ht hW9 => ⟨⟨r_18, (), rfl, q1.symm, wM.of hP hK hN ht hW9⟩, hS.F ht⟩) hS.2.2 dX7_ofMix_18

def f_X7_batchNow (a b : Nat) (I : Nat → Nat → Int32) (D : Nat → Nat → UInt64) (p1 : Int32) (p2 : Int32) : Option (Int32) :=
  nm (fun _ => (0 : Int32)) (fun (T_3 : Nat → Int32) => ck (inB p1 12) (nm (upd T_3 0 (I (5 + 1) (p1).toNatClampNeg)) (fun T_8 => ck (inB p1 12) (nm (upd T_8 1 (I (5 + 2) (p1).toNatClampNeg)) (fun T_13 => ck (inB p1 12) ((if (I (5 + 3) (p1).toNatClampNeg) = 0 then nm (upd T_13 2 0) (fun T_19 => ck (inB p1 12) (nm (upd T_19 3 (I (5 + 4) (p1).toNatClampNeg)) (fun T_24 => bd (f_X5_isCoarse a b I D 5 p1) (fun r_26 => (if r_26 = 0 then nm (upd T_24 4 0) (fun T_30 => bd (f_X7_isCalled a b I D p1) (fun r_31 => (if r_31 = 0 then nm (upd T_30 5 0) (fun T_35 => ck (inB p2 6) (some (T_35 (p2).toNatClampNeg))) else nm (upd T_30 5 1) (fun T_37 => ck (inB p2 6) (some (T_37 (p2).toNatClampNeg)))))) else nm (upd T_24 4 1) (fun T_39 => bd (f_X7_isCalled a b I D p1) (fun r_40 => (if r_40 = 0 then nm (upd T_39 5 0) (fun T_44 => ck (inB p2 6) (some (T_44 (p2).toNatClampNeg))) else nm (upd T_39 5 1) (fun T_46 => ck (inB p2 6) (some (T_46 (p2).toNatClampNeg))))))))))) else nm (upd T_13 2 1) (fun T_48 => ck (inB p1 12) (nm (upd T_48 3 (I (5 + 4) (p1).toNatClampNeg)) (fun T_53 => bd (f_X5_isCoarse a b I D 5 p1) (fun r_55 => (if r_55 = 0 then nm (upd T_53 4 0) (fun T_59 => bd (f_X7_isCalled a b I D p1) (fun r_60 => (if r_60 = 0 then nm (upd T_59 5 0) (fun T_64 => ck (inB p2 6) (some (T_64 (p2).toNatClampNeg))) else nm (upd T_59 5 1) (fun T_66 => ck (inB p2 6) (some (T_66 (p2).toNatClampNeg)))))) else nm (upd T_53 4 1) (fun T_68 => bd (f_X7_isCalled a b I D p1) (fun r_69 => (if r_69 = 0 then nm (upd T_68 5 0) (fun T_73 => ck (inB p2 6) (some (T_73 (p2).toNatClampNeg))) else nm (upd T_68 5 1) (fun T_75 => ck (inB p2 6) (some (T_75 (p2).toNatClampNeg))))))))))))))))))
theorem iX7_batchNow_RX5 : ∀ w ∈ u_ws RX5 TX5 10, w ∈ wsX7_batchNow := fun w h => List.mem_cons_of_mem _ (List.mem_append_left _ (List.mem_append_left _ (List.mem_append_right _ (h))))
theorem iX7_batchNow_RX7 : ∀ w ∈ u_ws RX7 TX7 9, w ∈ wsX7_batchNow := fun w h => List.mem_cons_of_mem _ (List.mem_append_left _ (List.mem_append_left _ (List.mem_append_left _ (List.mem_append_right _ (h)))))
set_option maxHeartbeats 4000000 in
set_option maxRecDepth 100000 in
theorem mt_X7_batchNow (l : Launch) (dC : Nat → ClassId) (dI : Nat → Nat → Nat) (L : List Nat) (a b : Nat) (ad : Nat → Nat) (cy : Nat → ClassId) (hM : mOK L a b ad) (sz : Nat) (I : Nat → Nat → Int32) (D : Nat → Nat → UInt64) (p1 : Int32) (p2 : Int32) (rr : Int32) (hf : f_X7_batchNow a b I D p1 p2 = some rr) : Met l yX7_batchNow wsX7_batchNow ({ frames := 5, cells := 1, slots := 6, locals := 155 }) (va_Pc [.ref (ad 0), .int p1, .int p2] (fun U => U.heap.size = sz ∧ wM dC dI L a b ad cy I D U)) (va_Qi (fun r (_ : Unit) => rr = r) (fun _ _ => True) (fun q => sz ≤ q)) 1 6 (fun q => sz ≤ q) := by
  refine Met.ofW (cc := cX7_batchNow) (maxL := 4) (ret := (some .int)) (by decide) rfl ?_
  intro p e s m args below meth c s₁ B hml hv
  obtain ⟨rfl, hsz, hP, hK, hN⟩ := hv
  have hx := B.exec
  have hb := B.bytes
  have hr := B.returns
  have hts := atoms_spec (ws := wsX7_batchNow) B.pre
  have hown : s.vm.findClass RX7 = some m.cls := findClass_of_methodNamed B.named
  have hlocks := B.notSynchronized
  subst hsz
  generalize hAe : (fun q : Nat => s.heap.size ≤ q) = A
  have hA : ∀ q : Nat, s.heap.size ≤ q → A q := fun q h => by rw [← hAe]; exact h
  have hAs : ∀ q : Nat, A q → s.heap.size ≤ q := fun q h => by rw [← hAe] at h; exact h
  have hP0 := hP
  obtain ⟨H, hH⟩ : ∃ H : Heap, H = s.heap := ⟨_, rfl⟩
  have hS : va_S A s.heap H [] := by rw [hH]; exact va_S.rf
  rw [← hH]
  rw [← hH] at hP
  have hl := lv_entry ([.ref (ad 0), .int p1, .int p2]) (n := 4) (Nat.le_of_ble_eq_true rfl)
  rw [lg_entry_eq]
  generalize (lg_sl ([.ref (ad 0), .int p1, .int p2]) ++ List.replicate (4 - (lg_sl ([.ref (ad 0), .int p1, .int p2])).length) Slot.unset).toArray = ls at hl ⊢
  have hl : lv_has ls 4 [(0, .ref (ad 0)), (1, .int p1), (2, .int p2)] := hl
  unfold f_X7_batchNow at hf
  refine lv_bipush (v := 6) hx hb dX7_batchNow_0 (by decide) ?_
  obtain ⟨T_3, eT_3, hf⟩ := nm_out hf
  refine va_newa (atype := .int) (ty := .int) (N' := 6) (a0 := (6, .inl (fun _ => 0))) (ws := []) (D := (dC, dI)) (cl := vwCl) hx hb (hts (.arrayClass .int) (List.mem_cons_of_mem _ (List.mem_append_left _ (List.mem_append_left _ (List.mem_append_left _ (List.mem_append_left _ (List.mem_append_left _ (List.mem_of_getElem? (i := 0) rfl)))))))) rfl hK va_P0 va_D0 hS hA (fun cA => va_arr0 cA 6) (by decide) (by decide) (by decide) (Nat.le_of_ble_eq_true rfl) (Nat.le_of_ble_eq_true rfl) dX7_batchNow_2 (fun q_1 cA_2 H hKt hT hTD hS => ?_)
  have hT : va_P (dC, dI) vwCl [(q_1, .inl (cA_2, 6, .inl T_3))] H := by rw [eT_3]; exact hT
  have hTD : va_D A [(q_1, .inl (cA_2, 6, .inl T_3))] := by rw [eT_3]; exact hTD
  have hP := va_Pk hP0 hS hAs
  refine lv_dup hx hb dX7_batchNow_4 rfl ?_
  refine lv_iconst (v := 0) hx hb dX7_batchNow_5 (by decide) ?_
  refine lv_aload_n hx hb dX7_batchNow_6 rfl (lv_at hl 0 rfl) ?_
  obtain ⟨q_4, wq_4, heq_4⟩ := heM_0 (cy := cy) (I := I) (D := D) hM
  refine va_get (D := (dC, dI)) (ci := 8) (v := .ref (ad 5)) (C := RX7) (T := TX7) (N := 9) hx hb hts iX7_batchNow_RX7 hown hK hP q_4 heq_4 rfl 3 (by decide) (hts (.fieldLink RX7 24 "OverrunHouseModel" "cold" "LOverrunHouseModel$Cold;") (List.mem_cons_of_mem _ (List.mem_append_left _ (List.mem_append_left _ (List.mem_append_left _ (List.mem_append_left _ (List.mem_append_left _ (List.mem_of_getElem? (i := 1) rfl)))))))) (fun _ h9 => h9) rfl dX7_batchNow_7 ?_
  obtain ⟨q_5, wq_5, heq_5⟩ := heM_Cold (cy := cy) (I := I) (D := D) (a := a) (b := b) (cOK_5 hM)
  refine va_get (D := (dC, dI)) (ci := 6) (v := .ref (ad (5 + 1))) (C := RX5) (T := TX5) (N := 10) hx hb hts iX7_batchNow_RX5 hown hK hP q_5 heq_5 rfl 1 (by decide) (hts (.fieldLink RX7 52 "OverrunHouseModel$Cold" "of" "[I") (List.mem_cons_of_mem _ (List.mem_append_left _ (List.mem_append_left _ (List.mem_append_left _ (List.mem_append_left _ (List.mem_append_left _ (List.mem_of_getElem? (i := 2) rfl)))))))) (fun _ h9 => h9) rfl dX7_batchNow_10 ?_
  refine lv_iload_n hx hb dX7_batchNow_13 rfl (lv_at hl 1 rfl) ?_
  obtain ⟨q_6, wq_6, heq_6⟩ := heM_Of (cy := cy) (I := I) (D := D) (a := a) (b := b) (cOK_5 hM)
  obtain ⟨h_7, hf⟩ := ck_out hf
  refine va_iald (n := 12) (f := I (5 + 1)) hx hb hK hP q_6 0 heq_6 rfl (inB_in h_7) dX7_batchNow_14 ?_
  obtain ⟨T_8, eT_8, hf⟩ := nm_out hf
  refine va_iast (n := 6) (f := T_3) hx hb hKt hT hTD hS 0 8 rfl rfl (inB_in (n := 6) (i := 0) rfl) dX7_batchNow_15 (fun H locs hT hTD hS => ?_)
  have hT : va_P (dC, dI) vwCl [(q_1, .inl (cA_2, 6, .inl T_8))] H := by rw [eT_8]; exact hT
  have hTD : va_D A [(q_1, .inl (cA_2, 6, .inl T_8))] := by rw [eT_8]; exact hTD
  have hP := va_Pk hP0 hS hAs
  refine lv_dup hx hb dX7_batchNow_16 rfl ?_
  refine lv_iconst (v := 1) hx hb dX7_batchNow_17 (by decide) ?_
  refine lv_aload_n hx hb dX7_batchNow_18 rfl (lv_at hl 0 rfl) ?_
  obtain ⟨q_9, wq_9, heq_9⟩ := heM_0 (cy := cy) (I := I) (D := D) hM
  refine va_get (D := (dC, dI)) (ci := 8) (v := .ref (ad 5)) (C := RX7) (T := TX7) (N := 9) hx hb hts iX7_batchNow_RX7 hown hK hP q_9 heq_9 rfl 3 (by decide) (hts (.fieldLink RX7 24 "OverrunHouseModel" "cold" "LOverrunHouseModel$Cold;") (List.mem_cons_of_mem _ (List.mem_append_left _ (List.mem_append_left _ (List.mem_append_left _ (List.mem_append_left _ (List.mem_append_left _ (List.mem_of_getElem? (i := 1) rfl)))))))) (fun _ h9 => h9) rfl dX7_batchNow_19 ?_
  obtain ⟨q_10, wq_10, heq_10⟩ := heM_Cold (cy := cy) (I := I) (D := D) (a := a) (b := b) (cOK_5 hM)
  refine va_get (D := (dC, dI)) (ci := 6) (v := .ref (ad (5 + 2))) (C := RX5) (T := TX5) (N := 10) hx hb hts iX7_batchNow_RX5 hown hK hP q_10 heq_10 rfl 2 (by decide) (hts (.fieldLink RX7 120 "OverrunHouseModel$Cold" "litres" "[I") (List.mem_cons_of_mem _ (List.mem_append_left _ (List.mem_append_left _ (List.mem_append_left _ (List.mem_append_left _ (List.mem_append_left _ (List.mem_of_getElem? (i := 3) rfl)))))))) (fun _ h9 => h9) rfl dX7_batchNow_22 ?_
  refine lv_iload_n hx hb dX7_batchNow_25 rfl (lv_at hl 1 rfl) ?_
  obtain ⟨q_11, wq_11, heq_11⟩ := heM_Litres (cy := cy) (I := I) (D := D) (a := a) (b := b) (cOK_5 hM)
  obtain ⟨h_12, hf⟩ := ck_out hf
  refine va_iald (n := 12) (f := I (5 + 2)) hx hb hK hP q_11 0 heq_11 rfl (inB_in h_12) dX7_batchNow_26 ?_
  obtain ⟨T_13, eT_13, hf⟩ := nm_out hf
  refine va_iast (n := 6) (f := T_8) hx hb hKt hT hTD hS 0 8 rfl rfl (inB_in (n := 6) (i := 1) rfl) dX7_batchNow_27 (fun H locs hT hTD hS => ?_)
  have hT : va_P (dC, dI) vwCl [(q_1, .inl (cA_2, 6, .inl T_13))] H := by rw [eT_13]; exact hT
  have hTD : va_D A [(q_1, .inl (cA_2, 6, .inl T_13))] := by rw [eT_13]; exact hTD
  have hP := va_Pk hP0 hS hAs
  refine lv_dup hx hb dX7_batchNow_28 rfl ?_
  refine lv_iconst (v := 2) hx hb dX7_batchNow_29 (by decide) ?_
  refine lv_aload_n hx hb dX7_batchNow_30 rfl (lv_at hl 0 rfl) ?_
  obtain ⟨q_14, wq_14, heq_14⟩ := heM_0 (cy := cy) (I := I) (D := D) hM
  refine va_get (D := (dC, dI)) (ci := 8) (v := .ref (ad 5)) (C := RX7) (T := TX7) (N := 9) hx hb hts iX7_batchNow_RX7 hown hK hP q_14 heq_14 rfl 3 (by decide) (hts (.fieldLink RX7 24 "OverrunHouseModel" "cold" "LOverrunHouseModel$Cold;") (List.mem_cons_of_mem _ (List.mem_append_left _ (List.mem_append_left _ (List.mem_append_left _ (List.mem_append_left _ (List.mem_append_left _ (List.mem_of_getElem? (i := 1) rfl)))))))) (fun _ h9 => h9) rfl dX7_batchNow_31 ?_
  obtain ⟨q_15, wq_15, heq_15⟩ := heM_Cold (cy := cy) (I := I) (D := D) (a := a) (b := b) (cOK_5 hM)
  refine va_get (D := (dC, dI)) (ci := 6) (v := .ref (ad (5 + 3))) (C := RX5) (T := TX5) (N := 10) hx hb hts iX7_batchNow_RX5 hown hK hP q_15 heq_15 rfl 3 (by decide) (hts (.fieldLink RX7 138 "OverrunHouseModel$Cold" "hard" "[Z") (List.mem_cons_of_mem _ (List.mem_append_left _ (List.mem_append_left _ (List.mem_append_left _ (List.mem_append_left _ (List.mem_append_left _ (List.mem_of_getElem? (i := 4) rfl)))))))) (fun _ h9 => h9) rfl dX7_batchNow_34 ?_
  refine lv_iload_n hx hb dX7_batchNow_37 rfl (lv_at hl 1 rfl) ?_
  obtain ⟨q_16, wq_16, heq_16⟩ := heM_Hard (cy := cy) (I := I) (D := D) (a := a) (b := b) (cOK_5 hM)
  obtain ⟨h_17, hf⟩ := ck_out hf
  refine va_zald (n := 12) (f := I (5 + 3)) hx hb hK hP q_16 5 heq_16 rfl (inB_in h_17) dX7_batchNow_38 ?_
  refine lv_if_eq (tgt := 46) hx hb dX7_batchNow_39 (by decide) (fun c_18 => ?_) (fun c_18 => ?_)
  · have hf := it_t hf c_18
    refine lv_iconst (v := 0) hx hb dX7_batchNow_46 (by decide) ?_
    obtain ⟨T_19, eT_19, hf⟩ := nm_out hf
    refine va_iast (n := 6) (f := T_13) hx hb hKt hT hTD hS 0 8 rfl rfl (inB_in (n := 6) (i := 2) rfl) dX7_batchNow_47 (fun H locs hT hTD hS => ?_)
    have hT : va_P (dC, dI) vwCl [(q_1, .inl (cA_2, 6, .inl T_19))] H := by rw [eT_19]; exact hT
    have hTD : va_D A [(q_1, .inl (cA_2, 6, .inl T_19))] := by rw [eT_19]; exact hTD
    have hP := va_Pk hP0 hS hAs
    refine lv_dup hx hb dX7_batchNow_48 rfl ?_
    refine lv_iconst (v := 3) hx hb dX7_batchNow_49 (by decide) ?_
    refine lv_aload_n hx hb dX7_batchNow_50 rfl (lv_at hl 0 rfl) ?_
    obtain ⟨q_20, wq_20, heq_20⟩ := heM_0 (cy := cy) (I := I) (D := D) hM
    refine va_get (D := (dC, dI)) (ci := 8) (v := .ref (ad 5)) (C := RX7) (T := TX7) (N := 9) hx hb hts iX7_batchNow_RX7 hown hK hP q_20 heq_20 rfl 3 (by decide) (hts (.fieldLink RX7 24 "OverrunHouseModel" "cold" "LOverrunHouseModel$Cold;") (List.mem_cons_of_mem _ (List.mem_append_left _ (List.mem_append_left _ (List.mem_append_left _ (List.mem_append_left _ (List.mem_append_left _ (List.mem_of_getElem? (i := 1) rfl)))))))) (fun _ h9 => h9) rfl dX7_batchNow_51 ?_
    obtain ⟨q_21, wq_21, heq_21⟩ := heM_Cold (cy := cy) (I := I) (D := D) (a := a) (b := b) (cOK_5 hM)
    refine va_get (D := (dC, dI)) (ci := 6) (v := .ref (ad (5 + 4))) (C := RX5) (T := TX5) (N := 10) hx hb hts iX7_batchNow_RX5 hown hK hP q_21 heq_21 rfl 4 (by decide) (hts (.fieldLink RX7 123 "OverrunHouseModel$Cold" "where" "[I") (List.mem_cons_of_mem _ (List.mem_append_left _ (List.mem_append_left _ (List.mem_append_left _ (List.mem_append_left _ (List.mem_append_left _ (List.mem_of_getElem? (i := 5) rfl)))))))) (fun _ h9 => h9) rfl dX7_batchNow_54 ?_
    refine lv_iload_n hx hb dX7_batchNow_57 rfl (lv_at hl 1 rfl) ?_
    obtain ⟨q_22, wq_22, heq_22⟩ := heM_Where (cy := cy) (I := I) (D := D) (a := a) (b := b) (cOK_5 hM)
    obtain ⟨h_23, hf⟩ := ck_out hf
    refine va_iald (n := 12) (f := I (5 + 4)) hx hb hK hP q_22 0 heq_22 rfl (inB_in h_23) dX7_batchNow_58 ?_
    obtain ⟨T_24, eT_24, hf⟩ := nm_out hf
    refine va_iast (n := 6) (f := T_19) hx hb hKt hT hTD hS 0 8 rfl rfl (inB_in (n := 6) (i := 3) rfl) dX7_batchNow_59 (fun H locs hT hTD hS => ?_)
    have hT : va_P (dC, dI) vwCl [(q_1, .inl (cA_2, 6, .inl T_24))] H := by rw [eT_24]; exact hT
    have hTD : va_D A [(q_1, .inl (cA_2, 6, .inl T_24))] := by rw [eT_24]; exact hTD
    have hP := va_Pk hP0 hS hAs
    refine lv_dup hx hb dX7_batchNow_60 rfl ?_
    refine lv_iconst (v := 4) hx hb dX7_batchNow_61 (by decide) ?_
    refine lv_aload_n hx hb dX7_batchNow_62 rfl (lv_at hl 0 rfl) ?_
    obtain ⟨q_25, wq_25, heq_25⟩ := heM_0 (cy := cy) (I := I) (D := D) hM
    refine va_get (D := (dC, dI)) (ci := 8) (v := .ref (ad 5)) (C := RX7) (T := TX7) (N := 9) hx hb hts iX7_batchNow_RX7 hown hK hP q_25 heq_25 rfl 3 (by decide) (hts (.fieldLink RX7 24 "OverrunHouseModel" "cold" "LOverrunHouseModel$Cold;") (List.mem_cons_of_mem _ (List.mem_append_left _ (List.mem_append_left _ (List.mem_append_left _ (List.mem_append_left _ (List.mem_append_left _ (List.mem_of_getElem? (i := 1) rfl)))))))) (fun _ h9 => h9) rfl dX7_batchNow_63 ?_
    refine lv_iload_n hx hb dX7_batchNow_66 rfl (lv_at hl 1 rfl) ?_
    obtain ⟨r_26, g_27, hf⟩ := bd_out hf
    obtain ⟨q_28, wq_28, heq_28⟩ := heM_Cold (cy := cy) (I := I) (D := D) (a := a) (b := b) (cOK_5 hM)
    refine va_calli (va_runV (As := [.int p1]) (rest := [.int 4, .ref q_1, .ref q_1]) ⟨hx, hb, hml, hown, hts⟩ (mt_X5_isCoarse l dC dI L a b ad cy hM H.size I D 5 (cOK_5 hM) p1 r_26 g_27) (cwV 1 hts gX7_batchNow_X5_isCoarse rfl rfl rfl (by decide +kernel) ⟨Nat.le_of_ble_eq_true rfl, Nat.le_of_ble_eq_true rfl⟩) ⟨(wM.pre [.ref (ad 5), .int p1] hP hK hN).1, wM.recv (C := RX5) (T := TX5) (N := 10) hP hK heq_28 rfl, (wM.pre [.ref (ad 5), .int p1] hP hK hN).2⟩ rfl rfl hl.1 rfl (lv_room (Nat.le_of_ble_eq_true rfl)) dX7_batchNow_67 ⟨Nat.le_of_ble_eq_true rfl, Nat.le_of_ble_eq_true rfl⟩) hS (fun q _ h => hA q (Nat.le_trans hS.1 h)) (fun q h => hA q (Nat.le_trans hS.1 h)) (fun r9 u t H1 locs ht hvm hw hB hz1 hk1 hS => ?_)
    subst hw
    have hP := va_Pnew hP hk1
    have hT := va_Pnew hT hk1
    clear hz1 hk1 hvm ht hB
    generalize H1 = H at hP hT hS ⊢
    refine lv_if_eq (tgt := 77) hx hb dX7_batchNow_70 (by decide) (fun c_29 => ?_) (fun c_29 => ?_)
    · have hf := it_t hf c_29
      refine lv_iconst (v := 0) hx hb dX7_batchNow_77 (by decide) ?_
      obtain ⟨T_30, eT_30, hf⟩ := nm_out hf
      refine va_iast (n := 6) (f := T_24) hx hb hKt hT hTD hS 0 8 rfl rfl (inB_in (n := 6) (i := 4) rfl) dX7_batchNow_78 (fun H locs hT hTD hS => ?_)
      have hT : va_P (dC, dI) vwCl [(q_1, .inl (cA_2, 6, .inl T_30))] H := by rw [eT_30]; exact hT
      have hTD : va_D A [(q_1, .inl (cA_2, 6, .inl T_30))] := by rw [eT_30]; exact hTD
      have hP := va_Pk hP0 hS hAs
      refine lv_dup hx hb dX7_batchNow_79 rfl ?_
      refine lv_iconst (v := 5) hx hb dX7_batchNow_80 (by decide) ?_
      refine lv_aload_n hx hb dX7_batchNow_81 rfl (lv_at hl 0 rfl) ?_
      refine lv_iload_n hx hb dX7_batchNow_82 rfl (lv_at hl 1 rfl) ?_
      obtain ⟨r_31, g_32, hf⟩ := bd_out hf
      obtain ⟨q_33, wq_33, heq_33⟩ := heM_0 (cy := cy) (I := I) (D := D) hM
      refine va_calli (va_runV (As := [.int p1]) (rest := [.int 5, .ref q_1, .ref q_1]) ⟨hx, hb, hml, hown, hts⟩ (mt_X7_isCalled l dC dI L a b ad cy hM H.size I D p1 r_31 g_32) (cwV 1 hts gX7_batchNow_X7_isCalled rfl rfl rfl (by decide +kernel) ⟨Nat.le_of_ble_eq_true rfl, Nat.le_of_ble_eq_true rfl⟩) ⟨(wM.pre [.ref (ad 0), .int p1] hP hK hN).1, wM.recv (C := RX7) (T := TX7) (N := 9) hP hK heq_33 rfl, (wM.pre [.ref (ad 0), .int p1] hP hK hN).2⟩ rfl rfl hl.1 rfl (lv_room (Nat.le_of_ble_eq_true rfl)) dX7_batchNow_83 ⟨Nat.le_of_ble_eq_true rfl, Nat.le_of_ble_eq_true rfl⟩) hS (fun q _ h => hA q (Nat.le_trans hS.1 h)) (fun q h => hA q (Nat.le_trans hS.1 h)) (fun r9 u t H1 locs ht hvm hw hB hz1 hk1 hS => ?_)
      subst hw
      have hP := va_Pnew hP hk1
      have hT := va_Pnew hT hk1
      clear hz1 hk1 hvm ht hB
      generalize H1 = H at hP hT hS ⊢
      refine lv_if_eq (tgt := 93) hx hb dX7_batchNow_86 (by decide) (fun c_34 => ?_) (fun c_34 => ?_)
      · have hf := it_t hf c_34
        refine lv_iconst (v := 0) hx hb dX7_batchNow_93 (by decide) ?_
        obtain ⟨T_35, eT_35, hf⟩ := nm_out hf
        refine va_iast (n := 6) (f := T_30) hx hb hKt hT hTD hS 0 8 rfl rfl (inB_in (n := 6) (i := 5) rfl) dX7_batchNow_94 (fun H locs hT hTD hS => ?_)
        have hT : va_P (dC, dI) vwCl [(q_1, .inl (cA_2, 6, .inl T_35))] H := by rw [eT_35]; exact hT
        have hTD : va_D A [(q_1, .inl (cA_2, 6, .inl T_35))] := by rw [eT_35]; exact hTD
        have hP := va_Pk hP0 hS hAs
        refine lv_astore_n (lv' := [(3, .ref q_1), (0, .ref (ad 0)), (1, .int p1), (2, .int p2)]) hx hb dX7_batchNow_95 rfl hl (by decide) rfl (fun ls hl => ?_)
        refine lv_aload_n hx hb dX7_batchNow_96 rfl (lv_at hl 0 rfl) ?_
        refine lv_iload_n hx hb dX7_batchNow_97 rfl (lv_at hl 3 rfl) ?_
        obtain ⟨h_36, hf⟩ := ck_out hf
        refine va_iald (n := 6) (f := T_35) hx hb hKt hT 0 8 rfl rfl (inB_in h_36) dX7_batchNow_98 ?_
        have hf := Option.some.inj hf
        have q1 := hf
        exact W.iret (v := (T_35 (p2).toNatClampNeg)) hx hb hr (fun t ht hW9 => ⟨⟨(T_35 (p2).toNatClampNeg), (), rfl, q1.symm, trivial⟩, hS.F ht⟩) hS.2.2 dX7_batchNow_99
      · have hf := it_f hf c_34
        refine lv_iconst (v := 1) hx hb dX7_batchNow_89 (by decide) ?_
        refine lv_goto (tgt := 94) hx hb dX7_batchNow_90 (by decide) ?_
        obtain ⟨T_37, eT_37, hf⟩ := nm_out hf
        refine va_iast (n := 6) (f := T_30) hx hb hKt hT hTD hS 0 8 rfl rfl (inB_in (n := 6) (i := 5) rfl) dX7_batchNow_94 (fun H locs hT hTD hS => ?_)
        have hT : va_P (dC, dI) vwCl [(q_1, .inl (cA_2, 6, .inl T_37))] H := by rw [eT_37]; exact hT
        have hTD : va_D A [(q_1, .inl (cA_2, 6, .inl T_37))] := by rw [eT_37]; exact hTD
        have hP := va_Pk hP0 hS hAs
        refine lv_astore_n (lv' := [(3, .ref q_1), (0, .ref (ad 0)), (1, .int p1), (2, .int p2)]) hx hb dX7_batchNow_95 rfl hl (by decide) rfl (fun ls hl => ?_)
        refine lv_aload_n hx hb dX7_batchNow_96 rfl (lv_at hl 0 rfl) ?_
        refine lv_iload_n hx hb dX7_batchNow_97 rfl (lv_at hl 3 rfl) ?_
        obtain ⟨h_38, hf⟩ := ck_out hf
        refine va_iald (n := 6) (f := T_37) hx hb hKt hT 0 8 rfl rfl (inB_in h_38) dX7_batchNow_98 ?_
        have hf := Option.some.inj hf
        have q1 := hf
        exact W.iret (v := (T_37 (p2).toNatClampNeg)) hx hb hr (fun t ht hW9 => ⟨⟨(T_37 (p2).toNatClampNeg), (), rfl, q1.symm, trivial⟩, hS.F ht⟩) hS.2.2 dX7_batchNow_99
    · have hf := it_f hf c_29
      refine lv_iconst (v := 1) hx hb dX7_batchNow_73 (by decide) ?_
      refine lv_goto (tgt := 78) hx hb dX7_batchNow_74 (by decide) ?_
      obtain ⟨T_39, eT_39, hf⟩ := nm_out hf
      refine va_iast (n := 6) (f := T_24) hx hb hKt hT hTD hS 0 8 rfl rfl (inB_in (n := 6) (i := 4) rfl) dX7_batchNow_78 (fun H locs hT hTD hS => ?_)
      have hT : va_P (dC, dI) vwCl [(q_1, .inl (cA_2, 6, .inl T_39))] H := by rw [eT_39]; exact hT
      have hTD : va_D A [(q_1, .inl (cA_2, 6, .inl T_39))] := by rw [eT_39]; exact hTD
      have hP := va_Pk hP0 hS hAs
      refine lv_dup hx hb dX7_batchNow_79 rfl ?_
      refine lv_iconst (v := 5) hx hb dX7_batchNow_80 (by decide) ?_
      refine lv_aload_n hx hb dX7_batchNow_81 rfl (lv_at hl 0 rfl) ?_
      refine lv_iload_n hx hb dX7_batchNow_82 rfl (lv_at hl 1 rfl) ?_
      obtain ⟨r_40, g_41, hf⟩ := bd_out hf
      obtain ⟨q_42, wq_42, heq_42⟩ := heM_0 (cy := cy) (I := I) (D := D) hM
      refine va_calli (va_runV (As := [.int p1]) (rest := [.int 5, .ref q_1, .ref q_1]) ⟨hx, hb, hml, hown, hts⟩ (mt_X7_isCalled l dC dI L a b ad cy hM H.size I D p1 r_40 g_41) (cwV 1 hts gX7_batchNow_X7_isCalled rfl rfl rfl (by decide +kernel) ⟨Nat.le_of_ble_eq_true rfl, Nat.le_of_ble_eq_true rfl⟩) ⟨(wM.pre [.ref (ad 0), .int p1] hP hK hN).1, wM.recv (C := RX7) (T := TX7) (N := 9) hP hK heq_42 rfl, (wM.pre [.ref (ad 0), .int p1] hP hK hN).2⟩ rfl rfl hl.1 rfl (lv_room (Nat.le_of_ble_eq_true rfl)) dX7_batchNow_83 ⟨Nat.le_of_ble_eq_true rfl, Nat.le_of_ble_eq_true rfl⟩) hS (fun q _ h => hA q (Nat.le_trans hS.1 h)) (fun q h => hA q (Nat.le_trans hS.1 h)) (fun r9 u t H1 locs ht hvm hw hB hz1 hk1 hS => ?_)
      subst hw
      have hP := va_Pnew hP hk1
      have hT := va_Pnew hT hk1
      clear hz1 hk1 hvm ht hB
      generalize H1 = H at hP hT hS ⊢
      refine lv_if_eq (tgt := 93) hx hb dX7_batchNow_86 (by decide) (fun c_43 => ?_) (fun c_43 => ?_)
      · have hf := it_t hf c_43
        refine lv_iconst (v := 0) hx hb dX7_batchNow_93 (by decide) ?_
        obtain ⟨T_44, eT_44, hf⟩ := nm_out hf
        refine va_iast (n := 6) (f := T_39) hx hb hKt hT hTD hS 0 8 rfl rfl (inB_in (n := 6) (i := 5) rfl) dX7_batchNow_94 (fun H locs hT hTD hS => ?_)
        have hT : va_P (dC, dI) vwCl [(q_1, .inl (cA_2, 6, .inl T_44))] H := by rw [eT_44]; exact hT
        have hTD : va_D A [(q_1, .inl (cA_2, 6, .inl T_44))] := by rw [eT_44]; exact hTD
        have hP := va_Pk hP0 hS hAs
        refine lv_astore_n (lv' := [(3, .ref q_1), (0, .ref (ad 0)), (1, .int p1), (2, .int p2)]) hx hb dX7_batchNow_95 rfl hl (by decide) rfl (fun ls hl => ?_)
        refine lv_aload_n hx hb dX7_batchNow_96 rfl (lv_at hl 0 rfl) ?_
        refine lv_iload_n hx hb dX7_batchNow_97 rfl (lv_at hl 3 rfl) ?_
        obtain ⟨h_45, hf⟩ := ck_out hf
        refine va_iald (n := 6) (f := T_44) hx hb hKt hT 0 8 rfl rfl (inB_in h_45) dX7_batchNow_98 ?_
        have hf := Option.some.inj hf
        have q1 := hf
        exact W.iret (v := (T_44 (p2).toNatClampNeg)) hx hb hr (fun t ht hW9 => ⟨⟨(T_44 (p2).toNatClampNeg), (), rfl, q1.symm, trivial⟩, hS.F ht⟩) hS.2.2 dX7_batchNow_99
      · have hf := it_f hf c_43
        refine lv_iconst (v := 1) hx hb dX7_batchNow_89 (by decide) ?_
        refine lv_goto (tgt := 94) hx hb dX7_batchNow_90 (by decide) ?_
        obtain ⟨T_46, eT_46, hf⟩ := nm_out hf
        refine va_iast (n := 6) (f := T_39) hx hb hKt hT hTD hS 0 8 rfl rfl (inB_in (n := 6) (i := 5) rfl) dX7_batchNow_94 (fun H locs hT hTD hS => ?_)
        have hT : va_P (dC, dI) vwCl [(q_1, .inl (cA_2, 6, .inl T_46))] H := by rw [eT_46]; exact hT
        have hTD : va_D A [(q_1, .inl (cA_2, 6, .inl T_46))] := by rw [eT_46]; exact hTD
        have hP := va_Pk hP0 hS hAs
        refine lv_astore_n (lv' := [(3, .ref q_1), (0, .ref (ad 0)), (1, .int p1), (2, .int p2)]) hx hb dX7_batchNow_95 rfl hl (by decide) rfl (fun ls hl => ?_)
        refine lv_aload_n hx hb dX7_batchNow_96 rfl (lv_at hl 0 rfl) ?_
        refine lv_iload_n hx hb dX7_batchNow_97 rfl (lv_at hl 3 rfl) ?_
        obtain ⟨h_47, hf⟩ := ck_out hf
        refine va_iald (n := 6) (f := T_46) hx hb hKt hT 0 8 rfl rfl (inB_in h_47) dX7_batchNow_98 ?_
        have hf := Option.some.inj hf
        have q1 := hf
        exact W.iret (v := (T_46 (p2).toNatClampNeg)) hx hb hr (fun t ht hW9 => ⟨⟨(T_46 (p2).toNatClampNeg), (), rfl, q1.symm, trivial⟩, hS.F ht⟩) hS.2.2 dX7_batchNow_99
  · have hf := it_f hf c_18
    refine lv_iconst (v := 1) hx hb dX7_batchNow_42 (by decide) ?_
    refine lv_goto (tgt := 47) hx hb dX7_batchNow_43 (by decide) ?_
    obtain ⟨T_48, eT_48, hf⟩ := nm_out hf
    refine va_iast (n := 6) (f := T_13) hx hb hKt hT hTD hS 0 8 rfl rfl (inB_in (n := 6) (i := 2) rfl) dX7_batchNow_47 (fun H locs hT hTD hS => ?_)
    have hT : va_P (dC, dI) vwCl [(q_1, .inl (cA_2, 6, .inl T_48))] H := by rw [eT_48]; exact hT
    have hTD : va_D A [(q_1, .inl (cA_2, 6, .inl T_48))] := by rw [eT_48]; exact hTD
    have hP := va_Pk hP0 hS hAs
    refine lv_dup hx hb dX7_batchNow_48 rfl ?_
    refine lv_iconst (v := 3) hx hb dX7_batchNow_49 (by decide) ?_
    refine lv_aload_n hx hb dX7_batchNow_50 rfl (lv_at hl 0 rfl) ?_
    obtain ⟨q_49, wq_49, heq_49⟩ := heM_0 (cy := cy) (I := I) (D := D) hM
    refine va_get (D := (dC, dI)) (ci := 8) (v := .ref (ad 5)) (C := RX7) (T := TX7) (N := 9) hx hb hts iX7_batchNow_RX7 hown hK hP q_49 heq_49 rfl 3 (by decide) (hts (.fieldLink RX7 24 "OverrunHouseModel" "cold" "LOverrunHouseModel$Cold;") (List.mem_cons_of_mem _ (List.mem_append_left _ (List.mem_append_left _ (List.mem_append_left _ (List.mem_append_left _ (List.mem_append_left _ (List.mem_of_getElem? (i := 1) rfl)))))))) (fun _ h9 => h9) rfl dX7_batchNow_51 ?_
    obtain ⟨q_50, wq_50, heq_50⟩ := heM_Cold (cy := cy) (I := I) (D := D) (a := a) (b := b) (cOK_5 hM)
    refine va_get (D := (dC, dI)) (ci := 6) (v := .ref (ad (5 + 4))) (C := RX5) (T := TX5) (N := 10) hx hb hts iX7_batchNow_RX5 hown hK hP q_50 heq_50 rfl 4 (by decide) (hts (.fieldLink RX7 123 "OverrunHouseModel$Cold" "where" "[I") (List.mem_cons_of_mem _ (List.mem_append_left _ (List.mem_append_left _ (List.mem_append_left _ (List.mem_append_left _ (List.mem_append_left _ (List.mem_of_getElem? (i := 5) rfl)))))))) (fun _ h9 => h9) rfl dX7_batchNow_54 ?_
    refine lv_iload_n hx hb dX7_batchNow_57 rfl (lv_at hl 1 rfl) ?_
    obtain ⟨q_51, wq_51, heq_51⟩ := heM_Where (cy := cy) (I := I) (D := D) (a := a) (b := b) (cOK_5 hM)
    obtain ⟨h_52, hf⟩ := ck_out hf
    refine va_iald (n := 12) (f := I (5 + 4)) hx hb hK hP q_51 0 heq_51 rfl (inB_in h_52) dX7_batchNow_58 ?_
    obtain ⟨T_53, eT_53, hf⟩ := nm_out hf
    refine va_iast (n := 6) (f := T_48) hx hb hKt hT hTD hS 0 8 rfl rfl (inB_in (n := 6) (i := 3) rfl) dX7_batchNow_59 (fun H locs hT hTD hS => ?_)
    have hT : va_P (dC, dI) vwCl [(q_1, .inl (cA_2, 6, .inl T_53))] H := by rw [eT_53]; exact hT
    have hTD : va_D A [(q_1, .inl (cA_2, 6, .inl T_53))] := by rw [eT_53]; exact hTD
    have hP := va_Pk hP0 hS hAs
    refine lv_dup hx hb dX7_batchNow_60 rfl ?_
    refine lv_iconst (v := 4) hx hb dX7_batchNow_61 (by decide) ?_
    refine lv_aload_n hx hb dX7_batchNow_62 rfl (lv_at hl 0 rfl) ?_
    obtain ⟨q_54, wq_54, heq_54⟩ := heM_0 (cy := cy) (I := I) (D := D) hM
    refine va_get (D := (dC, dI)) (ci := 8) (v := .ref (ad 5)) (C := RX7) (T := TX7) (N := 9) hx hb hts iX7_batchNow_RX7 hown hK hP q_54 heq_54 rfl 3 (by decide) (hts (.fieldLink RX7 24 "OverrunHouseModel" "cold" "LOverrunHouseModel$Cold;") (List.mem_cons_of_mem _ (List.mem_append_left _ (List.mem_append_left _ (List.mem_append_left _ (List.mem_append_left _ (List.mem_append_left _ (List.mem_of_getElem? (i := 1) rfl)))))))) (fun _ h9 => h9) rfl dX7_batchNow_63 ?_
    refine lv_iload_n hx hb dX7_batchNow_66 rfl (lv_at hl 1 rfl) ?_
    obtain ⟨r_55, g_56, hf⟩ := bd_out hf
    obtain ⟨q_57, wq_57, heq_57⟩ := heM_Cold (cy := cy) (I := I) (D := D) (a := a) (b := b) (cOK_5 hM)
    refine va_calli (va_runV (As := [.int p1]) (rest := [.int 4, .ref q_1, .ref q_1]) ⟨hx, hb, hml, hown, hts⟩ (mt_X5_isCoarse l dC dI L a b ad cy hM H.size I D 5 (cOK_5 hM) p1 r_55 g_56) (cwV 1 hts gX7_batchNow_X5_isCoarse rfl rfl rfl (by decide +kernel) ⟨Nat.le_of_ble_eq_true rfl, Nat.le_of_ble_eq_true rfl⟩) ⟨(wM.pre [.ref (ad 5), .int p1] hP hK hN).1, wM.recv (C := RX5) (T := TX5) (N := 10) hP hK heq_57 rfl, (wM.pre [.ref (ad 5), .int p1] hP hK hN).2⟩ rfl rfl hl.1 rfl (lv_room (Nat.le_of_ble_eq_true rfl)) dX7_batchNow_67 ⟨Nat.le_of_ble_eq_true rfl, Nat.le_of_ble_eq_true rfl⟩) hS (fun q _ h => hA q (Nat.le_trans hS.1 h)) (fun q h => hA q (Nat.le_trans hS.1 h)) (fun r9 u t H1 locs ht hvm hw hB hz1 hk1 hS => ?_)
    subst hw
    have hP := va_Pnew hP hk1
    have hT := va_Pnew hT hk1
    clear hz1 hk1 hvm ht hB
    generalize H1 = H at hP hT hS ⊢
    refine lv_if_eq (tgt := 77) hx hb dX7_batchNow_70 (by decide) (fun c_58 => ?_) (fun c_58 => ?_)
    · have hf := it_t hf c_58
      refine lv_iconst (v := 0) hx hb dX7_batchNow_77 (by decide) ?_
      obtain ⟨T_59, eT_59, hf⟩ := nm_out hf
      refine va_iast (n := 6) (f := T_53) hx hb hKt hT hTD hS 0 8 rfl rfl (inB_in (n := 6) (i := 4) rfl) dX7_batchNow_78 (fun H locs hT hTD hS => ?_)
      have hT : va_P (dC, dI) vwCl [(q_1, .inl (cA_2, 6, .inl T_59))] H := by rw [eT_59]; exact hT
      have hTD : va_D A [(q_1, .inl (cA_2, 6, .inl T_59))] := by rw [eT_59]; exact hTD
      have hP := va_Pk hP0 hS hAs
      refine lv_dup hx hb dX7_batchNow_79 rfl ?_
      refine lv_iconst (v := 5) hx hb dX7_batchNow_80 (by decide) ?_
      refine lv_aload_n hx hb dX7_batchNow_81 rfl (lv_at hl 0 rfl) ?_
      refine lv_iload_n hx hb dX7_batchNow_82 rfl (lv_at hl 1 rfl) ?_
      obtain ⟨r_60, g_61, hf⟩ := bd_out hf
      obtain ⟨q_62, wq_62, heq_62⟩ := heM_0 (cy := cy) (I := I) (D := D) hM
      refine va_calli (va_runV (As := [.int p1]) (rest := [.int 5, .ref q_1, .ref q_1]) ⟨hx, hb, hml, hown, hts⟩ (mt_X7_isCalled l dC dI L a b ad cy hM H.size I D p1 r_60 g_61) (cwV 1 hts gX7_batchNow_X7_isCalled rfl rfl rfl (by decide +kernel) ⟨Nat.le_of_ble_eq_true rfl, Nat.le_of_ble_eq_true rfl⟩) ⟨(wM.pre [.ref (ad 0), .int p1] hP hK hN).1, wM.recv (C := RX7) (T := TX7) (N := 9) hP hK heq_62 rfl, (wM.pre [.ref (ad 0), .int p1] hP hK hN).2⟩ rfl rfl hl.1 rfl (lv_room (Nat.le_of_ble_eq_true rfl)) dX7_batchNow_83 ⟨Nat.le_of_ble_eq_true rfl, Nat.le_of_ble_eq_true rfl⟩) hS (fun q _ h => hA q (Nat.le_trans hS.1 h)) (fun q h => hA q (Nat.le_trans hS.1 h)) (fun r9 u t H1 locs ht hvm hw hB hz1 hk1 hS => ?_)
      subst hw
      have hP := va_Pnew hP hk1
      have hT := va_Pnew hT hk1
      clear hz1 hk1 hvm ht hB
      generalize H1 = H at hP hT hS ⊢
      refine lv_if_eq (tgt := 93) hx hb dX7_batchNow_86 (by decide) (fun c_63 => ?_) (fun c_63 => ?_)
      · have hf := it_t hf c_63
        refine lv_iconst (v := 0) hx hb dX7_batchNow_93 (by decide) ?_
        obtain ⟨T_64, eT_64, hf⟩ := nm_out hf
        refine va_iast (n := 6) (f := T_59) hx hb hKt hT hTD hS 0 8 rfl rfl (inB_in (n := 6) (i := 5) rfl) dX7_batchNow_94 (fun H locs hT hTD hS => ?_)
        have hT : va_P (dC, dI) vwCl [(q_1, .inl (cA_2, 6, .inl T_64))] H := by rw [eT_64]; exact hT
        have hTD : va_D A [(q_1, .inl (cA_2, 6, .inl T_64))] := by rw [eT_64]; exact hTD
        have hP := va_Pk hP0 hS hAs
        refine lv_astore_n (lv' := [(3, .ref q_1), (0, .ref (ad 0)), (1, .int p1), (2, .int p2)]) hx hb dX7_batchNow_95 rfl hl (by decide) rfl (fun ls hl => ?_)
        refine lv_aload_n hx hb dX7_batchNow_96 rfl (lv_at hl 0 rfl) ?_
        refine lv_iload_n hx hb dX7_batchNow_97 rfl (lv_at hl 3 rfl) ?_
        obtain ⟨h_65, hf⟩ := ck_out hf
        refine va_iald (n := 6) (f := T_64) hx hb hKt hT 0 8 rfl rfl (inB_in h_65) dX7_batchNow_98 ?_
        have hf := Option.some.inj hf
        have q1 := hf
        exact W.iret (v := (T_64 (p2).toNatClampNeg)) hx hb hr (fun t ht hW9 => ⟨⟨(T_64 (p2).toNatClampNeg), (), rfl, q1.symm, trivial⟩, hS.F ht⟩) hS.2.2 dX7_batchNow_99
      · have hf := it_f hf c_63
        refine lv_iconst (v := 1) hx hb dX7_batchNow_89 (by decide) ?_
        refine lv_goto (tgt := 94) hx hb dX7_batchNow_90 (by decide) ?_
        obtain ⟨T_66, eT_66, hf⟩ := nm_out hf
        refine va_iast (n := 6) (f := T_59) hx hb hKt hT hTD hS 0 8 rfl rfl (inB_in (n := 6) (i := 5) rfl) dX7_batchNow_94 (fun H locs hT hTD hS => ?_)
        have hT : va_P (dC, dI) vwCl [(q_1, .inl (cA_2, 6, .inl T_66))] H := by rw [eT_66]; exact hT
        have hTD : va_D A [(q_1, .inl (cA_2, 6, .inl T_66))] := by rw [eT_66]; exact hTD
        have hP := va_Pk hP0 hS hAs
        refine lv_astore_n (lv' := [(3, .ref q_1), (0, .ref (ad 0)), (1, .int p1), (2, .int p2)]) hx hb dX7_batchNow_95 rfl hl (by decide) rfl (fun ls hl => ?_)
        refine lv_aload_n hx hb dX7_batchNow_96 rfl (lv_at hl 0 rfl) ?_
        refine lv_iload_n hx hb dX7_batchNow_97 rfl (lv_at hl 3 rfl) ?_
        obtain ⟨h_67, hf⟩ := ck_out hf
        refine va_iald (n := 6) (f := T_66) hx hb hKt hT 0 8 rfl rfl (inB_in h_67) dX7_batchNow_98 ?_
        have hf := Option.some.inj hf
        have q1 := hf
        exact W.iret (v := (T_66 (p2).toNatClampNeg)) hx hb hr (fun t ht hW9 => ⟨⟨(T_66 (p2).toNatClampNeg), (), rfl, q1.symm, trivial⟩, hS.F ht⟩) hS.2.2 dX7_batchNow_99
    · have hf := it_f hf c_58
      refine lv_iconst (v := 1) hx hb dX7_batchNow_73 (by decide) ?_
      refine lv_goto (tgt := 78) hx hb dX7_batchNow_74 (by decide) ?_
      obtain ⟨T_68, eT_68, hf⟩ := nm_out hf
      refine va_iast (n := 6) (f := T_53) hx hb hKt hT hTD hS 0 8 rfl rfl (inB_in (n := 6) (i := 4) rfl) dX7_batchNow_78 (fun H locs hT hTD hS => ?_)
      have hT : va_P (dC, dI) vwCl [(q_1, .inl (cA_2, 6, .inl T_68))] H := by rw [eT_68]; exact hT
      have hTD : va_D A [(q_1, .inl (cA_2, 6, .inl T_68))] := by rw [eT_68]; exact hTD
      have hP := va_Pk hP0 hS hAs
      refine lv_dup hx hb dX7_batchNow_79 rfl ?_
      refine lv_iconst (v := 5) hx hb dX7_batchNow_80 (by decide) ?_
      refine lv_aload_n hx hb dX7_batchNow_81 rfl (lv_at hl 0 rfl) ?_
      refine lv_iload_n hx hb dX7_batchNow_82 rfl (lv_at hl 1 rfl) ?_
      obtain ⟨r_69, g_70, hf⟩ := bd_out hf
      obtain ⟨q_71, wq_71, heq_71⟩ := heM_0 (cy := cy) (I := I) (D := D) hM
      refine va_calli (va_runV (As := [.int p1]) (rest := [.int 5, .ref q_1, .ref q_1]) ⟨hx, hb, hml, hown, hts⟩ (mt_X7_isCalled l dC dI L a b ad cy hM H.size I D p1 r_69 g_70) (cwV 1 hts gX7_batchNow_X7_isCalled rfl rfl rfl (by decide +kernel) ⟨Nat.le_of_ble_eq_true rfl, Nat.le_of_ble_eq_true rfl⟩) ⟨(wM.pre [.ref (ad 0), .int p1] hP hK hN).1, wM.recv (C := RX7) (T := TX7) (N := 9) hP hK heq_71 rfl, (wM.pre [.ref (ad 0), .int p1] hP hK hN).2⟩ rfl rfl hl.1 rfl (lv_room (Nat.le_of_ble_eq_true rfl)) dX7_batchNow_83 ⟨Nat.le_of_ble_eq_true rfl, Nat.le_of_ble_eq_true rfl⟩) hS (fun q _ h => hA q (Nat.le_trans hS.1 h)) (fun q h => hA q (Nat.le_trans hS.1 h)) (fun r9 u t H1 locs ht hvm hw hB hz1 hk1 hS => ?_)
      subst hw
      have hP := va_Pnew hP hk1
      have hT := va_Pnew hT hk1
      clear hz1 hk1 hvm ht hB
      generalize H1 = H at hP hT hS ⊢
      refine lv_if_eq (tgt := 93) hx hb dX7_batchNow_86 (by decide) (fun c_72 => ?_) (fun c_72 => ?_)
      · have hf := it_t hf c_72
        refine lv_iconst (v := 0) hx hb dX7_batchNow_93 (by decide) ?_
        obtain ⟨T_73, eT_73, hf⟩ := nm_out hf
        refine va_iast (n := 6) (f := T_68) hx hb hKt hT hTD hS 0 8 rfl rfl (inB_in (n := 6) (i := 5) rfl) dX7_batchNow_94 (fun H locs hT hTD hS => ?_)
        have hT : va_P (dC, dI) vwCl [(q_1, .inl (cA_2, 6, .inl T_73))] H := by rw [eT_73]; exact hT
        have hTD : va_D A [(q_1, .inl (cA_2, 6, .inl T_73))] := by rw [eT_73]; exact hTD
        have hP := va_Pk hP0 hS hAs
        refine lv_astore_n (lv' := [(3, .ref q_1), (0, .ref (ad 0)), (1, .int p1), (2, .int p2)]) hx hb dX7_batchNow_95 rfl hl (by decide) rfl (fun ls hl => ?_)
        refine lv_aload_n hx hb dX7_batchNow_96 rfl (lv_at hl 0 rfl) ?_
        refine lv_iload_n hx hb dX7_batchNow_97 rfl (lv_at hl 3 rfl) ?_
        obtain ⟨h_74, hf⟩ := ck_out hf
        refine va_iald (n := 6) (f := T_73) hx hb hKt hT 0 8 rfl rfl (inB_in h_74) dX7_batchNow_98 ?_
        have hf := Option.some.inj hf
        have q1 := hf
        exact W.iret (v := (T_73 (p2).toNatClampNeg)) hx hb hr (fun t ht hW9 => ⟨⟨(T_73 (p2).toNatClampNeg), (), rfl, q1.symm, trivial⟩, hS.F ht⟩) hS.2.2 dX7_batchNow_99
      · have hf := it_f hf c_72
        refine lv_iconst (v := 1) hx hb dX7_batchNow_89 (by decide) ?_
        refine lv_goto (tgt := 94) hx hb dX7_batchNow_90 (by decide) ?_
        obtain ⟨T_75, eT_75, hf⟩ := nm_out hf
        refine va_iast (n := 6) (f := T_68) hx hb hKt hT hTD hS 0 8 rfl rfl (inB_in (n := 6) (i := 5) rfl) dX7_batchNow_94 (fun H locs hT hTD hS => ?_)
        have hT : va_P (dC, dI) vwCl [(q_1, .inl (cA_2, 6, .inl T_75))] H := by rw [eT_75]; exact hT
        have hTD : va_D A [(q_1, .inl (cA_2, 6, .inl T_75))] := by rw [eT_75]; exact hTD
        have hP := va_Pk hP0 hS hAs
        refine lv_astore_n (lv' := [(3, .ref q_1), (0, .ref (ad 0)), (1, .int p1), (2, .int p2)]) hx hb dX7_batchNow_95 rfl hl (by decide) rfl (fun ls hl => ?_)
        refine lv_aload_n hx hb dX7_batchNow_96 rfl (lv_at hl 0 rfl) ?_
        refine lv_iload_n hx hb dX7_batchNow_97 rfl (lv_at hl 3 rfl) ?_
        obtain ⟨h_76, hf⟩ := ck_out hf
        refine va_iald (n := 6) (f := T_75) hx hb hKt hT 0 8 rfl rfl (inB_in h_76) dX7_batchNow_98 ?_
        have hf := Option.some.inj hf
        have q1 := hf
        exact W.iret (v := (T_75 (p2).toNatClampNeg)) hx hb hr (fun t ht hW9 => ⟨⟨(T_75 (p2).toNatClampNeg), (), rfl, q1.symm, trivial⟩, hS.F ht⟩) hS.2.2 dX7_batchNow_99

def f_X7_ofBatch (a b : Nat) (I : Nat → Nat → Int32) (D : Nat → Nat → UInt64) (p1 : Int32) (p2 : Int32) : Option (Int32 × (Nat → Nat → Int32) × (Nat → Nat → UInt64)) :=
  nm (up2 I 0 0 0) (fun I_2 => bd (f_X7_isBatch a b I_2 D p1) (fun r_3 => (if r_3 = 0 then bd (f_X7_no a b I_2 D 1) (fun (r_18, I_20, D_21) => some (r_18, I_20, D_21)) else bd (f_X7_in p2 0 5) (fun r_7 => (if r_7 = 0 then bd (f_X7_no a b I_2 D 2) (fun (r_13, I_15, D_16) => some (r_13, I_15, D_16)) else bd (f_X7_batchNow a b I_2 D p1 p2) (fun r_10 => some (r_10, I_2, D)))))))
theorem iX7_ofBatch_RX7 : ∀ w ∈ u_ws RX7 TX7 9, w ∈ wsX7_ofBatch := fun w h => List.mem_cons_of_mem _ (List.mem_append_left _ (List.mem_append_left _ (List.mem_append_left _ (List.mem_append_right _ (h)))))
set_option maxHeartbeats 4000000 in
set_option maxRecDepth 100000 in
theorem mt_X7_ofBatch (l : Launch) (dC : Nat → ClassId) (dI : Nat → Nat → Nat) (L : List Nat) (a b : Nat) (ad : Nat → Nat) (cy : Nat → ClassId) (hM : mOK L a b ad) (sz : Nat) (I : Nat → Nat → Int32) (D : Nat → Nat → UInt64) (p1 : Int32) (p2 : Int32) (rr : Int32) (I9 : Nat → Nat → Int32) (D9 : Nat → Nat → UInt64) (hf : f_X7_ofBatch a b I D p1 p2 = some (rr, I9, D9)) : Met l yX7_ofBatch wsX7_ofBatch ({ frames := 6, cells := 1, slots := 6, locals := 178 }) (va_Pc [.ref (ad 0), .int p1, .int p2] (fun U => U.heap.size = sz ∧ wM dC dI L a b ad cy I D U)) (va_Qi (fun r (_ : Unit) => rr = r) (fun _ t => wM dC dI L a b ad cy I9 D9 t) (AM L ad sz)) 1 6 (AM L ad sz) := by
  refine Met.ofW (cc := cX7_ofBatch) (maxL := 3) (ret := (some .int)) (by decide) rfl ?_
  intro p e s m args below meth c s₁ B hml hv
  obtain ⟨rfl, hsz, hP, hK, hN⟩ := hv
  have hx := B.exec
  have hb := B.bytes
  have hr := B.returns
  have hts := atoms_spec (ws := wsX7_ofBatch) B.pre
  have hown : s.vm.findClass RX7 = some m.cls := findClass_of_methodNamed B.named
  have hlocks := B.notSynchronized
  subst hsz
  generalize hAe : AM L ad s.heap.size = A
  have hA : ∀ q : Nat, s.heap.size ≤ q → A q := fun q h => by rw [← hAe]; exact Or.inr h
  have hAL : ∀ k, k ∈ L → A (ad k) := fun k h => by rw [← hAe]; exact Or.inl ⟨k, h, rfl⟩
  have hDD : ∀ I D, va_D A (iwM L a b ad cy I D) := fun I D => iwM_D hM hAL I D
  obtain ⟨H, hH⟩ : ∃ H : Heap, H = s.heap := ⟨_, rfl⟩
  have hS : va_S A s.heap H [] := by rw [hH]; exact va_S.rf
  rw [← hH]
  rw [← hH] at hP
  have hl := lv_entry ([.ref (ad 0), .int p1, .int p2]) (n := 3) (Nat.le_of_ble_eq_true rfl)
  rw [lg_entry_eq]
  generalize (lg_sl ([.ref (ad 0), .int p1, .int p2]) ++ List.replicate (3 - (lg_sl ([.ref (ad 0), .int p1, .int p2])).length) Slot.unset).toArray = ls at hl ⊢
  have hl : lv_has ls 3 [(0, .ref (ad 0)), (1, .int p1), (2, .int p2)] := hl
  unfold f_X7_ofBatch at hf
  refine lv_aload_n hx hb dX7_ofBatch_0 rfl (lv_at hl 0 rfl) ?_
  refine lv_iconst (v := 0) hx hb dX7_ofBatch_1 (by decide) ?_
  obtain ⟨q_1, wq_1, heq_1⟩ := heM_0 (cy := cy) (I := I) (D := D) hM
  obtain ⟨I_2, eI_2, hf⟩ := nm_out hf
  refine va_put (D := (dC, dI)) (ci := 8) (v := .int 0) (ty := .int) (C := RX7) (T := TX7) (N := 9) hx hb hts iX7_ofBatch_RX7 tyX7 tyX7_ok nmX7 hown hK hP (hDD I D) hS q_1 heq_1 rfl 0 (by decide) (hts (.fieldLink RX7 32 "OverrunHouseModel" "thrown" "I") (List.mem_cons_of_mem _ (List.mem_append_left _ (List.mem_append_left _ (List.mem_append_left _ (List.mem_append_left _ (List.mem_append_left _ (List.mem_of_getElem? (i := 0) rfl)))))))) (fun _ h9 => h9) rfl (by decide +kernel) rfl rfl (Nat.le_of_ble_eq_true rfl) dX7_ofBatch_2 (fun H locs hP _ hS => ?_)
  have hP : va_P (dC, dI) vwCl (iwM L a b ad cy I_2 D) H := by rw [eI_2]; exact hqI hM wq_1 ((cellM_0 ad cy a b _ _).trans rfl) hP
  refine lv_aload_n hx hb dX7_ofBatch_5 rfl (lv_at hl 0 rfl) ?_
  refine lv_iload_n hx hb dX7_ofBatch_6 rfl (lv_at hl 1 rfl) ?_
  obtain ⟨r_3, g_4, hf⟩ := bd_out hf
  obtain ⟨q_5, wq_5, heq_5⟩ := heM_0 (cy := cy) (I := I_2) (D := D) hM
  refine va_calli (va_runV (As := [.int p1]) (rest := []) ⟨hx, hb, hml, hown, hts⟩ (mt_X7_isBatch l dC dI L a b ad cy hM H.size I_2 D p1 r_3 g_4) (cwV 1 hts gX7_ofBatch_X7_isBatch rfl rfl rfl (by decide +kernel) ⟨Nat.le_of_ble_eq_true rfl, Nat.le_of_ble_eq_true rfl⟩) ⟨(wM.pre [.ref (ad 0), .int p1] hP hK hN).1, wM.recv (C := RX7) (T := TX7) (N := 9) hP hK heq_5 rfl, (wM.pre [.ref (ad 0), .int p1] hP hK hN).2⟩ rfl rfl hl.1 rfl (lv_room (Nat.le_of_ble_eq_true rfl)) dX7_ofBatch_7 ⟨Nat.le_of_ble_eq_true rfl, Nat.le_of_ble_eq_true rfl⟩) hS (fun q _ h => hA q (Nat.le_trans hS.1 h)) (fun q h => hA q (Nat.le_trans hS.1 h)) (fun r9 u t H1 locs ht hvm hw hB hz1 hk1 hS => ?_)
  subst hw
  have hP := va_Pnew hP hk1
  clear hz1 hk1 hvm ht hB
  generalize H1 = H at hP hS ⊢
  refine lv_if_ne (tgt := 19) hx hb dX7_ofBatch_10 (by decide) (fun c_6 => ?_) (fun c_6 => ?_)
  · have hf := it_f hf c_6
    refine lv_iload_n hx hb dX7_ofBatch_19 rfl (lv_at hl 2 rfl) ?_
    refine lv_iconst (v := 0) hx hb dX7_ofBatch_20 (by decide) ?_
    refine lv_iconst (v := 5) hx hb dX7_ofBatch_21 (by decide) ?_
    obtain ⟨r_7, g_8, hf⟩ := bd_out hf
    refine va_calli (va_runS (As := [.int p2, .int 0, .int 5]) (rest := []) ⟨hx, hb, hml, hown, hts⟩ (mt_X7_in l H.size p2 0 5 r_7 g_8) (va_cwS 3 hts gX7_ofBatch_X7_in rfl rfl rfl (by decide +kernel) ⟨Nat.le_of_ble_eq_true rfl, Nat.le_of_ble_eq_true rfl⟩) (pre0 [.int p2, .int 0, .int 5]) rfl rfl hl.1 rfl (lv_room (Nat.le_of_ble_eq_true rfl)) dX7_ofBatch_22 ⟨Nat.le_of_ble_eq_true rfl, Nat.le_of_ble_eq_true rfl⟩) hS (fun q _ h => hA q (Nat.le_trans hS.1 h)) (fun q h => hA q (Nat.le_trans hS.1 h)) (fun r9 u t H1 locs ht hvm hw hB hz1 hk1 hS => ?_)
    subst hw
    have hP := va_Pnew hP hk1
    clear hz1 hk1 hvm ht hB
    generalize H1 = H at hP hS ⊢
    refine lv_if_ne (tgt := 34) hx hb dX7_ofBatch_25 (by decide) (fun c_9 => ?_) (fun c_9 => ?_)
    · have hf := it_f hf c_9
      refine lv_aload_n hx hb dX7_ofBatch_34 rfl (lv_at hl 0 rfl) ?_
      refine lv_iload_n hx hb dX7_ofBatch_35 rfl (lv_at hl 1 rfl) ?_
      refine lv_iload_n hx hb dX7_ofBatch_36 rfl (lv_at hl 2 rfl) ?_
      obtain ⟨r_10, g_11, hf⟩ := bd_out hf
      obtain ⟨q_12, wq_12, heq_12⟩ := heM_0 (cy := cy) (I := I_2) (D := D) hM
      refine va_calli (va_runV (As := [.int p1, .int p2]) (rest := []) ⟨hx, hb, hml, hown, hts⟩ (mt_X7_batchNow l dC dI L a b ad cy hM H.size I_2 D p1 p2 r_10 g_11) (cwV 2 hts gX7_ofBatch_X7_batchNow rfl rfl rfl (by decide +kernel) ⟨Nat.le_of_ble_eq_true rfl, Nat.le_of_ble_eq_true rfl⟩) ⟨(wM.pre [.ref (ad 0), .int p1, .int p2] hP hK hN).1, wM.recv (C := RX7) (T := TX7) (N := 9) hP hK heq_12 rfl, (wM.pre [.ref (ad 0), .int p1, .int p2] hP hK hN).2⟩ rfl rfl hl.1 rfl (lv_room (Nat.le_of_ble_eq_true rfl)) dX7_ofBatch_37 ⟨Nat.le_of_ble_eq_true rfl, Nat.le_of_ble_eq_true rfl⟩) hS (fun q _ h => hA q (Nat.le_trans hS.1 h)) (fun q h => hA q (Nat.le_trans hS.1 h)) (fun r9 u t H1 locs ht hvm hw hB hz1 hk1 hS => ?_)
      subst hw
      have hP := va_Pnew hP hk1
      clear hz1 hk1 hvm ht hB
      generalize H1 = H at hP hS ⊢
      have hf := Option.some.inj hf
      obtain ⟨q1, q2⟩ := Prod.mk.inj hf
      obtain ⟨q2, q3⟩ := Prod.mk.inj q2
      rw [q2, q3] at hP
      exact W.iret (v := r_10) hx hb hr (fun t ht hW9 => ⟨⟨r_10, (), rfl, q1.symm, wM.of hP hK hN ht hW9⟩, hS.F ht⟩) hS.2.2 dX7_ofBatch_40
    · have hf := it_t hf c_9
      refine lv_aload_n hx hb dX7_ofBatch_28 rfl (lv_at hl 0 rfl) ?_
      refine lv_iconst (v := 2) hx hb dX7_ofBatch_29 (by decide) ?_
      obtain ⟨⟨r_13, I_15, D_16⟩, g_14, hf⟩ := bd_out hf
      obtain ⟨q_17, wq_17, heq_17⟩ := heM_0 (cy := cy) (I := I_2) (D := D) hM
      have hAW : ∀ q, AM L ad H.size q → A q := fun q h => h.elim (fun ⟨k, k1, k2⟩ => k2 ▸ hAL k k1) (fun h => hA q (Nat.le_trans hS.1 h))
      refine va_calli (va_runV (As := [.int 2]) (rest := []) ⟨hx, hb, hml, hown, hts⟩ (mt_X7_no l dC dI L a b ad cy hM H.size I_2 D 2 r_13 I_15 D_16 g_14) (cwV 1 hts gX7_ofBatch_X7_no rfl rfl rfl (by decide +kernel) ⟨Nat.le_of_ble_eq_true rfl, Nat.le_of_ble_eq_true rfl⟩) ⟨(wM.pre [.ref (ad 0), .int 2] hP hK hN).1, wM.recv (C := RX7) (T := TX7) (N := 9) hP hK heq_17 rfl, (wM.pre [.ref (ad 0), .int 2] hP hK hN).2⟩ rfl rfl hl.1 rfl (lv_room (Nat.le_of_ble_eq_true rfl)) dX7_ofBatch_30 ⟨Nat.le_of_ble_eq_true rfl, Nat.le_of_ble_eq_true rfl⟩) hS (fun q _ h => hAW q h) hAW (fun r9 u t H1 locs ht hvm hw hB hz1 hk1 hS => ?_)
      subst hw
      have hP : va_P (dC, dI) vwCl (iwM L a b ad cy I_15 D_16) H1 := by rw [← ht]; exact hB.1
      clear hz1 hk1 hvm ht hB
      generalize H1 = H at hP hS ⊢
      have hf := Option.some.inj hf
      obtain ⟨q1, q2⟩ := Prod.mk.inj hf
      obtain ⟨q2, q3⟩ := Prod.mk.inj q2
      rw [q2, q3] at hP
      refine W.widen (k := 1) (n := 6) (Nat.le_of_ble_eq_true rfl) (Nat.le_of_ble_eq_true rfl) ?_
      exact W.iret (v := r_13) hx hb hr (fun t ht hW9 => ⟨⟨r_13, (), rfl, q1.symm, wM.of hP hK hN ht hW9⟩, hS.F ht⟩) hS.2.2 dX7_ofBatch_33
  · have hf := it_t hf c_6
    refine lv_aload_n hx hb dX7_ofBatch_13 rfl (lv_at hl 0 rfl) ?_
    refine lv_iconst (v := 1) hx hb dX7_ofBatch_14 (by decide) ?_
    obtain ⟨⟨r_18, I_20, D_21⟩, g_19, hf⟩ := bd_out hf
    obtain ⟨q_22, wq_22, heq_22⟩ := heM_0 (cy := cy) (I := I_2) (D := D) hM
    have hAW : ∀ q, AM L ad H.size q → A q := fun q h => h.elim (fun ⟨k, k1, k2⟩ => k2 ▸ hAL k k1) (fun h => hA q (Nat.le_trans hS.1 h))
    refine va_calli (va_runV (As := [.int 1]) (rest := []) ⟨hx, hb, hml, hown, hts⟩ (mt_X7_no l dC dI L a b ad cy hM H.size I_2 D 1 r_18 I_20 D_21 g_19) (cwV 1 hts gX7_ofBatch_X7_no rfl rfl rfl (by decide +kernel) ⟨Nat.le_of_ble_eq_true rfl, Nat.le_of_ble_eq_true rfl⟩) ⟨(wM.pre [.ref (ad 0), .int 1] hP hK hN).1, wM.recv (C := RX7) (T := TX7) (N := 9) hP hK heq_22 rfl, (wM.pre [.ref (ad 0), .int 1] hP hK hN).2⟩ rfl rfl hl.1 rfl (lv_room (Nat.le_of_ble_eq_true rfl)) dX7_ofBatch_15 ⟨Nat.le_of_ble_eq_true rfl, Nat.le_of_ble_eq_true rfl⟩) hS (fun q _ h => hAW q h) hAW (fun r9 u t H1 locs ht hvm hw hB hz1 hk1 hS => ?_)
    subst hw
    have hP : va_P (dC, dI) vwCl (iwM L a b ad cy I_20 D_21) H1 := by rw [← ht]; exact hB.1
    clear hz1 hk1 hvm ht hB
    generalize H1 = H at hP hS ⊢
    have hf := Option.some.inj hf
    obtain ⟨q1, q2⟩ := Prod.mk.inj hf
    obtain ⟨q2, q3⟩ := Prod.mk.inj q2
    rw [q2, q3] at hP
    refine W.widen (k := 1) (n := 6) (Nat.le_of_ble_eq_true rfl) (Nat.le_of_ble_eq_true rfl) ?_
    exact W.iret (v := r_18) hx hb hr (fun t ht hW9 => ⟨⟨r_18, (), rfl, q1.symm, wM.of hP hK hN ht hW9⟩, hS.F ht⟩) hS.2.2 dX7_ofBatch_18

def f_X7_manyNow (a b : Nat) (I : Nat → Nat → Int32) (D : Nat → Nat → UInt64) (p1 : Int32) : Option (Int32) :=
  nm (fun _ => (0 : Int32)) (fun (T_3 : Nat → Int32) => bd (f_size1 a b I D ) (fun r_5 => nm (upd T_3 0 r_5) (fun T_8 => bd (f_size2 a b I D ) (fun r_10 => nm (upd T_8 1 r_10) (fun T_13 => nm (upd T_13 2 (I 5 0)) (fun T_16 => bd (f_X5_count a b I D 5 11) (fun r_18 => nm (upd T_16 3 r_18) (fun T_21 => bd (f_X5_count a b I D 5 10) (fun r_23 => nm (upd T_21 4 r_23) (fun T_26 => nm (upd T_26 5 (I 5 6)) (fun T_29 => nm (upd T_29 6 (I 0 7)) (fun T_31 => nm (upd T_31 7 (I 0 6)) (fun T_33 => ck (inB 0 2) (nm (upd T_33 8 (I 13 (0 : Int32).toNatClampNeg)) (fun T_37 => ck (inB 1 2) (nm (upd T_37 9 (I 13 (1 : Int32).toNatClampNeg)) (fun T_41 => nm (upd T_41 10 (I 0 5)) (fun T_43 => nm (upd T_43 11 (I 0 8)) (fun T_45 => ck (inB p1 12) (some (T_45 (p1).toNatClampNeg)))))))))))))))))))))
theorem iX7_manyNow_RX5 : ∀ w ∈ u_ws RX5 TX5 10, w ∈ wsX7_manyNow := fun w h => List.mem_cons_of_mem _ (List.mem_append_left _ (List.mem_append_right _ (h)))
theorem iX7_manyNow_RX7 : ∀ w ∈ u_ws RX7 TX7 9, w ∈ wsX7_manyNow := fun w h => List.mem_cons_of_mem _ (List.mem_append_left _ (List.mem_append_left _ (List.mem_append_right _ (h))))
set_option maxHeartbeats 4000000 in
set_option maxRecDepth 100000 in
theorem mt_X7_manyNow (l : Launch) (dC : Nat → ClassId) (dI : Nat → Nat → Nat) (L : List Nat) (a b : Nat) (ad : Nat → Nat) (cy : Nat → ClassId) (hM : mOK L a b ad) (sz : Nat) (I : Nat → Nat → Int32) (D : Nat → Nat → UInt64) (p1 : Int32) (rr : Int32) (hf : f_X7_manyNow a b I D p1 = some rr) : Met l yX7_manyNow wsX7_manyNow ({ frames := 1, cells := 1, slots := 12, locals := 23 }) (va_Pc [.ref (ad 0), .int p1] (fun U => U.heap.size = sz ∧ wM dC dI L a b ad cy I D U)) (va_Qi (fun r (_ : Unit) => rr = r) (fun _ _ => True) (fun q => sz ≤ q)) 1 12 (fun q => sz ≤ q) := by
  refine Met.ofW (cc := cX7_manyNow) (maxL := 3) (ret := (some .int)) (by decide) rfl ?_
  intro p e s m args below meth c s₁ B hml hv
  obtain ⟨rfl, hsz, hP, hK, hN⟩ := hv
  have hx := B.exec
  have hb := B.bytes
  have hr := B.returns
  have hts := atoms_spec (ws := wsX7_manyNow) B.pre
  have hown : s.vm.findClass RX7 = some m.cls := findClass_of_methodNamed B.named
  have hlocks := B.notSynchronized
  subst hsz
  generalize hAe : (fun q : Nat => s.heap.size ≤ q) = A
  have hA : ∀ q : Nat, s.heap.size ≤ q → A q := fun q h => by rw [← hAe]; exact h
  have hAs : ∀ q : Nat, A q → s.heap.size ≤ q := fun q h => by rw [← hAe] at h; exact h
  have hP0 := hP
  obtain ⟨H, hH⟩ : ∃ H : Heap, H = s.heap := ⟨_, rfl⟩
  have hS : va_S A s.heap H [] := by rw [hH]; exact va_S.rf
  rw [← hH]
  rw [← hH] at hP
  have hl := lv_entry ([.ref (ad 0), .int p1]) (n := 3) (Nat.le_of_ble_eq_true rfl)
  rw [lg_entry_eq]
  generalize (lg_sl ([.ref (ad 0), .int p1]) ++ List.replicate (3 - (lg_sl ([.ref (ad 0), .int p1])).length) Slot.unset).toArray = ls at hl ⊢
  have hl : lv_has ls 3 [(0, .ref (ad 0)), (1, .int p1)] := hl
  unfold f_X7_manyNow at hf
  refine lv_bipush (v := 12) hx hb dX7_manyNow_0 (by decide) ?_
  obtain ⟨T_3, eT_3, hf⟩ := nm_out hf
  refine va_newa (atype := .int) (ty := .int) (N' := 12) (a0 := (12, .inl (fun _ => 0))) (ws := []) (D := (dC, dI)) (cl := vwCl) hx hb (hts (.arrayClass .int) (List.mem_cons_of_mem _ (List.mem_append_left _ (List.mem_append_left _ (List.mem_append_left _ (List.mem_of_getElem? (i := 0) rfl)))))) rfl hK va_P0 va_D0 hS hA (fun cA => va_arr0 cA 12) (by decide) (by decide) (by decide) (Nat.le_of_ble_eq_true rfl) (Nat.le_of_ble_eq_true rfl) dX7_manyNow_2 (fun q_1 cA_2 H hKt hT hTD hS => ?_)
  have hT : va_P (dC, dI) vwCl [(q_1, .inl (cA_2, 12, .inl T_3))] H := by rw [eT_3]; exact hT
  have hTD : va_D A [(q_1, .inl (cA_2, 12, .inl T_3))] := by rw [eT_3]; exact hTD
  have hP := va_Pk hP0 hS hAs
  refine lv_dup hx hb dX7_manyNow_4 rfl ?_
  refine lv_iconst (v := 0) hx hb dX7_manyNow_5 (by decide) ?_
  refine lv_aload_n hx hb dX7_manyNow_6 rfl (lv_at hl 0 rfl) ?_
  obtain ⟨q_4, wq_4, heq_4⟩ := heM_0 (cy := cy) (I := I) (D := D) hM
  refine va_get (D := (dC, dI)) (ci := 8) (v := .ref (ad 1)) (C := RX7) (T := TX7) (N := 9) hx hb hts iX7_manyNow_RX7 hown hK hP q_4 heq_4 rfl 1 (by decide) (hts (.fieldLink RX7 10 "OverrunHouseModel" "ingredients" "Ljava/util/List;") (List.mem_cons_of_mem _ (List.mem_append_left _ (List.mem_append_left _ (List.mem_append_left _ (List.mem_of_getElem? (i := 1) rfl)))))) (fun _ h9 => h9) rfl dX7_manyNow_7 ?_
  obtain ⟨r_5, g_6, hf⟩ := bd_out hf
  obtain ⟨q_7, wq_7, heq_7⟩ := heM_1 (cy := cy) (I := I) (D := D) hM
  refine va_callFi (va_runF (As := []) (rest := [.int 0, .ref q_1, .ref q_1]) (hK.1 0 _ rfl).2 ⟨hx, hb, hml, hown, hts⟩ (mt_size1 l dC dI L a b ad cy hM H.size I D  r_5 g_6) (va_cwF 0 hts gX7_manyNow_Jx4a65c_size_8abf5_f36Jx4a65c rfl rfl rfl hN.2.1 (by decide +kernel) ⟨Nat.le_of_ble_eq_true rfl, Nat.le_of_ble_eq_true rfl⟩) ⟨(wM.pre [.ref (ad 1)] hP hK hN).1, wM.recv (C := RJx4a65c) (T := TJx4a65c) (N := 3) hP hK heq_7 rfl, (wM.pre [.ref (ad 1)] hP hK hN).2⟩ rfl rfl hl.1 rfl (lv_room (Nat.le_of_ble_eq_true rfl)) dX7_manyNow_10 ⟨Nat.le_of_ble_eq_true rfl, Nat.le_of_ble_eq_true rfl⟩) hS (fun q _ h => hA q (Nat.le_trans hS.1 h)) (fun q h => hA q (Nat.le_trans hS.1 h)) (fun r9 u t H1 locs ht hvm hw hB hz1 hk1 hS => ?_)
  subst hw
  have hP := va_Pnew hP hk1
  have hT := va_Pnew hT hk1
  clear hz1 hk1 hvm ht hB
  generalize H1 = H at hP hT hS ⊢
  obtain ⟨T_8, eT_8, hf⟩ := nm_out hf
  refine va_iast (n := 12) (f := T_3) hx hb hKt hT hTD hS 0 8 rfl rfl (inB_in (n := 12) (i := 0) rfl) dX7_manyNow_15 (fun H locs hT hTD hS => ?_)
  have hT : va_P (dC, dI) vwCl [(q_1, .inl (cA_2, 12, .inl T_8))] H := by rw [eT_8]; exact hT
  have hTD : va_D A [(q_1, .inl (cA_2, 12, .inl T_8))] := by rw [eT_8]; exact hTD
  have hP := va_Pk hP0 hS hAs
  refine lv_dup hx hb dX7_manyNow_16 rfl ?_
  refine lv_iconst (v := 1) hx hb dX7_manyNow_17 (by decide) ?_
  refine lv_aload_n hx hb dX7_manyNow_18 rfl (lv_at hl 0 rfl) ?_
  obtain ⟨q_9, wq_9, heq_9⟩ := heM_0 (cy := cy) (I := I) (D := D) hM
  refine va_get (D := (dC, dI)) (ci := 8) (v := .ref (ad 2)) (C := RX7) (T := TX7) (N := 9) hx hb hts iX7_manyNow_RX7 hown hK hP q_9 heq_9 rfl 2 (by decide) (hts (.fieldLink RX7 16 "OverrunHouseModel" "mixes" "Ljava/util/List;") (List.mem_cons_of_mem _ (List.mem_append_left _ (List.mem_append_left _ (List.mem_append_left _ (List.mem_of_getElem? (i := 2) rfl)))))) (fun _ h9 => h9) rfl dX7_manyNow_19 ?_
  obtain ⟨r_10, g_11, hf⟩ := bd_out hf
  obtain ⟨q_12, wq_12, heq_12⟩ := heM_2 (cy := cy) (I := I) (D := D) hM
  refine va_callFi (va_runF (As := []) (rest := [.int 1, .ref q_1, .ref q_1]) (hK.1 0 _ rfl).2 ⟨hx, hb, hml, hown, hts⟩ (mt_size2 l dC dI L a b ad cy hM H.size I D  r_10 g_11) (va_cwF 0 hts gX7_manyNow_Jx4a65c_size_8abf5_f36Jx4a65c rfl rfl rfl hN.2.1 (by decide +kernel) ⟨Nat.le_of_ble_eq_true rfl, Nat.le_of_ble_eq_true rfl⟩) ⟨(wM.pre [.ref (ad 2)] hP hK hN).1, wM.recv (C := RJx4a65c) (T := TJx4a65c) (N := 3) hP hK heq_12 rfl, (wM.pre [.ref (ad 2)] hP hK hN).2⟩ rfl rfl hl.1 rfl (lv_room (Nat.le_of_ble_eq_true rfl)) dX7_manyNow_22 ⟨Nat.le_of_ble_eq_true rfl, Nat.le_of_ble_eq_true rfl⟩) hS (fun q _ h => hA q (Nat.le_trans hS.1 h)) (fun q h => hA q (Nat.le_trans hS.1 h)) (fun r9 u t H1 locs ht hvm hw hB hz1 hk1 hS => ?_)
  subst hw
  have hP := va_Pnew hP hk1
  have hT := va_Pnew hT hk1
  clear hz1 hk1 hvm ht hB
  generalize H1 = H at hP hT hS ⊢
  obtain ⟨T_13, eT_13, hf⟩ := nm_out hf
  refine va_iast (n := 12) (f := T_8) hx hb hKt hT hTD hS 0 8 rfl rfl (inB_in (n := 12) (i := 1) rfl) dX7_manyNow_27 (fun H locs hT hTD hS => ?_)
  have hT : va_P (dC, dI) vwCl [(q_1, .inl (cA_2, 12, .inl T_13))] H := by rw [eT_13]; exact hT
  have hTD : va_D A [(q_1, .inl (cA_2, 12, .inl T_13))] := by rw [eT_13]; exact hTD
  have hP := va_Pk hP0 hS hAs
  refine lv_dup hx hb dX7_manyNow_28 rfl ?_
  refine lv_iconst (v := 2) hx hb dX7_manyNow_29 (by decide) ?_
  refine lv_aload_n hx hb dX7_manyNow_30 rfl (lv_at hl 0 rfl) ?_
  obtain ⟨q_14, wq_14, heq_14⟩ := heM_0 (cy := cy) (I := I) (D := D) hM
  refine va_get (D := (dC, dI)) (ci := 8) (v := .ref (ad 5)) (C := RX7) (T := TX7) (N := 9) hx hb hts iX7_manyNow_RX7 hown hK hP q_14 heq_14 rfl 3 (by decide) (hts (.fieldLink RX7 24 "OverrunHouseModel" "cold" "LOverrunHouseModel$Cold;") (List.mem_cons_of_mem _ (List.mem_append_left _ (List.mem_append_left _ (List.mem_append_left _ (List.mem_of_getElem? (i := 3) rfl)))))) (fun _ h9 => h9) rfl dX7_manyNow_31 ?_
  obtain ⟨q_15, wq_15, heq_15⟩ := heM_Cold (cy := cy) (I := I) (D := D) (a := a) (b := b) (cOK_5 hM)
  refine va_get (D := (dC, dI)) (ci := 6) (v := .int (I 5 0)) (C := RX5) (T := TX5) (N := 10) hx hb hts iX7_manyNow_RX5 hown hK hP q_15 heq_15 rfl 0 (by decide) (hts (.fieldLink RX7 46 "OverrunHouseModel$Cold" "batches" "I") (List.mem_cons_of_mem _ (List.mem_append_left _ (List.mem_append_left _ (List.mem_append_left _ (List.mem_of_getElem? (i := 4) rfl)))))) (fun _ h9 => h9) rfl dX7_manyNow_34 ?_
  obtain ⟨T_16, eT_16, hf⟩ := nm_out hf
  refine va_iast (n := 12) (f := T_13) hx hb hKt hT hTD hS 0 8 rfl rfl (inB_in (n := 12) (i := 2) rfl) dX7_manyNow_37 (fun H locs hT hTD hS => ?_)
  have hT : va_P (dC, dI) vwCl [(q_1, .inl (cA_2, 12, .inl T_16))] H := by rw [eT_16]; exact hT
  have hTD : va_D A [(q_1, .inl (cA_2, 12, .inl T_16))] := by rw [eT_16]; exact hTD
  have hP := va_Pk hP0 hS hAs
  refine lv_dup hx hb dX7_manyNow_38 rfl ?_
  refine lv_iconst (v := 3) hx hb dX7_manyNow_39 (by decide) ?_
  refine lv_aload_n hx hb dX7_manyNow_40 rfl (lv_at hl 0 rfl) ?_
  obtain ⟨q_17, wq_17, heq_17⟩ := heM_0 (cy := cy) (I := I) (D := D) hM
  refine va_get (D := (dC, dI)) (ci := 8) (v := .ref (ad 5)) (C := RX7) (T := TX7) (N := 9) hx hb hts iX7_manyNow_RX7 hown hK hP q_17 heq_17 rfl 3 (by decide) (hts (.fieldLink RX7 24 "OverrunHouseModel" "cold" "LOverrunHouseModel$Cold;") (List.mem_cons_of_mem _ (List.mem_append_left _ (List.mem_append_left _ (List.mem_append_left _ (List.mem_of_getElem? (i := 3) rfl)))))) (fun _ h9 => h9) rfl dX7_manyNow_41 ?_
  refine lv_bipush (v := 11) hx hb dX7_manyNow_44 (by decide) ?_
  obtain ⟨r_18, g_19, hf⟩ := bd_out hf
  obtain ⟨q_20, wq_20, heq_20⟩ := heM_Cold (cy := cy) (I := I) (D := D) (a := a) (b := b) (cOK_5 hM)
  refine va_calli (va_runV (As := [.int 11]) (rest := [.int 3, .ref q_1, .ref q_1]) ⟨hx, hb, hml, hown, hts⟩ (mt_X5_count l dC dI L a b ad cy hM H.size I D 5 (cOK_5 hM) 11 r_18 g_19) (cwV 1 hts gX7_manyNow_X5_count rfl rfl rfl (by decide +kernel) ⟨Nat.le_of_ble_eq_true rfl, Nat.le_of_ble_eq_true rfl⟩) ⟨(wM.pre [.ref (ad 5), .int 11] hP hK hN).1, wM.recv (C := RX5) (T := TX5) (N := 10) hP hK heq_20 rfl, (wM.pre [.ref (ad 5), .int 11] hP hK hN).2⟩ rfl rfl hl.1 rfl (lv_room (Nat.le_of_ble_eq_true rfl)) dX7_manyNow_46 ⟨Nat.le_of_ble_eq_true rfl, Nat.le_of_ble_eq_true rfl⟩) hS (fun q _ h => hA q (Nat.le_trans hS.1 h)) (fun q h => hA q (Nat.le_trans hS.1 h)) (fun r9 u t H1 locs ht hvm hw hB hz1 hk1 hS => ?_)
  subst hw
  have hP := va_Pnew hP hk1
  have hT := va_Pnew hT hk1
  clear hz1 hk1 hvm ht hB
  generalize H1 = H at hP hT hS ⊢
  obtain ⟨T_21, eT_21, hf⟩ := nm_out hf
  refine va_iast (n := 12) (f := T_16) hx hb hKt hT hTD hS 0 8 rfl rfl (inB_in (n := 12) (i := 3) rfl) dX7_manyNow_49 (fun H locs hT hTD hS => ?_)
  have hT : va_P (dC, dI) vwCl [(q_1, .inl (cA_2, 12, .inl T_21))] H := by rw [eT_21]; exact hT
  have hTD : va_D A [(q_1, .inl (cA_2, 12, .inl T_21))] := by rw [eT_21]; exact hTD
  have hP := va_Pk hP0 hS hAs
  refine lv_dup hx hb dX7_manyNow_50 rfl ?_
  refine lv_iconst (v := 4) hx hb dX7_manyNow_51 (by decide) ?_
  refine lv_aload_n hx hb dX7_manyNow_52 rfl (lv_at hl 0 rfl) ?_
  obtain ⟨q_22, wq_22, heq_22⟩ := heM_0 (cy := cy) (I := I) (D := D) hM
  refine va_get (D := (dC, dI)) (ci := 8) (v := .ref (ad 5)) (C := RX7) (T := TX7) (N := 9) hx hb hts iX7_manyNow_RX7 hown hK hP q_22 heq_22 rfl 3 (by decide) (hts (.fieldLink RX7 24 "OverrunHouseModel" "cold" "LOverrunHouseModel$Cold;") (List.mem_cons_of_mem _ (List.mem_append_left _ (List.mem_append_left _ (List.mem_append_left _ (List.mem_of_getElem? (i := 3) rfl)))))) (fun _ h9 => h9) rfl dX7_manyNow_53 ?_
  refine lv_bipush (v := 10) hx hb dX7_manyNow_56 (by decide) ?_
  obtain ⟨r_23, g_24, hf⟩ := bd_out hf
  obtain ⟨q_25, wq_25, heq_25⟩ := heM_Cold (cy := cy) (I := I) (D := D) (a := a) (b := b) (cOK_5 hM)
  refine va_calli (va_runV (As := [.int 10]) (rest := [.int 4, .ref q_1, .ref q_1]) ⟨hx, hb, hml, hown, hts⟩ (mt_X5_count l dC dI L a b ad cy hM H.size I D 5 (cOK_5 hM) 10 r_23 g_24) (cwV 1 hts gX7_manyNow_X5_count rfl rfl rfl (by decide +kernel) ⟨Nat.le_of_ble_eq_true rfl, Nat.le_of_ble_eq_true rfl⟩) ⟨(wM.pre [.ref (ad 5), .int 10] hP hK hN).1, wM.recv (C := RX5) (T := TX5) (N := 10) hP hK heq_25 rfl, (wM.pre [.ref (ad 5), .int 10] hP hK hN).2⟩ rfl rfl hl.1 rfl (lv_room (Nat.le_of_ble_eq_true rfl)) dX7_manyNow_58 ⟨Nat.le_of_ble_eq_true rfl, Nat.le_of_ble_eq_true rfl⟩) hS (fun q _ h => hA q (Nat.le_trans hS.1 h)) (fun q h => hA q (Nat.le_trans hS.1 h)) (fun r9 u t H1 locs ht hvm hw hB hz1 hk1 hS => ?_)
  subst hw
  have hP := va_Pnew hP hk1
  have hT := va_Pnew hT hk1
  clear hz1 hk1 hvm ht hB
  generalize H1 = H at hP hT hS ⊢
  obtain ⟨T_26, eT_26, hf⟩ := nm_out hf
  refine va_iast (n := 12) (f := T_21) hx hb hKt hT hTD hS 0 8 rfl rfl (inB_in (n := 12) (i := 4) rfl) dX7_manyNow_61 (fun H locs hT hTD hS => ?_)
  have hT : va_P (dC, dI) vwCl [(q_1, .inl (cA_2, 12, .inl T_26))] H := by rw [eT_26]; exact hT
  have hTD : va_D A [(q_1, .inl (cA_2, 12, .inl T_26))] := by rw [eT_26]; exact hTD
  have hP := va_Pk hP0 hS hAs
  refine lv_dup hx hb dX7_manyNow_62 rfl ?_
  refine lv_iconst (v := 5) hx hb dX7_manyNow_63 (by decide) ?_
  refine lv_aload_n hx hb dX7_manyNow_64 rfl (lv_at hl 0 rfl) ?_
  obtain ⟨q_27, wq_27, heq_27⟩ := heM_0 (cy := cy) (I := I) (D := D) hM
  refine va_get (D := (dC, dI)) (ci := 8) (v := .ref (ad 5)) (C := RX7) (T := TX7) (N := 9) hx hb hts iX7_manyNow_RX7 hown hK hP q_27 heq_27 rfl 3 (by decide) (hts (.fieldLink RX7 24 "OverrunHouseModel" "cold" "LOverrunHouseModel$Cold;") (List.mem_cons_of_mem _ (List.mem_append_left _ (List.mem_append_left _ (List.mem_append_left _ (List.mem_of_getElem? (i := 3) rfl)))))) (fun _ h9 => h9) rfl dX7_manyNow_65 ?_
  obtain ⟨q_28, wq_28, heq_28⟩ := heM_Cold (cy := cy) (I := I) (D := D) (a := a) (b := b) (cOK_5 hM)
  refine va_get (D := (dC, dI)) (ci := 6) (v := .int (I 5 6)) (C := RX5) (T := TX5) (N := 10) hx hb hts iX7_manyNow_RX5 hown hK hP q_28 heq_28 rfl 6 (by decide) (hts (.fieldLink RX7 49 "OverrunHouseModel$Cold" "stores" "I") (List.mem_cons_of_mem _ (List.mem_append_left _ (List.mem_append_left _ (List.mem_append_left _ (List.mem_of_getElem? (i := 5) rfl)))))) (fun _ h9 => h9) rfl dX7_manyNow_68 ?_
  obtain ⟨T_29, eT_29, hf⟩ := nm_out hf
  refine va_iast (n := 12) (f := T_26) hx hb hKt hT hTD hS 0 8 rfl rfl (inB_in (n := 12) (i := 5) rfl) dX7_manyNow_71 (fun H locs hT hTD hS => ?_)
  have hT : va_P (dC, dI) vwCl [(q_1, .inl (cA_2, 12, .inl T_29))] H := by rw [eT_29]; exact hT
  have hTD : va_D A [(q_1, .inl (cA_2, 12, .inl T_29))] := by rw [eT_29]; exact hTD
  have hP := va_Pk hP0 hS hAs
  refine lv_dup hx hb dX7_manyNow_72 rfl ?_
  refine lv_bipush (v := 6) hx hb dX7_manyNow_73 (by decide) ?_
  refine lv_aload_n hx hb dX7_manyNow_75 rfl (lv_at hl 0 rfl) ?_
  obtain ⟨q_30, wq_30, heq_30⟩ := heM_0 (cy := cy) (I := I) (D := D) hM
  refine va_get (D := (dC, dI)) (ci := 8) (v := .int (I 0 7)) (C := RX7) (T := TX7) (N := 9) hx hb hts iX7_manyNow_RX7 hown hK hP q_30 heq_30 rfl 7 (by decide) (hts (.fieldLink RX7 162 "OverrunHouseModel" "hours" "I") (List.mem_cons_of_mem _ (List.mem_append_left _ (List.mem_append_left _ (List.mem_append_left _ (List.mem_of_getElem? (i := 6) rfl)))))) (fun _ h9 => h9) rfl dX7_manyNow_76 ?_
  obtain ⟨T_31, eT_31, hf⟩ := nm_out hf
  refine va_iast (n := 12) (f := T_29) hx hb hKt hT hTD hS 0 8 rfl rfl (inB_in (n := 12) (i := 6) rfl) dX7_manyNow_79 (fun H locs hT hTD hS => ?_)
  have hT : va_P (dC, dI) vwCl [(q_1, .inl (cA_2, 12, .inl T_31))] H := by rw [eT_31]; exact hT
  have hTD : va_D A [(q_1, .inl (cA_2, 12, .inl T_31))] := by rw [eT_31]; exact hTD
  have hP := va_Pk hP0 hS hAs
  refine lv_dup hx hb dX7_manyNow_80 rfl ?_
  refine lv_bipush (v := 7) hx hb dX7_manyNow_81 (by decide) ?_
  refine lv_aload_n hx hb dX7_manyNow_83 rfl (lv_at hl 0 rfl) ?_
  obtain ⟨q_32, wq_32, heq_32⟩ := heM_0 (cy := cy) (I := I) (D := D) hM
  refine va_get (D := (dC, dI)) (ci := 8) (v := .int (I 0 6)) (C := RX7) (T := TX7) (N := 9) hx hb hts iX7_manyNow_RX7 hown hK hP q_32 heq_32 rfl 6 (by decide) (hts (.fieldLink RX7 171 "OverrunHouseModel" "gain" "I") (List.mem_cons_of_mem _ (List.mem_append_left _ (List.mem_append_left _ (List.mem_append_left _ (List.mem_of_getElem? (i := 7) rfl)))))) (fun _ h9 => h9) rfl dX7_manyNow_84 ?_
  obtain ⟨T_33, eT_33, hf⟩ := nm_out hf
  refine va_iast (n := 12) (f := T_31) hx hb hKt hT hTD hS 0 8 rfl rfl (inB_in (n := 12) (i := 7) rfl) dX7_manyNow_87 (fun H locs hT hTD hS => ?_)
  have hT : va_P (dC, dI) vwCl [(q_1, .inl (cA_2, 12, .inl T_33))] H := by rw [eT_33]; exact hT
  have hTD : va_D A [(q_1, .inl (cA_2, 12, .inl T_33))] := by rw [eT_33]; exact hTD
  have hP := va_Pk hP0 hS hAs
  refine lv_dup hx hb dX7_manyNow_88 rfl ?_
  refine lv_bipush (v := 8) hx hb dX7_manyNow_89 (by decide) ?_
  refine lv_aload_n hx hb dX7_manyNow_91 rfl (lv_at hl 0 rfl) ?_
  obtain ⟨q_34, wq_34, heq_34⟩ := heM_0 (cy := cy) (I := I) (D := D) hM
  refine va_get (D := (dC, dI)) (ci := 8) (v := .ref (ad 13)) (C := RX7) (T := TX7) (N := 9) hx hb hts iX7_manyNow_RX7 hown hK hP q_34 heq_34 rfl 4 (by decide) (hts (.fieldLink RX7 28 "OverrunHouseModel" "rests" "[I") (List.mem_cons_of_mem _ (List.mem_append_left _ (List.mem_append_left _ (List.mem_append_left _ (List.mem_of_getElem? (i := 8) rfl)))))) (fun _ h9 => h9) rfl dX7_manyNow_92 ?_
  refine lv_iconst (v := 0) hx hb dX7_manyNow_95 (by decide) ?_
  obtain ⟨q_35, wq_35, heq_35⟩ := heM_13 (cy := cy) (I := I) (D := D) hM
  obtain ⟨h_36, hf⟩ := ck_out hf
  refine va_iald (n := 2) (f := I 13) hx hb hK hP q_35 0 heq_35 rfl (inB_in h_36) dX7_manyNow_96 ?_
  obtain ⟨T_37, eT_37, hf⟩ := nm_out hf
  refine va_iast (n := 12) (f := T_33) hx hb hKt hT hTD hS 0 8 rfl rfl (inB_in (n := 12) (i := 8) rfl) dX7_manyNow_97 (fun H locs hT hTD hS => ?_)
  have hT : va_P (dC, dI) vwCl [(q_1, .inl (cA_2, 12, .inl T_37))] H := by rw [eT_37]; exact hT
  have hTD : va_D A [(q_1, .inl (cA_2, 12, .inl T_37))] := by rw [eT_37]; exact hTD
  have hP := va_Pk hP0 hS hAs
  refine lv_dup hx hb dX7_manyNow_98 rfl ?_
  refine lv_bipush (v := 9) hx hb dX7_manyNow_99 (by decide) ?_
  refine lv_aload_n hx hb dX7_manyNow_101 rfl (lv_at hl 0 rfl) ?_
  obtain ⟨q_38, wq_38, heq_38⟩ := heM_0 (cy := cy) (I := I) (D := D) hM
  refine va_get (D := (dC, dI)) (ci := 8) (v := .ref (ad 13)) (C := RX7) (T := TX7) (N := 9) hx hb hts iX7_manyNow_RX7 hown hK hP q_38 heq_38 rfl 4 (by decide) (hts (.fieldLink RX7 28 "OverrunHouseModel" "rests" "[I") (List.mem_cons_of_mem _ (List.mem_append_left _ (List.mem_append_left _ (List.mem_append_left _ (List.mem_of_getElem? (i := 8) rfl)))))) (fun _ h9 => h9) rfl dX7_manyNow_102 ?_
  refine lv_iconst (v := 1) hx hb dX7_manyNow_105 (by decide) ?_
  obtain ⟨q_39, wq_39, heq_39⟩ := heM_13 (cy := cy) (I := I) (D := D) hM
  obtain ⟨h_40, hf⟩ := ck_out hf
  refine va_iald (n := 2) (f := I 13) hx hb hK hP q_39 0 heq_39 rfl (inB_in h_40) dX7_manyNow_106 ?_
  obtain ⟨T_41, eT_41, hf⟩ := nm_out hf
  refine va_iast (n := 12) (f := T_37) hx hb hKt hT hTD hS 0 8 rfl rfl (inB_in (n := 12) (i := 9) rfl) dX7_manyNow_107 (fun H locs hT hTD hS => ?_)
  have hT : va_P (dC, dI) vwCl [(q_1, .inl (cA_2, 12, .inl T_41))] H := by rw [eT_41]; exact hT
  have hTD : va_D A [(q_1, .inl (cA_2, 12, .inl T_41))] := by rw [eT_41]; exact hTD
  have hP := va_Pk hP0 hS hAs
  refine lv_dup hx hb dX7_manyNow_108 rfl ?_
  refine lv_bipush (v := 10) hx hb dX7_manyNow_109 (by decide) ?_
  refine lv_aload_n hx hb dX7_manyNow_111 rfl (lv_at hl 0 rfl) ?_
  obtain ⟨q_42, wq_42, heq_42⟩ := heM_0 (cy := cy) (I := I) (D := D) hM
  refine va_get (D := (dC, dI)) (ci := 8) (v := .int (I 0 5)) (C := RX7) (T := TX7) (N := 9) hx hb hts iX7_manyNow_RX7 hown hK hP q_42 heq_42 rfl 5 (by decide) (hts (.fieldLink RX7 132 "OverrunHouseModel" "washes" "I") (List.mem_cons_of_mem _ (List.mem_append_left _ (List.mem_append_left _ (List.mem_append_left _ (List.mem_of_getElem? (i := 9) rfl)))))) (fun _ h9 => h9) rfl dX7_manyNow_112 ?_
  obtain ⟨T_43, eT_43, hf⟩ := nm_out hf
  refine va_iast (n := 12) (f := T_41) hx hb hKt hT hTD hS 0 8 rfl rfl (inB_in (n := 12) (i := 10) rfl) dX7_manyNow_115 (fun H locs hT hTD hS => ?_)
  have hT : va_P (dC, dI) vwCl [(q_1, .inl (cA_2, 12, .inl T_43))] H := by rw [eT_43]; exact hT
  have hTD : va_D A [(q_1, .inl (cA_2, 12, .inl T_43))] := by rw [eT_43]; exact hTD
  have hP := va_Pk hP0 hS hAs
  refine lv_dup hx hb dX7_manyNow_116 rfl ?_
  refine lv_bipush (v := 11) hx hb dX7_manyNow_117 (by decide) ?_
  refine lv_aload_n hx hb dX7_manyNow_119 rfl (lv_at hl 0 rfl) ?_
  obtain ⟨q_44, wq_44, heq_44⟩ := heM_0 (cy := cy) (I := I) (D := D) hM
  refine va_get (D := (dC, dI)) (ci := 8) (v := .int (I 0 8)) (C := RX7) (T := TX7) (N := 9) hx hb hts iX7_manyNow_RX7 hown hK hP q_44 heq_44 rfl 8 (by decide) (hts (.fieldLink RX7 64 "OverrunHouseModel" "called" "I") (List.mem_cons_of_mem _ (List.mem_append_left _ (List.mem_append_left _ (List.mem_append_left _ (List.mem_of_getElem? (i := 10) rfl)))))) (fun _ h9 => h9) rfl dX7_manyNow_120 ?_
  obtain ⟨T_45, eT_45, hf⟩ := nm_out hf
  refine va_iast (n := 12) (f := T_43) hx hb hKt hT hTD hS 0 8 rfl rfl (inB_in (n := 12) (i := 11) rfl) dX7_manyNow_123 (fun H locs hT hTD hS => ?_)
  have hT : va_P (dC, dI) vwCl [(q_1, .inl (cA_2, 12, .inl T_45))] H := by rw [eT_45]; exact hT
  have hTD : va_D A [(q_1, .inl (cA_2, 12, .inl T_45))] := by rw [eT_45]; exact hTD
  have hP := va_Pk hP0 hS hAs
  refine lv_astore_n (lv' := [(2, .ref q_1), (0, .ref (ad 0)), (1, .int p1)]) hx hb dX7_manyNow_124 rfl hl (by decide) rfl (fun ls hl => ?_)
  refine lv_aload_n hx hb dX7_manyNow_125 rfl (lv_at hl 0 rfl) ?_
  refine lv_iload_n hx hb dX7_manyNow_126 rfl (lv_at hl 2 rfl) ?_
  obtain ⟨h_46, hf⟩ := ck_out hf
  refine va_iald (n := 12) (f := T_45) hx hb hKt hT 0 8 rfl rfl (inB_in h_46) dX7_manyNow_127 ?_
  have hf := Option.some.inj hf
  have q1 := hf
  exact W.iret (v := (T_45 (p1).toNatClampNeg)) hx hb hr (fun t ht hW9 => ⟨⟨(T_45 (p1).toNatClampNeg), (), rfl, q1.symm, trivial⟩, hS.F ht⟩) hS.2.2 dX7_manyNow_128

def f_X7_many (a b : Nat) (I : Nat → Nat → Int32) (D : Nat → Nat → UInt64) (p1 : Int32) : Option (Int32 × (Nat → Nat → Int32) × (Nat → Nat → UInt64)) :=
  nm (up2 I 0 0 0) (fun I_2 => bd (f_X7_in p1 0 11) (fun r_3 => (if r_3 = 0 then bd (f_X7_no a b I_2 D 1) (fun (r_9, I_11, D_12) => some (r_9, I_11, D_12)) else bd (f_X7_manyNow a b I_2 D p1) (fun r_6 => some (r_6, I_2, D)))))
theorem iX7_many_RX7 : ∀ w ∈ u_ws RX7 TX7 9, w ∈ wsX7_many := fun w h => List.mem_cons_of_mem _ (List.mem_append_left _ (List.mem_append_left _ (List.mem_append_right _ (h))))
set_option maxHeartbeats 4000000 in
set_option maxRecDepth 100000 in
theorem mt_X7_many (l : Launch) (dC : Nat → ClassId) (dI : Nat → Nat → Nat) (L : List Nat) (a b : Nat) (ad : Nat → Nat) (cy : Nat → ClassId) (hM : mOK L a b ad) (sz : Nat) (I : Nat → Nat → Int32) (D : Nat → Nat → UInt64) (p1 : Int32) (rr : Int32) (I9 : Nat → Nat → Int32) (D9 : Nat → Nat → UInt64) (hf : f_X7_many a b I D p1 = some (rr, I9, D9)) : Met l yX7_many wsX7_many ({ frames := 2, cells := 1, slots := 12, locals := 45 }) (va_Pc [.ref (ad 0), .int p1] (fun U => U.heap.size = sz ∧ wM dC dI L a b ad cy I D U)) (va_Qi (fun r (_ : Unit) => rr = r) (fun _ t => wM dC dI L a b ad cy I9 D9 t) (AM L ad sz)) 1 12 (AM L ad sz) := by
  refine Met.ofW (cc := cX7_many) (maxL := 2) (ret := (some .int)) (by decide) rfl ?_
  intro p e s m args below meth c s₁ B hml hv
  obtain ⟨rfl, hsz, hP, hK, hN⟩ := hv
  have hx := B.exec
  have hb := B.bytes
  have hr := B.returns
  have hts := atoms_spec (ws := wsX7_many) B.pre
  have hown : s.vm.findClass RX7 = some m.cls := findClass_of_methodNamed B.named
  have hlocks := B.notSynchronized
  subst hsz
  generalize hAe : AM L ad s.heap.size = A
  have hA : ∀ q : Nat, s.heap.size ≤ q → A q := fun q h => by rw [← hAe]; exact Or.inr h
  have hAL : ∀ k, k ∈ L → A (ad k) := fun k h => by rw [← hAe]; exact Or.inl ⟨k, h, rfl⟩
  have hDD : ∀ I D, va_D A (iwM L a b ad cy I D) := fun I D => iwM_D hM hAL I D
  obtain ⟨H, hH⟩ : ∃ H : Heap, H = s.heap := ⟨_, rfl⟩
  have hS : va_S A s.heap H [] := by rw [hH]; exact va_S.rf
  rw [← hH]
  rw [← hH] at hP
  have hl := lv_entry ([.ref (ad 0), .int p1]) (n := 2) (Nat.le_of_ble_eq_true rfl)
  rw [lg_entry_eq]
  generalize (lg_sl ([.ref (ad 0), .int p1]) ++ List.replicate (2 - (lg_sl ([.ref (ad 0), .int p1])).length) Slot.unset).toArray = ls at hl ⊢
  have hl : lv_has ls 2 [(0, .ref (ad 0)), (1, .int p1)] := hl
  unfold f_X7_many at hf
  refine lv_aload_n hx hb dX7_many_0 rfl (lv_at hl 0 rfl) ?_
  refine lv_iconst (v := 0) hx hb dX7_many_1 (by decide) ?_
  obtain ⟨q_1, wq_1, heq_1⟩ := heM_0 (cy := cy) (I := I) (D := D) hM
  obtain ⟨I_2, eI_2, hf⟩ := nm_out hf
  refine va_put (D := (dC, dI)) (ci := 8) (v := .int 0) (ty := .int) (C := RX7) (T := TX7) (N := 9) hx hb hts iX7_many_RX7 tyX7 tyX7_ok nmX7 hown hK hP (hDD I D) hS q_1 heq_1 rfl 0 (by decide) (hts (.fieldLink RX7 32 "OverrunHouseModel" "thrown" "I") (List.mem_cons_of_mem _ (List.mem_append_left _ (List.mem_append_left _ (List.mem_append_left _ (List.mem_append_left _ (List.mem_of_getElem? (i := 0) rfl))))))) (fun _ h9 => h9) rfl (by decide +kernel) rfl rfl (Nat.le_of_ble_eq_true rfl) dX7_many_2 (fun H locs hP _ hS => ?_)
  have hP : va_P (dC, dI) vwCl (iwM L a b ad cy I_2 D) H := by rw [eI_2]; exact hqI hM wq_1 ((cellM_0 ad cy a b _ _).trans rfl) hP
  refine lv_iload_n hx hb dX7_many_5 rfl (lv_at hl 1 rfl) ?_
  refine lv_iconst (v := 0) hx hb dX7_many_6 (by decide) ?_
  refine lv_bipush (v := 11) hx hb dX7_many_7 (by decide) ?_
  obtain ⟨r_3, g_4, hf⟩ := bd_out hf
  refine va_calli (va_runS (As := [.int p1, .int 0, .int 11]) (rest := []) ⟨hx, hb, hml, hown, hts⟩ (mt_X7_in l H.size p1 0 11 r_3 g_4) (va_cwS 3 hts gX7_many_X7_in rfl rfl rfl (by decide +kernel) ⟨Nat.le_of_ble_eq_true rfl, Nat.le_of_ble_eq_true rfl⟩) (pre0 [.int p1, .int 0, .int 11]) rfl rfl hl.1 rfl (lv_room (Nat.le_of_ble_eq_true rfl)) dX7_many_9 ⟨Nat.le_of_ble_eq_true rfl, Nat.le_of_ble_eq_true rfl⟩) hS (fun q _ h => hA q (Nat.le_trans hS.1 h)) (fun q h => hA q (Nat.le_trans hS.1 h)) (fun r9 u t H1 locs ht hvm hw hB hz1 hk1 hS => ?_)
  subst hw
  have hP := va_Pnew hP hk1
  clear hz1 hk1 hvm ht hB
  generalize H1 = H at hP hS ⊢
  refine lv_if_ne (tgt := 21) hx hb dX7_many_12 (by decide) (fun c_5 => ?_) (fun c_5 => ?_)
  · have hf := it_f hf c_5
    refine lv_aload_n hx hb dX7_many_21 rfl (lv_at hl 0 rfl) ?_
    refine lv_iload_n hx hb dX7_many_22 rfl (lv_at hl 1 rfl) ?_
    obtain ⟨r_6, g_7, hf⟩ := bd_out hf
    obtain ⟨q_8, wq_8, heq_8⟩ := heM_0 (cy := cy) (I := I_2) (D := D) hM
    refine va_calli (va_runV (As := [.int p1]) (rest := []) ⟨hx, hb, hml, hown, hts⟩ (mt_X7_manyNow l dC dI L a b ad cy hM H.size I_2 D p1 r_6 g_7) (cwV 1 hts gX7_many_X7_manyNow rfl rfl rfl (by decide +kernel) ⟨Nat.le_of_ble_eq_true rfl, Nat.le_of_ble_eq_true rfl⟩) ⟨(wM.pre [.ref (ad 0), .int p1] hP hK hN).1, wM.recv (C := RX7) (T := TX7) (N := 9) hP hK heq_8 rfl, (wM.pre [.ref (ad 0), .int p1] hP hK hN).2⟩ rfl rfl hl.1 rfl (lv_room (Nat.le_of_ble_eq_true rfl)) dX7_many_23 ⟨Nat.le_of_ble_eq_true rfl, Nat.le_of_ble_eq_true rfl⟩) hS (fun q _ h => hA q (Nat.le_trans hS.1 h)) (fun q h => hA q (Nat.le_trans hS.1 h)) (fun r9 u t H1 locs ht hvm hw hB hz1 hk1 hS => ?_)
    subst hw
    have hP := va_Pnew hP hk1
    clear hz1 hk1 hvm ht hB
    generalize H1 = H at hP hS ⊢
    have hf := Option.some.inj hf
    obtain ⟨q1, q2⟩ := Prod.mk.inj hf
    obtain ⟨q2, q3⟩ := Prod.mk.inj q2
    rw [q2, q3] at hP
    exact W.iret (v := r_6) hx hb hr (fun t ht hW9 => ⟨⟨r_6, (), rfl, q1.symm, wM.of hP hK hN ht hW9⟩, hS.F ht⟩) hS.2.2 dX7_many_26
  · have hf := it_t hf c_5
    refine lv_aload_n hx hb dX7_many_15 rfl (lv_at hl 0 rfl) ?_
    refine lv_iconst (v := 1) hx hb dX7_many_16 (by decide) ?_
    obtain ⟨⟨r_9, I_11, D_12⟩, g_10, hf⟩ := bd_out hf
    obtain ⟨q_13, wq_13, heq_13⟩ := heM_0 (cy := cy) (I := I_2) (D := D) hM
    have hAW : ∀ q, AM L ad H.size q → A q := fun q h => h.elim (fun ⟨k, k1, k2⟩ => k2 ▸ hAL k k1) (fun h => hA q (Nat.le_trans hS.1 h))
    refine va_calli (va_runV (As := [.int 1]) (rest := []) ⟨hx, hb, hml, hown, hts⟩ (mt_X7_no l dC dI L a b ad cy hM H.size I_2 D 1 r_9 I_11 D_12 g_10) (cwV 1 hts gX7_many_X7_no rfl rfl rfl (by decide +kernel) ⟨Nat.le_of_ble_eq_true rfl, Nat.le_of_ble_eq_true rfl⟩) ⟨(wM.pre [.ref (ad 0), .int 1] hP hK hN).1, wM.recv (C := RX7) (T := TX7) (N := 9) hP hK heq_13 rfl, (wM.pre [.ref (ad 0), .int 1] hP hK hN).2⟩ rfl rfl hl.1 rfl (lv_room (Nat.le_of_ble_eq_true rfl)) dX7_many_17 ⟨Nat.le_of_ble_eq_true rfl, Nat.le_of_ble_eq_true rfl⟩) hS (fun q _ h => hAW q h) hAW (fun r9 u t H1 locs ht hvm hw hB hz1 hk1 hS => ?_)
    subst hw
    have hP : va_P (dC, dI) vwCl (iwM L a b ad cy I_11 D_12) H1 := by rw [← ht]; exact hB.1
    clear hz1 hk1 hvm ht hB
    generalize H1 = H at hP hS ⊢
    have hf := Option.some.inj hf
    obtain ⟨q1, q2⟩ := Prod.mk.inj hf
    obtain ⟨q2, q3⟩ := Prod.mk.inj q2
    rw [q2, q3] at hP
    refine W.widen (k := 1) (n := 12) (Nat.le_of_ble_eq_true rfl) (Nat.le_of_ble_eq_true rfl) ?_
    exact W.iret (v := r_9) hx hb hr (fun t ht hW9 => ⟨⟨r_9, (), rfl, q1.symm, wM.of hP hK hN ht hW9⟩, hS.F ht⟩) hS.2.2 dX7_many_20

def f_X7_isOrder_L4 (p1 : Int32) : Nat → Int32 → Int32 → Option (Int32)
  | 0, _, _ => none
  | n4 + 1, x3_4, x2_4 => (if x3_4 ≤ 0 then (if x2_4 = p1 then some 1 else some 0) else (if ((x3_4 - x3_4 / 10 * 10) - 1) < 0 then some 0 else (if ((p1 >>> (((x3_4 - x3_4 / 10 * 10) - 1) &&& 31)) &&& 1) = 0 then some 0 else (if ((x2_4 >>> (((x3_4 - x3_4 / 10 * 10) - 1) &&& 31)) &&& 1) = 1 then some 0 else f_X7_isOrder_L4 p1 n4 (x3_4 / 10) (x2_4 ||| (1 <<< (((x3_4 - x3_4 / 10 * 10) - 1) &&& 31)))))))
def f_X7_isOrder (p0 : Int32) (p1 : Int32) : Option (Int32) :=
  f_X7_isOrder_L4 p1 200 p0 0
set_option maxHeartbeats 4000000 in
set_option maxRecDepth 100000 in
theorem mt_X7_isOrder (l : Launch) (sz : Nat) (p0 : Int32) (p1 : Int32) (rr : Int32) (hf : f_X7_isOrder p0 p1 = some rr) : Met l yX7_isOrder wsX7_isOrder ({ frames := 0, cells := 0, slots := 0, locals := 0 }) (va_Pc [.int p0, .int p1] (fun U => U.heap.size = sz)) (va_Qi (fun r (_ : Unit) => rr = r) (fun _ _ => True) (fun q => sz ≤ q)) 0 0 (fun q => sz ≤ q) := by
  refine Met.ofW (cc := cX7_isOrder) (maxL := 5) (ret := (some .boolean)) (by decide) rfl ?_
  intro p e s m args below meth c s₁ B hml hv
  obtain ⟨rfl, hsz⟩ := hv
  have hx := B.exec
  have hb := B.bytes
  have hr := B.returns
  have hts := atoms_spec (ws := wsX7_isOrder) B.pre
  have hown : s.vm.findClass RX7 = some m.cls := findClass_of_methodNamed B.named
  have hlocks := B.notSynchronized
  subst hsz
  generalize hAe : (fun q : Nat => s.heap.size ≤ q) = A
  have hA : ∀ q : Nat, s.heap.size ≤ q → A q := fun q h => by rw [← hAe]; exact h
  obtain ⟨H, hH⟩ : ∃ H : Heap, H = s.heap := ⟨_, rfl⟩
  have hS : va_S A s.heap H [] := by rw [hH]; exact va_S.rf
  rw [← hH]
  have hl := lv_entry ([.int p0, .int p1]) (n := 5) (Nat.le_of_ble_eq_true rfl)
  rw [lg_entry_eq]
  generalize (lg_sl ([.int p0, .int p1]) ++ List.replicate (5 - (lg_sl ([.int p0, .int p1])).length) Slot.unset).toArray = ls at hl ⊢
  have hl : lv_has ls 5 [(0, .int p0), (1, .int p1)] := hl
  unfold f_X7_isOrder at hf
  refine lv_iconst (v := 0) hx hb dX7_isOrder_0 (by decide) ?_
  refine lv_istore_n (lv' := [(2, .int 0), (0, .int p0), (1, .int p1)]) hx hb dX7_isOrder_1 rfl hl (by decide) rfl (fun ls hl => ?_)
  refine lv_iload_n hx hb dX7_isOrder_2 rfl (lv_at hl 1 rfl) ?_
  refine lv_istore_n (lv' := [(3, .int p0), (2, .int 0), (0, .int p0), (1, .int p1)]) hx hb dX7_isOrder_3 rfl hl (by decide) rfl (fun ls hl => ?_)
  have L4 : ∀ (n4 : Nat) (x3_4 : Int32) (x2_4 : Int32), f_X7_isOrder_L4 p1 n4 x3_4 x2_4 = some rr → ∀ (H : Heap) (locs : List Loc) (ls : Array Slot), va_S A s.heap H locs → lv_has ls 5 [(3, .int x3_4), (2, .int x2_4), (0, .int p0), (1, .int p1)] → W p l e (headSpec wsX7_isOrder ({ frames := 0, cells := 0, slots := 0, locals := 0 })).room s m ([.int p0, .int p1] : List Value).toArray below meth c H locs 0 0 (MQ below (va_Qi (fun r (_ : Unit) => rr = r) (fun _ _ => True) A) ([.int p0, .int p1] : List Value).toArray s 0 0 A) (F0 m 4 ls []) := by
    intro n4
    induction n4 with
    | zero => intro x3_4 x2_4 hf; exact nomatch hf
    | succ n4 ih4 =>
      intro x3_4 x2_4 hf H locs ls hS hl
      unfold f_X7_isOrder_L4 at hf
      refine lv_iload_n hx hb dX7_isOrder_4 rfl (lv_at hl 0 rfl) ?_
      refine lv_if_le (tgt := 57) hx hb dX7_isOrder_5 (by decide) (fun c_1 => ?_) (fun c_1 => ?_)
      · have hf := it_t hf c_1
        refine lv_iload_n hx hb dX7_isOrder_57 rfl (lv_at hl 1 rfl) ?_
        refine lv_iload_n hx hb dX7_isOrder_58 rfl (lv_at hl 3 rfl) ?_
        refine lv_icmp_ne (tgt := 66) hx hb dX7_isOrder_59 (by decide) (fun c_2 => ?_) (fun c_2 => ?_)
        · have hf := it_f hf c_2
          refine lv_iconst (v := 0) hx hb dX7_isOrder_66 (by decide) ?_
          have hf := Option.some.inj hf
          have q1 := hf
          exact W.zret (ty := .boolean) (v := 0) hx hb hr rfl (fun t ht hW9 => ⟨⟨0, (), rfl, q1.symm, trivial⟩, hS.F ht⟩) hS.2.2 dX7_isOrder_67
        · have hf := it_t hf c_2
          refine lv_iconst (v := 1) hx hb dX7_isOrder_62 (by decide) ?_
          refine lv_goto (tgt := 67) hx hb dX7_isOrder_63 (by decide) ?_
          have hf := Option.some.inj hf
          have q1 := hf
          exact W.zret (ty := .boolean) (v := 1) hx hb hr rfl (fun t ht hW9 => ⟨⟨1, (), rfl, q1.symm, trivial⟩, hS.F ht⟩) hS.2.2 dX7_isOrder_67
      · have hf := it_f hf c_1
        refine lv_iload_n hx hb dX7_isOrder_8 rfl (lv_at hl 0 rfl) ?_
        refine lv_bipush (v := 10) hx hb dX7_isOrder_9 (by decide) ?_
        refine lv_irem hx hb dX7_isOrder_11 (by decide) ?_
        refine lv_iconst (v := 1) hx hb dX7_isOrder_12 (by decide) ?_
        refine lv_isub hx hb dX7_isOrder_13 ?_
        refine lv_istore (lv' := [(4, .int ((x3_4 - x3_4 / 10 * 10) - 1)), (3, .int x3_4), (2, .int x2_4), (0, .int p0), (1, .int p1)]) hx hb dX7_isOrder_14 hl (by decide) rfl (fun ls hl => ?_)
        refine lv_iload hx hb dX7_isOrder_16 (lv_at hl 0 rfl) ?_
        refine lv_if_lt (tgt := 40) hx hb dX7_isOrder_18 (by decide) (fun c_3 => ?_) (fun c_3 => ?_)
        · have hf := it_t hf c_3
          refine lv_iconst (v := 0) hx hb dX7_isOrder_40 (by decide) ?_
          have hf := Option.some.inj hf
          have q1 := hf
          exact W.zret (ty := .boolean) (v := 0) hx hb hr rfl (fun t ht hW9 => ⟨⟨0, (), rfl, q1.symm, trivial⟩, hS.F ht⟩) hS.2.2 dX7_isOrder_41
        · have hf := it_f hf c_3
          refine lv_iload_n hx hb dX7_isOrder_21 rfl (lv_at hl 4 rfl) ?_
          refine lv_iload hx hb dX7_isOrder_22 (lv_at hl 0 rfl) ?_
          refine lv_ishr hx hb dX7_isOrder_24 ?_
          refine lv_iconst (v := 1) hx hb dX7_isOrder_25 (by decide) ?_
          refine lv_iand hx hb dX7_isOrder_26 ?_
          refine lv_if_eq (tgt := 40) hx hb dX7_isOrder_27 (by decide) (fun c_4 => ?_) (fun c_4 => ?_)
          · have hf := it_t hf c_4
            refine lv_iconst (v := 0) hx hb dX7_isOrder_40 (by decide) ?_
            have hf := Option.some.inj hf
            have q1 := hf
            exact W.zret (ty := .boolean) (v := 0) hx hb hr rfl (fun t ht hW9 => ⟨⟨0, (), rfl, q1.symm, trivial⟩, hS.F ht⟩) hS.2.2 dX7_isOrder_41
          · have hf := it_f hf c_4
            refine lv_iload_n hx hb dX7_isOrder_30 rfl (lv_at hl 2 rfl) ?_
            refine lv_iload hx hb dX7_isOrder_31 (lv_at hl 0 rfl) ?_
            refine lv_ishr hx hb dX7_isOrder_33 ?_
            refine lv_iconst (v := 1) hx hb dX7_isOrder_34 (by decide) ?_
            refine lv_iand hx hb dX7_isOrder_35 ?_
            refine lv_iconst (v := 1) hx hb dX7_isOrder_36 (by decide) ?_
            refine lv_icmp_ne (tgt := 42) hx hb dX7_isOrder_37 (by decide) (fun c_5 => ?_) (fun c_5 => ?_)
            · have hf := it_f hf c_5
              refine lv_iload_n hx hb dX7_isOrder_42 rfl (lv_at hl 2 rfl) ?_
              refine lv_iconst (v := 1) hx hb dX7_isOrder_43 (by decide) ?_
              refine lv_iload hx hb dX7_isOrder_44 (lv_at hl 0 rfl) ?_
              refine lv_ishl hx hb dX7_isOrder_46 ?_
              refine lv_ior hx hb dX7_isOrder_47 ?_
              refine lv_istore_n (lv' := [(2, .int (x2_4 ||| (1 <<< (((x3_4 - x3_4 / 10 * 10) - 1) &&& 31)))), (4, .int ((x3_4 - x3_4 / 10 * 10) - 1)), (3, .int x3_4), (0, .int p0), (1, .int p1)]) hx hb dX7_isOrder_48 rfl hl (by decide) rfl (fun ls hl => ?_)
              refine lv_iload_n hx hb dX7_isOrder_49 rfl (lv_at hl 2 rfl) ?_
              refine lv_bipush (v := 10) hx hb dX7_isOrder_50 (by decide) ?_
              refine lv_idiv hx hb dX7_isOrder_52 (by decide) ?_
              refine lv_istore_n (lv' := [(3, .int (x3_4 / 10)), (2, .int (x2_4 ||| (1 <<< (((x3_4 - x3_4 / 10 * 10) - 1) &&& 31)))), (4, .int ((x3_4 - x3_4 / 10 * 10) - 1)), (0, .int p0), (1, .int p1)]) hx hb dX7_isOrder_53 rfl hl (by decide) rfl (fun ls hl => ?_)
              refine lv_goto (tgt := 4) hx hb dX7_isOrder_54 (by decide) ?_
              exact ih4 (x3_4 / 10) (x2_4 ||| (1 <<< (((x3_4 - x3_4 / 10 * 10) - 1) &&& 31))) hf _ _ _ hS (lv_sub hl [0, 1, 3, 4] rfl)
            · have hf := it_t hf c_5
              refine lv_iconst (v := 0) hx hb dX7_isOrder_40 (by decide) ?_
              have hf := Option.some.inj hf
              have q1 := hf
              exact W.zret (ty := .boolean) (v := 0) hx hb hr rfl (fun t ht hW9 => ⟨⟨0, (), rfl, q1.symm, trivial⟩, hS.F ht⟩) hS.2.2 dX7_isOrder_41
  exact L4 200 p0 0 hf _ _ _ hS (lv_sub hl [0, 1, 2, 3] rfl)

def f_X7_washesOf_L4 (a : Nat) (b : Nat) (I : Nat → Nat → Int32) (D : Nat → Nat → UInt64) : Nat → Int32 → Int32 → Option (Int32)
  | 0, _, _ => none
  | n4 + 1, x3_4, x2_4 => (if x3_4 ≤ 9 then some x2_4 else bd (f_get2 a b I D (((x3_4 / 10) - (x3_4 / 10) / 10 * 10) - 1)) (fun r_3 => bd (f_X6_harms a b I D r_3) (fun r_7 => bd (f_get2 a b I D ((x3_4 - x3_4 / 10 * 10) - 1)) (fun r_11 => bd (f_X6_harms a b I D r_11) (fun r_15 => (if (r_7 &&& (r_15 ^^^ (-1))) = 0 then f_X7_washesOf_L4 a b I D n4 (x3_4 / 10) (x2_4 + 0) else f_X7_washesOf_L4 a b I D n4 (x3_4 / 10) (x2_4 + 1)))))))
def f_X7_washesOf (a b : Nat) (I : Nat → Nat → Int32) (D : Nat → Nat → UInt64) (p1 : Int32) : Option (Int32) :=
  f_X7_washesOf_L4 a b I D 200 p1 0
theorem iX7_washesOf_RX7 : ∀ w ∈ u_ws RX7 TX7 9, w ∈ wsX7_washesOf := fun w h => List.mem_cons_of_mem _ (List.mem_append_left _ (List.mem_append_left _ (List.mem_append_right _ (h))))
set_option maxHeartbeats 4000000 in
set_option maxRecDepth 100000 in
theorem mt_X7_washesOf (l : Launch) (dC : Nat → ClassId) (dI : Nat → Nat → Nat) (L : List Nat) (a b : Nat) (ad : Nat → Nat) (cy : Nat → ClassId) (hM : mOK L a b ad) (sz : Nat) (I : Nat → Nat → Int32) (D : Nat → Nat → UInt64) (p1 : Int32) (rr : Int32) (hf : f_X7_washesOf a b I D p1 = some rr) : Met l yX7_washesOf wsX7_washesOf ({ frames := 5, cells := 0, slots := 0, locals := 156 }) (va_Pc [.ref (ad 0), .int p1] (fun U => U.heap.size = sz ∧ wM dC dI L a b ad cy I D U)) (va_Qi (fun r (_ : Unit) => rr = r) (fun _ _ => True) (fun q => sz ≤ q)) 0 0 (fun q => sz ≤ q) := by
  refine Met.ofW (cc := cX7_washesOf) (maxL := 4) (ret := (some .int)) (by decide) rfl ?_
  intro p e s m args below meth c s₁ B hml hv
  obtain ⟨rfl, hsz, hP, hK, hN⟩ := hv
  have hx := B.exec
  have hb := B.bytes
  have hr := B.returns
  have hts := atoms_spec (ws := wsX7_washesOf) B.pre
  have hown : s.vm.findClass RX7 = some m.cls := findClass_of_methodNamed B.named
  have hlocks := B.notSynchronized
  subst hsz
  generalize hAe : (fun q : Nat => s.heap.size ≤ q) = A
  have hA : ∀ q : Nat, s.heap.size ≤ q → A q := fun q h => by rw [← hAe]; exact h
  obtain ⟨H, hH⟩ : ∃ H : Heap, H = s.heap := ⟨_, rfl⟩
  have hS : va_S A s.heap H [] := by rw [hH]; exact va_S.rf
  rw [← hH]
  rw [← hH] at hP
  have hl := lv_entry ([.ref (ad 0), .int p1]) (n := 4) (Nat.le_of_ble_eq_true rfl)
  rw [lg_entry_eq]
  generalize (lg_sl ([.ref (ad 0), .int p1]) ++ List.replicate (4 - (lg_sl ([.ref (ad 0), .int p1])).length) Slot.unset).toArray = ls at hl ⊢
  have hl : lv_has ls 4 [(0, .ref (ad 0)), (1, .int p1)] := hl
  unfold f_X7_washesOf at hf
  refine lv_iconst (v := 0) hx hb dX7_washesOf_0 (by decide) ?_
  refine lv_istore_n (lv' := [(2, .int 0), (0, .ref (ad 0)), (1, .int p1)]) hx hb dX7_washesOf_1 rfl hl (by decide) rfl (fun ls hl => ?_)
  refine lv_iload_n hx hb dX7_washesOf_2 rfl (lv_at hl 2 rfl) ?_
  refine lv_istore_n (lv' := [(3, .int p1), (2, .int 0), (0, .ref (ad 0)), (1, .int p1)]) hx hb dX7_washesOf_3 rfl hl (by decide) rfl (fun ls hl => ?_)
  have L4 : ∀ (n4 : Nat) (x3_4 : Int32) (x2_4 : Int32), f_X7_washesOf_L4 a b I D n4 x3_4 x2_4 = some rr → ∀ (H : Heap) (locs : List Loc) (ls : Array Slot), va_P (dC, dI) vwCl (iwM L a b ad cy I D) H → va_S A s.heap H locs → lv_has ls 4 [(3, .int x3_4), (2, .int x2_4), (0, .ref (ad 0)), (1, .int p1)] → W p l e (headSpec wsX7_washesOf ({ frames := 5, cells := 0, slots := 0, locals := 156 })).room s m ([.ref (ad 0), .int p1] : List Value).toArray below meth c H locs 0 0 (MQ below (va_Qi (fun r (_ : Unit) => rr = r) (fun _ _ => True) A) ([.ref (ad 0), .int p1] : List Value).toArray s 0 0 A) (F0 m 4 ls []) := by
    intro n4
    induction n4 with
    | zero => intro x3_4 x2_4 hf; exact nomatch hf
    | succ n4 ih4 =>
      intro x3_4 x2_4 hf H locs ls hP hS hl
      unfold f_X7_washesOf_L4 at hf
      refine lv_iload_n hx hb dX7_washesOf_4 rfl (lv_at hl 0 rfl) ?_
      refine lv_bipush (v := 9) hx hb dX7_washesOf_5 (by decide) ?_
      refine lv_icmp_le (tgt := 77) hx hb dX7_washesOf_7 (by decide) (fun c_1 => ?_) (fun c_1 => ?_)
      · have hf := it_t hf c_1
        refine lv_iload_n hx hb dX7_washesOf_77 rfl (lv_at hl 1 rfl) ?_
        have hf := Option.some.inj hf
        have q1 := hf
        exact W.iret (v := x2_4) hx hb hr (fun t ht hW9 => ⟨⟨x2_4, (), rfl, q1.symm, trivial⟩, hS.F ht⟩) hS.2.2 dX7_washesOf_78
      · have hf := it_f hf c_1
        refine lv_iload_n hx hb dX7_washesOf_10 rfl (lv_at hl 1 rfl) ?_
        refine lv_aload_n hx hb dX7_washesOf_11 rfl (lv_at hl 2 rfl) ?_
        obtain ⟨q_2, wq_2, heq_2⟩ := heM_0 (cy := cy) (I := I) (D := D) hM
        refine va_get (D := (dC, dI)) (ci := 8) (v := .ref (ad 2)) (C := RX7) (T := TX7) (N := 9) hx hb hts iX7_washesOf_RX7 hown hK hP q_2 heq_2 rfl 2 (by decide) (hts (.fieldLink RX7 16 "OverrunHouseModel" "mixes" "Ljava/util/List;") (List.mem_cons_of_mem _ (List.mem_append_left _ (List.mem_append_left _ (List.mem_append_left _ (List.mem_append_left _ (List.mem_of_getElem? (i := 0) rfl))))))) (fun _ h9 => h9) rfl dX7_washesOf_12 ?_
        refine lv_iload_n hx hb dX7_washesOf_15 rfl (lv_at hl 0 rfl) ?_
        refine lv_bipush (v := 10) hx hb dX7_washesOf_16 (by decide) ?_
        refine lv_idiv hx hb dX7_washesOf_18 (by decide) ?_
        refine lv_bipush (v := 10) hx hb dX7_washesOf_19 (by decide) ?_
        refine lv_irem hx hb dX7_washesOf_21 (by decide) ?_
        refine lv_iconst (v := 1) hx hb dX7_washesOf_22 (by decide) ?_
        refine lv_isub hx hb dX7_washesOf_23 ?_
        obtain ⟨r_3, g_4, hf⟩ := bd_out hf
        obtain ⟨q_5, wq_5, heq_5⟩ := heM_2 (cy := cy) (I := I) (D := D) hM
        refine va_callFr (va_runF (As := [.int (((x3_4 / 10) - (x3_4 / 10) / 10 * 10) - 1)]) (rest := [.int x2_4]) (hK.1 0 _ rfl).2 ⟨hx, hb, hml, hown, hts⟩ (mt_get2 l dC dI L a b ad cy hM H.size I D (((x3_4 / 10) - (x3_4 / 10) / 10 * 10) - 1) r_3 g_4) (va_cwF 1 hts gX7_washesOf_Jx4a65c_get_915e3_f55Jx4a65c rfl rfl rfl hN.2.2.1 (by decide +kernel) ⟨Nat.le_of_ble_eq_true rfl, Nat.le_of_ble_eq_true rfl⟩) ⟨(wM.pre [.ref (ad 2), .int (((x3_4 / 10) - (x3_4 / 10) / 10 * 10) - 1)] hP hK hN).1, wM.recv (C := RJx4a65c) (T := TJx4a65c) (N := 3) hP hK heq_5 rfl, (wM.pre [.ref (ad 2), .int (((x3_4 / 10) - (x3_4 / 10) / 10 * 10) - 1)] hP hK hN).2⟩ rfl rfl hl.1 rfl (lv_room (Nat.le_of_ble_eq_true rfl)) dX7_washesOf_24 ⟨Nat.le_of_ble_eq_true rfl, Nat.le_of_ble_eq_true rfl⟩) hS (fun q _ h => hA q (Nat.le_trans hS.1 h)) (fun q h => hA q (Nat.le_trans hS.1 h)) (fun u r9 t H1 locs ht hvm hw hB hz1 hk1 hS => ?_)
        subst hB
        have hP := va_Pnew hP hk1
        clear hz1 hk1 hvm ht
        generalize H1 = H at hP hS ⊢
        obtain ⟨q_6, wq_6, heq_6⟩ := heM_Mixx (cy := cy) (I := I) (D := D) hM (f_get2_lt g_4)
        refine va_castS hx hb hown (hts (.classLink RX7 59 "OverrunHouseModel$Mix") (List.mem_cons_of_mem _ (List.mem_append_left _ (List.mem_append_left _ (List.mem_append_left _ (List.mem_append_left _ (List.mem_of_getElem? (i := 1) rfl))))))) (hK.1 7 _ rfl).2 (wM.recv (C := RX6) (T := TX6) (N := 5) hP hK heq_6 rfl) dX7_washesOf_29 ?_
        obtain ⟨r_7, g_8, hf⟩ := bd_out hf
        obtain ⟨q_9, wq_9, heq_9⟩ := heM_Mixx (cy := cy) (I := I) (D := D) hM (f_get2_lt g_4)
        refine va_calli (va_runV (As := []) (rest := [.int x2_4]) ⟨hx, hb, hml, hown, hts⟩ (mt_X6_harms l dC dI L a b ad cy hM H.size I D r_3 (f_get2_lt g_4) r_7 g_8) (cwV 0 hts gX7_washesOf_X6_harms rfl rfl rfl (by decide +kernel) ⟨Nat.le_of_ble_eq_true rfl, Nat.le_of_ble_eq_true rfl⟩) ⟨(wM.pre [.ref (ad (20 + r_3))] hP hK hN).1, wM.recv (C := RX6) (T := TX6) (N := 5) hP hK heq_9 rfl, (wM.pre [.ref (ad (20 + r_3))] hP hK hN).2⟩ rfl rfl hl.1 rfl (lv_room (Nat.le_of_ble_eq_true rfl)) dX7_washesOf_32 ⟨Nat.le_of_ble_eq_true rfl, Nat.le_of_ble_eq_true rfl⟩) hS (fun q _ h => hA q (Nat.le_trans hS.1 h)) (fun q h => hA q (Nat.le_trans hS.1 h)) (fun r9 u t H1 locs ht hvm hw hB hz1 hk1 hS => ?_)
        subst hw
        have hP := va_Pnew hP hk1
        clear hz1 hk1 hvm ht hB
        generalize H1 = H at hP hS ⊢
        refine lv_aload_n hx hb dX7_washesOf_35 rfl (lv_at hl 2 rfl) ?_
        obtain ⟨q_10, wq_10, heq_10⟩ := heM_0 (cy := cy) (I := I) (D := D) hM
        refine va_get (D := (dC, dI)) (ci := 8) (v := .ref (ad 2)) (C := RX7) (T := TX7) (N := 9) hx hb hts iX7_washesOf_RX7 hown hK hP q_10 heq_10 rfl 2 (by decide) (hts (.fieldLink RX7 16 "OverrunHouseModel" "mixes" "Ljava/util/List;") (List.mem_cons_of_mem _ (List.mem_append_left _ (List.mem_append_left _ (List.mem_append_left _ (List.mem_append_left _ (List.mem_of_getElem? (i := 0) rfl))))))) (fun _ h9 => h9) rfl dX7_washesOf_36 ?_
        refine lv_iload_n hx hb dX7_washesOf_39 rfl (lv_at hl 0 rfl) ?_
        refine lv_bipush (v := 10) hx hb dX7_washesOf_40 (by decide) ?_
        refine lv_irem hx hb dX7_washesOf_42 (by decide) ?_
        refine lv_iconst (v := 1) hx hb dX7_washesOf_43 (by decide) ?_
        refine lv_isub hx hb dX7_washesOf_44 ?_
        obtain ⟨r_11, g_12, hf⟩ := bd_out hf
        obtain ⟨q_13, wq_13, heq_13⟩ := heM_2 (cy := cy) (I := I) (D := D) hM
        refine va_callFr (va_runF (As := [.int ((x3_4 - x3_4 / 10 * 10) - 1)]) (rest := [.int r_7, .int x2_4]) (hK.1 0 _ rfl).2 ⟨hx, hb, hml, hown, hts⟩ (mt_get2 l dC dI L a b ad cy hM H.size I D ((x3_4 - x3_4 / 10 * 10) - 1) r_11 g_12) (va_cwF 1 hts gX7_washesOf_Jx4a65c_get_915e3_f55Jx4a65c rfl rfl rfl hN.2.2.1 (by decide +kernel) ⟨Nat.le_of_ble_eq_true rfl, Nat.le_of_ble_eq_true rfl⟩) ⟨(wM.pre [.ref (ad 2), .int ((x3_4 - x3_4 / 10 * 10) - 1)] hP hK hN).1, wM.recv (C := RJx4a65c) (T := TJx4a65c) (N := 3) hP hK heq_13 rfl, (wM.pre [.ref (ad 2), .int ((x3_4 - x3_4 / 10 * 10) - 1)] hP hK hN).2⟩ rfl rfl hl.1 rfl (lv_room (Nat.le_of_ble_eq_true rfl)) dX7_washesOf_45 ⟨Nat.le_of_ble_eq_true rfl, Nat.le_of_ble_eq_true rfl⟩) hS (fun q _ h => hA q (Nat.le_trans hS.1 h)) (fun q h => hA q (Nat.le_trans hS.1 h)) (fun u r9 t H1 locs ht hvm hw hB hz1 hk1 hS => ?_)
        subst hB
        have hP := va_Pnew hP hk1
        clear hz1 hk1 hvm ht
        generalize H1 = H at hP hS ⊢
        obtain ⟨q_14, wq_14, heq_14⟩ := heM_Mixx (cy := cy) (I := I) (D := D) hM (f_get2_lt g_12)
        refine va_castS hx hb hown (hts (.classLink RX7 59 "OverrunHouseModel$Mix") (List.mem_cons_of_mem _ (List.mem_append_left _ (List.mem_append_left _ (List.mem_append_left _ (List.mem_append_left _ (List.mem_of_getElem? (i := 1) rfl))))))) (hK.1 7 _ rfl).2 (wM.recv (C := RX6) (T := TX6) (N := 5) hP hK heq_14 rfl) dX7_washesOf_50 ?_
        obtain ⟨r_15, g_16, hf⟩ := bd_out hf
        obtain ⟨q_17, wq_17, heq_17⟩ := heM_Mixx (cy := cy) (I := I) (D := D) hM (f_get2_lt g_12)
        refine va_calli (va_runV (As := []) (rest := [.int r_7, .int x2_4]) ⟨hx, hb, hml, hown, hts⟩ (mt_X6_harms l dC dI L a b ad cy hM H.size I D r_11 (f_get2_lt g_12) r_15 g_16) (cwV 0 hts gX7_washesOf_X6_harms rfl rfl rfl (by decide +kernel) ⟨Nat.le_of_ble_eq_true rfl, Nat.le_of_ble_eq_true rfl⟩) ⟨(wM.pre [.ref (ad (20 + r_11))] hP hK hN).1, wM.recv (C := RX6) (T := TX6) (N := 5) hP hK heq_17 rfl, (wM.pre [.ref (ad (20 + r_11))] hP hK hN).2⟩ rfl rfl hl.1 rfl (lv_room (Nat.le_of_ble_eq_true rfl)) dX7_washesOf_53 ⟨Nat.le_of_ble_eq_true rfl, Nat.le_of_ble_eq_true rfl⟩) hS (fun q _ h => hA q (Nat.le_trans hS.1 h)) (fun q h => hA q (Nat.le_trans hS.1 h)) (fun r9 u t H1 locs ht hvm hw hB hz1 hk1 hS => ?_)
        subst hw
        have hP := va_Pnew hP hk1
        clear hz1 hk1 hvm ht hB
        generalize H1 = H at hP hS ⊢
        refine lv_iconst (v := (-1)) hx hb dX7_washesOf_56 (by decide) ?_
        refine lv_ixor hx hb dX7_washesOf_57 ?_
        refine lv_iand hx hb dX7_washesOf_58 ?_
        refine lv_if_ne (tgt := 66) hx hb dX7_washesOf_59 (by decide) (fun c_18 => ?_) (fun c_18 => ?_)
        · have hf := it_f hf c_18
          refine lv_iconst (v := 1) hx hb dX7_washesOf_66 (by decide) ?_
          refine lv_iadd hx hb dX7_washesOf_67 ?_
          refine lv_istore_n (lv' := [(2, .int (x2_4 + 1)), (3, .int x3_4), (0, .ref (ad 0)), (1, .int p1)]) hx hb dX7_washesOf_68 rfl hl (by decide) rfl (fun ls hl => ?_)
          refine lv_iload_n hx hb dX7_washesOf_69 rfl (lv_at hl 1 rfl) ?_
          refine lv_bipush (v := 10) hx hb dX7_washesOf_70 (by decide) ?_
          refine lv_idiv hx hb dX7_washesOf_72 (by decide) ?_
          refine lv_istore_n (lv' := [(3, .int (x3_4 / 10)), (2, .int (x2_4 + 1)), (0, .ref (ad 0)), (1, .int p1)]) hx hb dX7_washesOf_73 rfl hl (by decide) rfl (fun ls hl => ?_)
          refine lv_goto (tgt := 4) hx hb dX7_washesOf_74 (by decide) ?_
          exact ih4 (x3_4 / 10) (x2_4 + 1) hf _ _ _ hP hS (lv_sub hl [0, 1, 2, 3] rfl)
        · have hf := it_t hf c_18
          refine lv_iconst (v := 0) hx hb dX7_washesOf_62 (by decide) ?_
          refine lv_goto (tgt := 67) hx hb dX7_washesOf_63 (by decide) ?_
          refine lv_iadd hx hb dX7_washesOf_67 ?_
          refine lv_istore_n (lv' := [(2, .int (x2_4 + 0)), (3, .int x3_4), (0, .ref (ad 0)), (1, .int p1)]) hx hb dX7_washesOf_68 rfl hl (by decide) rfl (fun ls hl => ?_)
          refine lv_iload_n hx hb dX7_washesOf_69 rfl (lv_at hl 1 rfl) ?_
          refine lv_bipush (v := 10) hx hb dX7_washesOf_70 (by decide) ?_
          refine lv_idiv hx hb dX7_washesOf_72 (by decide) ?_
          refine lv_istore_n (lv' := [(3, .int (x3_4 / 10)), (2, .int (x2_4 + 0)), (0, .ref (ad 0)), (1, .int p1)]) hx hb dX7_washesOf_73 rfl hl (by decide) rfl (fun ls hl => ?_)
          refine lv_goto (tgt := 4) hx hb dX7_washesOf_74 (by decide) ?_
          exact ih4 (x3_4 / 10) (x2_4 + 0) hf _ _ _ hP hS (lv_sub hl [0, 1, 2, 3] rfl)
  exact L4 200 p1 0 hf _ _ _ hP hS (lv_sub hl [0, 1, 2, 3] rfl)
