def f_X7_put (a b : Nat) (I : Nat → Nat → Int32) (D : Nat → Nat → UInt64) (p1 : Int32) (p2 : Int32) (p3 : Int32) : Option (Int32 × (Nat → Nat → Int32) × (Nat → Nat → UInt64)) :=
  nm (up2 I 0 0 0) (fun I_2 => bd (f_X7_isMix a b I_2 D p1) (fun r_3 => (if r_3 = 0 then bd (f_X7_no a b I_2 D 1) (fun (r_7, I_9, D_10) => some (r_7, I_9, D_10)) else bd (f_X7_isIngredient a b I_2 D p2) (fun r_12 => (if r_12 = 0 then bd (f_X7_no a b I_2 D 1) (fun (r_57, I_59, D_60) => some (r_57, I_59, D_60)) else bd (f_X7_in p3 1 500) (fun r_16 => (if r_16 = 0 then bd (f_X7_no a b I_2 D 2) (fun (r_52, I_54, D_55) => some (r_52, I_54, D_55)) else bd (f_get2 a b I_2 D p1) (fun r_20 => bd (f_X6_all a b I_2 D r_20) (fun r_24 => (if 500 < (r_24 + p3) then bd (f_X7_no a b I_2 D 3) (fun (r_28, I_30, D_31) => some (r_28, I_30, D_31)) else bd (f_X7_batchesOf a b I_2 D p1) (fun r_33 => (if r_33 ≤ 0 then bd (f_get2 a b I_2 D p1) (fun r_38 => bd (f_X6_put a b I_2 D r_38 p2 p3) (fun (r_42, I_44, D_45) => some (r_42, I_44, D_45))) else bd (f_X7_no a b I_2 D 3) (fun (r_47, I_49, D_50) => some (r_47, I_49, D_50))))))))))))))
theorem iX7_put_RX7 : ∀ w ∈ u_ws RX7 TX7 9, w ∈ wsX7_put := fun w h => List.mem_cons_of_mem _ (List.mem_append_left _ (List.mem_append_left _ (List.mem_append_left _ (List.mem_append_right _ (h)))))
set_option maxHeartbeats 4000000 in
set_option maxRecDepth 100000 in
theorem mt_X7_put (l : Launch) (dC : Nat → ClassId) (dI : Nat → Nat → Nat) (L : List Nat) (a b : Nat) (ad : Nat → Nat) (cy : Nat → ClassId) (hM : mOK L a b ad) (sz : Nat) (I : Nat → Nat → Int32) (D : Nat → Nat → UInt64) (p1 : Int32) (p2 : Int32) (p3 : Int32) (rr : Int32) (I9 : Nat → Nat → Int32) (D9 : Nat → Nat → UInt64) (hf : f_X7_put a b I D p1 p2 p3 = some (rr, I9, D9)) : Met l yX7_put wsX7_put ({ frames := 4, cells := 0, slots := 0, locals := 134 }) (va_Pc [.ref (ad 0), .int p1, .int p2, .int p3] (fun U => U.heap.size = sz ∧ wM dC dI L a b ad cy I D U)) (va_Qi (fun r (_ : Unit) => rr = r) (fun _ t => wM dC dI L a b ad cy I9 D9 t) (AM L ad sz)) 0 0 (AM L ad sz) := by
  refine Met.ofW (cc := cX7_put) (maxL := 4) (ret := (some .int)) (by decide) rfl ?_
  intro p e s m args below meth c s₁ B hml hv
  obtain ⟨rfl, hsz, hP, hK, hN⟩ := hv
  have hx := B.exec
  have hb := B.bytes
  have hr := B.returns
  have hts := atoms_spec (ws := wsX7_put) B.pre
  have hown : s.vm.findClass RX7 = some m.cls := findClass_of_methodNamed B.named
  have hlocks := B.notSynchronized
  subst hsz
  generalize hAe : AM L ad s.heap.size = A
  have hA : ∀ q : Nat, s.heap.size ≤ q → A q := fun q h => by rw [← hAe]; exact Or.inr h
  have hAL : ∀ k, k ∈ L → A (ad k) := fun k h => by rw [← hAe]; exact Or.inl ⟨k, h, rfl⟩
  have hDD : ∀ I D, va_D A (iwM L a b ad cy I D) := fun I D => iwM_D hM hAL I D
  obtain ⟨H, hH⟩ : ∃ H : Heap, H = s.heap := ⟨_, rfl⟩
  have hS : va_S A s.heap H [] := by rw [hH]; exact va_S.rf
  rw [← hH]
  rw [← hH] at hP
  have hl := lv_entry ([.ref (ad 0), .int p1, .int p2, .int p3]) (n := 4) (Nat.le_of_ble_eq_true rfl)
  rw [lg_entry_eq]
  generalize (lg_sl ([.ref (ad 0), .int p1, .int p2, .int p3]) ++ List.replicate (4 - (lg_sl ([.ref (ad 0), .int p1, .int p2, .int p3])).length) Slot.unset).toArray = ls at hl ⊢
  have hl : lv_has ls 4 [(0, .ref (ad 0)), (1, .int p1), (2, .int p2), (3, .int p3)] := hl
  unfold f_X7_put at hf
  refine lv_aload_n hx hb dX7_put_0 rfl (lv_at hl 0 rfl) ?_
  refine lv_iconst (v := 0) hx hb dX7_put_1 (by decide) ?_
  obtain ⟨q_1, wq_1, heq_1⟩ := heM_0 (cy := cy) (I := I) (D := D) hM
  obtain ⟨I_2, eI_2, hf⟩ := nm_out hf
  refine va_put (D := (dC, dI)) (ci := 8) (v := .int 0) (ty := .int) (C := RX7) (T := TX7) (N := 9) hx hb hts iX7_put_RX7 tyX7 tyX7_ok nmX7 hown hK hP (hDD I D) hS q_1 heq_1 rfl 0 (by decide) (hts (.fieldLink RX7 32 "OverrunHouseModel" "thrown" "I") (List.mem_cons_of_mem _ (List.mem_append_left _ (List.mem_append_left _ (List.mem_append_left _ (List.mem_append_left _ (List.mem_append_left _ (List.mem_of_getElem? (i := 0) rfl)))))))) (fun _ h9 => h9) rfl (by decide +kernel) rfl rfl (Nat.le_of_ble_eq_true rfl) dX7_put_2 (fun H locs hP _ hS => ?_)
  have hP : va_P (dC, dI) vwCl (iwM L a b ad cy I_2 D) H := by rw [eI_2]; exact hqI hM wq_1 ((cellM_0 ad cy a b _ _).trans rfl) hP
  refine lv_aload_n hx hb dX7_put_5 rfl (lv_at hl 0 rfl) ?_
  refine lv_iload_n hx hb dX7_put_6 rfl (lv_at hl 1 rfl) ?_
  obtain ⟨r_3, g_4, hf⟩ := bd_out hf
  obtain ⟨q_5, wq_5, heq_5⟩ := heM_0 (cy := cy) (I := I_2) (D := D) hM
  refine va_calli (va_runV (As := [.int p1]) (rest := []) ⟨hx, hb, hml, hown, hts⟩ (mt_X7_isMix l dC dI L a b ad cy hM H.size I_2 D p1 r_3 g_4) (cwV 1 hts gX7_put_X7_isMix rfl rfl rfl (by decide +kernel) ⟨Nat.le_of_ble_eq_true rfl, Nat.le_of_ble_eq_true rfl⟩) ⟨(wM.pre [.ref (ad 0), .int p1] hP hK hN).1, wM.recv (C := RX7) (T := TX7) (N := 9) hP hK heq_5 rfl, (wM.pre [.ref (ad 0), .int p1] hP hK hN).2⟩ rfl rfl hl.1 rfl (lv_room (Nat.le_of_ble_eq_true rfl)) dX7_put_7 ⟨Nat.le_of_ble_eq_true rfl, Nat.le_of_ble_eq_true rfl⟩) hS (fun q _ h => hA q (Nat.le_trans hS.1 h)) (fun q h => hA q (Nat.le_trans hS.1 h)) (fun r9 u t H1 locs ht hvm hw hB hz1 hk1 hS => ?_)
  subst hw
  have hP := va_Pnew hP hk1
  clear hz1 hk1 hvm ht hB
  generalize H1 = H at hP hS ⊢
  refine lv_if_eq (tgt := 21) hx hb dX7_put_10 (by decide) (fun c_6 => ?_) (fun c_6 => ?_)
  · have hf := it_t hf c_6
    refine lv_aload_n hx hb dX7_put_21 rfl (lv_at hl 0 rfl) ?_
    refine lv_iconst (v := 1) hx hb dX7_put_22 (by decide) ?_
    obtain ⟨⟨r_7, I_9, D_10⟩, g_8, hf⟩ := bd_out hf
    obtain ⟨q_11, wq_11, heq_11⟩ := heM_0 (cy := cy) (I := I_2) (D := D) hM
    have hAW : ∀ q, AM L ad H.size q → A q := fun q h => h.elim (fun ⟨k, k1, k2⟩ => k2 ▸ hAL k k1) (fun h => hA q (Nat.le_trans hS.1 h))
    refine va_calli (va_runV (As := [.int 1]) (rest := []) ⟨hx, hb, hml, hown, hts⟩ (mt_X7_no l dC dI L a b ad cy hM H.size I_2 D 1 r_7 I_9 D_10 g_8) (cwV 1 hts gX7_put_X7_no rfl rfl rfl (by decide +kernel) ⟨Nat.le_of_ble_eq_true rfl, Nat.le_of_ble_eq_true rfl⟩) ⟨(wM.pre [.ref (ad 0), .int 1] hP hK hN).1, wM.recv (C := RX7) (T := TX7) (N := 9) hP hK heq_11 rfl, (wM.pre [.ref (ad 0), .int 1] hP hK hN).2⟩ rfl rfl hl.1 rfl (lv_room (Nat.le_of_ble_eq_true rfl)) dX7_put_23 ⟨Nat.le_of_ble_eq_true rfl, Nat.le_of_ble_eq_true rfl⟩) hS (fun q _ h => hAW q h) hAW (fun r9 u t H1 locs ht hvm hw hB hz1 hk1 hS => ?_)
    subst hw
    have hP : va_P (dC, dI) vwCl (iwM L a b ad cy I_9 D_10) H1 := by rw [← ht]; exact hB.1
    clear hz1 hk1 hvm ht hB
    generalize H1 = H at hP hS ⊢
    have hf := Option.some.inj hf
    obtain ⟨q1, q2⟩ := Prod.mk.inj hf
    obtain ⟨q2, q3⟩ := Prod.mk.inj q2
    rw [q2, q3] at hP
    exact W.iret (v := r_7) hx hb hr (fun t ht hW9 => ⟨⟨r_7, (), rfl, q1.symm, wM.of hP hK hN ht hW9⟩, hS.F ht⟩) hS.2.2 dX7_put_26
  · have hf := it_f hf c_6
    refine lv_aload_n hx hb dX7_put_13 rfl (lv_at hl 0 rfl) ?_
    refine lv_iload_n hx hb dX7_put_14 rfl (lv_at hl 2 rfl) ?_
    obtain ⟨r_12, g_13, hf⟩ := bd_out hf
    obtain ⟨q_14, wq_14, heq_14⟩ := heM_0 (cy := cy) (I := I_2) (D := D) hM
    refine va_calli (va_runV (As := [.int p2]) (rest := []) ⟨hx, hb, hml, hown, hts⟩ (mt_X7_isIngredient l dC dI L a b ad cy hM H.size I_2 D p2 r_12 g_13) (cwV 1 hts gX7_put_X7_isIngredient rfl rfl rfl (by decide +kernel) ⟨Nat.le_of_ble_eq_true rfl, Nat.le_of_ble_eq_true rfl⟩) ⟨(wM.pre [.ref (ad 0), .int p2] hP hK hN).1, wM.recv (C := RX7) (T := TX7) (N := 9) hP hK heq_14 rfl, (wM.pre [.ref (ad 0), .int p2] hP hK hN).2⟩ rfl rfl hl.1 rfl (lv_room (Nat.le_of_ble_eq_true rfl)) dX7_put_15 ⟨Nat.le_of_ble_eq_true rfl, Nat.le_of_ble_eq_true rfl⟩) hS (fun q _ h => hA q (Nat.le_trans hS.1 h)) (fun q h => hA q (Nat.le_trans hS.1 h)) (fun r9 u t H1 locs ht hvm hw hB hz1 hk1 hS => ?_)
    subst hw
    have hP := va_Pnew hP hk1
    clear hz1 hk1 hvm ht hB
    generalize H1 = H at hP hS ⊢
    refine lv_if_ne (tgt := 27) hx hb dX7_put_18 (by decide) (fun c_15 => ?_) (fun c_15 => ?_)
    · have hf := it_f hf c_15
      refine lv_iload_n hx hb dX7_put_27 rfl (lv_at hl 3 rfl) ?_
      refine lv_iconst (v := 1) hx hb dX7_put_28 (by decide) ?_
      refine lv_sipush (v := 500) hx hb dX7_put_29 (by decide) ?_
      obtain ⟨r_16, g_17, hf⟩ := bd_out hf
      refine va_calli (va_runS (As := [.int p3, .int 1, .int 500]) (rest := []) ⟨hx, hb, hml, hown, hts⟩ (mt_X7_in l H.size p3 1 500 r_16 g_17) (va_cwS 3 hts gX7_put_X7_in rfl rfl rfl (by decide +kernel) ⟨Nat.le_of_ble_eq_true rfl, Nat.le_of_ble_eq_true rfl⟩) (pre0 [.int p3, .int 1, .int 500]) rfl rfl hl.1 rfl (lv_room (Nat.le_of_ble_eq_true rfl)) dX7_put_32 ⟨Nat.le_of_ble_eq_true rfl, Nat.le_of_ble_eq_true rfl⟩) hS (fun q _ h => hA q (Nat.le_trans hS.1 h)) (fun q h => hA q (Nat.le_trans hS.1 h)) (fun r9 u t H1 locs ht hvm hw hB hz1 hk1 hS => ?_)
      subst hw
      have hP := va_Pnew hP hk1
      clear hz1 hk1 hvm ht hB
      generalize H1 = H at hP hS ⊢
      refine lv_if_ne (tgt := 44) hx hb dX7_put_35 (by decide) (fun c_18 => ?_) (fun c_18 => ?_)
      · have hf := it_f hf c_18
        refine lv_aload_n hx hb dX7_put_44 rfl (lv_at hl 0 rfl) ?_
        obtain ⟨q_19, wq_19, heq_19⟩ := heM_0 (cy := cy) (I := I_2) (D := D) hM
        refine va_get (D := (dC, dI)) (ci := 8) (v := .ref (ad 2)) (C := RX7) (T := TX7) (N := 9) hx hb hts iX7_put_RX7 hown hK hP q_19 heq_19 rfl 2 (by decide) (hts (.fieldLink RX7 16 "OverrunHouseModel" "mixes" "Ljava/util/List;") (List.mem_cons_of_mem _ (List.mem_append_left _ (List.mem_append_left _ (List.mem_append_left _ (List.mem_append_left _ (List.mem_append_left _ (List.mem_of_getElem? (i := 1) rfl)))))))) (fun _ h9 => h9) rfl dX7_put_45 ?_
        refine lv_iload_n hx hb dX7_put_48 rfl (lv_at hl 1 rfl) ?_
        obtain ⟨r_20, g_21, hf⟩ := bd_out hf
        obtain ⟨q_22, wq_22, heq_22⟩ := heM_2 (cy := cy) (I := I_2) (D := D) hM
        refine va_callFr (va_runF (As := [.int p1]) (rest := []) (hK.1 0 _ rfl).2 ⟨hx, hb, hml, hown, hts⟩ (mt_get2 l dC dI L a b ad cy hM H.size I_2 D p1 r_20 g_21) (va_cwF 1 hts gX7_put_Jx4a65c_get_915e3_f55Jx4a65c rfl rfl rfl hN.2.2.1 (by decide +kernel) ⟨Nat.le_of_ble_eq_true rfl, Nat.le_of_ble_eq_true rfl⟩) ⟨(wM.pre [.ref (ad 2), .int p1] hP hK hN).1, wM.recv (C := RJx4a65c) (T := TJx4a65c) (N := 3) hP hK heq_22 rfl, (wM.pre [.ref (ad 2), .int p1] hP hK hN).2⟩ rfl rfl hl.1 rfl (lv_room (Nat.le_of_ble_eq_true rfl)) dX7_put_49 ⟨Nat.le_of_ble_eq_true rfl, Nat.le_of_ble_eq_true rfl⟩) hS (fun q _ h => hA q (Nat.le_trans hS.1 h)) (fun q h => hA q (Nat.le_trans hS.1 h)) (fun u r9 t H1 locs ht hvm hw hB hz1 hk1 hS => ?_)
        subst hB
        have hP := va_Pnew hP hk1
        clear hz1 hk1 hvm ht
        generalize H1 = H at hP hS ⊢
        obtain ⟨q_23, wq_23, heq_23⟩ := heM_Mixx (cy := cy) (I := I_2) (D := D) hM (f_get2_lt g_21)
        refine va_castS hx hb hown (hts (.classLink RX7 59 "OverrunHouseModel$Mix") (List.mem_cons_of_mem _ (List.mem_append_left _ (List.mem_append_left _ (List.mem_append_left _ (List.mem_append_left _ (List.mem_append_left _ (List.mem_of_getElem? (i := 2) rfl)))))))) (hK.1 7 _ rfl).2 (wM.recv (C := RX6) (T := TX6) (N := 5) hP hK heq_23 rfl) dX7_put_54 ?_
        obtain ⟨r_24, g_25, hf⟩ := bd_out hf
        obtain ⟨q_26, wq_26, heq_26⟩ := heM_Mixx (cy := cy) (I := I_2) (D := D) hM (f_get2_lt g_21)
        refine va_calli (va_runV (As := []) (rest := []) ⟨hx, hb, hml, hown, hts⟩ (mt_X6_all l dC dI L a b ad cy hM H.size I_2 D r_20 (f_get2_lt g_21) r_24 g_25) (cwV 0 hts gX7_put_X6_all rfl rfl rfl (by decide +kernel) ⟨Nat.le_of_ble_eq_true rfl, Nat.le_of_ble_eq_true rfl⟩) ⟨(wM.pre [.ref (ad (20 + r_20))] hP hK hN).1, wM.recv (C := RX6) (T := TX6) (N := 5) hP hK heq_26 rfl, (wM.pre [.ref (ad (20 + r_20))] hP hK hN).2⟩ rfl rfl hl.1 rfl (lv_room (Nat.le_of_ble_eq_true rfl)) dX7_put_57 ⟨Nat.le_of_ble_eq_true rfl, Nat.le_of_ble_eq_true rfl⟩) hS (fun q _ h => hA q (Nat.le_trans hS.1 h)) (fun q h => hA q (Nat.le_trans hS.1 h)) (fun r9 u t H1 locs ht hvm hw hB hz1 hk1 hS => ?_)
        subst hw
        have hP := va_Pnew hP hk1
        clear hz1 hk1 hvm ht hB
        generalize H1 = H at hP hS ⊢
        refine lv_iload_n hx hb dX7_put_60 rfl (lv_at hl 3 rfl) ?_
        refine lv_iadd hx hb dX7_put_61 ?_
        refine lv_sipush (v := 500) hx hb dX7_put_62 (by decide) ?_
        refine lv_icmp_gt (tgt := 76) hx hb dX7_put_65 (by decide) (fun c_27 => ?_) (fun c_27 => ?_)
        · have hf := it_t hf c_27
          refine lv_aload_n hx hb dX7_put_76 rfl (lv_at hl 0 rfl) ?_
          refine lv_iconst (v := 3) hx hb dX7_put_77 (by decide) ?_
          obtain ⟨⟨r_28, I_30, D_31⟩, g_29, hf⟩ := bd_out hf
          obtain ⟨q_32, wq_32, heq_32⟩ := heM_0 (cy := cy) (I := I_2) (D := D) hM
          have hAW : ∀ q, AM L ad H.size q → A q := fun q h => h.elim (fun ⟨k, k1, k2⟩ => k2 ▸ hAL k k1) (fun h => hA q (Nat.le_trans hS.1 h))
          refine va_calli (va_runV (As := [.int 3]) (rest := []) ⟨hx, hb, hml, hown, hts⟩ (mt_X7_no l dC dI L a b ad cy hM H.size I_2 D 3 r_28 I_30 D_31 g_29) (cwV 1 hts gX7_put_X7_no rfl rfl rfl (by decide +kernel) ⟨Nat.le_of_ble_eq_true rfl, Nat.le_of_ble_eq_true rfl⟩) ⟨(wM.pre [.ref (ad 0), .int 3] hP hK hN).1, wM.recv (C := RX7) (T := TX7) (N := 9) hP hK heq_32 rfl, (wM.pre [.ref (ad 0), .int 3] hP hK hN).2⟩ rfl rfl hl.1 rfl (lv_room (Nat.le_of_ble_eq_true rfl)) dX7_put_78 ⟨Nat.le_of_ble_eq_true rfl, Nat.le_of_ble_eq_true rfl⟩) hS (fun q _ h => hAW q h) hAW (fun r9 u t H1 locs ht hvm hw hB hz1 hk1 hS => ?_)
          subst hw
          have hP : va_P (dC, dI) vwCl (iwM L a b ad cy I_30 D_31) H1 := by rw [← ht]; exact hB.1
          clear hz1 hk1 hvm ht hB
          generalize H1 = H at hP hS ⊢
          have hf := Option.some.inj hf
          obtain ⟨q1, q2⟩ := Prod.mk.inj hf
          obtain ⟨q2, q3⟩ := Prod.mk.inj q2
          rw [q2, q3] at hP
          exact W.iret (v := r_28) hx hb hr (fun t ht hW9 => ⟨⟨r_28, (), rfl, q1.symm, wM.of hP hK hN ht hW9⟩, hS.F ht⟩) hS.2.2 dX7_put_81
        · have hf := it_f hf c_27
          refine lv_aload_n hx hb dX7_put_68 rfl (lv_at hl 0 rfl) ?_
          refine lv_iload_n hx hb dX7_put_69 rfl (lv_at hl 1 rfl) ?_
          obtain ⟨r_33, g_34, hf⟩ := bd_out hf
          obtain ⟨q_35, wq_35, heq_35⟩ := heM_0 (cy := cy) (I := I_2) (D := D) hM
          refine va_calli (va_runV (As := [.int p1]) (rest := []) ⟨hx, hb, hml, hown, hts⟩ (mt_X7_batchesOf l dC dI L a b ad cy hM H.size I_2 D p1 r_33 g_34) (cwV 1 hts gX7_put_X7_batchesOf rfl rfl rfl (by decide +kernel) ⟨Nat.le_of_ble_eq_true rfl, Nat.le_of_ble_eq_true rfl⟩) ⟨(wM.pre [.ref (ad 0), .int p1] hP hK hN).1, wM.recv (C := RX7) (T := TX7) (N := 9) hP hK heq_35 rfl, (wM.pre [.ref (ad 0), .int p1] hP hK hN).2⟩ rfl rfl hl.1 rfl (lv_room (Nat.le_of_ble_eq_true rfl)) dX7_put_70 ⟨Nat.le_of_ble_eq_true rfl, Nat.le_of_ble_eq_true rfl⟩) hS (fun q _ h => hA q (Nat.le_trans hS.1 h)) (fun q h => hA q (Nat.le_trans hS.1 h)) (fun r9 u t H1 locs ht hvm hw hB hz1 hk1 hS => ?_)
          subst hw
          have hP := va_Pnew hP hk1
          clear hz1 hk1 hvm ht hB
          generalize H1 = H at hP hS ⊢
          refine lv_if_le (tgt := 82) hx hb dX7_put_73 (by decide) (fun c_36 => ?_) (fun c_36 => ?_)
          · have hf := it_t hf c_36
            refine lv_aload_n hx hb dX7_put_82 rfl (lv_at hl 0 rfl) ?_
            obtain ⟨q_37, wq_37, heq_37⟩ := heM_0 (cy := cy) (I := I_2) (D := D) hM
            refine va_get (D := (dC, dI)) (ci := 8) (v := .ref (ad 2)) (C := RX7) (T := TX7) (N := 9) hx hb hts iX7_put_RX7 hown hK hP q_37 heq_37 rfl 2 (by decide) (hts (.fieldLink RX7 16 "OverrunHouseModel" "mixes" "Ljava/util/List;") (List.mem_cons_of_mem _ (List.mem_append_left _ (List.mem_append_left _ (List.mem_append_left _ (List.mem_append_left _ (List.mem_append_left _ (List.mem_of_getElem? (i := 1) rfl)))))))) (fun _ h9 => h9) rfl dX7_put_83 ?_
            refine lv_iload_n hx hb dX7_put_86 rfl (lv_at hl 1 rfl) ?_
            obtain ⟨r_38, g_39, hf⟩ := bd_out hf
            obtain ⟨q_40, wq_40, heq_40⟩ := heM_2 (cy := cy) (I := I_2) (D := D) hM
            refine va_callFr (va_runF (As := [.int p1]) (rest := []) (hK.1 0 _ rfl).2 ⟨hx, hb, hml, hown, hts⟩ (mt_get2 l dC dI L a b ad cy hM H.size I_2 D p1 r_38 g_39) (va_cwF 1 hts gX7_put_Jx4a65c_get_915e3_f55Jx4a65c rfl rfl rfl hN.2.2.1 (by decide +kernel) ⟨Nat.le_of_ble_eq_true rfl, Nat.le_of_ble_eq_true rfl⟩) ⟨(wM.pre [.ref (ad 2), .int p1] hP hK hN).1, wM.recv (C := RJx4a65c) (T := TJx4a65c) (N := 3) hP hK heq_40 rfl, (wM.pre [.ref (ad 2), .int p1] hP hK hN).2⟩ rfl rfl hl.1 rfl (lv_room (Nat.le_of_ble_eq_true rfl)) dX7_put_87 ⟨Nat.le_of_ble_eq_true rfl, Nat.le_of_ble_eq_true rfl⟩) hS (fun q _ h => hA q (Nat.le_trans hS.1 h)) (fun q h => hA q (Nat.le_trans hS.1 h)) (fun u r9 t H1 locs ht hvm hw hB hz1 hk1 hS => ?_)
            subst hB
            have hP := va_Pnew hP hk1
            clear hz1 hk1 hvm ht
            generalize H1 = H at hP hS ⊢
            obtain ⟨q_41, wq_41, heq_41⟩ := heM_Mixx (cy := cy) (I := I_2) (D := D) hM (f_get2_lt g_39)
            refine va_castS hx hb hown (hts (.classLink RX7 59 "OverrunHouseModel$Mix") (List.mem_cons_of_mem _ (List.mem_append_left _ (List.mem_append_left _ (List.mem_append_left _ (List.mem_append_left _ (List.mem_append_left _ (List.mem_of_getElem? (i := 2) rfl)))))))) (hK.1 7 _ rfl).2 (wM.recv (C := RX6) (T := TX6) (N := 5) hP hK heq_41 rfl) dX7_put_92 ?_
            refine lv_iload_n hx hb dX7_put_95 rfl (lv_at hl 2 rfl) ?_
            refine lv_iload_n hx hb dX7_put_96 rfl (lv_at hl 3 rfl) ?_
            obtain ⟨⟨r_42, I_44, D_45⟩, g_43, hf⟩ := bd_out hf
            obtain ⟨q_46, wq_46, heq_46⟩ := heM_Mixx (cy := cy) (I := I_2) (D := D) hM (f_get2_lt g_39)
            have hAW : ∀ q, AM L ad H.size q → A q := fun q h => h.elim (fun ⟨k, k1, k2⟩ => k2 ▸ hAL k k1) (fun h => hA q (Nat.le_trans hS.1 h))
            refine va_calli (va_runV (As := [.int p2, .int p3]) (rest := []) ⟨hx, hb, hml, hown, hts⟩ (mt_X6_put l dC dI L a b ad cy hM H.size I_2 D r_38 (f_get2_lt g_39) p2 p3 r_42 I_44 D_45 g_43) (cwV 2 hts gX7_put_X6_put rfl rfl rfl (by decide +kernel) ⟨Nat.le_of_ble_eq_true rfl, Nat.le_of_ble_eq_true rfl⟩) ⟨(wM.pre [.ref (ad (20 + r_38)), .int p2, .int p3] hP hK hN).1, wM.recv (C := RX6) (T := TX6) (N := 5) hP hK heq_46 rfl, (wM.pre [.ref (ad (20 + r_38)), .int p2, .int p3] hP hK hN).2⟩ rfl rfl hl.1 rfl (lv_room (Nat.le_of_ble_eq_true rfl)) dX7_put_97 ⟨Nat.le_of_ble_eq_true rfl, Nat.le_of_ble_eq_true rfl⟩) hS (fun q _ h => hAW q h) hAW (fun r9 u t H1 locs ht hvm hw hB hz1 hk1 hS => ?_)
            subst hw
            have hP : va_P (dC, dI) vwCl (iwM L a b ad cy I_44 D_45) H1 := by rw [← ht]; exact hB.1
            clear hz1 hk1 hvm ht hB
            generalize H1 = H at hP hS ⊢
            have hf := Option.some.inj hf
            obtain ⟨q1, q2⟩ := Prod.mk.inj hf
            obtain ⟨q2, q3⟩ := Prod.mk.inj q2
            rw [q2, q3] at hP
            exact W.iret (v := r_42) hx hb hr (fun t ht hW9 => ⟨⟨r_42, (), rfl, q1.symm, wM.of hP hK hN ht hW9⟩, hS.F ht⟩) hS.2.2 dX7_put_100
          · have hf := it_f hf c_36
            refine lv_aload_n hx hb dX7_put_76 rfl (lv_at hl 0 rfl) ?_
            refine lv_iconst (v := 3) hx hb dX7_put_77 (by decide) ?_
            obtain ⟨⟨r_47, I_49, D_50⟩, g_48, hf⟩ := bd_out hf
            obtain ⟨q_51, wq_51, heq_51⟩ := heM_0 (cy := cy) (I := I_2) (D := D) hM
            have hAW : ∀ q, AM L ad H.size q → A q := fun q h => h.elim (fun ⟨k, k1, k2⟩ => k2 ▸ hAL k k1) (fun h => hA q (Nat.le_trans hS.1 h))
            refine va_calli (va_runV (As := [.int 3]) (rest := []) ⟨hx, hb, hml, hown, hts⟩ (mt_X7_no l dC dI L a b ad cy hM H.size I_2 D 3 r_47 I_49 D_50 g_48) (cwV 1 hts gX7_put_X7_no rfl rfl rfl (by decide +kernel) ⟨Nat.le_of_ble_eq_true rfl, Nat.le_of_ble_eq_true rfl⟩) ⟨(wM.pre [.ref (ad 0), .int 3] hP hK hN).1, wM.recv (C := RX7) (T := TX7) (N := 9) hP hK heq_51 rfl, (wM.pre [.ref (ad 0), .int 3] hP hK hN).2⟩ rfl rfl hl.1 rfl (lv_room (Nat.le_of_ble_eq_true rfl)) dX7_put_78 ⟨Nat.le_of_ble_eq_true rfl, Nat.le_of_ble_eq_true rfl⟩) hS (fun q _ h => hAW q h) hAW (fun r9 u t H1 locs ht hvm hw hB hz1 hk1 hS => ?_)
            subst hw
            have hP : va_P (dC, dI) vwCl (iwM L a b ad cy I_49 D_50) H1 := by rw [← ht]; exact hB.1
            clear hz1 hk1 hvm ht hB
            generalize H1 = H at hP hS ⊢
            have hf := Option.some.inj hf
            obtain ⟨q1, q2⟩ := Prod.mk.inj hf
            obtain ⟨q2, q3⟩ := Prod.mk.inj q2
            rw [q2, q3] at hP
            exact W.iret (v := r_47) hx hb hr (fun t ht hW9 => ⟨⟨r_47, (), rfl, q1.symm, wM.of hP hK hN ht hW9⟩, hS.F ht⟩) hS.2.2 dX7_put_81
      · have hf := it_t hf c_18
        refine lv_aload_n hx hb dX7_put_38 rfl (lv_at hl 0 rfl) ?_
        refine lv_iconst (v := 2) hx hb dX7_put_39 (by decide) ?_
        obtain ⟨⟨r_52, I_54, D_55⟩, g_53, hf⟩ := bd_out hf
        obtain ⟨q_56, wq_56, heq_56⟩ := heM_0 (cy := cy) (I := I_2) (D := D) hM
        have hAW : ∀ q, AM L ad H.size q → A q := fun q h => h.elim (fun ⟨k, k1, k2⟩ => k2 ▸ hAL k k1) (fun h => hA q (Nat.le_trans hS.1 h))
        refine va_calli (va_runV (As := [.int 2]) (rest := []) ⟨hx, hb, hml, hown, hts⟩ (mt_X7_no l dC dI L a b ad cy hM H.size I_2 D 2 r_52 I_54 D_55 g_53) (cwV 1 hts gX7_put_X7_no rfl rfl rfl (by decide +kernel) ⟨Nat.le_of_ble_eq_true rfl, Nat.le_of_ble_eq_true rfl⟩) ⟨(wM.pre [.ref (ad 0), .int 2] hP hK hN).1, wM.recv (C := RX7) (T := TX7) (N := 9) hP hK heq_56 rfl, (wM.pre [.ref (ad 0), .int 2] hP hK hN).2⟩ rfl rfl hl.1 rfl (lv_room (Nat.le_of_ble_eq_true rfl)) dX7_put_40 ⟨Nat.le_of_ble_eq_true rfl, Nat.le_of_ble_eq_true rfl⟩) hS (fun q _ h => hAW q h) hAW (fun r9 u t H1 locs ht hvm hw hB hz1 hk1 hS => ?_)
        subst hw
        have hP : va_P (dC, dI) vwCl (iwM L a b ad cy I_54 D_55) H1 := by rw [← ht]; exact hB.1
        clear hz1 hk1 hvm ht hB
        generalize H1 = H at hP hS ⊢
        have hf := Option.some.inj hf
        obtain ⟨q1, q2⟩ := Prod.mk.inj hf
        obtain ⟨q2, q3⟩ := Prod.mk.inj q2
        rw [q2, q3] at hP
        exact W.iret (v := r_52) hx hb hr (fun t ht hW9 => ⟨⟨r_52, (), rfl, q1.symm, wM.of hP hK hN ht hW9⟩, hS.F ht⟩) hS.2.2 dX7_put_43
    · have hf := it_t hf c_15
      refine lv_aload_n hx hb dX7_put_21 rfl (lv_at hl 0 rfl) ?_
      refine lv_iconst (v := 1) hx hb dX7_put_22 (by decide) ?_
      obtain ⟨⟨r_57, I_59, D_60⟩, g_58, hf⟩ := bd_out hf
      obtain ⟨q_61, wq_61, heq_61⟩ := heM_0 (cy := cy) (I := I_2) (D := D) hM
      have hAW : ∀ q, AM L ad H.size q → A q := fun q h => h.elim (fun ⟨k, k1, k2⟩ => k2 ▸ hAL k k1) (fun h => hA q (Nat.le_trans hS.1 h))
      refine va_calli (va_runV (As := [.int 1]) (rest := []) ⟨hx, hb, hml, hown, hts⟩ (mt_X7_no l dC dI L a b ad cy hM H.size I_2 D 1 r_57 I_59 D_60 g_58) (cwV 1 hts gX7_put_X7_no rfl rfl rfl (by decide +kernel) ⟨Nat.le_of_ble_eq_true rfl, Nat.le_of_ble_eq_true rfl⟩) ⟨(wM.pre [.ref (ad 0), .int 1] hP hK hN).1, wM.recv (C := RX7) (T := TX7) (N := 9) hP hK heq_61 rfl, (wM.pre [.ref (ad 0), .int 1] hP hK hN).2⟩ rfl rfl hl.1 rfl (lv_room (Nat.le_of_ble_eq_true rfl)) dX7_put_23 ⟨Nat.le_of_ble_eq_true rfl, Nat.le_of_ble_eq_true rfl⟩) hS (fun q _ h => hAW q h) hAW (fun r9 u t H1 locs ht hvm hw hB hz1 hk1 hS => ?_)
      subst hw
      have hP : va_P (dC, dI) vwCl (iwM L a b ad cy I_59 D_60) H1 := by rw [← ht]; exact hB.1
      clear hz1 hk1 hvm ht hB
      generalize H1 = H at hP hS ⊢
      have hf := Option.some.inj hf
      obtain ⟨q1, q2⟩ := Prod.mk.inj hf
      obtain ⟨q2, q3⟩ := Prod.mk.inj q2
      rw [q2, q3] at hP
      exact W.iret (v := r_57) hx hb hr (fun t ht hW9 => ⟨⟨r_57, (), rfl, q1.symm, wM.of hP hK hN ht hW9⟩, hS.F ht⟩) hS.2.2 dX7_put_26

def f_X7_heat (a b : Nat) (I : Nat → Nat → Int32) (D : Nat → Nat → UInt64) (p1 : Int32) (p2 : Int32) (p3 : Int32) : Option (Int32 × (Nat → Nat → Int32) × (Nat → Nat → UInt64)) :=
  nm (up2 I 0 0 0) (fun I_2 => bd (f_X7_isMix a b I_2 D p1) (fun r_3 => (if r_3 = 0 then bd (f_X7_no a b I_2 D 1) (fun (r_234, I_236, D_237) => (if r_234 ≤ 0 then some (0, I_236, D_237) else some (1, I_236, D_237))) else bd (f_X7_in p2 20 120) (fun r_7 => (if r_7 = 0 then bd (f_X7_no a b I_2 D 2) (fun (r_10, I_12, D_13) => (if r_10 ≤ 0 then some (0, I_12, D_13) else some (1, I_12, D_13))) else bd (f_X7_in p3 1 9999) (fun r_16 => (if r_16 = 0 then bd (f_X7_no a b I_2 D 2) (fun (r_228, I_230, D_231) => (if r_228 ≤ 0 then some (0, I_230, D_231) else some (1, I_230, D_231))) else (if 65 ≤ p2 then (if 70 ≤ p2 then (if 75 ≤ p2 then (if 80 ≤ p2 then bd (f_get2 a b I_2 D p1) (fun r_24 => (if p3 < 15 then ck (isB ((I_2 (20 + r_24) 2) ||| 0)) (nm (up2 I_2 (20 + r_24) 2 ((I_2 (20 + r_24) 2) ||| 0)) (fun I_32 => bd (f_get2 a b I_32 D p1) (fun r_34 => nm (up2 I_32 (20 + r_34) 3 0) (fun I_39 => bd (f_get2 a b I_39 D p1) (fun r_41 => ck (isB (I_39 (20 + r_41) 2)) (some ((I_39 (20 + r_41) 2), I_39, D))))))) else ck (isB ((I_2 (20 + r_24) 2) ||| 1)) (nm (up2 I_2 (20 + r_24) 2 ((I_2 (20 + r_24) 2) ||| 1)) (fun I_49 => bd (f_get2 a b I_49 D p1) (fun r_51 => nm (up2 I_49 (20 + r_51) 3 0) (fun I_56 => bd (f_get2 a b I_56 D p1) (fun r_58 => ck (isB (I_56 (20 + r_58) 2)) (some ((I_56 (20 + r_58) 2), I_56, D))))))))) else bd (f_get2 a b I_2 D p1) (fun r_65 => (if p3 < 60 then ck (isB ((I_2 (20 + r_65) 2) ||| 0)) (nm (up2 I_2 (20 + r_65) 2 ((I_2 (20 + r_65) 2) ||| 0)) (fun I_73 => bd (f_get2 a b I_73 D p1) (fun r_75 => nm (up2 I_73 (20 + r_75) 3 0) (fun I_80 => bd (f_get2 a b I_80 D p1) (fun r_82 => ck (isB (I_80 (20 + r_82) 2)) (some ((I_80 (20 + r_82) 2), I_80, D))))))) else ck (isB ((I_2 (20 + r_65) 2) ||| 1)) (nm (up2 I_2 (20 + r_65) 2 ((I_2 (20 + r_65) 2) ||| 1)) (fun I_90 => bd (f_get2 a b I_90 D p1) (fun r_92 => nm (up2 I_90 (20 + r_92) 3 0) (fun I_97 => bd (f_get2 a b I_97 D p1) (fun r_99 => ck (isB (I_97 (20 + r_99) 2)) (some ((I_97 (20 + r_99) 2), I_97, D)))))))))) else bd (f_get2 a b I_2 D p1) (fun r_106 => (if p3 < 300 then ck (isB ((I_2 (20 + r_106) 2) ||| 0)) (nm (up2 I_2 (20 + r_106) 2 ((I_2 (20 + r_106) 2) ||| 0)) (fun I_114 => bd (f_get2 a b I_114 D p1) (fun r_116 => nm (up2 I_114 (20 + r_116) 3 0) (fun I_121 => bd (f_get2 a b I_121 D p1) (fun r_123 => ck (isB (I_121 (20 + r_123) 2)) (some ((I_121 (20 + r_123) 2), I_121, D))))))) else ck (isB ((I_2 (20 + r_106) 2) ||| 1)) (nm (up2 I_2 (20 + r_106) 2 ((I_2 (20 + r_106) 2) ||| 1)) (fun I_131 => bd (f_get2 a b I_131 D p1) (fun r_133 => nm (up2 I_131 (20 + r_133) 3 0) (fun I_138 => bd (f_get2 a b I_138 D p1) (fun r_140 => ck (isB (I_138 (20 + r_140) 2)) (some ((I_138 (20 + r_140) 2), I_138, D)))))))))) else bd (f_get2 a b I_2 D p1) (fun r_147 => (if p3 < 1800 then ck (isB ((I_2 (20 + r_147) 2) ||| 0)) (nm (up2 I_2 (20 + r_147) 2 ((I_2 (20 + r_147) 2) ||| 0)) (fun I_155 => bd (f_get2 a b I_155 D p1) (fun r_157 => nm (up2 I_155 (20 + r_157) 3 0) (fun I_162 => bd (f_get2 a b I_162 D p1) (fun r_164 => ck (isB (I_162 (20 + r_164) 2)) (some ((I_162 (20 + r_164) 2), I_162, D))))))) else ck (isB ((I_2 (20 + r_147) 2) ||| 1)) (nm (up2 I_2 (20 + r_147) 2 ((I_2 (20 + r_147) 2) ||| 1)) (fun I_172 => bd (f_get2 a b I_172 D p1) (fun r_174 => nm (up2 I_172 (20 + r_174) 3 0) (fun I_179 => bd (f_get2 a b I_179 D p1) (fun r_181 => ck (isB (I_179 (20 + r_181) 2)) (some ((I_179 (20 + r_181) 2), I_179, D)))))))))) else bd (f_get2 a b I_2 D p1) (fun r_188 => (if p3 < 10000 then ck (isB ((I_2 (20 + r_188) 2) ||| 0)) (nm (up2 I_2 (20 + r_188) 2 ((I_2 (20 + r_188) 2) ||| 0)) (fun I_196 => bd (f_get2 a b I_196 D p1) (fun r_198 => nm (up2 I_196 (20 + r_198) 3 0) (fun I_203 => bd (f_get2 a b I_203 D p1) (fun r_205 => ck (isB (I_203 (20 + r_205) 2)) (some ((I_203 (20 + r_205) 2), I_203, D))))))) else ck (isB ((I_2 (20 + r_188) 2) ||| 1)) (nm (up2 I_2 (20 + r_188) 2 ((I_2 (20 + r_188) 2) ||| 1)) (fun I_213 => bd (f_get2 a b I_213 D p1) (fun r_215 => nm (up2 I_213 (20 + r_215) 3 0) (fun I_220 => bd (f_get2 a b I_220 D p1) (fun r_222 => ck (isB (I_220 (20 + r_222) 2)) (some ((I_220 (20 + r_222) 2), I_220, D)))))))))))))))))
theorem iX7_heat_RX7 : ∀ w ∈ u_ws RX7 TX7 9, w ∈ wsX7_heat := fun w h => List.mem_cons_of_mem _ (List.mem_append_left _ (List.mem_append_left _ (List.mem_append_right _ (h))))
theorem iX7_heat_RX6 : ∀ w ∈ u_ws RX6 TX6 5, w ∈ wsX7_heat := fun w h => List.mem_cons_of_mem _ (List.mem_append_left _ (List.mem_append_right _ (h)))
set_option maxHeartbeats 4000000 in
set_option maxRecDepth 100000 in
theorem mt_X7_heat (l : Launch) (dC : Nat → ClassId) (dI : Nat → Nat → Nat) (L : List Nat) (a b : Nat) (ad : Nat → Nat) (cy : Nat → ClassId) (hM : mOK L a b ad) (sz : Nat) (I : Nat → Nat → Int32) (D : Nat → Nat → UInt64) (p1 : Int32) (p2 : Int32) (p3 : Int32) (rr : Int32) (I9 : Nat → Nat → Int32) (D9 : Nat → Nat → UInt64) (hf : f_X7_heat a b I D p1 p2 p3 = some (rr, I9, D9)) : Met l yX7_heat wsX7_heat ({ frames := 4, cells := 0, slots := 0, locals := 134 }) (va_Pc [.ref (ad 0), .int p1, .int p2, .int p3] (fun U => U.heap.size = sz ∧ wM dC dI L a b ad cy I D U)) (va_Qi (fun r (_ : Unit) => rr = r) (fun _ t => wM dC dI L a b ad cy I9 D9 t) (AM L ad sz)) 0 0 (AM L ad sz) := by
  refine Met.ofW (cc := cX7_heat) (maxL := 5) (ret := (some .boolean)) (by decide) rfl ?_
  intro p e s m args below meth c s₁ B hml hv
  obtain ⟨rfl, hsz, hP, hK, hN⟩ := hv
  have hx := B.exec
  have hb := B.bytes
  have hr := B.returns
  have hts := atoms_spec (ws := wsX7_heat) B.pre
  have hown : s.vm.findClass RX7 = some m.cls := findClass_of_methodNamed B.named
  have hlocks := B.notSynchronized
  subst hsz
  generalize hAe : AM L ad s.heap.size = A
  have hA : ∀ q : Nat, s.heap.size ≤ q → A q := fun q h => by rw [← hAe]; exact Or.inr h
  have hAL : ∀ k, k ∈ L → A (ad k) := fun k h => by rw [← hAe]; exact Or.inl ⟨k, h, rfl⟩
  have hDD : ∀ I D, va_D A (iwM L a b ad cy I D) := fun I D => iwM_D hM hAL I D
  obtain ⟨H, hH⟩ : ∃ H : Heap, H = s.heap := ⟨_, rfl⟩
  have hS : va_S A s.heap H [] := by rw [hH]; exact va_S.rf
  rw [← hH]
  rw [← hH] at hP
  have hl := lv_entry ([.ref (ad 0), .int p1, .int p2, .int p3]) (n := 5) (Nat.le_of_ble_eq_true rfl)
  rw [lg_entry_eq]
  generalize (lg_sl ([.ref (ad 0), .int p1, .int p2, .int p3]) ++ List.replicate (5 - (lg_sl ([.ref (ad 0), .int p1, .int p2, .int p3])).length) Slot.unset).toArray = ls at hl ⊢
  have hl : lv_has ls 5 [(0, .ref (ad 0)), (1, .int p1), (2, .int p2), (3, .int p3)] := hl
  unfold f_X7_heat at hf
  refine lv_aload_n hx hb dX7_heat_0 rfl (lv_at hl 0 rfl) ?_
  refine lv_iconst (v := 0) hx hb dX7_heat_1 (by decide) ?_
  obtain ⟨q_1, wq_1, heq_1⟩ := heM_0 (cy := cy) (I := I) (D := D) hM
  obtain ⟨I_2, eI_2, hf⟩ := nm_out hf
  refine va_put (D := (dC, dI)) (ci := 8) (v := .int 0) (ty := .int) (C := RX7) (T := TX7) (N := 9) hx hb hts iX7_heat_RX7 tyX7 tyX7_ok nmX7 hown hK hP (hDD I D) hS q_1 heq_1 rfl 0 (by decide) (hts (.fieldLink RX7 32 "OverrunHouseModel" "thrown" "I") (List.mem_cons_of_mem _ (List.mem_append_left _ (List.mem_append_left _ (List.mem_append_left _ (List.mem_append_left _ (List.mem_of_getElem? (i := 0) rfl))))))) (fun _ h9 => h9) rfl (by decide +kernel) rfl rfl (Nat.le_of_ble_eq_true rfl) dX7_heat_2 (fun H locs hP _ hS => ?_)
  have hP : va_P (dC, dI) vwCl (iwM L a b ad cy I_2 D) H := by rw [eI_2]; exact hqI hM wq_1 ((cellM_0 ad cy a b _ _).trans rfl) hP
  refine lv_aload_n hx hb dX7_heat_5 rfl (lv_at hl 0 rfl) ?_
  refine lv_iload_n hx hb dX7_heat_6 rfl (lv_at hl 1 rfl) ?_
  obtain ⟨r_3, g_4, hf⟩ := bd_out hf
  obtain ⟨q_5, wq_5, heq_5⟩ := heM_0 (cy := cy) (I := I_2) (D := D) hM
  refine va_calli (va_runV (As := [.int p1]) (rest := []) ⟨hx, hb, hml, hown, hts⟩ (mt_X7_isMix l dC dI L a b ad cy hM H.size I_2 D p1 r_3 g_4) (cwV 1 hts gX7_heat_X7_isMix rfl rfl rfl (by decide +kernel) ⟨Nat.le_of_ble_eq_true rfl, Nat.le_of_ble_eq_true rfl⟩) ⟨(wM.pre [.ref (ad 0), .int p1] hP hK hN).1, wM.recv (C := RX7) (T := TX7) (N := 9) hP hK heq_5 rfl, (wM.pre [.ref (ad 0), .int p1] hP hK hN).2⟩ rfl rfl hl.1 rfl (lv_room (Nat.le_of_ble_eq_true rfl)) dX7_heat_7 ⟨Nat.le_of_ble_eq_true rfl, Nat.le_of_ble_eq_true rfl⟩) hS (fun q _ h => hA q (Nat.le_trans hS.1 h)) (fun q h => hA q (Nat.le_trans hS.1 h)) (fun r9 u t H1 locs ht hvm hw hB hz1 hk1 hS => ?_)
  subst hw
  have hP := va_Pnew hP hk1
  clear hz1 hk1 hvm ht hB
  generalize H1 = H at hP hS ⊢
  refine lv_if_ne (tgt := 27) hx hb dX7_heat_10 (by decide) (fun c_6 => ?_) (fun c_6 => ?_)
  · have hf := it_f hf c_6
    refine lv_iload_n hx hb dX7_heat_27 rfl (lv_at hl 2 rfl) ?_
    refine lv_bipush (v := 20) hx hb dX7_heat_28 (by decide) ?_
    refine lv_bipush (v := 120) hx hb dX7_heat_30 (by decide) ?_
    obtain ⟨r_7, g_8, hf⟩ := bd_out hf
    refine va_calli (va_runS (As := [.int p2, .int 20, .int 120]) (rest := []) ⟨hx, hb, hml, hown, hts⟩ (mt_X7_in l H.size p2 20 120 r_7 g_8) (va_cwS 3 hts gX7_heat_X7_in rfl rfl rfl (by decide +kernel) ⟨Nat.le_of_ble_eq_true rfl, Nat.le_of_ble_eq_true rfl⟩) (pre0 [.int p2, .int 20, .int 120]) rfl rfl hl.1 rfl (lv_room (Nat.le_of_ble_eq_true rfl)) dX7_heat_32 ⟨Nat.le_of_ble_eq_true rfl, Nat.le_of_ble_eq_true rfl⟩) hS (fun q _ h => hA q (Nat.le_trans hS.1 h)) (fun q h => hA q (Nat.le_trans hS.1 h)) (fun r9 u t H1 locs ht hvm hw hB hz1 hk1 hS => ?_)
    subst hw
    have hP := va_Pnew hP hk1
    clear hz1 hk1 hvm ht hB
    generalize H1 = H at hP hS ⊢
    refine lv_if_eq (tgt := 49) hx hb dX7_heat_35 (by decide) (fun c_9 => ?_) (fun c_9 => ?_)
    · have hf := it_t hf c_9
      refine lv_aload_n hx hb dX7_heat_49 rfl (lv_at hl 0 rfl) ?_
      refine lv_iconst (v := 2) hx hb dX7_heat_50 (by decide) ?_
      obtain ⟨⟨r_10, I_12, D_13⟩, g_11, hf⟩ := bd_out hf
      obtain ⟨q_14, wq_14, heq_14⟩ := heM_0 (cy := cy) (I := I_2) (D := D) hM
      have hAW : ∀ q, AM L ad H.size q → A q := fun q h => h.elim (fun ⟨k, k1, k2⟩ => k2 ▸ hAL k k1) (fun h => hA q (Nat.le_trans hS.1 h))
      refine va_calli (va_runV (As := [.int 2]) (rest := []) ⟨hx, hb, hml, hown, hts⟩ (mt_X7_no l dC dI L a b ad cy hM H.size I_2 D 2 r_10 I_12 D_13 g_11) (cwV 1 hts gX7_heat_X7_no rfl rfl rfl (by decide +kernel) ⟨Nat.le_of_ble_eq_true rfl, Nat.le_of_ble_eq_true rfl⟩) ⟨(wM.pre [.ref (ad 0), .int 2] hP hK hN).1, wM.recv (C := RX7) (T := TX7) (N := 9) hP hK heq_14 rfl, (wM.pre [.ref (ad 0), .int 2] hP hK hN).2⟩ rfl rfl hl.1 rfl (lv_room (Nat.le_of_ble_eq_true rfl)) dX7_heat_51 ⟨Nat.le_of_ble_eq_true rfl, Nat.le_of_ble_eq_true rfl⟩) hS (fun q _ h => hAW q h) hAW (fun r9 u t H1 locs ht hvm hw hB hz1 hk1 hS => ?_)
      subst hw
      have hP : va_P (dC, dI) vwCl (iwM L a b ad cy I_12 D_13) H1 := by rw [← ht]; exact hB.1
      clear hz1 hk1 hvm ht hB
      generalize H1 = H at hP hS ⊢
      refine lv_if_le (tgt := 61) hx hb dX7_heat_54 (by decide) (fun c_15 => ?_) (fun c_15 => ?_)
      · have hf := it_t hf c_15
        refine lv_iconst (v := 0) hx hb dX7_heat_61 (by decide) ?_
        have hf := Option.some.inj hf
        obtain ⟨q1, q2⟩ := Prod.mk.inj hf
        obtain ⟨q2, q3⟩ := Prod.mk.inj q2
        rw [q2, q3] at hP
        exact W.zret (ty := .boolean) (v := 0) hx hb hr rfl (fun t ht hW9 => ⟨⟨0, (), rfl, q1.symm, wM.of hP hK hN ht hW9⟩, hS.F ht⟩) hS.2.2 dX7_heat_62
      · have hf := it_f hf c_15
        refine lv_iconst (v := 1) hx hb dX7_heat_57 (by decide) ?_
        refine lv_goto (tgt := 62) hx hb dX7_heat_58 (by decide) ?_
        have hf := Option.some.inj hf
        obtain ⟨q1, q2⟩ := Prod.mk.inj hf
        obtain ⟨q2, q3⟩ := Prod.mk.inj q2
        rw [q2, q3] at hP
        exact W.zret (ty := .boolean) (v := 1) hx hb hr rfl (fun t ht hW9 => ⟨⟨1, (), rfl, q1.symm, wM.of hP hK hN ht hW9⟩, hS.F ht⟩) hS.2.2 dX7_heat_62
    · have hf := it_f hf c_9
      refine lv_iload_n hx hb dX7_heat_38 rfl (lv_at hl 3 rfl) ?_
      refine lv_iconst (v := 1) hx hb dX7_heat_39 (by decide) ?_
      refine lv_sipush (v := 9999) hx hb dX7_heat_40 (by decide) ?_
      obtain ⟨r_16, g_17, hf⟩ := bd_out hf
      refine va_calli (va_runS (As := [.int p3, .int 1, .int 9999]) (rest := []) ⟨hx, hb, hml, hown, hts⟩ (mt_X7_in l H.size p3 1 9999 r_16 g_17) (va_cwS 3 hts gX7_heat_X7_in rfl rfl rfl (by decide +kernel) ⟨Nat.le_of_ble_eq_true rfl, Nat.le_of_ble_eq_true rfl⟩) (pre0 [.int p3, .int 1, .int 9999]) rfl rfl hl.1 rfl (lv_room (Nat.le_of_ble_eq_true rfl)) dX7_heat_43 ⟨Nat.le_of_ble_eq_true rfl, Nat.le_of_ble_eq_true rfl⟩) hS (fun q _ h => hA q (Nat.le_trans hS.1 h)) (fun q h => hA q (Nat.le_trans hS.1 h)) (fun r9 u t H1 locs ht hvm hw hB hz1 hk1 hS => ?_)
      subst hw
      have hP := va_Pnew hP hk1
      clear hz1 hk1 hvm ht hB
      generalize H1 = H at hP hS ⊢
      refine lv_if_ne (tgt := 63) hx hb dX7_heat_46 (by decide) (fun c_18 => ?_) (fun c_18 => ?_)
      · have hf := it_f hf c_18
        refine lv_iload_n hx hb dX7_heat_63 rfl (lv_at hl 2 rfl) ?_
        refine lv_bipush (v := 65) hx hb dX7_heat_64 (by decide) ?_
        refine lv_icmp_ge (tgt := 75) hx hb dX7_heat_66 (by decide) (fun c_19 => ?_) (fun c_19 => ?_)
        · have hf := it_t hf c_19
          refine lv_iload_n hx hb dX7_heat_75 rfl (lv_at hl 2 rfl) ?_
          refine lv_bipush (v := 70) hx hb dX7_heat_76 (by decide) ?_
          refine lv_icmp_ge (tgt := 87) hx hb dX7_heat_78 (by decide) (fun c_20 => ?_) (fun c_20 => ?_)
          · have hf := it_t hf c_20
            refine lv_iload_n hx hb dX7_heat_87 rfl (lv_at hl 2 rfl) ?_
            refine lv_bipush (v := 75) hx hb dX7_heat_88 (by decide) ?_
            refine lv_icmp_ge (tgt := 99) hx hb dX7_heat_90 (by decide) (fun c_21 => ?_) (fun c_21 => ?_)
            · have hf := it_t hf c_21
              refine lv_iload_n hx hb dX7_heat_99 rfl (lv_at hl 2 rfl) ?_
              refine lv_bipush (v := 80) hx hb dX7_heat_100 (by decide) ?_
              refine lv_icmp_ge (tgt := 110) hx hb dX7_heat_102 (by decide) (fun c_22 => ?_) (fun c_22 => ?_)
              · have hf := it_t hf c_22
                refine lv_bipush (v := 15) hx hb dX7_heat_110 (by decide) ?_
                refine lv_istore (lv' := [(4, .int 15), (0, .ref (ad 0)), (1, .int p1), (2, .int p2), (3, .int p3)]) hx hb dX7_heat_112 hl (by decide) rfl (fun ls hl => ?_)
                refine lv_aload_n hx hb dX7_heat_114 rfl (lv_at hl 1 rfl) ?_
                obtain ⟨q_23, wq_23, heq_23⟩ := heM_0 (cy := cy) (I := I_2) (D := D) hM
                refine va_get (D := (dC, dI)) (ci := 8) (v := .ref (ad 2)) (C := RX7) (T := TX7) (N := 9) hx hb hts iX7_heat_RX7 hown hK hP q_23 heq_23 rfl 2 (by decide) (hts (.fieldLink RX7 16 "OverrunHouseModel" "mixes" "Ljava/util/List;") (List.mem_cons_of_mem _ (List.mem_append_left _ (List.mem_append_left _ (List.mem_append_left _ (List.mem_append_left _ (List.mem_of_getElem? (i := 1) rfl))))))) (fun _ h9 => h9) rfl dX7_heat_115 ?_
                refine lv_iload_n hx hb dX7_heat_118 rfl (lv_at hl 2 rfl) ?_
                obtain ⟨r_24, g_25, hf⟩ := bd_out hf
                obtain ⟨q_26, wq_26, heq_26⟩ := heM_2 (cy := cy) (I := I_2) (D := D) hM
                refine va_callFr (va_runF (As := [.int p1]) (rest := []) (hK.1 0 _ rfl).2 ⟨hx, hb, hml, hown, hts⟩ (mt_get2 l dC dI L a b ad cy hM H.size I_2 D p1 r_24 g_25) (va_cwF 1 hts gX7_heat_Jx4a65c_get_915e3_f55Jx4a65c rfl rfl rfl hN.2.2.1 (by decide +kernel) ⟨Nat.le_of_ble_eq_true rfl, Nat.le_of_ble_eq_true rfl⟩) ⟨(wM.pre [.ref (ad 2), .int p1] hP hK hN).1, wM.recv (C := RJx4a65c) (T := TJx4a65c) (N := 3) hP hK heq_26 rfl, (wM.pre [.ref (ad 2), .int p1] hP hK hN).2⟩ rfl rfl hl.1 rfl (lv_room (Nat.le_of_ble_eq_true rfl)) dX7_heat_119 ⟨Nat.le_of_ble_eq_true rfl, Nat.le_of_ble_eq_true rfl⟩) hS (fun q _ h => hA q (Nat.le_trans hS.1 h)) (fun q h => hA q (Nat.le_trans hS.1 h)) (fun u r9 t H1 locs ht hvm hw hB hz1 hk1 hS => ?_)
                subst hB
                have hP := va_Pnew hP hk1
                clear hz1 hk1 hvm ht
                generalize H1 = H at hP hS ⊢
                obtain ⟨q_27, wq_27, heq_27⟩ := heM_Mixx (cy := cy) (I := I_2) (D := D) hM (f_get2_lt g_25)
                refine va_castS hx hb hown (hts (.classLink RX7 59 "OverrunHouseModel$Mix") (List.mem_cons_of_mem _ (List.mem_append_left _ (List.mem_append_left _ (List.mem_append_left _ (List.mem_append_left _ (List.mem_of_getElem? (i := 2) rfl))))))) (hK.1 7 _ rfl).2 (wM.recv (C := RX6) (T := TX6) (N := 5) hP hK heq_27 rfl) dX7_heat_124 ?_
                refine lv_dup hx hb dX7_heat_127 rfl ?_
                obtain ⟨q_28, wq_28, heq_28⟩ := heM_Mixx (cy := cy) (I := I_2) (D := D) hM (f_get2_lt g_25)
                refine va_get (D := (dC, dI)) (ci := 7) (v := .int (I_2 (20 + r_24) 2)) (C := RX6) (T := TX6) (N := 5) hx hb hts iX7_heat_RX6 hown hK hP q_28 heq_28 rfl 2 (by decide) (hts (.fieldLink RX7 95 "OverrunHouseModel$Mix" "isProved" "Z") (List.mem_cons_of_mem _ (List.mem_append_left _ (List.mem_append_left _ (List.mem_append_left _ (List.mem_append_left _ (List.mem_of_getElem? (i := 3) rfl))))))) (fun _ h9 => h9) rfl dX7_heat_128 ?_
                refine lv_iload_n hx hb dX7_heat_131 rfl (lv_at hl 4 rfl) ?_
                refine lv_iload hx hb dX7_heat_132 (lv_at hl 0 rfl) ?_
                refine lv_icmp_lt (tgt := 141) hx hb dX7_heat_134 (by decide) (fun c_29 => ?_) (fun c_29 => ?_)
                · have hf := it_t hf c_29
                  refine lv_iconst (v := 0) hx hb dX7_heat_141 (by decide) ?_
                  refine lv_ior hx hb dX7_heat_142 ?_
                  obtain ⟨q_30, wq_30, heq_30⟩ := heM_Mixx (cy := cy) (I := I_2) (D := D) hM (f_get2_lt g_25)
                  obtain ⟨h_31, hf⟩ := ck_out hf
                  obtain ⟨I_32, eI_32, hf⟩ := nm_out hf
                  refine va_put (D := (dC, dI)) (ci := 7) (v := .int ((I_2 (20 + r_24) 2) ||| 0)) (ty := .boolean) (C := RX6) (T := TX6) (N := 5) hx hb hts iX7_heat_RX6 tyX6 tyX6_ok nmX6 hown hK hP (hDD I_2 D) hS q_30 heq_30 rfl 2 (by decide) (hts (.fieldLink RX7 95 "OverrunHouseModel$Mix" "isProved" "Z") (List.mem_cons_of_mem _ (List.mem_append_left _ (List.mem_append_left _ (List.mem_append_left _ (List.mem_append_left _ (List.mem_of_getElem? (i := 3) rfl))))))) (fun _ h9 => h9) rfl (by decide +kernel) (isB_nar h_31) (isB_fit h_31) (Nat.le_of_ble_eq_true rfl) dX7_heat_143 (fun H locs hP _ hS => ?_)
                  have hP : va_P (dC, dI) vwCl (iwM L a b ad cy I_32 D) H := by rw [eI_32]; exact hqI hM wq_30 ((cellM_Mixx ad cy a b (by have := hM.2; have := (f_get2_lt g_25); omega) _ _).trans rfl) hP
                  refine lv_aload_n hx hb dX7_heat_146 rfl (lv_at hl 1 rfl) ?_
                  obtain ⟨q_33, wq_33, heq_33⟩ := heM_0 (cy := cy) (I := I_32) (D := D) hM
                  refine va_get (D := (dC, dI)) (ci := 8) (v := .ref (ad 2)) (C := RX7) (T := TX7) (N := 9) hx hb hts iX7_heat_RX7 hown hK hP q_33 heq_33 rfl 2 (by decide) (hts (.fieldLink RX7 16 "OverrunHouseModel" "mixes" "Ljava/util/List;") (List.mem_cons_of_mem _ (List.mem_append_left _ (List.mem_append_left _ (List.mem_append_left _ (List.mem_append_left _ (List.mem_of_getElem? (i := 1) rfl))))))) (fun _ h9 => h9) rfl dX7_heat_147 ?_
                  refine lv_iload_n hx hb dX7_heat_150 rfl (lv_at hl 2 rfl) ?_
                  obtain ⟨r_34, g_35, hf⟩ := bd_out hf
                  obtain ⟨q_36, wq_36, heq_36⟩ := heM_2 (cy := cy) (I := I_32) (D := D) hM
                  refine va_callFr (va_runF (As := [.int p1]) (rest := []) (hK.1 0 _ rfl).2 ⟨hx, hb, hml, hown, hts⟩ (mt_get2 l dC dI L a b ad cy hM H.size I_32 D p1 r_34 g_35) (va_cwF 1 hts gX7_heat_Jx4a65c_get_915e3_f55Jx4a65c rfl rfl rfl hN.2.2.1 (by decide +kernel) ⟨Nat.le_of_ble_eq_true rfl, Nat.le_of_ble_eq_true rfl⟩) ⟨(wM.pre [.ref (ad 2), .int p1] hP hK hN).1, wM.recv (C := RJx4a65c) (T := TJx4a65c) (N := 3) hP hK heq_36 rfl, (wM.pre [.ref (ad 2), .int p1] hP hK hN).2⟩ rfl rfl hl.1 rfl (lv_room (Nat.le_of_ble_eq_true rfl)) dX7_heat_151 ⟨Nat.le_of_ble_eq_true rfl, Nat.le_of_ble_eq_true rfl⟩) hS (fun q _ h => hA q (Nat.le_trans hS.1 h)) (fun q h => hA q (Nat.le_trans hS.1 h)) (fun u r9 t H1 locs ht hvm hw hB hz1 hk1 hS => ?_)
                  subst hB
                  have hP := va_Pnew hP hk1
                  clear hz1 hk1 hvm ht
                  generalize H1 = H at hP hS ⊢
                  obtain ⟨q_37, wq_37, heq_37⟩ := heM_Mixx (cy := cy) (I := I_32) (D := D) hM (f_get2_lt g_35)
                  refine va_castS hx hb hown (hts (.classLink RX7 59 "OverrunHouseModel$Mix") (List.mem_cons_of_mem _ (List.mem_append_left _ (List.mem_append_left _ (List.mem_append_left _ (List.mem_append_left _ (List.mem_of_getElem? (i := 2) rfl))))))) (hK.1 7 _ rfl).2 (wM.recv (C := RX6) (T := TX6) (N := 5) hP hK heq_37 rfl) dX7_heat_156 ?_
                  refine lv_iconst (v := 0) hx hb dX7_heat_159 (by decide) ?_
                  obtain ⟨q_38, wq_38, heq_38⟩ := heM_Mixx (cy := cy) (I := I_32) (D := D) hM (f_get2_lt g_35)
                  obtain ⟨I_39, eI_39, hf⟩ := nm_out hf
                  refine va_put (D := (dC, dI)) (ci := 7) (v := .int 0) (ty := .int) (C := RX6) (T := TX6) (N := 5) hx hb hts iX7_heat_RX6 tyX6 tyX6_ok nmX6 hown hK hP (hDD I_32 D) hS q_38 heq_38 rfl 3 (by decide) (hts (.fieldLink RX7 99 "OverrunHouseModel$Mix" "age" "I") (List.mem_cons_of_mem _ (List.mem_append_left _ (List.mem_append_left _ (List.mem_append_left _ (List.mem_append_left _ (List.mem_of_getElem? (i := 4) rfl))))))) (fun _ h9 => h9) rfl (by decide +kernel) rfl rfl (Nat.le_of_ble_eq_true rfl) dX7_heat_160 (fun H locs hP _ hS => ?_)
                  have hP : va_P (dC, dI) vwCl (iwM L a b ad cy I_39 D) H := by rw [eI_39]; exact hqI hM wq_38 ((cellM_Mixx ad cy a b (by have := hM.2; have := (f_get2_lt g_35); omega) _ _).trans rfl) hP
                  refine lv_aload_n hx hb dX7_heat_163 rfl (lv_at hl 1 rfl) ?_
                  obtain ⟨q_40, wq_40, heq_40⟩ := heM_0 (cy := cy) (I := I_39) (D := D) hM
                  refine va_get (D := (dC, dI)) (ci := 8) (v := .ref (ad 2)) (C := RX7) (T := TX7) (N := 9) hx hb hts iX7_heat_RX7 hown hK hP q_40 heq_40 rfl 2 (by decide) (hts (.fieldLink RX7 16 "OverrunHouseModel" "mixes" "Ljava/util/List;") (List.mem_cons_of_mem _ (List.mem_append_left _ (List.mem_append_left _ (List.mem_append_left _ (List.mem_append_left _ (List.mem_of_getElem? (i := 1) rfl))))))) (fun _ h9 => h9) rfl dX7_heat_164 ?_
                  refine lv_iload_n hx hb dX7_heat_167 rfl (lv_at hl 2 rfl) ?_
                  obtain ⟨r_41, g_42, hf⟩ := bd_out hf
                  obtain ⟨q_43, wq_43, heq_43⟩ := heM_2 (cy := cy) (I := I_39) (D := D) hM
                  refine va_callFr (va_runF (As := [.int p1]) (rest := []) (hK.1 0 _ rfl).2 ⟨hx, hb, hml, hown, hts⟩ (mt_get2 l dC dI L a b ad cy hM H.size I_39 D p1 r_41 g_42) (va_cwF 1 hts gX7_heat_Jx4a65c_get_915e3_f55Jx4a65c rfl rfl rfl hN.2.2.1 (by decide +kernel) ⟨Nat.le_of_ble_eq_true rfl, Nat.le_of_ble_eq_true rfl⟩) ⟨(wM.pre [.ref (ad 2), .int p1] hP hK hN).1, wM.recv (C := RJx4a65c) (T := TJx4a65c) (N := 3) hP hK heq_43 rfl, (wM.pre [.ref (ad 2), .int p1] hP hK hN).2⟩ rfl rfl hl.1 rfl (lv_room (Nat.le_of_ble_eq_true rfl)) dX7_heat_168 ⟨Nat.le_of_ble_eq_true rfl, Nat.le_of_ble_eq_true rfl⟩) hS (fun q _ h => hA q (Nat.le_trans hS.1 h)) (fun q h => hA q (Nat.le_trans hS.1 h)) (fun u r9 t H1 locs ht hvm hw hB hz1 hk1 hS => ?_)
                  subst hB
                  have hP := va_Pnew hP hk1
                  clear hz1 hk1 hvm ht
                  generalize H1 = H at hP hS ⊢
                  obtain ⟨q_44, wq_44, heq_44⟩ := heM_Mixx (cy := cy) (I := I_39) (D := D) hM (f_get2_lt g_42)
                  refine va_castS hx hb hown (hts (.classLink RX7 59 "OverrunHouseModel$Mix") (List.mem_cons_of_mem _ (List.mem_append_left _ (List.mem_append_left _ (List.mem_append_left _ (List.mem_append_left _ (List.mem_of_getElem? (i := 2) rfl))))))) (hK.1 7 _ rfl).2 (wM.recv (C := RX6) (T := TX6) (N := 5) hP hK heq_44 rfl) dX7_heat_173 ?_
                  obtain ⟨q_45, wq_45, heq_45⟩ := heM_Mixx (cy := cy) (I := I_39) (D := D) hM (f_get2_lt g_42)
                  refine va_get (D := (dC, dI)) (ci := 7) (v := .int (I_39 (20 + r_41) 2)) (C := RX6) (T := TX6) (N := 5) hx hb hts iX7_heat_RX6 hown hK hP q_45 heq_45 rfl 2 (by decide) (hts (.fieldLink RX7 95 "OverrunHouseModel$Mix" "isProved" "Z") (List.mem_cons_of_mem _ (List.mem_append_left _ (List.mem_append_left _ (List.mem_append_left _ (List.mem_append_left _ (List.mem_of_getElem? (i := 3) rfl))))))) (fun _ h9 => h9) rfl dX7_heat_176 ?_
                  obtain ⟨h_46, hf⟩ := ck_out hf
                  have hf := Option.some.inj hf
                  obtain ⟨q1, q2⟩ := Prod.mk.inj hf
                  obtain ⟨q2, q3⟩ := Prod.mk.inj q2
                  rw [q2, q3] at hP
                  exact W.zret (ty := .boolean) (v := (I_39 (20 + r_41) 2)) hx hb hr (isB_nar h_46) (fun t ht hW9 => ⟨⟨(I_39 (20 + r_41) 2), (), rfl, q1.symm, wM.of hP hK hN ht hW9⟩, hS.F ht⟩) hS.2.2 dX7_heat_179
                · have hf := it_f hf c_29
                  refine lv_iconst (v := 1) hx hb dX7_heat_137 (by decide) ?_
                  refine lv_goto (tgt := 142) hx hb dX7_heat_138 (by decide) ?_
                  refine lv_ior hx hb dX7_heat_142 ?_
                  obtain ⟨q_47, wq_47, heq_47⟩ := heM_Mixx (cy := cy) (I := I_2) (D := D) hM (f_get2_lt g_25)
                  obtain ⟨h_48, hf⟩ := ck_out hf
                  obtain ⟨I_49, eI_49, hf⟩ := nm_out hf
                  refine va_put (D := (dC, dI)) (ci := 7) (v := .int ((I_2 (20 + r_24) 2) ||| 1)) (ty := .boolean) (C := RX6) (T := TX6) (N := 5) hx hb hts iX7_heat_RX6 tyX6 tyX6_ok nmX6 hown hK hP (hDD I_2 D) hS q_47 heq_47 rfl 2 (by decide) (hts (.fieldLink RX7 95 "OverrunHouseModel$Mix" "isProved" "Z") (List.mem_cons_of_mem _ (List.mem_append_left _ (List.mem_append_left _ (List.mem_append_left _ (List.mem_append_left _ (List.mem_of_getElem? (i := 3) rfl))))))) (fun _ h9 => h9) rfl (by decide +kernel) (isB_nar h_48) (isB_fit h_48) (Nat.le_of_ble_eq_true rfl) dX7_heat_143 (fun H locs hP _ hS => ?_)
                  have hP : va_P (dC, dI) vwCl (iwM L a b ad cy I_49 D) H := by rw [eI_49]; exact hqI hM wq_47 ((cellM_Mixx ad cy a b (by have := hM.2; have := (f_get2_lt g_25); omega) _ _).trans rfl) hP
                  refine lv_aload_n hx hb dX7_heat_146 rfl (lv_at hl 1 rfl) ?_
                  obtain ⟨q_50, wq_50, heq_50⟩ := heM_0 (cy := cy) (I := I_49) (D := D) hM
                  refine va_get (D := (dC, dI)) (ci := 8) (v := .ref (ad 2)) (C := RX7) (T := TX7) (N := 9) hx hb hts iX7_heat_RX7 hown hK hP q_50 heq_50 rfl 2 (by decide) (hts (.fieldLink RX7 16 "OverrunHouseModel" "mixes" "Ljava/util/List;") (List.mem_cons_of_mem _ (List.mem_append_left _ (List.mem_append_left _ (List.mem_append_left _ (List.mem_append_left _ (List.mem_of_getElem? (i := 1) rfl))))))) (fun _ h9 => h9) rfl dX7_heat_147 ?_
                  refine lv_iload_n hx hb dX7_heat_150 rfl (lv_at hl 2 rfl) ?_
                  obtain ⟨r_51, g_52, hf⟩ := bd_out hf
                  obtain ⟨q_53, wq_53, heq_53⟩ := heM_2 (cy := cy) (I := I_49) (D := D) hM
                  refine va_callFr (va_runF (As := [.int p1]) (rest := []) (hK.1 0 _ rfl).2 ⟨hx, hb, hml, hown, hts⟩ (mt_get2 l dC dI L a b ad cy hM H.size I_49 D p1 r_51 g_52) (va_cwF 1 hts gX7_heat_Jx4a65c_get_915e3_f55Jx4a65c rfl rfl rfl hN.2.2.1 (by decide +kernel) ⟨Nat.le_of_ble_eq_true rfl, Nat.le_of_ble_eq_true rfl⟩) ⟨(wM.pre [.ref (ad 2), .int p1] hP hK hN).1, wM.recv (C := RJx4a65c) (T := TJx4a65c) (N := 3) hP hK heq_53 rfl, (wM.pre [.ref (ad 2), .int p1] hP hK hN).2⟩ rfl rfl hl.1 rfl (lv_room (Nat.le_of_ble_eq_true rfl)) dX7_heat_151 ⟨Nat.le_of_ble_eq_true rfl, Nat.le_of_ble_eq_true rfl⟩) hS (fun q _ h => hA q (Nat.le_trans hS.1 h)) (fun q h => hA q (Nat.le_trans hS.1 h)) (fun u r9 t H1 locs ht hvm hw hB hz1 hk1 hS => ?_)
                  subst hB
                  have hP := va_Pnew hP hk1
                  clear hz1 hk1 hvm ht
                  generalize H1 = H at hP hS ⊢
                  obtain ⟨q_54, wq_54, heq_54⟩ := heM_Mixx (cy := cy) (I := I_49) (D := D) hM (f_get2_lt g_52)
                  refine va_castS hx hb hown (hts (.classLink RX7 59 "OverrunHouseModel$Mix") (List.mem_cons_of_mem _ (List.mem_append_left _ (List.mem_append_left _ (List.mem_append_left _ (List.mem_append_left _ (List.mem_of_getElem? (i := 2) rfl))))))) (hK.1 7 _ rfl).2 (wM.recv (C := RX6) (T := TX6) (N := 5) hP hK heq_54 rfl) dX7_heat_156 ?_
                  refine lv_iconst (v := 0) hx hb dX7_heat_159 (by decide) ?_
                  obtain ⟨q_55, wq_55, heq_55⟩ := heM_Mixx (cy := cy) (I := I_49) (D := D) hM (f_get2_lt g_52)
                  obtain ⟨I_56, eI_56, hf⟩ := nm_out hf
                  refine va_put (D := (dC, dI)) (ci := 7) (v := .int 0) (ty := .int) (C := RX6) (T := TX6) (N := 5) hx hb hts iX7_heat_RX6 tyX6 tyX6_ok nmX6 hown hK hP (hDD I_49 D) hS q_55 heq_55 rfl 3 (by decide) (hts (.fieldLink RX7 99 "OverrunHouseModel$Mix" "age" "I") (List.mem_cons_of_mem _ (List.mem_append_left _ (List.mem_append_left _ (List.mem_append_left _ (List.mem_append_left _ (List.mem_of_getElem? (i := 4) rfl))))))) (fun _ h9 => h9) rfl (by decide +kernel) rfl rfl (Nat.le_of_ble_eq_true rfl) dX7_heat_160 (fun H locs hP _ hS => ?_)
                  have hP : va_P (dC, dI) vwCl (iwM L a b ad cy I_56 D) H := by rw [eI_56]; exact hqI hM wq_55 ((cellM_Mixx ad cy a b (by have := hM.2; have := (f_get2_lt g_52); omega) _ _).trans rfl) hP
                  refine lv_aload_n hx hb dX7_heat_163 rfl (lv_at hl 1 rfl) ?_
                  obtain ⟨q_57, wq_57, heq_57⟩ := heM_0 (cy := cy) (I := I_56) (D := D) hM
                  refine va_get (D := (dC, dI)) (ci := 8) (v := .ref (ad 2)) (C := RX7) (T := TX7) (N := 9) hx hb hts iX7_heat_RX7 hown hK hP q_57 heq_57 rfl 2 (by decide) (hts (.fieldLink RX7 16 "OverrunHouseModel" "mixes" "Ljava/util/List;") (List.mem_cons_of_mem _ (List.mem_append_left _ (List.mem_append_left _ (List.mem_append_left _ (List.mem_append_left _ (List.mem_of_getElem? (i := 1) rfl))))))) (fun _ h9 => h9) rfl dX7_heat_164 ?_
                  refine lv_iload_n hx hb dX7_heat_167 rfl (lv_at hl 2 rfl) ?_
                  obtain ⟨r_58, g_59, hf⟩ := bd_out hf
                  obtain ⟨q_60, wq_60, heq_60⟩ := heM_2 (cy := cy) (I := I_56) (D := D) hM
                  refine va_callFr (va_runF (As := [.int p1]) (rest := []) (hK.1 0 _ rfl).2 ⟨hx, hb, hml, hown, hts⟩ (mt_get2 l dC dI L a b ad cy hM H.size I_56 D p1 r_58 g_59) (va_cwF 1 hts gX7_heat_Jx4a65c_get_915e3_f55Jx4a65c rfl rfl rfl hN.2.2.1 (by decide +kernel) ⟨Nat.le_of_ble_eq_true rfl, Nat.le_of_ble_eq_true rfl⟩) ⟨(wM.pre [.ref (ad 2), .int p1] hP hK hN).1, wM.recv (C := RJx4a65c) (T := TJx4a65c) (N := 3) hP hK heq_60 rfl, (wM.pre [.ref (ad 2), .int p1] hP hK hN).2⟩ rfl rfl hl.1 rfl (lv_room (Nat.le_of_ble_eq_true rfl)) dX7_heat_168 ⟨Nat.le_of_ble_eq_true rfl, Nat.le_of_ble_eq_true rfl⟩) hS (fun q _ h => hA q (Nat.le_trans hS.1 h)) (fun q h => hA q (Nat.le_trans hS.1 h)) (fun u r9 t H1 locs ht hvm hw hB hz1 hk1 hS => ?_)
                  subst hB
                  have hP := va_Pnew hP hk1
                  clear hz1 hk1 hvm ht
                  generalize H1 = H at hP hS ⊢
                  obtain ⟨q_61, wq_61, heq_61⟩ := heM_Mixx (cy := cy) (I := I_56) (D := D) hM (f_get2_lt g_59)
                  refine va_castS hx hb hown (hts (.classLink RX7 59 "OverrunHouseModel$Mix") (List.mem_cons_of_mem _ (List.mem_append_left _ (List.mem_append_left _ (List.mem_append_left _ (List.mem_append_left _ (List.mem_of_getElem? (i := 2) rfl))))))) (hK.1 7 _ rfl).2 (wM.recv (C := RX6) (T := TX6) (N := 5) hP hK heq_61 rfl) dX7_heat_173 ?_
                  obtain ⟨q_62, wq_62, heq_62⟩ := heM_Mixx (cy := cy) (I := I_56) (D := D) hM (f_get2_lt g_59)
                  refine va_get (D := (dC, dI)) (ci := 7) (v := .int (I_56 (20 + r_58) 2)) (C := RX6) (T := TX6) (N := 5) hx hb hts iX7_heat_RX6 hown hK hP q_62 heq_62 rfl 2 (by decide) (hts (.fieldLink RX7 95 "OverrunHouseModel$Mix" "isProved" "Z") (List.mem_cons_of_mem _ (List.mem_append_left _ (List.mem_append_left _ (List.mem_append_left _ (List.mem_append_left _ (List.mem_of_getElem? (i := 3) rfl))))))) (fun _ h9 => h9) rfl dX7_heat_176 ?_
                  obtain ⟨h_63, hf⟩ := ck_out hf
                  have hf := Option.some.inj hf
                  obtain ⟨q1, q2⟩ := Prod.mk.inj hf
                  obtain ⟨q2, q3⟩ := Prod.mk.inj q2
                  rw [q2, q3] at hP
                  exact W.zret (ty := .boolean) (v := (I_56 (20 + r_58) 2)) hx hb hr (isB_nar h_63) (fun t ht hW9 => ⟨⟨(I_56 (20 + r_58) 2), (), rfl, q1.symm, wM.of hP hK hN ht hW9⟩, hS.F ht⟩) hS.2.2 dX7_heat_179
              · have hf := it_f hf c_22
                refine lv_bipush (v := 60) hx hb dX7_heat_105 (by decide) ?_
                refine lv_goto (tgt := 112) hx hb dX7_heat_107 (by decide) ?_
                refine lv_istore (lv' := [(4, .int 60), (0, .ref (ad 0)), (1, .int p1), (2, .int p2), (3, .int p3)]) hx hb dX7_heat_112 hl (by decide) rfl (fun ls hl => ?_)
                refine lv_aload_n hx hb dX7_heat_114 rfl (lv_at hl 1 rfl) ?_
                obtain ⟨q_64, wq_64, heq_64⟩ := heM_0 (cy := cy) (I := I_2) (D := D) hM
                refine va_get (D := (dC, dI)) (ci := 8) (v := .ref (ad 2)) (C := RX7) (T := TX7) (N := 9) hx hb hts iX7_heat_RX7 hown hK hP q_64 heq_64 rfl 2 (by decide) (hts (.fieldLink RX7 16 "OverrunHouseModel" "mixes" "Ljava/util/List;") (List.mem_cons_of_mem _ (List.mem_append_left _ (List.mem_append_left _ (List.mem_append_left _ (List.mem_append_left _ (List.mem_of_getElem? (i := 1) rfl))))))) (fun _ h9 => h9) rfl dX7_heat_115 ?_
                refine lv_iload_n hx hb dX7_heat_118 rfl (lv_at hl 2 rfl) ?_
                obtain ⟨r_65, g_66, hf⟩ := bd_out hf
                obtain ⟨q_67, wq_67, heq_67⟩ := heM_2 (cy := cy) (I := I_2) (D := D) hM
                refine va_callFr (va_runF (As := [.int p1]) (rest := []) (hK.1 0 _ rfl).2 ⟨hx, hb, hml, hown, hts⟩ (mt_get2 l dC dI L a b ad cy hM H.size I_2 D p1 r_65 g_66) (va_cwF 1 hts gX7_heat_Jx4a65c_get_915e3_f55Jx4a65c rfl rfl rfl hN.2.2.1 (by decide +kernel) ⟨Nat.le_of_ble_eq_true rfl, Nat.le_of_ble_eq_true rfl⟩) ⟨(wM.pre [.ref (ad 2), .int p1] hP hK hN).1, wM.recv (C := RJx4a65c) (T := TJx4a65c) (N := 3) hP hK heq_67 rfl, (wM.pre [.ref (ad 2), .int p1] hP hK hN).2⟩ rfl rfl hl.1 rfl (lv_room (Nat.le_of_ble_eq_true rfl)) dX7_heat_119 ⟨Nat.le_of_ble_eq_true rfl, Nat.le_of_ble_eq_true rfl⟩) hS (fun q _ h => hA q (Nat.le_trans hS.1 h)) (fun q h => hA q (Nat.le_trans hS.1 h)) (fun u r9 t H1 locs ht hvm hw hB hz1 hk1 hS => ?_)
                subst hB
                have hP := va_Pnew hP hk1
                clear hz1 hk1 hvm ht
                generalize H1 = H at hP hS ⊢
                obtain ⟨q_68, wq_68, heq_68⟩ := heM_Mixx (cy := cy) (I := I_2) (D := D) hM (f_get2_lt g_66)
                refine va_castS hx hb hown (hts (.classLink RX7 59 "OverrunHouseModel$Mix") (List.mem_cons_of_mem _ (List.mem_append_left _ (List.mem_append_left _ (List.mem_append_left _ (List.mem_append_left _ (List.mem_of_getElem? (i := 2) rfl))))))) (hK.1 7 _ rfl).2 (wM.recv (C := RX6) (T := TX6) (N := 5) hP hK heq_68 rfl) dX7_heat_124 ?_
                refine lv_dup hx hb dX7_heat_127 rfl ?_
                obtain ⟨q_69, wq_69, heq_69⟩ := heM_Mixx (cy := cy) (I := I_2) (D := D) hM (f_get2_lt g_66)
                refine va_get (D := (dC, dI)) (ci := 7) (v := .int (I_2 (20 + r_65) 2)) (C := RX6) (T := TX6) (N := 5) hx hb hts iX7_heat_RX6 hown hK hP q_69 heq_69 rfl 2 (by decide) (hts (.fieldLink RX7 95 "OverrunHouseModel$Mix" "isProved" "Z") (List.mem_cons_of_mem _ (List.mem_append_left _ (List.mem_append_left _ (List.mem_append_left _ (List.mem_append_left _ (List.mem_of_getElem? (i := 3) rfl))))))) (fun _ h9 => h9) rfl dX7_heat_128 ?_
                refine lv_iload_n hx hb dX7_heat_131 rfl (lv_at hl 4 rfl) ?_
                refine lv_iload hx hb dX7_heat_132 (lv_at hl 0 rfl) ?_
                refine lv_icmp_lt (tgt := 141) hx hb dX7_heat_134 (by decide) (fun c_70 => ?_) (fun c_70 => ?_)
                · have hf := it_t hf c_70
                  refine lv_iconst (v := 0) hx hb dX7_heat_141 (by decide) ?_
                  refine lv_ior hx hb dX7_heat_142 ?_
                  obtain ⟨q_71, wq_71, heq_71⟩ := heM_Mixx (cy := cy) (I := I_2) (D := D) hM (f_get2_lt g_66)
                  obtain ⟨h_72, hf⟩ := ck_out hf
                  obtain ⟨I_73, eI_73, hf⟩ := nm_out hf
                  refine va_put (D := (dC, dI)) (ci := 7) (v := .int ((I_2 (20 + r_65) 2) ||| 0)) (ty := .boolean) (C := RX6) (T := TX6) (N := 5) hx hb hts iX7_heat_RX6 tyX6 tyX6_ok nmX6 hown hK hP (hDD I_2 D) hS q_71 heq_71 rfl 2 (by decide) (hts (.fieldLink RX7 95 "OverrunHouseModel$Mix" "isProved" "Z") (List.mem_cons_of_mem _ (List.mem_append_left _ (List.mem_append_left _ (List.mem_append_left _ (List.mem_append_left _ (List.mem_of_getElem? (i := 3) rfl))))))) (fun _ h9 => h9) rfl (by decide +kernel) (isB_nar h_72) (isB_fit h_72) (Nat.le_of_ble_eq_true rfl) dX7_heat_143 (fun H locs hP _ hS => ?_)
                  have hP : va_P (dC, dI) vwCl (iwM L a b ad cy I_73 D) H := by rw [eI_73]; exact hqI hM wq_71 ((cellM_Mixx ad cy a b (by have := hM.2; have := (f_get2_lt g_66); omega) _ _).trans rfl) hP
                  refine lv_aload_n hx hb dX7_heat_146 rfl (lv_at hl 1 rfl) ?_
                  obtain ⟨q_74, wq_74, heq_74⟩ := heM_0 (cy := cy) (I := I_73) (D := D) hM
                  refine va_get (D := (dC, dI)) (ci := 8) (v := .ref (ad 2)) (C := RX7) (T := TX7) (N := 9) hx hb hts iX7_heat_RX7 hown hK hP q_74 heq_74 rfl 2 (by decide) (hts (.fieldLink RX7 16 "OverrunHouseModel" "mixes" "Ljava/util/List;") (List.mem_cons_of_mem _ (List.mem_append_left _ (List.mem_append_left _ (List.mem_append_left _ (List.mem_append_left _ (List.mem_of_getElem? (i := 1) rfl))))))) (fun _ h9 => h9) rfl dX7_heat_147 ?_
                  refine lv_iload_n hx hb dX7_heat_150 rfl (lv_at hl 2 rfl) ?_
                  obtain ⟨r_75, g_76, hf⟩ := bd_out hf
                  obtain ⟨q_77, wq_77, heq_77⟩ := heM_2 (cy := cy) (I := I_73) (D := D) hM
                  refine va_callFr (va_runF (As := [.int p1]) (rest := []) (hK.1 0 _ rfl).2 ⟨hx, hb, hml, hown, hts⟩ (mt_get2 l dC dI L a b ad cy hM H.size I_73 D p1 r_75 g_76) (va_cwF 1 hts gX7_heat_Jx4a65c_get_915e3_f55Jx4a65c rfl rfl rfl hN.2.2.1 (by decide +kernel) ⟨Nat.le_of_ble_eq_true rfl, Nat.le_of_ble_eq_true rfl⟩) ⟨(wM.pre [.ref (ad 2), .int p1] hP hK hN).1, wM.recv (C := RJx4a65c) (T := TJx4a65c) (N := 3) hP hK heq_77 rfl, (wM.pre [.ref (ad 2), .int p1] hP hK hN).2⟩ rfl rfl hl.1 rfl (lv_room (Nat.le_of_ble_eq_true rfl)) dX7_heat_151 ⟨Nat.le_of_ble_eq_true rfl, Nat.le_of_ble_eq_true rfl⟩) hS (fun q _ h => hA q (Nat.le_trans hS.1 h)) (fun q h => hA q (Nat.le_trans hS.1 h)) (fun u r9 t H1 locs ht hvm hw hB hz1 hk1 hS => ?_)
                  subst hB
                  have hP := va_Pnew hP hk1
                  clear hz1 hk1 hvm ht
                  generalize H1 = H at hP hS ⊢
                  obtain ⟨q_78, wq_78, heq_78⟩ := heM_Mixx (cy := cy) (I := I_73) (D := D) hM (f_get2_lt g_76)
                  refine va_castS hx hb hown (hts (.classLink RX7 59 "OverrunHouseModel$Mix") (List.mem_cons_of_mem _ (List.mem_append_left _ (List.mem_append_left _ (List.mem_append_left _ (List.mem_append_left _ (List.mem_of_getElem? (i := 2) rfl))))))) (hK.1 7 _ rfl).2 (wM.recv (C := RX6) (T := TX6) (N := 5) hP hK heq_78 rfl) dX7_heat_156 ?_
                  refine lv_iconst (v := 0) hx hb dX7_heat_159 (by decide) ?_
                  obtain ⟨q_79, wq_79, heq_79⟩ := heM_Mixx (cy := cy) (I := I_73) (D := D) hM (f_get2_lt g_76)
                  obtain ⟨I_80, eI_80, hf⟩ := nm_out hf
                  refine va_put (D := (dC, dI)) (ci := 7) (v := .int 0) (ty := .int) (C := RX6) (T := TX6) (N := 5) hx hb hts iX7_heat_RX6 tyX6 tyX6_ok nmX6 hown hK hP (hDD I_73 D) hS q_79 heq_79 rfl 3 (by decide) (hts (.fieldLink RX7 99 "OverrunHouseModel$Mix" "age" "I") (List.mem_cons_of_mem _ (List.mem_append_left _ (List.mem_append_left _ (List.mem_append_left _ (List.mem_append_left _ (List.mem_of_getElem? (i := 4) rfl))))))) (fun _ h9 => h9) rfl (by decide +kernel) rfl rfl (Nat.le_of_ble_eq_true rfl) dX7_heat_160 (fun H locs hP _ hS => ?_)
                  have hP : va_P (dC, dI) vwCl (iwM L a b ad cy I_80 D) H := by rw [eI_80]; exact hqI hM wq_79 ((cellM_Mixx ad cy a b (by have := hM.2; have := (f_get2_lt g_76); omega) _ _).trans rfl) hP
                  refine lv_aload_n hx hb dX7_heat_163 rfl (lv_at hl 1 rfl) ?_
                  obtain ⟨q_81, wq_81, heq_81⟩ := heM_0 (cy := cy) (I := I_80) (D := D) hM
                  refine va_get (D := (dC, dI)) (ci := 8) (v := .ref (ad 2)) (C := RX7) (T := TX7) (N := 9) hx hb hts iX7_heat_RX7 hown hK hP q_81 heq_81 rfl 2 (by decide) (hts (.fieldLink RX7 16 "OverrunHouseModel" "mixes" "Ljava/util/List;") (List.mem_cons_of_mem _ (List.mem_append_left _ (List.mem_append_left _ (List.mem_append_left _ (List.mem_append_left _ (List.mem_of_getElem? (i := 1) rfl))))))) (fun _ h9 => h9) rfl dX7_heat_164 ?_
                  refine lv_iload_n hx hb dX7_heat_167 rfl (lv_at hl 2 rfl) ?_
                  obtain ⟨r_82, g_83, hf⟩ := bd_out hf
                  obtain ⟨q_84, wq_84, heq_84⟩ := heM_2 (cy := cy) (I := I_80) (D := D) hM
                  refine va_callFr (va_runF (As := [.int p1]) (rest := []) (hK.1 0 _ rfl).2 ⟨hx, hb, hml, hown, hts⟩ (mt_get2 l dC dI L a b ad cy hM H.size I_80 D p1 r_82 g_83) (va_cwF 1 hts gX7_heat_Jx4a65c_get_915e3_f55Jx4a65c rfl rfl rfl hN.2.2.1 (by decide +kernel) ⟨Nat.le_of_ble_eq_true rfl, Nat.le_of_ble_eq_true rfl⟩) ⟨(wM.pre [.ref (ad 2), .int p1] hP hK hN).1, wM.recv (C := RJx4a65c) (T := TJx4a65c) (N := 3) hP hK heq_84 rfl, (wM.pre [.ref (ad 2), .int p1] hP hK hN).2⟩ rfl rfl hl.1 rfl (lv_room (Nat.le_of_ble_eq_true rfl)) dX7_heat_168 ⟨Nat.le_of_ble_eq_true rfl, Nat.le_of_ble_eq_true rfl⟩) hS (fun q _ h => hA q (Nat.le_trans hS.1 h)) (fun q h => hA q (Nat.le_trans hS.1 h)) (fun u r9 t H1 locs ht hvm hw hB hz1 hk1 hS => ?_)
                  subst hB
                  have hP := va_Pnew hP hk1
                  clear hz1 hk1 hvm ht
                  generalize H1 = H at hP hS ⊢
                  obtain ⟨q_85, wq_85, heq_85⟩ := heM_Mixx (cy := cy) (I := I_80) (D := D) hM (f_get2_lt g_83)
                  refine va_castS hx hb hown (hts (.classLink RX7 59 "OverrunHouseModel$Mix") (List.mem_cons_of_mem _ (List.mem_append_left _ (List.mem_append_left _ (List.mem_append_left _ (List.mem_append_left _ (List.mem_of_getElem? (i := 2) rfl))))))) (hK.1 7 _ rfl).2 (wM.recv (C := RX6) (T := TX6) (N := 5) hP hK heq_85 rfl) dX7_heat_173 ?_
                  obtain ⟨q_86, wq_86, heq_86⟩ := heM_Mixx (cy := cy) (I := I_80) (D := D) hM (f_get2_lt g_83)
                  refine va_get (D := (dC, dI)) (ci := 7) (v := .int (I_80 (20 + r_82) 2)) (C := RX6) (T := TX6) (N := 5) hx hb hts iX7_heat_RX6 hown hK hP q_86 heq_86 rfl 2 (by decide) (hts (.fieldLink RX7 95 "OverrunHouseModel$Mix" "isProved" "Z") (List.mem_cons_of_mem _ (List.mem_append_left _ (List.mem_append_left _ (List.mem_append_left _ (List.mem_append_left _ (List.mem_of_getElem? (i := 3) rfl))))))) (fun _ h9 => h9) rfl dX7_heat_176 ?_
                  obtain ⟨h_87, hf⟩ := ck_out hf
                  have hf := Option.some.inj hf
                  obtain ⟨q1, q2⟩ := Prod.mk.inj hf
                  obtain ⟨q2, q3⟩ := Prod.mk.inj q2
                  rw [q2, q3] at hP
                  exact W.zret (ty := .boolean) (v := (I_80 (20 + r_82) 2)) hx hb hr (isB_nar h_87) (fun t ht hW9 => ⟨⟨(I_80 (20 + r_82) 2), (), rfl, q1.symm, wM.of hP hK hN ht hW9⟩, hS.F ht⟩) hS.2.2 dX7_heat_179
                · have hf := it_f hf c_70
                  refine lv_iconst (v := 1) hx hb dX7_heat_137 (by decide) ?_
                  refine lv_goto (tgt := 142) hx hb dX7_heat_138 (by decide) ?_
                  refine lv_ior hx hb dX7_heat_142 ?_
                  obtain ⟨q_88, wq_88, heq_88⟩ := heM_Mixx (cy := cy) (I := I_2) (D := D) hM (f_get2_lt g_66)
                  obtain ⟨h_89, hf⟩ := ck_out hf
                  obtain ⟨I_90, eI_90, hf⟩ := nm_out hf
                  refine va_put (D := (dC, dI)) (ci := 7) (v := .int ((I_2 (20 + r_65) 2) ||| 1)) (ty := .boolean) (C := RX6) (T := TX6) (N := 5) hx hb hts iX7_heat_RX6 tyX6 tyX6_ok nmX6 hown hK hP (hDD I_2 D) hS q_88 heq_88 rfl 2 (by decide) (hts (.fieldLink RX7 95 "OverrunHouseModel$Mix" "isProved" "Z") (List.mem_cons_of_mem _ (List.mem_append_left _ (List.mem_append_left _ (List.mem_append_left _ (List.mem_append_left _ (List.mem_of_getElem? (i := 3) rfl))))))) (fun _ h9 => h9) rfl (by decide +kernel) (isB_nar h_89) (isB_fit h_89) (Nat.le_of_ble_eq_true rfl) dX7_heat_143 (fun H locs hP _ hS => ?_)
                  have hP : va_P (dC, dI) vwCl (iwM L a b ad cy I_90 D) H := by rw [eI_90]; exact hqI hM wq_88 ((cellM_Mixx ad cy a b (by have := hM.2; have := (f_get2_lt g_66); omega) _ _).trans rfl) hP
                  refine lv_aload_n hx hb dX7_heat_146 rfl (lv_at hl 1 rfl) ?_
                  obtain ⟨q_91, wq_91, heq_91⟩ := heM_0 (cy := cy) (I := I_90) (D := D) hM
                  refine va_get (D := (dC, dI)) (ci := 8) (v := .ref (ad 2)) (C := RX7) (T := TX7) (N := 9) hx hb hts iX7_heat_RX7 hown hK hP q_91 heq_91 rfl 2 (by decide) (hts (.fieldLink RX7 16 "OverrunHouseModel" "mixes" "Ljava/util/List;") (List.mem_cons_of_mem _ (List.mem_append_left _ (List.mem_append_left _ (List.mem_append_left _ (List.mem_append_left _ (List.mem_of_getElem? (i := 1) rfl))))))) (fun _ h9 => h9) rfl dX7_heat_147 ?_
                  refine lv_iload_n hx hb dX7_heat_150 rfl (lv_at hl 2 rfl) ?_
                  obtain ⟨r_92, g_93, hf⟩ := bd_out hf
                  obtain ⟨q_94, wq_94, heq_94⟩ := heM_2 (cy := cy) (I := I_90) (D := D) hM
                  refine va_callFr (va_runF (As := [.int p1]) (rest := []) (hK.1 0 _ rfl).2 ⟨hx, hb, hml, hown, hts⟩ (mt_get2 l dC dI L a b ad cy hM H.size I_90 D p1 r_92 g_93) (va_cwF 1 hts gX7_heat_Jx4a65c_get_915e3_f55Jx4a65c rfl rfl rfl hN.2.2.1 (by decide +kernel) ⟨Nat.le_of_ble_eq_true rfl, Nat.le_of_ble_eq_true rfl⟩) ⟨(wM.pre [.ref (ad 2), .int p1] hP hK hN).1, wM.recv (C := RJx4a65c) (T := TJx4a65c) (N := 3) hP hK heq_94 rfl, (wM.pre [.ref (ad 2), .int p1] hP hK hN).2⟩ rfl rfl hl.1 rfl (lv_room (Nat.le_of_ble_eq_true rfl)) dX7_heat_151 ⟨Nat.le_of_ble_eq_true rfl, Nat.le_of_ble_eq_true rfl⟩) hS (fun q _ h => hA q (Nat.le_trans hS.1 h)) (fun q h => hA q (Nat.le_trans hS.1 h)) (fun u r9 t H1 locs ht hvm hw hB hz1 hk1 hS => ?_)
                  subst hB
                  have hP := va_Pnew hP hk1
                  clear hz1 hk1 hvm ht
                  generalize H1 = H at hP hS ⊢
                  obtain ⟨q_95, wq_95, heq_95⟩ := heM_Mixx (cy := cy) (I := I_90) (D := D) hM (f_get2_lt g_93)
                  refine va_castS hx hb hown (hts (.classLink RX7 59 "OverrunHouseModel$Mix") (List.mem_cons_of_mem _ (List.mem_append_left _ (List.mem_append_left _ (List.mem_append_left _ (List.mem_append_left _ (List.mem_of_getElem? (i := 2) rfl))))))) (hK.1 7 _ rfl).2 (wM.recv (C := RX6) (T := TX6) (N := 5) hP hK heq_95 rfl) dX7_heat_156 ?_
                  refine lv_iconst (v := 0) hx hb dX7_heat_159 (by decide) ?_
                  obtain ⟨q_96, wq_96, heq_96⟩ := heM_Mixx (cy := cy) (I := I_90) (D := D) hM (f_get2_lt g_93)
                  obtain ⟨I_97, eI_97, hf⟩ := nm_out hf
                  refine va_put (D := (dC, dI)) (ci := 7) (v := .int 0) (ty := .int) (C := RX6) (T := TX6) (N := 5) hx hb hts iX7_heat_RX6 tyX6 tyX6_ok nmX6 hown hK hP (hDD I_90 D) hS q_96 heq_96 rfl 3 (by decide) (hts (.fieldLink RX7 99 "OverrunHouseModel$Mix" "age" "I") (List.mem_cons_of_mem _ (List.mem_append_left _ (List.mem_append_left _ (List.mem_append_left _ (List.mem_append_left _ (List.mem_of_getElem? (i := 4) rfl))))))) (fun _ h9 => h9) rfl (by decide +kernel) rfl rfl (Nat.le_of_ble_eq_true rfl) dX7_heat_160 (fun H locs hP _ hS => ?_)
                  have hP : va_P (dC, dI) vwCl (iwM L a b ad cy I_97 D) H := by rw [eI_97]; exact hqI hM wq_96 ((cellM_Mixx ad cy a b (by have := hM.2; have := (f_get2_lt g_93); omega) _ _).trans rfl) hP
                  refine lv_aload_n hx hb dX7_heat_163 rfl (lv_at hl 1 rfl) ?_
                  obtain ⟨q_98, wq_98, heq_98⟩ := heM_0 (cy := cy) (I := I_97) (D := D) hM
                  refine va_get (D := (dC, dI)) (ci := 8) (v := .ref (ad 2)) (C := RX7) (T := TX7) (N := 9) hx hb hts iX7_heat_RX7 hown hK hP q_98 heq_98 rfl 2 (by decide) (hts (.fieldLink RX7 16 "OverrunHouseModel" "mixes" "Ljava/util/List;") (List.mem_cons_of_mem _ (List.mem_append_left _ (List.mem_append_left _ (List.mem_append_left _ (List.mem_append_left _ (List.mem_of_getElem? (i := 1) rfl))))))) (fun _ h9 => h9) rfl dX7_heat_164 ?_
                  refine lv_iload_n hx hb dX7_heat_167 rfl (lv_at hl 2 rfl) ?_
                  obtain ⟨r_99, g_100, hf⟩ := bd_out hf
                  obtain ⟨q_101, wq_101, heq_101⟩ := heM_2 (cy := cy) (I := I_97) (D := D) hM
                  refine va_callFr (va_runF (As := [.int p1]) (rest := []) (hK.1 0 _ rfl).2 ⟨hx, hb, hml, hown, hts⟩ (mt_get2 l dC dI L a b ad cy hM H.size I_97 D p1 r_99 g_100) (va_cwF 1 hts gX7_heat_Jx4a65c_get_915e3_f55Jx4a65c rfl rfl rfl hN.2.2.1 (by decide +kernel) ⟨Nat.le_of_ble_eq_true rfl, Nat.le_of_ble_eq_true rfl⟩) ⟨(wM.pre [.ref (ad 2), .int p1] hP hK hN).1, wM.recv (C := RJx4a65c) (T := TJx4a65c) (N := 3) hP hK heq_101 rfl, (wM.pre [.ref (ad 2), .int p1] hP hK hN).2⟩ rfl rfl hl.1 rfl (lv_room (Nat.le_of_ble_eq_true rfl)) dX7_heat_168 ⟨Nat.le_of_ble_eq_true rfl, Nat.le_of_ble_eq_true rfl⟩) hS (fun q _ h => hA q (Nat.le_trans hS.1 h)) (fun q h => hA q (Nat.le_trans hS.1 h)) (fun u r9 t H1 locs ht hvm hw hB hz1 hk1 hS => ?_)
                  subst hB
                  have hP := va_Pnew hP hk1
                  clear hz1 hk1 hvm ht
                  generalize H1 = H at hP hS ⊢
                  obtain ⟨q_102, wq_102, heq_102⟩ := heM_Mixx (cy := cy) (I := I_97) (D := D) hM (f_get2_lt g_100)
                  refine va_castS hx hb hown (hts (.classLink RX7 59 "OverrunHouseModel$Mix") (List.mem_cons_of_mem _ (List.mem_append_left _ (List.mem_append_left _ (List.mem_append_left _ (List.mem_append_left _ (List.mem_of_getElem? (i := 2) rfl))))))) (hK.1 7 _ rfl).2 (wM.recv (C := RX6) (T := TX6) (N := 5) hP hK heq_102 rfl) dX7_heat_173 ?_
                  obtain ⟨q_103, wq_103, heq_103⟩ := heM_Mixx (cy := cy) (I := I_97) (D := D) hM (f_get2_lt g_100)
                  refine va_get (D := (dC, dI)) (ci := 7) (v := .int (I_97 (20 + r_99) 2)) (C := RX6) (T := TX6) (N := 5) hx hb hts iX7_heat_RX6 hown hK hP q_103 heq_103 rfl 2 (by decide) (hts (.fieldLink RX7 95 "OverrunHouseModel$Mix" "isProved" "Z") (List.mem_cons_of_mem _ (List.mem_append_left _ (List.mem_append_left _ (List.mem_append_left _ (List.mem_append_left _ (List.mem_of_getElem? (i := 3) rfl))))))) (fun _ h9 => h9) rfl dX7_heat_176 ?_
                  obtain ⟨h_104, hf⟩ := ck_out hf
                  have hf := Option.some.inj hf
                  obtain ⟨q1, q2⟩ := Prod.mk.inj hf
                  obtain ⟨q2, q3⟩ := Prod.mk.inj q2
                  rw [q2, q3] at hP
                  exact W.zret (ty := .boolean) (v := (I_97 (20 + r_99) 2)) hx hb hr (isB_nar h_104) (fun t ht hW9 => ⟨⟨(I_97 (20 + r_99) 2), (), rfl, q1.symm, wM.of hP hK hN ht hW9⟩, hS.F ht⟩) hS.2.2 dX7_heat_179
            · have hf := it_f hf c_21
              refine lv_sipush (v := 300) hx hb dX7_heat_93 (by decide) ?_
              refine lv_goto (tgt := 112) hx hb dX7_heat_96 (by decide) ?_
              refine lv_istore (lv' := [(4, .int 300), (0, .ref (ad 0)), (1, .int p1), (2, .int p2), (3, .int p3)]) hx hb dX7_heat_112 hl (by decide) rfl (fun ls hl => ?_)
              refine lv_aload_n hx hb dX7_heat_114 rfl (lv_at hl 1 rfl) ?_
              obtain ⟨q_105, wq_105, heq_105⟩ := heM_0 (cy := cy) (I := I_2) (D := D) hM
              refine va_get (D := (dC, dI)) (ci := 8) (v := .ref (ad 2)) (C := RX7) (T := TX7) (N := 9) hx hb hts iX7_heat_RX7 hown hK hP q_105 heq_105 rfl 2 (by decide) (hts (.fieldLink RX7 16 "OverrunHouseModel" "mixes" "Ljava/util/List;") (List.mem_cons_of_mem _ (List.mem_append_left _ (List.mem_append_left _ (List.mem_append_left _ (List.mem_append_left _ (List.mem_of_getElem? (i := 1) rfl))))))) (fun _ h9 => h9) rfl dX7_heat_115 ?_
              refine lv_iload_n hx hb dX7_heat_118 rfl (lv_at hl 2 rfl) ?_
              obtain ⟨r_106, g_107, hf⟩ := bd_out hf
              obtain ⟨q_108, wq_108, heq_108⟩ := heM_2 (cy := cy) (I := I_2) (D := D) hM
              refine va_callFr (va_runF (As := [.int p1]) (rest := []) (hK.1 0 _ rfl).2 ⟨hx, hb, hml, hown, hts⟩ (mt_get2 l dC dI L a b ad cy hM H.size I_2 D p1 r_106 g_107) (va_cwF 1 hts gX7_heat_Jx4a65c_get_915e3_f55Jx4a65c rfl rfl rfl hN.2.2.1 (by decide +kernel) ⟨Nat.le_of_ble_eq_true rfl, Nat.le_of_ble_eq_true rfl⟩) ⟨(wM.pre [.ref (ad 2), .int p1] hP hK hN).1, wM.recv (C := RJx4a65c) (T := TJx4a65c) (N := 3) hP hK heq_108 rfl, (wM.pre [.ref (ad 2), .int p1] hP hK hN).2⟩ rfl rfl hl.1 rfl (lv_room (Nat.le_of_ble_eq_true rfl)) dX7_heat_119 ⟨Nat.le_of_ble_eq_true rfl, Nat.le_of_ble_eq_true rfl⟩) hS (fun q _ h => hA q (Nat.le_trans hS.1 h)) (fun q h => hA q (Nat.le_trans hS.1 h)) (fun u r9 t H1 locs ht hvm hw hB hz1 hk1 hS => ?_)
              subst hB
              have hP := va_Pnew hP hk1
              clear hz1 hk1 hvm ht
              generalize H1 = H at hP hS ⊢
              obtain ⟨q_109, wq_109, heq_109⟩ := heM_Mixx (cy := cy) (I := I_2) (D := D) hM (f_get2_lt g_107)
              refine va_castS hx hb hown (hts (.classLink RX7 59 "OverrunHouseModel$Mix") (List.mem_cons_of_mem _ (List.mem_append_left _ (List.mem_append_left _ (List.mem_append_left _ (List.mem_append_left _ (List.mem_of_getElem? (i := 2) rfl))))))) (hK.1 7 _ rfl).2 (wM.recv (C := RX6) (T := TX6) (N := 5) hP hK heq_109 rfl) dX7_heat_124 ?_
              refine lv_dup hx hb dX7_heat_127 rfl ?_
              obtain ⟨q_110, wq_110, heq_110⟩ := heM_Mixx (cy := cy) (I := I_2) (D := D) hM (f_get2_lt g_107)
              refine va_get (D := (dC, dI)) (ci := 7) (v := .int (I_2 (20 + r_106) 2)) (C := RX6) (T := TX6) (N := 5) hx hb hts iX7_heat_RX6 hown hK hP q_110 heq_110 rfl 2 (by decide) (hts (.fieldLink RX7 95 "OverrunHouseModel$Mix" "isProved" "Z") (List.mem_cons_of_mem _ (List.mem_append_left _ (List.mem_append_left _ (List.mem_append_left _ (List.mem_append_left _ (List.mem_of_getElem? (i := 3) rfl))))))) (fun _ h9 => h9) rfl dX7_heat_128 ?_
              refine lv_iload_n hx hb dX7_heat_131 rfl (lv_at hl 4 rfl) ?_
              refine lv_iload hx hb dX7_heat_132 (lv_at hl 0 rfl) ?_
              refine lv_icmp_lt (tgt := 141) hx hb dX7_heat_134 (by decide) (fun c_111 => ?_) (fun c_111 => ?_)
              · have hf := it_t hf c_111
                refine lv_iconst (v := 0) hx hb dX7_heat_141 (by decide) ?_
                refine lv_ior hx hb dX7_heat_142 ?_
                obtain ⟨q_112, wq_112, heq_112⟩ := heM_Mixx (cy := cy) (I := I_2) (D := D) hM (f_get2_lt g_107)
                obtain ⟨h_113, hf⟩ := ck_out hf
                obtain ⟨I_114, eI_114, hf⟩ := nm_out hf
                refine va_put (D := (dC, dI)) (ci := 7) (v := .int ((I_2 (20 + r_106) 2) ||| 0)) (ty := .boolean) (C := RX6) (T := TX6) (N := 5) hx hb hts iX7_heat_RX6 tyX6 tyX6_ok nmX6 hown hK hP (hDD I_2 D) hS q_112 heq_112 rfl 2 (by decide) (hts (.fieldLink RX7 95 "OverrunHouseModel$Mix" "isProved" "Z") (List.mem_cons_of_mem _ (List.mem_append_left _ (List.mem_append_left _ (List.mem_append_left _ (List.mem_append_left _ (List.mem_of_getElem? (i := 3) rfl))))))) (fun _ h9 => h9) rfl (by decide +kernel) (isB_nar h_113) (isB_fit h_113) (Nat.le_of_ble_eq_true rfl) dX7_heat_143 (fun H locs hP _ hS => ?_)
                have hP : va_P (dC, dI) vwCl (iwM L a b ad cy I_114 D) H := by rw [eI_114]; exact hqI hM wq_112 ((cellM_Mixx ad cy a b (by have := hM.2; have := (f_get2_lt g_107); omega) _ _).trans rfl) hP
                refine lv_aload_n hx hb dX7_heat_146 rfl (lv_at hl 1 rfl) ?_
                obtain ⟨q_115, wq_115, heq_115⟩ := heM_0 (cy := cy) (I := I_114) (D := D) hM
                refine va_get (D := (dC, dI)) (ci := 8) (v := .ref (ad 2)) (C := RX7) (T := TX7) (N := 9) hx hb hts iX7_heat_RX7 hown hK hP q_115 heq_115 rfl 2 (by decide) (hts (.fieldLink RX7 16 "OverrunHouseModel" "mixes" "Ljava/util/List;") (List.mem_cons_of_mem _ (List.mem_append_left _ (List.mem_append_left _ (List.mem_append_left _ (List.mem_append_left _ (List.mem_of_getElem? (i := 1) rfl))))))) (fun _ h9 => h9) rfl dX7_heat_147 ?_
                refine lv_iload_n hx hb dX7_heat_150 rfl (lv_at hl 2 rfl) ?_
                obtain ⟨r_116, g_117, hf⟩ := bd_out hf
                obtain ⟨q_118, wq_118, heq_118⟩ := heM_2 (cy := cy) (I := I_114) (D := D) hM
                refine va_callFr (va_runF (As := [.int p1]) (rest := []) (hK.1 0 _ rfl).2 ⟨hx, hb, hml, hown, hts⟩ (mt_get2 l dC dI L a b ad cy hM H.size I_114 D p1 r_116 g_117) (va_cwF 1 hts gX7_heat_Jx4a65c_get_915e3_f55Jx4a65c rfl rfl rfl hN.2.2.1 (by decide +kernel) ⟨Nat.le_of_ble_eq_true rfl, Nat.le_of_ble_eq_true rfl⟩) ⟨(wM.pre [.ref (ad 2), .int p1] hP hK hN).1, wM.recv (C := RJx4a65c) (T := TJx4a65c) (N := 3) hP hK heq_118 rfl, (wM.pre [.ref (ad 2), .int p1] hP hK hN).2⟩ rfl rfl hl.1 rfl (lv_room (Nat.le_of_ble_eq_true rfl)) dX7_heat_151 ⟨Nat.le_of_ble_eq_true rfl, Nat.le_of_ble_eq_true rfl⟩) hS (fun q _ h => hA q (Nat.le_trans hS.1 h)) (fun q h => hA q (Nat.le_trans hS.1 h)) (fun u r9 t H1 locs ht hvm hw hB hz1 hk1 hS => ?_)
                subst hB
                have hP := va_Pnew hP hk1
                clear hz1 hk1 hvm ht
                generalize H1 = H at hP hS ⊢
                obtain ⟨q_119, wq_119, heq_119⟩ := heM_Mixx (cy := cy) (I := I_114) (D := D) hM (f_get2_lt g_117)
                refine va_castS hx hb hown (hts (.classLink RX7 59 "OverrunHouseModel$Mix") (List.mem_cons_of_mem _ (List.mem_append_left _ (List.mem_append_left _ (List.mem_append_left _ (List.mem_append_left _ (List.mem_of_getElem? (i := 2) rfl))))))) (hK.1 7 _ rfl).2 (wM.recv (C := RX6) (T := TX6) (N := 5) hP hK heq_119 rfl) dX7_heat_156 ?_
                refine lv_iconst (v := 0) hx hb dX7_heat_159 (by decide) ?_
                obtain ⟨q_120, wq_120, heq_120⟩ := heM_Mixx (cy := cy) (I := I_114) (D := D) hM (f_get2_lt g_117)
                obtain ⟨I_121, eI_121, hf⟩ := nm_out hf
                refine va_put (D := (dC, dI)) (ci := 7) (v := .int 0) (ty := .int) (C := RX6) (T := TX6) (N := 5) hx hb hts iX7_heat_RX6 tyX6 tyX6_ok nmX6 hown hK hP (hDD I_114 D) hS q_120 heq_120 rfl 3 (by decide) (hts (.fieldLink RX7 99 "OverrunHouseModel$Mix" "age" "I") (List.mem_cons_of_mem _ (List.mem_append_left _ (List.mem_append_left _ (List.mem_append_left _ (List.mem_append_left _ (List.mem_of_getElem? (i := 4) rfl))))))) (fun _ h9 => h9) rfl (by decide +kernel) rfl rfl (Nat.le_of_ble_eq_true rfl) dX7_heat_160 (fun H locs hP _ hS => ?_)
                have hP : va_P (dC, dI) vwCl (iwM L a b ad cy I_121 D) H := by rw [eI_121]; exact hqI hM wq_120 ((cellM_Mixx ad cy a b (by have := hM.2; have := (f_get2_lt g_117); omega) _ _).trans rfl) hP
                refine lv_aload_n hx hb dX7_heat_163 rfl (lv_at hl 1 rfl) ?_
                obtain ⟨q_122, wq_122, heq_122⟩ := heM_0 (cy := cy) (I := I_121) (D := D) hM
                refine va_get (D := (dC, dI)) (ci := 8) (v := .ref (ad 2)) (C := RX7) (T := TX7) (N := 9) hx hb hts iX7_heat_RX7 hown hK hP q_122 heq_122 rfl 2 (by decide) (hts (.fieldLink RX7 16 "OverrunHouseModel" "mixes" "Ljava/util/List;") (List.mem_cons_of_mem _ (List.mem_append_left _ (List.mem_append_left _ (List.mem_append_left _ (List.mem_append_left _ (List.mem_of_getElem? (i := 1) rfl))))))) (fun _ h9 => h9) rfl dX7_heat_164 ?_
                refine lv_iload_n hx hb dX7_heat_167 rfl (lv_at hl 2 rfl) ?_
                obtain ⟨r_123, g_124, hf⟩ := bd_out hf
                obtain ⟨q_125, wq_125, heq_125⟩ := heM_2 (cy := cy) (I := I_121) (D := D) hM
                refine va_callFr (va_runF (As := [.int p1]) (rest := []) (hK.1 0 _ rfl).2 ⟨hx, hb, hml, hown, hts⟩ (mt_get2 l dC dI L a b ad cy hM H.size I_121 D p1 r_123 g_124) (va_cwF 1 hts gX7_heat_Jx4a65c_get_915e3_f55Jx4a65c rfl rfl rfl hN.2.2.1 (by decide +kernel) ⟨Nat.le_of_ble_eq_true rfl, Nat.le_of_ble_eq_true rfl⟩) ⟨(wM.pre [.ref (ad 2), .int p1] hP hK hN).1, wM.recv (C := RJx4a65c) (T := TJx4a65c) (N := 3) hP hK heq_125 rfl, (wM.pre [.ref (ad 2), .int p1] hP hK hN).2⟩ rfl rfl hl.1 rfl (lv_room (Nat.le_of_ble_eq_true rfl)) dX7_heat_168 ⟨Nat.le_of_ble_eq_true rfl, Nat.le_of_ble_eq_true rfl⟩) hS (fun q _ h => hA q (Nat.le_trans hS.1 h)) (fun q h => hA q (Nat.le_trans hS.1 h)) (fun u r9 t H1 locs ht hvm hw hB hz1 hk1 hS => ?_)
                subst hB
                have hP := va_Pnew hP hk1
                clear hz1 hk1 hvm ht
                generalize H1 = H at hP hS ⊢
                obtain ⟨q_126, wq_126, heq_126⟩ := heM_Mixx (cy := cy) (I := I_121) (D := D) hM (f_get2_lt g_124)
                refine va_castS hx hb hown (hts (.classLink RX7 59 "OverrunHouseModel$Mix") (List.mem_cons_of_mem _ (List.mem_append_left _ (List.mem_append_left _ (List.mem_append_left _ (List.mem_append_left _ (List.mem_of_getElem? (i := 2) rfl))))))) (hK.1 7 _ rfl).2 (wM.recv (C := RX6) (T := TX6) (N := 5) hP hK heq_126 rfl) dX7_heat_173 ?_
                obtain ⟨q_127, wq_127, heq_127⟩ := heM_Mixx (cy := cy) (I := I_121) (D := D) hM (f_get2_lt g_124)
                refine va_get (D := (dC, dI)) (ci := 7) (v := .int (I_121 (20 + r_123) 2)) (C := RX6) (T := TX6) (N := 5) hx hb hts iX7_heat_RX6 hown hK hP q_127 heq_127 rfl 2 (by decide) (hts (.fieldLink RX7 95 "OverrunHouseModel$Mix" "isProved" "Z") (List.mem_cons_of_mem _ (List.mem_append_left _ (List.mem_append_left _ (List.mem_append_left _ (List.mem_append_left _ (List.mem_of_getElem? (i := 3) rfl))))))) (fun _ h9 => h9) rfl dX7_heat_176 ?_
                obtain ⟨h_128, hf⟩ := ck_out hf
                have hf := Option.some.inj hf
                obtain ⟨q1, q2⟩ := Prod.mk.inj hf
                obtain ⟨q2, q3⟩ := Prod.mk.inj q2
                rw [q2, q3] at hP
                exact W.zret (ty := .boolean) (v := (I_121 (20 + r_123) 2)) hx hb hr (isB_nar h_128) (fun t ht hW9 => ⟨⟨(I_121 (20 + r_123) 2), (), rfl, q1.symm, wM.of hP hK hN ht hW9⟩, hS.F ht⟩) hS.2.2 dX7_heat_179
              · have hf := it_f hf c_111
                refine lv_iconst (v := 1) hx hb dX7_heat_137 (by decide) ?_
                refine lv_goto (tgt := 142) hx hb dX7_heat_138 (by decide) ?_
                refine lv_ior hx hb dX7_heat_142 ?_
                obtain ⟨q_129, wq_129, heq_129⟩ := heM_Mixx (cy := cy) (I := I_2) (D := D) hM (f_get2_lt g_107)
                obtain ⟨h_130, hf⟩ := ck_out hf
                obtain ⟨I_131, eI_131, hf⟩ := nm_out hf
                refine va_put (D := (dC, dI)) (ci := 7) (v := .int ((I_2 (20 + r_106) 2) ||| 1)) (ty := .boolean) (C := RX6) (T := TX6) (N := 5) hx hb hts iX7_heat_RX6 tyX6 tyX6_ok nmX6 hown hK hP (hDD I_2 D) hS q_129 heq_129 rfl 2 (by decide) (hts (.fieldLink RX7 95 "OverrunHouseModel$Mix" "isProved" "Z") (List.mem_cons_of_mem _ (List.mem_append_left _ (List.mem_append_left _ (List.mem_append_left _ (List.mem_append_left _ (List.mem_of_getElem? (i := 3) rfl))))))) (fun _ h9 => h9) rfl (by decide +kernel) (isB_nar h_130) (isB_fit h_130) (Nat.le_of_ble_eq_true rfl) dX7_heat_143 (fun H locs hP _ hS => ?_)
                have hP : va_P (dC, dI) vwCl (iwM L a b ad cy I_131 D) H := by rw [eI_131]; exact hqI hM wq_129 ((cellM_Mixx ad cy a b (by have := hM.2; have := (f_get2_lt g_107); omega) _ _).trans rfl) hP
                refine lv_aload_n hx hb dX7_heat_146 rfl (lv_at hl 1 rfl) ?_
                obtain ⟨q_132, wq_132, heq_132⟩ := heM_0 (cy := cy) (I := I_131) (D := D) hM
                refine va_get (D := (dC, dI)) (ci := 8) (v := .ref (ad 2)) (C := RX7) (T := TX7) (N := 9) hx hb hts iX7_heat_RX7 hown hK hP q_132 heq_132 rfl 2 (by decide) (hts (.fieldLink RX7 16 "OverrunHouseModel" "mixes" "Ljava/util/List;") (List.mem_cons_of_mem _ (List.mem_append_left _ (List.mem_append_left _ (List.mem_append_left _ (List.mem_append_left _ (List.mem_of_getElem? (i := 1) rfl))))))) (fun _ h9 => h9) rfl dX7_heat_147 ?_
                refine lv_iload_n hx hb dX7_heat_150 rfl (lv_at hl 2 rfl) ?_
                obtain ⟨r_133, g_134, hf⟩ := bd_out hf
                obtain ⟨q_135, wq_135, heq_135⟩ := heM_2 (cy := cy) (I := I_131) (D := D) hM
                refine va_callFr (va_runF (As := [.int p1]) (rest := []) (hK.1 0 _ rfl).2 ⟨hx, hb, hml, hown, hts⟩ (mt_get2 l dC dI L a b ad cy hM H.size I_131 D p1 r_133 g_134) (va_cwF 1 hts gX7_heat_Jx4a65c_get_915e3_f55Jx4a65c rfl rfl rfl hN.2.2.1 (by decide +kernel) ⟨Nat.le_of_ble_eq_true rfl, Nat.le_of_ble_eq_true rfl⟩) ⟨(wM.pre [.ref (ad 2), .int p1] hP hK hN).1, wM.recv (C := RJx4a65c) (T := TJx4a65c) (N := 3) hP hK heq_135 rfl, (wM.pre [.ref (ad 2), .int p1] hP hK hN).2⟩ rfl rfl hl.1 rfl (lv_room (Nat.le_of_ble_eq_true rfl)) dX7_heat_151 ⟨Nat.le_of_ble_eq_true rfl, Nat.le_of_ble_eq_true rfl⟩) hS (fun q _ h => hA q (Nat.le_trans hS.1 h)) (fun q h => hA q (Nat.le_trans hS.1 h)) (fun u r9 t H1 locs ht hvm hw hB hz1 hk1 hS => ?_)
                subst hB
                have hP := va_Pnew hP hk1
                clear hz1 hk1 hvm ht
                generalize H1 = H at hP hS ⊢
                obtain ⟨q_136, wq_136, heq_136⟩ := heM_Mixx (cy := cy) (I := I_131) (D := D) hM (f_get2_lt g_134)
                refine va_castS hx hb hown (hts (.classLink RX7 59 "OverrunHouseModel$Mix") (List.mem_cons_of_mem _ (List.mem_append_left _ (List.mem_append_left _ (List.mem_append_left _ (List.mem_append_left _ (List.mem_of_getElem? (i := 2) rfl))))))) (hK.1 7 _ rfl).2 (wM.recv (C := RX6) (T := TX6) (N := 5) hP hK heq_136 rfl) dX7_heat_156 ?_
                refine lv_iconst (v := 0) hx hb dX7_heat_159 (by decide) ?_
                obtain ⟨q_137, wq_137, heq_137⟩ := heM_Mixx (cy := cy) (I := I_131) (D := D) hM (f_get2_lt g_134)
                obtain ⟨I_138, eI_138, hf⟩ := nm_out hf
                refine va_put (D := (dC, dI)) (ci := 7) (v := .int 0) (ty := .int) (C := RX6) (T := TX6) (N := 5) hx hb hts iX7_heat_RX6 tyX6 tyX6_ok nmX6 hown hK hP (hDD I_131 D) hS q_137 heq_137 rfl 3 (by decide) (hts (.fieldLink RX7 99 "OverrunHouseModel$Mix" "age" "I") (List.mem_cons_of_mem _ (List.mem_append_left _ (List.mem_append_left _ (List.mem_append_left _ (List.mem_append_left _ (List.mem_of_getElem? (i := 4) rfl))))))) (fun _ h9 => h9) rfl (by decide +kernel) rfl rfl (Nat.le_of_ble_eq_true rfl) dX7_heat_160 (fun H locs hP _ hS => ?_)
                have hP : va_P (dC, dI) vwCl (iwM L a b ad cy I_138 D) H := by rw [eI_138]; exact hqI hM wq_137 ((cellM_Mixx ad cy a b (by have := hM.2; have := (f_get2_lt g_134); omega) _ _).trans rfl) hP
                refine lv_aload_n hx hb dX7_heat_163 rfl (lv_at hl 1 rfl) ?_
                obtain ⟨q_139, wq_139, heq_139⟩ := heM_0 (cy := cy) (I := I_138) (D := D) hM
                refine va_get (D := (dC, dI)) (ci := 8) (v := .ref (ad 2)) (C := RX7) (T := TX7) (N := 9) hx hb hts iX7_heat_RX7 hown hK hP q_139 heq_139 rfl 2 (by decide) (hts (.fieldLink RX7 16 "OverrunHouseModel" "mixes" "Ljava/util/List;") (List.mem_cons_of_mem _ (List.mem_append_left _ (List.mem_append_left _ (List.mem_append_left _ (List.mem_append_left _ (List.mem_of_getElem? (i := 1) rfl))))))) (fun _ h9 => h9) rfl dX7_heat_164 ?_
                refine lv_iload_n hx hb dX7_heat_167 rfl (lv_at hl 2 rfl) ?_
                obtain ⟨r_140, g_141, hf⟩ := bd_out hf
                obtain ⟨q_142, wq_142, heq_142⟩ := heM_2 (cy := cy) (I := I_138) (D := D) hM
                refine va_callFr (va_runF (As := [.int p1]) (rest := []) (hK.1 0 _ rfl).2 ⟨hx, hb, hml, hown, hts⟩ (mt_get2 l dC dI L a b ad cy hM H.size I_138 D p1 r_140 g_141) (va_cwF 1 hts gX7_heat_Jx4a65c_get_915e3_f55Jx4a65c rfl rfl rfl hN.2.2.1 (by decide +kernel) ⟨Nat.le_of_ble_eq_true rfl, Nat.le_of_ble_eq_true rfl⟩) ⟨(wM.pre [.ref (ad 2), .int p1] hP hK hN).1, wM.recv (C := RJx4a65c) (T := TJx4a65c) (N := 3) hP hK heq_142 rfl, (wM.pre [.ref (ad 2), .int p1] hP hK hN).2⟩ rfl rfl hl.1 rfl (lv_room (Nat.le_of_ble_eq_true rfl)) dX7_heat_168 ⟨Nat.le_of_ble_eq_true rfl, Nat.le_of_ble_eq_true rfl⟩) hS (fun q _ h => hA q (Nat.le_trans hS.1 h)) (fun q h => hA q (Nat.le_trans hS.1 h)) (fun u r9 t H1 locs ht hvm hw hB hz1 hk1 hS => ?_)
                subst hB
                have hP := va_Pnew hP hk1
                clear hz1 hk1 hvm ht
                generalize H1 = H at hP hS ⊢
                obtain ⟨q_143, wq_143, heq_143⟩ := heM_Mixx (cy := cy) (I := I_138) (D := D) hM (f_get2_lt g_141)
                refine va_castS hx hb hown (hts (.classLink RX7 59 "OverrunHouseModel$Mix") (List.mem_cons_of_mem _ (List.mem_append_left _ (List.mem_append_left _ (List.mem_append_left _ (List.mem_append_left _ (List.mem_of_getElem? (i := 2) rfl))))))) (hK.1 7 _ rfl).2 (wM.recv (C := RX6) (T := TX6) (N := 5) hP hK heq_143 rfl) dX7_heat_173 ?_
                obtain ⟨q_144, wq_144, heq_144⟩ := heM_Mixx (cy := cy) (I := I_138) (D := D) hM (f_get2_lt g_141)
                refine va_get (D := (dC, dI)) (ci := 7) (v := .int (I_138 (20 + r_140) 2)) (C := RX6) (T := TX6) (N := 5) hx hb hts iX7_heat_RX6 hown hK hP q_144 heq_144 rfl 2 (by decide) (hts (.fieldLink RX7 95 "OverrunHouseModel$Mix" "isProved" "Z") (List.mem_cons_of_mem _ (List.mem_append_left _ (List.mem_append_left _ (List.mem_append_left _ (List.mem_append_left _ (List.mem_of_getElem? (i := 3) rfl))))))) (fun _ h9 => h9) rfl dX7_heat_176 ?_
                obtain ⟨h_145, hf⟩ := ck_out hf
                have hf := Option.some.inj hf
                obtain ⟨q1, q2⟩ := Prod.mk.inj hf
                obtain ⟨q2, q3⟩ := Prod.mk.inj q2
                rw [q2, q3] at hP
                exact W.zret (ty := .boolean) (v := (I_138 (20 + r_140) 2)) hx hb hr (isB_nar h_145) (fun t ht hW9 => ⟨⟨(I_138 (20 + r_140) 2), (), rfl, q1.symm, wM.of hP hK hN ht hW9⟩, hS.F ht⟩) hS.2.2 dX7_heat_179
          · have hf := it_f hf c_20
            refine lv_sipush (v := 1800) hx hb dX7_heat_81 (by decide) ?_
            refine lv_goto (tgt := 112) hx hb dX7_heat_84 (by decide) ?_
            refine lv_istore (lv' := [(4, .int 1800), (0, .ref (ad 0)), (1, .int p1), (2, .int p2), (3, .int p3)]) hx hb dX7_heat_112 hl (by decide) rfl (fun ls hl => ?_)
            refine lv_aload_n hx hb dX7_heat_114 rfl (lv_at hl 1 rfl) ?_
            obtain ⟨q_146, wq_146, heq_146⟩ := heM_0 (cy := cy) (I := I_2) (D := D) hM
            refine va_get (D := (dC, dI)) (ci := 8) (v := .ref (ad 2)) (C := RX7) (T := TX7) (N := 9) hx hb hts iX7_heat_RX7 hown hK hP q_146 heq_146 rfl 2 (by decide) (hts (.fieldLink RX7 16 "OverrunHouseModel" "mixes" "Ljava/util/List;") (List.mem_cons_of_mem _ (List.mem_append_left _ (List.mem_append_left _ (List.mem_append_left _ (List.mem_append_left _ (List.mem_of_getElem? (i := 1) rfl))))))) (fun _ h9 => h9) rfl dX7_heat_115 ?_
            refine lv_iload_n hx hb dX7_heat_118 rfl (lv_at hl 2 rfl) ?_
            obtain ⟨r_147, g_148, hf⟩ := bd_out hf
            obtain ⟨q_149, wq_149, heq_149⟩ := heM_2 (cy := cy) (I := I_2) (D := D) hM
            refine va_callFr (va_runF (As := [.int p1]) (rest := []) (hK.1 0 _ rfl).2 ⟨hx, hb, hml, hown, hts⟩ (mt_get2 l dC dI L a b ad cy hM H.size I_2 D p1 r_147 g_148) (va_cwF 1 hts gX7_heat_Jx4a65c_get_915e3_f55Jx4a65c rfl rfl rfl hN.2.2.1 (by decide +kernel) ⟨Nat.le_of_ble_eq_true rfl, Nat.le_of_ble_eq_true rfl⟩) ⟨(wM.pre [.ref (ad 2), .int p1] hP hK hN).1, wM.recv (C := RJx4a65c) (T := TJx4a65c) (N := 3) hP hK heq_149 rfl, (wM.pre [.ref (ad 2), .int p1] hP hK hN).2⟩ rfl rfl hl.1 rfl (lv_room (Nat.le_of_ble_eq_true rfl)) dX7_heat_119 ⟨Nat.le_of_ble_eq_true rfl, Nat.le_of_ble_eq_true rfl⟩) hS (fun q _ h => hA q (Nat.le_trans hS.1 h)) (fun q h => hA q (Nat.le_trans hS.1 h)) (fun u r9 t H1 locs ht hvm hw hB hz1 hk1 hS => ?_)
            subst hB
            have hP := va_Pnew hP hk1
            clear hz1 hk1 hvm ht
            generalize H1 = H at hP hS ⊢
            obtain ⟨q_150, wq_150, heq_150⟩ := heM_Mixx (cy := cy) (I := I_2) (D := D) hM (f_get2_lt g_148)
            refine va_castS hx hb hown (hts (.classLink RX7 59 "OverrunHouseModel$Mix") (List.mem_cons_of_mem _ (List.mem_append_left _ (List.mem_append_left _ (List.mem_append_left _ (List.mem_append_left _ (List.mem_of_getElem? (i := 2) rfl))))))) (hK.1 7 _ rfl).2 (wM.recv (C := RX6) (T := TX6) (N := 5) hP hK heq_150 rfl) dX7_heat_124 ?_
            refine lv_dup hx hb dX7_heat_127 rfl ?_
            obtain ⟨q_151, wq_151, heq_151⟩ := heM_Mixx (cy := cy) (I := I_2) (D := D) hM (f_get2_lt g_148)
            refine va_get (D := (dC, dI)) (ci := 7) (v := .int (I_2 (20 + r_147) 2)) (C := RX6) (T := TX6) (N := 5) hx hb hts iX7_heat_RX6 hown hK hP q_151 heq_151 rfl 2 (by decide) (hts (.fieldLink RX7 95 "OverrunHouseModel$Mix" "isProved" "Z") (List.mem_cons_of_mem _ (List.mem_append_left _ (List.mem_append_left _ (List.mem_append_left _ (List.mem_append_left _ (List.mem_of_getElem? (i := 3) rfl))))))) (fun _ h9 => h9) rfl dX7_heat_128 ?_
            refine lv_iload_n hx hb dX7_heat_131 rfl (lv_at hl 4 rfl) ?_
            refine lv_iload hx hb dX7_heat_132 (lv_at hl 0 rfl) ?_
            refine lv_icmp_lt (tgt := 141) hx hb dX7_heat_134 (by decide) (fun c_152 => ?_) (fun c_152 => ?_)
            · have hf := it_t hf c_152
              refine lv_iconst (v := 0) hx hb dX7_heat_141 (by decide) ?_
              refine lv_ior hx hb dX7_heat_142 ?_
              obtain ⟨q_153, wq_153, heq_153⟩ := heM_Mixx (cy := cy) (I := I_2) (D := D) hM (f_get2_lt g_148)
              obtain ⟨h_154, hf⟩ := ck_out hf
              obtain ⟨I_155, eI_155, hf⟩ := nm_out hf
              refine va_put (D := (dC, dI)) (ci := 7) (v := .int ((I_2 (20 + r_147) 2) ||| 0)) (ty := .boolean) (C := RX6) (T := TX6) (N := 5) hx hb hts iX7_heat_RX6 tyX6 tyX6_ok nmX6 hown hK hP (hDD I_2 D) hS q_153 heq_153 rfl 2 (by decide) (hts (.fieldLink RX7 95 "OverrunHouseModel$Mix" "isProved" "Z") (List.mem_cons_of_mem _ (List.mem_append_left _ (List.mem_append_left _ (List.mem_append_left _ (List.mem_append_left _ (List.mem_of_getElem? (i := 3) rfl))))))) (fun _ h9 => h9) rfl (by decide +kernel) (isB_nar h_154) (isB_fit h_154) (Nat.le_of_ble_eq_true rfl) dX7_heat_143 (fun H locs hP _ hS => ?_)
              have hP : va_P (dC, dI) vwCl (iwM L a b ad cy I_155 D) H := by rw [eI_155]; exact hqI hM wq_153 ((cellM_Mixx ad cy a b (by have := hM.2; have := (f_get2_lt g_148); omega) _ _).trans rfl) hP
              refine lv_aload_n hx hb dX7_heat_146 rfl (lv_at hl 1 rfl) ?_
              obtain ⟨q_156, wq_156, heq_156⟩ := heM_0 (cy := cy) (I := I_155) (D := D) hM
              refine va_get (D := (dC, dI)) (ci := 8) (v := .ref (ad 2)) (C := RX7) (T := TX7) (N := 9) hx hb hts iX7_heat_RX7 hown hK hP q_156 heq_156 rfl 2 (by decide) (hts (.fieldLink RX7 16 "OverrunHouseModel" "mixes" "Ljava/util/List;") (List.mem_cons_of_mem _ (List.mem_append_left _ (List.mem_append_left _ (List.mem_append_left _ (List.mem_append_left _ (List.mem_of_getElem? (i := 1) rfl))))))) (fun _ h9 => h9) rfl dX7_heat_147 ?_
              refine lv_iload_n hx hb dX7_heat_150 rfl (lv_at hl 2 rfl) ?_
              obtain ⟨r_157, g_158, hf⟩ := bd_out hf
              obtain ⟨q_159, wq_159, heq_159⟩ := heM_2 (cy := cy) (I := I_155) (D := D) hM
              refine va_callFr (va_runF (As := [.int p1]) (rest := []) (hK.1 0 _ rfl).2 ⟨hx, hb, hml, hown, hts⟩ (mt_get2 l dC dI L a b ad cy hM H.size I_155 D p1 r_157 g_158) (va_cwF 1 hts gX7_heat_Jx4a65c_get_915e3_f55Jx4a65c rfl rfl rfl hN.2.2.1 (by decide +kernel) ⟨Nat.le_of_ble_eq_true rfl, Nat.le_of_ble_eq_true rfl⟩) ⟨(wM.pre [.ref (ad 2), .int p1] hP hK hN).1, wM.recv (C := RJx4a65c) (T := TJx4a65c) (N := 3) hP hK heq_159 rfl, (wM.pre [.ref (ad 2), .int p1] hP hK hN).2⟩ rfl rfl hl.1 rfl (lv_room (Nat.le_of_ble_eq_true rfl)) dX7_heat_151 ⟨Nat.le_of_ble_eq_true rfl, Nat.le_of_ble_eq_true rfl⟩) hS (fun q _ h => hA q (Nat.le_trans hS.1 h)) (fun q h => hA q (Nat.le_trans hS.1 h)) (fun u r9 t H1 locs ht hvm hw hB hz1 hk1 hS => ?_)
              subst hB
              have hP := va_Pnew hP hk1
              clear hz1 hk1 hvm ht
              generalize H1 = H at hP hS ⊢
              obtain ⟨q_160, wq_160, heq_160⟩ := heM_Mixx (cy := cy) (I := I_155) (D := D) hM (f_get2_lt g_158)
              refine va_castS hx hb hown (hts (.classLink RX7 59 "OverrunHouseModel$Mix") (List.mem_cons_of_mem _ (List.mem_append_left _ (List.mem_append_left _ (List.mem_append_left _ (List.mem_append_left _ (List.mem_of_getElem? (i := 2) rfl))))))) (hK.1 7 _ rfl).2 (wM.recv (C := RX6) (T := TX6) (N := 5) hP hK heq_160 rfl) dX7_heat_156 ?_
              refine lv_iconst (v := 0) hx hb dX7_heat_159 (by decide) ?_
              obtain ⟨q_161, wq_161, heq_161⟩ := heM_Mixx (cy := cy) (I := I_155) (D := D) hM (f_get2_lt g_158)
              obtain ⟨I_162, eI_162, hf⟩ := nm_out hf
              refine va_put (D := (dC, dI)) (ci := 7) (v := .int 0) (ty := .int) (C := RX6) (T := TX6) (N := 5) hx hb hts iX7_heat_RX6 tyX6 tyX6_ok nmX6 hown hK hP (hDD I_155 D) hS q_161 heq_161 rfl 3 (by decide) (hts (.fieldLink RX7 99 "OverrunHouseModel$Mix" "age" "I") (List.mem_cons_of_mem _ (List.mem_append_left _ (List.mem_append_left _ (List.mem_append_left _ (List.mem_append_left _ (List.mem_of_getElem? (i := 4) rfl))))))) (fun _ h9 => h9) rfl (by decide +kernel) rfl rfl (Nat.le_of_ble_eq_true rfl) dX7_heat_160 (fun H locs hP _ hS => ?_)
              have hP : va_P (dC, dI) vwCl (iwM L a b ad cy I_162 D) H := by rw [eI_162]; exact hqI hM wq_161 ((cellM_Mixx ad cy a b (by have := hM.2; have := (f_get2_lt g_158); omega) _ _).trans rfl) hP
              refine lv_aload_n hx hb dX7_heat_163 rfl (lv_at hl 1 rfl) ?_
              obtain ⟨q_163, wq_163, heq_163⟩ := heM_0 (cy := cy) (I := I_162) (D := D) hM
              refine va_get (D := (dC, dI)) (ci := 8) (v := .ref (ad 2)) (C := RX7) (T := TX7) (N := 9) hx hb hts iX7_heat_RX7 hown hK hP q_163 heq_163 rfl 2 (by decide) (hts (.fieldLink RX7 16 "OverrunHouseModel" "mixes" "Ljava/util/List;") (List.mem_cons_of_mem _ (List.mem_append_left _ (List.mem_append_left _ (List.mem_append_left _ (List.mem_append_left _ (List.mem_of_getElem? (i := 1) rfl))))))) (fun _ h9 => h9) rfl dX7_heat_164 ?_
              refine lv_iload_n hx hb dX7_heat_167 rfl (lv_at hl 2 rfl) ?_
              obtain ⟨r_164, g_165, hf⟩ := bd_out hf
              obtain ⟨q_166, wq_166, heq_166⟩ := heM_2 (cy := cy) (I := I_162) (D := D) hM
              refine va_callFr (va_runF (As := [.int p1]) (rest := []) (hK.1 0 _ rfl).2 ⟨hx, hb, hml, hown, hts⟩ (mt_get2 l dC dI L a b ad cy hM H.size I_162 D p1 r_164 g_165) (va_cwF 1 hts gX7_heat_Jx4a65c_get_915e3_f55Jx4a65c rfl rfl rfl hN.2.2.1 (by decide +kernel) ⟨Nat.le_of_ble_eq_true rfl, Nat.le_of_ble_eq_true rfl⟩) ⟨(wM.pre [.ref (ad 2), .int p1] hP hK hN).1, wM.recv (C := RJx4a65c) (T := TJx4a65c) (N := 3) hP hK heq_166 rfl, (wM.pre [.ref (ad 2), .int p1] hP hK hN).2⟩ rfl rfl hl.1 rfl (lv_room (Nat.le_of_ble_eq_true rfl)) dX7_heat_168 ⟨Nat.le_of_ble_eq_true rfl, Nat.le_of_ble_eq_true rfl⟩) hS (fun q _ h => hA q (Nat.le_trans hS.1 h)) (fun q h => hA q (Nat.le_trans hS.1 h)) (fun u r9 t H1 locs ht hvm hw hB hz1 hk1 hS => ?_)
              subst hB
              have hP := va_Pnew hP hk1
              clear hz1 hk1 hvm ht
              generalize H1 = H at hP hS ⊢
              obtain ⟨q_167, wq_167, heq_167⟩ := heM_Mixx (cy := cy) (I := I_162) (D := D) hM (f_get2_lt g_165)
              refine va_castS hx hb hown (hts (.classLink RX7 59 "OverrunHouseModel$Mix") (List.mem_cons_of_mem _ (List.mem_append_left _ (List.mem_append_left _ (List.mem_append_left _ (List.mem_append_left _ (List.mem_of_getElem? (i := 2) rfl))))))) (hK.1 7 _ rfl).2 (wM.recv (C := RX6) (T := TX6) (N := 5) hP hK heq_167 rfl) dX7_heat_173 ?_
              obtain ⟨q_168, wq_168, heq_168⟩ := heM_Mixx (cy := cy) (I := I_162) (D := D) hM (f_get2_lt g_165)
              refine va_get (D := (dC, dI)) (ci := 7) (v := .int (I_162 (20 + r_164) 2)) (C := RX6) (T := TX6) (N := 5) hx hb hts iX7_heat_RX6 hown hK hP q_168 heq_168 rfl 2 (by decide) (hts (.fieldLink RX7 95 "OverrunHouseModel$Mix" "isProved" "Z") (List.mem_cons_of_mem _ (List.mem_append_left _ (List.mem_append_left _ (List.mem_append_left _ (List.mem_append_left _ (List.mem_of_getElem? (i := 3) rfl))))))) (fun _ h9 => h9) rfl dX7_heat_176 ?_
              obtain ⟨h_169, hf⟩ := ck_out hf
              have hf := Option.some.inj hf
              obtain ⟨q1, q2⟩ := Prod.mk.inj hf
              obtain ⟨q2, q3⟩ := Prod.mk.inj q2
              rw [q2, q3] at hP
              exact W.zret (ty := .boolean) (v := (I_162 (20 + r_164) 2)) hx hb hr (isB_nar h_169) (fun t ht hW9 => ⟨⟨(I_162 (20 + r_164) 2), (), rfl, q1.symm, wM.of hP hK hN ht hW9⟩, hS.F ht⟩) hS.2.2 dX7_heat_179
            · have hf := it_f hf c_152
              refine lv_iconst (v := 1) hx hb dX7_heat_137 (by decide) ?_
              refine lv_goto (tgt := 142) hx hb dX7_heat_138 (by decide) ?_
              refine lv_ior hx hb dX7_heat_142 ?_
              obtain ⟨q_170, wq_170, heq_170⟩ := heM_Mixx (cy := cy) (I := I_2) (D := D) hM (f_get2_lt g_148)
              obtain ⟨h_171, hf⟩ := ck_out hf
              obtain ⟨I_172, eI_172, hf⟩ := nm_out hf
              refine va_put (D := (dC, dI)) (ci := 7) (v := .int ((I_2 (20 + r_147) 2) ||| 1)) (ty := .boolean) (C := RX6) (T := TX6) (N := 5) hx hb hts iX7_heat_RX6 tyX6 tyX6_ok nmX6 hown hK hP (hDD I_2 D) hS q_170 heq_170 rfl 2 (by decide) (hts (.fieldLink RX7 95 "OverrunHouseModel$Mix" "isProved" "Z") (List.mem_cons_of_mem _ (List.mem_append_left _ (List.mem_append_left _ (List.mem_append_left _ (List.mem_append_left _ (List.mem_of_getElem? (i := 3) rfl))))))) (fun _ h9 => h9) rfl (by decide +kernel) (isB_nar h_171) (isB_fit h_171) (Nat.le_of_ble_eq_true rfl) dX7_heat_143 (fun H locs hP _ hS => ?_)
              have hP : va_P (dC, dI) vwCl (iwM L a b ad cy I_172 D) H := by rw [eI_172]; exact hqI hM wq_170 ((cellM_Mixx ad cy a b (by have := hM.2; have := (f_get2_lt g_148); omega) _ _).trans rfl) hP
              refine lv_aload_n hx hb dX7_heat_146 rfl (lv_at hl 1 rfl) ?_
              obtain ⟨q_173, wq_173, heq_173⟩ := heM_0 (cy := cy) (I := I_172) (D := D) hM
              refine va_get (D := (dC, dI)) (ci := 8) (v := .ref (ad 2)) (C := RX7) (T := TX7) (N := 9) hx hb hts iX7_heat_RX7 hown hK hP q_173 heq_173 rfl 2 (by decide) (hts (.fieldLink RX7 16 "OverrunHouseModel" "mixes" "Ljava/util/List;") (List.mem_cons_of_mem _ (List.mem_append_left _ (List.mem_append_left _ (List.mem_append_left _ (List.mem_append_left _ (List.mem_of_getElem? (i := 1) rfl))))))) (fun _ h9 => h9) rfl dX7_heat_147 ?_
              refine lv_iload_n hx hb dX7_heat_150 rfl (lv_at hl 2 rfl) ?_
              obtain ⟨r_174, g_175, hf⟩ := bd_out hf
              obtain ⟨q_176, wq_176, heq_176⟩ := heM_2 (cy := cy) (I := I_172) (D := D) hM
              refine va_callFr (va_runF (As := [.int p1]) (rest := []) (hK.1 0 _ rfl).2 ⟨hx, hb, hml, hown, hts⟩ (mt_get2 l dC dI L a b ad cy hM H.size I_172 D p1 r_174 g_175) (va_cwF 1 hts gX7_heat_Jx4a65c_get_915e3_f55Jx4a65c rfl rfl rfl hN.2.2.1 (by decide +kernel) ⟨Nat.le_of_ble_eq_true rfl, Nat.le_of_ble_eq_true rfl⟩) ⟨(wM.pre [.ref (ad 2), .int p1] hP hK hN).1, wM.recv (C := RJx4a65c) (T := TJx4a65c) (N := 3) hP hK heq_176 rfl, (wM.pre [.ref (ad 2), .int p1] hP hK hN).2⟩ rfl rfl hl.1 rfl (lv_room (Nat.le_of_ble_eq_true rfl)) dX7_heat_151 ⟨Nat.le_of_ble_eq_true rfl, Nat.le_of_ble_eq_true rfl⟩) hS (fun q _ h => hA q (Nat.le_trans hS.1 h)) (fun q h => hA q (Nat.le_trans hS.1 h)) (fun u r9 t H1 locs ht hvm hw hB hz1 hk1 hS => ?_)
              subst hB
              have hP := va_Pnew hP hk1
              clear hz1 hk1 hvm ht
              generalize H1 = H at hP hS ⊢
              obtain ⟨q_177, wq_177, heq_177⟩ := heM_Mixx (cy := cy) (I := I_172) (D := D) hM (f_get2_lt g_175)
              refine va_castS hx hb hown (hts (.classLink RX7 59 "OverrunHouseModel$Mix") (List.mem_cons_of_mem _ (List.mem_append_left _ (List.mem_append_left _ (List.mem_append_left _ (List.mem_append_left _ (List.mem_of_getElem? (i := 2) rfl))))))) (hK.1 7 _ rfl).2 (wM.recv (C := RX6) (T := TX6) (N := 5) hP hK heq_177 rfl) dX7_heat_156 ?_
              refine lv_iconst (v := 0) hx hb dX7_heat_159 (by decide) ?_
              obtain ⟨q_178, wq_178, heq_178⟩ := heM_Mixx (cy := cy) (I := I_172) (D := D) hM (f_get2_lt g_175)
              obtain ⟨I_179, eI_179, hf⟩ := nm_out hf
              refine va_put (D := (dC, dI)) (ci := 7) (v := .int 0) (ty := .int) (C := RX6) (T := TX6) (N := 5) hx hb hts iX7_heat_RX6 tyX6 tyX6_ok nmX6 hown hK hP (hDD I_172 D) hS q_178 heq_178 rfl 3 (by decide) (hts (.fieldLink RX7 99 "OverrunHouseModel$Mix" "age" "I") (List.mem_cons_of_mem _ (List.mem_append_left _ (List.mem_append_left _ (List.mem_append_left _ (List.mem_append_left _ (List.mem_of_getElem? (i := 4) rfl))))))) (fun _ h9 => h9) rfl (by decide +kernel) rfl rfl (Nat.le_of_ble_eq_true rfl) dX7_heat_160 (fun H locs hP _ hS => ?_)
              have hP : va_P (dC, dI) vwCl (iwM L a b ad cy I_179 D) H := by rw [eI_179]; exact hqI hM wq_178 ((cellM_Mixx ad cy a b (by have := hM.2; have := (f_get2_lt g_175); omega) _ _).trans rfl) hP
              refine lv_aload_n hx hb dX7_heat_163 rfl (lv_at hl 1 rfl) ?_
              obtain ⟨q_180, wq_180, heq_180⟩ := heM_0 (cy := cy) (I := I_179) (D := D) hM
              refine va_get (D := (dC, dI)) (ci := 8) (v := .ref (ad 2)) (C := RX7) (T := TX7) (N := 9) hx hb hts iX7_heat_RX7 hown hK hP q_180 heq_180 rfl 2 (by decide) (hts (.fieldLink RX7 16 "OverrunHouseModel" "mixes" "Ljava/util/List;") (List.mem_cons_of_mem _ (List.mem_append_left _ (List.mem_append_left _ (List.mem_append_left _ (List.mem_append_left _ (List.mem_of_getElem? (i := 1) rfl))))))) (fun _ h9 => h9) rfl dX7_heat_164 ?_
              refine lv_iload_n hx hb dX7_heat_167 rfl (lv_at hl 2 rfl) ?_
              obtain ⟨r_181, g_182, hf⟩ := bd_out hf
              obtain ⟨q_183, wq_183, heq_183⟩ := heM_2 (cy := cy) (I := I_179) (D := D) hM
              refine va_callFr (va_runF (As := [.int p1]) (rest := []) (hK.1 0 _ rfl).2 ⟨hx, hb, hml, hown, hts⟩ (mt_get2 l dC dI L a b ad cy hM H.size I_179 D p1 r_181 g_182) (va_cwF 1 hts gX7_heat_Jx4a65c_get_915e3_f55Jx4a65c rfl rfl rfl hN.2.2.1 (by decide +kernel) ⟨Nat.le_of_ble_eq_true rfl, Nat.le_of_ble_eq_true rfl⟩) ⟨(wM.pre [.ref (ad 2), .int p1] hP hK hN).1, wM.recv (C := RJx4a65c) (T := TJx4a65c) (N := 3) hP hK heq_183 rfl, (wM.pre [.ref (ad 2), .int p1] hP hK hN).2⟩ rfl rfl hl.1 rfl (lv_room (Nat.le_of_ble_eq_true rfl)) dX7_heat_168 ⟨Nat.le_of_ble_eq_true rfl, Nat.le_of_ble_eq_true rfl⟩) hS (fun q _ h => hA q (Nat.le_trans hS.1 h)) (fun q h => hA q (Nat.le_trans hS.1 h)) (fun u r9 t H1 locs ht hvm hw hB hz1 hk1 hS => ?_)
              subst hB
              have hP := va_Pnew hP hk1
              clear hz1 hk1 hvm ht
              generalize H1 = H at hP hS ⊢
              obtain ⟨q_184, wq_184, heq_184⟩ := heM_Mixx (cy := cy) (I := I_179) (D := D) hM (f_get2_lt g_182)
              refine va_castS hx hb hown (hts (.classLink RX7 59 "OverrunHouseModel$Mix") (List.mem_cons_of_mem _ (List.mem_append_left _ (List.mem_append_left _ (List.mem_append_left _ (List.mem_append_left _ (List.mem_of_getElem? (i := 2) rfl))))))) (hK.1 7 _ rfl).2 (wM.recv (C := RX6) (T := TX6) (N := 5) hP hK heq_184 rfl) dX7_heat_173 ?_
              obtain ⟨q_185, wq_185, heq_185⟩ := heM_Mixx (cy := cy) (I := I_179) (D := D) hM (f_get2_lt g_182)
              refine va_get (D := (dC, dI)) (ci := 7) (v := .int (I_179 (20 + r_181) 2)) (C := RX6) (T := TX6) (N := 5) hx hb hts iX7_heat_RX6 hown hK hP q_185 heq_185 rfl 2 (by decide) (hts (.fieldLink RX7 95 "OverrunHouseModel$Mix" "isProved" "Z") (List.mem_cons_of_mem _ (List.mem_append_left _ (List.mem_append_left _ (List.mem_append_left _ (List.mem_append_left _ (List.mem_of_getElem? (i := 3) rfl))))))) (fun _ h9 => h9) rfl dX7_heat_176 ?_
              obtain ⟨h_186, hf⟩ := ck_out hf
              have hf := Option.some.inj hf
              obtain ⟨q1, q2⟩ := Prod.mk.inj hf
              obtain ⟨q2, q3⟩ := Prod.mk.inj q2
              rw [q2, q3] at hP
              exact W.zret (ty := .boolean) (v := (I_179 (20 + r_181) 2)) hx hb hr (isB_nar h_186) (fun t ht hW9 => ⟨⟨(I_179 (20 + r_181) 2), (), rfl, q1.symm, wM.of hP hK hN ht hW9⟩, hS.F ht⟩) hS.2.2 dX7_heat_179
        · have hf := it_f hf c_19
          refine lv_sipush (v := 10000) hx hb dX7_heat_69 (by decide) ?_
          refine lv_goto (tgt := 112) hx hb dX7_heat_72 (by decide) ?_
          refine lv_istore (lv' := [(4, .int 10000), (0, .ref (ad 0)), (1, .int p1), (2, .int p2), (3, .int p3)]) hx hb dX7_heat_112 hl (by decide) rfl (fun ls hl => ?_)
          refine lv_aload_n hx hb dX7_heat_114 rfl (lv_at hl 1 rfl) ?_
          obtain ⟨q_187, wq_187, heq_187⟩ := heM_0 (cy := cy) (I := I_2) (D := D) hM
          refine va_get (D := (dC, dI)) (ci := 8) (v := .ref (ad 2)) (C := RX7) (T := TX7) (N := 9) hx hb hts iX7_heat_RX7 hown hK hP q_187 heq_187 rfl 2 (by decide) (hts (.fieldLink RX7 16 "OverrunHouseModel" "mixes" "Ljava/util/List;") (List.mem_cons_of_mem _ (List.mem_append_left _ (List.mem_append_left _ (List.mem_append_left _ (List.mem_append_left _ (List.mem_of_getElem? (i := 1) rfl))))))) (fun _ h9 => h9) rfl dX7_heat_115 ?_
          refine lv_iload_n hx hb dX7_heat_118 rfl (lv_at hl 2 rfl) ?_
          obtain ⟨r_188, g_189, hf⟩ := bd_out hf
          obtain ⟨q_190, wq_190, heq_190⟩ := heM_2 (cy := cy) (I := I_2) (D := D) hM
          refine va_callFr (va_runF (As := [.int p1]) (rest := []) (hK.1 0 _ rfl).2 ⟨hx, hb, hml, hown, hts⟩ (mt_get2 l dC dI L a b ad cy hM H.size I_2 D p1 r_188 g_189) (va_cwF 1 hts gX7_heat_Jx4a65c_get_915e3_f55Jx4a65c rfl rfl rfl hN.2.2.1 (by decide +kernel) ⟨Nat.le_of_ble_eq_true rfl, Nat.le_of_ble_eq_true rfl⟩) ⟨(wM.pre [.ref (ad 2), .int p1] hP hK hN).1, wM.recv (C := RJx4a65c) (T := TJx4a65c) (N := 3) hP hK heq_190 rfl, (wM.pre [.ref (ad 2), .int p1] hP hK hN).2⟩ rfl rfl hl.1 rfl (lv_room (Nat.le_of_ble_eq_true rfl)) dX7_heat_119 ⟨Nat.le_of_ble_eq_true rfl, Nat.le_of_ble_eq_true rfl⟩) hS (fun q _ h => hA q (Nat.le_trans hS.1 h)) (fun q h => hA q (Nat.le_trans hS.1 h)) (fun u r9 t H1 locs ht hvm hw hB hz1 hk1 hS => ?_)
          subst hB
          have hP := va_Pnew hP hk1
          clear hz1 hk1 hvm ht
          generalize H1 = H at hP hS ⊢
          obtain ⟨q_191, wq_191, heq_191⟩ := heM_Mixx (cy := cy) (I := I_2) (D := D) hM (f_get2_lt g_189)
          refine va_castS hx hb hown (hts (.classLink RX7 59 "OverrunHouseModel$Mix") (List.mem_cons_of_mem _ (List.mem_append_left _ (List.mem_append_left _ (List.mem_append_left _ (List.mem_append_left _ (List.mem_of_getElem? (i := 2) rfl))))))) (hK.1 7 _ rfl).2 (wM.recv (C := RX6) (T := TX6) (N := 5) hP hK heq_191 rfl) dX7_heat_124 ?_
          refine lv_dup hx hb dX7_heat_127 rfl ?_
          obtain ⟨q_192, wq_192, heq_192⟩ := heM_Mixx (cy := cy) (I := I_2) (D := D) hM (f_get2_lt g_189)
          refine va_get (D := (dC, dI)) (ci := 7) (v := .int (I_2 (20 + r_188) 2)) (C := RX6) (T := TX6) (N := 5) hx hb hts iX7_heat_RX6 hown hK hP q_192 heq_192 rfl 2 (by decide) (hts (.fieldLink RX7 95 "OverrunHouseModel$Mix" "isProved" "Z") (List.mem_cons_of_mem _ (List.mem_append_left _ (List.mem_append_left _ (List.mem_append_left _ (List.mem_append_left _ (List.mem_of_getElem? (i := 3) rfl))))))) (fun _ h9 => h9) rfl dX7_heat_128 ?_
          refine lv_iload_n hx hb dX7_heat_131 rfl (lv_at hl 4 rfl) ?_
          refine lv_iload hx hb dX7_heat_132 (lv_at hl 0 rfl) ?_
          refine lv_icmp_lt (tgt := 141) hx hb dX7_heat_134 (by decide) (fun c_193 => ?_) (fun c_193 => ?_)
          · have hf := it_t hf c_193
            refine lv_iconst (v := 0) hx hb dX7_heat_141 (by decide) ?_
            refine lv_ior hx hb dX7_heat_142 ?_
            obtain ⟨q_194, wq_194, heq_194⟩ := heM_Mixx (cy := cy) (I := I_2) (D := D) hM (f_get2_lt g_189)
            obtain ⟨h_195, hf⟩ := ck_out hf
            obtain ⟨I_196, eI_196, hf⟩ := nm_out hf
            refine va_put (D := (dC, dI)) (ci := 7) (v := .int ((I_2 (20 + r_188) 2) ||| 0)) (ty := .boolean) (C := RX6) (T := TX6) (N := 5) hx hb hts iX7_heat_RX6 tyX6 tyX6_ok nmX6 hown hK hP (hDD I_2 D) hS q_194 heq_194 rfl 2 (by decide) (hts (.fieldLink RX7 95 "OverrunHouseModel$Mix" "isProved" "Z") (List.mem_cons_of_mem _ (List.mem_append_left _ (List.mem_append_left _ (List.mem_append_left _ (List.mem_append_left _ (List.mem_of_getElem? (i := 3) rfl))))))) (fun _ h9 => h9) rfl (by decide +kernel) (isB_nar h_195) (isB_fit h_195) (Nat.le_of_ble_eq_true rfl) dX7_heat_143 (fun H locs hP _ hS => ?_)
            have hP : va_P (dC, dI) vwCl (iwM L a b ad cy I_196 D) H := by rw [eI_196]; exact hqI hM wq_194 ((cellM_Mixx ad cy a b (by have := hM.2; have := (f_get2_lt g_189); omega) _ _).trans rfl) hP
            refine lv_aload_n hx hb dX7_heat_146 rfl (lv_at hl 1 rfl) ?_
            obtain ⟨q_197, wq_197, heq_197⟩ := heM_0 (cy := cy) (I := I_196) (D := D) hM
            refine va_get (D := (dC, dI)) (ci := 8) (v := .ref (ad 2)) (C := RX7) (T := TX7) (N := 9) hx hb hts iX7_heat_RX7 hown hK hP q_197 heq_197 rfl 2 (by decide) (hts (.fieldLink RX7 16 "OverrunHouseModel" "mixes" "Ljava/util/List;") (List.mem_cons_of_mem _ (List.mem_append_left _ (List.mem_append_left _ (List.mem_append_left _ (List.mem_append_left _ (List.mem_of_getElem? (i := 1) rfl))))))) (fun _ h9 => h9) rfl dX7_heat_147 ?_
            refine lv_iload_n hx hb dX7_heat_150 rfl (lv_at hl 2 rfl) ?_
            obtain ⟨r_198, g_199, hf⟩ := bd_out hf
            obtain ⟨q_200, wq_200, heq_200⟩ := heM_2 (cy := cy) (I := I_196) (D := D) hM
            refine va_callFr (va_runF (As := [.int p1]) (rest := []) (hK.1 0 _ rfl).2 ⟨hx, hb, hml, hown, hts⟩ (mt_get2 l dC dI L a b ad cy hM H.size I_196 D p1 r_198 g_199) (va_cwF 1 hts gX7_heat_Jx4a65c_get_915e3_f55Jx4a65c rfl rfl rfl hN.2.2.1 (by decide +kernel) ⟨Nat.le_of_ble_eq_true rfl, Nat.le_of_ble_eq_true rfl⟩) ⟨(wM.pre [.ref (ad 2), .int p1] hP hK hN).1, wM.recv (C := RJx4a65c) (T := TJx4a65c) (N := 3) hP hK heq_200 rfl, (wM.pre [.ref (ad 2), .int p1] hP hK hN).2⟩ rfl rfl hl.1 rfl (lv_room (Nat.le_of_ble_eq_true rfl)) dX7_heat_151 ⟨Nat.le_of_ble_eq_true rfl, Nat.le_of_ble_eq_true rfl⟩) hS (fun q _ h => hA q (Nat.le_trans hS.1 h)) (fun q h => hA q (Nat.le_trans hS.1 h)) (fun u r9 t H1 locs ht hvm hw hB hz1 hk1 hS => ?_)
            subst hB
            have hP := va_Pnew hP hk1
            clear hz1 hk1 hvm ht
            generalize H1 = H at hP hS ⊢
            obtain ⟨q_201, wq_201, heq_201⟩ := heM_Mixx (cy := cy) (I := I_196) (D := D) hM (f_get2_lt g_199)
            refine va_castS hx hb hown (hts (.classLink RX7 59 "OverrunHouseModel$Mix") (List.mem_cons_of_mem _ (List.mem_append_left _ (List.mem_append_left _ (List.mem_append_left _ (List.mem_append_left _ (List.mem_of_getElem? (i := 2) rfl))))))) (hK.1 7 _ rfl).2 (wM.recv (C := RX6) (T := TX6) (N := 5) hP hK heq_201 rfl) dX7_heat_156 ?_
            refine lv_iconst (v := 0) hx hb dX7_heat_159 (by decide) ?_
            obtain ⟨q_202, wq_202, heq_202⟩ := heM_Mixx (cy := cy) (I := I_196) (D := D) hM (f_get2_lt g_199)
            obtain ⟨I_203, eI_203, hf⟩ := nm_out hf
            refine va_put (D := (dC, dI)) (ci := 7) (v := .int 0) (ty := .int) (C := RX6) (T := TX6) (N := 5) hx hb hts iX7_heat_RX6 tyX6 tyX6_ok nmX6 hown hK hP (hDD I_196 D) hS q_202 heq_202 rfl 3 (by decide) (hts (.fieldLink RX7 99 "OverrunHouseModel$Mix" "age" "I") (List.mem_cons_of_mem _ (List.mem_append_left _ (List.mem_append_left _ (List.mem_append_left _ (List.mem_append_left _ (List.mem_of_getElem? (i := 4) rfl))))))) (fun _ h9 => h9) rfl (by decide +kernel) rfl rfl (Nat.le_of_ble_eq_true rfl) dX7_heat_160 (fun H locs hP _ hS => ?_)
            have hP : va_P (dC, dI) vwCl (iwM L a b ad cy I_203 D) H := by rw [eI_203]; exact hqI hM wq_202 ((cellM_Mixx ad cy a b (by have := hM.2; have := (f_get2_lt g_199); omega) _ _).trans rfl) hP
            refine lv_aload_n hx hb dX7_heat_163 rfl (lv_at hl 1 rfl) ?_
            obtain ⟨q_204, wq_204, heq_204⟩ := heM_0 (cy := cy) (I := I_203) (D := D) hM
            refine va_get (D := (dC, dI)) (ci := 8) (v := .ref (ad 2)) (C := RX7) (T := TX7) (N := 9) hx hb hts iX7_heat_RX7 hown hK hP q_204 heq_204 rfl 2 (by decide) (hts (.fieldLink RX7 16 "OverrunHouseModel" "mixes" "Ljava/util/List;") (List.mem_cons_of_mem _ (List.mem_append_left _ (List.mem_append_left _ (List.mem_append_left _ (List.mem_append_left _ (List.mem_of_getElem? (i := 1) rfl))))))) (fun _ h9 => h9) rfl dX7_heat_164 ?_
            refine lv_iload_n hx hb dX7_heat_167 rfl (lv_at hl 2 rfl) ?_
            obtain ⟨r_205, g_206, hf⟩ := bd_out hf
            obtain ⟨q_207, wq_207, heq_207⟩ := heM_2 (cy := cy) (I := I_203) (D := D) hM
            refine va_callFr (va_runF (As := [.int p1]) (rest := []) (hK.1 0 _ rfl).2 ⟨hx, hb, hml, hown, hts⟩ (mt_get2 l dC dI L a b ad cy hM H.size I_203 D p1 r_205 g_206) (va_cwF 1 hts gX7_heat_Jx4a65c_get_915e3_f55Jx4a65c rfl rfl rfl hN.2.2.1 (by decide +kernel) ⟨Nat.le_of_ble_eq_true rfl, Nat.le_of_ble_eq_true rfl⟩) ⟨(wM.pre [.ref (ad 2), .int p1] hP hK hN).1, wM.recv (C := RJx4a65c) (T := TJx4a65c) (N := 3) hP hK heq_207 rfl, (wM.pre [.ref (ad 2), .int p1] hP hK hN).2⟩ rfl rfl hl.1 rfl (lv_room (Nat.le_of_ble_eq_true rfl)) dX7_heat_168 ⟨Nat.le_of_ble_eq_true rfl, Nat.le_of_ble_eq_true rfl⟩) hS (fun q _ h => hA q (Nat.le_trans hS.1 h)) (fun q h => hA q (Nat.le_trans hS.1 h)) (fun u r9 t H1 locs ht hvm hw hB hz1 hk1 hS => ?_)
            subst hB
            have hP := va_Pnew hP hk1
            clear hz1 hk1 hvm ht
            generalize H1 = H at hP hS ⊢
            obtain ⟨q_208, wq_208, heq_208⟩ := heM_Mixx (cy := cy) (I := I_203) (D := D) hM (f_get2_lt g_206)
            refine va_castS hx hb hown (hts (.classLink RX7 59 "OverrunHouseModel$Mix") (List.mem_cons_of_mem _ (List.mem_append_left _ (List.mem_append_left _ (List.mem_append_left _ (List.mem_append_left _ (List.mem_of_getElem? (i := 2) rfl))))))) (hK.1 7 _ rfl).2 (wM.recv (C := RX6) (T := TX6) (N := 5) hP hK heq_208 rfl) dX7_heat_173 ?_
            obtain ⟨q_209, wq_209, heq_209⟩ := heM_Mixx (cy := cy) (I := I_203) (D := D) hM (f_get2_lt g_206)
            refine va_get (D := (dC, dI)) (ci := 7) (v := .int (I_203 (20 + r_205) 2)) (C := RX6) (T := TX6) (N := 5) hx hb hts iX7_heat_RX6 hown hK hP q_209 heq_209 rfl 2 (by decide) (hts (.fieldLink RX7 95 "OverrunHouseModel$Mix" "isProved" "Z") (List.mem_cons_of_mem _ (List.mem_append_left _ (List.mem_append_left _ (List.mem_append_left _ (List.mem_append_left _ (List.mem_of_getElem? (i := 3) rfl))))))) (fun _ h9 => h9) rfl dX7_heat_176 ?_
            obtain ⟨h_210, hf⟩ := ck_out hf
            have hf := Option.some.inj hf
            obtain ⟨q1, q2⟩ := Prod.mk.inj hf
            obtain ⟨q2, q3⟩ := Prod.mk.inj q2
            rw [q2, q3] at hP
            exact W.zret (ty := .boolean) (v := (I_203 (20 + r_205) 2)) hx hb hr (isB_nar h_210) (fun t ht hW9 => ⟨⟨(I_203 (20 + r_205) 2), (), rfl, q1.symm, wM.of hP hK hN ht hW9⟩, hS.F ht⟩) hS.2.2 dX7_heat_179
          · have hf := it_f hf c_193
            refine lv_iconst (v := 1) hx hb dX7_heat_137 (by decide) ?_
            refine lv_goto (tgt := 142) hx hb dX7_heat_138 (by decide) ?_
            refine lv_ior hx hb dX7_heat_142 ?_
            obtain ⟨q_211, wq_211, heq_211⟩ := heM_Mixx (cy := cy) (I := I_2) (D := D) hM (f_get2_lt g_189)
            obtain ⟨h_212, hf⟩ := ck_out hf
            obtain ⟨I_213, eI_213, hf⟩ := nm_out hf
            refine va_put (D := (dC, dI)) (ci := 7) (v := .int ((I_2 (20 + r_188) 2) ||| 1)) (ty := .boolean) (C := RX6) (T := TX6) (N := 5) hx hb hts iX7_heat_RX6 tyX6 tyX6_ok nmX6 hown hK hP (hDD I_2 D) hS q_211 heq_211 rfl 2 (by decide) (hts (.fieldLink RX7 95 "OverrunHouseModel$Mix" "isProved" "Z") (List.mem_cons_of_mem _ (List.mem_append_left _ (List.mem_append_left _ (List.mem_append_left _ (List.mem_append_left _ (List.mem_of_getElem? (i := 3) rfl))))))) (fun _ h9 => h9) rfl (by decide +kernel) (isB_nar h_212) (isB_fit h_212) (Nat.le_of_ble_eq_true rfl) dX7_heat_143 (fun H locs hP _ hS => ?_)
            have hP : va_P (dC, dI) vwCl (iwM L a b ad cy I_213 D) H := by rw [eI_213]; exact hqI hM wq_211 ((cellM_Mixx ad cy a b (by have := hM.2; have := (f_get2_lt g_189); omega) _ _).trans rfl) hP
            refine lv_aload_n hx hb dX7_heat_146 rfl (lv_at hl 1 rfl) ?_
            obtain ⟨q_214, wq_214, heq_214⟩ := heM_0 (cy := cy) (I := I_213) (D := D) hM
            refine va_get (D := (dC, dI)) (ci := 8) (v := .ref (ad 2)) (C := RX7) (T := TX7) (N := 9) hx hb hts iX7_heat_RX7 hown hK hP q_214 heq_214 rfl 2 (by decide) (hts (.fieldLink RX7 16 "OverrunHouseModel" "mixes" "Ljava/util/List;") (List.mem_cons_of_mem _ (List.mem_append_left _ (List.mem_append_left _ (List.mem_append_left _ (List.mem_append_left _ (List.mem_of_getElem? (i := 1) rfl))))))) (fun _ h9 => h9) rfl dX7_heat_147 ?_
            refine lv_iload_n hx hb dX7_heat_150 rfl (lv_at hl 2 rfl) ?_
            obtain ⟨r_215, g_216, hf⟩ := bd_out hf
            obtain ⟨q_217, wq_217, heq_217⟩ := heM_2 (cy := cy) (I := I_213) (D := D) hM
            refine va_callFr (va_runF (As := [.int p1]) (rest := []) (hK.1 0 _ rfl).2 ⟨hx, hb, hml, hown, hts⟩ (mt_get2 l dC dI L a b ad cy hM H.size I_213 D p1 r_215 g_216) (va_cwF 1 hts gX7_heat_Jx4a65c_get_915e3_f55Jx4a65c rfl rfl rfl hN.2.2.1 (by decide +kernel) ⟨Nat.le_of_ble_eq_true rfl, Nat.le_of_ble_eq_true rfl⟩) ⟨(wM.pre [.ref (ad 2), .int p1] hP hK hN).1, wM.recv (C := RJx4a65c) (T := TJx4a65c) (N := 3) hP hK heq_217 rfl, (wM.pre [.ref (ad 2), .int p1] hP hK hN).2⟩ rfl rfl hl.1 rfl (lv_room (Nat.le_of_ble_eq_true rfl)) dX7_heat_151 ⟨Nat.le_of_ble_eq_true rfl, Nat.le_of_ble_eq_true rfl⟩) hS (fun q _ h => hA q (Nat.le_trans hS.1 h)) (fun q h => hA q (Nat.le_trans hS.1 h)) (fun u r9 t H1 locs ht hvm hw hB hz1 hk1 hS => ?_)
            subst hB
            have hP := va_Pnew hP hk1
            clear hz1 hk1 hvm ht
            generalize H1 = H at hP hS ⊢
            obtain ⟨q_218, wq_218, heq_218⟩ := heM_Mixx (cy := cy) (I := I_213) (D := D) hM (f_get2_lt g_216)
            refine va_castS hx hb hown (hts (.classLink RX7 59 "OverrunHouseModel$Mix") (List.mem_cons_of_mem _ (List.mem_append_left _ (List.mem_append_left _ (List.mem_append_left _ (List.mem_append_left _ (List.mem_of_getElem? (i := 2) rfl))))))) (hK.1 7 _ rfl).2 (wM.recv (C := RX6) (T := TX6) (N := 5) hP hK heq_218 rfl) dX7_heat_156 ?_
            refine lv_iconst (v := 0) hx hb dX7_heat_159 (by decide) ?_
            obtain ⟨q_219, wq_219, heq_219⟩ := heM_Mixx (cy := cy) (I := I_213) (D := D) hM (f_get2_lt g_216)
            obtain ⟨I_220, eI_220, hf⟩ := nm_out hf
            refine va_put (D := (dC, dI)) (ci := 7) (v := .int 0) (ty := .int) (C := RX6) (T := TX6) (N := 5) hx hb hts iX7_heat_RX6 tyX6 tyX6_ok nmX6 hown hK hP (hDD I_213 D) hS q_219 heq_219 rfl 3 (by decide) (hts (.fieldLink RX7 99 "OverrunHouseModel$Mix" "age" "I") (List.mem_cons_of_mem _ (List.mem_append_left _ (List.mem_append_left _ (List.mem_append_left _ (List.mem_append_left _ (List.mem_of_getElem? (i := 4) rfl))))))) (fun _ h9 => h9) rfl (by decide +kernel) rfl rfl (Nat.le_of_ble_eq_true rfl) dX7_heat_160 (fun H locs hP _ hS => ?_)
            have hP : va_P (dC, dI) vwCl (iwM L a b ad cy I_220 D) H := by rw [eI_220]; exact hqI hM wq_219 ((cellM_Mixx ad cy a b (by have := hM.2; have := (f_get2_lt g_216); omega) _ _).trans rfl) hP
            refine lv_aload_n hx hb dX7_heat_163 rfl (lv_at hl 1 rfl) ?_
            obtain ⟨q_221, wq_221, heq_221⟩ := heM_0 (cy := cy) (I := I_220) (D := D) hM
            refine va_get (D := (dC, dI)) (ci := 8) (v := .ref (ad 2)) (C := RX7) (T := TX7) (N := 9) hx hb hts iX7_heat_RX7 hown hK hP q_221 heq_221 rfl 2 (by decide) (hts (.fieldLink RX7 16 "OverrunHouseModel" "mixes" "Ljava/util/List;") (List.mem_cons_of_mem _ (List.mem_append_left _ (List.mem_append_left _ (List.mem_append_left _ (List.mem_append_left _ (List.mem_of_getElem? (i := 1) rfl))))))) (fun _ h9 => h9) rfl dX7_heat_164 ?_
            refine lv_iload_n hx hb dX7_heat_167 rfl (lv_at hl 2 rfl) ?_
            obtain ⟨r_222, g_223, hf⟩ := bd_out hf
            obtain ⟨q_224, wq_224, heq_224⟩ := heM_2 (cy := cy) (I := I_220) (D := D) hM
            refine va_callFr (va_runF (As := [.int p1]) (rest := []) (hK.1 0 _ rfl).2 ⟨hx, hb, hml, hown, hts⟩ (mt_get2 l dC dI L a b ad cy hM H.size I_220 D p1 r_222 g_223) (va_cwF 1 hts gX7_heat_Jx4a65c_get_915e3_f55Jx4a65c rfl rfl rfl hN.2.2.1 (by decide +kernel) ⟨Nat.le_of_ble_eq_true rfl, Nat.le_of_ble_eq_true rfl⟩) ⟨(wM.pre [.ref (ad 2), .int p1] hP hK hN).1, wM.recv (C := RJx4a65c) (T := TJx4a65c) (N := 3) hP hK heq_224 rfl, (wM.pre [.ref (ad 2), .int p1] hP hK hN).2⟩ rfl rfl hl.1 rfl (lv_room (Nat.le_of_ble_eq_true rfl)) dX7_heat_168 ⟨Nat.le_of_ble_eq_true rfl, Nat.le_of_ble_eq_true rfl⟩) hS (fun q _ h => hA q (Nat.le_trans hS.1 h)) (fun q h => hA q (Nat.le_trans hS.1 h)) (fun u r9 t H1 locs ht hvm hw hB hz1 hk1 hS => ?_)
            subst hB
            have hP := va_Pnew hP hk1
            clear hz1 hk1 hvm ht
            generalize H1 = H at hP hS ⊢
            obtain ⟨q_225, wq_225, heq_225⟩ := heM_Mixx (cy := cy) (I := I_220) (D := D) hM (f_get2_lt g_223)
            refine va_castS hx hb hown (hts (.classLink RX7 59 "OverrunHouseModel$Mix") (List.mem_cons_of_mem _ (List.mem_append_left _ (List.mem_append_left _ (List.mem_append_left _ (List.mem_append_left _ (List.mem_of_getElem? (i := 2) rfl))))))) (hK.1 7 _ rfl).2 (wM.recv (C := RX6) (T := TX6) (N := 5) hP hK heq_225 rfl) dX7_heat_173 ?_
            obtain ⟨q_226, wq_226, heq_226⟩ := heM_Mixx (cy := cy) (I := I_220) (D := D) hM (f_get2_lt g_223)
            refine va_get (D := (dC, dI)) (ci := 7) (v := .int (I_220 (20 + r_222) 2)) (C := RX6) (T := TX6) (N := 5) hx hb hts iX7_heat_RX6 hown hK hP q_226 heq_226 rfl 2 (by decide) (hts (.fieldLink RX7 95 "OverrunHouseModel$Mix" "isProved" "Z") (List.mem_cons_of_mem _ (List.mem_append_left _ (List.mem_append_left _ (List.mem_append_left _ (List.mem_append_left _ (List.mem_of_getElem? (i := 3) rfl))))))) (fun _ h9 => h9) rfl dX7_heat_176 ?_
            obtain ⟨h_227, hf⟩ := ck_out hf
            have hf := Option.some.inj hf
            obtain ⟨q1, q2⟩ := Prod.mk.inj hf
            obtain ⟨q2, q3⟩ := Prod.mk.inj q2
            rw [q2, q3] at hP
            exact W.zret (ty := .boolean) (v := (I_220 (20 + r_222) 2)) hx hb hr (isB_nar h_227) (fun t ht hW9 => ⟨⟨(I_220 (20 + r_222) 2), (), rfl, q1.symm, wM.of hP hK hN ht hW9⟩, hS.F ht⟩) hS.2.2 dX7_heat_179
      · have hf := it_t hf c_18
        refine lv_aload_n hx hb dX7_heat_49 rfl (lv_at hl 0 rfl) ?_
        refine lv_iconst (v := 2) hx hb dX7_heat_50 (by decide) ?_
        obtain ⟨⟨r_228, I_230, D_231⟩, g_229, hf⟩ := bd_out hf
        obtain ⟨q_232, wq_232, heq_232⟩ := heM_0 (cy := cy) (I := I_2) (D := D) hM
        have hAW : ∀ q, AM L ad H.size q → A q := fun q h => h.elim (fun ⟨k, k1, k2⟩ => k2 ▸ hAL k k1) (fun h => hA q (Nat.le_trans hS.1 h))
        refine va_calli (va_runV (As := [.int 2]) (rest := []) ⟨hx, hb, hml, hown, hts⟩ (mt_X7_no l dC dI L a b ad cy hM H.size I_2 D 2 r_228 I_230 D_231 g_229) (cwV 1 hts gX7_heat_X7_no rfl rfl rfl (by decide +kernel) ⟨Nat.le_of_ble_eq_true rfl, Nat.le_of_ble_eq_true rfl⟩) ⟨(wM.pre [.ref (ad 0), .int 2] hP hK hN).1, wM.recv (C := RX7) (T := TX7) (N := 9) hP hK heq_232 rfl, (wM.pre [.ref (ad 0), .int 2] hP hK hN).2⟩ rfl rfl hl.1 rfl (lv_room (Nat.le_of_ble_eq_true rfl)) dX7_heat_51 ⟨Nat.le_of_ble_eq_true rfl, Nat.le_of_ble_eq_true rfl⟩) hS (fun q _ h => hAW q h) hAW (fun r9 u t H1 locs ht hvm hw hB hz1 hk1 hS => ?_)
        subst hw
        have hP : va_P (dC, dI) vwCl (iwM L a b ad cy I_230 D_231) H1 := by rw [← ht]; exact hB.1
        clear hz1 hk1 hvm ht hB
        generalize H1 = H at hP hS ⊢
        refine lv_if_le (tgt := 61) hx hb dX7_heat_54 (by decide) (fun c_233 => ?_) (fun c_233 => ?_)
        · have hf := it_t hf c_233
          refine lv_iconst (v := 0) hx hb dX7_heat_61 (by decide) ?_
          have hf := Option.some.inj hf
          obtain ⟨q1, q2⟩ := Prod.mk.inj hf
          obtain ⟨q2, q3⟩ := Prod.mk.inj q2
          rw [q2, q3] at hP
          exact W.zret (ty := .boolean) (v := 0) hx hb hr rfl (fun t ht hW9 => ⟨⟨0, (), rfl, q1.symm, wM.of hP hK hN ht hW9⟩, hS.F ht⟩) hS.2.2 dX7_heat_62
        · have hf := it_f hf c_233
          refine lv_iconst (v := 1) hx hb dX7_heat_57 (by decide) ?_
          refine lv_goto (tgt := 62) hx hb dX7_heat_58 (by decide) ?_
          have hf := Option.some.inj hf
          obtain ⟨q1, q2⟩ := Prod.mk.inj hf
          obtain ⟨q2, q3⟩ := Prod.mk.inj q2
          rw [q2, q3] at hP
          exact W.zret (ty := .boolean) (v := 1) hx hb hr rfl (fun t ht hW9 => ⟨⟨1, (), rfl, q1.symm, wM.of hP hK hN ht hW9⟩, hS.F ht⟩) hS.2.2 dX7_heat_62
  · have hf := it_t hf c_6
    refine lv_aload_n hx hb dX7_heat_13 rfl (lv_at hl 0 rfl) ?_
    refine lv_iconst (v := 1) hx hb dX7_heat_14 (by decide) ?_
    obtain ⟨⟨r_234, I_236, D_237⟩, g_235, hf⟩ := bd_out hf
    obtain ⟨q_238, wq_238, heq_238⟩ := heM_0 (cy := cy) (I := I_2) (D := D) hM
    have hAW : ∀ q, AM L ad H.size q → A q := fun q h => h.elim (fun ⟨k, k1, k2⟩ => k2 ▸ hAL k k1) (fun h => hA q (Nat.le_trans hS.1 h))
    refine va_calli (va_runV (As := [.int 1]) (rest := []) ⟨hx, hb, hml, hown, hts⟩ (mt_X7_no l dC dI L a b ad cy hM H.size I_2 D 1 r_234 I_236 D_237 g_235) (cwV 1 hts gX7_heat_X7_no rfl rfl rfl (by decide +kernel) ⟨Nat.le_of_ble_eq_true rfl, Nat.le_of_ble_eq_true rfl⟩) ⟨(wM.pre [.ref (ad 0), .int 1] hP hK hN).1, wM.recv (C := RX7) (T := TX7) (N := 9) hP hK heq_238 rfl, (wM.pre [.ref (ad 0), .int 1] hP hK hN).2⟩ rfl rfl hl.1 rfl (lv_room (Nat.le_of_ble_eq_true rfl)) dX7_heat_15 ⟨Nat.le_of_ble_eq_true rfl, Nat.le_of_ble_eq_true rfl⟩) hS (fun q _ h => hAW q h) hAW (fun r9 u t H1 locs ht hvm hw hB hz1 hk1 hS => ?_)
    subst hw
    have hP : va_P (dC, dI) vwCl (iwM L a b ad cy I_236 D_237) H1 := by rw [← ht]; exact hB.1
    clear hz1 hk1 hvm ht hB
    generalize H1 = H at hP hS ⊢
    refine lv_if_le (tgt := 25) hx hb dX7_heat_18 (by decide) (fun c_239 => ?_) (fun c_239 => ?_)
    · have hf := it_t hf c_239
      refine lv_iconst (v := 0) hx hb dX7_heat_25 (by decide) ?_
      have hf := Option.some.inj hf
      obtain ⟨q1, q2⟩ := Prod.mk.inj hf
      obtain ⟨q2, q3⟩ := Prod.mk.inj q2
      rw [q2, q3] at hP
      exact W.zret (ty := .boolean) (v := 0) hx hb hr rfl (fun t ht hW9 => ⟨⟨0, (), rfl, q1.symm, wM.of hP hK hN ht hW9⟩, hS.F ht⟩) hS.2.2 dX7_heat_26
    · have hf := it_f hf c_239
      refine lv_iconst (v := 1) hx hb dX7_heat_21 (by decide) ?_
      refine lv_goto (tgt := 26) hx hb dX7_heat_22 (by decide) ?_
      have hf := Option.some.inj hf
      obtain ⟨q1, q2⟩ := Prod.mk.inj hf
      obtain ⟨q2, q3⟩ := Prod.mk.inj q2
      rw [q2, q3] at hP
      exact W.zret (ty := .boolean) (v := 1) hx hb hr rfl (fun t ht hW9 => ⟨⟨1, (), rfl, q1.symm, wM.of hP hK hN ht hW9⟩, hS.F ht⟩) hS.2.2 dX7_heat_26

def f_X7_barsNow (a b : Nat) (I : Nat → Nat → Int32) (D : Nat → Nat → UInt64) (p1 : Int32) (k2 : Nat) (p3 : Int32) (p4 : Int32) : Option (Int32) :=
  (if (I (20 + k2) 2) = 0 then some 1 else bd (f_X7_in (I (20 + k2) 3) 4 72) (fun r_4 => (if r_4 = 0 then (if 4 ≤ (I (20 + k2) 3) then some 3 else some 2) else (if p3 ≤ (I (20 + k2) 1) then ck (inB p1 2) (bd (f_X6_harms a b I D k2) (fun r_12 => (if ((I 13 (p1).toNatClampNeg) &&& (r_12 ^^^ (-1))) = 0 then (if p4 ≤ 100 then (if (I 5 0) = 12 then some 7 else some 0) else bd (f_X6_isCream a b I D k2) (fun r_20 => (if r_20 = 0 then (if (I 5 0) = 12 then some 7 else some 0) else some 6))) else some 5))) else some 4))))
theorem iX7_barsNow_RX5 : ∀ w ∈ u_ws RX5 TX5 10, w ∈ wsX7_barsNow := fun w h => List.mem_cons_of_mem _ (List.mem_append_left _ (List.mem_append_right _ (h)))
theorem iX7_barsNow_RX7 : ∀ w ∈ u_ws RX7 TX7 9, w ∈ wsX7_barsNow := fun w h => List.mem_cons_of_mem _ (List.mem_append_left _ (List.mem_append_left _ (List.mem_append_right _ (h))))
theorem iX7_barsNow_RX6 : ∀ w ∈ u_ws RX6 TX6 5, w ∈ wsX7_barsNow := fun w h => List.mem_cons_of_mem _ (List.mem_append_left _ (List.mem_append_left _ (List.mem_append_left _ (List.mem_append_right _ (h)))))
set_option maxHeartbeats 4000000 in
set_option maxRecDepth 100000 in
theorem mt_X7_barsNow (l : Launch) (dC : Nat → ClassId) (dI : Nat → Nat → Nat) (L : List Nat) (a b : Nat) (ad : Nat → Nat) (cy : Nat → ClassId) (hM : mOK L a b ad) (sz : Nat) (I : Nat → Nat → Int32) (D : Nat → Nat → UInt64) (p1 : Int32) (k2 : Nat) (hk2 : k2 < b) (p3 : Int32) (p4 : Int32) (rr : Int32) (hf : f_X7_barsNow a b I D p1 k2 p3 p4 = some rr) : Met l yX7_barsNow wsX7_barsNow ({ frames := 7, cells := 0, slots := 0, locals := 198 }) (va_Pc [.ref (ad 0), .int p1, .ref (ad (20 + k2)), .int p3, .int p4] (fun U => U.heap.size = sz ∧ wM dC dI L a b ad cy I D U)) (va_Qi (fun r (_ : Unit) => rr = r) (fun _ _ => True) (fun q => sz ≤ q)) 0 0 (fun q => sz ≤ q) := by
  refine Met.ofW (cc := cX7_barsNow) (maxL := 5) (ret := (some .int)) (by decide) rfl ?_
  intro p e s m args below meth c s₁ B hml hv
  obtain ⟨rfl, hsz, hP, hK, hN⟩ := hv
  have hx := B.exec
  have hb := B.bytes
  have hr := B.returns
  have hts := atoms_spec (ws := wsX7_barsNow) B.pre
  have hown : s.vm.findClass RX7 = some m.cls := findClass_of_methodNamed B.named
  have hlocks := B.notSynchronized
  subst hsz
  generalize hAe : (fun q : Nat => s.heap.size ≤ q) = A
  have hA : ∀ q : Nat, s.heap.size ≤ q → A q := fun q h => by rw [← hAe]; exact h
  obtain ⟨H, hH⟩ : ∃ H : Heap, H = s.heap := ⟨_, rfl⟩
  have hS : va_S A s.heap H [] := by rw [hH]; exact va_S.rf
  rw [← hH]
  rw [← hH] at hP
  have hl := lv_entry ([.ref (ad 0), .int p1, .ref (ad (20 + k2)), .int p3, .int p4]) (n := 5) (Nat.le_of_ble_eq_true rfl)
  rw [lg_entry_eq]
  generalize (lg_sl ([.ref (ad 0), .int p1, .ref (ad (20 + k2)), .int p3, .int p4]) ++ List.replicate (5 - (lg_sl ([.ref (ad 0), .int p1, .ref (ad (20 + k2)), .int p3, .int p4])).length) Slot.unset).toArray = ls at hl ⊢
  have hl : lv_has ls 5 [(0, .ref (ad 0)), (1, .int p1), (2, .ref (ad (20 + k2))), (3, .int p3), (4, .int p4)] := hl
  unfold f_X7_barsNow at hf
  refine lv_aload_n hx hb dX7_barsNow_0 rfl (lv_at hl 2 rfl) ?_
  obtain ⟨q_1, wq_1, heq_1⟩ := heM_Mixx (cy := cy) (I := I) (D := D) hM hk2
  refine va_get (D := (dC, dI)) (ci := 7) (v := .int (I (20 + k2) 2)) (C := RX6) (T := TX6) (N := 5) hx hb hts iX7_barsNow_RX6 hown hK hP q_1 heq_1 rfl 2 (by decide) (hts (.fieldLink RX7 95 "OverrunHouseModel$Mix" "isProved" "Z") (List.mem_cons_of_mem _ (List.mem_append_left _ (List.mem_append_left _ (List.mem_append_left _ (List.mem_append_left _ (List.mem_append_left _ (List.mem_of_getElem? (i := 0) rfl)))))))) (fun _ h9 => h9) rfl dX7_barsNow_1 ?_
  refine lv_if_ne (tgt := 9) hx hb dX7_barsNow_4 (by decide) (fun c_2 => ?_) (fun c_2 => ?_)
  · have hf := it_f hf c_2
    refine lv_aload_n hx hb dX7_barsNow_9 rfl (lv_at hl 2 rfl) ?_
    obtain ⟨q_3, wq_3, heq_3⟩ := heM_Mixx (cy := cy) (I := I) (D := D) hM hk2
    refine va_get (D := (dC, dI)) (ci := 7) (v := .int (I (20 + k2) 3)) (C := RX6) (T := TX6) (N := 5) hx hb hts iX7_barsNow_RX6 hown hK hP q_3 heq_3 rfl 3 (by decide) (hts (.fieldLink RX7 99 "OverrunHouseModel$Mix" "age" "I") (List.mem_cons_of_mem _ (List.mem_append_left _ (List.mem_append_left _ (List.mem_append_left _ (List.mem_append_left _ (List.mem_append_left _ (List.mem_of_getElem? (i := 1) rfl)))))))) (fun _ h9 => h9) rfl dX7_barsNow_10 ?_
    refine lv_iconst (v := 4) hx hb dX7_barsNow_13 (by decide) ?_
    refine lv_bipush (v := 72) hx hb dX7_barsNow_14 (by decide) ?_
    obtain ⟨r_4, g_5, hf⟩ := bd_out hf
    refine va_calli (va_runS (As := [.int (I (20 + k2) 3), .int 4, .int 72]) (rest := []) ⟨hx, hb, hml, hown, hts⟩ (mt_X7_in l H.size (I (20 + k2) 3) 4 72 r_4 g_5) (va_cwS 3 hts gX7_barsNow_X7_in rfl rfl rfl (by decide +kernel) ⟨Nat.le_of_ble_eq_true rfl, Nat.le_of_ble_eq_true rfl⟩) (pre0 [.int (I (20 + k2) 3), .int 4, .int 72]) rfl rfl hl.1 rfl (lv_room (Nat.le_of_ble_eq_true rfl)) dX7_barsNow_16 ⟨Nat.le_of_ble_eq_true rfl, Nat.le_of_ble_eq_true rfl⟩) hS (fun q _ h => hA q (Nat.le_trans hS.1 h)) (fun q h => hA q (Nat.le_trans hS.1 h)) (fun r9 u t H1 locs ht hvm hw hB hz1 hk1 hS => ?_)
    subst hw
    have hP := va_Pnew hP hk1
    clear hz1 hk1 hvm ht hB
    generalize H1 = H at hP hS ⊢
    refine lv_if_ne (tgt := 36) hx hb dX7_barsNow_19 (by decide) (fun c_6 => ?_) (fun c_6 => ?_)
    · have hf := it_f hf c_6
      refine lv_aload_n hx hb dX7_barsNow_36 rfl (lv_at hl 2 rfl) ?_
      obtain ⟨q_7, wq_7, heq_7⟩ := heM_Mixx (cy := cy) (I := I) (D := D) hM hk2
      refine va_get (D := (dC, dI)) (ci := 7) (v := .int (I (20 + k2) 1)) (C := RX6) (T := TX6) (N := 5) hx hb hts iX7_barsNow_RX6 hown hK hP q_7 heq_7 rfl 1 (by decide) (hts (.fieldLink RX7 102 "OverrunHouseModel$Mix" "left" "I") (List.mem_cons_of_mem _ (List.mem_append_left _ (List.mem_append_left _ (List.mem_append_left _ (List.mem_append_left _ (List.mem_append_left _ (List.mem_of_getElem? (i := 2) rfl)))))))) (fun _ h9 => h9) rfl dX7_barsNow_37 ?_
      refine lv_iload_n hx hb dX7_barsNow_40 rfl (lv_at hl 3 rfl) ?_
      refine lv_icmp_ge (tgt := 46) hx hb dX7_barsNow_41 (by decide) (fun c_8 => ?_) (fun c_8 => ?_)
      · have hf := it_t hf c_8
        refine lv_aload_n hx hb dX7_barsNow_46 rfl (lv_at hl 0 rfl) ?_
        obtain ⟨q_9, wq_9, heq_9⟩ := heM_0 (cy := cy) (I := I) (D := D) hM
        refine va_get (D := (dC, dI)) (ci := 8) (v := .ref (ad 13)) (C := RX7) (T := TX7) (N := 9) hx hb hts iX7_barsNow_RX7 hown hK hP q_9 heq_9 rfl 4 (by decide) (hts (.fieldLink RX7 28 "OverrunHouseModel" "rests" "[I") (List.mem_cons_of_mem _ (List.mem_append_left _ (List.mem_append_left _ (List.mem_append_left _ (List.mem_append_left _ (List.mem_append_left _ (List.mem_of_getElem? (i := 3) rfl)))))))) (fun _ h9 => h9) rfl dX7_barsNow_47 ?_
        refine lv_iload_n hx hb dX7_barsNow_50 rfl (lv_at hl 1 rfl) ?_
        obtain ⟨q_10, wq_10, heq_10⟩ := heM_13 (cy := cy) (I := I) (D := D) hM
        obtain ⟨h_11, hf⟩ := ck_out hf
        refine va_iald (n := 2) (f := I 13) hx hb hK hP q_10 0 heq_10 rfl (inB_in h_11) dX7_barsNow_51 ?_
        refine lv_aload_n hx hb dX7_barsNow_52 rfl (lv_at hl 2 rfl) ?_
        obtain ⟨r_12, g_13, hf⟩ := bd_out hf
        obtain ⟨q_14, wq_14, heq_14⟩ := heM_Mixx (cy := cy) (I := I) (D := D) hM hk2
        refine va_calli (va_runV (As := []) (rest := [.int (I 13 (p1).toNatClampNeg)]) ⟨hx, hb, hml, hown, hts⟩ (mt_X6_harms l dC dI L a b ad cy hM H.size I D k2 hk2 r_12 g_13) (cwV 0 hts gX7_barsNow_X6_harms rfl rfl rfl (by decide +kernel) ⟨Nat.le_of_ble_eq_true rfl, Nat.le_of_ble_eq_true rfl⟩) ⟨(wM.pre [.ref (ad (20 + k2))] hP hK hN).1, wM.recv (C := RX6) (T := TX6) (N := 5) hP hK heq_14 rfl, (wM.pre [.ref (ad (20 + k2))] hP hK hN).2⟩ rfl rfl hl.1 rfl (lv_room (Nat.le_of_ble_eq_true rfl)) dX7_barsNow_53 ⟨Nat.le_of_ble_eq_true rfl, Nat.le_of_ble_eq_true rfl⟩) hS (fun q _ h => hA q (Nat.le_trans hS.1 h)) (fun q h => hA q (Nat.le_trans hS.1 h)) (fun r9 u t H1 locs ht hvm hw hB hz1 hk1 hS => ?_)
        subst hw
        have hP := va_Pnew hP hk1
        clear hz1 hk1 hvm ht hB
        generalize H1 = H at hP hS ⊢
        refine lv_iconst (v := (-1)) hx hb dX7_barsNow_56 (by decide) ?_
        refine lv_ixor hx hb dX7_barsNow_57 ?_
        refine lv_iand hx hb dX7_barsNow_58 ?_
        refine lv_if_eq (tgt := 64) hx hb dX7_barsNow_59 (by decide) (fun c_15 => ?_) (fun c_15 => ?_)
        · have hf := it_t hf c_15
          refine lv_iload hx hb dX7_barsNow_64 (lv_at hl 4 rfl) ?_
          refine lv_bipush (v := 100) hx hb dX7_barsNow_66 (by decide) ?_
          refine lv_icmp_le (tgt := 81) hx hb dX7_barsNow_68 (by decide) (fun c_16 => ?_) (fun c_16 => ?_)
          · have hf := it_t hf c_16
            refine lv_aload_n hx hb dX7_barsNow_81 rfl (lv_at hl 0 rfl) ?_
            obtain ⟨q_17, wq_17, heq_17⟩ := heM_0 (cy := cy) (I := I) (D := D) hM
            refine va_get (D := (dC, dI)) (ci := 8) (v := .ref (ad 5)) (C := RX7) (T := TX7) (N := 9) hx hb hts iX7_barsNow_RX7 hown hK hP q_17 heq_17 rfl 3 (by decide) (hts (.fieldLink RX7 24 "OverrunHouseModel" "cold" "LOverrunHouseModel$Cold;") (List.mem_cons_of_mem _ (List.mem_append_left _ (List.mem_append_left _ (List.mem_append_left _ (List.mem_append_left _ (List.mem_append_left _ (List.mem_of_getElem? (i := 4) rfl)))))))) (fun _ h9 => h9) rfl dX7_barsNow_82 ?_
            obtain ⟨q_18, wq_18, heq_18⟩ := heM_Cold (cy := cy) (I := I) (D := D) (a := a) (b := b) (cOK_5 hM)
            refine va_get (D := (dC, dI)) (ci := 6) (v := .int (I 5 0)) (C := RX5) (T := TX5) (N := 10) hx hb hts iX7_barsNow_RX5 hown hK hP q_18 heq_18 rfl 0 (by decide) (hts (.fieldLink RX7 46 "OverrunHouseModel$Cold" "batches" "I") (List.mem_cons_of_mem _ (List.mem_append_left _ (List.mem_append_left _ (List.mem_append_left _ (List.mem_append_left _ (List.mem_append_left _ (List.mem_of_getElem? (i := 5) rfl)))))))) (fun _ h9 => h9) rfl dX7_barsNow_85 ?_
            refine lv_bipush (v := 12) hx hb dX7_barsNow_88 (by decide) ?_
            refine lv_icmp_ne (tgt := 98) hx hb dX7_barsNow_90 (by decide) (fun c_19 => ?_) (fun c_19 => ?_)
            · have hf := it_f hf c_19
              refine lv_iconst (v := 0) hx hb dX7_barsNow_98 (by decide) ?_
              have hf := Option.some.inj hf
              have q1 := hf
              exact W.iret (v := 0) hx hb hr (fun t ht hW9 => ⟨⟨0, (), rfl, q1.symm, trivial⟩, hS.F ht⟩) hS.2.2 dX7_barsNow_99
            · have hf := it_t hf c_19
              refine lv_bipush (v := 7) hx hb dX7_barsNow_93 (by decide) ?_
              refine lv_goto (tgt := 99) hx hb dX7_barsNow_95 (by decide) ?_
              have hf := Option.some.inj hf
              have q1 := hf
              exact W.iret (v := 7) hx hb hr (fun t ht hW9 => ⟨⟨7, (), rfl, q1.symm, trivial⟩, hS.F ht⟩) hS.2.2 dX7_barsNow_99
          · have hf := it_f hf c_16
            refine lv_aload_n hx hb dX7_barsNow_71 rfl (lv_at hl 2 rfl) ?_
            obtain ⟨r_20, g_21, hf⟩ := bd_out hf
            obtain ⟨q_22, wq_22, heq_22⟩ := heM_Mixx (cy := cy) (I := I) (D := D) hM hk2
            refine va_calli (va_runV (As := []) (rest := []) ⟨hx, hb, hml, hown, hts⟩ (mt_X6_isCream l dC dI L a b ad cy hM H.size I D k2 hk2 r_20 g_21) (cwV 0 hts gX7_barsNow_X6_isCream rfl rfl rfl (by decide +kernel) ⟨Nat.le_of_ble_eq_true rfl, Nat.le_of_ble_eq_true rfl⟩) ⟨(wM.pre [.ref (ad (20 + k2))] hP hK hN).1, wM.recv (C := RX6) (T := TX6) (N := 5) hP hK heq_22 rfl, (wM.pre [.ref (ad (20 + k2))] hP hK hN).2⟩ rfl rfl hl.1 rfl (lv_room (Nat.le_of_ble_eq_true rfl)) dX7_barsNow_72 ⟨Nat.le_of_ble_eq_true rfl, Nat.le_of_ble_eq_true rfl⟩) hS (fun q _ h => hA q (Nat.le_trans hS.1 h)) (fun q h => hA q (Nat.le_trans hS.1 h)) (fun r9 u t H1 locs ht hvm hw hB hz1 hk1 hS => ?_)
            subst hw
            have hP := va_Pnew hP hk1
            clear hz1 hk1 hvm ht hB
            generalize H1 = H at hP hS ⊢
            refine lv_if_eq (tgt := 81) hx hb dX7_barsNow_75 (by decide) (fun c_23 => ?_) (fun c_23 => ?_)
            · have hf := it_t hf c_23
              refine lv_aload_n hx hb dX7_barsNow_81 rfl (lv_at hl 0 rfl) ?_
              obtain ⟨q_24, wq_24, heq_24⟩ := heM_0 (cy := cy) (I := I) (D := D) hM
              refine va_get (D := (dC, dI)) (ci := 8) (v := .ref (ad 5)) (C := RX7) (T := TX7) (N := 9) hx hb hts iX7_barsNow_RX7 hown hK hP q_24 heq_24 rfl 3 (by decide) (hts (.fieldLink RX7 24 "OverrunHouseModel" "cold" "LOverrunHouseModel$Cold;") (List.mem_cons_of_mem _ (List.mem_append_left _ (List.mem_append_left _ (List.mem_append_left _ (List.mem_append_left _ (List.mem_append_left _ (List.mem_of_getElem? (i := 4) rfl)))))))) (fun _ h9 => h9) rfl dX7_barsNow_82 ?_
              obtain ⟨q_25, wq_25, heq_25⟩ := heM_Cold (cy := cy) (I := I) (D := D) (a := a) (b := b) (cOK_5 hM)
              refine va_get (D := (dC, dI)) (ci := 6) (v := .int (I 5 0)) (C := RX5) (T := TX5) (N := 10) hx hb hts iX7_barsNow_RX5 hown hK hP q_25 heq_25 rfl 0 (by decide) (hts (.fieldLink RX7 46 "OverrunHouseModel$Cold" "batches" "I") (List.mem_cons_of_mem _ (List.mem_append_left _ (List.mem_append_left _ (List.mem_append_left _ (List.mem_append_left _ (List.mem_append_left _ (List.mem_of_getElem? (i := 5) rfl)))))))) (fun _ h9 => h9) rfl dX7_barsNow_85 ?_
              refine lv_bipush (v := 12) hx hb dX7_barsNow_88 (by decide) ?_
              refine lv_icmp_ne (tgt := 98) hx hb dX7_barsNow_90 (by decide) (fun c_26 => ?_) (fun c_26 => ?_)
              · have hf := it_f hf c_26
                refine lv_iconst (v := 0) hx hb dX7_barsNow_98 (by decide) ?_
                have hf := Option.some.inj hf
                have q1 := hf
                exact W.iret (v := 0) hx hb hr (fun t ht hW9 => ⟨⟨0, (), rfl, q1.symm, trivial⟩, hS.F ht⟩) hS.2.2 dX7_barsNow_99
              · have hf := it_t hf c_26
                refine lv_bipush (v := 7) hx hb dX7_barsNow_93 (by decide) ?_
                refine lv_goto (tgt := 99) hx hb dX7_barsNow_95 (by decide) ?_
                have hf := Option.some.inj hf
                have q1 := hf
                exact W.iret (v := 7) hx hb hr (fun t ht hW9 => ⟨⟨7, (), rfl, q1.symm, trivial⟩, hS.F ht⟩) hS.2.2 dX7_barsNow_99
            · have hf := it_f hf c_23
              refine lv_bipush (v := 6) hx hb dX7_barsNow_78 (by decide) ?_
              have hf := Option.some.inj hf
              have q1 := hf
              exact W.iret (v := 6) hx hb hr (fun t ht hW9 => ⟨⟨6, (), rfl, q1.symm, trivial⟩, hS.F ht⟩) hS.2.2 dX7_barsNow_80
        · have hf := it_f hf c_15
          refine lv_iconst (v := 5) hx hb dX7_barsNow_62 (by decide) ?_
          have hf := Option.some.inj hf
          have q1 := hf
          exact W.iret (v := 5) hx hb hr (fun t ht hW9 => ⟨⟨5, (), rfl, q1.symm, trivial⟩, hS.F ht⟩) hS.2.2 dX7_barsNow_63
      · have hf := it_f hf c_8
        refine lv_iconst (v := 4) hx hb dX7_barsNow_44 (by decide) ?_
        have hf := Option.some.inj hf
        have q1 := hf
        exact W.iret (v := 4) hx hb hr (fun t ht hW9 => ⟨⟨4, (), rfl, q1.symm, trivial⟩, hS.F ht⟩) hS.2.2 dX7_barsNow_45
    · have hf := it_t hf c_6
      refine lv_aload_n hx hb dX7_barsNow_22 rfl (lv_at hl 2 rfl) ?_
      obtain ⟨q_27, wq_27, heq_27⟩ := heM_Mixx (cy := cy) (I := I) (D := D) hM hk2
      refine va_get (D := (dC, dI)) (ci := 7) (v := .int (I (20 + k2) 3)) (C := RX6) (T := TX6) (N := 5) hx hb hts iX7_barsNow_RX6 hown hK hP q_27 heq_27 rfl 3 (by decide) (hts (.fieldLink RX7 99 "OverrunHouseModel$Mix" "age" "I") (List.mem_cons_of_mem _ (List.mem_append_left _ (List.mem_append_left _ (List.mem_append_left _ (List.mem_append_left _ (List.mem_append_left _ (List.mem_of_getElem? (i := 1) rfl)))))))) (fun _ h9 => h9) rfl dX7_barsNow_23 ?_
      refine lv_iconst (v := 4) hx hb dX7_barsNow_26 (by decide) ?_
      refine lv_icmp_ge (tgt := 34) hx hb dX7_barsNow_27 (by decide) (fun c_28 => ?_) (fun c_28 => ?_)
      · have hf := it_t hf c_28
        refine lv_iconst (v := 3) hx hb dX7_barsNow_34 (by decide) ?_
        have hf := Option.some.inj hf
        have q1 := hf
        exact W.iret (v := 3) hx hb hr (fun t ht hW9 => ⟨⟨3, (), rfl, q1.symm, trivial⟩, hS.F ht⟩) hS.2.2 dX7_barsNow_35
      · have hf := it_f hf c_28
        refine lv_iconst (v := 2) hx hb dX7_barsNow_30 (by decide) ?_
        refine lv_goto (tgt := 35) hx hb dX7_barsNow_31 (by decide) ?_
        have hf := Option.some.inj hf
        have q1 := hf
        exact W.iret (v := 2) hx hb hr (fun t ht hW9 => ⟨⟨2, (), rfl, q1.symm, trivial⟩, hS.F ht⟩) hS.2.2 dX7_barsNow_35
  · have hf := it_t hf c_2
    refine lv_iconst (v := 1) hx hb dX7_barsNow_7 (by decide) ?_
    have hf := Option.some.inj hf
    have q1 := hf
    exact W.iret (v := 1) hx hb hr (fun t ht hW9 => ⟨⟨1, (), rfl, q1.symm, trivial⟩, hS.F ht⟩) hS.2.2 dX7_barsNow_8

def f_X7_canAsk (a b : Nat) (I : Nat → Nat → Int32) (D : Nat → Nat → UInt64) (p1 : Int32) (p2 : Int32) (p3 : Int32) (p4 : Int32) : Option (Int32 × (Nat → Nat → Int32) × (Nat → Nat → UInt64)) :=
  bd (f_X7_in p1 0 1) (fun r_1 => (if r_1 = 0 then nm (up2 I 0 0 1) (fun I_5 => (if (I_5 0 0) = 0 then some (1, I_5, D) else some (0, I_5, D))) else bd (f_X7_isMix a b I D p2) (fun r_8 => (if r_8 = 0 then nm (up2 I 0 0 1) (fun I_31 => (if (I_31 0 0) = 0 then some (1, I_31, D) else some (0, I_31, D))) else bd (f_X7_in p3 5 500) (fun r_12 => (if r_12 = 0 then nm (up2 I 0 0 2) (fun I_16 => (if (I_16 0 0) = 0 then some (1, I_16, D) else some (0, I_16, D))) else bd (f_X7_in p4 20 140) (fun r_19 => (if r_19 = 0 then nm (up2 I 0 0 2) (fun I_27 => (if (I_27 0 0) = 0 then some (1, I_27, D) else some (0, I_27, D))) else nm (up2 I 0 0 0) (fun I_23 => (if (I_23 0 0) = 0 then some (1, I_23, D) else some (0, I_23, D)))))))))))
theorem iX7_canAsk_RX7 : ∀ w ∈ u_ws RX7 TX7 9, w ∈ wsX7_canAsk := fun w h => List.mem_cons_of_mem _ (List.mem_append_left _ (List.mem_append_right _ (h)))
set_option maxHeartbeats 4000000 in
set_option maxRecDepth 100000 in
theorem mt_X7_canAsk (l : Launch) (dC : Nat → ClassId) (dI : Nat → Nat → Nat) (L : List Nat) (a b : Nat) (ad : Nat → Nat) (cy : Nat → ClassId) (hM : mOK L a b ad) (sz : Nat) (I : Nat → Nat → Int32) (D : Nat → Nat → UInt64) (p1 : Int32) (p2 : Int32) (p3 : Int32) (p4 : Int32) (rr : Int32) (I9 : Nat → Nat → Int32) (D9 : Nat → Nat → UInt64) (hf : f_X7_canAsk a b I D p1 p2 p3 p4 = some (rr, I9, D9)) : Met l yX7_canAsk wsX7_canAsk ({ frames := 2, cells := 0, slots := 0, locals := 43 }) (va_Pc [.ref (ad 0), .int p1, .int p2, .int p3, .int p4] (fun U => U.heap.size = sz ∧ wM dC dI L a b ad cy I D U)) (va_Qi (fun r (_ : Unit) => rr = r) (fun _ t => wM dC dI L a b ad cy I9 D9 t) (AM L ad sz)) 0 0 (AM L ad sz) := by
  refine Met.ofW (cc := cX7_canAsk) (maxL := 5) (ret := (some .boolean)) (by decide) rfl ?_
  intro p e s m args below meth c s₁ B hml hv
  obtain ⟨rfl, hsz, hP, hK, hN⟩ := hv
  have hx := B.exec
  have hb := B.bytes
  have hr := B.returns
  have hts := atoms_spec (ws := wsX7_canAsk) B.pre
  have hown : s.vm.findClass RX7 = some m.cls := findClass_of_methodNamed B.named
  have hlocks := B.notSynchronized
  subst hsz
  generalize hAe : AM L ad s.heap.size = A
  have hA : ∀ q : Nat, s.heap.size ≤ q → A q := fun q h => by rw [← hAe]; exact Or.inr h
  have hAL : ∀ k, k ∈ L → A (ad k) := fun k h => by rw [← hAe]; exact Or.inl ⟨k, h, rfl⟩
  have hDD : ∀ I D, va_D A (iwM L a b ad cy I D) := fun I D => iwM_D hM hAL I D
  obtain ⟨H, hH⟩ : ∃ H : Heap, H = s.heap := ⟨_, rfl⟩
  have hS : va_S A s.heap H [] := by rw [hH]; exact va_S.rf
  rw [← hH]
  rw [← hH] at hP
  have hl := lv_entry ([.ref (ad 0), .int p1, .int p2, .int p3, .int p4]) (n := 5) (Nat.le_of_ble_eq_true rfl)
  rw [lg_entry_eq]
  generalize (lg_sl ([.ref (ad 0), .int p1, .int p2, .int p3, .int p4]) ++ List.replicate (5 - (lg_sl ([.ref (ad 0), .int p1, .int p2, .int p3, .int p4])).length) Slot.unset).toArray = ls at hl ⊢
  have hl : lv_has ls 5 [(0, .ref (ad 0)), (1, .int p1), (2, .int p2), (3, .int p3), (4, .int p4)] := hl
  unfold f_X7_canAsk at hf
  refine lv_aload_n hx hb dX7_canAsk_0 rfl (lv_at hl 0 rfl) ?_
  refine lv_iload_n hx hb dX7_canAsk_1 rfl (lv_at hl 1 rfl) ?_
  refine lv_iconst (v := 0) hx hb dX7_canAsk_2 (by decide) ?_
  refine lv_iconst (v := 1) hx hb dX7_canAsk_3 (by decide) ?_
  obtain ⟨r_1, g_2, hf⟩ := bd_out hf
  refine va_calli (va_runS (As := [.int p1, .int 0, .int 1]) (rest := [.ref (ad 0)]) ⟨hx, hb, hml, hown, hts⟩ (mt_X7_in l H.size p1 0 1 r_1 g_2) (va_cwS 3 hts gX7_canAsk_X7_in rfl rfl rfl (by decide +kernel) ⟨Nat.le_of_ble_eq_true rfl, Nat.le_of_ble_eq_true rfl⟩) (pre0 [.int p1, .int 0, .int 1]) rfl rfl hl.1 rfl (lv_room (Nat.le_of_ble_eq_true rfl)) dX7_canAsk_4 ⟨Nat.le_of_ble_eq_true rfl, Nat.le_of_ble_eq_true rfl⟩) hS (fun q _ h => hA q (Nat.le_trans hS.1 h)) (fun q h => hA q (Nat.le_trans hS.1 h)) (fun r9 u t H1 locs ht hvm hw hB hz1 hk1 hS => ?_)
  subst hw
  have hP := va_Pnew hP hk1
  clear hz1 hk1 hvm ht hB
  generalize H1 = H at hP hS ⊢
  refine lv_if_eq (tgt := 18) hx hb dX7_canAsk_7 (by decide) (fun c_3 => ?_) (fun c_3 => ?_)
  · have hf := it_t hf c_3
    refine lv_iconst (v := 1) hx hb dX7_canAsk_18 (by decide) ?_
    refine lv_goto (tgt := 51) hx hb dX7_canAsk_19 (by decide) ?_
    obtain ⟨q_4, wq_4, heq_4⟩ := heM_0 (cy := cy) (I := I) (D := D) hM
    obtain ⟨I_5, eI_5, hf⟩ := nm_out hf
    refine va_put (D := (dC, dI)) (ci := 8) (v := .int 1) (ty := .int) (C := RX7) (T := TX7) (N := 9) hx hb hts iX7_canAsk_RX7 tyX7 tyX7_ok nmX7 hown hK hP (hDD I D) hS q_4 heq_4 rfl 0 (by decide) (hts (.fieldLink RX7 32 "OverrunHouseModel" "thrown" "I") (List.mem_cons_of_mem _ (List.mem_append_left _ (List.mem_append_left _ (List.mem_of_getElem? (i := 0) rfl))))) (fun _ h9 => h9) rfl (by decide +kernel) rfl rfl (Nat.le_of_ble_eq_true rfl) dX7_canAsk_51 (fun H locs hP _ hS => ?_)
    have hP : va_P (dC, dI) vwCl (iwM L a b ad cy I_5 D) H := by rw [eI_5]; exact hqI hM wq_4 ((cellM_0 ad cy a b _ _).trans rfl) hP
    refine lv_aload_n hx hb dX7_canAsk_54 rfl (lv_at hl 0 rfl) ?_
    obtain ⟨q_6, wq_6, heq_6⟩ := heM_0 (cy := cy) (I := I_5) (D := D) hM
    refine va_get (D := (dC, dI)) (ci := 8) (v := .int (I_5 0 0)) (C := RX7) (T := TX7) (N := 9) hx hb hts iX7_canAsk_RX7 hown hK hP q_6 heq_6 rfl 0 (by decide) (hts (.fieldLink RX7 32 "OverrunHouseModel" "thrown" "I") (List.mem_cons_of_mem _ (List.mem_append_left _ (List.mem_append_left _ (List.mem_of_getElem? (i := 0) rfl))))) (fun _ h9 => h9) rfl dX7_canAsk_55 ?_
    refine lv_if_ne (tgt := 65) hx hb dX7_canAsk_58 (by decide) (fun c_7 => ?_) (fun c_7 => ?_)
    · have hf := it_f hf c_7
      refine lv_iconst (v := 0) hx hb dX7_canAsk_65 (by decide) ?_
      have hf := Option.some.inj hf
      obtain ⟨q1, q2⟩ := Prod.mk.inj hf
      obtain ⟨q2, q3⟩ := Prod.mk.inj q2
      rw [q2, q3] at hP
      exact W.zret (ty := .boolean) (v := 0) hx hb hr rfl (fun t ht hW9 => ⟨⟨0, (), rfl, q1.symm, wM.of hP hK hN ht hW9⟩, hS.F ht⟩) hS.2.2 dX7_canAsk_66
    · have hf := it_t hf c_7
      refine lv_iconst (v := 1) hx hb dX7_canAsk_61 (by decide) ?_
      refine lv_goto (tgt := 66) hx hb dX7_canAsk_62 (by decide) ?_
      have hf := Option.some.inj hf
      obtain ⟨q1, q2⟩ := Prod.mk.inj hf
      obtain ⟨q2, q3⟩ := Prod.mk.inj q2
      rw [q2, q3] at hP
      exact W.zret (ty := .boolean) (v := 1) hx hb hr rfl (fun t ht hW9 => ⟨⟨1, (), rfl, q1.symm, wM.of hP hK hN ht hW9⟩, hS.F ht⟩) hS.2.2 dX7_canAsk_66
  · have hf := it_f hf c_3
    refine lv_aload_n hx hb dX7_canAsk_10 rfl (lv_at hl 0 rfl) ?_
    refine lv_iload_n hx hb dX7_canAsk_11 rfl (lv_at hl 2 rfl) ?_
    obtain ⟨r_8, g_9, hf⟩ := bd_out hf
    obtain ⟨q_10, wq_10, heq_10⟩ := heM_0 (cy := cy) (I := I) (D := D) hM
    refine va_calli (va_runV (As := [.int p2]) (rest := [.ref (ad 0)]) ⟨hx, hb, hml, hown, hts⟩ (mt_X7_isMix l dC dI L a b ad cy hM H.size I D p2 r_8 g_9) (cwV 1 hts gX7_canAsk_X7_isMix rfl rfl rfl (by decide +kernel) ⟨Nat.le_of_ble_eq_true rfl, Nat.le_of_ble_eq_true rfl⟩) ⟨(wM.pre [.ref (ad 0), .int p2] hP hK hN).1, wM.recv (C := RX7) (T := TX7) (N := 9) hP hK heq_10 rfl, (wM.pre [.ref (ad 0), .int p2] hP hK hN).2⟩ rfl rfl hl.1 rfl (lv_room (Nat.le_of_ble_eq_true rfl)) dX7_canAsk_12 ⟨Nat.le_of_ble_eq_true rfl, Nat.le_of_ble_eq_true rfl⟩) hS (fun q _ h => hA q (Nat.le_trans hS.1 h)) (fun q h => hA q (Nat.le_trans hS.1 h)) (fun r9 u t H1 locs ht hvm hw hB hz1 hk1 hS => ?_)
    subst hw
    have hP := va_Pnew hP hk1
    clear hz1 hk1 hvm ht hB
    generalize H1 = H at hP hS ⊢
    refine lv_if_ne (tgt := 22) hx hb dX7_canAsk_15 (by decide) (fun c_11 => ?_) (fun c_11 => ?_)
    · have hf := it_f hf c_11
      refine lv_iload_n hx hb dX7_canAsk_22 rfl (lv_at hl 3 rfl) ?_
      refine lv_iconst (v := 5) hx hb dX7_canAsk_23 (by decide) ?_
      refine lv_sipush (v := 500) hx hb dX7_canAsk_24 (by decide) ?_
      obtain ⟨r_12, g_13, hf⟩ := bd_out hf
      refine va_calli (va_runS (As := [.int p3, .int 5, .int 500]) (rest := [.ref (ad 0)]) ⟨hx, hb, hml, hown, hts⟩ (mt_X7_in l H.size p3 5 500 r_12 g_13) (va_cwS 3 hts gX7_canAsk_X7_in rfl rfl rfl (by decide +kernel) ⟨Nat.le_of_ble_eq_true rfl, Nat.le_of_ble_eq_true rfl⟩) (pre0 [.int p3, .int 5, .int 500]) rfl rfl hl.1 rfl (lv_room (Nat.le_of_ble_eq_true rfl)) dX7_canAsk_27 ⟨Nat.le_of_ble_eq_true rfl, Nat.le_of_ble_eq_true rfl⟩) hS (fun q _ h => hA q (Nat.le_trans hS.1 h)) (fun q h => hA q (Nat.le_trans hS.1 h)) (fun r9 u t H1 locs ht hvm hw hB hz1 hk1 hS => ?_)
      subst hw
      have hP := va_Pnew hP hk1
      clear hz1 hk1 hvm ht hB
      generalize H1 = H at hP hS ⊢
      refine lv_if_eq (tgt := 46) hx hb dX7_canAsk_30 (by decide) (fun c_14 => ?_) (fun c_14 => ?_)
      · have hf := it_t hf c_14
        refine lv_iconst (v := 2) hx hb dX7_canAsk_46 (by decide) ?_
        refine lv_goto (tgt := 51) hx hb dX7_canAsk_47 (by decide) ?_
        obtain ⟨q_15, wq_15, heq_15⟩ := heM_0 (cy := cy) (I := I) (D := D) hM
        obtain ⟨I_16, eI_16, hf⟩ := nm_out hf
        refine va_put (D := (dC, dI)) (ci := 8) (v := .int 2) (ty := .int) (C := RX7) (T := TX7) (N := 9) hx hb hts iX7_canAsk_RX7 tyX7 tyX7_ok nmX7 hown hK hP (hDD I D) hS q_15 heq_15 rfl 0 (by decide) (hts (.fieldLink RX7 32 "OverrunHouseModel" "thrown" "I") (List.mem_cons_of_mem _ (List.mem_append_left _ (List.mem_append_left _ (List.mem_of_getElem? (i := 0) rfl))))) (fun _ h9 => h9) rfl (by decide +kernel) rfl rfl (Nat.le_of_ble_eq_true rfl) dX7_canAsk_51 (fun H locs hP _ hS => ?_)
        have hP : va_P (dC, dI) vwCl (iwM L a b ad cy I_16 D) H := by rw [eI_16]; exact hqI hM wq_15 ((cellM_0 ad cy a b _ _).trans rfl) hP
        refine lv_aload_n hx hb dX7_canAsk_54 rfl (lv_at hl 0 rfl) ?_
        obtain ⟨q_17, wq_17, heq_17⟩ := heM_0 (cy := cy) (I := I_16) (D := D) hM
        refine va_get (D := (dC, dI)) (ci := 8) (v := .int (I_16 0 0)) (C := RX7) (T := TX7) (N := 9) hx hb hts iX7_canAsk_RX7 hown hK hP q_17 heq_17 rfl 0 (by decide) (hts (.fieldLink RX7 32 "OverrunHouseModel" "thrown" "I") (List.mem_cons_of_mem _ (List.mem_append_left _ (List.mem_append_left _ (List.mem_of_getElem? (i := 0) rfl))))) (fun _ h9 => h9) rfl dX7_canAsk_55 ?_
        refine lv_if_ne (tgt := 65) hx hb dX7_canAsk_58 (by decide) (fun c_18 => ?_) (fun c_18 => ?_)
        · have hf := it_f hf c_18
          refine lv_iconst (v := 0) hx hb dX7_canAsk_65 (by decide) ?_
          have hf := Option.some.inj hf
          obtain ⟨q1, q2⟩ := Prod.mk.inj hf
          obtain ⟨q2, q3⟩ := Prod.mk.inj q2
          rw [q2, q3] at hP
          exact W.zret (ty := .boolean) (v := 0) hx hb hr rfl (fun t ht hW9 => ⟨⟨0, (), rfl, q1.symm, wM.of hP hK hN ht hW9⟩, hS.F ht⟩) hS.2.2 dX7_canAsk_66
        · have hf := it_t hf c_18
          refine lv_iconst (v := 1) hx hb dX7_canAsk_61 (by decide) ?_
          refine lv_goto (tgt := 66) hx hb dX7_canAsk_62 (by decide) ?_
          have hf := Option.some.inj hf
          obtain ⟨q1, q2⟩ := Prod.mk.inj hf
          obtain ⟨q2, q3⟩ := Prod.mk.inj q2
          rw [q2, q3] at hP
          exact W.zret (ty := .boolean) (v := 1) hx hb hr rfl (fun t ht hW9 => ⟨⟨1, (), rfl, q1.symm, wM.of hP hK hN ht hW9⟩, hS.F ht⟩) hS.2.2 dX7_canAsk_66
      · have hf := it_f hf c_14
        refine lv_iload hx hb dX7_canAsk_33 (lv_at hl 4 rfl) ?_
        refine lv_bipush (v := 20) hx hb dX7_canAsk_35 (by decide) ?_
        refine lv_sipush (v := 140) hx hb dX7_canAsk_37 (by decide) ?_
        obtain ⟨r_19, g_20, hf⟩ := bd_out hf
        refine va_calli (va_runS (As := [.int p4, .int 20, .int 140]) (rest := [.ref (ad 0)]) ⟨hx, hb, hml, hown, hts⟩ (mt_X7_in l H.size p4 20 140 r_19 g_20) (va_cwS 3 hts gX7_canAsk_X7_in rfl rfl rfl (by decide +kernel) ⟨Nat.le_of_ble_eq_true rfl, Nat.le_of_ble_eq_true rfl⟩) (pre0 [.int p4, .int 20, .int 140]) rfl rfl hl.1 rfl (lv_room (Nat.le_of_ble_eq_true rfl)) dX7_canAsk_40 ⟨Nat.le_of_ble_eq_true rfl, Nat.le_of_ble_eq_true rfl⟩) hS (fun q _ h => hA q (Nat.le_trans hS.1 h)) (fun q h => hA q (Nat.le_trans hS.1 h)) (fun r9 u t H1 locs ht hvm hw hB hz1 hk1 hS => ?_)
        subst hw
        have hP := va_Pnew hP hk1
        clear hz1 hk1 hvm ht hB
        generalize H1 = H at hP hS ⊢
        refine lv_if_ne (tgt := 50) hx hb dX7_canAsk_43 (by decide) (fun c_21 => ?_) (fun c_21 => ?_)
        · have hf := it_f hf c_21
          refine lv_iconst (v := 0) hx hb dX7_canAsk_50 (by decide) ?_
          obtain ⟨q_22, wq_22, heq_22⟩ := heM_0 (cy := cy) (I := I) (D := D) hM
          obtain ⟨I_23, eI_23, hf⟩ := nm_out hf
          refine va_put (D := (dC, dI)) (ci := 8) (v := .int 0) (ty := .int) (C := RX7) (T := TX7) (N := 9) hx hb hts iX7_canAsk_RX7 tyX7 tyX7_ok nmX7 hown hK hP (hDD I D) hS q_22 heq_22 rfl 0 (by decide) (hts (.fieldLink RX7 32 "OverrunHouseModel" "thrown" "I") (List.mem_cons_of_mem _ (List.mem_append_left _ (List.mem_append_left _ (List.mem_of_getElem? (i := 0) rfl))))) (fun _ h9 => h9) rfl (by decide +kernel) rfl rfl (Nat.le_of_ble_eq_true rfl) dX7_canAsk_51 (fun H locs hP _ hS => ?_)
          have hP : va_P (dC, dI) vwCl (iwM L a b ad cy I_23 D) H := by rw [eI_23]; exact hqI hM wq_22 ((cellM_0 ad cy a b _ _).trans rfl) hP
          refine lv_aload_n hx hb dX7_canAsk_54 rfl (lv_at hl 0 rfl) ?_
          obtain ⟨q_24, wq_24, heq_24⟩ := heM_0 (cy := cy) (I := I_23) (D := D) hM
          refine va_get (D := (dC, dI)) (ci := 8) (v := .int (I_23 0 0)) (C := RX7) (T := TX7) (N := 9) hx hb hts iX7_canAsk_RX7 hown hK hP q_24 heq_24 rfl 0 (by decide) (hts (.fieldLink RX7 32 "OverrunHouseModel" "thrown" "I") (List.mem_cons_of_mem _ (List.mem_append_left _ (List.mem_append_left _ (List.mem_of_getElem? (i := 0) rfl))))) (fun _ h9 => h9) rfl dX7_canAsk_55 ?_
          refine lv_if_ne (tgt := 65) hx hb dX7_canAsk_58 (by decide) (fun c_25 => ?_) (fun c_25 => ?_)
          · have hf := it_f hf c_25
            refine lv_iconst (v := 0) hx hb dX7_canAsk_65 (by decide) ?_
            have hf := Option.some.inj hf
            obtain ⟨q1, q2⟩ := Prod.mk.inj hf
            obtain ⟨q2, q3⟩ := Prod.mk.inj q2
            rw [q2, q3] at hP
            exact W.zret (ty := .boolean) (v := 0) hx hb hr rfl (fun t ht hW9 => ⟨⟨0, (), rfl, q1.symm, wM.of hP hK hN ht hW9⟩, hS.F ht⟩) hS.2.2 dX7_canAsk_66
          · have hf := it_t hf c_25
            refine lv_iconst (v := 1) hx hb dX7_canAsk_61 (by decide) ?_
            refine lv_goto (tgt := 66) hx hb dX7_canAsk_62 (by decide) ?_
            have hf := Option.some.inj hf
            obtain ⟨q1, q2⟩ := Prod.mk.inj hf
            obtain ⟨q2, q3⟩ := Prod.mk.inj q2
            rw [q2, q3] at hP
            exact W.zret (ty := .boolean) (v := 1) hx hb hr rfl (fun t ht hW9 => ⟨⟨1, (), rfl, q1.symm, wM.of hP hK hN ht hW9⟩, hS.F ht⟩) hS.2.2 dX7_canAsk_66
        · have hf := it_t hf c_21
          refine lv_iconst (v := 2) hx hb dX7_canAsk_46 (by decide) ?_
          refine lv_goto (tgt := 51) hx hb dX7_canAsk_47 (by decide) ?_
          obtain ⟨q_26, wq_26, heq_26⟩ := heM_0 (cy := cy) (I := I) (D := D) hM
          obtain ⟨I_27, eI_27, hf⟩ := nm_out hf
          refine va_put (D := (dC, dI)) (ci := 8) (v := .int 2) (ty := .int) (C := RX7) (T := TX7) (N := 9) hx hb hts iX7_canAsk_RX7 tyX7 tyX7_ok nmX7 hown hK hP (hDD I D) hS q_26 heq_26 rfl 0 (by decide) (hts (.fieldLink RX7 32 "OverrunHouseModel" "thrown" "I") (List.mem_cons_of_mem _ (List.mem_append_left _ (List.mem_append_left _ (List.mem_of_getElem? (i := 0) rfl))))) (fun _ h9 => h9) rfl (by decide +kernel) rfl rfl (Nat.le_of_ble_eq_true rfl) dX7_canAsk_51 (fun H locs hP _ hS => ?_)
          have hP : va_P (dC, dI) vwCl (iwM L a b ad cy I_27 D) H := by rw [eI_27]; exact hqI hM wq_26 ((cellM_0 ad cy a b _ _).trans rfl) hP
          refine lv_aload_n hx hb dX7_canAsk_54 rfl (lv_at hl 0 rfl) ?_
          obtain ⟨q_28, wq_28, heq_28⟩ := heM_0 (cy := cy) (I := I_27) (D := D) hM
          refine va_get (D := (dC, dI)) (ci := 8) (v := .int (I_27 0 0)) (C := RX7) (T := TX7) (N := 9) hx hb hts iX7_canAsk_RX7 hown hK hP q_28 heq_28 rfl 0 (by decide) (hts (.fieldLink RX7 32 "OverrunHouseModel" "thrown" "I") (List.mem_cons_of_mem _ (List.mem_append_left _ (List.mem_append_left _ (List.mem_of_getElem? (i := 0) rfl))))) (fun _ h9 => h9) rfl dX7_canAsk_55 ?_
          refine lv_if_ne (tgt := 65) hx hb dX7_canAsk_58 (by decide) (fun c_29 => ?_) (fun c_29 => ?_)
          · have hf := it_f hf c_29
            refine lv_iconst (v := 0) hx hb dX7_canAsk_65 (by decide) ?_
            have hf := Option.some.inj hf
            obtain ⟨q1, q2⟩ := Prod.mk.inj hf
            obtain ⟨q2, q3⟩ := Prod.mk.inj q2
            rw [q2, q3] at hP
            exact W.zret (ty := .boolean) (v := 0) hx hb hr rfl (fun t ht hW9 => ⟨⟨0, (), rfl, q1.symm, wM.of hP hK hN ht hW9⟩, hS.F ht⟩) hS.2.2 dX7_canAsk_66
          · have hf := it_t hf c_29
            refine lv_iconst (v := 1) hx hb dX7_canAsk_61 (by decide) ?_
            refine lv_goto (tgt := 66) hx hb dX7_canAsk_62 (by decide) ?_
            have hf := Option.some.inj hf
            obtain ⟨q1, q2⟩ := Prod.mk.inj hf
            obtain ⟨q2, q3⟩ := Prod.mk.inj q2
            rw [q2, q3] at hP
            exact W.zret (ty := .boolean) (v := 1) hx hb hr rfl (fun t ht hW9 => ⟨⟨1, (), rfl, q1.symm, wM.of hP hK hN ht hW9⟩, hS.F ht⟩) hS.2.2 dX7_canAsk_66
    · have hf := it_t hf c_11
      refine lv_iconst (v := 1) hx hb dX7_canAsk_18 (by decide) ?_
      refine lv_goto (tgt := 51) hx hb dX7_canAsk_19 (by decide) ?_
      obtain ⟨q_30, wq_30, heq_30⟩ := heM_0 (cy := cy) (I := I) (D := D) hM
      obtain ⟨I_31, eI_31, hf⟩ := nm_out hf
      refine va_put (D := (dC, dI)) (ci := 8) (v := .int 1) (ty := .int) (C := RX7) (T := TX7) (N := 9) hx hb hts iX7_canAsk_RX7 tyX7 tyX7_ok nmX7 hown hK hP (hDD I D) hS q_30 heq_30 rfl 0 (by decide) (hts (.fieldLink RX7 32 "OverrunHouseModel" "thrown" "I") (List.mem_cons_of_mem _ (List.mem_append_left _ (List.mem_append_left _ (List.mem_of_getElem? (i := 0) rfl))))) (fun _ h9 => h9) rfl (by decide +kernel) rfl rfl (Nat.le_of_ble_eq_true rfl) dX7_canAsk_51 (fun H locs hP _ hS => ?_)
      have hP : va_P (dC, dI) vwCl (iwM L a b ad cy I_31 D) H := by rw [eI_31]; exact hqI hM wq_30 ((cellM_0 ad cy a b _ _).trans rfl) hP
      refine lv_aload_n hx hb dX7_canAsk_54 rfl (lv_at hl 0 rfl) ?_
      obtain ⟨q_32, wq_32, heq_32⟩ := heM_0 (cy := cy) (I := I_31) (D := D) hM
      refine va_get (D := (dC, dI)) (ci := 8) (v := .int (I_31 0 0)) (C := RX7) (T := TX7) (N := 9) hx hb hts iX7_canAsk_RX7 hown hK hP q_32 heq_32 rfl 0 (by decide) (hts (.fieldLink RX7 32 "OverrunHouseModel" "thrown" "I") (List.mem_cons_of_mem _ (List.mem_append_left _ (List.mem_append_left _ (List.mem_of_getElem? (i := 0) rfl))))) (fun _ h9 => h9) rfl dX7_canAsk_55 ?_
      refine lv_if_ne (tgt := 65) hx hb dX7_canAsk_58 (by decide) (fun c_33 => ?_) (fun c_33 => ?_)
      · have hf := it_f hf c_33
        refine lv_iconst (v := 0) hx hb dX7_canAsk_65 (by decide) ?_
        have hf := Option.some.inj hf
        obtain ⟨q1, q2⟩ := Prod.mk.inj hf
        obtain ⟨q2, q3⟩ := Prod.mk.inj q2
        rw [q2, q3] at hP
        exact W.zret (ty := .boolean) (v := 0) hx hb hr rfl (fun t ht hW9 => ⟨⟨0, (), rfl, q1.symm, wM.of hP hK hN ht hW9⟩, hS.F ht⟩) hS.2.2 dX7_canAsk_66
      · have hf := it_t hf c_33
        refine lv_iconst (v := 1) hx hb dX7_canAsk_61 (by decide) ?_
        refine lv_goto (tgt := 66) hx hb dX7_canAsk_62 (by decide) ?_
        have hf := Option.some.inj hf
        obtain ⟨q1, q2⟩ := Prod.mk.inj hf
        obtain ⟨q2, q3⟩ := Prod.mk.inj q2
        rw [q2, q3] at hP
        exact W.zret (ty := .boolean) (v := 1) hx hb hr rfl (fun t ht hW9 => ⟨⟨1, (), rfl, q1.symm, wM.of hP hK hN ht hW9⟩, hS.F ht⟩) hS.2.2 dX7_canAsk_66

def f_X7_run (a b : Nat) (I : Nat → Nat → Int32) (D : Nat → Nat → UInt64) (p1 : Int32) (p2 : Int32) (p3 : Int32) (p4 : Int32) : Option (Int32 × (Nat → Nat → Int32) × (Nat → Nat → UInt64)) :=
  bd (f_X7_canAsk a b I D p1 p2 p3 p4) (fun (r_1, I_3, D_4) => (if r_1 = 0 then some (0, I_3, D_4) else bd (f_get2 a b I_3 D_4 p2) (fun r_8 => bd (f_X7_barsNow a b I_3 D_4 p1 r_8 p3 p4) (fun r_12 => (if r_12 ≤ 0 then nm (up2 I_3 (20 + r_8) 1 ((I_3 (20 + r_8) 1) - p3)) (fun I_18 => bd (f_X6_harms a b I_18 D_4 r_8) (fun r_20 => ck (inB p1 2) (nm (up2 I_18 13 (p1).toNatClampNeg r_20) (fun I_25 => nm (up2 I_25 5 0 ((I_25 5 0) + 1)) (fun I_29 => ck (inB (I_25 5 0) 12) (nm (up2 I_29 (5 + 1) ((I_25 5 0)).toNatClampNeg p2) (fun I_34 => ck (inB (I_25 5 0) 12) (nm (up2 I_34 (5 + 2) ((I_25 5 0)).toNatClampNeg (((p3 - 2) * (100 + p4)) / 100)) (fun I_39 => ck (inB (I_25 5 0) 12) (nm (up2 I_39 (5 + 4) ((I_25 5 0)).toNatClampNeg (-1)) (fun I_44 => ck (inB (I_25 5 0) 12) (nm (up2 D_4 (5 + 5) ((I_25 5 0)).toNatClampNeg (4626322717216342016 : UInt64)) (fun D_49 => some ((I_25 5 0), I_44, D_49)))))))))))))) else some (((-10) - r_12), I_3, D_4))))))
theorem iX7_run_RX5 : ∀ w ∈ u_ws RX5 TX5 10, w ∈ wsX7_run := fun w h => List.mem_cons_of_mem _ (List.mem_append_left _ (List.mem_append_right _ (h)))
theorem iX7_run_RX7 : ∀ w ∈ u_ws RX7 TX7 9, w ∈ wsX7_run := fun w h => List.mem_cons_of_mem _ (List.mem_append_left _ (List.mem_append_left _ (List.mem_append_left _ (List.mem_append_right _ (h)))))
theorem iX7_run_RX6 : ∀ w ∈ u_ws RX6 TX6 5, w ∈ wsX7_run := fun w h => List.mem_cons_of_mem _ (List.mem_append_left _ (List.mem_append_left _ (List.mem_append_right _ (h))))
set_option maxHeartbeats 4000000 in
set_option maxRecDepth 100000 in
theorem mt_X7_run (l : Launch) (dC : Nat → ClassId) (dI : Nat → Nat → Nat) (L : List Nat) (a b : Nat) (ad : Nat → Nat) (cy : Nat → ClassId) (hM : mOK L a b ad) (sz : Nat) (I : Nat → Nat → Int32) (D : Nat → Nat → UInt64) (p1 : Int32) (p2 : Int32) (p3 : Int32) (p4 : Int32) (rr : Int32) (I9 : Nat → Nat → Int32) (D9 : Nat → Nat → UInt64) (hf : f_X7_run a b I D p1 p2 p3 p4 = some (rr, I9, D9)) : Met l yX7_run wsX7_run ({ frames := 8, cells := 0, slots := 0, locals := 222 }) (va_Pc [.ref (ad 0), .int p1, .int p2, .int p3, .int p4] (fun U => U.heap.size = sz ∧ wM dC dI L a b ad cy I D U)) (va_Qi (fun r (_ : Unit) => rr = r) (fun _ t => wM dC dI L a b ad cy I9 D9 t) (AM L ad sz)) 0 0 (AM L ad sz) := by
  refine Met.ofW (cc := cX7_run) (maxL := 8) (ret := (some .int)) (by decide) rfl ?_
  intro p e s m args below meth c s₁ B hml hv
  obtain ⟨rfl, hsz, hP, hK, hN⟩ := hv
  have hx := B.exec
  have hb := B.bytes
  have hr := B.returns
  have hts := atoms_spec (ws := wsX7_run) B.pre
  have hown : s.vm.findClass RX7 = some m.cls := findClass_of_methodNamed B.named
  have hlocks := B.notSynchronized
  subst hsz
  generalize hAe : AM L ad s.heap.size = A
  have hA : ∀ q : Nat, s.heap.size ≤ q → A q := fun q h => by rw [← hAe]; exact Or.inr h
  have hAL : ∀ k, k ∈ L → A (ad k) := fun k h => by rw [← hAe]; exact Or.inl ⟨k, h, rfl⟩
  have hDD : ∀ I D, va_D A (iwM L a b ad cy I D) := fun I D => iwM_D hM hAL I D
  obtain ⟨H, hH⟩ : ∃ H : Heap, H = s.heap := ⟨_, rfl⟩
  have hS : va_S A s.heap H [] := by rw [hH]; exact va_S.rf
  rw [← hH]
  rw [← hH] at hP
  have hl := lv_entry ([.ref (ad 0), .int p1, .int p2, .int p3, .int p4]) (n := 8) (Nat.le_of_ble_eq_true rfl)
  rw [lg_entry_eq]
  generalize (lg_sl ([.ref (ad 0), .int p1, .int p2, .int p3, .int p4]) ++ List.replicate (8 - (lg_sl ([.ref (ad 0), .int p1, .int p2, .int p3, .int p4])).length) Slot.unset).toArray = ls at hl ⊢
  have hl : lv_has ls 8 [(0, .ref (ad 0)), (1, .int p1), (2, .int p2), (3, .int p3), (4, .int p4)] := hl
  unfold f_X7_run at hf
  refine lv_aload_n hx hb dX7_run_0 rfl (lv_at hl 0 rfl) ?_
  refine lv_iload_n hx hb dX7_run_1 rfl (lv_at hl 1 rfl) ?_
  refine lv_iload_n hx hb dX7_run_2 rfl (lv_at hl 2 rfl) ?_
  refine lv_iload_n hx hb dX7_run_3 rfl (lv_at hl 3 rfl) ?_
  refine lv_iload hx hb dX7_run_4 (lv_at hl 4 rfl) ?_
  obtain ⟨⟨r_1, I_3, D_4⟩, g_2, hf⟩ := bd_out hf
  obtain ⟨q_5, wq_5, heq_5⟩ := heM_0 (cy := cy) (I := I) (D := D) hM
  have hAW : ∀ q, AM L ad H.size q → A q := fun q h => h.elim (fun ⟨k, k1, k2⟩ => k2 ▸ hAL k k1) (fun h => hA q (Nat.le_trans hS.1 h))
  refine va_calli (va_runV (As := [.int p1, .int p2, .int p3, .int p4]) (rest := []) ⟨hx, hb, hml, hown, hts⟩ (mt_X7_canAsk l dC dI L a b ad cy hM H.size I D p1 p2 p3 p4 r_1 I_3 D_4 g_2) (cwV 4 hts gX7_run_X7_canAsk rfl rfl rfl (by decide +kernel) ⟨Nat.le_of_ble_eq_true rfl, Nat.le_of_ble_eq_true rfl⟩) ⟨(wM.pre [.ref (ad 0), .int p1, .int p2, .int p3, .int p4] hP hK hN).1, wM.recv (C := RX7) (T := TX7) (N := 9) hP hK heq_5 rfl, (wM.pre [.ref (ad 0), .int p1, .int p2, .int p3, .int p4] hP hK hN).2⟩ rfl rfl hl.1 rfl (lv_room (Nat.le_of_ble_eq_true rfl)) dX7_run_6 ⟨Nat.le_of_ble_eq_true rfl, Nat.le_of_ble_eq_true rfl⟩) hS (fun q _ h => hAW q h) hAW (fun r9 u t H1 locs ht hvm hw hB hz1 hk1 hS => ?_)
  subst hw
  have hP : va_P (dC, dI) vwCl (iwM L a b ad cy I_3 D_4) H1 := by rw [← ht]; exact hB.1
  clear hz1 hk1 hvm ht hB
  generalize H1 = H at hP hS ⊢
  refine lv_if_ne (tgt := 14) hx hb dX7_run_9 (by decide) (fun c_6 => ?_) (fun c_6 => ?_)
  · have hf := it_f hf c_6
    refine lv_aload_n hx hb dX7_run_14 rfl (lv_at hl 0 rfl) ?_
    obtain ⟨q_7, wq_7, heq_7⟩ := heM_0 (cy := cy) (I := I_3) (D := D_4) hM
    refine va_get (D := (dC, dI)) (ci := 8) (v := .ref (ad 2)) (C := RX7) (T := TX7) (N := 9) hx hb hts iX7_run_RX7 hown hK hP q_7 heq_7 rfl 2 (by decide) (hts (.fieldLink RX7 16 "OverrunHouseModel" "mixes" "Ljava/util/List;") (List.mem_cons_of_mem _ (List.mem_append_left _ (List.mem_append_left _ (List.mem_append_left _ (List.mem_append_left _ (List.mem_append_left _ (List.mem_of_getElem? (i := 0) rfl)))))))) (fun _ h9 => h9) rfl dX7_run_15 ?_
    refine lv_iload_n hx hb dX7_run_18 rfl (lv_at hl 2 rfl) ?_
    obtain ⟨r_8, g_9, hf⟩ := bd_out hf
    obtain ⟨q_10, wq_10, heq_10⟩ := heM_2 (cy := cy) (I := I_3) (D := D_4) hM
    refine va_callFr (va_runF (As := [.int p2]) (rest := []) (hK.1 0 _ rfl).2 ⟨hx, hb, hml, hown, hts⟩ (mt_get2 l dC dI L a b ad cy hM H.size I_3 D_4 p2 r_8 g_9) (va_cwF 1 hts gX7_run_Jx4a65c_get_915e3_f55Jx4a65c rfl rfl rfl hN.2.2.1 (by decide +kernel) ⟨Nat.le_of_ble_eq_true rfl, Nat.le_of_ble_eq_true rfl⟩) ⟨(wM.pre [.ref (ad 2), .int p2] hP hK hN).1, wM.recv (C := RJx4a65c) (T := TJx4a65c) (N := 3) hP hK heq_10 rfl, (wM.pre [.ref (ad 2), .int p2] hP hK hN).2⟩ rfl rfl hl.1 rfl (lv_room (Nat.le_of_ble_eq_true rfl)) dX7_run_19 ⟨Nat.le_of_ble_eq_true rfl, Nat.le_of_ble_eq_true rfl⟩) hS (fun q _ h => hA q (Nat.le_trans hS.1 h)) (fun q h => hA q (Nat.le_trans hS.1 h)) (fun u r9 t H1 locs ht hvm hw hB hz1 hk1 hS => ?_)
    subst hB
    have hP := va_Pnew hP hk1
    clear hz1 hk1 hvm ht
    generalize H1 = H at hP hS ⊢
    obtain ⟨q_11, wq_11, heq_11⟩ := heM_Mixx (cy := cy) (I := I_3) (D := D_4) hM (f_get2_lt g_9)
    refine va_castS hx hb hown (hts (.classLink RX7 59 "OverrunHouseModel$Mix") (List.mem_cons_of_mem _ (List.mem_append_left _ (List.mem_append_left _ (List.mem_append_left _ (List.mem_append_left _ (List.mem_append_left _ (List.mem_of_getElem? (i := 1) rfl)))))))) (hK.1 7 _ rfl).2 (wM.recv (C := RX6) (T := TX6) (N := 5) hP hK heq_11 rfl) dX7_run_24 ?_
    refine lv_astore (lv' := [(5, .ref (ad (20 + r_8))), (0, .ref (ad 0)), (1, .int p1), (2, .int p2), (3, .int p3), (4, .int p4)]) hx hb dX7_run_27 hl (by decide) rfl (fun ls hl => ?_)
    refine lv_aload_n hx hb dX7_run_29 rfl (lv_at hl 1 rfl) ?_
    refine lv_iload_n hx hb dX7_run_30 rfl (lv_at hl 2 rfl) ?_
    refine lv_aload hx hb dX7_run_31 (lv_at hl 0 rfl) ?_
    refine lv_iload_n hx hb dX7_run_33 rfl (lv_at hl 4 rfl) ?_
    refine lv_iload hx hb dX7_run_34 (lv_at hl 5 rfl) ?_
    obtain ⟨r_12, g_13, hf⟩ := bd_out hf
    obtain ⟨q_14, wq_14, heq_14⟩ := heM_0 (cy := cy) (I := I_3) (D := D_4) hM
    refine va_calli (va_runV (As := [.int p1, .ref (ad (20 + r_8)), .int p3, .int p4]) (rest := []) ⟨hx, hb, hml, hown, hts⟩ (mt_X7_barsNow l dC dI L a b ad cy hM H.size I_3 D_4 p1 r_8 (f_get2_lt g_9) p3 p4 r_12 g_13) (cwV 4 hts gX7_run_X7_barsNow rfl rfl rfl (by decide +kernel) ⟨Nat.le_of_ble_eq_true rfl, Nat.le_of_ble_eq_true rfl⟩) ⟨(wM.pre [.ref (ad 0), .int p1, .ref (ad (20 + r_8)), .int p3, .int p4] hP hK hN).1, wM.recv (C := RX7) (T := TX7) (N := 9) hP hK heq_14 rfl, (wM.pre [.ref (ad 0), .int p1, .ref (ad (20 + r_8)), .int p3, .int p4] hP hK hN).2⟩ rfl rfl hl.1 rfl (lv_room (Nat.le_of_ble_eq_true rfl)) dX7_run_36 ⟨Nat.le_of_ble_eq_true rfl, Nat.le_of_ble_eq_true rfl⟩) hS (fun q _ h => hA q (Nat.le_trans hS.1 h)) (fun q h => hA q (Nat.le_trans hS.1 h)) (fun r9 u t H1 locs ht hvm hw hB hz1 hk1 hS => ?_)
    subst hw
    have hP := va_Pnew hP hk1
    clear hz1 hk1 hvm ht hB
    generalize H1 = H at hP hS ⊢
    refine lv_istore (lv' := [(6, .int r_12), (5, .ref (ad (20 + r_8))), (0, .ref (ad 0)), (1, .int p1), (2, .int p2), (3, .int p3), (4, .int p4)]) hx hb dX7_run_39 hl (by decide) rfl (fun ls hl => ?_)
    refine lv_iload hx hb dX7_run_41 (lv_at hl 0 rfl) ?_
    refine lv_if_le (tgt := 52) hx hb dX7_run_43 (by decide) (fun c_15 => ?_) (fun c_15 => ?_)
    · have hf := it_t hf c_15
      refine lv_aload hx hb dX7_run_52 (lv_at hl 1 rfl) ?_
      refine lv_dup hx hb dX7_run_54 rfl ?_
      obtain ⟨q_16, wq_16, heq_16⟩ := heM_Mixx (cy := cy) (I := I_3) (D := D_4) hM (f_get2_lt g_9)
      refine va_get (D := (dC, dI)) (ci := 7) (v := .int (I_3 (20 + r_8) 1)) (C := RX6) (T := TX6) (N := 5) hx hb hts iX7_run_RX6 hown hK hP q_16 heq_16 rfl 1 (by decide) (hts (.fieldLink RX7 102 "OverrunHouseModel$Mix" "left" "I") (List.mem_cons_of_mem _ (List.mem_append_left _ (List.mem_append_left _ (List.mem_append_left _ (List.mem_append_left _ (List.mem_append_left _ (List.mem_of_getElem? (i := 2) rfl)))))))) (fun _ h9 => h9) rfl dX7_run_55 ?_
      refine lv_iload_n hx hb dX7_run_58 rfl (lv_at hl 5 rfl) ?_
      refine lv_isub hx hb dX7_run_59 ?_
      obtain ⟨q_17, wq_17, heq_17⟩ := heM_Mixx (cy := cy) (I := I_3) (D := D_4) hM (f_get2_lt g_9)
      obtain ⟨I_18, eI_18, hf⟩ := nm_out hf
      refine va_put (D := (dC, dI)) (ci := 7) (v := .int ((I_3 (20 + r_8) 1) - p3)) (ty := .int) (C := RX6) (T := TX6) (N := 5) hx hb hts iX7_run_RX6 tyX6 tyX6_ok nmX6 hown hK hP (hDD I_3 D_4) hS q_17 heq_17 rfl 1 (by decide) (hts (.fieldLink RX7 102 "OverrunHouseModel$Mix" "left" "I") (List.mem_cons_of_mem _ (List.mem_append_left _ (List.mem_append_left _ (List.mem_append_left _ (List.mem_append_left _ (List.mem_append_left _ (List.mem_of_getElem? (i := 2) rfl)))))))) (fun _ h9 => h9) rfl (by decide +kernel) rfl rfl (Nat.le_of_ble_eq_true rfl) dX7_run_60 (fun H locs hP _ hS => ?_)
      have hP : va_P (dC, dI) vwCl (iwM L a b ad cy I_18 D_4) H := by rw [eI_18]; exact hqI hM wq_17 ((cellM_Mixx ad cy a b (by have := hM.2; have := (f_get2_lt g_9); omega) _ _).trans rfl) hP
      refine lv_aload_n hx hb dX7_run_63 rfl (lv_at hl 2 rfl) ?_
      obtain ⟨q_19, wq_19, heq_19⟩ := heM_0 (cy := cy) (I := I_18) (D := D_4) hM
      refine va_get (D := (dC, dI)) (ci := 8) (v := .ref (ad 13)) (C := RX7) (T := TX7) (N := 9) hx hb hts iX7_run_RX7 hown hK hP q_19 heq_19 rfl 4 (by decide) (hts (.fieldLink RX7 28 "OverrunHouseModel" "rests" "[I") (List.mem_cons_of_mem _ (List.mem_append_left _ (List.mem_append_left _ (List.mem_append_left _ (List.mem_append_left _ (List.mem_append_left _ (List.mem_of_getElem? (i := 3) rfl)))))))) (fun _ h9 => h9) rfl dX7_run_64 ?_
      refine lv_iload_n hx hb dX7_run_67 rfl (lv_at hl 3 rfl) ?_
      refine lv_aload hx hb dX7_run_68 (lv_at hl 1 rfl) ?_
      obtain ⟨r_20, g_21, hf⟩ := bd_out hf
      obtain ⟨q_22, wq_22, heq_22⟩ := heM_Mixx (cy := cy) (I := I_18) (D := D_4) hM (f_get2_lt g_9)
      refine va_calli (va_runV (As := []) (rest := [.int p1, .ref (ad 13)]) ⟨hx, hb, hml, hown, hts⟩ (mt_X6_harms l dC dI L a b ad cy hM H.size I_18 D_4 r_8 (f_get2_lt g_9) r_20 g_21) (cwV 0 hts gX7_run_X6_harms rfl rfl rfl (by decide +kernel) ⟨Nat.le_of_ble_eq_true rfl, Nat.le_of_ble_eq_true rfl⟩) ⟨(wM.pre [.ref (ad (20 + r_8))] hP hK hN).1, wM.recv (C := RX6) (T := TX6) (N := 5) hP hK heq_22 rfl, (wM.pre [.ref (ad (20 + r_8))] hP hK hN).2⟩ rfl rfl hl.1 rfl (lv_room (Nat.le_of_ble_eq_true rfl)) dX7_run_70 ⟨Nat.le_of_ble_eq_true rfl, Nat.le_of_ble_eq_true rfl⟩) hS (fun q _ h => hA q (Nat.le_trans hS.1 h)) (fun q h => hA q (Nat.le_trans hS.1 h)) (fun r9 u t H1 locs ht hvm hw hB hz1 hk1 hS => ?_)
      subst hw
      have hP := va_Pnew hP hk1
      clear hz1 hk1 hvm ht hB
      generalize H1 = H at hP hS ⊢
      obtain ⟨q_23, wq_23, heq_23⟩ := heM_13 (cy := cy) (I := I_18) (D := D_4) hM
      obtain ⟨h_24, hf⟩ := ck_out hf
      obtain ⟨I_25, eI_25, hf⟩ := nm_out hf
      refine va_iast (n := 2) (f := I_18 13) hx hb hK hP (hDD I_18 D_4) hS q_23 0 heq_23 rfl (inB_in h_24) dX7_run_73 (fun H locs hP _ hS => ?_)
      have hP : va_P (dC, dI) vwCl (iwM L a b ad cy I_25 D_4) H := by rw [eI_25]; exact hqI hM wq_23 ((cellM_13 ad cy a b _ _).trans rfl) hP
      refine lv_aload_n hx hb dX7_run_74 rfl (lv_at hl 2 rfl) ?_
      obtain ⟨q_26, wq_26, heq_26⟩ := heM_0 (cy := cy) (I := I_25) (D := D_4) hM
      refine va_get (D := (dC, dI)) (ci := 8) (v := .ref (ad 5)) (C := RX7) (T := TX7) (N := 9) hx hb hts iX7_run_RX7 hown hK hP q_26 heq_26 rfl 3 (by decide) (hts (.fieldLink RX7 24 "OverrunHouseModel" "cold" "LOverrunHouseModel$Cold;") (List.mem_cons_of_mem _ (List.mem_append_left _ (List.mem_append_left _ (List.mem_append_left _ (List.mem_append_left _ (List.mem_append_left _ (List.mem_of_getElem? (i := 4) rfl)))))))) (fun _ h9 => h9) rfl dX7_run_75 ?_
      refine lv_dup hx hb dX7_run_78 rfl ?_
      obtain ⟨q_27, wq_27, heq_27⟩ := heM_Cold (cy := cy) (I := I_25) (D := D_4) (a := a) (b := b) (cOK_5 hM)
      refine va_get (D := (dC, dI)) (ci := 6) (v := .int (I_25 5 0)) (C := RX5) (T := TX5) (N := 10) hx hb hts iX7_run_RX5 hown hK hP q_27 heq_27 rfl 0 (by decide) (hts (.fieldLink RX7 46 "OverrunHouseModel$Cold" "batches" "I") (List.mem_cons_of_mem _ (List.mem_append_left _ (List.mem_append_left _ (List.mem_append_left _ (List.mem_append_left _ (List.mem_append_left _ (List.mem_of_getElem? (i := 5) rfl)))))))) (fun _ h9 => h9) rfl dX7_run_79 ?_
      refine lv_dup_x1 hx hb dX7_run_82 rfl rfl ?_
      refine lv_iconst (v := 1) hx hb dX7_run_83 (by decide) ?_
      refine lv_iadd hx hb dX7_run_84 ?_
      obtain ⟨q_28, wq_28, heq_28⟩ := heM_Cold (cy := cy) (I := I_25) (D := D_4) (a := a) (b := b) (cOK_5 hM)
      obtain ⟨I_29, eI_29, hf⟩ := nm_out hf
      refine va_put (D := (dC, dI)) (ci := 6) (v := .int ((I_25 5 0) + 1)) (ty := .int) (C := RX5) (T := TX5) (N := 10) hx hb hts iX7_run_RX5 tyX5 tyX5_ok nmX5 hown hK hP (hDD I_25 D_4) hS q_28 heq_28 rfl 0 (by decide) (hts (.fieldLink RX7 46 "OverrunHouseModel$Cold" "batches" "I") (List.mem_cons_of_mem _ (List.mem_append_left _ (List.mem_append_left _ (List.mem_append_left _ (List.mem_append_left _ (List.mem_append_left _ (List.mem_of_getElem? (i := 5) rfl)))))))) (fun _ h9 => h9) rfl (by decide +kernel) rfl rfl (Nat.le_of_ble_eq_true rfl) dX7_run_85 (fun H locs hP _ hS => ?_)
      have hP : va_P (dC, dI) vwCl (iwM L a b ad cy I_29 D_4) H := by rw [eI_29]; exact hqI hM wq_28 ((cellM_Cold ad cy a b (cOK_5 hM).1 _ _).trans rfl) hP
      refine lv_istore (lv' := [(7, .int (I_25 5 0)), (6, .int r_12), (5, .ref (ad (20 + r_8))), (0, .ref (ad 0)), (1, .int p1), (2, .int p2), (3, .int p3), (4, .int p4)]) hx hb dX7_run_88 hl (by decide) rfl (fun ls hl => ?_)
      refine lv_aload_n hx hb dX7_run_90 rfl (lv_at hl 3 rfl) ?_
      obtain ⟨q_30, wq_30, heq_30⟩ := heM_0 (cy := cy) (I := I_29) (D := D_4) hM
      refine va_get (D := (dC, dI)) (ci := 8) (v := .ref (ad 5)) (C := RX7) (T := TX7) (N := 9) hx hb hts iX7_run_RX7 hown hK hP q_30 heq_30 rfl 3 (by decide) (hts (.fieldLink RX7 24 "OverrunHouseModel" "cold" "LOverrunHouseModel$Cold;") (List.mem_cons_of_mem _ (List.mem_append_left _ (List.mem_append_left _ (List.mem_append_left _ (List.mem_append_left _ (List.mem_append_left _ (List.mem_of_getElem? (i := 4) rfl)))))))) (fun _ h9 => h9) rfl dX7_run_91 ?_
      obtain ⟨q_31, wq_31, heq_31⟩ := heM_Cold (cy := cy) (I := I_29) (D := D_4) (a := a) (b := b) (cOK_5 hM)
      refine va_get (D := (dC, dI)) (ci := 6) (v := .ref (ad (5 + 1))) (C := RX5) (T := TX5) (N := 10) hx hb hts iX7_run_RX5 hown hK hP q_31 heq_31 rfl 1 (by decide) (hts (.fieldLink RX7 52 "OverrunHouseModel$Cold" "of" "[I") (List.mem_cons_of_mem _ (List.mem_append_left _ (List.mem_append_left _ (List.mem_append_left _ (List.mem_append_left _ (List.mem_append_left _ (List.mem_of_getElem? (i := 6) rfl)))))))) (fun _ h9 => h9) rfl dX7_run_94 ?_
      refine lv_iload hx hb dX7_run_97 (lv_at hl 0 rfl) ?_
      refine lv_iload_n hx hb dX7_run_99 rfl (lv_at hl 5 rfl) ?_
      obtain ⟨q_32, wq_32, heq_32⟩ := heM_Of (cy := cy) (I := I_29) (D := D_4) (a := a) (b := b) (cOK_5 hM)
      obtain ⟨h_33, hf⟩ := ck_out hf
      obtain ⟨I_34, eI_34, hf⟩ := nm_out hf
      refine va_iast (n := 12) (f := I_29 (5 + 1)) hx hb hK hP (hDD I_29 D_4) hS q_32 0 heq_32 rfl (inB_in h_33) dX7_run_100 (fun H locs hP _ hS => ?_)
      have hP : va_P (dC, dI) vwCl (iwM L a b ad cy I_34 D_4) H := by rw [eI_34]; exact hqI hM wq_32 ((cellM_Of ad cy a b (cOK_5 hM).1 _ _).trans rfl) hP
      refine lv_aload_n hx hb dX7_run_101 rfl (lv_at hl 3 rfl) ?_
      obtain ⟨q_35, wq_35, heq_35⟩ := heM_0 (cy := cy) (I := I_34) (D := D_4) hM
      refine va_get (D := (dC, dI)) (ci := 8) (v := .ref (ad 5)) (C := RX7) (T := TX7) (N := 9) hx hb hts iX7_run_RX7 hown hK hP q_35 heq_35 rfl 3 (by decide) (hts (.fieldLink RX7 24 "OverrunHouseModel" "cold" "LOverrunHouseModel$Cold;") (List.mem_cons_of_mem _ (List.mem_append_left _ (List.mem_append_left _ (List.mem_append_left _ (List.mem_append_left _ (List.mem_append_left _ (List.mem_of_getElem? (i := 4) rfl)))))))) (fun _ h9 => h9) rfl dX7_run_102 ?_
      obtain ⟨q_36, wq_36, heq_36⟩ := heM_Cold (cy := cy) (I := I_34) (D := D_4) (a := a) (b := b) (cOK_5 hM)
      refine va_get (D := (dC, dI)) (ci := 6) (v := .ref (ad (5 + 2))) (C := RX5) (T := TX5) (N := 10) hx hb hts iX7_run_RX5 hown hK hP q_36 heq_36 rfl 2 (by decide) (hts (.fieldLink RX7 120 "OverrunHouseModel$Cold" "litres" "[I") (List.mem_cons_of_mem _ (List.mem_append_left _ (List.mem_append_left _ (List.mem_append_left _ (List.mem_append_left _ (List.mem_append_left _ (List.mem_of_getElem? (i := 7) rfl)))))))) (fun _ h9 => h9) rfl dX7_run_105 ?_
      refine lv_iload hx hb dX7_run_108 (lv_at hl 0 rfl) ?_
      refine lv_iload_n hx hb dX7_run_110 rfl (lv_at hl 6 rfl) ?_
      refine lv_iconst (v := 2) hx hb dX7_run_111 (by decide) ?_
      refine lv_isub hx hb dX7_run_112 ?_
      refine lv_bipush (v := 100) hx hb dX7_run_113 (by decide) ?_
      refine lv_iload hx hb dX7_run_115 (lv_at hl 7 rfl) ?_
      refine lv_iadd hx hb dX7_run_117 ?_
      refine lv_imul hx hb dX7_run_118 ?_
      refine lv_bipush (v := 100) hx hb dX7_run_119 (by decide) ?_
      refine lv_idiv hx hb dX7_run_121 (by decide) ?_
      obtain ⟨q_37, wq_37, heq_37⟩ := heM_Litres (cy := cy) (I := I_34) (D := D_4) (a := a) (b := b) (cOK_5 hM)
      obtain ⟨h_38, hf⟩ := ck_out hf
      obtain ⟨I_39, eI_39, hf⟩ := nm_out hf
      refine va_iast (n := 12) (f := I_34 (5 + 2)) hx hb hK hP (hDD I_34 D_4) hS q_37 0 heq_37 rfl (inB_in h_38) dX7_run_122 (fun H locs hP _ hS => ?_)
      have hP : va_P (dC, dI) vwCl (iwM L a b ad cy I_39 D_4) H := by rw [eI_39]; exact hqI hM wq_37 ((cellM_Litres ad cy a b (cOK_5 hM).1 _ _).trans rfl) hP
      refine lv_aload_n hx hb dX7_run_123 rfl (lv_at hl 3 rfl) ?_
      obtain ⟨q_40, wq_40, heq_40⟩ := heM_0 (cy := cy) (I := I_39) (D := D_4) hM
      refine va_get (D := (dC, dI)) (ci := 8) (v := .ref (ad 5)) (C := RX7) (T := TX7) (N := 9) hx hb hts iX7_run_RX7 hown hK hP q_40 heq_40 rfl 3 (by decide) (hts (.fieldLink RX7 24 "OverrunHouseModel" "cold" "LOverrunHouseModel$Cold;") (List.mem_cons_of_mem _ (List.mem_append_left _ (List.mem_append_left _ (List.mem_append_left _ (List.mem_append_left _ (List.mem_append_left _ (List.mem_of_getElem? (i := 4) rfl)))))))) (fun _ h9 => h9) rfl dX7_run_124 ?_
      obtain ⟨q_41, wq_41, heq_41⟩ := heM_Cold (cy := cy) (I := I_39) (D := D_4) (a := a) (b := b) (cOK_5 hM)
      refine va_get (D := (dC, dI)) (ci := 6) (v := .ref (ad (5 + 4))) (C := RX5) (T := TX5) (N := 10) hx hb hts iX7_run_RX5 hown hK hP q_41 heq_41 rfl 4 (by decide) (hts (.fieldLink RX7 123 "OverrunHouseModel$Cold" "where" "[I") (List.mem_cons_of_mem _ (List.mem_append_left _ (List.mem_append_left _ (List.mem_append_left _ (List.mem_append_left _ (List.mem_append_left _ (List.mem_of_getElem? (i := 8) rfl)))))))) (fun _ h9 => h9) rfl dX7_run_127 ?_
      refine lv_iload hx hb dX7_run_130 (lv_at hl 0 rfl) ?_
      refine lv_iconst (v := (-1)) hx hb dX7_run_132 (by decide) ?_
      obtain ⟨q_42, wq_42, heq_42⟩ := heM_Where (cy := cy) (I := I_39) (D := D_4) (a := a) (b := b) (cOK_5 hM)
      obtain ⟨h_43, hf⟩ := ck_out hf
      obtain ⟨I_44, eI_44, hf⟩ := nm_out hf
      refine va_iast (n := 12) (f := I_39 (5 + 4)) hx hb hK hP (hDD I_39 D_4) hS q_42 0 heq_42 rfl (inB_in h_43) dX7_run_133 (fun H locs hP _ hS => ?_)
      have hP : va_P (dC, dI) vwCl (iwM L a b ad cy I_44 D_4) H := by rw [eI_44]; exact hqI hM wq_42 ((cellM_Where ad cy a b (cOK_5 hM).1 _ _).trans rfl) hP
      refine lv_aload_n hx hb dX7_run_134 rfl (lv_at hl 3 rfl) ?_
      obtain ⟨q_45, wq_45, heq_45⟩ := heM_0 (cy := cy) (I := I_44) (D := D_4) hM
      refine va_get (D := (dC, dI)) (ci := 8) (v := .ref (ad 5)) (C := RX7) (T := TX7) (N := 9) hx hb hts iX7_run_RX7 hown hK hP q_45 heq_45 rfl 3 (by decide) (hts (.fieldLink RX7 24 "OverrunHouseModel" "cold" "LOverrunHouseModel$Cold;") (List.mem_cons_of_mem _ (List.mem_append_left _ (List.mem_append_left _ (List.mem_append_left _ (List.mem_append_left _ (List.mem_append_left _ (List.mem_of_getElem? (i := 4) rfl)))))))) (fun _ h9 => h9) rfl dX7_run_135 ?_
      obtain ⟨q_46, wq_46, heq_46⟩ := heM_Cold (cy := cy) (I := I_44) (D := D_4) (a := a) (b := b) (cOK_5 hM)
      refine va_get (D := (dC, dI)) (ci := 6) (v := .ref (ad (5 + 5))) (C := RX5) (T := TX5) (N := 10) hx hb hts iX7_run_RX5 hown hK hP q_46 heq_46 rfl 5 (by decide) (hts (.fieldLink RX7 126 "OverrunHouseModel$Cold" "crystal" "[D") (List.mem_cons_of_mem _ (List.mem_append_left _ (List.mem_append_left _ (List.mem_append_left _ (List.mem_append_left _ (List.mem_append_left _ (List.mem_of_getElem? (i := 9) rfl)))))))) (fun _ h9 => h9) rfl dX7_run_138 ?_
      refine lv_iload hx hb dX7_run_141 (lv_at hl 0 rfl) ?_
      refine lv_ldc2d (v := 4626322717216342016) hx hb hown (hts (.constantDouble RX7 130 (4626322717216342016)) (List.mem_cons_of_mem _ (List.mem_append_left _ (List.mem_append_left _ (List.mem_append_left _ (List.mem_append_left _ (List.mem_append_left _ (List.mem_of_getElem? (i := 10) rfl)))))))) dX7_run_143 ?_
      obtain ⟨q_47, wq_47, heq_47⟩ := heM_Crystal (cy := cy) (I := I_44) (D := D_4) (a := a) (b := b) (cOK_5 hM)
      obtain ⟨h_48, hf⟩ := ck_out hf
      obtain ⟨D_49, eD_49, hf⟩ := nm_out hf
      refine va_dast (n := 12) (f := D_4 (5 + 5)) hx hb hK hP (hDD I_44 D_4) hS q_47 6 heq_47 rfl (inB_in h_48) dX7_run_146 (fun H locs hP _ hS => ?_)
      have hP : va_P (dC, dI) vwCl (iwM L a b ad cy I_44 D_49) H := by rw [eD_49]; exact hqD hM wq_47 ((cellM_Crystal ad cy a b (cOK_5 hM).1 _ _).trans rfl) hP
      refine lv_iload hx hb dX7_run_147 (lv_at hl 0 rfl) ?_
      have hf := Option.some.inj hf
      obtain ⟨q1, q2⟩ := Prod.mk.inj hf
      obtain ⟨q2, q3⟩ := Prod.mk.inj q2
      rw [q2, q3] at hP
      exact W.iret (v := (I_25 5 0)) hx hb hr (fun t ht hW9 => ⟨⟨(I_25 5 0), (), rfl, q1.symm, wM.of hP hK hN ht hW9⟩, hS.F ht⟩) hS.2.2 dX7_run_149
    · have hf := it_f hf c_15
      refine lv_bipush (v := (-10)) hx hb dX7_run_46 (by decide) ?_
      refine lv_iload hx hb dX7_run_48 (lv_at hl 0 rfl) ?_
      refine lv_isub hx hb dX7_run_50 ?_
      have hf := Option.some.inj hf
      obtain ⟨q1, q2⟩ := Prod.mk.inj hf
      obtain ⟨q2, q3⟩ := Prod.mk.inj q2
      rw [q2, q3] at hP
      exact W.iret (v := ((-10) - r_12)) hx hb hr (fun t ht hW9 => ⟨⟨((-10) - r_12), (), rfl, q1.symm, wM.of hP hK hN ht hW9⟩, hS.F ht⟩) hS.2.2 dX7_run_51
  · have hf := it_t hf c_6
    refine lv_iconst (v := 0) hx hb dX7_run_12 (by decide) ?_
    have hf := Option.some.inj hf
    obtain ⟨q1, q2⟩ := Prod.mk.inj hf
    obtain ⟨q2, q3⟩ := Prod.mk.inj q2
    rw [q2, q3] at hP
    exact W.iret (v := 0) hx hb hr (fun t ht hW9 => ⟨⟨0, (), rfl, q1.symm, wM.of hP hK hN ht hW9⟩, hS.F ht⟩) hS.2.2 dX7_run_13

def f_X7_wash (a b : Nat) (I : Nat → Nat → Int32) (D : Nat → Nat → UInt64) (p1 : Int32) : Option (Int32 × (Nat → Nat → Int32) × (Nat → Nat → UInt64)) :=
  nm (up2 I 0 0 0) (fun I_2 => bd (f_X7_in p1 0 1) (fun r_3 => (if r_3 = 0 then bd (f_X7_no a b I_2 D 1) (fun (r_16, I_18, D_19) => some (r_16, I_18, D_19)) else ck (inB p1 2) (ck (inB p1 2) (nm (up2 I_2 13 (p1).toNatClampNeg 0) (fun I_12 => nm (up2 I_12 0 5 ((I_12 0 5) + 1)) (fun I_15 => some ((I_2 13 (p1).toNatClampNeg), I_15, D))))))))
theorem iX7_wash_RX7 : ∀ w ∈ u_ws RX7 TX7 9, w ∈ wsX7_wash := fun w h => List.mem_cons_of_mem _ (List.mem_append_right _ (h))
set_option maxHeartbeats 4000000 in
set_option maxRecDepth 100000 in
theorem mt_X7_wash (l : Launch) (dC : Nat → ClassId) (dI : Nat → Nat → Nat) (L : List Nat) (a b : Nat) (ad : Nat → Nat) (cy : Nat → ClassId) (hM : mOK L a b ad) (sz : Nat) (I : Nat → Nat → Int32) (D : Nat → Nat → UInt64) (p1 : Int32) (rr : Int32) (I9 : Nat → Nat → Int32) (D9 : Nat → Nat → UInt64) (hf : f_X7_wash a b I D p1 = some (rr, I9, D9)) : Met l yX7_wash wsX7_wash ({ frames := 1, cells := 0, slots := 0, locals := 22 }) (va_Pc [.ref (ad 0), .int p1] (fun U => U.heap.size = sz ∧ wM dC dI L a b ad cy I D U)) (va_Qi (fun r (_ : Unit) => rr = r) (fun _ t => wM dC dI L a b ad cy I9 D9 t) (AM L ad sz)) 0 0 (AM L ad sz) := by
  refine Met.ofW (cc := cX7_wash) (maxL := 3) (ret := (some .int)) (by decide) rfl ?_
  intro p e s m args below meth c s₁ B hml hv
  obtain ⟨rfl, hsz, hP, hK, hN⟩ := hv
  have hx := B.exec
  have hb := B.bytes
  have hr := B.returns
  have hts := atoms_spec (ws := wsX7_wash) B.pre
  have hown : s.vm.findClass RX7 = some m.cls := findClass_of_methodNamed B.named
  have hlocks := B.notSynchronized
  subst hsz
  generalize hAe : AM L ad s.heap.size = A
  have hA : ∀ q : Nat, s.heap.size ≤ q → A q := fun q h => by rw [← hAe]; exact Or.inr h
  have hAL : ∀ k, k ∈ L → A (ad k) := fun k h => by rw [← hAe]; exact Or.inl ⟨k, h, rfl⟩
  have hDD : ∀ I D, va_D A (iwM L a b ad cy I D) := fun I D => iwM_D hM hAL I D
  obtain ⟨H, hH⟩ : ∃ H : Heap, H = s.heap := ⟨_, rfl⟩
  have hS : va_S A s.heap H [] := by rw [hH]; exact va_S.rf
  rw [← hH]
  rw [← hH] at hP
  have hl := lv_entry ([.ref (ad 0), .int p1]) (n := 3) (Nat.le_of_ble_eq_true rfl)
  rw [lg_entry_eq]
  generalize (lg_sl ([.ref (ad 0), .int p1]) ++ List.replicate (3 - (lg_sl ([.ref (ad 0), .int p1])).length) Slot.unset).toArray = ls at hl ⊢
  have hl : lv_has ls 3 [(0, .ref (ad 0)), (1, .int p1)] := hl
  unfold f_X7_wash at hf
  refine lv_aload_n hx hb dX7_wash_0 rfl (lv_at hl 0 rfl) ?_
  refine lv_iconst (v := 0) hx hb dX7_wash_1 (by decide) ?_
  obtain ⟨q_1, wq_1, heq_1⟩ := heM_0 (cy := cy) (I := I) (D := D) hM
  obtain ⟨I_2, eI_2, hf⟩ := nm_out hf
  refine va_put (D := (dC, dI)) (ci := 8) (v := .int 0) (ty := .int) (C := RX7) (T := TX7) (N := 9) hx hb hts iX7_wash_RX7 tyX7 tyX7_ok nmX7 hown hK hP (hDD I D) hS q_1 heq_1 rfl 0 (by decide) (hts (.fieldLink RX7 32 "OverrunHouseModel" "thrown" "I") (List.mem_cons_of_mem _ (List.mem_append_left _ (List.mem_of_getElem? (i := 0) rfl)))) (fun _ h9 => h9) rfl (by decide +kernel) rfl rfl (Nat.le_of_ble_eq_true rfl) dX7_wash_2 (fun H locs hP _ hS => ?_)
  have hP : va_P (dC, dI) vwCl (iwM L a b ad cy I_2 D) H := by rw [eI_2]; exact hqI hM wq_1 ((cellM_0 ad cy a b _ _).trans rfl) hP
  refine lv_iload_n hx hb dX7_wash_5 rfl (lv_at hl 1 rfl) ?_
  refine lv_iconst (v := 0) hx hb dX7_wash_6 (by decide) ?_
  refine lv_iconst (v := 1) hx hb dX7_wash_7 (by decide) ?_
  obtain ⟨r_3, g_4, hf⟩ := bd_out hf
  refine va_calli (va_runS (As := [.int p1, .int 0, .int 1]) (rest := []) ⟨hx, hb, hml, hown, hts⟩ (mt_X7_in l H.size p1 0 1 r_3 g_4) (va_cwS 3 hts gX7_wash_X7_in rfl rfl rfl (by decide +kernel) ⟨Nat.le_of_ble_eq_true rfl, Nat.le_of_ble_eq_true rfl⟩) (pre0 [.int p1, .int 0, .int 1]) rfl rfl hl.1 rfl (lv_room (Nat.le_of_ble_eq_true rfl)) dX7_wash_8 ⟨Nat.le_of_ble_eq_true rfl, Nat.le_of_ble_eq_true rfl⟩) hS (fun q _ h => hA q (Nat.le_trans hS.1 h)) (fun q h => hA q (Nat.le_trans hS.1 h)) (fun r9 u t H1 locs ht hvm hw hB hz1 hk1 hS => ?_)
  subst hw
  have hP := va_Pnew hP hk1
  clear hz1 hk1 hvm ht hB
  generalize H1 = H at hP hS ⊢
  refine lv_if_ne (tgt := 20) hx hb dX7_wash_11 (by decide) (fun c_5 => ?_) (fun c_5 => ?_)
  · have hf := it_f hf c_5
    refine lv_aload_n hx hb dX7_wash_20 rfl (lv_at hl 0 rfl) ?_
    obtain ⟨q_6, wq_6, heq_6⟩ := heM_0 (cy := cy) (I := I_2) (D := D) hM
    refine va_get (D := (dC, dI)) (ci := 8) (v := .ref (ad 13)) (C := RX7) (T := TX7) (N := 9) hx hb hts iX7_wash_RX7 hown hK hP q_6 heq_6 rfl 4 (by decide) (hts (.fieldLink RX7 28 "OverrunHouseModel" "rests" "[I") (List.mem_cons_of_mem _ (List.mem_append_left _ (List.mem_of_getElem? (i := 1) rfl)))) (fun _ h9 => h9) rfl dX7_wash_21 ?_
    refine lv_iload_n hx hb dX7_wash_24 rfl (lv_at hl 1 rfl) ?_
    obtain ⟨q_7, wq_7, heq_7⟩ := heM_13 (cy := cy) (I := I_2) (D := D) hM
    obtain ⟨h_8, hf⟩ := ck_out hf
    refine va_iald (n := 2) (f := I_2 13) hx hb hK hP q_7 0 heq_7 rfl (inB_in h_8) dX7_wash_25 ?_
    refine lv_istore_n (lv' := [(2, .int (I_2 13 (p1).toNatClampNeg)), (0, .ref (ad 0)), (1, .int p1)]) hx hb dX7_wash_26 rfl hl (by decide) rfl (fun ls hl => ?_)
    refine lv_aload_n hx hb dX7_wash_27 rfl (lv_at hl 1 rfl) ?_
    obtain ⟨q_9, wq_9, heq_9⟩ := heM_0 (cy := cy) (I := I_2) (D := D) hM
    refine va_get (D := (dC, dI)) (ci := 8) (v := .ref (ad 13)) (C := RX7) (T := TX7) (N := 9) hx hb hts iX7_wash_RX7 hown hK hP q_9 heq_9 rfl 4 (by decide) (hts (.fieldLink RX7 28 "OverrunHouseModel" "rests" "[I") (List.mem_cons_of_mem _ (List.mem_append_left _ (List.mem_of_getElem? (i := 1) rfl)))) (fun _ h9 => h9) rfl dX7_wash_28 ?_
    refine lv_iload_n hx hb dX7_wash_31 rfl (lv_at hl 2 rfl) ?_
    refine lv_iconst (v := 0) hx hb dX7_wash_32 (by decide) ?_
    obtain ⟨q_10, wq_10, heq_10⟩ := heM_13 (cy := cy) (I := I_2) (D := D) hM
    obtain ⟨h_11, hf⟩ := ck_out hf
    obtain ⟨I_12, eI_12, hf⟩ := nm_out hf
    refine va_iast (n := 2) (f := I_2 13) hx hb hK hP (hDD I_2 D) hS q_10 0 heq_10 rfl (inB_in h_11) dX7_wash_33 (fun H locs hP _ hS => ?_)
    have hP : va_P (dC, dI) vwCl (iwM L a b ad cy I_12 D) H := by rw [eI_12]; exact hqI hM wq_10 ((cellM_13 ad cy a b _ _).trans rfl) hP
    refine lv_aload_n hx hb dX7_wash_34 rfl (lv_at hl 1 rfl) ?_
    refine lv_dup hx hb dX7_wash_35 rfl ?_
    obtain ⟨q_13, wq_13, heq_13⟩ := heM_0 (cy := cy) (I := I_12) (D := D) hM
    refine va_get (D := (dC, dI)) (ci := 8) (v := .int (I_12 0 5)) (C := RX7) (T := TX7) (N := 9) hx hb hts iX7_wash_RX7 hown hK hP q_13 heq_13 rfl 5 (by decide) (hts (.fieldLink RX7 132 "OverrunHouseModel" "washes" "I") (List.mem_cons_of_mem _ (List.mem_append_left _ (List.mem_of_getElem? (i := 2) rfl)))) (fun _ h9 => h9) rfl dX7_wash_36 ?_
    refine lv_iconst (v := 1) hx hb dX7_wash_39 (by decide) ?_
    refine lv_iadd hx hb dX7_wash_40 ?_
    obtain ⟨q_14, wq_14, heq_14⟩ := heM_0 (cy := cy) (I := I_12) (D := D) hM
    obtain ⟨I_15, eI_15, hf⟩ := nm_out hf
    refine va_put (D := (dC, dI)) (ci := 8) (v := .int ((I_12 0 5) + 1)) (ty := .int) (C := RX7) (T := TX7) (N := 9) hx hb hts iX7_wash_RX7 tyX7 tyX7_ok nmX7 hown hK hP (hDD I_12 D) hS q_14 heq_14 rfl 5 (by decide) (hts (.fieldLink RX7 132 "OverrunHouseModel" "washes" "I") (List.mem_cons_of_mem _ (List.mem_append_left _ (List.mem_of_getElem? (i := 2) rfl)))) (fun _ h9 => h9) rfl (by decide +kernel) rfl rfl (Nat.le_of_ble_eq_true rfl) dX7_wash_41 (fun H locs hP _ hS => ?_)
    have hP : va_P (dC, dI) vwCl (iwM L a b ad cy I_15 D) H := by rw [eI_15]; exact hqI hM wq_14 ((cellM_0 ad cy a b _ _).trans rfl) hP
    refine lv_iload_n hx hb dX7_wash_44 rfl (lv_at hl 0 rfl) ?_
    have hf := Option.some.inj hf
    obtain ⟨q1, q2⟩ := Prod.mk.inj hf
    obtain ⟨q2, q3⟩ := Prod.mk.inj q2
    rw [q2, q3] at hP
    exact W.iret (v := (I_2 13 (p1).toNatClampNeg)) hx hb hr (fun t ht hW9 => ⟨⟨(I_2 13 (p1).toNatClampNeg), (), rfl, q1.symm, wM.of hP hK hN ht hW9⟩, hS.F ht⟩) hS.2.2 dX7_wash_45
  · have hf := it_t hf c_5
    refine lv_aload_n hx hb dX7_wash_14 rfl (lv_at hl 0 rfl) ?_
    refine lv_iconst (v := 1) hx hb dX7_wash_15 (by decide) ?_
    obtain ⟨⟨r_16, I_18, D_19⟩, g_17, hf⟩ := bd_out hf
    obtain ⟨q_20, wq_20, heq_20⟩ := heM_0 (cy := cy) (I := I_2) (D := D) hM
    have hAW : ∀ q, AM L ad H.size q → A q := fun q h => h.elim (fun ⟨k, k1, k2⟩ => k2 ▸ hAL k k1) (fun h => hA q (Nat.le_trans hS.1 h))
    refine va_calli (va_runV (As := [.int 1]) (rest := []) ⟨hx, hb, hml, hown, hts⟩ (mt_X7_no l dC dI L a b ad cy hM H.size I_2 D 1 r_16 I_18 D_19 g_17) (cwV 1 hts gX7_wash_X7_no rfl rfl rfl (by decide +kernel) ⟨Nat.le_of_ble_eq_true rfl, Nat.le_of_ble_eq_true rfl⟩) ⟨(wM.pre [.ref (ad 0), .int 1] hP hK hN).1, wM.recv (C := RX7) (T := TX7) (N := 9) hP hK heq_20 rfl, (wM.pre [.ref (ad 0), .int 1] hP hK hN).2⟩ rfl rfl hl.1 rfl (lv_room (Nat.le_of_ble_eq_true rfl)) dX7_wash_16 ⟨Nat.le_of_ble_eq_true rfl, Nat.le_of_ble_eq_true rfl⟩) hS (fun q _ h => hAW q h) hAW (fun r9 u t H1 locs ht hvm hw hB hz1 hk1 hS => ?_)
    subst hw
    have hP : va_P (dC, dI) vwCl (iwM L a b ad cy I_18 D_19) H1 := by rw [← ht]; exact hB.1
    clear hz1 hk1 hvm ht hB
    generalize H1 = H at hP hS ⊢
    have hf := Option.some.inj hf
    obtain ⟨q1, q2⟩ := Prod.mk.inj hf
    obtain ⟨q2, q3⟩ := Prod.mk.inj q2
    rw [q2, q3] at hP
    exact W.iret (v := r_16) hx hb hr (fun t ht hW9 => ⟨⟨r_16, (), rfl, q1.symm, wM.of hP hK hN ht hW9⟩, hS.F ht⟩) hS.2.2 dX7_wash_19

def f_X7_harden (a b : Nat) (I : Nat → Nat → Int32) (D : Nat → Nat → UInt64) (p1 : Int32) (p2 : Int32) : Option (UInt64 × (Nat → Nat → Int32) × (Nat → Nat → UInt64)) :=
  nm (up2 I 0 0 0) (fun I_2 => bd (f_X7_isBatch a b I_2 D p1) (fun r_3 => (if r_3 = 0 then bd (f_X7_no a b I_2 D 1) (fun (r_53, I_55, D_56) => some ((FP.i2d r_53), I_55, D_56)) else bd (f_X7_in p2 10 90) (fun r_7 => (if r_7 = 0 then bd (f_X7_no a b I_2 D 2) (fun (r_48, I_50, D_51) => some ((FP.i2d r_48), I_50, D_51)) else ck (inB p1 12) ((if (I_2 (5 + 4) (p1).toNatClampNeg) = (-1) then ck (inB p1 12) ((if (I_2 (5 + 3) (p1).toNatClampNeg) = 0 then ck (inB p1 12) (nm (up2 I_2 (5 + 3) (p1).toNatClampNeg 1) (fun I_29 => ck (inB p1 12) (ck (okD (FP.dmul (FP.i2d p2) (4598175219545276416 : UInt64))) (ck (okD (FP.dadd (D (5 + 5) (p1).toNatClampNeg) (FP.dmul (FP.i2d p2) (4598175219545276416 : UInt64)))) (ck (inB p1 12) (nm (up2 D (5 + 5) (p1).toNatClampNeg (FP.dadd (D (5 + 5) (p1).toNatClampNeg) (FP.dmul (FP.i2d p2) (4598175219545276416 : UInt64)))) (fun D_38 => ck (inB p1 12) (some ((D_38 (5 + 5) (p1).toNatClampNeg), I_29, D_38))))))))) else bd (f_X7_no a b I_2 D 3) (fun (r_43, I_45, D_46) => some ((FP.i2d r_43), I_45, D_46)))) else bd (f_X7_no a b I_2 D 3) (fun (r_15, I_17, D_18) => some ((FP.i2d r_15), I_17, D_18)))))))))
theorem iX7_harden_RX5 : ∀ w ∈ u_ws RX5 TX5 10, w ∈ wsX7_harden := fun w h => List.mem_cons_of_mem _ (List.mem_append_right _ (h))
theorem iX7_harden_RX7 : ∀ w ∈ u_ws RX7 TX7 9, w ∈ wsX7_harden := fun w h => List.mem_cons_of_mem _ (List.mem_append_left _ (List.mem_append_right _ (h)))
set_option maxHeartbeats 4000000 in
set_option maxRecDepth 100000 in
theorem mt_X7_harden (l : Launch) (dC : Nat → ClassId) (dI : Nat → Nat → Nat) (L : List Nat) (a b : Nat) (ad : Nat → Nat) (cy : Nat → ClassId) (hM : mOK L a b ad) (sz : Nat) (I : Nat → Nat → Int32) (D : Nat → Nat → UInt64) (p1 : Int32) (p2 : Int32) (rr : UInt64) (I9 : Nat → Nat → Int32) (D9 : Nat → Nat → UInt64) (hf : f_X7_harden a b I D p1 p2 = some (rr, I9, D9)) : Met l yX7_harden wsX7_harden ({ frames := 2, cells := 0, slots := 0, locals := 43 }) (va_Pc [.ref (ad 0), .int p1, .int p2] (fun U => U.heap.size = sz ∧ wM dC dI L a b ad cy I D U)) (va_Qd (fun r (_ : Unit) => rr = r) (fun _ t => wM dC dI L a b ad cy I9 D9 t) (AM L ad sz)) 0 0 (AM L ad sz) := by
  refine Met.ofW (cc := cX7_harden) (maxL := 3) (ret := (some .double)) (by decide) rfl ?_
  intro p e s m args below meth c s₁ B hml hv
  obtain ⟨rfl, hsz, hP, hK, hN⟩ := hv
  have hx := B.exec
  have hb := B.bytes
  have hr := B.returns
  have hts := atoms_spec (ws := wsX7_harden) B.pre
  have hown : s.vm.findClass RX7 = some m.cls := findClass_of_methodNamed B.named
  have hlocks := B.notSynchronized
  subst hsz
  generalize hAe : AM L ad s.heap.size = A
  have hA : ∀ q : Nat, s.heap.size ≤ q → A q := fun q h => by rw [← hAe]; exact Or.inr h
  have hAL : ∀ k, k ∈ L → A (ad k) := fun k h => by rw [← hAe]; exact Or.inl ⟨k, h, rfl⟩
  have hDD : ∀ I D, va_D A (iwM L a b ad cy I D) := fun I D => iwM_D hM hAL I D
  obtain ⟨H, hH⟩ : ∃ H : Heap, H = s.heap := ⟨_, rfl⟩
  have hS : va_S A s.heap H [] := by rw [hH]; exact va_S.rf
  rw [← hH]
  rw [← hH] at hP
  have hl := lv_entry ([.ref (ad 0), .int p1, .int p2]) (n := 3) (Nat.le_of_ble_eq_true rfl)
  rw [lg_entry_eq]
  generalize (lg_sl ([.ref (ad 0), .int p1, .int p2]) ++ List.replicate (3 - (lg_sl ([.ref (ad 0), .int p1, .int p2])).length) Slot.unset).toArray = ls at hl ⊢
  have hl : lv_has ls 3 [(0, .ref (ad 0)), (1, .int p1), (2, .int p2)] := hl
  unfold f_X7_harden at hf
  refine lv_aload_n hx hb dX7_harden_0 rfl (lv_at hl 0 rfl) ?_
  refine lv_iconst (v := 0) hx hb dX7_harden_1 (by decide) ?_
  obtain ⟨q_1, wq_1, heq_1⟩ := heM_0 (cy := cy) (I := I) (D := D) hM
  obtain ⟨I_2, eI_2, hf⟩ := nm_out hf
  refine va_put (D := (dC, dI)) (ci := 8) (v := .int 0) (ty := .int) (C := RX7) (T := TX7) (N := 9) hx hb hts iX7_harden_RX7 tyX7 tyX7_ok nmX7 hown hK hP (hDD I D) hS q_1 heq_1 rfl 0 (by decide) (hts (.fieldLink RX7 32 "OverrunHouseModel" "thrown" "I") (List.mem_cons_of_mem _ (List.mem_append_left _ (List.mem_append_left _ (List.mem_of_getElem? (i := 0) rfl))))) (fun _ h9 => h9) rfl (by decide +kernel) rfl rfl (Nat.le_of_ble_eq_true rfl) dX7_harden_2 (fun H locs hP _ hS => ?_)
  have hP : va_P (dC, dI) vwCl (iwM L a b ad cy I_2 D) H := by rw [eI_2]; exact hqI hM wq_1 ((cellM_0 ad cy a b _ _).trans rfl) hP
  refine lv_aload_n hx hb dX7_harden_5 rfl (lv_at hl 0 rfl) ?_
  refine lv_iload_n hx hb dX7_harden_6 rfl (lv_at hl 1 rfl) ?_
  obtain ⟨r_3, g_4, hf⟩ := bd_out hf
  obtain ⟨q_5, wq_5, heq_5⟩ := heM_0 (cy := cy) (I := I_2) (D := D) hM
  refine va_calli (va_runV (As := [.int p1]) (rest := []) ⟨hx, hb, hml, hown, hts⟩ (mt_X7_isBatch l dC dI L a b ad cy hM H.size I_2 D p1 r_3 g_4) (cwV 1 hts gX7_harden_X7_isBatch rfl rfl rfl (by decide +kernel) ⟨Nat.le_of_ble_eq_true rfl, Nat.le_of_ble_eq_true rfl⟩) ⟨(wM.pre [.ref (ad 0), .int p1] hP hK hN).1, wM.recv (C := RX7) (T := TX7) (N := 9) hP hK heq_5 rfl, (wM.pre [.ref (ad 0), .int p1] hP hK hN).2⟩ rfl rfl hl.1 rfl (lv_room (Nat.le_of_ble_eq_true rfl)) dX7_harden_7 ⟨Nat.le_of_ble_eq_true rfl, Nat.le_of_ble_eq_true rfl⟩) hS (fun q _ h => hA q (Nat.le_trans hS.1 h)) (fun q h => hA q (Nat.le_trans hS.1 h)) (fun r9 u t H1 locs ht hvm hw hB hz1 hk1 hS => ?_)
  subst hw
  have hP := va_Pnew hP hk1
  clear hz1 hk1 hvm ht hB
  generalize H1 = H at hP hS ⊢
  refine lv_if_ne (tgt := 20) hx hb dX7_harden_10 (by decide) (fun c_6 => ?_) (fun c_6 => ?_)
  · have hf := it_f hf c_6
    refine lv_iload_n hx hb dX7_harden_20 rfl (lv_at hl 2 rfl) ?_
    refine lv_bipush (v := 10) hx hb dX7_harden_21 (by decide) ?_
    refine lv_bipush (v := 90) hx hb dX7_harden_23 (by decide) ?_
    obtain ⟨r_7, g_8, hf⟩ := bd_out hf
    refine va_calli (va_runS (As := [.int p2, .int 10, .int 90]) (rest := []) ⟨hx, hb, hml, hown, hts⟩ (mt_X7_in l H.size p2 10 90 r_7 g_8) (va_cwS 3 hts gX7_harden_X7_in rfl rfl rfl (by decide +kernel) ⟨Nat.le_of_ble_eq_true rfl, Nat.le_of_ble_eq_true rfl⟩) (pre0 [.int p2, .int 10, .int 90]) rfl rfl hl.1 rfl (lv_room (Nat.le_of_ble_eq_true rfl)) dX7_harden_25 ⟨Nat.le_of_ble_eq_true rfl, Nat.le_of_ble_eq_true rfl⟩) hS (fun q _ h => hA q (Nat.le_trans hS.1 h)) (fun q h => hA q (Nat.le_trans hS.1 h)) (fun r9 u t H1 locs ht hvm hw hB hz1 hk1 hS => ?_)
    subst hw
    have hP := va_Pnew hP hk1
    clear hz1 hk1 hvm ht hB
    generalize H1 = H at hP hS ⊢
    refine lv_if_ne (tgt := 38) hx hb dX7_harden_28 (by decide) (fun c_9 => ?_) (fun c_9 => ?_)
    · have hf := it_f hf c_9
      refine lv_aload_n hx hb dX7_harden_38 rfl (lv_at hl 0 rfl) ?_
      obtain ⟨q_10, wq_10, heq_10⟩ := heM_0 (cy := cy) (I := I_2) (D := D) hM
      refine va_get (D := (dC, dI)) (ci := 8) (v := .ref (ad 5)) (C := RX7) (T := TX7) (N := 9) hx hb hts iX7_harden_RX7 hown hK hP q_10 heq_10 rfl 3 (by decide) (hts (.fieldLink RX7 24 "OverrunHouseModel" "cold" "LOverrunHouseModel$Cold;") (List.mem_cons_of_mem _ (List.mem_append_left _ (List.mem_append_left _ (List.mem_of_getElem? (i := 1) rfl))))) (fun _ h9 => h9) rfl dX7_harden_39 ?_
      obtain ⟨q_11, wq_11, heq_11⟩ := heM_Cold (cy := cy) (I := I_2) (D := D) (a := a) (b := b) (cOK_5 hM)
      refine va_get (D := (dC, dI)) (ci := 6) (v := .ref (ad (5 + 4))) (C := RX5) (T := TX5) (N := 10) hx hb hts iX7_harden_RX5 hown hK hP q_11 heq_11 rfl 4 (by decide) (hts (.fieldLink RX7 123 "OverrunHouseModel$Cold" "where" "[I") (List.mem_cons_of_mem _ (List.mem_append_left _ (List.mem_append_left _ (List.mem_of_getElem? (i := 2) rfl))))) (fun _ h9 => h9) rfl dX7_harden_42 ?_
      refine lv_iload_n hx hb dX7_harden_45 rfl (lv_at hl 1 rfl) ?_
      obtain ⟨q_12, wq_12, heq_12⟩ := heM_Where (cy := cy) (I := I_2) (D := D) (a := a) (b := b) (cOK_5 hM)
      obtain ⟨h_13, hf⟩ := ck_out hf
      refine va_iald (n := 12) (f := I_2 (5 + 4)) hx hb hK hP q_12 0 heq_12 rfl (inB_in h_13) dX7_harden_46 ?_
      refine lv_iconst (v := (-1)) hx hb dX7_harden_47 (by decide) ?_
      refine lv_icmp_ne (tgt := 63) hx hb dX7_harden_48 (by decide) (fun c_14 => ?_) (fun c_14 => ?_)
      · have hf := it_f hf c_14
        refine lv_aload_n hx hb dX7_harden_63 rfl (lv_at hl 0 rfl) ?_
        refine lv_iconst (v := 3) hx hb dX7_harden_64 (by decide) ?_
        obtain ⟨⟨r_15, I_17, D_18⟩, g_16, hf⟩ := bd_out hf
        obtain ⟨q_19, wq_19, heq_19⟩ := heM_0 (cy := cy) (I := I_2) (D := D) hM
        have hAW : ∀ q, AM L ad H.size q → A q := fun q h => h.elim (fun ⟨k, k1, k2⟩ => k2 ▸ hAL k k1) (fun h => hA q (Nat.le_trans hS.1 h))
        refine va_calli (va_runV (As := [.int 3]) (rest := []) ⟨hx, hb, hml, hown, hts⟩ (mt_X7_no l dC dI L a b ad cy hM H.size I_2 D 3 r_15 I_17 D_18 g_16) (cwV 1 hts gX7_harden_X7_no rfl rfl rfl (by decide +kernel) ⟨Nat.le_of_ble_eq_true rfl, Nat.le_of_ble_eq_true rfl⟩) ⟨(wM.pre [.ref (ad 0), .int 3] hP hK hN).1, wM.recv (C := RX7) (T := TX7) (N := 9) hP hK heq_19 rfl, (wM.pre [.ref (ad 0), .int 3] hP hK hN).2⟩ rfl rfl hl.1 rfl (lv_room (Nat.le_of_ble_eq_true rfl)) dX7_harden_65 ⟨Nat.le_of_ble_eq_true rfl, Nat.le_of_ble_eq_true rfl⟩) hS (fun q _ h => hAW q h) hAW (fun r9 u t H1 locs ht hvm hw hB hz1 hk1 hS => ?_)
        subst hw
        have hP : va_P (dC, dI) vwCl (iwM L a b ad cy I_17 D_18) H1 := by rw [← ht]; exact hB.1
        clear hz1 hk1 hvm ht hB
        generalize H1 = H at hP hS ⊢
        refine lv_i2d hx hb dX7_harden_68 ?_
        have hf := Option.some.inj hf
        obtain ⟨q1, q2⟩ := Prod.mk.inj hf
        obtain ⟨q2, q3⟩ := Prod.mk.inj q2
        rw [q2, q3] at hP
        exact W.dret (v := (FP.i2d r_15)) hx hb hr (fun t ht hW9 => ⟨⟨(FP.i2d r_15), (), rfl, q1.symm, wM.of hP hK hN ht hW9⟩, hS.F ht⟩) hS.2.2 dX7_harden_69
      · have hf := it_t hf c_14
        refine lv_aload_n hx hb dX7_harden_51 rfl (lv_at hl 0 rfl) ?_
        obtain ⟨q_20, wq_20, heq_20⟩ := heM_0 (cy := cy) (I := I_2) (D := D) hM
        refine va_get (D := (dC, dI)) (ci := 8) (v := .ref (ad 5)) (C := RX7) (T := TX7) (N := 9) hx hb hts iX7_harden_RX7 hown hK hP q_20 heq_20 rfl 3 (by decide) (hts (.fieldLink RX7 24 "OverrunHouseModel" "cold" "LOverrunHouseModel$Cold;") (List.mem_cons_of_mem _ (List.mem_append_left _ (List.mem_append_left _ (List.mem_of_getElem? (i := 1) rfl))))) (fun _ h9 => h9) rfl dX7_harden_52 ?_
        obtain ⟨q_21, wq_21, heq_21⟩ := heM_Cold (cy := cy) (I := I_2) (D := D) (a := a) (b := b) (cOK_5 hM)
        refine va_get (D := (dC, dI)) (ci := 6) (v := .ref (ad (5 + 3))) (C := RX5) (T := TX5) (N := 10) hx hb hts iX7_harden_RX5 hown hK hP q_21 heq_21 rfl 3 (by decide) (hts (.fieldLink RX7 138 "OverrunHouseModel$Cold" "hard" "[Z") (List.mem_cons_of_mem _ (List.mem_append_left _ (List.mem_append_left _ (List.mem_of_getElem? (i := 3) rfl))))) (fun _ h9 => h9) rfl dX7_harden_55 ?_
        refine lv_iload_n hx hb dX7_harden_58 rfl (lv_at hl 1 rfl) ?_
        obtain ⟨q_22, wq_22, heq_22⟩ := heM_Hard (cy := cy) (I := I_2) (D := D) (a := a) (b := b) (cOK_5 hM)
        obtain ⟨h_23, hf⟩ := ck_out hf
        refine va_zald (n := 12) (f := I_2 (5 + 3)) hx hb hK hP q_22 5 heq_22 rfl (inB_in h_23) dX7_harden_59 ?_
        refine lv_if_eq (tgt := 70) hx hb dX7_harden_60 (by decide) (fun c_24 => ?_) (fun c_24 => ?_)
        · have hf := it_t hf c_24
          refine lv_aload_n hx hb dX7_harden_70 rfl (lv_at hl 0 rfl) ?_
          obtain ⟨q_25, wq_25, heq_25⟩ := heM_0 (cy := cy) (I := I_2) (D := D) hM
          refine va_get (D := (dC, dI)) (ci := 8) (v := .ref (ad 5)) (C := RX7) (T := TX7) (N := 9) hx hb hts iX7_harden_RX7 hown hK hP q_25 heq_25 rfl 3 (by decide) (hts (.fieldLink RX7 24 "OverrunHouseModel" "cold" "LOverrunHouseModel$Cold;") (List.mem_cons_of_mem _ (List.mem_append_left _ (List.mem_append_left _ (List.mem_of_getElem? (i := 1) rfl))))) (fun _ h9 => h9) rfl dX7_harden_71 ?_
          obtain ⟨q_26, wq_26, heq_26⟩ := heM_Cold (cy := cy) (I := I_2) (D := D) (a := a) (b := b) (cOK_5 hM)
          refine va_get (D := (dC, dI)) (ci := 6) (v := .ref (ad (5 + 3))) (C := RX5) (T := TX5) (N := 10) hx hb hts iX7_harden_RX5 hown hK hP q_26 heq_26 rfl 3 (by decide) (hts (.fieldLink RX7 138 "OverrunHouseModel$Cold" "hard" "[Z") (List.mem_cons_of_mem _ (List.mem_append_left _ (List.mem_append_left _ (List.mem_of_getElem? (i := 3) rfl))))) (fun _ h9 => h9) rfl dX7_harden_74 ?_
          refine lv_iload_n hx hb dX7_harden_77 rfl (lv_at hl 1 rfl) ?_
          refine lv_iconst (v := 1) hx hb dX7_harden_78 (by decide) ?_
          obtain ⟨q_27, wq_27, heq_27⟩ := heM_Hard (cy := cy) (I := I_2) (D := D) (a := a) (b := b) (cOK_5 hM)
          obtain ⟨h_28, hf⟩ := ck_out hf
          obtain ⟨I_29, eI_29, hf⟩ := nm_out hf
          refine va_zast (n := 12) (f := I_2 (5 + 3)) hx hb hK hP (hDD I_2 D) hS q_27 5 heq_27 rfl (inB_in h_28) dX7_harden_79 (fun H locs hP _ hS => ?_)
          have hP : va_P (dC, dI) vwCl (iwM L a b ad cy I_29 D) H := by rw [eI_29]; exact hqI hM wq_27 ((cellM_Hard ad cy a b (cOK_5 hM).1 _ _).trans rfl) hP
          refine lv_aload_n hx hb dX7_harden_80 rfl (lv_at hl 0 rfl) ?_
          obtain ⟨q_30, wq_30, heq_30⟩ := heM_0 (cy := cy) (I := I_29) (D := D) hM
          refine va_get (D := (dC, dI)) (ci := 8) (v := .ref (ad 5)) (C := RX7) (T := TX7) (N := 9) hx hb hts iX7_harden_RX7 hown hK hP q_30 heq_30 rfl 3 (by decide) (hts (.fieldLink RX7 24 "OverrunHouseModel" "cold" "LOverrunHouseModel$Cold;") (List.mem_cons_of_mem _ (List.mem_append_left _ (List.mem_append_left _ (List.mem_of_getElem? (i := 1) rfl))))) (fun _ h9 => h9) rfl dX7_harden_81 ?_
          obtain ⟨q_31, wq_31, heq_31⟩ := heM_Cold (cy := cy) (I := I_29) (D := D) (a := a) (b := b) (cOK_5 hM)
          refine va_get (D := (dC, dI)) (ci := 6) (v := .ref (ad (5 + 5))) (C := RX5) (T := TX5) (N := 10) hx hb hts iX7_harden_RX5 hown hK hP q_31 heq_31 rfl 5 (by decide) (hts (.fieldLink RX7 126 "OverrunHouseModel$Cold" "crystal" "[D") (List.mem_cons_of_mem _ (List.mem_append_left _ (List.mem_append_left _ (List.mem_of_getElem? (i := 4) rfl))))) (fun _ h9 => h9) rfl dX7_harden_84 ?_
          refine lv_iload_n hx hb dX7_harden_87 rfl (lv_at hl 1 rfl) ?_
          refine lv_dup2_11 hx hb dX7_harden_88 rfl rfl ?_
          obtain ⟨q_32, wq_32, heq_32⟩ := heM_Crystal (cy := cy) (I := I_29) (D := D) (a := a) (b := b) (cOK_5 hM)
          obtain ⟨h_33, hf⟩ := ck_out hf
          refine va_dald (n := 12) (f := D (5 + 5)) hx hb hK hP q_32 6 heq_32 rfl (inB_in h_33) dX7_harden_89 ?_
          refine lv_iload_n hx hb dX7_harden_90 rfl (lv_at hl 2 rfl) ?_
          refine lv_i2d hx hb dX7_harden_91 ?_
          refine lv_ldc2d (v := 4598175219545276416) hx hb hown (hts (.constantDouble RX7 142 (4598175219545276416)) (List.mem_cons_of_mem _ (List.mem_append_left _ (List.mem_append_left _ (List.mem_of_getElem? (i := 5) rfl))))) dX7_harden_92 ?_
          obtain ⟨h_34, hf⟩ := ck_out hf
          refine lv_dmul hx hb dX7_harden_95 (okD_n h_34) ?_
          obtain ⟨h_35, hf⟩ := ck_out hf
          refine lv_dadd hx hb dX7_harden_96 (okD_n h_35) ?_
          obtain ⟨q_36, wq_36, heq_36⟩ := heM_Crystal (cy := cy) (I := I_29) (D := D) (a := a) (b := b) (cOK_5 hM)
          obtain ⟨h_37, hf⟩ := ck_out hf
          obtain ⟨D_38, eD_38, hf⟩ := nm_out hf
          refine va_dast (n := 12) (f := D (5 + 5)) hx hb hK hP (hDD I_29 D) hS q_36 6 heq_36 rfl (inB_in h_37) dX7_harden_97 (fun H locs hP _ hS => ?_)
          have hP : va_P (dC, dI) vwCl (iwM L a b ad cy I_29 D_38) H := by rw [eD_38]; exact hqD hM wq_36 ((cellM_Crystal ad cy a b (cOK_5 hM).1 _ _).trans rfl) hP
          refine lv_aload_n hx hb dX7_harden_98 rfl (lv_at hl 0 rfl) ?_
          obtain ⟨q_39, wq_39, heq_39⟩ := heM_0 (cy := cy) (I := I_29) (D := D_38) hM
          refine va_get (D := (dC, dI)) (ci := 8) (v := .ref (ad 5)) (C := RX7) (T := TX7) (N := 9) hx hb hts iX7_harden_RX7 hown hK hP q_39 heq_39 rfl 3 (by decide) (hts (.fieldLink RX7 24 "OverrunHouseModel" "cold" "LOverrunHouseModel$Cold;") (List.mem_cons_of_mem _ (List.mem_append_left _ (List.mem_append_left _ (List.mem_of_getElem? (i := 1) rfl))))) (fun _ h9 => h9) rfl dX7_harden_99 ?_
          obtain ⟨q_40, wq_40, heq_40⟩ := heM_Cold (cy := cy) (I := I_29) (D := D_38) (a := a) (b := b) (cOK_5 hM)
          refine va_get (D := (dC, dI)) (ci := 6) (v := .ref (ad (5 + 5))) (C := RX5) (T := TX5) (N := 10) hx hb hts iX7_harden_RX5 hown hK hP q_40 heq_40 rfl 5 (by decide) (hts (.fieldLink RX7 126 "OverrunHouseModel$Cold" "crystal" "[D") (List.mem_cons_of_mem _ (List.mem_append_left _ (List.mem_append_left _ (List.mem_of_getElem? (i := 4) rfl))))) (fun _ h9 => h9) rfl dX7_harden_102 ?_
          refine lv_iload_n hx hb dX7_harden_105 rfl (lv_at hl 1 rfl) ?_
          obtain ⟨q_41, wq_41, heq_41⟩ := heM_Crystal (cy := cy) (I := I_29) (D := D_38) (a := a) (b := b) (cOK_5 hM)
          obtain ⟨h_42, hf⟩ := ck_out hf
          refine va_dald (n := 12) (f := D_38 (5 + 5)) hx hb hK hP q_41 6 heq_41 rfl (inB_in h_42) dX7_harden_106 ?_
          have hf := Option.some.inj hf
          obtain ⟨q1, q2⟩ := Prod.mk.inj hf
          obtain ⟨q2, q3⟩ := Prod.mk.inj q2
          rw [q2, q3] at hP
          exact W.dret (v := (D_38 (5 + 5) (p1).toNatClampNeg)) hx hb hr (fun t ht hW9 => ⟨⟨(D_38 (5 + 5) (p1).toNatClampNeg), (), rfl, q1.symm, wM.of hP hK hN ht hW9⟩, hS.F ht⟩) hS.2.2 dX7_harden_107
        · have hf := it_f hf c_24
          refine lv_aload_n hx hb dX7_harden_63 rfl (lv_at hl 0 rfl) ?_
          refine lv_iconst (v := 3) hx hb dX7_harden_64 (by decide) ?_
          obtain ⟨⟨r_43, I_45, D_46⟩, g_44, hf⟩ := bd_out hf
          obtain ⟨q_47, wq_47, heq_47⟩ := heM_0 (cy := cy) (I := I_2) (D := D) hM
          have hAW : ∀ q, AM L ad H.size q → A q := fun q h => h.elim (fun ⟨k, k1, k2⟩ => k2 ▸ hAL k k1) (fun h => hA q (Nat.le_trans hS.1 h))
          refine va_calli (va_runV (As := [.int 3]) (rest := []) ⟨hx, hb, hml, hown, hts⟩ (mt_X7_no l dC dI L a b ad cy hM H.size I_2 D 3 r_43 I_45 D_46 g_44) (cwV 1 hts gX7_harden_X7_no rfl rfl rfl (by decide +kernel) ⟨Nat.le_of_ble_eq_true rfl, Nat.le_of_ble_eq_true rfl⟩) ⟨(wM.pre [.ref (ad 0), .int 3] hP hK hN).1, wM.recv (C := RX7) (T := TX7) (N := 9) hP hK heq_47 rfl, (wM.pre [.ref (ad 0), .int 3] hP hK hN).2⟩ rfl rfl hl.1 rfl (lv_room (Nat.le_of_ble_eq_true rfl)) dX7_harden_65 ⟨Nat.le_of_ble_eq_true rfl, Nat.le_of_ble_eq_true rfl⟩) hS (fun q _ h => hAW q h) hAW (fun r9 u t H1 locs ht hvm hw hB hz1 hk1 hS => ?_)
          subst hw
          have hP : va_P (dC, dI) vwCl (iwM L a b ad cy I_45 D_46) H1 := by rw [← ht]; exact hB.1
          clear hz1 hk1 hvm ht hB
          generalize H1 = H at hP hS ⊢
          refine lv_i2d hx hb dX7_harden_68 ?_
          have hf := Option.some.inj hf
          obtain ⟨q1, q2⟩ := Prod.mk.inj hf
          obtain ⟨q2, q3⟩ := Prod.mk.inj q2
          rw [q2, q3] at hP
          exact W.dret (v := (FP.i2d r_43)) hx hb hr (fun t ht hW9 => ⟨⟨(FP.i2d r_43), (), rfl, q1.symm, wM.of hP hK hN ht hW9⟩, hS.F ht⟩) hS.2.2 dX7_harden_69
    · have hf := it_t hf c_9
      refine lv_aload_n hx hb dX7_harden_31 rfl (lv_at hl 0 rfl) ?_
      refine lv_iconst (v := 2) hx hb dX7_harden_32 (by decide) ?_
      obtain ⟨⟨r_48, I_50, D_51⟩, g_49, hf⟩ := bd_out hf
      obtain ⟨q_52, wq_52, heq_52⟩ := heM_0 (cy := cy) (I := I_2) (D := D) hM
      have hAW : ∀ q, AM L ad H.size q → A q := fun q h => h.elim (fun ⟨k, k1, k2⟩ => k2 ▸ hAL k k1) (fun h => hA q (Nat.le_trans hS.1 h))
      refine va_calli (va_runV (As := [.int 2]) (rest := []) ⟨hx, hb, hml, hown, hts⟩ (mt_X7_no l dC dI L a b ad cy hM H.size I_2 D 2 r_48 I_50 D_51 g_49) (cwV 1 hts gX7_harden_X7_no rfl rfl rfl (by decide +kernel) ⟨Nat.le_of_ble_eq_true rfl, Nat.le_of_ble_eq_true rfl⟩) ⟨(wM.pre [.ref (ad 0), .int 2] hP hK hN).1, wM.recv (C := RX7) (T := TX7) (N := 9) hP hK heq_52 rfl, (wM.pre [.ref (ad 0), .int 2] hP hK hN).2⟩ rfl rfl hl.1 rfl (lv_room (Nat.le_of_ble_eq_true rfl)) dX7_harden_33 ⟨Nat.le_of_ble_eq_true rfl, Nat.le_of_ble_eq_true rfl⟩) hS (fun q _ h => hAW q h) hAW (fun r9 u t H1 locs ht hvm hw hB hz1 hk1 hS => ?_)
      subst hw
      have hP : va_P (dC, dI) vwCl (iwM L a b ad cy I_50 D_51) H1 := by rw [← ht]; exact hB.1
      clear hz1 hk1 hvm ht hB
      generalize H1 = H at hP hS ⊢
      refine lv_i2d hx hb dX7_harden_36 ?_
      have hf := Option.some.inj hf
      obtain ⟨q1, q2⟩ := Prod.mk.inj hf
      obtain ⟨q2, q3⟩ := Prod.mk.inj q2
      rw [q2, q3] at hP
      exact W.dret (v := (FP.i2d r_48)) hx hb hr (fun t ht hW9 => ⟨⟨(FP.i2d r_48), (), rfl, q1.symm, wM.of hP hK hN ht hW9⟩, hS.F ht⟩) hS.2.2 dX7_harden_37
  · have hf := it_t hf c_6
    refine lv_aload_n hx hb dX7_harden_13 rfl (lv_at hl 0 rfl) ?_
    refine lv_iconst (v := 1) hx hb dX7_harden_14 (by decide) ?_
    obtain ⟨⟨r_53, I_55, D_56⟩, g_54, hf⟩ := bd_out hf
    obtain ⟨q_57, wq_57, heq_57⟩ := heM_0 (cy := cy) (I := I_2) (D := D) hM
    have hAW : ∀ q, AM L ad H.size q → A q := fun q h => h.elim (fun ⟨k, k1, k2⟩ => k2 ▸ hAL k k1) (fun h => hA q (Nat.le_trans hS.1 h))
    refine va_calli (va_runV (As := [.int 1]) (rest := []) ⟨hx, hb, hml, hown, hts⟩ (mt_X7_no l dC dI L a b ad cy hM H.size I_2 D 1 r_53 I_55 D_56 g_54) (cwV 1 hts gX7_harden_X7_no rfl rfl rfl (by decide +kernel) ⟨Nat.le_of_ble_eq_true rfl, Nat.le_of_ble_eq_true rfl⟩) ⟨(wM.pre [.ref (ad 0), .int 1] hP hK hN).1, wM.recv (C := RX7) (T := TX7) (N := 9) hP hK heq_57 rfl, (wM.pre [.ref (ad 0), .int 1] hP hK hN).2⟩ rfl rfl hl.1 rfl (lv_room (Nat.le_of_ble_eq_true rfl)) dX7_harden_15 ⟨Nat.le_of_ble_eq_true rfl, Nat.le_of_ble_eq_true rfl⟩) hS (fun q _ h => hAW q h) hAW (fun r9 u t H1 locs ht hvm hw hB hz1 hk1 hS => ?_)
    subst hw
    have hP : va_P (dC, dI) vwCl (iwM L a b ad cy I_55 D_56) H1 := by rw [← ht]; exact hB.1
    clear hz1 hk1 hvm ht hB
    generalize H1 = H at hP hS ⊢
    refine lv_i2d hx hb dX7_harden_18 ?_
    have hf := Option.some.inj hf
    obtain ⟨q1, q2⟩ := Prod.mk.inj hf
    obtain ⟨q2, q3⟩ := Prod.mk.inj q2
    rw [q2, q3] at hP
    exact W.dret (v := (FP.i2d r_53)) hx hb hr (fun t ht hW9 => ⟨⟨(FP.i2d r_53), (), rfl, q1.symm, wM.of hP hK hN ht hW9⟩, hS.F ht⟩) hS.2.2 dX7_harden_19

def f_X7_store (a b : Nat) (I : Nat → Nat → Int32) (D : Nat → Nat → UInt64) (p1 : Int32) : Option (Int32 × (Nat → Nat → Int32) × (Nat → Nat → UInt64)) :=
  nm (up2 I 0 0 0) (fun I_2 => bd (f_X7_in p1 (-30) (-10)) (fun r_3 => (if r_3 = 0 then bd (f_X7_no a b I_2 D 1) (fun (r_32, I_34, D_35) => some (r_32, I_34, D_35)) else (if (I_2 5 6) = 3 then bd (f_X7_no a b I_2 D 2) (fun (r_27, I_29, D_30) => some (r_27, I_29, D_30)) else ck (inB (I_2 5 6) 3) (nm (up2 I_2 (5 + 6) ((I_2 5 6)).toNatClampNeg p1) (fun I_15 => ck (inB (I_15 5 6) 3) (nm (up2 D (5 + 7) ((I_15 5 6)).toNatClampNeg (FP.i2d p1)) (fun D_22 => nm (up2 I_15 5 6 ((I_15 5 6) + 1)) (fun I_26 => some ((I_15 5 6), I_26, D_22))))))))))
theorem iX7_store_RX5 : ∀ w ∈ u_ws RX5 TX5 10, w ∈ wsX7_store := fun w h => List.mem_cons_of_mem _ (List.mem_append_right _ (h))
theorem iX7_store_RX7 : ∀ w ∈ u_ws RX7 TX7 9, w ∈ wsX7_store := fun w h => List.mem_cons_of_mem _ (List.mem_append_left _ (List.mem_append_right _ (h)))
set_option maxHeartbeats 4000000 in
set_option maxRecDepth 100000 in
theorem mt_X7_store (l : Launch) (dC : Nat → ClassId) (dI : Nat → Nat → Nat) (L : List Nat) (a b : Nat) (ad : Nat → Nat) (cy : Nat → ClassId) (hM : mOK L a b ad) (sz : Nat) (I : Nat → Nat → Int32) (D : Nat → Nat → UInt64) (p1 : Int32) (rr : Int32) (I9 : Nat → Nat → Int32) (D9 : Nat → Nat → UInt64) (hf : f_X7_store a b I D p1 = some (rr, I9, D9)) : Met l yX7_store wsX7_store ({ frames := 1, cells := 0, slots := 0, locals := 22 }) (va_Pc [.ref (ad 0), .int p1] (fun U => U.heap.size = sz ∧ wM dC dI L a b ad cy I D U)) (va_Qi (fun r (_ : Unit) => rr = r) (fun _ t => wM dC dI L a b ad cy I9 D9 t) (AM L ad sz)) 0 0 (AM L ad sz) := by
  refine Met.ofW (cc := cX7_store) (maxL := 2) (ret := (some .int)) (by decide) rfl ?_
  intro p e s m args below meth c s₁ B hml hv
  obtain ⟨rfl, hsz, hP, hK, hN⟩ := hv
  have hx := B.exec
  have hb := B.bytes
  have hr := B.returns
  have hts := atoms_spec (ws := wsX7_store) B.pre
  have hown : s.vm.findClass RX7 = some m.cls := findClass_of_methodNamed B.named
  have hlocks := B.notSynchronized
  subst hsz
  generalize hAe : AM L ad s.heap.size = A
  have hA : ∀ q : Nat, s.heap.size ≤ q → A q := fun q h => by rw [← hAe]; exact Or.inr h
  have hAL : ∀ k, k ∈ L → A (ad k) := fun k h => by rw [← hAe]; exact Or.inl ⟨k, h, rfl⟩
  have hDD : ∀ I D, va_D A (iwM L a b ad cy I D) := fun I D => iwM_D hM hAL I D
  obtain ⟨H, hH⟩ : ∃ H : Heap, H = s.heap := ⟨_, rfl⟩
  have hS : va_S A s.heap H [] := by rw [hH]; exact va_S.rf
  rw [← hH]
  rw [← hH] at hP
  have hl := lv_entry ([.ref (ad 0), .int p1]) (n := 2) (Nat.le_of_ble_eq_true rfl)
  rw [lg_entry_eq]
  generalize (lg_sl ([.ref (ad 0), .int p1]) ++ List.replicate (2 - (lg_sl ([.ref (ad 0), .int p1])).length) Slot.unset).toArray = ls at hl ⊢
  have hl : lv_has ls 2 [(0, .ref (ad 0)), (1, .int p1)] := hl
  unfold f_X7_store at hf
  refine lv_aload_n hx hb dX7_store_0 rfl (lv_at hl 0 rfl) ?_
  refine lv_iconst (v := 0) hx hb dX7_store_1 (by decide) ?_
  obtain ⟨q_1, wq_1, heq_1⟩ := heM_0 (cy := cy) (I := I) (D := D) hM
  obtain ⟨I_2, eI_2, hf⟩ := nm_out hf
  refine va_put (D := (dC, dI)) (ci := 8) (v := .int 0) (ty := .int) (C := RX7) (T := TX7) (N := 9) hx hb hts iX7_store_RX7 tyX7 tyX7_ok nmX7 hown hK hP (hDD I D) hS q_1 heq_1 rfl 0 (by decide) (hts (.fieldLink RX7 32 "OverrunHouseModel" "thrown" "I") (List.mem_cons_of_mem _ (List.mem_append_left _ (List.mem_append_left _ (List.mem_of_getElem? (i := 0) rfl))))) (fun _ h9 => h9) rfl (by decide +kernel) rfl rfl (Nat.le_of_ble_eq_true rfl) dX7_store_2 (fun H locs hP _ hS => ?_)
  have hP : va_P (dC, dI) vwCl (iwM L a b ad cy I_2 D) H := by rw [eI_2]; exact hqI hM wq_1 ((cellM_0 ad cy a b _ _).trans rfl) hP
  refine lv_iload_n hx hb dX7_store_5 rfl (lv_at hl 1 rfl) ?_
  refine lv_bipush (v := (-30)) hx hb dX7_store_6 (by decide) ?_
  refine lv_bipush (v := (-10)) hx hb dX7_store_8 (by decide) ?_
  obtain ⟨r_3, g_4, hf⟩ := bd_out hf
  refine va_calli (va_runS (As := [.int p1, .int (-30), .int (-10)]) (rest := []) ⟨hx, hb, hml, hown, hts⟩ (mt_X7_in l H.size p1 (-30) (-10) r_3 g_4) (va_cwS 3 hts gX7_store_X7_in rfl rfl rfl (by decide +kernel) ⟨Nat.le_of_ble_eq_true rfl, Nat.le_of_ble_eq_true rfl⟩) (pre0 [.int p1, .int (-30), .int (-10)]) rfl rfl hl.1 rfl (lv_room (Nat.le_of_ble_eq_true rfl)) dX7_store_10 ⟨Nat.le_of_ble_eq_true rfl, Nat.le_of_ble_eq_true rfl⟩) hS (fun q _ h => hA q (Nat.le_trans hS.1 h)) (fun q h => hA q (Nat.le_trans hS.1 h)) (fun r9 u t H1 locs ht hvm hw hB hz1 hk1 hS => ?_)
  subst hw
  have hP := va_Pnew hP hk1
  clear hz1 hk1 hvm ht hB
  generalize H1 = H at hP hS ⊢
  refine lv_if_ne (tgt := 22) hx hb dX7_store_13 (by decide) (fun c_5 => ?_) (fun c_5 => ?_)
  · have hf := it_f hf c_5
    refine lv_aload_n hx hb dX7_store_22 rfl (lv_at hl 0 rfl) ?_
    obtain ⟨q_6, wq_6, heq_6⟩ := heM_0 (cy := cy) (I := I_2) (D := D) hM
    refine va_get (D := (dC, dI)) (ci := 8) (v := .ref (ad 5)) (C := RX7) (T := TX7) (N := 9) hx hb hts iX7_store_RX7 hown hK hP q_6 heq_6 rfl 3 (by decide) (hts (.fieldLink RX7 24 "OverrunHouseModel" "cold" "LOverrunHouseModel$Cold;") (List.mem_cons_of_mem _ (List.mem_append_left _ (List.mem_append_left _ (List.mem_of_getElem? (i := 1) rfl))))) (fun _ h9 => h9) rfl dX7_store_23 ?_
    obtain ⟨q_7, wq_7, heq_7⟩ := heM_Cold (cy := cy) (I := I_2) (D := D) (a := a) (b := b) (cOK_5 hM)
    refine va_get (D := (dC, dI)) (ci := 6) (v := .int (I_2 5 6)) (C := RX5) (T := TX5) (N := 10) hx hb hts iX7_store_RX5 hown hK hP q_7 heq_7 rfl 6 (by decide) (hts (.fieldLink RX7 49 "OverrunHouseModel$Cold" "stores" "I") (List.mem_cons_of_mem _ (List.mem_append_left _ (List.mem_append_left _ (List.mem_of_getElem? (i := 2) rfl))))) (fun _ h9 => h9) rfl dX7_store_26 ?_
    refine lv_iconst (v := 3) hx hb dX7_store_29 (by decide) ?_
    refine lv_icmp_ne (tgt := 39) hx hb dX7_store_30 (by decide) (fun c_8 => ?_) (fun c_8 => ?_)
    · have hf := it_f hf c_8
      refine lv_aload_n hx hb dX7_store_39 rfl (lv_at hl 0 rfl) ?_
      obtain ⟨q_9, wq_9, heq_9⟩ := heM_0 (cy := cy) (I := I_2) (D := D) hM
      refine va_get (D := (dC, dI)) (ci := 8) (v := .ref (ad 5)) (C := RX7) (T := TX7) (N := 9) hx hb hts iX7_store_RX7 hown hK hP q_9 heq_9 rfl 3 (by decide) (hts (.fieldLink RX7 24 "OverrunHouseModel" "cold" "LOverrunHouseModel$Cold;") (List.mem_cons_of_mem _ (List.mem_append_left _ (List.mem_append_left _ (List.mem_of_getElem? (i := 1) rfl))))) (fun _ h9 => h9) rfl dX7_store_40 ?_
      obtain ⟨q_10, wq_10, heq_10⟩ := heM_Cold (cy := cy) (I := I_2) (D := D) (a := a) (b := b) (cOK_5 hM)
      refine va_get (D := (dC, dI)) (ci := 6) (v := .ref (ad (5 + 6))) (C := RX5) (T := TX5) (N := 10) hx hb hts iX7_store_RX5 hown hK hP q_10 heq_10 rfl 7 (by decide) (hts (.fieldLink RX7 144 "OverrunHouseModel$Cold" "set" "[I") (List.mem_cons_of_mem _ (List.mem_append_left _ (List.mem_append_left _ (List.mem_of_getElem? (i := 3) rfl))))) (fun _ h9 => h9) rfl dX7_store_43 ?_
      refine lv_aload_n hx hb dX7_store_46 rfl (lv_at hl 0 rfl) ?_
      obtain ⟨q_11, wq_11, heq_11⟩ := heM_0 (cy := cy) (I := I_2) (D := D) hM
      refine va_get (D := (dC, dI)) (ci := 8) (v := .ref (ad 5)) (C := RX7) (T := TX7) (N := 9) hx hb hts iX7_store_RX7 hown hK hP q_11 heq_11 rfl 3 (by decide) (hts (.fieldLink RX7 24 "OverrunHouseModel" "cold" "LOverrunHouseModel$Cold;") (List.mem_cons_of_mem _ (List.mem_append_left _ (List.mem_append_left _ (List.mem_of_getElem? (i := 1) rfl))))) (fun _ h9 => h9) rfl dX7_store_47 ?_
      obtain ⟨q_12, wq_12, heq_12⟩ := heM_Cold (cy := cy) (I := I_2) (D := D) (a := a) (b := b) (cOK_5 hM)
      refine va_get (D := (dC, dI)) (ci := 6) (v := .int (I_2 5 6)) (C := RX5) (T := TX5) (N := 10) hx hb hts iX7_store_RX5 hown hK hP q_12 heq_12 rfl 6 (by decide) (hts (.fieldLink RX7 49 "OverrunHouseModel$Cold" "stores" "I") (List.mem_cons_of_mem _ (List.mem_append_left _ (List.mem_append_left _ (List.mem_of_getElem? (i := 2) rfl))))) (fun _ h9 => h9) rfl dX7_store_50 ?_
      refine lv_iload_n hx hb dX7_store_53 rfl (lv_at hl 1 rfl) ?_
      obtain ⟨q_13, wq_13, heq_13⟩ := heM_Set (cy := cy) (I := I_2) (D := D) (a := a) (b := b) (cOK_5 hM)
      obtain ⟨h_14, hf⟩ := ck_out hf
      obtain ⟨I_15, eI_15, hf⟩ := nm_out hf
      refine va_iast (n := 3) (f := I_2 (5 + 6)) hx hb hK hP (hDD I_2 D) hS q_13 0 heq_13 rfl (inB_in h_14) dX7_store_54 (fun H locs hP _ hS => ?_)
      have hP : va_P (dC, dI) vwCl (iwM L a b ad cy I_15 D) H := by rw [eI_15]; exact hqI hM wq_13 ((cellM_Set ad cy a b (cOK_5 hM).1 _ _).trans rfl) hP
      refine lv_aload_n hx hb dX7_store_55 rfl (lv_at hl 0 rfl) ?_
      obtain ⟨q_16, wq_16, heq_16⟩ := heM_0 (cy := cy) (I := I_15) (D := D) hM
      refine va_get (D := (dC, dI)) (ci := 8) (v := .ref (ad 5)) (C := RX7) (T := TX7) (N := 9) hx hb hts iX7_store_RX7 hown hK hP q_16 heq_16 rfl 3 (by decide) (hts (.fieldLink RX7 24 "OverrunHouseModel" "cold" "LOverrunHouseModel$Cold;") (List.mem_cons_of_mem _ (List.mem_append_left _ (List.mem_append_left _ (List.mem_of_getElem? (i := 1) rfl))))) (fun _ h9 => h9) rfl dX7_store_56 ?_
      obtain ⟨q_17, wq_17, heq_17⟩ := heM_Cold (cy := cy) (I := I_15) (D := D) (a := a) (b := b) (cOK_5 hM)
      refine va_get (D := (dC, dI)) (ci := 6) (v := .ref (ad (5 + 7))) (C := RX5) (T := TX5) (N := 10) hx hb hts iX7_store_RX5 hown hK hP q_17 heq_17 rfl 8 (by decide) (hts (.fieldLink RX7 146 "OverrunHouseModel$Cold" "temp" "[D") (List.mem_cons_of_mem _ (List.mem_append_left _ (List.mem_append_left _ (List.mem_of_getElem? (i := 4) rfl))))) (fun _ h9 => h9) rfl dX7_store_59 ?_
      refine lv_aload_n hx hb dX7_store_62 rfl (lv_at hl 0 rfl) ?_
      obtain ⟨q_18, wq_18, heq_18⟩ := heM_0 (cy := cy) (I := I_15) (D := D) hM
      refine va_get (D := (dC, dI)) (ci := 8) (v := .ref (ad 5)) (C := RX7) (T := TX7) (N := 9) hx hb hts iX7_store_RX7 hown hK hP q_18 heq_18 rfl 3 (by decide) (hts (.fieldLink RX7 24 "OverrunHouseModel" "cold" "LOverrunHouseModel$Cold;") (List.mem_cons_of_mem _ (List.mem_append_left _ (List.mem_append_left _ (List.mem_of_getElem? (i := 1) rfl))))) (fun _ h9 => h9) rfl dX7_store_63 ?_
      obtain ⟨q_19, wq_19, heq_19⟩ := heM_Cold (cy := cy) (I := I_15) (D := D) (a := a) (b := b) (cOK_5 hM)
      refine va_get (D := (dC, dI)) (ci := 6) (v := .int (I_15 5 6)) (C := RX5) (T := TX5) (N := 10) hx hb hts iX7_store_RX5 hown hK hP q_19 heq_19 rfl 6 (by decide) (hts (.fieldLink RX7 49 "OverrunHouseModel$Cold" "stores" "I") (List.mem_cons_of_mem _ (List.mem_append_left _ (List.mem_append_left _ (List.mem_of_getElem? (i := 2) rfl))))) (fun _ h9 => h9) rfl dX7_store_66 ?_
      refine lv_iload_n hx hb dX7_store_69 rfl (lv_at hl 1 rfl) ?_
      refine lv_i2d hx hb dX7_store_70 ?_
      obtain ⟨q_20, wq_20, heq_20⟩ := heM_Temp (cy := cy) (I := I_15) (D := D) (a := a) (b := b) (cOK_5 hM)
      obtain ⟨h_21, hf⟩ := ck_out hf
      obtain ⟨D_22, eD_22, hf⟩ := nm_out hf
      refine va_dast (n := 3) (f := D (5 + 7)) hx hb hK hP (hDD I_15 D) hS q_20 6 heq_20 rfl (inB_in h_21) dX7_store_71 (fun H locs hP _ hS => ?_)
      have hP : va_P (dC, dI) vwCl (iwM L a b ad cy I_15 D_22) H := by rw [eD_22]; exact hqD hM wq_20 ((cellM_Temp ad cy a b (cOK_5 hM).1 _ _).trans rfl) hP
      refine lv_aload_n hx hb dX7_store_72 rfl (lv_at hl 0 rfl) ?_
      obtain ⟨q_23, wq_23, heq_23⟩ := heM_0 (cy := cy) (I := I_15) (D := D_22) hM
      refine va_get (D := (dC, dI)) (ci := 8) (v := .ref (ad 5)) (C := RX7) (T := TX7) (N := 9) hx hb hts iX7_store_RX7 hown hK hP q_23 heq_23 rfl 3 (by decide) (hts (.fieldLink RX7 24 "OverrunHouseModel" "cold" "LOverrunHouseModel$Cold;") (List.mem_cons_of_mem _ (List.mem_append_left _ (List.mem_append_left _ (List.mem_of_getElem? (i := 1) rfl))))) (fun _ h9 => h9) rfl dX7_store_73 ?_
      refine lv_dup hx hb dX7_store_76 rfl ?_
      obtain ⟨q_24, wq_24, heq_24⟩ := heM_Cold (cy := cy) (I := I_15) (D := D_22) (a := a) (b := b) (cOK_5 hM)
      refine va_get (D := (dC, dI)) (ci := 6) (v := .int (I_15 5 6)) (C := RX5) (T := TX5) (N := 10) hx hb hts iX7_store_RX5 hown hK hP q_24 heq_24 rfl 6 (by decide) (hts (.fieldLink RX7 49 "OverrunHouseModel$Cold" "stores" "I") (List.mem_cons_of_mem _ (List.mem_append_left _ (List.mem_append_left _ (List.mem_of_getElem? (i := 2) rfl))))) (fun _ h9 => h9) rfl dX7_store_77 ?_
      refine lv_dup_x1 hx hb dX7_store_80 rfl rfl ?_
      refine lv_iconst (v := 1) hx hb dX7_store_81 (by decide) ?_
      refine lv_iadd hx hb dX7_store_82 ?_
      obtain ⟨q_25, wq_25, heq_25⟩ := heM_Cold (cy := cy) (I := I_15) (D := D_22) (a := a) (b := b) (cOK_5 hM)
      obtain ⟨I_26, eI_26, hf⟩ := nm_out hf
      refine va_put (D := (dC, dI)) (ci := 6) (v := .int ((I_15 5 6) + 1)) (ty := .int) (C := RX5) (T := TX5) (N := 10) hx hb hts iX7_store_RX5 tyX5 tyX5_ok nmX5 hown hK hP (hDD I_15 D_22) hS q_25 heq_25 rfl 6 (by decide) (hts (.fieldLink RX7 49 "OverrunHouseModel$Cold" "stores" "I") (List.mem_cons_of_mem _ (List.mem_append_left _ (List.mem_append_left _ (List.mem_of_getElem? (i := 2) rfl))))) (fun _ h9 => h9) rfl (by decide +kernel) rfl rfl (Nat.le_of_ble_eq_true rfl) dX7_store_83 (fun H locs hP _ hS => ?_)
      have hP : va_P (dC, dI) vwCl (iwM L a b ad cy I_26 D_22) H := by rw [eI_26]; exact hqI hM wq_25 ((cellM_Cold ad cy a b (cOK_5 hM).1 _ _).trans rfl) hP
      have hf := Option.some.inj hf
      obtain ⟨q1, q2⟩ := Prod.mk.inj hf
      obtain ⟨q2, q3⟩ := Prod.mk.inj q2
      rw [q2, q3] at hP
      exact W.iret (v := (I_15 5 6)) hx hb hr (fun t ht hW9 => ⟨⟨(I_15 5 6), (), rfl, q1.symm, wM.of hP hK hN ht hW9⟩, hS.F ht⟩) hS.2.2 dX7_store_86
    · have hf := it_t hf c_8
      refine lv_aload_n hx hb dX7_store_33 rfl (lv_at hl 0 rfl) ?_
      refine lv_iconst (v := 2) hx hb dX7_store_34 (by decide) ?_
      obtain ⟨⟨r_27, I_29, D_30⟩, g_28, hf⟩ := bd_out hf
      obtain ⟨q_31, wq_31, heq_31⟩ := heM_0 (cy := cy) (I := I_2) (D := D) hM
      have hAW : ∀ q, AM L ad H.size q → A q := fun q h => h.elim (fun ⟨k, k1, k2⟩ => k2 ▸ hAL k k1) (fun h => hA q (Nat.le_trans hS.1 h))
      refine va_calli (va_runV (As := [.int 2]) (rest := []) ⟨hx, hb, hml, hown, hts⟩ (mt_X7_no l dC dI L a b ad cy hM H.size I_2 D 2 r_27 I_29 D_30 g_28) (cwV 1 hts gX7_store_X7_no rfl rfl rfl (by decide +kernel) ⟨Nat.le_of_ble_eq_true rfl, Nat.le_of_ble_eq_true rfl⟩) ⟨(wM.pre [.ref (ad 0), .int 2] hP hK hN).1, wM.recv (C := RX7) (T := TX7) (N := 9) hP hK heq_31 rfl, (wM.pre [.ref (ad 0), .int 2] hP hK hN).2⟩ rfl rfl hl.1 rfl (lv_room (Nat.le_of_ble_eq_true rfl)) dX7_store_35 ⟨Nat.le_of_ble_eq_true rfl, Nat.le_of_ble_eq_true rfl⟩) hS (fun q _ h => hAW q h) hAW (fun r9 u t H1 locs ht hvm hw hB hz1 hk1 hS => ?_)
      subst hw
      have hP : va_P (dC, dI) vwCl (iwM L a b ad cy I_29 D_30) H1 := by rw [← ht]; exact hB.1
      clear hz1 hk1 hvm ht hB
      generalize H1 = H at hP hS ⊢
      have hf := Option.some.inj hf
      obtain ⟨q1, q2⟩ := Prod.mk.inj hf
      obtain ⟨q2, q3⟩ := Prod.mk.inj q2
      rw [q2, q3] at hP
      exact W.iret (v := r_27) hx hb hr (fun t ht hW9 => ⟨⟨r_27, (), rfl, q1.symm, wM.of hP hK hN ht hW9⟩, hS.F ht⟩) hS.2.2 dX7_store_38
  · have hf := it_t hf c_5
    refine lv_aload_n hx hb dX7_store_16 rfl (lv_at hl 0 rfl) ?_
    refine lv_iconst (v := 1) hx hb dX7_store_17 (by decide) ?_
    obtain ⟨⟨r_32, I_34, D_35⟩, g_33, hf⟩ := bd_out hf
    obtain ⟨q_36, wq_36, heq_36⟩ := heM_0 (cy := cy) (I := I_2) (D := D) hM
    have hAW : ∀ q, AM L ad H.size q → A q := fun q h => h.elim (fun ⟨k, k1, k2⟩ => k2 ▸ hAL k k1) (fun h => hA q (Nat.le_trans hS.1 h))
    refine va_calli (va_runV (As := [.int 1]) (rest := []) ⟨hx, hb, hml, hown, hts⟩ (mt_X7_no l dC dI L a b ad cy hM H.size I_2 D 1 r_32 I_34 D_35 g_33) (cwV 1 hts gX7_store_X7_no rfl rfl rfl (by decide +kernel) ⟨Nat.le_of_ble_eq_true rfl, Nat.le_of_ble_eq_true rfl⟩) ⟨(wM.pre [.ref (ad 0), .int 1] hP hK hN).1, wM.recv (C := RX7) (T := TX7) (N := 9) hP hK heq_36 rfl, (wM.pre [.ref (ad 0), .int 1] hP hK hN).2⟩ rfl rfl hl.1 rfl (lv_room (Nat.le_of_ble_eq_true rfl)) dX7_store_18 ⟨Nat.le_of_ble_eq_true rfl, Nat.le_of_ble_eq_true rfl⟩) hS (fun q _ h => hAW q h) hAW (fun r9 u t H1 locs ht hvm hw hB hz1 hk1 hS => ?_)
    subst hw
    have hP : va_P (dC, dI) vwCl (iwM L a b ad cy I_34 D_35) H1 := by rw [← ht]; exact hB.1
    clear hz1 hk1 hvm ht hB
    generalize H1 = H at hP hS ⊢
    have hf := Option.some.inj hf
    obtain ⟨q1, q2⟩ := Prod.mk.inj hf
    obtain ⟨q2, q3⟩ := Prod.mk.inj q2
    rw [q2, q3] at hP
    exact W.iret (v := r_32) hx hb hr (fun t ht hW9 => ⟨⟨r_32, (), rfl, q1.symm, wM.of hP hK hN ht hW9⟩, hS.F ht⟩) hS.2.2 dX7_store_21

def f_X7_set (a b : Nat) (I : Nat → Nat → Int32) (D : Nat → Nat → UInt64) (p1 : Int32) (p2 : Int32) : Option (Int32 × (Nat → Nat → Int32) × (Nat → Nat → UInt64)) :=
  nm (up2 I 0 0 0) (fun I_2 => bd (f_X7_isStore a b I_2 D p1) (fun r_3 => (if r_3 = 0 then bd (f_X7_no a b I_2 D 1) (fun (r_24, I_26, D_27) => some (r_24, I_26, D_27)) else bd (f_X7_in p2 (-30) (-10)) (fun r_7 => (if r_7 = 0 then bd (f_X7_no a b I_2 D 2) (fun (r_19, I_21, D_22) => some (r_19, I_21, D_22)) else ck (inB p1 3) (ck (inB p1 3) (nm (up2 I_2 (5 + 6) (p1).toNatClampNeg p2) (fun I_18 => some ((I_2 (5 + 6) (p1).toNatClampNeg), I_18, D)))))))))
theorem iX7_set_RX5 : ∀ w ∈ u_ws RX5 TX5 10, w ∈ wsX7_set := fun w h => List.mem_cons_of_mem _ (List.mem_append_right _ (h))
theorem iX7_set_RX7 : ∀ w ∈ u_ws RX7 TX7 9, w ∈ wsX7_set := fun w h => List.mem_cons_of_mem _ (List.mem_append_left _ (List.mem_append_right _ (h)))
set_option maxHeartbeats 4000000 in
set_option maxRecDepth 100000 in
theorem mt_X7_set (l : Launch) (dC : Nat → ClassId) (dI : Nat → Nat → Nat) (L : List Nat) (a b : Nat) (ad : Nat → Nat) (cy : Nat → ClassId) (hM : mOK L a b ad) (sz : Nat) (I : Nat → Nat → Int32) (D : Nat → Nat → UInt64) (p1 : Int32) (p2 : Int32) (rr : Int32) (I9 : Nat → Nat → Int32) (D9 : Nat → Nat → UInt64) (hf : f_X7_set a b I D p1 p2 = some (rr, I9, D9)) : Met l yX7_set wsX7_set ({ frames := 2, cells := 0, slots := 0, locals := 43 }) (va_Pc [.ref (ad 0), .int p1, .int p2] (fun U => U.heap.size = sz ∧ wM dC dI L a b ad cy I D U)) (va_Qi (fun r (_ : Unit) => rr = r) (fun _ t => wM dC dI L a b ad cy I9 D9 t) (AM L ad sz)) 0 0 (AM L ad sz) := by
  refine Met.ofW (cc := cX7_set) (maxL := 4) (ret := (some .int)) (by decide) rfl ?_
  intro p e s m args below meth c s₁ B hml hv
  obtain ⟨rfl, hsz, hP, hK, hN⟩ := hv
  have hx := B.exec
  have hb := B.bytes
  have hr := B.returns
  have hts := atoms_spec (ws := wsX7_set) B.pre
  have hown : s.vm.findClass RX7 = some m.cls := findClass_of_methodNamed B.named
  have hlocks := B.notSynchronized
  subst hsz
  generalize hAe : AM L ad s.heap.size = A
  have hA : ∀ q : Nat, s.heap.size ≤ q → A q := fun q h => by rw [← hAe]; exact Or.inr h
  have hAL : ∀ k, k ∈ L → A (ad k) := fun k h => by rw [← hAe]; exact Or.inl ⟨k, h, rfl⟩
  have hDD : ∀ I D, va_D A (iwM L a b ad cy I D) := fun I D => iwM_D hM hAL I D
  obtain ⟨H, hH⟩ : ∃ H : Heap, H = s.heap := ⟨_, rfl⟩
  have hS : va_S A s.heap H [] := by rw [hH]; exact va_S.rf
  rw [← hH]
  rw [← hH] at hP
  have hl := lv_entry ([.ref (ad 0), .int p1, .int p2]) (n := 4) (Nat.le_of_ble_eq_true rfl)
  rw [lg_entry_eq]
  generalize (lg_sl ([.ref (ad 0), .int p1, .int p2]) ++ List.replicate (4 - (lg_sl ([.ref (ad 0), .int p1, .int p2])).length) Slot.unset).toArray = ls at hl ⊢
  have hl : lv_has ls 4 [(0, .ref (ad 0)), (1, .int p1), (2, .int p2)] := hl
  unfold f_X7_set at hf
  refine lv_aload_n hx hb dX7_set_0 rfl (lv_at hl 0 rfl) ?_
  refine lv_iconst (v := 0) hx hb dX7_set_1 (by decide) ?_
  obtain ⟨q_1, wq_1, heq_1⟩ := heM_0 (cy := cy) (I := I) (D := D) hM
  obtain ⟨I_2, eI_2, hf⟩ := nm_out hf
  refine va_put (D := (dC, dI)) (ci := 8) (v := .int 0) (ty := .int) (C := RX7) (T := TX7) (N := 9) hx hb hts iX7_set_RX7 tyX7 tyX7_ok nmX7 hown hK hP (hDD I D) hS q_1 heq_1 rfl 0 (by decide) (hts (.fieldLink RX7 32 "OverrunHouseModel" "thrown" "I") (List.mem_cons_of_mem _ (List.mem_append_left _ (List.mem_append_left _ (List.mem_of_getElem? (i := 0) rfl))))) (fun _ h9 => h9) rfl (by decide +kernel) rfl rfl (Nat.le_of_ble_eq_true rfl) dX7_set_2 (fun H locs hP _ hS => ?_)
  have hP : va_P (dC, dI) vwCl (iwM L a b ad cy I_2 D) H := by rw [eI_2]; exact hqI hM wq_1 ((cellM_0 ad cy a b _ _).trans rfl) hP
  refine lv_aload_n hx hb dX7_set_5 rfl (lv_at hl 0 rfl) ?_
  refine lv_iload_n hx hb dX7_set_6 rfl (lv_at hl 1 rfl) ?_
  obtain ⟨r_3, g_4, hf⟩ := bd_out hf
  obtain ⟨q_5, wq_5, heq_5⟩ := heM_0 (cy := cy) (I := I_2) (D := D) hM
  refine va_calli (va_runV (As := [.int p1]) (rest := []) ⟨hx, hb, hml, hown, hts⟩ (mt_X7_isStore l dC dI L a b ad cy hM H.size I_2 D p1 r_3 g_4) (cwV 1 hts gX7_set_X7_isStore rfl rfl rfl (by decide +kernel) ⟨Nat.le_of_ble_eq_true rfl, Nat.le_of_ble_eq_true rfl⟩) ⟨(wM.pre [.ref (ad 0), .int p1] hP hK hN).1, wM.recv (C := RX7) (T := TX7) (N := 9) hP hK heq_5 rfl, (wM.pre [.ref (ad 0), .int p1] hP hK hN).2⟩ rfl rfl hl.1 rfl (lv_room (Nat.le_of_ble_eq_true rfl)) dX7_set_7 ⟨Nat.le_of_ble_eq_true rfl, Nat.le_of_ble_eq_true rfl⟩) hS (fun q _ h => hA q (Nat.le_trans hS.1 h)) (fun q h => hA q (Nat.le_trans hS.1 h)) (fun r9 u t H1 locs ht hvm hw hB hz1 hk1 hS => ?_)
  subst hw
  have hP := va_Pnew hP hk1
  clear hz1 hk1 hvm ht hB
  generalize H1 = H at hP hS ⊢
  refine lv_if_ne (tgt := 19) hx hb dX7_set_10 (by decide) (fun c_6 => ?_) (fun c_6 => ?_)
  · have hf := it_f hf c_6
    refine lv_iload_n hx hb dX7_set_19 rfl (lv_at hl 2 rfl) ?_
    refine lv_bipush (v := (-30)) hx hb dX7_set_20 (by decide) ?_
    refine lv_bipush (v := (-10)) hx hb dX7_set_22 (by decide) ?_
    obtain ⟨r_7, g_8, hf⟩ := bd_out hf
    refine va_calli (va_runS (As := [.int p2, .int (-30), .int (-10)]) (rest := []) ⟨hx, hb, hml, hown, hts⟩ (mt_X7_in l H.size p2 (-30) (-10) r_7 g_8) (va_cwS 3 hts gX7_set_X7_in rfl rfl rfl (by decide +kernel) ⟨Nat.le_of_ble_eq_true rfl, Nat.le_of_ble_eq_true rfl⟩) (pre0 [.int p2, .int (-30), .int (-10)]) rfl rfl hl.1 rfl (lv_room (Nat.le_of_ble_eq_true rfl)) dX7_set_24 ⟨Nat.le_of_ble_eq_true rfl, Nat.le_of_ble_eq_true rfl⟩) hS (fun q _ h => hA q (Nat.le_trans hS.1 h)) (fun q h => hA q (Nat.le_trans hS.1 h)) (fun r9 u t H1 locs ht hvm hw hB hz1 hk1 hS => ?_)
    subst hw
    have hP := va_Pnew hP hk1
    clear hz1 hk1 hvm ht hB
    generalize H1 = H at hP hS ⊢
    refine lv_if_ne (tgt := 36) hx hb dX7_set_27 (by decide) (fun c_9 => ?_) (fun c_9 => ?_)
    · have hf := it_f hf c_9
      refine lv_aload_n hx hb dX7_set_36 rfl (lv_at hl 0 rfl) ?_
      obtain ⟨q_10, wq_10, heq_10⟩ := heM_0 (cy := cy) (I := I_2) (D := D) hM
      refine va_get (D := (dC, dI)) (ci := 8) (v := .ref (ad 5)) (C := RX7) (T := TX7) (N := 9) hx hb hts iX7_set_RX7 hown hK hP q_10 heq_10 rfl 3 (by decide) (hts (.fieldLink RX7 24 "OverrunHouseModel" "cold" "LOverrunHouseModel$Cold;") (List.mem_cons_of_mem _ (List.mem_append_left _ (List.mem_append_left _ (List.mem_of_getElem? (i := 1) rfl))))) (fun _ h9 => h9) rfl dX7_set_37 ?_
      obtain ⟨q_11, wq_11, heq_11⟩ := heM_Cold (cy := cy) (I := I_2) (D := D) (a := a) (b := b) (cOK_5 hM)
      refine va_get (D := (dC, dI)) (ci := 6) (v := .ref (ad (5 + 6))) (C := RX5) (T := TX5) (N := 10) hx hb hts iX7_set_RX5 hown hK hP q_11 heq_11 rfl 7 (by decide) (hts (.fieldLink RX7 144 "OverrunHouseModel$Cold" "set" "[I") (List.mem_cons_of_mem _ (List.mem_append_left _ (List.mem_append_left _ (List.mem_of_getElem? (i := 2) rfl))))) (fun _ h9 => h9) rfl dX7_set_40 ?_
      refine lv_iload_n hx hb dX7_set_43 rfl (lv_at hl 1 rfl) ?_
      obtain ⟨q_12, wq_12, heq_12⟩ := heM_Set (cy := cy) (I := I_2) (D := D) (a := a) (b := b) (cOK_5 hM)
      obtain ⟨h_13, hf⟩ := ck_out hf
      refine va_iald (n := 3) (f := I_2 (5 + 6)) hx hb hK hP q_12 0 heq_12 rfl (inB_in h_13) dX7_set_44 ?_
      refine lv_istore_n (lv' := [(3, .int (I_2 (5 + 6) (p1).toNatClampNeg)), (0, .ref (ad 0)), (1, .int p1), (2, .int p2)]) hx hb dX7_set_45 rfl hl (by decide) rfl (fun ls hl => ?_)
      refine lv_aload_n hx hb dX7_set_46 rfl (lv_at hl 1 rfl) ?_
      obtain ⟨q_14, wq_14, heq_14⟩ := heM_0 (cy := cy) (I := I_2) (D := D) hM
      refine va_get (D := (dC, dI)) (ci := 8) (v := .ref (ad 5)) (C := RX7) (T := TX7) (N := 9) hx hb hts iX7_set_RX7 hown hK hP q_14 heq_14 rfl 3 (by decide) (hts (.fieldLink RX7 24 "OverrunHouseModel" "cold" "LOverrunHouseModel$Cold;") (List.mem_cons_of_mem _ (List.mem_append_left _ (List.mem_append_left _ (List.mem_of_getElem? (i := 1) rfl))))) (fun _ h9 => h9) rfl dX7_set_47 ?_
      obtain ⟨q_15, wq_15, heq_15⟩ := heM_Cold (cy := cy) (I := I_2) (D := D) (a := a) (b := b) (cOK_5 hM)
      refine va_get (D := (dC, dI)) (ci := 6) (v := .ref (ad (5 + 6))) (C := RX5) (T := TX5) (N := 10) hx hb hts iX7_set_RX5 hown hK hP q_15 heq_15 rfl 7 (by decide) (hts (.fieldLink RX7 144 "OverrunHouseModel$Cold" "set" "[I") (List.mem_cons_of_mem _ (List.mem_append_left _ (List.mem_append_left _ (List.mem_of_getElem? (i := 2) rfl))))) (fun _ h9 => h9) rfl dX7_set_50 ?_
      refine lv_iload_n hx hb dX7_set_53 rfl (lv_at hl 2 rfl) ?_
      refine lv_iload_n hx hb dX7_set_54 rfl (lv_at hl 3 rfl) ?_
      obtain ⟨q_16, wq_16, heq_16⟩ := heM_Set (cy := cy) (I := I_2) (D := D) (a := a) (b := b) (cOK_5 hM)
      obtain ⟨h_17, hf⟩ := ck_out hf
      obtain ⟨I_18, eI_18, hf⟩ := nm_out hf
      refine va_iast (n := 3) (f := I_2 (5 + 6)) hx hb hK hP (hDD I_2 D) hS q_16 0 heq_16 rfl (inB_in h_17) dX7_set_55 (fun H locs hP _ hS => ?_)
      have hP : va_P (dC, dI) vwCl (iwM L a b ad cy I_18 D) H := by rw [eI_18]; exact hqI hM wq_16 ((cellM_Set ad cy a b (cOK_5 hM).1 _ _).trans rfl) hP
      refine lv_iload_n hx hb dX7_set_56 rfl (lv_at hl 0 rfl) ?_
      have hf := Option.some.inj hf
      obtain ⟨q1, q2⟩ := Prod.mk.inj hf
      obtain ⟨q2, q3⟩ := Prod.mk.inj q2
      rw [q2, q3] at hP
      exact W.iret (v := (I_2 (5 + 6) (p1).toNatClampNeg)) hx hb hr (fun t ht hW9 => ⟨⟨(I_2 (5 + 6) (p1).toNatClampNeg), (), rfl, q1.symm, wM.of hP hK hN ht hW9⟩, hS.F ht⟩) hS.2.2 dX7_set_57
    · have hf := it_t hf c_9
      refine lv_aload_n hx hb dX7_set_30 rfl (lv_at hl 0 rfl) ?_
      refine lv_iconst (v := 2) hx hb dX7_set_31 (by decide) ?_
      obtain ⟨⟨r_19, I_21, D_22⟩, g_20, hf⟩ := bd_out hf
      obtain ⟨q_23, wq_23, heq_23⟩ := heM_0 (cy := cy) (I := I_2) (D := D) hM
      have hAW : ∀ q, AM L ad H.size q → A q := fun q h => h.elim (fun ⟨k, k1, k2⟩ => k2 ▸ hAL k k1) (fun h => hA q (Nat.le_trans hS.1 h))
      refine va_calli (va_runV (As := [.int 2]) (rest := []) ⟨hx, hb, hml, hown, hts⟩ (mt_X7_no l dC dI L a b ad cy hM H.size I_2 D 2 r_19 I_21 D_22 g_20) (cwV 1 hts gX7_set_X7_no rfl rfl rfl (by decide +kernel) ⟨Nat.le_of_ble_eq_true rfl, Nat.le_of_ble_eq_true rfl⟩) ⟨(wM.pre [.ref (ad 0), .int 2] hP hK hN).1, wM.recv (C := RX7) (T := TX7) (N := 9) hP hK heq_23 rfl, (wM.pre [.ref (ad 0), .int 2] hP hK hN).2⟩ rfl rfl hl.1 rfl (lv_room (Nat.le_of_ble_eq_true rfl)) dX7_set_32 ⟨Nat.le_of_ble_eq_true rfl, Nat.le_of_ble_eq_true rfl⟩) hS (fun q _ h => hAW q h) hAW (fun r9 u t H1 locs ht hvm hw hB hz1 hk1 hS => ?_)
      subst hw
      have hP : va_P (dC, dI) vwCl (iwM L a b ad cy I_21 D_22) H1 := by rw [← ht]; exact hB.1
      clear hz1 hk1 hvm ht hB
      generalize H1 = H at hP hS ⊢
      have hf := Option.some.inj hf
      obtain ⟨q1, q2⟩ := Prod.mk.inj hf
      obtain ⟨q2, q3⟩ := Prod.mk.inj q2
      rw [q2, q3] at hP
      exact W.iret (v := r_19) hx hb hr (fun t ht hW9 => ⟨⟨r_19, (), rfl, q1.symm, wM.of hP hK hN ht hW9⟩, hS.F ht⟩) hS.2.2 dX7_set_35
  · have hf := it_t hf c_6
    refine lv_aload_n hx hb dX7_set_13 rfl (lv_at hl 0 rfl) ?_
    refine lv_iconst (v := 1) hx hb dX7_set_14 (by decide) ?_
    obtain ⟨⟨r_24, I_26, D_27⟩, g_25, hf⟩ := bd_out hf
    obtain ⟨q_28, wq_28, heq_28⟩ := heM_0 (cy := cy) (I := I_2) (D := D) hM
    have hAW : ∀ q, AM L ad H.size q → A q := fun q h => h.elim (fun ⟨k, k1, k2⟩ => k2 ▸ hAL k k1) (fun h => hA q (Nat.le_trans hS.1 h))
    refine va_calli (va_runV (As := [.int 1]) (rest := []) ⟨hx, hb, hml, hown, hts⟩ (mt_X7_no l dC dI L a b ad cy hM H.size I_2 D 1 r_24 I_26 D_27 g_25) (cwV 1 hts gX7_set_X7_no rfl rfl rfl (by decide +kernel) ⟨Nat.le_of_ble_eq_true rfl, Nat.le_of_ble_eq_true rfl⟩) ⟨(wM.pre [.ref (ad 0), .int 1] hP hK hN).1, wM.recv (C := RX7) (T := TX7) (N := 9) hP hK heq_28 rfl, (wM.pre [.ref (ad 0), .int 1] hP hK hN).2⟩ rfl rfl hl.1 rfl (lv_room (Nat.le_of_ble_eq_true rfl)) dX7_set_15 ⟨Nat.le_of_ble_eq_true rfl, Nat.le_of_ble_eq_true rfl⟩) hS (fun q _ h => hAW q h) hAW (fun r9 u t H1 locs ht hvm hw hB hz1 hk1 hS => ?_)
    subst hw
    have hP : va_P (dC, dI) vwCl (iwM L a b ad cy I_26 D_27) H1 := by rw [← ht]; exact hB.1
    clear hz1 hk1 hvm ht hB
    generalize H1 = H at hP hS ⊢
    have hf := Option.some.inj hf
    obtain ⟨q1, q2⟩ := Prod.mk.inj hf
    obtain ⟨q2, q3⟩ := Prod.mk.inj q2
    rw [q2, q3] at hP
    exact W.iret (v := r_24) hx hb hr (fun t ht hW9 => ⟨⟨r_24, (), rfl, q1.symm, wM.of hP hK hN ht hW9⟩, hS.F ht⟩) hS.2.2 dX7_set_18

def f_X7_lay (a b : Nat) (I : Nat → Nat → Int32) (D : Nat → Nat → UInt64) (p1 : Int32) (p2 : Int32) : Option (Int32 × (Nat → Nat → Int32) × (Nat → Nat → UInt64)) :=
  nm (up2 I 0 0 0) (fun I_2 => bd (f_X7_isBatch a b I_2 D p1) (fun r_3 => (if r_3 = 0 then bd (f_X7_no a b I_2 D 1) (fun (r_7, I_9, D_10) => some (r_7, I_9, D_10)) else bd (f_X7_isStore a b I_2 D p2) (fun r_12 => (if r_12 = 0 then bd (f_X7_no a b I_2 D 1) (fun (r_45, I_47, D_48) => some (r_45, I_47, D_48)) else ck (inB p1 12) ((if (I_2 (5 + 3) (p1).toNatClampNeg) = 0 then bd (f_X7_no a b I_2 D 2) (fun (r_21, I_23, D_24) => some (r_21, I_23, D_24)) else ck (inB p1 12) ((if (I_2 (5 + 4) (p1).toNatClampNeg) < 10 then ck (inB p1 12) (nm (up2 I_2 (5 + 4) (p1).toNatClampNeg p2) (fun I_35 => bd (f_X5_count a b I_35 D 5 p2) (fun r_37 => some (r_37, I_35, D)))) else bd (f_X7_no a b I_2 D 2) (fun (r_40, I_42, D_43) => some (r_40, I_42, D_43)))))))))))
theorem iX7_lay_RX5 : ∀ w ∈ u_ws RX5 TX5 10, w ∈ wsX7_lay := fun w h => List.mem_cons_of_mem _ (List.mem_append_right _ (h))
theorem iX7_lay_RX7 : ∀ w ∈ u_ws RX7 TX7 9, w ∈ wsX7_lay := fun w h => List.mem_cons_of_mem _ (List.mem_append_left _ (List.mem_append_right _ (h)))
set_option maxHeartbeats 4000000 in
set_option maxRecDepth 100000 in
theorem mt_X7_lay (l : Launch) (dC : Nat → ClassId) (dI : Nat → Nat → Nat) (L : List Nat) (a b : Nat) (ad : Nat → Nat) (cy : Nat → ClassId) (hM : mOK L a b ad) (sz : Nat) (I : Nat → Nat → Int32) (D : Nat → Nat → UInt64) (p1 : Int32) (p2 : Int32) (rr : Int32) (I9 : Nat → Nat → Int32) (D9 : Nat → Nat → UInt64) (hf : f_X7_lay a b I D p1 p2 = some (rr, I9, D9)) : Met l yX7_lay wsX7_lay ({ frames := 2, cells := 0, slots := 0, locals := 43 }) (va_Pc [.ref (ad 0), .int p1, .int p2] (fun U => U.heap.size = sz ∧ wM dC dI L a b ad cy I D U)) (va_Qi (fun r (_ : Unit) => rr = r) (fun _ t => wM dC dI L a b ad cy I9 D9 t) (AM L ad sz)) 0 0 (AM L ad sz) := by
  refine Met.ofW (cc := cX7_lay) (maxL := 3) (ret := (some .int)) (by decide) rfl ?_
  intro p e s m args below meth c s₁ B hml hv
  obtain ⟨rfl, hsz, hP, hK, hN⟩ := hv
  have hx := B.exec
  have hb := B.bytes
  have hr := B.returns
  have hts := atoms_spec (ws := wsX7_lay) B.pre
  have hown : s.vm.findClass RX7 = some m.cls := findClass_of_methodNamed B.named
  have hlocks := B.notSynchronized
  subst hsz
  generalize hAe : AM L ad s.heap.size = A
  have hA : ∀ q : Nat, s.heap.size ≤ q → A q := fun q h => by rw [← hAe]; exact Or.inr h
  have hAL : ∀ k, k ∈ L → A (ad k) := fun k h => by rw [← hAe]; exact Or.inl ⟨k, h, rfl⟩
  have hDD : ∀ I D, va_D A (iwM L a b ad cy I D) := fun I D => iwM_D hM hAL I D
  obtain ⟨H, hH⟩ : ∃ H : Heap, H = s.heap := ⟨_, rfl⟩
  have hS : va_S A s.heap H [] := by rw [hH]; exact va_S.rf
  rw [← hH]
  rw [← hH] at hP
  have hl := lv_entry ([.ref (ad 0), .int p1, .int p2]) (n := 3) (Nat.le_of_ble_eq_true rfl)
  rw [lg_entry_eq]
  generalize (lg_sl ([.ref (ad 0), .int p1, .int p2]) ++ List.replicate (3 - (lg_sl ([.ref (ad 0), .int p1, .int p2])).length) Slot.unset).toArray = ls at hl ⊢
  have hl : lv_has ls 3 [(0, .ref (ad 0)), (1, .int p1), (2, .int p2)] := hl
  unfold f_X7_lay at hf
  refine lv_aload_n hx hb dX7_lay_0 rfl (lv_at hl 0 rfl) ?_
  refine lv_iconst (v := 0) hx hb dX7_lay_1 (by decide) ?_
  obtain ⟨q_1, wq_1, heq_1⟩ := heM_0 (cy := cy) (I := I) (D := D) hM
  obtain ⟨I_2, eI_2, hf⟩ := nm_out hf
  refine va_put (D := (dC, dI)) (ci := 8) (v := .int 0) (ty := .int) (C := RX7) (T := TX7) (N := 9) hx hb hts iX7_lay_RX7 tyX7 tyX7_ok nmX7 hown hK hP (hDD I D) hS q_1 heq_1 rfl 0 (by decide) (hts (.fieldLink RX7 32 "OverrunHouseModel" "thrown" "I") (List.mem_cons_of_mem _ (List.mem_append_left _ (List.mem_append_left _ (List.mem_append_left _ (List.mem_of_getElem? (i := 0) rfl)))))) (fun _ h9 => h9) rfl (by decide +kernel) rfl rfl (Nat.le_of_ble_eq_true rfl) dX7_lay_2 (fun H locs hP _ hS => ?_)
  have hP : va_P (dC, dI) vwCl (iwM L a b ad cy I_2 D) H := by rw [eI_2]; exact hqI hM wq_1 ((cellM_0 ad cy a b _ _).trans rfl) hP
  refine lv_aload_n hx hb dX7_lay_5 rfl (lv_at hl 0 rfl) ?_
  refine lv_iload_n hx hb dX7_lay_6 rfl (lv_at hl 1 rfl) ?_
  obtain ⟨r_3, g_4, hf⟩ := bd_out hf
  obtain ⟨q_5, wq_5, heq_5⟩ := heM_0 (cy := cy) (I := I_2) (D := D) hM
  refine va_calli (va_runV (As := [.int p1]) (rest := []) ⟨hx, hb, hml, hown, hts⟩ (mt_X7_isBatch l dC dI L a b ad cy hM H.size I_2 D p1 r_3 g_4) (cwV 1 hts gX7_lay_X7_isBatch rfl rfl rfl (by decide +kernel) ⟨Nat.le_of_ble_eq_true rfl, Nat.le_of_ble_eq_true rfl⟩) ⟨(wM.pre [.ref (ad 0), .int p1] hP hK hN).1, wM.recv (C := RX7) (T := TX7) (N := 9) hP hK heq_5 rfl, (wM.pre [.ref (ad 0), .int p1] hP hK hN).2⟩ rfl rfl hl.1 rfl (lv_room (Nat.le_of_ble_eq_true rfl)) dX7_lay_7 ⟨Nat.le_of_ble_eq_true rfl, Nat.le_of_ble_eq_true rfl⟩) hS (fun q _ h => hA q (Nat.le_trans hS.1 h)) (fun q h => hA q (Nat.le_trans hS.1 h)) (fun r9 u t H1 locs ht hvm hw hB hz1 hk1 hS => ?_)
  subst hw
  have hP := va_Pnew hP hk1
  clear hz1 hk1 hvm ht hB
  generalize H1 = H at hP hS ⊢
  refine lv_if_eq (tgt := 21) hx hb dX7_lay_10 (by decide) (fun c_6 => ?_) (fun c_6 => ?_)
  · have hf := it_t hf c_6
    refine lv_aload_n hx hb dX7_lay_21 rfl (lv_at hl 0 rfl) ?_
    refine lv_iconst (v := 1) hx hb dX7_lay_22 (by decide) ?_
    obtain ⟨⟨r_7, I_9, D_10⟩, g_8, hf⟩ := bd_out hf
    obtain ⟨q_11, wq_11, heq_11⟩ := heM_0 (cy := cy) (I := I_2) (D := D) hM
    have hAW : ∀ q, AM L ad H.size q → A q := fun q h => h.elim (fun ⟨k, k1, k2⟩ => k2 ▸ hAL k k1) (fun h => hA q (Nat.le_trans hS.1 h))
    refine va_calli (va_runV (As := [.int 1]) (rest := []) ⟨hx, hb, hml, hown, hts⟩ (mt_X7_no l dC dI L a b ad cy hM H.size I_2 D 1 r_7 I_9 D_10 g_8) (cwV 1 hts gX7_lay_X7_no rfl rfl rfl (by decide +kernel) ⟨Nat.le_of_ble_eq_true rfl, Nat.le_of_ble_eq_true rfl⟩) ⟨(wM.pre [.ref (ad 0), .int 1] hP hK hN).1, wM.recv (C := RX7) (T := TX7) (N := 9) hP hK heq_11 rfl, (wM.pre [.ref (ad 0), .int 1] hP hK hN).2⟩ rfl rfl hl.1 rfl (lv_room (Nat.le_of_ble_eq_true rfl)) dX7_lay_23 ⟨Nat.le_of_ble_eq_true rfl, Nat.le_of_ble_eq_true rfl⟩) hS (fun q _ h => hAW q h) hAW (fun r9 u t H1 locs ht hvm hw hB hz1 hk1 hS => ?_)
    subst hw
    have hP : va_P (dC, dI) vwCl (iwM L a b ad cy I_9 D_10) H1 := by rw [← ht]; exact hB.1
    clear hz1 hk1 hvm ht hB
    generalize H1 = H at hP hS ⊢
    have hf := Option.some.inj hf
    obtain ⟨q1, q2⟩ := Prod.mk.inj hf
    obtain ⟨q2, q3⟩ := Prod.mk.inj q2
    rw [q2, q3] at hP
    exact W.iret (v := r_7) hx hb hr (fun t ht hW9 => ⟨⟨r_7, (), rfl, q1.symm, wM.of hP hK hN ht hW9⟩, hS.F ht⟩) hS.2.2 dX7_lay_26
  · have hf := it_f hf c_6
    refine lv_aload_n hx hb dX7_lay_13 rfl (lv_at hl 0 rfl) ?_
    refine lv_iload_n hx hb dX7_lay_14 rfl (lv_at hl 2 rfl) ?_
    obtain ⟨r_12, g_13, hf⟩ := bd_out hf
    obtain ⟨q_14, wq_14, heq_14⟩ := heM_0 (cy := cy) (I := I_2) (D := D) hM
    refine va_calli (va_runV (As := [.int p2]) (rest := []) ⟨hx, hb, hml, hown, hts⟩ (mt_X7_isStore l dC dI L a b ad cy hM H.size I_2 D p2 r_12 g_13) (cwV 1 hts gX7_lay_X7_isStore rfl rfl rfl (by decide +kernel) ⟨Nat.le_of_ble_eq_true rfl, Nat.le_of_ble_eq_true rfl⟩) ⟨(wM.pre [.ref (ad 0), .int p2] hP hK hN).1, wM.recv (C := RX7) (T := TX7) (N := 9) hP hK heq_14 rfl, (wM.pre [.ref (ad 0), .int p2] hP hK hN).2⟩ rfl rfl hl.1 rfl (lv_room (Nat.le_of_ble_eq_true rfl)) dX7_lay_15 ⟨Nat.le_of_ble_eq_true rfl, Nat.le_of_ble_eq_true rfl⟩) hS (fun q _ h => hA q (Nat.le_trans hS.1 h)) (fun q h => hA q (Nat.le_trans hS.1 h)) (fun r9 u t H1 locs ht hvm hw hB hz1 hk1 hS => ?_)
    subst hw
    have hP := va_Pnew hP hk1
    clear hz1 hk1 hvm ht hB
    generalize H1 = H at hP hS ⊢
    refine lv_if_ne (tgt := 27) hx hb dX7_lay_18 (by decide) (fun c_15 => ?_) (fun c_15 => ?_)
    · have hf := it_f hf c_15
      refine lv_aload_n hx hb dX7_lay_27 rfl (lv_at hl 0 rfl) ?_
      obtain ⟨q_16, wq_16, heq_16⟩ := heM_0 (cy := cy) (I := I_2) (D := D) hM
      refine va_get (D := (dC, dI)) (ci := 8) (v := .ref (ad 5)) (C := RX7) (T := TX7) (N := 9) hx hb hts iX7_lay_RX7 hown hK hP q_16 heq_16 rfl 3 (by decide) (hts (.fieldLink RX7 24 "OverrunHouseModel" "cold" "LOverrunHouseModel$Cold;") (List.mem_cons_of_mem _ (List.mem_append_left _ (List.mem_append_left _ (List.mem_append_left _ (List.mem_of_getElem? (i := 1) rfl)))))) (fun _ h9 => h9) rfl dX7_lay_28 ?_
      obtain ⟨q_17, wq_17, heq_17⟩ := heM_Cold (cy := cy) (I := I_2) (D := D) (a := a) (b := b) (cOK_5 hM)
      refine va_get (D := (dC, dI)) (ci := 6) (v := .ref (ad (5 + 3))) (C := RX5) (T := TX5) (N := 10) hx hb hts iX7_lay_RX5 hown hK hP q_17 heq_17 rfl 3 (by decide) (hts (.fieldLink RX7 138 "OverrunHouseModel$Cold" "hard" "[Z") (List.mem_cons_of_mem _ (List.mem_append_left _ (List.mem_append_left _ (List.mem_append_left _ (List.mem_of_getElem? (i := 2) rfl)))))) (fun _ h9 => h9) rfl dX7_lay_31 ?_
      refine lv_iload_n hx hb dX7_lay_34 rfl (lv_at hl 1 rfl) ?_
      obtain ⟨q_18, wq_18, heq_18⟩ := heM_Hard (cy := cy) (I := I_2) (D := D) (a := a) (b := b) (cOK_5 hM)
      obtain ⟨h_19, hf⟩ := ck_out hf
      refine va_zald (n := 12) (f := I_2 (5 + 3)) hx hb hK hP q_18 5 heq_18 rfl (inB_in h_19) dX7_lay_35 ?_
      refine lv_if_eq (tgt := 53) hx hb dX7_lay_36 (by decide) (fun c_20 => ?_) (fun c_20 => ?_)
      · have hf := it_t hf c_20
        refine lv_aload_n hx hb dX7_lay_53 rfl (lv_at hl 0 rfl) ?_
        refine lv_iconst (v := 2) hx hb dX7_lay_54 (by decide) ?_
        obtain ⟨⟨r_21, I_23, D_24⟩, g_22, hf⟩ := bd_out hf
        obtain ⟨q_25, wq_25, heq_25⟩ := heM_0 (cy := cy) (I := I_2) (D := D) hM
        have hAW : ∀ q, AM L ad H.size q → A q := fun q h => h.elim (fun ⟨k, k1, k2⟩ => k2 ▸ hAL k k1) (fun h => hA q (Nat.le_trans hS.1 h))
        refine va_calli (va_runV (As := [.int 2]) (rest := []) ⟨hx, hb, hml, hown, hts⟩ (mt_X7_no l dC dI L a b ad cy hM H.size I_2 D 2 r_21 I_23 D_24 g_22) (cwV 1 hts gX7_lay_X7_no rfl rfl rfl (by decide +kernel) ⟨Nat.le_of_ble_eq_true rfl, Nat.le_of_ble_eq_true rfl⟩) ⟨(wM.pre [.ref (ad 0), .int 2] hP hK hN).1, wM.recv (C := RX7) (T := TX7) (N := 9) hP hK heq_25 rfl, (wM.pre [.ref (ad 0), .int 2] hP hK hN).2⟩ rfl rfl hl.1 rfl (lv_room (Nat.le_of_ble_eq_true rfl)) dX7_lay_55 ⟨Nat.le_of_ble_eq_true rfl, Nat.le_of_ble_eq_true rfl⟩) hS (fun q _ h => hAW q h) hAW (fun r9 u t H1 locs ht hvm hw hB hz1 hk1 hS => ?_)
        subst hw
        have hP : va_P (dC, dI) vwCl (iwM L a b ad cy I_23 D_24) H1 := by rw [← ht]; exact hB.1
        clear hz1 hk1 hvm ht hB
        generalize H1 = H at hP hS ⊢
        have hf := Option.some.inj hf
        obtain ⟨q1, q2⟩ := Prod.mk.inj hf
        obtain ⟨q2, q3⟩ := Prod.mk.inj q2
        rw [q2, q3] at hP
        exact W.iret (v := r_21) hx hb hr (fun t ht hW9 => ⟨⟨r_21, (), rfl, q1.symm, wM.of hP hK hN ht hW9⟩, hS.F ht⟩) hS.2.2 dX7_lay_58
      · have hf := it_f hf c_20
        refine lv_aload_n hx hb dX7_lay_39 rfl (lv_at hl 0 rfl) ?_
        obtain ⟨q_26, wq_26, heq_26⟩ := heM_0 (cy := cy) (I := I_2) (D := D) hM
        refine va_get (D := (dC, dI)) (ci := 8) (v := .ref (ad 5)) (C := RX7) (T := TX7) (N := 9) hx hb hts iX7_lay_RX7 hown hK hP q_26 heq_26 rfl 3 (by decide) (hts (.fieldLink RX7 24 "OverrunHouseModel" "cold" "LOverrunHouseModel$Cold;") (List.mem_cons_of_mem _ (List.mem_append_left _ (List.mem_append_left _ (List.mem_append_left _ (List.mem_of_getElem? (i := 1) rfl)))))) (fun _ h9 => h9) rfl dX7_lay_40 ?_
        obtain ⟨q_27, wq_27, heq_27⟩ := heM_Cold (cy := cy) (I := I_2) (D := D) (a := a) (b := b) (cOK_5 hM)
        refine va_get (D := (dC, dI)) (ci := 6) (v := .ref (ad (5 + 4))) (C := RX5) (T := TX5) (N := 10) hx hb hts iX7_lay_RX5 hown hK hP q_27 heq_27 rfl 4 (by decide) (hts (.fieldLink RX7 123 "OverrunHouseModel$Cold" "where" "[I") (List.mem_cons_of_mem _ (List.mem_append_left _ (List.mem_append_left _ (List.mem_append_left _ (List.mem_of_getElem? (i := 3) rfl)))))) (fun _ h9 => h9) rfl dX7_lay_43 ?_
        refine lv_iload_n hx hb dX7_lay_46 rfl (lv_at hl 1 rfl) ?_
        obtain ⟨q_28, wq_28, heq_28⟩ := heM_Where (cy := cy) (I := I_2) (D := D) (a := a) (b := b) (cOK_5 hM)
        obtain ⟨h_29, hf⟩ := ck_out hf
        refine va_iald (n := 12) (f := I_2 (5 + 4)) hx hb hK hP q_28 0 heq_28 rfl (inB_in h_29) dX7_lay_47 ?_
        refine lv_bipush (v := 10) hx hb dX7_lay_48 (by decide) ?_
        refine lv_icmp_lt (tgt := 59) hx hb dX7_lay_50 (by decide) (fun c_30 => ?_) (fun c_30 => ?_)
        · have hf := it_t hf c_30
          refine lv_aload_n hx hb dX7_lay_59 rfl (lv_at hl 0 rfl) ?_
          obtain ⟨q_31, wq_31, heq_31⟩ := heM_0 (cy := cy) (I := I_2) (D := D) hM
          refine va_get (D := (dC, dI)) (ci := 8) (v := .ref (ad 5)) (C := RX7) (T := TX7) (N := 9) hx hb hts iX7_lay_RX7 hown hK hP q_31 heq_31 rfl 3 (by decide) (hts (.fieldLink RX7 24 "OverrunHouseModel" "cold" "LOverrunHouseModel$Cold;") (List.mem_cons_of_mem _ (List.mem_append_left _ (List.mem_append_left _ (List.mem_append_left _ (List.mem_of_getElem? (i := 1) rfl)))))) (fun _ h9 => h9) rfl dX7_lay_60 ?_
          obtain ⟨q_32, wq_32, heq_32⟩ := heM_Cold (cy := cy) (I := I_2) (D := D) (a := a) (b := b) (cOK_5 hM)
          refine va_get (D := (dC, dI)) (ci := 6) (v := .ref (ad (5 + 4))) (C := RX5) (T := TX5) (N := 10) hx hb hts iX7_lay_RX5 hown hK hP q_32 heq_32 rfl 4 (by decide) (hts (.fieldLink RX7 123 "OverrunHouseModel$Cold" "where" "[I") (List.mem_cons_of_mem _ (List.mem_append_left _ (List.mem_append_left _ (List.mem_append_left _ (List.mem_of_getElem? (i := 3) rfl)))))) (fun _ h9 => h9) rfl dX7_lay_63 ?_
          refine lv_iload_n hx hb dX7_lay_66 rfl (lv_at hl 1 rfl) ?_
          refine lv_iload_n hx hb dX7_lay_67 rfl (lv_at hl 2 rfl) ?_
          obtain ⟨q_33, wq_33, heq_33⟩ := heM_Where (cy := cy) (I := I_2) (D := D) (a := a) (b := b) (cOK_5 hM)
          obtain ⟨h_34, hf⟩ := ck_out hf
          obtain ⟨I_35, eI_35, hf⟩ := nm_out hf
          refine va_iast (n := 12) (f := I_2 (5 + 4)) hx hb hK hP (hDD I_2 D) hS q_33 0 heq_33 rfl (inB_in h_34) dX7_lay_68 (fun H locs hP _ hS => ?_)
          have hP : va_P (dC, dI) vwCl (iwM L a b ad cy I_35 D) H := by rw [eI_35]; exact hqI hM wq_33 ((cellM_Where ad cy a b (cOK_5 hM).1 _ _).trans rfl) hP
          refine lv_aload_n hx hb dX7_lay_69 rfl (lv_at hl 0 rfl) ?_
          obtain ⟨q_36, wq_36, heq_36⟩ := heM_0 (cy := cy) (I := I_35) (D := D) hM
          refine va_get (D := (dC, dI)) (ci := 8) (v := .ref (ad 5)) (C := RX7) (T := TX7) (N := 9) hx hb hts iX7_lay_RX7 hown hK hP q_36 heq_36 rfl 3 (by decide) (hts (.fieldLink RX7 24 "OverrunHouseModel" "cold" "LOverrunHouseModel$Cold;") (List.mem_cons_of_mem _ (List.mem_append_left _ (List.mem_append_left _ (List.mem_append_left _ (List.mem_of_getElem? (i := 1) rfl)))))) (fun _ h9 => h9) rfl dX7_lay_70 ?_
          refine lv_iload_n hx hb dX7_lay_73 rfl (lv_at hl 2 rfl) ?_
          obtain ⟨r_37, g_38, hf⟩ := bd_out hf
          obtain ⟨q_39, wq_39, heq_39⟩ := heM_Cold (cy := cy) (I := I_35) (D := D) (a := a) (b := b) (cOK_5 hM)
          refine va_calli (va_runV (As := [.int p2]) (rest := []) ⟨hx, hb, hml, hown, hts⟩ (mt_X5_count l dC dI L a b ad cy hM H.size I_35 D 5 (cOK_5 hM) p2 r_37 g_38) (cwV 1 hts gX7_lay_X5_count rfl rfl rfl (by decide +kernel) ⟨Nat.le_of_ble_eq_true rfl, Nat.le_of_ble_eq_true rfl⟩) ⟨(wM.pre [.ref (ad 5), .int p2] hP hK hN).1, wM.recv (C := RX5) (T := TX5) (N := 10) hP hK heq_39 rfl, (wM.pre [.ref (ad 5), .int p2] hP hK hN).2⟩ rfl rfl hl.1 rfl (lv_room (Nat.le_of_ble_eq_true rfl)) dX7_lay_74 ⟨Nat.le_of_ble_eq_true rfl, Nat.le_of_ble_eq_true rfl⟩) hS (fun q _ h => hA q (Nat.le_trans hS.1 h)) (fun q h => hA q (Nat.le_trans hS.1 h)) (fun r9 u t H1 locs ht hvm hw hB hz1 hk1 hS => ?_)
          subst hw
          have hP := va_Pnew hP hk1
          clear hz1 hk1 hvm ht hB
          generalize H1 = H at hP hS ⊢
          have hf := Option.some.inj hf
          obtain ⟨q1, q2⟩ := Prod.mk.inj hf
          obtain ⟨q2, q3⟩ := Prod.mk.inj q2
          rw [q2, q3] at hP
          exact W.iret (v := r_37) hx hb hr (fun t ht hW9 => ⟨⟨r_37, (), rfl, q1.symm, wM.of hP hK hN ht hW9⟩, hS.F ht⟩) hS.2.2 dX7_lay_77
        · have hf := it_f hf c_30
          refine lv_aload_n hx hb dX7_lay_53 rfl (lv_at hl 0 rfl) ?_
          refine lv_iconst (v := 2) hx hb dX7_lay_54 (by decide) ?_
          obtain ⟨⟨r_40, I_42, D_43⟩, g_41, hf⟩ := bd_out hf
          obtain ⟨q_44, wq_44, heq_44⟩ := heM_0 (cy := cy) (I := I_2) (D := D) hM
          have hAW : ∀ q, AM L ad H.size q → A q := fun q h => h.elim (fun ⟨k, k1, k2⟩ => k2 ▸ hAL k k1) (fun h => hA q (Nat.le_trans hS.1 h))
          refine va_calli (va_runV (As := [.int 2]) (rest := []) ⟨hx, hb, hml, hown, hts⟩ (mt_X7_no l dC dI L a b ad cy hM H.size I_2 D 2 r_40 I_42 D_43 g_41) (cwV 1 hts gX7_lay_X7_no rfl rfl rfl (by decide +kernel) ⟨Nat.le_of_ble_eq_true rfl, Nat.le_of_ble_eq_true rfl⟩) ⟨(wM.pre [.ref (ad 0), .int 2] hP hK hN).1, wM.recv (C := RX7) (T := TX7) (N := 9) hP hK heq_44 rfl, (wM.pre [.ref (ad 0), .int 2] hP hK hN).2⟩ rfl rfl hl.1 rfl (lv_room (Nat.le_of_ble_eq_true rfl)) dX7_lay_55 ⟨Nat.le_of_ble_eq_true rfl, Nat.le_of_ble_eq_true rfl⟩) hS (fun q _ h => hAW q h) hAW (fun r9 u t H1 locs ht hvm hw hB hz1 hk1 hS => ?_)
          subst hw
          have hP : va_P (dC, dI) vwCl (iwM L a b ad cy I_42 D_43) H1 := by rw [← ht]; exact hB.1
          clear hz1 hk1 hvm ht hB
          generalize H1 = H at hP hS ⊢
          have hf := Option.some.inj hf
          obtain ⟨q1, q2⟩ := Prod.mk.inj hf
          obtain ⟨q2, q3⟩ := Prod.mk.inj q2
          rw [q2, q3] at hP
          exact W.iret (v := r_40) hx hb hr (fun t ht hW9 => ⟨⟨r_40, (), rfl, q1.symm, wM.of hP hK hN ht hW9⟩, hS.F ht⟩) hS.2.2 dX7_lay_58
    · have hf := it_t hf c_15
      refine lv_aload_n hx hb dX7_lay_21 rfl (lv_at hl 0 rfl) ?_
      refine lv_iconst (v := 1) hx hb dX7_lay_22 (by decide) ?_
      obtain ⟨⟨r_45, I_47, D_48⟩, g_46, hf⟩ := bd_out hf
      obtain ⟨q_49, wq_49, heq_49⟩ := heM_0 (cy := cy) (I := I_2) (D := D) hM
      have hAW : ∀ q, AM L ad H.size q → A q := fun q h => h.elim (fun ⟨k, k1, k2⟩ => k2 ▸ hAL k k1) (fun h => hA q (Nat.le_trans hS.1 h))
      refine va_calli (va_runV (As := [.int 1]) (rest := []) ⟨hx, hb, hml, hown, hts⟩ (mt_X7_no l dC dI L a b ad cy hM H.size I_2 D 1 r_45 I_47 D_48 g_46) (cwV 1 hts gX7_lay_X7_no rfl rfl rfl (by decide +kernel) ⟨Nat.le_of_ble_eq_true rfl, Nat.le_of_ble_eq_true rfl⟩) ⟨(wM.pre [.ref (ad 0), .int 1] hP hK hN).1, wM.recv (C := RX7) (T := TX7) (N := 9) hP hK heq_49 rfl, (wM.pre [.ref (ad 0), .int 1] hP hK hN).2⟩ rfl rfl hl.1 rfl (lv_room (Nat.le_of_ble_eq_true rfl)) dX7_lay_23 ⟨Nat.le_of_ble_eq_true rfl, Nat.le_of_ble_eq_true rfl⟩) hS (fun q _ h => hAW q h) hAW (fun r9 u t H1 locs ht hvm hw hB hz1 hk1 hS => ?_)
      subst hw
      have hP : va_P (dC, dI) vwCl (iwM L a b ad cy I_47 D_48) H1 := by rw [← ht]; exact hB.1
      clear hz1 hk1 hvm ht hB
      generalize H1 = H at hP hS ⊢
      have hf := Option.some.inj hf
      obtain ⟨q1, q2⟩ := Prod.mk.inj hf
      obtain ⟨q2, q3⟩ := Prod.mk.inj q2
      rw [q2, q3] at hP
      exact W.iret (v := r_45) hx hb hr (fun t ht hW9 => ⟨⟨r_45, (), rfl, q1.symm, wM.of hP hK hN ht hW9⟩, hS.F ht⟩) hS.2.2 dX7_lay_26

def f_X7_door (a b : Nat) (I : Nat → Nat → Int32) (D : Nat → Nat → UInt64) (p1 : Int32) (p2 : Int32) : Option (UInt64 × (Nat → Nat → Int32) × (Nat → Nat → UInt64)) :=
  nm (up2 I 0 0 0) (fun I_2 => bd (f_X7_isStore a b I_2 D p1) (fun r_3 => (if r_3 = 0 then bd (f_X7_no a b I_2 D 1) (fun (r_25, I_27, D_28) => some ((FP.i2d r_25), I_27, D_28)) else bd (f_X7_in p2 1 20) (fun r_7 => (if r_7 = 0 then bd (f_X7_no a b I_2 D 2) (fun (r_20, I_22, D_23) => some ((FP.i2d r_20), I_22, D_23)) else bd (f_X5_open a b I_2 D 5 p1 p2) (fun (I_13, D_14) => ck (inB p1 3) (some ((D_14 (5 + 7) (p1).toNatClampNeg), I_13, D_14))))))))
theorem iX7_door_RX5 : ∀ w ∈ u_ws RX5 TX5 10, w ∈ wsX7_door := fun w h => List.mem_cons_of_mem _ (List.mem_append_right _ (h))
theorem iX7_door_RX7 : ∀ w ∈ u_ws RX7 TX7 9, w ∈ wsX7_door := fun w h => List.mem_cons_of_mem _ (List.mem_append_left _ (List.mem_append_right _ (h)))
set_option maxHeartbeats 4000000 in
set_option maxRecDepth 100000 in
theorem mt_X7_door (l : Launch) (dC : Nat → ClassId) (dI : Nat → Nat → Nat) (L : List Nat) (a b : Nat) (ad : Nat → Nat) (cy : Nat → ClassId) (hM : mOK L a b ad) (sz : Nat) (I : Nat → Nat → Int32) (D : Nat → Nat → UInt64) (p1 : Int32) (p2 : Int32) (rr : UInt64) (I9 : Nat → Nat → Int32) (D9 : Nat → Nat → UInt64) (hf : f_X7_door a b I D p1 p2 = some (rr, I9, D9)) : Met l yX7_door wsX7_door ({ frames := 3, cells := 0, slots := 0, locals := 116 }) (va_Pc [.ref (ad 0), .int p1, .int p2] (fun U => U.heap.size = sz ∧ wM dC dI L a b ad cy I D U)) (va_Qd (fun r (_ : Unit) => rr = r) (fun _ t => wM dC dI L a b ad cy I9 D9 t) (AM L ad sz)) 0 0 (AM L ad sz) := by
  refine Met.ofW (cc := cX7_door) (maxL := 3) (ret := (some .double)) (by decide) rfl ?_
  intro p e s m args below meth c s₁ B hml hv
  obtain ⟨rfl, hsz, hP, hK, hN⟩ := hv
  have hx := B.exec
  have hb := B.bytes
  have hr := B.returns
  have hts := atoms_spec (ws := wsX7_door) B.pre
  have hown : s.vm.findClass RX7 = some m.cls := findClass_of_methodNamed B.named
  have hlocks := B.notSynchronized
  subst hsz
  generalize hAe : AM L ad s.heap.size = A
  have hA : ∀ q : Nat, s.heap.size ≤ q → A q := fun q h => by rw [← hAe]; exact Or.inr h
  have hAL : ∀ k, k ∈ L → A (ad k) := fun k h => by rw [← hAe]; exact Or.inl ⟨k, h, rfl⟩
  have hDD : ∀ I D, va_D A (iwM L a b ad cy I D) := fun I D => iwM_D hM hAL I D
  obtain ⟨H, hH⟩ : ∃ H : Heap, H = s.heap := ⟨_, rfl⟩
  have hS : va_S A s.heap H [] := by rw [hH]; exact va_S.rf
  rw [← hH]
  rw [← hH] at hP
  have hl := lv_entry ([.ref (ad 0), .int p1, .int p2]) (n := 3) (Nat.le_of_ble_eq_true rfl)
  rw [lg_entry_eq]
  generalize (lg_sl ([.ref (ad 0), .int p1, .int p2]) ++ List.replicate (3 - (lg_sl ([.ref (ad 0), .int p1, .int p2])).length) Slot.unset).toArray = ls at hl ⊢
  have hl : lv_has ls 3 [(0, .ref (ad 0)), (1, .int p1), (2, .int p2)] := hl
  unfold f_X7_door at hf
  refine lv_aload_n hx hb dX7_door_0 rfl (lv_at hl 0 rfl) ?_
  refine lv_iconst (v := 0) hx hb dX7_door_1 (by decide) ?_
  obtain ⟨q_1, wq_1, heq_1⟩ := heM_0 (cy := cy) (I := I) (D := D) hM
  obtain ⟨I_2, eI_2, hf⟩ := nm_out hf
  refine va_put (D := (dC, dI)) (ci := 8) (v := .int 0) (ty := .int) (C := RX7) (T := TX7) (N := 9) hx hb hts iX7_door_RX7 tyX7 tyX7_ok nmX7 hown hK hP (hDD I D) hS q_1 heq_1 rfl 0 (by decide) (hts (.fieldLink RX7 32 "OverrunHouseModel" "thrown" "I") (List.mem_cons_of_mem _ (List.mem_append_left _ (List.mem_append_left _ (List.mem_append_left _ (List.mem_of_getElem? (i := 0) rfl)))))) (fun _ h9 => h9) rfl (by decide +kernel) rfl rfl (Nat.le_of_ble_eq_true rfl) dX7_door_2 (fun H locs hP _ hS => ?_)
  have hP : va_P (dC, dI) vwCl (iwM L a b ad cy I_2 D) H := by rw [eI_2]; exact hqI hM wq_1 ((cellM_0 ad cy a b _ _).trans rfl) hP
  refine lv_aload_n hx hb dX7_door_5 rfl (lv_at hl 0 rfl) ?_
  refine lv_iload_n hx hb dX7_door_6 rfl (lv_at hl 1 rfl) ?_
  obtain ⟨r_3, g_4, hf⟩ := bd_out hf
  obtain ⟨q_5, wq_5, heq_5⟩ := heM_0 (cy := cy) (I := I_2) (D := D) hM
  refine va_calli (va_runV (As := [.int p1]) (rest := []) ⟨hx, hb, hml, hown, hts⟩ (mt_X7_isStore l dC dI L a b ad cy hM H.size I_2 D p1 r_3 g_4) (cwV 1 hts gX7_door_X7_isStore rfl rfl rfl (by decide +kernel) ⟨Nat.le_of_ble_eq_true rfl, Nat.le_of_ble_eq_true rfl⟩) ⟨(wM.pre [.ref (ad 0), .int p1] hP hK hN).1, wM.recv (C := RX7) (T := TX7) (N := 9) hP hK heq_5 rfl, (wM.pre [.ref (ad 0), .int p1] hP hK hN).2⟩ rfl rfl hl.1 rfl (lv_room (Nat.le_of_ble_eq_true rfl)) dX7_door_7 ⟨Nat.le_of_ble_eq_true rfl, Nat.le_of_ble_eq_true rfl⟩) hS (fun q _ h => hA q (Nat.le_trans hS.1 h)) (fun q h => hA q (Nat.le_trans hS.1 h)) (fun r9 u t H1 locs ht hvm hw hB hz1 hk1 hS => ?_)
  subst hw
  have hP := va_Pnew hP hk1
  clear hz1 hk1 hvm ht hB
  generalize H1 = H at hP hS ⊢
  refine lv_if_ne (tgt := 20) hx hb dX7_door_10 (by decide) (fun c_6 => ?_) (fun c_6 => ?_)
  · have hf := it_f hf c_6
    refine lv_iload_n hx hb dX7_door_20 rfl (lv_at hl 2 rfl) ?_
    refine lv_iconst (v := 1) hx hb dX7_door_21 (by decide) ?_
    refine lv_bipush (v := 20) hx hb dX7_door_22 (by decide) ?_
    obtain ⟨r_7, g_8, hf⟩ := bd_out hf
    refine va_calli (va_runS (As := [.int p2, .int 1, .int 20]) (rest := []) ⟨hx, hb, hml, hown, hts⟩ (mt_X7_in l H.size p2 1 20 r_7 g_8) (va_cwS 3 hts gX7_door_X7_in rfl rfl rfl (by decide +kernel) ⟨Nat.le_of_ble_eq_true rfl, Nat.le_of_ble_eq_true rfl⟩) (pre0 [.int p2, .int 1, .int 20]) rfl rfl hl.1 rfl (lv_room (Nat.le_of_ble_eq_true rfl)) dX7_door_24 ⟨Nat.le_of_ble_eq_true rfl, Nat.le_of_ble_eq_true rfl⟩) hS (fun q _ h => hA q (Nat.le_trans hS.1 h)) (fun q h => hA q (Nat.le_trans hS.1 h)) (fun r9 u t H1 locs ht hvm hw hB hz1 hk1 hS => ?_)
    subst hw
    have hP := va_Pnew hP hk1
    clear hz1 hk1 hvm ht hB
    generalize H1 = H at hP hS ⊢
    refine lv_if_ne (tgt := 37) hx hb dX7_door_27 (by decide) (fun c_9 => ?_) (fun c_9 => ?_)
    · have hf := it_f hf c_9
      refine lv_aload_n hx hb dX7_door_37 rfl (lv_at hl 0 rfl) ?_
      obtain ⟨q_10, wq_10, heq_10⟩ := heM_0 (cy := cy) (I := I_2) (D := D) hM
      refine va_get (D := (dC, dI)) (ci := 8) (v := .ref (ad 5)) (C := RX7) (T := TX7) (N := 9) hx hb hts iX7_door_RX7 hown hK hP q_10 heq_10 rfl 3 (by decide) (hts (.fieldLink RX7 24 "OverrunHouseModel" "cold" "LOverrunHouseModel$Cold;") (List.mem_cons_of_mem _ (List.mem_append_left _ (List.mem_append_left _ (List.mem_append_left _ (List.mem_of_getElem? (i := 1) rfl)))))) (fun _ h9 => h9) rfl dX7_door_38 ?_
      refine lv_iload_n hx hb dX7_door_41 rfl (lv_at hl 1 rfl) ?_
      refine lv_iload_n hx hb dX7_door_42 rfl (lv_at hl 2 rfl) ?_
      obtain ⟨⟨I_13, D_14⟩, g_12, hf⟩ := bd_out hf
      obtain ⟨q_15, wq_15, heq_15⟩ := heM_Cold (cy := cy) (I := I_2) (D := D) (a := a) (b := b) (cOK_5 hM)
      have hAW : ∀ q, AM L ad H.size q → A q := fun q h => h.elim (fun ⟨k, k1, k2⟩ => k2 ▸ hAL k k1) (fun h => hA q (Nat.le_trans hS.1 h))
      refine va_callv (va_runV (As := [.int p1, .int p2]) (rest := []) ⟨hx, hb, hml, hown, hts⟩ (mt_X5_open l dC dI L a b ad cy hM H.size I_2 D 5 (cOK_5 hM) p1 p2 I_13 D_14 g_12) (cwV 2 hts gX7_door_X5_open rfl rfl rfl (by decide +kernel) ⟨Nat.le_of_ble_eq_true rfl, Nat.le_of_ble_eq_true rfl⟩) ⟨(wM.pre [.ref (ad 5), .int p1, .int p2] hP hK hN).1, wM.recv (C := RX5) (T := TX5) (N := 10) hP hK heq_15 rfl, (wM.pre [.ref (ad 5), .int p1, .int p2] hP hK hN).2⟩ rfl rfl hl.1 rfl (lv_room (Nat.le_of_ble_eq_true rfl)) dX7_door_43 ⟨Nat.le_of_ble_eq_true rfl, Nat.le_of_ble_eq_true rfl⟩) hS (fun q _ h => hAW q h) hAW (fun u t H1 locs ht hvm hw hB hz1 hk1 hS => ?_)
      have hP : va_P (dC, dI) vwCl (iwM L a b ad cy I_13 D_14) H1 := by rw [← ht]; exact hB.1
      clear hz1 hk1 hvm ht hB
      generalize H1 = H at hP hS ⊢
      refine lv_aload_n hx hb dX7_door_46 rfl (lv_at hl 0 rfl) ?_
      obtain ⟨q_16, wq_16, heq_16⟩ := heM_0 (cy := cy) (I := I_13) (D := D_14) hM
      refine va_get (D := (dC, dI)) (ci := 8) (v := .ref (ad 5)) (C := RX7) (T := TX7) (N := 9) hx hb hts iX7_door_RX7 hown hK hP q_16 heq_16 rfl 3 (by decide) (hts (.fieldLink RX7 24 "OverrunHouseModel" "cold" "LOverrunHouseModel$Cold;") (List.mem_cons_of_mem _ (List.mem_append_left _ (List.mem_append_left _ (List.mem_append_left _ (List.mem_of_getElem? (i := 1) rfl)))))) (fun _ h9 => h9) rfl dX7_door_47 ?_
      obtain ⟨q_17, wq_17, heq_17⟩ := heM_Cold (cy := cy) (I := I_13) (D := D_14) (a := a) (b := b) (cOK_5 hM)
      refine va_get (D := (dC, dI)) (ci := 6) (v := .ref (ad (5 + 7))) (C := RX5) (T := TX5) (N := 10) hx hb hts iX7_door_RX5 hown hK hP q_17 heq_17 rfl 8 (by decide) (hts (.fieldLink RX7 146 "OverrunHouseModel$Cold" "temp" "[D") (List.mem_cons_of_mem _ (List.mem_append_left _ (List.mem_append_left _ (List.mem_append_left _ (List.mem_of_getElem? (i := 2) rfl)))))) (fun _ h9 => h9) rfl dX7_door_50 ?_
      refine lv_iload_n hx hb dX7_door_53 rfl (lv_at hl 1 rfl) ?_
      obtain ⟨q_18, wq_18, heq_18⟩ := heM_Temp (cy := cy) (I := I_13) (D := D_14) (a := a) (b := b) (cOK_5 hM)
      obtain ⟨h_19, hf⟩ := ck_out hf
      refine va_dald (n := 3) (f := D_14 (5 + 7)) hx hb hK hP q_18 6 heq_18 rfl (inB_in h_19) dX7_door_54 ?_
      have hf := Option.some.inj hf
      obtain ⟨q1, q2⟩ := Prod.mk.inj hf
      obtain ⟨q2, q3⟩ := Prod.mk.inj q2
      rw [q2, q3] at hP
      exact W.dret (v := (D_14 (5 + 7) (p1).toNatClampNeg)) hx hb hr (fun t ht hW9 => ⟨⟨(D_14 (5 + 7) (p1).toNatClampNeg), (), rfl, q1.symm, wM.of hP hK hN ht hW9⟩, hS.F ht⟩) hS.2.2 dX7_door_55
    · have hf := it_t hf c_9
      refine lv_aload_n hx hb dX7_door_30 rfl (lv_at hl 0 rfl) ?_
      refine lv_iconst (v := 2) hx hb dX7_door_31 (by decide) ?_
      obtain ⟨⟨r_20, I_22, D_23⟩, g_21, hf⟩ := bd_out hf
      obtain ⟨q_24, wq_24, heq_24⟩ := heM_0 (cy := cy) (I := I_2) (D := D) hM
      have hAW : ∀ q, AM L ad H.size q → A q := fun q h => h.elim (fun ⟨k, k1, k2⟩ => k2 ▸ hAL k k1) (fun h => hA q (Nat.le_trans hS.1 h))
      refine va_calli (va_runV (As := [.int 2]) (rest := []) ⟨hx, hb, hml, hown, hts⟩ (mt_X7_no l dC dI L a b ad cy hM H.size I_2 D 2 r_20 I_22 D_23 g_21) (cwV 1 hts gX7_door_X7_no rfl rfl rfl (by decide +kernel) ⟨Nat.le_of_ble_eq_true rfl, Nat.le_of_ble_eq_true rfl⟩) ⟨(wM.pre [.ref (ad 0), .int 2] hP hK hN).1, wM.recv (C := RX7) (T := TX7) (N := 9) hP hK heq_24 rfl, (wM.pre [.ref (ad 0), .int 2] hP hK hN).2⟩ rfl rfl hl.1 rfl (lv_room (Nat.le_of_ble_eq_true rfl)) dX7_door_32 ⟨Nat.le_of_ble_eq_true rfl, Nat.le_of_ble_eq_true rfl⟩) hS (fun q _ h => hAW q h) hAW (fun r9 u t H1 locs ht hvm hw hB hz1 hk1 hS => ?_)
      subst hw
      have hP : va_P (dC, dI) vwCl (iwM L a b ad cy I_22 D_23) H1 := by rw [← ht]; exact hB.1
      clear hz1 hk1 hvm ht hB
      generalize H1 = H at hP hS ⊢
      refine lv_i2d hx hb dX7_door_35 ?_
      have hf := Option.some.inj hf
      obtain ⟨q1, q2⟩ := Prod.mk.inj hf
      obtain ⟨q2, q3⟩ := Prod.mk.inj q2
      rw [q2, q3] at hP
      exact W.dret (v := (FP.i2d r_20)) hx hb hr (fun t ht hW9 => ⟨⟨(FP.i2d r_20), (), rfl, q1.symm, wM.of hP hK hN ht hW9⟩, hS.F ht⟩) hS.2.2 dX7_door_36
  · have hf := it_t hf c_6
    refine lv_aload_n hx hb dX7_door_13 rfl (lv_at hl 0 rfl) ?_
    refine lv_iconst (v := 1) hx hb dX7_door_14 (by decide) ?_
    obtain ⟨⟨r_25, I_27, D_28⟩, g_26, hf⟩ := bd_out hf
    obtain ⟨q_29, wq_29, heq_29⟩ := heM_0 (cy := cy) (I := I_2) (D := D) hM
    have hAW : ∀ q, AM L ad H.size q → A q := fun q h => h.elim (fun ⟨k, k1, k2⟩ => k2 ▸ hAL k k1) (fun h => hA q (Nat.le_trans hS.1 h))
    refine va_calli (va_runV (As := [.int 1]) (rest := []) ⟨hx, hb, hml, hown, hts⟩ (mt_X7_no l dC dI L a b ad cy hM H.size I_2 D 1 r_25 I_27 D_28 g_26) (cwV 1 hts gX7_door_X7_no rfl rfl rfl (by decide +kernel) ⟨Nat.le_of_ble_eq_true rfl, Nat.le_of_ble_eq_true rfl⟩) ⟨(wM.pre [.ref (ad 0), .int 1] hP hK hN).1, wM.recv (C := RX7) (T := TX7) (N := 9) hP hK heq_29 rfl, (wM.pre [.ref (ad 0), .int 1] hP hK hN).2⟩ rfl rfl hl.1 rfl (lv_room (Nat.le_of_ble_eq_true rfl)) dX7_door_15 ⟨Nat.le_of_ble_eq_true rfl, Nat.le_of_ble_eq_true rfl⟩) hS (fun q _ h => hAW q h) hAW (fun r9 u t H1 locs ht hvm hw hB hz1 hk1 hS => ?_)
    subst hw
    have hP : va_P (dC, dI) vwCl (iwM L a b ad cy I_27 D_28) H1 := by rw [← ht]; exact hB.1
    clear hz1 hk1 hvm ht hB
    generalize H1 = H at hP hS ⊢
    refine lv_i2d hx hb dX7_door_18 ?_
    have hf := Option.some.inj hf
    obtain ⟨q1, q2⟩ := Prod.mk.inj hf
    obtain ⟨q2, q3⟩ := Prod.mk.inj q2
    rw [q2, q3] at hP
    exact W.dret (v := (FP.i2d r_25)) hx hb hr (fun t ht hW9 => ⟨⟨(FP.i2d r_25), (), rfl, q1.symm, wM.of hP hK hN ht hW9⟩, hS.F ht⟩) hS.2.2 dX7_door_19

def f_X7_pass_L43 (a : Nat) (b : Nat) (p1 : Int32) : Nat → Int32 → (Nat → Nat → Int32) → (Nat → Nat → UInt64) → Option (Int32 × (Nat → Nat → Int32) × (Nat → Nat → UInt64))
  | 0, _, _, _ => none
  | n43 + 1, x2_43, I_L43, D_L43 => bd (f_size2 a b I_L43 D_L43 ) (fun r_8 => (if r_8 ≤ x2_43 then nm (up2 I_L43 0 7 ((I_L43 0 7) + p1)) (fun I_14 => bd (f_X5_count a b I_14 D_L43 5 11) (fun r_16 => some (r_16, I_14, D_L43))) else bd (f_get2 a b I_L43 D_L43 x2_43) (fun r_20 => nm (up2 I_L43 (20 + r_20) 3 ((I_L43 (20 + r_20) 3) + p1)) (fun I_26 => f_X7_pass_L43 a b p1 n43 (x2_43 + 1) I_26 D_L43))))
def f_X7_pass_L23 (a : Nat) (b : Nat) (p1 : Int32) : Nat → Int32 → (Nat → Nat → Int32) → (Nat → Nat → UInt64) → Option (Int32 × (Nat → Nat → Int32) × (Nat → Nat → UInt64))
  | 0, _, _, _ => none
  | n23 + 1, x2_23, I_L23, D_L23 => (if p1 ≤ x2_23 then f_X7_pass_L43 a b p1 200 0 I_L23 D_L23 else bd (f_X5_hour a b I_L23 D_L23 5) (fun (I_30, D_31) => f_X7_pass_L23 a b p1 n23 (x2_23 + 1) I_30 D_31))
def f_X7_pass (a b : Nat) (I : Nat → Nat → Int32) (D : Nat → Nat → UInt64) (p1 : Int32) : Option (Int32 × (Nat → Nat → Int32) × (Nat → Nat → UInt64)) :=
  nm (up2 I 0 0 0) (fun I_2 => bd (f_X7_in p1 1 48) (fun r_3 => (if r_3 = 0 then bd (f_X7_no a b I_2 D 1) (fun (r_33, I_35, D_36) => some (r_33, I_35, D_36)) else f_X7_pass_L23 a b p1 200 0 I_2 D)))
theorem iX7_pass_RX7 : ∀ w ∈ u_ws RX7 TX7 9, w ∈ wsX7_pass := fun w h => List.mem_cons_of_mem _ (List.mem_append_left _ (List.mem_append_left _ (List.mem_append_left _ (List.mem_append_right _ (h)))))
theorem iX7_pass_RX6 : ∀ w ∈ u_ws RX6 TX6 5, w ∈ wsX7_pass := fun w h => List.mem_cons_of_mem _ (List.mem_append_left _ (List.mem_append_left _ (List.mem_append_right _ (h))))
set_option maxHeartbeats 4000000 in
set_option maxRecDepth 100000 in
theorem mt_X7_pass (l : Launch) (dC : Nat → ClassId) (dI : Nat → Nat → Nat) (L : List Nat) (a b : Nat) (ad : Nat → Nat) (cy : Nat → ClassId) (hM : mOK L a b ad) (sz : Nat) (I : Nat → Nat → Int32) (D : Nat → Nat → UInt64) (p1 : Int32) (rr : Int32) (I9 : Nat → Nat → Int32) (D9 : Nat → Nat → UInt64) (hf : f_X7_pass a b I D p1 = some (rr, I9, D9)) : Met l yX7_pass wsX7_pass ({ frames := 9, cells := 0, slots := 0, locals := 247 }) (va_Pc [.ref (ad 0), .int p1] (fun U => U.heap.size = sz ∧ wM dC dI L a b ad cy I D U)) (va_Qi (fun r (_ : Unit) => rr = r) (fun _ t => wM dC dI L a b ad cy I9 D9 t) (AM L ad sz)) 0 0 (AM L ad sz) := by
  refine Met.ofW (cc := cX7_pass) (maxL := 3) (ret := (some .int)) (by decide) rfl ?_
  intro p e s m args below meth c s₁ B hml hv
  obtain ⟨rfl, hsz, hP, hK, hN⟩ := hv
  have hx := B.exec
  have hb := B.bytes
  have hr := B.returns
  have hts := atoms_spec (ws := wsX7_pass) B.pre
  have hown : s.vm.findClass RX7 = some m.cls := findClass_of_methodNamed B.named
  have hlocks := B.notSynchronized
  subst hsz
  generalize hAe : AM L ad s.heap.size = A
  have hA : ∀ q : Nat, s.heap.size ≤ q → A q := fun q h => by rw [← hAe]; exact Or.inr h
  have hAL : ∀ k, k ∈ L → A (ad k) := fun k h => by rw [← hAe]; exact Or.inl ⟨k, h, rfl⟩
  have hDD : ∀ I D, va_D A (iwM L a b ad cy I D) := fun I D => iwM_D hM hAL I D
  obtain ⟨H, hH⟩ : ∃ H : Heap, H = s.heap := ⟨_, rfl⟩
  have hS : va_S A s.heap H [] := by rw [hH]; exact va_S.rf
  rw [← hH]
  rw [← hH] at hP
  have hl := lv_entry ([.ref (ad 0), .int p1]) (n := 3) (Nat.le_of_ble_eq_true rfl)
  rw [lg_entry_eq]
  generalize (lg_sl ([.ref (ad 0), .int p1]) ++ List.replicate (3 - (lg_sl ([.ref (ad 0), .int p1])).length) Slot.unset).toArray = ls at hl ⊢
  have hl : lv_has ls 3 [(0, .ref (ad 0)), (1, .int p1)] := hl
  unfold f_X7_pass at hf
  refine lv_aload_n hx hb dX7_pass_0 rfl (lv_at hl 0 rfl) ?_
  refine lv_iconst (v := 0) hx hb dX7_pass_1 (by decide) ?_
  obtain ⟨q_1, wq_1, heq_1⟩ := heM_0 (cy := cy) (I := I) (D := D) hM
  obtain ⟨I_2, eI_2, hf⟩ := nm_out hf
  refine va_put (D := (dC, dI)) (ci := 8) (v := .int 0) (ty := .int) (C := RX7) (T := TX7) (N := 9) hx hb hts iX7_pass_RX7 tyX7 tyX7_ok nmX7 hown hK hP (hDD I D) hS q_1 heq_1 rfl 0 (by decide) (hts (.fieldLink RX7 32 "OverrunHouseModel" "thrown" "I") (List.mem_cons_of_mem _ (List.mem_append_left _ (List.mem_append_left _ (List.mem_append_left _ (List.mem_append_left _ (List.mem_append_left _ (List.mem_of_getElem? (i := 0) rfl)))))))) (fun _ h9 => h9) rfl (by decide +kernel) rfl rfl (Nat.le_of_ble_eq_true rfl) dX7_pass_2 (fun H locs hP _ hS => ?_)
  have hP : va_P (dC, dI) vwCl (iwM L a b ad cy I_2 D) H := by rw [eI_2]; exact hqI hM wq_1 ((cellM_0 ad cy a b _ _).trans rfl) hP
  refine lv_iload_n hx hb dX7_pass_5 rfl (lv_at hl 1 rfl) ?_
  refine lv_iconst (v := 1) hx hb dX7_pass_6 (by decide) ?_
  refine lv_bipush (v := 48) hx hb dX7_pass_7 (by decide) ?_
  obtain ⟨r_3, g_4, hf⟩ := bd_out hf
  refine va_calli (va_runS (As := [.int p1, .int 1, .int 48]) (rest := []) ⟨hx, hb, hml, hown, hts⟩ (mt_X7_in l H.size p1 1 48 r_3 g_4) (va_cwS 3 hts gX7_pass_X7_in rfl rfl rfl (by decide +kernel) ⟨Nat.le_of_ble_eq_true rfl, Nat.le_of_ble_eq_true rfl⟩) (pre0 [.int p1, .int 1, .int 48]) rfl rfl hl.1 rfl (lv_room (Nat.le_of_ble_eq_true rfl)) dX7_pass_9 ⟨Nat.le_of_ble_eq_true rfl, Nat.le_of_ble_eq_true rfl⟩) hS (fun q _ h => hA q (Nat.le_trans hS.1 h)) (fun q h => hA q (Nat.le_trans hS.1 h)) (fun r9 u t H1 locs ht hvm hw hB hz1 hk1 hS => ?_)
  subst hw
  have hP := va_Pnew hP hk1
  clear hz1 hk1 hvm ht hB
  generalize H1 = H at hP hS ⊢
  refine lv_if_ne (tgt := 21) hx hb dX7_pass_12 (by decide) (fun c_5 => ?_) (fun c_5 => ?_)
  · have hf := it_f hf c_5
    refine lv_iconst (v := 0) hx hb dX7_pass_21 (by decide) ?_
    refine lv_istore_n (lv' := [(2, .int 0), (0, .ref (ad 0)), (1, .int p1)]) hx hb dX7_pass_22 rfl hl (by decide) rfl (fun ls hl => ?_)
    have L23 : ∀ (n23 : Nat) (x2_23 : Int32) (I_L23 : Nat → Nat → Int32) (D_L23 : Nat → Nat → UInt64), f_X7_pass_L23 a b p1 n23 x2_23 I_L23 D_L23 = some (rr, I9, D9) → ∀ (H : Heap) (locs : List Loc) (ls : Array Slot), va_P (dC, dI) vwCl (iwM L a b ad cy I_L23 D_L23) H → va_S A s.heap H locs → lv_has ls 3 [(2, .int x2_23), (0, .ref (ad 0)), (1, .int p1)] → W p l e (headSpec wsX7_pass ({ frames := 9, cells := 0, slots := 0, locals := 247 })).room s m ([.ref (ad 0), .int p1] : List Value).toArray below meth c H locs 0 0 (MQ below (va_Qi (fun r (_ : Unit) => rr = r) (fun _ t => wM dC dI L a b ad cy I9 D9 t) A) ([.ref (ad 0), .int p1] : List Value).toArray s 0 0 A) (F0 m 23 ls []) := by
      intro n23
      induction n23 with
      | zero => intro x2_23 I_L23 D_L23 hf; exact nomatch hf
      | succ n23 ih23 =>
        intro x2_23 I_L23 D_L23 hf H locs ls hP hS hl
        unfold f_X7_pass_L23 at hf
        refine lv_iload_n hx hb dX7_pass_23 rfl (lv_at hl 0 rfl) ?_
        refine lv_iload_n hx hb dX7_pass_24 rfl (lv_at hl 2 rfl) ?_
        refine lv_icmp_ge (tgt := 41) hx hb dX7_pass_25 (by decide) (fun c_6 => ?_) (fun c_6 => ?_)
        · have hf := it_t hf c_6
          refine lv_iconst (v := 0) hx hb dX7_pass_41 (by decide) ?_
          refine lv_istore_n (lv' := [(2, .int 0), (0, .ref (ad 0)), (1, .int p1)]) hx hb dX7_pass_42 rfl hl (by decide) rfl (fun ls hl => ?_)
          have L43 : ∀ (n43 : Nat) (x2_43 : Int32) (I_L43 : Nat → Nat → Int32) (D_L43 : Nat → Nat → UInt64), f_X7_pass_L43 a b p1 n43 x2_43 I_L43 D_L43 = some (rr, I9, D9) → ∀ (H : Heap) (locs : List Loc) (ls : Array Slot), va_P (dC, dI) vwCl (iwM L a b ad cy I_L43 D_L43) H → va_S A s.heap H locs → lv_has ls 3 [(2, .int x2_43), (0, .ref (ad 0)), (1, .int p1)] → W p l e (headSpec wsX7_pass ({ frames := 9, cells := 0, slots := 0, locals := 247 })).room s m ([.ref (ad 0), .int p1] : List Value).toArray below meth c H locs 0 0 (MQ below (va_Qi (fun r (_ : Unit) => rr = r) (fun _ t => wM dC dI L a b ad cy I9 D9 t) A) ([.ref (ad 0), .int p1] : List Value).toArray s 0 0 A) (F0 m 43 ls []) := by
            intro n43
            induction n43 with
            | zero => intro x2_43 I_L43 D_L43 hf; exact nomatch hf
            | succ n43 ih43 =>
              intro x2_43 I_L43 D_L43 hf H locs ls hP hS hl
              unfold f_X7_pass_L43 at hf
              refine lv_iload_n hx hb dX7_pass_43 rfl (lv_at hl 0 rfl) ?_
              refine lv_aload_n hx hb dX7_pass_44 rfl (lv_at hl 1 rfl) ?_
              obtain ⟨q_7, wq_7, heq_7⟩ := heM_0 (cy := cy) (I := I_L43) (D := D_L43) hM
              refine va_get (D := (dC, dI)) (ci := 8) (v := .ref (ad 2)) (C := RX7) (T := TX7) (N := 9) hx hb hts iX7_pass_RX7 hown hK hP q_7 heq_7 rfl 2 (by decide) (hts (.fieldLink RX7 16 "OverrunHouseModel" "mixes" "Ljava/util/List;") (List.mem_cons_of_mem _ (List.mem_append_left _ (List.mem_append_left _ (List.mem_append_left _ (List.mem_append_left _ (List.mem_append_left _ (List.mem_of_getElem? (i := 2) rfl)))))))) (fun _ h9 => h9) rfl dX7_pass_45 ?_
              obtain ⟨r_8, g_9, hf⟩ := bd_out hf
              obtain ⟨q_10, wq_10, heq_10⟩ := heM_2 (cy := cy) (I := I_L43) (D := D_L43) hM
              refine va_callFi (va_runF (As := []) (rest := [.int x2_43]) (hK.1 0 _ rfl).2 ⟨hx, hb, hml, hown, hts⟩ (mt_size2 l dC dI L a b ad cy hM H.size I_L43 D_L43  r_8 g_9) (va_cwF 0 hts gX7_pass_Jx4a65c_size_8abf5_f36Jx4a65c rfl rfl rfl hN.2.1 (by decide +kernel) ⟨Nat.le_of_ble_eq_true rfl, Nat.le_of_ble_eq_true rfl⟩) ⟨(wM.pre [.ref (ad 2)] hP hK hN).1, wM.recv (C := RJx4a65c) (T := TJx4a65c) (N := 3) hP hK heq_10 rfl, (wM.pre [.ref (ad 2)] hP hK hN).2⟩ rfl rfl hl.1 rfl (lv_room (Nat.le_of_ble_eq_true rfl)) dX7_pass_48 ⟨Nat.le_of_ble_eq_true rfl, Nat.le_of_ble_eq_true rfl⟩) hS (fun q _ h => hA q (Nat.le_trans hS.1 h)) (fun q h => hA q (Nat.le_trans hS.1 h)) (fun r9 u t H1 locs ht hvm hw hB hz1 hk1 hS => ?_)
              subst hw
              have hP := va_Pnew hP hk1
              clear hz1 hk1 hvm ht hB
              generalize H1 = H at hP hS ⊢
              refine lv_icmp_ge (tgt := 84) hx hb dX7_pass_53 (by decide) (fun c_11 => ?_) (fun c_11 => ?_)
              · have hf := it_t hf c_11
                refine lv_aload_n hx hb dX7_pass_84 rfl (lv_at hl 1 rfl) ?_
                refine lv_dup hx hb dX7_pass_85 rfl ?_
                obtain ⟨q_12, wq_12, heq_12⟩ := heM_0 (cy := cy) (I := I_L43) (D := D_L43) hM
                refine va_get (D := (dC, dI)) (ci := 8) (v := .int (I_L43 0 7)) (C := RX7) (T := TX7) (N := 9) hx hb hts iX7_pass_RX7 hown hK hP q_12 heq_12 rfl 7 (by decide) (hts (.fieldLink RX7 162 "OverrunHouseModel" "hours" "I") (List.mem_cons_of_mem _ (List.mem_append_left _ (List.mem_append_left _ (List.mem_append_left _ (List.mem_append_left _ (List.mem_append_left _ (List.mem_of_getElem? (i := 5) rfl)))))))) (fun _ h9 => h9) rfl dX7_pass_86 ?_
                refine lv_iload_n hx hb dX7_pass_89 rfl (lv_at hl 2 rfl) ?_
                refine lv_iadd hx hb dX7_pass_90 ?_
                obtain ⟨q_13, wq_13, heq_13⟩ := heM_0 (cy := cy) (I := I_L43) (D := D_L43) hM
                obtain ⟨I_14, eI_14, hf⟩ := nm_out hf
                refine va_put (D := (dC, dI)) (ci := 8) (v := .int ((I_L43 0 7) + p1)) (ty := .int) (C := RX7) (T := TX7) (N := 9) hx hb hts iX7_pass_RX7 tyX7 tyX7_ok nmX7 hown hK hP (hDD I_L43 D_L43) hS q_13 heq_13 rfl 7 (by decide) (hts (.fieldLink RX7 162 "OverrunHouseModel" "hours" "I") (List.mem_cons_of_mem _ (List.mem_append_left _ (List.mem_append_left _ (List.mem_append_left _ (List.mem_append_left _ (List.mem_append_left _ (List.mem_of_getElem? (i := 5) rfl)))))))) (fun _ h9 => h9) rfl (by decide +kernel) rfl rfl (Nat.le_of_ble_eq_true rfl) dX7_pass_91 (fun H locs hP _ hS => ?_)
                have hP : va_P (dC, dI) vwCl (iwM L a b ad cy I_14 D_L43) H := by rw [eI_14]; exact hqI hM wq_13 ((cellM_0 ad cy a b _ _).trans rfl) hP
                refine lv_aload_n hx hb dX7_pass_94 rfl (lv_at hl 1 rfl) ?_
                obtain ⟨q_15, wq_15, heq_15⟩ := heM_0 (cy := cy) (I := I_14) (D := D_L43) hM
                refine va_get (D := (dC, dI)) (ci := 8) (v := .ref (ad 5)) (C := RX7) (T := TX7) (N := 9) hx hb hts iX7_pass_RX7 hown hK hP q_15 heq_15 rfl 3 (by decide) (hts (.fieldLink RX7 24 "OverrunHouseModel" "cold" "LOverrunHouseModel$Cold;") (List.mem_cons_of_mem _ (List.mem_append_left _ (List.mem_append_left _ (List.mem_append_left _ (List.mem_append_left _ (List.mem_append_left _ (List.mem_of_getElem? (i := 1) rfl)))))))) (fun _ h9 => h9) rfl dX7_pass_95 ?_
                refine lv_bipush (v := 11) hx hb dX7_pass_98 (by decide) ?_
                obtain ⟨r_16, g_17, hf⟩ := bd_out hf
                obtain ⟨q_18, wq_18, heq_18⟩ := heM_Cold (cy := cy) (I := I_14) (D := D_L43) (a := a) (b := b) (cOK_5 hM)
                refine va_calli (va_runV (As := [.int 11]) (rest := []) ⟨hx, hb, hml, hown, hts⟩ (mt_X5_count l dC dI L a b ad cy hM H.size I_14 D_L43 5 (cOK_5 hM) 11 r_16 g_17) (cwV 1 hts gX7_pass_X5_count rfl rfl rfl (by decide +kernel) ⟨Nat.le_of_ble_eq_true rfl, Nat.le_of_ble_eq_true rfl⟩) ⟨(wM.pre [.ref (ad 5), .int 11] hP hK hN).1, wM.recv (C := RX5) (T := TX5) (N := 10) hP hK heq_18 rfl, (wM.pre [.ref (ad 5), .int 11] hP hK hN).2⟩ rfl rfl hl.1 rfl (lv_room (Nat.le_of_ble_eq_true rfl)) dX7_pass_100 ⟨Nat.le_of_ble_eq_true rfl, Nat.le_of_ble_eq_true rfl⟩) hS (fun q _ h => hA q (Nat.le_trans hS.1 h)) (fun q h => hA q (Nat.le_trans hS.1 h)) (fun r9 u t H1 locs ht hvm hw hB hz1 hk1 hS => ?_)
                subst hw
                have hP := va_Pnew hP hk1
                clear hz1 hk1 hvm ht hB
                generalize H1 = H at hP hS ⊢
                have hf := Option.some.inj hf
                obtain ⟨q1, q2⟩ := Prod.mk.inj hf
                obtain ⟨q2, q3⟩ := Prod.mk.inj q2
                rw [q2, q3] at hP
                exact W.iret (v := r_16) hx hb hr (fun t ht hW9 => ⟨⟨r_16, (), rfl, q1.symm, wM.of hP hK hN ht hW9⟩, hS.F ht⟩) hS.2.2 dX7_pass_103
              · have hf := it_f hf c_11
                refine lv_aload_n hx hb dX7_pass_56 rfl (lv_at hl 1 rfl) ?_
                obtain ⟨q_19, wq_19, heq_19⟩ := heM_0 (cy := cy) (I := I_L43) (D := D_L43) hM
                refine va_get (D := (dC, dI)) (ci := 8) (v := .ref (ad 2)) (C := RX7) (T := TX7) (N := 9) hx hb hts iX7_pass_RX7 hown hK hP q_19 heq_19 rfl 2 (by decide) (hts (.fieldLink RX7 16 "OverrunHouseModel" "mixes" "Ljava/util/List;") (List.mem_cons_of_mem _ (List.mem_append_left _ (List.mem_append_left _ (List.mem_append_left _ (List.mem_append_left _ (List.mem_append_left _ (List.mem_of_getElem? (i := 2) rfl)))))))) (fun _ h9 => h9) rfl dX7_pass_57 ?_
                refine lv_iload_n hx hb dX7_pass_60 rfl (lv_at hl 0 rfl) ?_
                obtain ⟨r_20, g_21, hf⟩ := bd_out hf
                obtain ⟨q_22, wq_22, heq_22⟩ := heM_2 (cy := cy) (I := I_L43) (D := D_L43) hM
                refine va_callFr (va_runF (As := [.int x2_43]) (rest := []) (hK.1 0 _ rfl).2 ⟨hx, hb, hml, hown, hts⟩ (mt_get2 l dC dI L a b ad cy hM H.size I_L43 D_L43 x2_43 r_20 g_21) (va_cwF 1 hts gX7_pass_Jx4a65c_get_915e3_f55Jx4a65c rfl rfl rfl hN.2.2.1 (by decide +kernel) ⟨Nat.le_of_ble_eq_true rfl, Nat.le_of_ble_eq_true rfl⟩) ⟨(wM.pre [.ref (ad 2), .int x2_43] hP hK hN).1, wM.recv (C := RJx4a65c) (T := TJx4a65c) (N := 3) hP hK heq_22 rfl, (wM.pre [.ref (ad 2), .int x2_43] hP hK hN).2⟩ rfl rfl hl.1 rfl (lv_room (Nat.le_of_ble_eq_true rfl)) dX7_pass_61 ⟨Nat.le_of_ble_eq_true rfl, Nat.le_of_ble_eq_true rfl⟩) hS (fun q _ h => hA q (Nat.le_trans hS.1 h)) (fun q h => hA q (Nat.le_trans hS.1 h)) (fun u r9 t H1 locs ht hvm hw hB hz1 hk1 hS => ?_)
                subst hB
                have hP := va_Pnew hP hk1
                clear hz1 hk1 hvm ht
                generalize H1 = H at hP hS ⊢
                obtain ⟨q_23, wq_23, heq_23⟩ := heM_Mixx (cy := cy) (I := I_L43) (D := D_L43) hM (f_get2_lt g_21)
                refine va_castS hx hb hown (hts (.classLink RX7 59 "OverrunHouseModel$Mix") (List.mem_cons_of_mem _ (List.mem_append_left _ (List.mem_append_left _ (List.mem_append_left _ (List.mem_append_left _ (List.mem_append_left _ (List.mem_of_getElem? (i := 3) rfl)))))))) (hK.1 7 _ rfl).2 (wM.recv (C := RX6) (T := TX6) (N := 5) hP hK heq_23 rfl) dX7_pass_66 ?_
                refine lv_dup hx hb dX7_pass_69 rfl ?_
                obtain ⟨q_24, wq_24, heq_24⟩ := heM_Mixx (cy := cy) (I := I_L43) (D := D_L43) hM (f_get2_lt g_21)
                refine va_get (D := (dC, dI)) (ci := 7) (v := .int (I_L43 (20 + r_20) 3)) (C := RX6) (T := TX6) (N := 5) hx hb hts iX7_pass_RX6 hown hK hP q_24 heq_24 rfl 3 (by decide) (hts (.fieldLink RX7 99 "OverrunHouseModel$Mix" "age" "I") (List.mem_cons_of_mem _ (List.mem_append_left _ (List.mem_append_left _ (List.mem_append_left _ (List.mem_append_left _ (List.mem_append_left _ (List.mem_of_getElem? (i := 4) rfl)))))))) (fun _ h9 => h9) rfl dX7_pass_70 ?_
                refine lv_iload_n hx hb dX7_pass_73 rfl (lv_at hl 2 rfl) ?_
                refine lv_iadd hx hb dX7_pass_74 ?_
                obtain ⟨q_25, wq_25, heq_25⟩ := heM_Mixx (cy := cy) (I := I_L43) (D := D_L43) hM (f_get2_lt g_21)
                obtain ⟨I_26, eI_26, hf⟩ := nm_out hf
                refine va_put (D := (dC, dI)) (ci := 7) (v := .int ((I_L43 (20 + r_20) 3) + p1)) (ty := .int) (C := RX6) (T := TX6) (N := 5) hx hb hts iX7_pass_RX6 tyX6 tyX6_ok nmX6 hown hK hP (hDD I_L43 D_L43) hS q_25 heq_25 rfl 3 (by decide) (hts (.fieldLink RX7 99 "OverrunHouseModel$Mix" "age" "I") (List.mem_cons_of_mem _ (List.mem_append_left _ (List.mem_append_left _ (List.mem_append_left _ (List.mem_append_left _ (List.mem_append_left _ (List.mem_of_getElem? (i := 4) rfl)))))))) (fun _ h9 => h9) rfl (by decide +kernel) rfl rfl (Nat.le_of_ble_eq_true rfl) dX7_pass_75 (fun H locs hP _ hS => ?_)
                have hP : va_P (dC, dI) vwCl (iwM L a b ad cy I_26 D_L43) H := by rw [eI_26]; exact hqI hM wq_25 ((cellM_Mixx ad cy a b (by have := hM.2; have := (f_get2_lt g_21); omega) _ _).trans rfl) hP
                refine lv_iinc (v := (x2_43 + 1)) (lv' := [(2, .int (x2_43 + 1)), (0, .ref (ad 0)), (1, .int p1)]) hx hb dX7_pass_78 hl (k := 0) rfl rfl (by decide) rfl (fun ls hl => ?_)
                refine lv_goto (tgt := 43) hx hb dX7_pass_81 (by decide) ?_
                exact ih43 (x2_43 + 1) I_26 D_L43 hf _ _ _ hP hS (lv_sub hl [0, 1, 2] rfl)
          exact L43 200 0 I_L23 D_L23 hf _ _ _ hP hS (lv_sub hl [0, 1, 2] rfl)
        · have hf := it_f hf c_6
          refine lv_aload_n hx hb dX7_pass_28 rfl (lv_at hl 1 rfl) ?_
          obtain ⟨q_27, wq_27, heq_27⟩ := heM_0 (cy := cy) (I := I_L23) (D := D_L23) hM
          refine va_get (D := (dC, dI)) (ci := 8) (v := .ref (ad 5)) (C := RX7) (T := TX7) (N := 9) hx hb hts iX7_pass_RX7 hown hK hP q_27 heq_27 rfl 3 (by decide) (hts (.fieldLink RX7 24 "OverrunHouseModel" "cold" "LOverrunHouseModel$Cold;") (List.mem_cons_of_mem _ (List.mem_append_left _ (List.mem_append_left _ (List.mem_append_left _ (List.mem_append_left _ (List.mem_append_left _ (List.mem_of_getElem? (i := 1) rfl)))))))) (fun _ h9 => h9) rfl dX7_pass_29 ?_
          obtain ⟨⟨I_30, D_31⟩, g_29, hf⟩ := bd_out hf
          obtain ⟨q_32, wq_32, heq_32⟩ := heM_Cold (cy := cy) (I := I_L23) (D := D_L23) (a := a) (b := b) (cOK_5 hM)
          have hAW : ∀ q, AM L ad H.size q → A q := fun q h => h.elim (fun ⟨k, k1, k2⟩ => k2 ▸ hAL k k1) (fun h => hA q (Nat.le_trans hS.1 h))
          refine va_callv (va_runV (As := []) (rest := []) ⟨hx, hb, hml, hown, hts⟩ (mt_X5_hour l dC dI L a b ad cy hM H.size I_L23 D_L23 5 (cOK_5 hM) I_30 D_31 g_29) (cwV 0 hts gX7_pass_X5_hour rfl rfl rfl (by decide +kernel) ⟨Nat.le_of_ble_eq_true rfl, Nat.le_of_ble_eq_true rfl⟩) ⟨(wM.pre [.ref (ad 5)] hP hK hN).1, wM.recv (C := RX5) (T := TX5) (N := 10) hP hK heq_32 rfl, (wM.pre [.ref (ad 5)] hP hK hN).2⟩ rfl rfl hl.1 rfl (lv_room (Nat.le_of_ble_eq_true rfl)) dX7_pass_32 ⟨Nat.le_of_ble_eq_true rfl, Nat.le_of_ble_eq_true rfl⟩) hS (fun q _ h => hAW q h) hAW (fun u t H1 locs ht hvm hw hB hz1 hk1 hS => ?_)
          have hP : va_P (dC, dI) vwCl (iwM L a b ad cy I_30 D_31) H1 := by rw [← ht]; exact hB.1
          clear hz1 hk1 hvm ht hB
          generalize H1 = H at hP hS ⊢
          refine lv_iinc (v := (x2_23 + 1)) (lv' := [(2, .int (x2_23 + 1)), (0, .ref (ad 0)), (1, .int p1)]) hx hb dX7_pass_35 hl (k := 0) rfl rfl (by decide) rfl (fun ls hl => ?_)
          refine lv_goto (tgt := 23) hx hb dX7_pass_38 (by decide) ?_
          exact ih23 (x2_23 + 1) I_30 D_31 hf _ _ _ hP hS (lv_sub hl [0, 1, 2] rfl)
    exact L23 200 0 I_2 D hf _ _ _ hP hS (lv_sub hl [0, 1, 2] rfl)
  · have hf := it_t hf c_5
    refine lv_aload_n hx hb dX7_pass_15 rfl (lv_at hl 0 rfl) ?_
    refine lv_iconst (v := 1) hx hb dX7_pass_16 (by decide) ?_
    obtain ⟨⟨r_33, I_35, D_36⟩, g_34, hf⟩ := bd_out hf
    obtain ⟨q_37, wq_37, heq_37⟩ := heM_0 (cy := cy) (I := I_2) (D := D) hM
    have hAW : ∀ q, AM L ad H.size q → A q := fun q h => h.elim (fun ⟨k, k1, k2⟩ => k2 ▸ hAL k k1) (fun h => hA q (Nat.le_trans hS.1 h))
    refine va_calli (va_runV (As := [.int 1]) (rest := []) ⟨hx, hb, hml, hown, hts⟩ (mt_X7_no l dC dI L a b ad cy hM H.size I_2 D 1 r_33 I_35 D_36 g_34) (cwV 1 hts gX7_pass_X7_no rfl rfl rfl (by decide +kernel) ⟨Nat.le_of_ble_eq_true rfl, Nat.le_of_ble_eq_true rfl⟩) ⟨(wM.pre [.ref (ad 0), .int 1] hP hK hN).1, wM.recv (C := RX7) (T := TX7) (N := 9) hP hK heq_37 rfl, (wM.pre [.ref (ad 0), .int 1] hP hK hN).2⟩ rfl rfl hl.1 rfl (lv_room (Nat.le_of_ble_eq_true rfl)) dX7_pass_17 ⟨Nat.le_of_ble_eq_true rfl, Nat.le_of_ble_eq_true rfl⟩) hS (fun q _ h => hAW q h) hAW (fun r9 u t H1 locs ht hvm hw hB hz1 hk1 hS => ?_)
    subst hw
    have hP : va_P (dC, dI) vwCl (iwM L a b ad cy I_35 D_36) H1 := by rw [← ht]; exact hB.1
    clear hz1 hk1 hvm ht hB
    generalize H1 = H at hP hS ⊢
    have hf := Option.some.inj hf
    obtain ⟨q1, q2⟩ := Prod.mk.inj hf
    obtain ⟨q2, q3⟩ := Prod.mk.inj q2
    rw [q2, q3] at hP
    exact W.iret (v := r_33) hx hb hr (fun t ht hW9 => ⟨⟨r_33, (), rfl, q1.symm, wM.of hP hK hN ht hW9⟩, hS.F ht⟩) hS.2.2 dX7_pass_20

def f_X7_sell (a b : Nat) (I : Nat → Nat → Int32) (D : Nat → Nat → UInt64) (p1 : Int32) (p2 : Int32) : Option (Int32 × (Nat → Nat → Int32) × (Nat → Nat → UInt64)) :=
  nm (up2 I 0 0 0) (fun I_2 => bd (f_X7_isBatch a b I_2 D p1) (fun r_3 => (if r_3 = 0 then bd (f_X7_no a b I_2 D 1) (fun (r_59, I_61, D_62) => some (r_59, I_61, D_62)) else bd (f_X7_in p2 1 99) (fun r_7 => (if r_7 = 0 then bd (f_X7_no a b I_2 D 2) (fun (r_54, I_56, D_57) => some (r_54, I_56, D_57)) else ck (inB p1 12) (bd (f_X7_in (I_2 (5 + 4) (p1).toNatClampNeg) 0 2) (fun r_14 => (if r_14 = 0 then bd (f_X7_no a b I_2 D 3) (fun (r_17, I_19, D_20) => some (r_17, I_19, D_20)) else bd (f_X5_isCoarse a b I_2 D 5 p1) (fun r_23 => (if r_23 = 0 then bd (f_X7_isCalled a b I_2 D p1) (fun r_32 => (if r_32 = 0 then ck (inB p1 12) (nm (up2 I_2 (5 + 4) (p1).toNatClampNeg 10) (fun I_40 => ck (inB p1 12) (nm (up2 I_40 0 6 ((I_40 0 6) + ((I_40 (5 + 2) (p1).toNatClampNeg) * p2))) (fun I_47 => some ((I_47 0 6), I_47, D))))) else bd (f_X7_no a b I_2 D 3) (fun (r_49, I_51, D_52) => some (r_49, I_51, D_52)))) else bd (f_X7_no a b I_2 D 3) (fun (r_27, I_29, D_30) => some (r_27, I_29, D_30))))))))))))
theorem iX7_sell_RX5 : ∀ w ∈ u_ws RX5 TX5 10, w ∈ wsX7_sell := fun w h => List.mem_cons_of_mem _ (List.mem_append_left _ (List.mem_append_left _ (List.mem_append_right _ (h))))
theorem iX7_sell_RX7 : ∀ w ∈ u_ws RX7 TX7 9, w ∈ wsX7_sell := fun w h => List.mem_cons_of_mem _ (List.mem_append_left _ (List.mem_append_left _ (List.mem_append_left _ (List.mem_append_right _ (h)))))
set_option maxHeartbeats 4000000 in
set_option maxRecDepth 100000 in
theorem mt_X7_sell (l : Launch) (dC : Nat → ClassId) (dI : Nat → Nat → Nat) (L : List Nat) (a b : Nat) (ad : Nat → Nat) (cy : Nat → ClassId) (hM : mOK L a b ad) (sz : Nat) (I : Nat → Nat → Int32) (D : Nat → Nat → UInt64) (p1 : Int32) (p2 : Int32) (rr : Int32) (I9 : Nat → Nat → Int32) (D9 : Nat → Nat → UInt64) (hf : f_X7_sell a b I D p1 p2 = some (rr, I9, D9)) : Met l yX7_sell wsX7_sell ({ frames := 5, cells := 0, slots := 0, locals := 155 }) (va_Pc [.ref (ad 0), .int p1, .int p2] (fun U => U.heap.size = sz ∧ wM dC dI L a b ad cy I D U)) (va_Qi (fun r (_ : Unit) => rr = r) (fun _ t => wM dC dI L a b ad cy I9 D9 t) (AM L ad sz)) 0 0 (AM L ad sz) := by
  refine Met.ofW (cc := cX7_sell) (maxL := 3) (ret := (some .int)) (by decide) rfl ?_
  intro p e s m args below meth c s₁ B hml hv
  obtain ⟨rfl, hsz, hP, hK, hN⟩ := hv
  have hx := B.exec
  have hb := B.bytes
  have hr := B.returns
  have hts := atoms_spec (ws := wsX7_sell) B.pre
  have hown : s.vm.findClass RX7 = some m.cls := findClass_of_methodNamed B.named
  have hlocks := B.notSynchronized
  subst hsz
  generalize hAe : AM L ad s.heap.size = A
  have hA : ∀ q : Nat, s.heap.size ≤ q → A q := fun q h => by rw [← hAe]; exact Or.inr h
  have hAL : ∀ k, k ∈ L → A (ad k) := fun k h => by rw [← hAe]; exact Or.inl ⟨k, h, rfl⟩
  have hDD : ∀ I D, va_D A (iwM L a b ad cy I D) := fun I D => iwM_D hM hAL I D
  obtain ⟨H, hH⟩ : ∃ H : Heap, H = s.heap := ⟨_, rfl⟩
  have hS : va_S A s.heap H [] := by rw [hH]; exact va_S.rf
  rw [← hH]
  rw [← hH] at hP
  have hl := lv_entry ([.ref (ad 0), .int p1, .int p2]) (n := 3) (Nat.le_of_ble_eq_true rfl)
  rw [lg_entry_eq]
  generalize (lg_sl ([.ref (ad 0), .int p1, .int p2]) ++ List.replicate (3 - (lg_sl ([.ref (ad 0), .int p1, .int p2])).length) Slot.unset).toArray = ls at hl ⊢
  have hl : lv_has ls 3 [(0, .ref (ad 0)), (1, .int p1), (2, .int p2)] := hl
  unfold f_X7_sell at hf
  refine lv_aload_n hx hb dX7_sell_0 rfl (lv_at hl 0 rfl) ?_
  refine lv_iconst (v := 0) hx hb dX7_sell_1 (by decide) ?_
  obtain ⟨q_1, wq_1, heq_1⟩ := heM_0 (cy := cy) (I := I) (D := D) hM
  obtain ⟨I_2, eI_2, hf⟩ := nm_out hf
  refine va_put (D := (dC, dI)) (ci := 8) (v := .int 0) (ty := .int) (C := RX7) (T := TX7) (N := 9) hx hb hts iX7_sell_RX7 tyX7 tyX7_ok nmX7 hown hK hP (hDD I D) hS q_1 heq_1 rfl 0 (by decide) (hts (.fieldLink RX7 32 "OverrunHouseModel" "thrown" "I") (List.mem_cons_of_mem _ (List.mem_append_left _ (List.mem_append_left _ (List.mem_append_left _ (List.mem_append_left _ (List.mem_append_left _ (List.mem_of_getElem? (i := 0) rfl)))))))) (fun _ h9 => h9) rfl (by decide +kernel) rfl rfl (Nat.le_of_ble_eq_true rfl) dX7_sell_2 (fun H locs hP _ hS => ?_)
  have hP : va_P (dC, dI) vwCl (iwM L a b ad cy I_2 D) H := by rw [eI_2]; exact hqI hM wq_1 ((cellM_0 ad cy a b _ _).trans rfl) hP
  refine lv_aload_n hx hb dX7_sell_5 rfl (lv_at hl 0 rfl) ?_
  refine lv_iload_n hx hb dX7_sell_6 rfl (lv_at hl 1 rfl) ?_
  obtain ⟨r_3, g_4, hf⟩ := bd_out hf
  obtain ⟨q_5, wq_5, heq_5⟩ := heM_0 (cy := cy) (I := I_2) (D := D) hM
  refine va_calli (va_runV (As := [.int p1]) (rest := []) ⟨hx, hb, hml, hown, hts⟩ (mt_X7_isBatch l dC dI L a b ad cy hM H.size I_2 D p1 r_3 g_4) (cwV 1 hts gX7_sell_X7_isBatch rfl rfl rfl (by decide +kernel) ⟨Nat.le_of_ble_eq_true rfl, Nat.le_of_ble_eq_true rfl⟩) ⟨(wM.pre [.ref (ad 0), .int p1] hP hK hN).1, wM.recv (C := RX7) (T := TX7) (N := 9) hP hK heq_5 rfl, (wM.pre [.ref (ad 0), .int p1] hP hK hN).2⟩ rfl rfl hl.1 rfl (lv_room (Nat.le_of_ble_eq_true rfl)) dX7_sell_7 ⟨Nat.le_of_ble_eq_true rfl, Nat.le_of_ble_eq_true rfl⟩) hS (fun q _ h => hA q (Nat.le_trans hS.1 h)) (fun q h => hA q (Nat.le_trans hS.1 h)) (fun r9 u t H1 locs ht hvm hw hB hz1 hk1 hS => ?_)
  subst hw
  have hP := va_Pnew hP hk1
  clear hz1 hk1 hvm ht hB
  generalize H1 = H at hP hS ⊢
  refine lv_if_ne (tgt := 19) hx hb dX7_sell_10 (by decide) (fun c_6 => ?_) (fun c_6 => ?_)
  · have hf := it_f hf c_6
    refine lv_iload_n hx hb dX7_sell_19 rfl (lv_at hl 2 rfl) ?_
    refine lv_iconst (v := 1) hx hb dX7_sell_20 (by decide) ?_
    refine lv_bipush (v := 99) hx hb dX7_sell_21 (by decide) ?_
    obtain ⟨r_7, g_8, hf⟩ := bd_out hf
    refine va_calli (va_runS (As := [.int p2, .int 1, .int 99]) (rest := []) ⟨hx, hb, hml, hown, hts⟩ (mt_X7_in l H.size p2 1 99 r_7 g_8) (va_cwS 3 hts gX7_sell_X7_in rfl rfl rfl (by decide +kernel) ⟨Nat.le_of_ble_eq_true rfl, Nat.le_of_ble_eq_true rfl⟩) (pre0 [.int p2, .int 1, .int 99]) rfl rfl hl.1 rfl (lv_room (Nat.le_of_ble_eq_true rfl)) dX7_sell_23 ⟨Nat.le_of_ble_eq_true rfl, Nat.le_of_ble_eq_true rfl⟩) hS (fun q _ h => hA q (Nat.le_trans hS.1 h)) (fun q h => hA q (Nat.le_trans hS.1 h)) (fun r9 u t H1 locs ht hvm hw hB hz1 hk1 hS => ?_)
    subst hw
    have hP := va_Pnew hP hk1
    clear hz1 hk1 hvm ht hB
    generalize H1 = H at hP hS ⊢
    refine lv_if_ne (tgt := 35) hx hb dX7_sell_26 (by decide) (fun c_9 => ?_) (fun c_9 => ?_)
    · have hf := it_f hf c_9
      refine lv_aload_n hx hb dX7_sell_35 rfl (lv_at hl 0 rfl) ?_
      obtain ⟨q_10, wq_10, heq_10⟩ := heM_0 (cy := cy) (I := I_2) (D := D) hM
      refine va_get (D := (dC, dI)) (ci := 8) (v := .ref (ad 5)) (C := RX7) (T := TX7) (N := 9) hx hb hts iX7_sell_RX7 hown hK hP q_10 heq_10 rfl 3 (by decide) (hts (.fieldLink RX7 24 "OverrunHouseModel" "cold" "LOverrunHouseModel$Cold;") (List.mem_cons_of_mem _ (List.mem_append_left _ (List.mem_append_left _ (List.mem_append_left _ (List.mem_append_left _ (List.mem_append_left _ (List.mem_of_getElem? (i := 1) rfl)))))))) (fun _ h9 => h9) rfl dX7_sell_36 ?_
      obtain ⟨q_11, wq_11, heq_11⟩ := heM_Cold (cy := cy) (I := I_2) (D := D) (a := a) (b := b) (cOK_5 hM)
      refine va_get (D := (dC, dI)) (ci := 6) (v := .ref (ad (5 + 4))) (C := RX5) (T := TX5) (N := 10) hx hb hts iX7_sell_RX5 hown hK hP q_11 heq_11 rfl 4 (by decide) (hts (.fieldLink RX7 123 "OverrunHouseModel$Cold" "where" "[I") (List.mem_cons_of_mem _ (List.mem_append_left _ (List.mem_append_left _ (List.mem_append_left _ (List.mem_append_left _ (List.mem_append_left _ (List.mem_of_getElem? (i := 2) rfl)))))))) (fun _ h9 => h9) rfl dX7_sell_39 ?_
      refine lv_iload_n hx hb dX7_sell_42 rfl (lv_at hl 1 rfl) ?_
      obtain ⟨q_12, wq_12, heq_12⟩ := heM_Where (cy := cy) (I := I_2) (D := D) (a := a) (b := b) (cOK_5 hM)
      obtain ⟨h_13, hf⟩ := ck_out hf
      refine va_iald (n := 12) (f := I_2 (5 + 4)) hx hb hK hP q_12 0 heq_12 rfl (inB_in h_13) dX7_sell_43 ?_
      refine lv_iconst (v := 0) hx hb dX7_sell_44 (by decide) ?_
      refine lv_iconst (v := 2) hx hb dX7_sell_45 (by decide) ?_
      obtain ⟨r_14, g_15, hf⟩ := bd_out hf
      refine va_calli (va_runS (As := [.int (I_2 (5 + 4) (p1).toNatClampNeg), .int 0, .int 2]) (rest := []) ⟨hx, hb, hml, hown, hts⟩ (mt_X7_in l H.size (I_2 (5 + 4) (p1).toNatClampNeg) 0 2 r_14 g_15) (va_cwS 3 hts gX7_sell_X7_in rfl rfl rfl (by decide +kernel) ⟨Nat.le_of_ble_eq_true rfl, Nat.le_of_ble_eq_true rfl⟩) (pre0 [.int (I_2 (5 + 4) (p1).toNatClampNeg), .int 0, .int 2]) rfl rfl hl.1 rfl (lv_room (Nat.le_of_ble_eq_true rfl)) dX7_sell_46 ⟨Nat.le_of_ble_eq_true rfl, Nat.le_of_ble_eq_true rfl⟩) hS (fun q _ h => hA q (Nat.le_trans hS.1 h)) (fun q h => hA q (Nat.le_trans hS.1 h)) (fun r9 u t H1 locs ht hvm hw hB hz1 hk1 hS => ?_)
      subst hw
      have hP := va_Pnew hP hk1
      clear hz1 hk1 hvm ht hB
      generalize H1 = H at hP hS ⊢
      refine lv_if_eq (tgt := 71) hx hb dX7_sell_49 (by decide) (fun c_16 => ?_) (fun c_16 => ?_)
      · have hf := it_t hf c_16
        refine lv_aload_n hx hb dX7_sell_71 rfl (lv_at hl 0 rfl) ?_
        refine lv_iconst (v := 3) hx hb dX7_sell_72 (by decide) ?_
        obtain ⟨⟨r_17, I_19, D_20⟩, g_18, hf⟩ := bd_out hf
        obtain ⟨q_21, wq_21, heq_21⟩ := heM_0 (cy := cy) (I := I_2) (D := D) hM
        have hAW : ∀ q, AM L ad H.size q → A q := fun q h => h.elim (fun ⟨k, k1, k2⟩ => k2 ▸ hAL k k1) (fun h => hA q (Nat.le_trans hS.1 h))
        refine va_calli (va_runV (As := [.int 3]) (rest := []) ⟨hx, hb, hml, hown, hts⟩ (mt_X7_no l dC dI L a b ad cy hM H.size I_2 D 3 r_17 I_19 D_20 g_18) (cwV 1 hts gX7_sell_X7_no rfl rfl rfl (by decide +kernel) ⟨Nat.le_of_ble_eq_true rfl, Nat.le_of_ble_eq_true rfl⟩) ⟨(wM.pre [.ref (ad 0), .int 3] hP hK hN).1, wM.recv (C := RX7) (T := TX7) (N := 9) hP hK heq_21 rfl, (wM.pre [.ref (ad 0), .int 3] hP hK hN).2⟩ rfl rfl hl.1 rfl (lv_room (Nat.le_of_ble_eq_true rfl)) dX7_sell_73 ⟨Nat.le_of_ble_eq_true rfl, Nat.le_of_ble_eq_true rfl⟩) hS (fun q _ h => hAW q h) hAW (fun r9 u t H1 locs ht hvm hw hB hz1 hk1 hS => ?_)
        subst hw
        have hP : va_P (dC, dI) vwCl (iwM L a b ad cy I_19 D_20) H1 := by rw [← ht]; exact hB.1
        clear hz1 hk1 hvm ht hB
        generalize H1 = H at hP hS ⊢
        have hf := Option.some.inj hf
        obtain ⟨q1, q2⟩ := Prod.mk.inj hf
        obtain ⟨q2, q3⟩ := Prod.mk.inj q2
        rw [q2, q3] at hP
        exact W.iret (v := r_17) hx hb hr (fun t ht hW9 => ⟨⟨r_17, (), rfl, q1.symm, wM.of hP hK hN ht hW9⟩, hS.F ht⟩) hS.2.2 dX7_sell_76
      · have hf := it_f hf c_16
        refine lv_aload_n hx hb dX7_sell_52 rfl (lv_at hl 0 rfl) ?_
        obtain ⟨q_22, wq_22, heq_22⟩ := heM_0 (cy := cy) (I := I_2) (D := D) hM
        refine va_get (D := (dC, dI)) (ci := 8) (v := .ref (ad 5)) (C := RX7) (T := TX7) (N := 9) hx hb hts iX7_sell_RX7 hown hK hP q_22 heq_22 rfl 3 (by decide) (hts (.fieldLink RX7 24 "OverrunHouseModel" "cold" "LOverrunHouseModel$Cold;") (List.mem_cons_of_mem _ (List.mem_append_left _ (List.mem_append_left _ (List.mem_append_left _ (List.mem_append_left _ (List.mem_append_left _ (List.mem_of_getElem? (i := 1) rfl)))))))) (fun _ h9 => h9) rfl dX7_sell_53 ?_
        refine lv_iload_n hx hb dX7_sell_56 rfl (lv_at hl 1 rfl) ?_
        obtain ⟨r_23, g_24, hf⟩ := bd_out hf
        obtain ⟨q_25, wq_25, heq_25⟩ := heM_Cold (cy := cy) (I := I_2) (D := D) (a := a) (b := b) (cOK_5 hM)
        refine va_calli (va_runV (As := [.int p1]) (rest := []) ⟨hx, hb, hml, hown, hts⟩ (mt_X5_isCoarse l dC dI L a b ad cy hM H.size I_2 D 5 (cOK_5 hM) p1 r_23 g_24) (cwV 1 hts gX7_sell_X5_isCoarse rfl rfl rfl (by decide +kernel) ⟨Nat.le_of_ble_eq_true rfl, Nat.le_of_ble_eq_true rfl⟩) ⟨(wM.pre [.ref (ad 5), .int p1] hP hK hN).1, wM.recv (C := RX5) (T := TX5) (N := 10) hP hK heq_25 rfl, (wM.pre [.ref (ad 5), .int p1] hP hK hN).2⟩ rfl rfl hl.1 rfl (lv_room (Nat.le_of_ble_eq_true rfl)) dX7_sell_57 ⟨Nat.le_of_ble_eq_true rfl, Nat.le_of_ble_eq_true rfl⟩) hS (fun q _ h => hA q (Nat.le_trans hS.1 h)) (fun q h => hA q (Nat.le_trans hS.1 h)) (fun r9 u t H1 locs ht hvm hw hB hz1 hk1 hS => ?_)
        subst hw
        have hP := va_Pnew hP hk1
        clear hz1 hk1 hvm ht hB
        generalize H1 = H at hP hS ⊢
        refine lv_if_ne (tgt := 71) hx hb dX7_sell_60 (by decide) (fun c_26 => ?_) (fun c_26 => ?_)
        · have hf := it_f hf c_26
          refine lv_aload_n hx hb dX7_sell_71 rfl (lv_at hl 0 rfl) ?_
          refine lv_iconst (v := 3) hx hb dX7_sell_72 (by decide) ?_
          obtain ⟨⟨r_27, I_29, D_30⟩, g_28, hf⟩ := bd_out hf
          obtain ⟨q_31, wq_31, heq_31⟩ := heM_0 (cy := cy) (I := I_2) (D := D) hM
          have hAW : ∀ q, AM L ad H.size q → A q := fun q h => h.elim (fun ⟨k, k1, k2⟩ => k2 ▸ hAL k k1) (fun h => hA q (Nat.le_trans hS.1 h))
          refine va_calli (va_runV (As := [.int 3]) (rest := []) ⟨hx, hb, hml, hown, hts⟩ (mt_X7_no l dC dI L a b ad cy hM H.size I_2 D 3 r_27 I_29 D_30 g_28) (cwV 1 hts gX7_sell_X7_no rfl rfl rfl (by decide +kernel) ⟨Nat.le_of_ble_eq_true rfl, Nat.le_of_ble_eq_true rfl⟩) ⟨(wM.pre [.ref (ad 0), .int 3] hP hK hN).1, wM.recv (C := RX7) (T := TX7) (N := 9) hP hK heq_31 rfl, (wM.pre [.ref (ad 0), .int 3] hP hK hN).2⟩ rfl rfl hl.1 rfl (lv_room (Nat.le_of_ble_eq_true rfl)) dX7_sell_73 ⟨Nat.le_of_ble_eq_true rfl, Nat.le_of_ble_eq_true rfl⟩) hS (fun q _ h => hAW q h) hAW (fun r9 u t H1 locs ht hvm hw hB hz1 hk1 hS => ?_)
          subst hw
          have hP : va_P (dC, dI) vwCl (iwM L a b ad cy I_29 D_30) H1 := by rw [← ht]; exact hB.1
          clear hz1 hk1 hvm ht hB
          generalize H1 = H at hP hS ⊢
          have hf := Option.some.inj hf
          obtain ⟨q1, q2⟩ := Prod.mk.inj hf
          obtain ⟨q2, q3⟩ := Prod.mk.inj q2
          rw [q2, q3] at hP
          exact W.iret (v := r_27) hx hb hr (fun t ht hW9 => ⟨⟨r_27, (), rfl, q1.symm, wM.of hP hK hN ht hW9⟩, hS.F ht⟩) hS.2.2 dX7_sell_76
        · have hf := it_t hf c_26
          refine lv_aload_n hx hb dX7_sell_63 rfl (lv_at hl 0 rfl) ?_
          refine lv_iload_n hx hb dX7_sell_64 rfl (lv_at hl 1 rfl) ?_
          obtain ⟨r_32, g_33, hf⟩ := bd_out hf
          obtain ⟨q_34, wq_34, heq_34⟩ := heM_0 (cy := cy) (I := I_2) (D := D) hM
          refine va_calli (va_runV (As := [.int p1]) (rest := []) ⟨hx, hb, hml, hown, hts⟩ (mt_X7_isCalled l dC dI L a b ad cy hM H.size I_2 D p1 r_32 g_33) (cwV 1 hts gX7_sell_X7_isCalled rfl rfl rfl (by decide +kernel) ⟨Nat.le_of_ble_eq_true rfl, Nat.le_of_ble_eq_true rfl⟩) ⟨(wM.pre [.ref (ad 0), .int p1] hP hK hN).1, wM.recv (C := RX7) (T := TX7) (N := 9) hP hK heq_34 rfl, (wM.pre [.ref (ad 0), .int p1] hP hK hN).2⟩ rfl rfl hl.1 rfl (lv_room (Nat.le_of_ble_eq_true rfl)) dX7_sell_65 ⟨Nat.le_of_ble_eq_true rfl, Nat.le_of_ble_eq_true rfl⟩) hS (fun q _ h => hA q (Nat.le_trans hS.1 h)) (fun q h => hA q (Nat.le_trans hS.1 h)) (fun r9 u t H1 locs ht hvm hw hB hz1 hk1 hS => ?_)
          subst hw
          have hP := va_Pnew hP hk1
          clear hz1 hk1 hvm ht hB
          generalize H1 = H at hP hS ⊢
          refine lv_if_eq (tgt := 77) hx hb dX7_sell_68 (by decide) (fun c_35 => ?_) (fun c_35 => ?_)
          · have hf := it_t hf c_35
            refine lv_aload_n hx hb dX7_sell_77 rfl (lv_at hl 0 rfl) ?_
            obtain ⟨q_36, wq_36, heq_36⟩ := heM_0 (cy := cy) (I := I_2) (D := D) hM
            refine va_get (D := (dC, dI)) (ci := 8) (v := .ref (ad 5)) (C := RX7) (T := TX7) (N := 9) hx hb hts iX7_sell_RX7 hown hK hP q_36 heq_36 rfl 3 (by decide) (hts (.fieldLink RX7 24 "OverrunHouseModel" "cold" "LOverrunHouseModel$Cold;") (List.mem_cons_of_mem _ (List.mem_append_left _ (List.mem_append_left _ (List.mem_append_left _ (List.mem_append_left _ (List.mem_append_left _ (List.mem_of_getElem? (i := 1) rfl)))))))) (fun _ h9 => h9) rfl dX7_sell_78 ?_
            obtain ⟨q_37, wq_37, heq_37⟩ := heM_Cold (cy := cy) (I := I_2) (D := D) (a := a) (b := b) (cOK_5 hM)
            refine va_get (D := (dC, dI)) (ci := 6) (v := .ref (ad (5 + 4))) (C := RX5) (T := TX5) (N := 10) hx hb hts iX7_sell_RX5 hown hK hP q_37 heq_37 rfl 4 (by decide) (hts (.fieldLink RX7 123 "OverrunHouseModel$Cold" "where" "[I") (List.mem_cons_of_mem _ (List.mem_append_left _ (List.mem_append_left _ (List.mem_append_left _ (List.mem_append_left _ (List.mem_append_left _ (List.mem_of_getElem? (i := 2) rfl)))))))) (fun _ h9 => h9) rfl dX7_sell_81 ?_
            refine lv_iload_n hx hb dX7_sell_84 rfl (lv_at hl 1 rfl) ?_
            refine lv_bipush (v := 10) hx hb dX7_sell_85 (by decide) ?_
            obtain ⟨q_38, wq_38, heq_38⟩ := heM_Where (cy := cy) (I := I_2) (D := D) (a := a) (b := b) (cOK_5 hM)
            obtain ⟨h_39, hf⟩ := ck_out hf
            obtain ⟨I_40, eI_40, hf⟩ := nm_out hf
            refine va_iast (n := 12) (f := I_2 (5 + 4)) hx hb hK hP (hDD I_2 D) hS q_38 0 heq_38 rfl (inB_in h_39) dX7_sell_87 (fun H locs hP _ hS => ?_)
            have hP : va_P (dC, dI) vwCl (iwM L a b ad cy I_40 D) H := by rw [eI_40]; exact hqI hM wq_38 ((cellM_Where ad cy a b (cOK_5 hM).1 _ _).trans rfl) hP
            refine lv_aload_n hx hb dX7_sell_88 rfl (lv_at hl 0 rfl) ?_
            refine lv_dup hx hb dX7_sell_89 rfl ?_
            obtain ⟨q_41, wq_41, heq_41⟩ := heM_0 (cy := cy) (I := I_40) (D := D) hM
            refine va_get (D := (dC, dI)) (ci := 8) (v := .int (I_40 0 6)) (C := RX7) (T := TX7) (N := 9) hx hb hts iX7_sell_RX7 hown hK hP q_41 heq_41 rfl 6 (by decide) (hts (.fieldLink RX7 171 "OverrunHouseModel" "gain" "I") (List.mem_cons_of_mem _ (List.mem_append_left _ (List.mem_append_left _ (List.mem_append_left _ (List.mem_append_left _ (List.mem_append_left _ (List.mem_of_getElem? (i := 3) rfl)))))))) (fun _ h9 => h9) rfl dX7_sell_90 ?_
            refine lv_aload_n hx hb dX7_sell_93 rfl (lv_at hl 0 rfl) ?_
            obtain ⟨q_42, wq_42, heq_42⟩ := heM_0 (cy := cy) (I := I_40) (D := D) hM
            refine va_get (D := (dC, dI)) (ci := 8) (v := .ref (ad 5)) (C := RX7) (T := TX7) (N := 9) hx hb hts iX7_sell_RX7 hown hK hP q_42 heq_42 rfl 3 (by decide) (hts (.fieldLink RX7 24 "OverrunHouseModel" "cold" "LOverrunHouseModel$Cold;") (List.mem_cons_of_mem _ (List.mem_append_left _ (List.mem_append_left _ (List.mem_append_left _ (List.mem_append_left _ (List.mem_append_left _ (List.mem_of_getElem? (i := 1) rfl)))))))) (fun _ h9 => h9) rfl dX7_sell_94 ?_
            obtain ⟨q_43, wq_43, heq_43⟩ := heM_Cold (cy := cy) (I := I_40) (D := D) (a := a) (b := b) (cOK_5 hM)
            refine va_get (D := (dC, dI)) (ci := 6) (v := .ref (ad (5 + 2))) (C := RX5) (T := TX5) (N := 10) hx hb hts iX7_sell_RX5 hown hK hP q_43 heq_43 rfl 2 (by decide) (hts (.fieldLink RX7 120 "OverrunHouseModel$Cold" "litres" "[I") (List.mem_cons_of_mem _ (List.mem_append_left _ (List.mem_append_left _ (List.mem_append_left _ (List.mem_append_left _ (List.mem_append_left _ (List.mem_of_getElem? (i := 4) rfl)))))))) (fun _ h9 => h9) rfl dX7_sell_97 ?_
            refine lv_iload_n hx hb dX7_sell_100 rfl (lv_at hl 1 rfl) ?_
            obtain ⟨q_44, wq_44, heq_44⟩ := heM_Litres (cy := cy) (I := I_40) (D := D) (a := a) (b := b) (cOK_5 hM)
            obtain ⟨h_45, hf⟩ := ck_out hf
            refine va_iald (n := 12) (f := I_40 (5 + 2)) hx hb hK hP q_44 0 heq_44 rfl (inB_in h_45) dX7_sell_101 ?_
            refine lv_iload_n hx hb dX7_sell_102 rfl (lv_at hl 2 rfl) ?_
            refine lv_imul hx hb dX7_sell_103 ?_
            refine lv_iadd hx hb dX7_sell_104 ?_
            obtain ⟨q_46, wq_46, heq_46⟩ := heM_0 (cy := cy) (I := I_40) (D := D) hM
            obtain ⟨I_47, eI_47, hf⟩ := nm_out hf
            refine va_put (D := (dC, dI)) (ci := 8) (v := .int ((I_40 0 6) + ((I_40 (5 + 2) (p1).toNatClampNeg) * p2))) (ty := .int) (C := RX7) (T := TX7) (N := 9) hx hb hts iX7_sell_RX7 tyX7 tyX7_ok nmX7 hown hK hP (hDD I_40 D) hS q_46 heq_46 rfl 6 (by decide) (hts (.fieldLink RX7 171 "OverrunHouseModel" "gain" "I") (List.mem_cons_of_mem _ (List.mem_append_left _ (List.mem_append_left _ (List.mem_append_left _ (List.mem_append_left _ (List.mem_append_left _ (List.mem_of_getElem? (i := 3) rfl)))))))) (fun _ h9 => h9) rfl (by decide +kernel) rfl rfl (Nat.le_of_ble_eq_true rfl) dX7_sell_105 (fun H locs hP _ hS => ?_)
            have hP : va_P (dC, dI) vwCl (iwM L a b ad cy I_47 D) H := by rw [eI_47]; exact hqI hM wq_46 ((cellM_0 ad cy a b _ _).trans rfl) hP
            refine lv_aload_n hx hb dX7_sell_108 rfl (lv_at hl 0 rfl) ?_
            obtain ⟨q_48, wq_48, heq_48⟩ := heM_0 (cy := cy) (I := I_47) (D := D) hM
            refine va_get (D := (dC, dI)) (ci := 8) (v := .int (I_47 0 6)) (C := RX7) (T := TX7) (N := 9) hx hb hts iX7_sell_RX7 hown hK hP q_48 heq_48 rfl 6 (by decide) (hts (.fieldLink RX7 171 "OverrunHouseModel" "gain" "I") (List.mem_cons_of_mem _ (List.mem_append_left _ (List.mem_append_left _ (List.mem_append_left _ (List.mem_append_left _ (List.mem_append_left _ (List.mem_of_getElem? (i := 3) rfl)))))))) (fun _ h9 => h9) rfl dX7_sell_109 ?_
            have hf := Option.some.inj hf
            obtain ⟨q1, q2⟩ := Prod.mk.inj hf
            obtain ⟨q2, q3⟩ := Prod.mk.inj q2
            rw [q2, q3] at hP
            exact W.iret (v := (I_47 0 6)) hx hb hr (fun t ht hW9 => ⟨⟨(I_47 0 6), (), rfl, q1.symm, wM.of hP hK hN ht hW9⟩, hS.F ht⟩) hS.2.2 dX7_sell_112
          · have hf := it_f hf c_35
            refine lv_aload_n hx hb dX7_sell_71 rfl (lv_at hl 0 rfl) ?_
            refine lv_iconst (v := 3) hx hb dX7_sell_72 (by decide) ?_
            obtain ⟨⟨r_49, I_51, D_52⟩, g_50, hf⟩ := bd_out hf
            obtain ⟨q_53, wq_53, heq_53⟩ := heM_0 (cy := cy) (I := I_2) (D := D) hM
            have hAW : ∀ q, AM L ad H.size q → A q := fun q h => h.elim (fun ⟨k, k1, k2⟩ => k2 ▸ hAL k k1) (fun h => hA q (Nat.le_trans hS.1 h))
            refine va_calli (va_runV (As := [.int 3]) (rest := []) ⟨hx, hb, hml, hown, hts⟩ (mt_X7_no l dC dI L a b ad cy hM H.size I_2 D 3 r_49 I_51 D_52 g_50) (cwV 1 hts gX7_sell_X7_no rfl rfl rfl (by decide +kernel) ⟨Nat.le_of_ble_eq_true rfl, Nat.le_of_ble_eq_true rfl⟩) ⟨(wM.pre [.ref (ad 0), .int 3] hP hK hN).1, wM.recv (C := RX7) (T := TX7) (N := 9) hP hK heq_53 rfl, (wM.pre [.ref (ad 0), .int 3] hP hK hN).2⟩ rfl rfl hl.1 rfl (lv_room (Nat.le_of_ble_eq_true rfl)) dX7_sell_73 ⟨Nat.le_of_ble_eq_true rfl, Nat.le_of_ble_eq_true rfl⟩) hS (fun q _ h => hAW q h) hAW (fun r9 u t H1 locs ht hvm hw hB hz1 hk1 hS => ?_)
            subst hw
            have hP : va_P (dC, dI) vwCl (iwM L a b ad cy I_51 D_52) H1 := by rw [← ht]; exact hB.1
            clear hz1 hk1 hvm ht hB
            generalize H1 = H at hP hS ⊢
            have hf := Option.some.inj hf
            obtain ⟨q1, q2⟩ := Prod.mk.inj hf
            obtain ⟨q2, q3⟩ := Prod.mk.inj q2
            rw [q2, q3] at hP
            exact W.iret (v := r_49) hx hb hr (fun t ht hW9 => ⟨⟨r_49, (), rfl, q1.symm, wM.of hP hK hN ht hW9⟩, hS.F ht⟩) hS.2.2 dX7_sell_76
    · have hf := it_t hf c_9
      refine lv_aload_n hx hb dX7_sell_29 rfl (lv_at hl 0 rfl) ?_
      refine lv_iconst (v := 2) hx hb dX7_sell_30 (by decide) ?_
      obtain ⟨⟨r_54, I_56, D_57⟩, g_55, hf⟩ := bd_out hf
      obtain ⟨q_58, wq_58, heq_58⟩ := heM_0 (cy := cy) (I := I_2) (D := D) hM
      have hAW : ∀ q, AM L ad H.size q → A q := fun q h => h.elim (fun ⟨k, k1, k2⟩ => k2 ▸ hAL k k1) (fun h => hA q (Nat.le_trans hS.1 h))
      refine va_calli (va_runV (As := [.int 2]) (rest := []) ⟨hx, hb, hml, hown, hts⟩ (mt_X7_no l dC dI L a b ad cy hM H.size I_2 D 2 r_54 I_56 D_57 g_55) (cwV 1 hts gX7_sell_X7_no rfl rfl rfl (by decide +kernel) ⟨Nat.le_of_ble_eq_true rfl, Nat.le_of_ble_eq_true rfl⟩) ⟨(wM.pre [.ref (ad 0), .int 2] hP hK hN).1, wM.recv (C := RX7) (T := TX7) (N := 9) hP hK heq_58 rfl, (wM.pre [.ref (ad 0), .int 2] hP hK hN).2⟩ rfl rfl hl.1 rfl (lv_room (Nat.le_of_ble_eq_true rfl)) dX7_sell_31 ⟨Nat.le_of_ble_eq_true rfl, Nat.le_of_ble_eq_true rfl⟩) hS (fun q _ h => hAW q h) hAW (fun r9 u t H1 locs ht hvm hw hB hz1 hk1 hS => ?_)
      subst hw
      have hP : va_P (dC, dI) vwCl (iwM L a b ad cy I_56 D_57) H1 := by rw [← ht]; exact hB.1
      clear hz1 hk1 hvm ht hB
      generalize H1 = H at hP hS ⊢
      have hf := Option.some.inj hf
      obtain ⟨q1, q2⟩ := Prod.mk.inj hf
      obtain ⟨q2, q3⟩ := Prod.mk.inj q2
      rw [q2, q3] at hP
      exact W.iret (v := r_54) hx hb hr (fun t ht hW9 => ⟨⟨r_54, (), rfl, q1.symm, wM.of hP hK hN ht hW9⟩, hS.F ht⟩) hS.2.2 dX7_sell_34
  · have hf := it_t hf c_6
    refine lv_aload_n hx hb dX7_sell_13 rfl (lv_at hl 0 rfl) ?_
    refine lv_iconst (v := 1) hx hb dX7_sell_14 (by decide) ?_
    obtain ⟨⟨r_59, I_61, D_62⟩, g_60, hf⟩ := bd_out hf
    obtain ⟨q_63, wq_63, heq_63⟩ := heM_0 (cy := cy) (I := I_2) (D := D) hM
    have hAW : ∀ q, AM L ad H.size q → A q := fun q h => h.elim (fun ⟨k, k1, k2⟩ => k2 ▸ hAL k k1) (fun h => hA q (Nat.le_trans hS.1 h))
    refine va_calli (va_runV (As := [.int 1]) (rest := []) ⟨hx, hb, hml, hown, hts⟩ (mt_X7_no l dC dI L a b ad cy hM H.size I_2 D 1 r_59 I_61 D_62 g_60) (cwV 1 hts gX7_sell_X7_no rfl rfl rfl (by decide +kernel) ⟨Nat.le_of_ble_eq_true rfl, Nat.le_of_ble_eq_true rfl⟩) ⟨(wM.pre [.ref (ad 0), .int 1] hP hK hN).1, wM.recv (C := RX7) (T := TX7) (N := 9) hP hK heq_63 rfl, (wM.pre [.ref (ad 0), .int 1] hP hK hN).2⟩ rfl rfl hl.1 rfl (lv_room (Nat.le_of_ble_eq_true rfl)) dX7_sell_15 ⟨Nat.le_of_ble_eq_true rfl, Nat.le_of_ble_eq_true rfl⟩) hS (fun q _ h => hAW q h) hAW (fun r9 u t H1 locs ht hvm hw hB hz1 hk1 hS => ?_)
    subst hw
    have hP : va_P (dC, dI) vwCl (iwM L a b ad cy I_61 D_62) H1 := by rw [← ht]; exact hB.1
    clear hz1 hk1 hvm ht hB
    generalize H1 = H at hP hS ⊢
    have hf := Option.some.inj hf
    obtain ⟨q1, q2⟩ := Prod.mk.inj hf
    obtain ⟨q2, q3⟩ := Prod.mk.inj q2
    rw [q2, q3] at hP
    exact W.iret (v := r_59) hx hb hr (fun t ht hW9 => ⟨⟨r_59, (), rfl, q1.symm, wM.of hP hK hN ht hW9⟩, hS.F ht⟩) hS.2.2 dX7_sell_18

def f_X7_call_L35 (a : Nat) (b : Nat) (D : Nat → Nat → UInt64) (p1 : Int32) (I_9 : Nat → Nat → Int32) : Nat → Int32 → Int32 → Option (Int32 × (Nat → Nat → Int32) × (Nat → Nat → UInt64))
  | 0, _, _ => none
  | n35 + 1, x3_35, x2_35 => (if (I_9 5 0) ≤ x3_35 then some (x2_35, I_9, D) else ck (inB x3_35 12) ((if (I_9 (5 + 4) (x3_35).toNatClampNeg) = 10 then ck (inB x3_35 12) (bd (f_get2 a b I_9 D (I_9 (5 + 1) (x3_35).toNatClampNeg)) (fun r_23 => ck (inB p1 6) ((if (I_9 (25 + r_23) (p1).toNatClampNeg) ≤ 0 then f_X7_call_L35 a b D p1 I_9 n35 (x3_35 + 1) (x2_35 + 0) else ck (inB x3_35 12) (f_X7_call_L35 a b D p1 I_9 n35 (x3_35 + 1) (x2_35 + (I_9 (5 + 2) (x3_35).toNatClampNeg))))))) else f_X7_call_L35 a b D p1 I_9 n35 (x3_35 + 1) (x2_35 + 0))))
def f_X7_call (a b : Nat) (I : Nat → Nat → Int32) (D : Nat → Nat → UInt64) (p1 : Int32) : Option (Int32 × (Nat → Nat → Int32) × (Nat → Nat → UInt64)) :=
  nm (up2 I 0 0 0) (fun I_2 => bd (f_X7_isIngredient a b I_2 D p1) (fun r_3 => (if r_3 = 0 then bd (f_X7_no a b I_2 D 1) (fun (r_35, I_37, D_38) => some (r_35, I_37, D_38)) else nm (up2 I_2 0 8 ((I_2 0 8) ||| (1 <<< (p1 &&& 31)))) (fun I_9 => f_X7_call_L35 a b D p1 I_9 200 0 0))))
theorem iX7_call_RX5 : ∀ w ∈ u_ws RX5 TX5 10, w ∈ wsX7_call := fun w h => List.mem_cons_of_mem _ (List.mem_append_left _ (List.mem_append_left _ (List.mem_append_right _ (h))))
theorem iX7_call_RX7 : ∀ w ∈ u_ws RX7 TX7 9, w ∈ wsX7_call := fun w h => List.mem_cons_of_mem _ (List.mem_append_left _ (List.mem_append_left _ (List.mem_append_left _ (List.mem_append_right _ (h)))))
theorem iX7_call_RX6 : ∀ w ∈ u_ws RX6 TX6 5, w ∈ wsX7_call := fun w h => List.mem_cons_of_mem _ (List.mem_append_left _ (List.mem_append_right _ (h)))
set_option maxHeartbeats 4000000 in
set_option maxRecDepth 100000 in
theorem mt_X7_call (l : Launch) (dC : Nat → ClassId) (dI : Nat → Nat → Nat) (L : List Nat) (a b : Nat) (ad : Nat → Nat) (cy : Nat → ClassId) (hM : mOK L a b ad) (sz : Nat) (I : Nat → Nat → Int32) (D : Nat → Nat → UInt64) (p1 : Int32) (rr : Int32) (I9 : Nat → Nat → Int32) (D9 : Nat → Nat → UInt64) (hf : f_X7_call a b I D p1 = some (rr, I9, D9)) : Met l yX7_call wsX7_call ({ frames := 4, cells := 0, slots := 0, locals := 134 }) (va_Pc [.ref (ad 0), .int p1] (fun U => U.heap.size = sz ∧ wM dC dI L a b ad cy I D U)) (va_Qi (fun r (_ : Unit) => rr = r) (fun _ t => wM dC dI L a b ad cy I9 D9 t) (AM L ad sz)) 0 0 (AM L ad sz) := by
  refine Met.ofW (cc := cX7_call) (maxL := 4) (ret := (some .int)) (by decide) rfl ?_
  intro p e s m args below meth c s₁ B hml hv
  obtain ⟨rfl, hsz, hP, hK, hN⟩ := hv
  have hx := B.exec
  have hb := B.bytes
  have hr := B.returns
  have hts := atoms_spec (ws := wsX7_call) B.pre
  have hown : s.vm.findClass RX7 = some m.cls := findClass_of_methodNamed B.named
  have hlocks := B.notSynchronized
  subst hsz
  generalize hAe : AM L ad s.heap.size = A
  have hA : ∀ q : Nat, s.heap.size ≤ q → A q := fun q h => by rw [← hAe]; exact Or.inr h
  have hAL : ∀ k, k ∈ L → A (ad k) := fun k h => by rw [← hAe]; exact Or.inl ⟨k, h, rfl⟩
  have hDD : ∀ I D, va_D A (iwM L a b ad cy I D) := fun I D => iwM_D hM hAL I D
  obtain ⟨H, hH⟩ : ∃ H : Heap, H = s.heap := ⟨_, rfl⟩
  have hS : va_S A s.heap H [] := by rw [hH]; exact va_S.rf
  rw [← hH]
  rw [← hH] at hP
  have hl := lv_entry ([.ref (ad 0), .int p1]) (n := 4) (Nat.le_of_ble_eq_true rfl)
  rw [lg_entry_eq]
  generalize (lg_sl ([.ref (ad 0), .int p1]) ++ List.replicate (4 - (lg_sl ([.ref (ad 0), .int p1])).length) Slot.unset).toArray = ls at hl ⊢
  have hl : lv_has ls 4 [(0, .ref (ad 0)), (1, .int p1)] := hl
  unfold f_X7_call at hf
  refine lv_aload_n hx hb dX7_call_0 rfl (lv_at hl 0 rfl) ?_
  refine lv_iconst (v := 0) hx hb dX7_call_1 (by decide) ?_
  obtain ⟨q_1, wq_1, heq_1⟩ := heM_0 (cy := cy) (I := I) (D := D) hM
  obtain ⟨I_2, eI_2, hf⟩ := nm_out hf
  refine va_put (D := (dC, dI)) (ci := 8) (v := .int 0) (ty := .int) (C := RX7) (T := TX7) (N := 9) hx hb hts iX7_call_RX7 tyX7 tyX7_ok nmX7 hown hK hP (hDD I D) hS q_1 heq_1 rfl 0 (by decide) (hts (.fieldLink RX7 32 "OverrunHouseModel" "thrown" "I") (List.mem_cons_of_mem _ (List.mem_append_left _ (List.mem_append_left _ (List.mem_append_left _ (List.mem_append_left _ (List.mem_append_left _ (List.mem_of_getElem? (i := 0) rfl)))))))) (fun _ h9 => h9) rfl (by decide +kernel) rfl rfl (Nat.le_of_ble_eq_true rfl) dX7_call_2 (fun H locs hP _ hS => ?_)
  have hP : va_P (dC, dI) vwCl (iwM L a b ad cy I_2 D) H := by rw [eI_2]; exact hqI hM wq_1 ((cellM_0 ad cy a b _ _).trans rfl) hP
  refine lv_aload_n hx hb dX7_call_5 rfl (lv_at hl 0 rfl) ?_
  refine lv_iload_n hx hb dX7_call_6 rfl (lv_at hl 1 rfl) ?_
  obtain ⟨r_3, g_4, hf⟩ := bd_out hf
  obtain ⟨q_5, wq_5, heq_5⟩ := heM_0 (cy := cy) (I := I_2) (D := D) hM
  refine va_calli (va_runV (As := [.int p1]) (rest := []) ⟨hx, hb, hml, hown, hts⟩ (mt_X7_isIngredient l dC dI L a b ad cy hM H.size I_2 D p1 r_3 g_4) (cwV 1 hts gX7_call_X7_isIngredient rfl rfl rfl (by decide +kernel) ⟨Nat.le_of_ble_eq_true rfl, Nat.le_of_ble_eq_true rfl⟩) ⟨(wM.pre [.ref (ad 0), .int p1] hP hK hN).1, wM.recv (C := RX7) (T := TX7) (N := 9) hP hK heq_5 rfl, (wM.pre [.ref (ad 0), .int p1] hP hK hN).2⟩ rfl rfl hl.1 rfl (lv_room (Nat.le_of_ble_eq_true rfl)) dX7_call_7 ⟨Nat.le_of_ble_eq_true rfl, Nat.le_of_ble_eq_true rfl⟩) hS (fun q _ h => hA q (Nat.le_trans hS.1 h)) (fun q h => hA q (Nat.le_trans hS.1 h)) (fun r9 u t H1 locs ht hvm hw hB hz1 hk1 hS => ?_)
  subst hw
  have hP := va_Pnew hP hk1
  clear hz1 hk1 hvm ht hB
  generalize H1 = H at hP hS ⊢
  refine lv_if_ne (tgt := 19) hx hb dX7_call_10 (by decide) (fun c_6 => ?_) (fun c_6 => ?_)
  · have hf := it_f hf c_6
    refine lv_aload_n hx hb dX7_call_19 rfl (lv_at hl 0 rfl) ?_
    refine lv_dup hx hb dX7_call_20 rfl ?_
    obtain ⟨q_7, wq_7, heq_7⟩ := heM_0 (cy := cy) (I := I_2) (D := D) hM
    refine va_get (D := (dC, dI)) (ci := 8) (v := .int (I_2 0 8)) (C := RX7) (T := TX7) (N := 9) hx hb hts iX7_call_RX7 hown hK hP q_7 heq_7 rfl 8 (by decide) (hts (.fieldLink RX7 64 "OverrunHouseModel" "called" "I") (List.mem_cons_of_mem _ (List.mem_append_left _ (List.mem_append_left _ (List.mem_append_left _ (List.mem_append_left _ (List.mem_append_left _ (List.mem_of_getElem? (i := 1) rfl)))))))) (fun _ h9 => h9) rfl dX7_call_21 ?_
    refine lv_iconst (v := 1) hx hb dX7_call_24 (by decide) ?_
    refine lv_iload_n hx hb dX7_call_25 rfl (lv_at hl 1 rfl) ?_
    refine lv_ishl hx hb dX7_call_26 ?_
    refine lv_ior hx hb dX7_call_27 ?_
    obtain ⟨q_8, wq_8, heq_8⟩ := heM_0 (cy := cy) (I := I_2) (D := D) hM
    obtain ⟨I_9, eI_9, hf⟩ := nm_out hf
    refine va_put (D := (dC, dI)) (ci := 8) (v := .int ((I_2 0 8) ||| (1 <<< (p1 &&& 31)))) (ty := .int) (C := RX7) (T := TX7) (N := 9) hx hb hts iX7_call_RX7 tyX7 tyX7_ok nmX7 hown hK hP (hDD I_2 D) hS q_8 heq_8 rfl 8 (by decide) (hts (.fieldLink RX7 64 "OverrunHouseModel" "called" "I") (List.mem_cons_of_mem _ (List.mem_append_left _ (List.mem_append_left _ (List.mem_append_left _ (List.mem_append_left _ (List.mem_append_left _ (List.mem_of_getElem? (i := 1) rfl)))))))) (fun _ h9 => h9) rfl (by decide +kernel) rfl rfl (Nat.le_of_ble_eq_true rfl) dX7_call_28 (fun H locs hP _ hS => ?_)
    have hP : va_P (dC, dI) vwCl (iwM L a b ad cy I_9 D) H := by rw [eI_9]; exact hqI hM wq_8 ((cellM_0 ad cy a b _ _).trans rfl) hP
    refine lv_iconst (v := 0) hx hb dX7_call_31 (by decide) ?_
    refine lv_istore_n (lv' := [(2, .int 0), (0, .ref (ad 0)), (1, .int p1)]) hx hb dX7_call_32 rfl hl (by decide) rfl (fun ls hl => ?_)
    refine lv_iconst (v := 0) hx hb dX7_call_33 (by decide) ?_
    refine lv_istore_n (lv' := [(3, .int 0), (2, .int 0), (0, .ref (ad 0)), (1, .int p1)]) hx hb dX7_call_34 rfl hl (by decide) rfl (fun ls hl => ?_)
    have L35 : ∀ (n35 : Nat) (x3_35 : Int32) (x2_35 : Int32), f_X7_call_L35 a b D p1 I_9 n35 x3_35 x2_35 = some (rr, I9, D9) → ∀ (H : Heap) (locs : List Loc) (ls : Array Slot), va_P (dC, dI) vwCl (iwM L a b ad cy I_9 D) H → va_S A s.heap H locs → lv_has ls 4 [(3, .int x3_35), (2, .int x2_35), (0, .ref (ad 0)), (1, .int p1)] → W p l e (headSpec wsX7_call ({ frames := 4, cells := 0, slots := 0, locals := 134 })).room s m ([.ref (ad 0), .int p1] : List Value).toArray below meth c H locs 0 0 (MQ below (va_Qi (fun r (_ : Unit) => rr = r) (fun _ t => wM dC dI L a b ad cy I9 D9 t) A) ([.ref (ad 0), .int p1] : List Value).toArray s 0 0 A) (F0 m 35 ls []) := by
      intro n35
      induction n35 with
      | zero => intro x3_35 x2_35 hf; exact nomatch hf
      | succ n35 ih35 =>
        intro x3_35 x2_35 hf H locs ls hP hS hl
        unfold f_X7_call_L35 at hf
        refine lv_iload_n hx hb dX7_call_35 rfl (lv_at hl 0 rfl) ?_
        refine lv_aload_n hx hb dX7_call_36 rfl (lv_at hl 2 rfl) ?_
        obtain ⟨q_10, wq_10, heq_10⟩ := heM_0 (cy := cy) (I := I_9) (D := D) hM
        refine va_get (D := (dC, dI)) (ci := 8) (v := .ref (ad 5)) (C := RX7) (T := TX7) (N := 9) hx hb hts iX7_call_RX7 hown hK hP q_10 heq_10 rfl 3 (by decide) (hts (.fieldLink RX7 24 "OverrunHouseModel" "cold" "LOverrunHouseModel$Cold;") (List.mem_cons_of_mem _ (List.mem_append_left _ (List.mem_append_left _ (List.mem_append_left _ (List.mem_append_left _ (List.mem_append_left _ (List.mem_of_getElem? (i := 2) rfl)))))))) (fun _ h9 => h9) rfl dX7_call_37 ?_
        obtain ⟨q_11, wq_11, heq_11⟩ := heM_Cold (cy := cy) (I := I_9) (D := D) (a := a) (b := b) (cOK_5 hM)
        refine va_get (D := (dC, dI)) (ci := 6) (v := .int (I_9 5 0)) (C := RX5) (T := TX5) (N := 10) hx hb hts iX7_call_RX5 hown hK hP q_11 heq_11 rfl 0 (by decide) (hts (.fieldLink RX7 46 "OverrunHouseModel$Cold" "batches" "I") (List.mem_cons_of_mem _ (List.mem_append_left _ (List.mem_append_left _ (List.mem_append_left _ (List.mem_append_left _ (List.mem_append_left _ (List.mem_of_getElem? (i := 3) rfl)))))))) (fun _ h9 => h9) rfl dX7_call_40 ?_
        refine lv_icmp_ge (tgt := 111) hx hb dX7_call_43 (by decide) (fun c_12 => ?_) (fun c_12 => ?_)
        · have hf := it_t hf c_12
          refine lv_iload_n hx hb dX7_call_111 rfl (lv_at hl 1 rfl) ?_
          have hf := Option.some.inj hf
          obtain ⟨q1, q2⟩ := Prod.mk.inj hf
          obtain ⟨q2, q3⟩ := Prod.mk.inj q2
          rw [q2, q3] at hP
          exact W.iret (v := x2_35) hx hb hr (fun t ht hW9 => ⟨⟨x2_35, (), rfl, q1.symm, wM.of hP hK hN ht hW9⟩, hS.F ht⟩) hS.2.2 dX7_call_112
        · have hf := it_f hf c_12
          refine lv_iload_n hx hb dX7_call_46 rfl (lv_at hl 1 rfl) ?_
          refine lv_aload_n hx hb dX7_call_47 rfl (lv_at hl 2 rfl) ?_
          obtain ⟨q_13, wq_13, heq_13⟩ := heM_0 (cy := cy) (I := I_9) (D := D) hM
          refine va_get (D := (dC, dI)) (ci := 8) (v := .ref (ad 5)) (C := RX7) (T := TX7) (N := 9) hx hb hts iX7_call_RX7 hown hK hP q_13 heq_13 rfl 3 (by decide) (hts (.fieldLink RX7 24 "OverrunHouseModel" "cold" "LOverrunHouseModel$Cold;") (List.mem_cons_of_mem _ (List.mem_append_left _ (List.mem_append_left _ (List.mem_append_left _ (List.mem_append_left _ (List.mem_append_left _ (List.mem_of_getElem? (i := 2) rfl)))))))) (fun _ h9 => h9) rfl dX7_call_48 ?_
          obtain ⟨q_14, wq_14, heq_14⟩ := heM_Cold (cy := cy) (I := I_9) (D := D) (a := a) (b := b) (cOK_5 hM)
          refine va_get (D := (dC, dI)) (ci := 6) (v := .ref (ad (5 + 4))) (C := RX5) (T := TX5) (N := 10) hx hb hts iX7_call_RX5 hown hK hP q_14 heq_14 rfl 4 (by decide) (hts (.fieldLink RX7 123 "OverrunHouseModel$Cold" "where" "[I") (List.mem_cons_of_mem _ (List.mem_append_left _ (List.mem_append_left _ (List.mem_append_left _ (List.mem_append_left _ (List.mem_append_left _ (List.mem_of_getElem? (i := 4) rfl)))))))) (fun _ h9 => h9) rfl dX7_call_51 ?_
          refine lv_iload_n hx hb dX7_call_54 rfl (lv_at hl 0 rfl) ?_
          obtain ⟨q_15, wq_15, heq_15⟩ := heM_Where (cy := cy) (I := I_9) (D := D) (a := a) (b := b) (cOK_5 hM)
          obtain ⟨h_16, hf⟩ := ck_out hf
          refine va_iald (n := 12) (f := I_9 (5 + 4)) hx hb hK hP q_15 0 heq_15 rfl (inB_in h_16) dX7_call_55 ?_
          refine lv_bipush (v := 10) hx hb dX7_call_56 (by decide) ?_
          refine lv_icmp_ne (tgt := 102) hx hb dX7_call_58 (by decide) (fun c_17 => ?_) (fun c_17 => ?_)
          · have hf := it_f hf c_17
            refine lv_iconst (v := 0) hx hb dX7_call_102 (by decide) ?_
            refine lv_iadd hx hb dX7_call_103 ?_
            refine lv_istore_n (lv' := [(2, .int (x2_35 + 0)), (3, .int x3_35), (0, .ref (ad 0)), (1, .int p1)]) hx hb dX7_call_104 rfl hl (by decide) rfl (fun ls hl => ?_)
            refine lv_iinc (v := (x3_35 + 1)) (lv' := [(3, .int (x3_35 + 1)), (2, .int (x2_35 + 0)), (0, .ref (ad 0)), (1, .int p1)]) hx hb dX7_call_105 hl (k := 1) rfl rfl (by decide) rfl (fun ls hl => ?_)
            refine lv_goto (tgt := 35) hx hb dX7_call_108 (by decide) ?_
            exact ih35 (x3_35 + 1) (x2_35 + 0) hf _ _ _ hP hS (lv_sub hl [0, 1, 2, 3] rfl)
          · have hf := it_t hf c_17
            refine lv_aload_n hx hb dX7_call_61 rfl (lv_at hl 2 rfl) ?_
            obtain ⟨q_18, wq_18, heq_18⟩ := heM_0 (cy := cy) (I := I_9) (D := D) hM
            refine va_get (D := (dC, dI)) (ci := 8) (v := .ref (ad 2)) (C := RX7) (T := TX7) (N := 9) hx hb hts iX7_call_RX7 hown hK hP q_18 heq_18 rfl 2 (by decide) (hts (.fieldLink RX7 16 "OverrunHouseModel" "mixes" "Ljava/util/List;") (List.mem_cons_of_mem _ (List.mem_append_left _ (List.mem_append_left _ (List.mem_append_left _ (List.mem_append_left _ (List.mem_append_left _ (List.mem_of_getElem? (i := 5) rfl)))))))) (fun _ h9 => h9) rfl dX7_call_62 ?_
            refine lv_aload_n hx hb dX7_call_65 rfl (lv_at hl 2 rfl) ?_
            obtain ⟨q_19, wq_19, heq_19⟩ := heM_0 (cy := cy) (I := I_9) (D := D) hM
            refine va_get (D := (dC, dI)) (ci := 8) (v := .ref (ad 5)) (C := RX7) (T := TX7) (N := 9) hx hb hts iX7_call_RX7 hown hK hP q_19 heq_19 rfl 3 (by decide) (hts (.fieldLink RX7 24 "OverrunHouseModel" "cold" "LOverrunHouseModel$Cold;") (List.mem_cons_of_mem _ (List.mem_append_left _ (List.mem_append_left _ (List.mem_append_left _ (List.mem_append_left _ (List.mem_append_left _ (List.mem_of_getElem? (i := 2) rfl)))))))) (fun _ h9 => h9) rfl dX7_call_66 ?_
            obtain ⟨q_20, wq_20, heq_20⟩ := heM_Cold (cy := cy) (I := I_9) (D := D) (a := a) (b := b) (cOK_5 hM)
            refine va_get (D := (dC, dI)) (ci := 6) (v := .ref (ad (5 + 1))) (C := RX5) (T := TX5) (N := 10) hx hb hts iX7_call_RX5 hown hK hP q_20 heq_20 rfl 1 (by decide) (hts (.fieldLink RX7 52 "OverrunHouseModel$Cold" "of" "[I") (List.mem_cons_of_mem _ (List.mem_append_left _ (List.mem_append_left _ (List.mem_append_left _ (List.mem_append_left _ (List.mem_append_left _ (List.mem_of_getElem? (i := 6) rfl)))))))) (fun _ h9 => h9) rfl dX7_call_69 ?_
            refine lv_iload_n hx hb dX7_call_72 rfl (lv_at hl 0 rfl) ?_
            obtain ⟨q_21, wq_21, heq_21⟩ := heM_Of (cy := cy) (I := I_9) (D := D) (a := a) (b := b) (cOK_5 hM)
            obtain ⟨h_22, hf⟩ := ck_out hf
            refine va_iald (n := 12) (f := I_9 (5 + 1)) hx hb hK hP q_21 0 heq_21 rfl (inB_in h_22) dX7_call_73 ?_
            obtain ⟨r_23, g_24, hf⟩ := bd_out hf
            obtain ⟨q_25, wq_25, heq_25⟩ := heM_2 (cy := cy) (I := I_9) (D := D) hM
            refine va_callFr (va_runF (As := [.int (I_9 (5 + 1) (x3_35).toNatClampNeg)]) (rest := [.int x2_35]) (hK.1 0 _ rfl).2 ⟨hx, hb, hml, hown, hts⟩ (mt_get2 l dC dI L a b ad cy hM H.size I_9 D (I_9 (5 + 1) (x3_35).toNatClampNeg) r_23 g_24) (va_cwF 1 hts gX7_call_Jx4a65c_get_915e3_f55Jx4a65c rfl rfl rfl hN.2.2.1 (by decide +kernel) ⟨Nat.le_of_ble_eq_true rfl, Nat.le_of_ble_eq_true rfl⟩) ⟨(wM.pre [.ref (ad 2), .int (I_9 (5 + 1) (x3_35).toNatClampNeg)] hP hK hN).1, wM.recv (C := RJx4a65c) (T := TJx4a65c) (N := 3) hP hK heq_25 rfl, (wM.pre [.ref (ad 2), .int (I_9 (5 + 1) (x3_35).toNatClampNeg)] hP hK hN).2⟩ rfl rfl hl.1 rfl (lv_room (Nat.le_of_ble_eq_true rfl)) dX7_call_74 ⟨Nat.le_of_ble_eq_true rfl, Nat.le_of_ble_eq_true rfl⟩) hS (fun q _ h => hA q (Nat.le_trans hS.1 h)) (fun q h => hA q (Nat.le_trans hS.1 h)) (fun u r9 t H1 locs ht hvm hw hB hz1 hk1 hS => ?_)
            subst hB
            have hP := va_Pnew hP hk1
            clear hz1 hk1 hvm ht
            generalize H1 = H at hP hS ⊢
            obtain ⟨q_26, wq_26, heq_26⟩ := heM_Mixx (cy := cy) (I := I_9) (D := D) hM (f_get2_lt g_24)
            refine va_castS hx hb hown (hts (.classLink RX7 59 "OverrunHouseModel$Mix") (List.mem_cons_of_mem _ (List.mem_append_left _ (List.mem_append_left _ (List.mem_append_left _ (List.mem_append_left _ (List.mem_append_left _ (List.mem_of_getElem? (i := 7) rfl)))))))) (hK.1 7 _ rfl).2 (wM.recv (C := RX6) (T := TX6) (N := 5) hP hK heq_26 rfl) dX7_call_79 ?_
            obtain ⟨q_27, wq_27, heq_27⟩ := heM_Mixx (cy := cy) (I := I_9) (D := D) hM (f_get2_lt g_24)
            refine va_get (D := (dC, dI)) (ci := 7) (v := .ref (ad (25 + r_23))) (C := RX6) (T := TX6) (N := 5) hx hb hts iX7_call_RX6 hown hK hP q_27 heq_27 rfl 0 (by decide) (hts (.fieldLink RX7 174 "OverrunHouseModel$Mix" "kilos" "[I") (List.mem_cons_of_mem _ (List.mem_append_left _ (List.mem_append_left _ (List.mem_append_left _ (List.mem_append_left _ (List.mem_append_left _ (List.mem_of_getElem? (i := 8) rfl)))))))) (fun _ h9 => h9) rfl dX7_call_82 ?_
            refine lv_iload_n hx hb dX7_call_85 rfl (lv_at hl 3 rfl) ?_
            obtain ⟨q_28, wq_28, heq_28⟩ := heM_Kilos (cy := cy) (I := I_9) (D := D) hM (f_get2_lt g_24)
            obtain ⟨h_29, hf⟩ := ck_out hf
            refine va_iald (n := 6) (f := I_9 (25 + r_23)) hx hb hK hP q_28 0 heq_28 rfl (inB_in h_29) dX7_call_86 ?_
            refine lv_if_le (tgt := 102) hx hb dX7_call_87 (by decide) (fun c_30 => ?_) (fun c_30 => ?_)
            · have hf := it_t hf c_30
              refine lv_iconst (v := 0) hx hb dX7_call_102 (by decide) ?_
              refine lv_iadd hx hb dX7_call_103 ?_
              refine lv_istore_n (lv' := [(2, .int (x2_35 + 0)), (3, .int x3_35), (0, .ref (ad 0)), (1, .int p1)]) hx hb dX7_call_104 rfl hl (by decide) rfl (fun ls hl => ?_)
              refine lv_iinc (v := (x3_35 + 1)) (lv' := [(3, .int (x3_35 + 1)), (2, .int (x2_35 + 0)), (0, .ref (ad 0)), (1, .int p1)]) hx hb dX7_call_105 hl (k := 1) rfl rfl (by decide) rfl (fun ls hl => ?_)
              refine lv_goto (tgt := 35) hx hb dX7_call_108 (by decide) ?_
              exact ih35 (x3_35 + 1) (x2_35 + 0) hf _ _ _ hP hS (lv_sub hl [0, 1, 2, 3] rfl)
            · have hf := it_f hf c_30
              refine lv_aload_n hx hb dX7_call_90 rfl (lv_at hl 2 rfl) ?_
              obtain ⟨q_31, wq_31, heq_31⟩ := heM_0 (cy := cy) (I := I_9) (D := D) hM
              refine va_get (D := (dC, dI)) (ci := 8) (v := .ref (ad 5)) (C := RX7) (T := TX7) (N := 9) hx hb hts iX7_call_RX7 hown hK hP q_31 heq_31 rfl 3 (by decide) (hts (.fieldLink RX7 24 "OverrunHouseModel" "cold" "LOverrunHouseModel$Cold;") (List.mem_cons_of_mem _ (List.mem_append_left _ (List.mem_append_left _ (List.mem_append_left _ (List.mem_append_left _ (List.mem_append_left _ (List.mem_of_getElem? (i := 2) rfl)))))))) (fun _ h9 => h9) rfl dX7_call_91 ?_
              obtain ⟨q_32, wq_32, heq_32⟩ := heM_Cold (cy := cy) (I := I_9) (D := D) (a := a) (b := b) (cOK_5 hM)
              refine va_get (D := (dC, dI)) (ci := 6) (v := .ref (ad (5 + 2))) (C := RX5) (T := TX5) (N := 10) hx hb hts iX7_call_RX5 hown hK hP q_32 heq_32 rfl 2 (by decide) (hts (.fieldLink RX7 120 "OverrunHouseModel$Cold" "litres" "[I") (List.mem_cons_of_mem _ (List.mem_append_left _ (List.mem_append_left _ (List.mem_append_left _ (List.mem_append_left _ (List.mem_append_left _ (List.mem_of_getElem? (i := 9) rfl)))))))) (fun _ h9 => h9) rfl dX7_call_94 ?_
              refine lv_iload_n hx hb dX7_call_97 rfl (lv_at hl 0 rfl) ?_
              obtain ⟨q_33, wq_33, heq_33⟩ := heM_Litres (cy := cy) (I := I_9) (D := D) (a := a) (b := b) (cOK_5 hM)
              obtain ⟨h_34, hf⟩ := ck_out hf
              refine va_iald (n := 12) (f := I_9 (5 + 2)) hx hb hK hP q_33 0 heq_33 rfl (inB_in h_34) dX7_call_98 ?_
              refine lv_goto (tgt := 103) hx hb dX7_call_99 (by decide) ?_
              refine lv_iadd hx hb dX7_call_103 ?_
              refine lv_istore_n (lv' := [(2, .int (x2_35 + (I_9 (5 + 2) (x3_35).toNatClampNeg))), (3, .int x3_35), (0, .ref (ad 0)), (1, .int p1)]) hx hb dX7_call_104 rfl hl (by decide) rfl (fun ls hl => ?_)
              refine lv_iinc (v := (x3_35 + 1)) (lv' := [(3, .int (x3_35 + 1)), (2, .int (x2_35 + (I_9 (5 + 2) (x3_35).toNatClampNeg))), (0, .ref (ad 0)), (1, .int p1)]) hx hb dX7_call_105 hl (k := 1) rfl rfl (by decide) rfl (fun ls hl => ?_)
              refine lv_goto (tgt := 35) hx hb dX7_call_108 (by decide) ?_
              exact ih35 (x3_35 + 1) (x2_35 + (I_9 (5 + 2) (x3_35).toNatClampNeg)) hf _ _ _ hP hS (lv_sub hl [0, 1, 2, 3] rfl)
    exact L35 200 0 0 hf _ _ _ hP hS (lv_sub hl [0, 1, 2, 3] rfl)
  · have hf := it_t hf c_6
    refine lv_aload_n hx hb dX7_call_13 rfl (lv_at hl 0 rfl) ?_
    refine lv_iconst (v := 1) hx hb dX7_call_14 (by decide) ?_
    obtain ⟨⟨r_35, I_37, D_38⟩, g_36, hf⟩ := bd_out hf
    obtain ⟨q_39, wq_39, heq_39⟩ := heM_0 (cy := cy) (I := I_2) (D := D) hM
    have hAW : ∀ q, AM L ad H.size q → A q := fun q h => h.elim (fun ⟨k, k1, k2⟩ => k2 ▸ hAL k k1) (fun h => hA q (Nat.le_trans hS.1 h))
    refine va_calli (va_runV (As := [.int 1]) (rest := []) ⟨hx, hb, hml, hown, hts⟩ (mt_X7_no l dC dI L a b ad cy hM H.size I_2 D 1 r_35 I_37 D_38 g_36) (cwV 1 hts gX7_call_X7_no rfl rfl rfl (by decide +kernel) ⟨Nat.le_of_ble_eq_true rfl, Nat.le_of_ble_eq_true rfl⟩) ⟨(wM.pre [.ref (ad 0), .int 1] hP hK hN).1, wM.recv (C := RX7) (T := TX7) (N := 9) hP hK heq_39 rfl, (wM.pre [.ref (ad 0), .int 1] hP hK hN).2⟩ rfl rfl hl.1 rfl (lv_room (Nat.le_of_ble_eq_true rfl)) dX7_call_15 ⟨Nat.le_of_ble_eq_true rfl, Nat.le_of_ble_eq_true rfl⟩) hS (fun q _ h => hAW q h) hAW (fun r9 u t H1 locs ht hvm hw hB hz1 hk1 hS => ?_)
    subst hw
    have hP : va_P (dC, dI) vwCl (iwM L a b ad cy I_37 D_38) H1 := by rw [← ht]; exact hB.1
    clear hz1 hk1 hvm ht hB
    generalize H1 = H at hP hS ⊢
    have hf := Option.some.inj hf
    obtain ⟨q1, q2⟩ := Prod.mk.inj hf
    obtain ⟨q2, q3⟩ := Prod.mk.inj q2
    rw [q2, q3] at hP
    exact W.iret (v := r_35) hx hb hr (fun t ht hW9 => ⟨⟨r_35, (), rfl, q1.symm, wM.of hP hK hN ht hW9⟩, hS.F ht⟩) hS.2.2 dX7_call_18

def f_X7_part (a b : Nat) (I : Nat → Nat → Int32) (D : Nat → Nat → UInt64) (p1 : Int32) (p2 : Int32) : Option (UInt64 × (Nat → Nat → Int32) × (Nat → Nat → UInt64)) :=
  nm (up2 I 0 0 0) (fun I_2 => bd (f_X7_isMix a b I_2 D p1) (fun r_3 => (if r_3 = 0 then bd (f_X7_no a b I_2 D 1) (fun (r_32, I_34, D_35) => some ((FP.i2d r_32), I_34, D_35)) else bd (f_X7_in p2 0 3) (fun r_7 => (if r_7 = 0 then bd (f_X7_no a b I_2 D 2) (fun (r_27, I_29, D_30) => some ((FP.i2d r_27), I_29, D_30)) else (if p2 = 3 then bd (f_get2 a b I_2 D p1) (fun r_20 => bd (f_X6_freezes a b I_2 D r_20) (fun r_24 => some (r_24, I_2, D))) else bd (f_get2 a b I_2 D p1) (fun r_12 => bd (f_X6_part a b I_2 D r_12 p2) (fun r_16 => some (r_16, I_2, D)))))))))
theorem iX7_part_RX7 : ∀ w ∈ u_ws RX7 TX7 9, w ∈ wsX7_part := fun w h => List.mem_cons_of_mem _ (List.mem_append_left _ (List.mem_append_left _ (List.mem_append_right _ (h))))
set_option maxHeartbeats 4000000 in
set_option maxRecDepth 100000 in
theorem mt_X7_part (l : Launch) (dC : Nat → ClassId) (dI : Nat → Nat → Nat) (L : List Nat) (a b : Nat) (ad : Nat → Nat) (cy : Nat → ClassId) (hM : mOK L a b ad) (sz : Nat) (I : Nat → Nat → Int32) (D : Nat → Nat → UInt64) (p1 : Int32) (p2 : Int32) (rr : UInt64) (I9 : Nat → Nat → Int32) (D9 : Nat → Nat → UInt64) (hf : f_X7_part a b I D p1 p2 = some (rr, I9, D9)) : Met l yX7_part wsX7_part ({ frames := 7, cells := 0, slots := 0, locals := 198 }) (va_Pc [.ref (ad 0), .int p1, .int p2] (fun U => U.heap.size = sz ∧ wM dC dI L a b ad cy I D U)) (va_Qd (fun r (_ : Unit) => rr = r) (fun _ t => wM dC dI L a b ad cy I9 D9 t) (AM L ad sz)) 0 0 (AM L ad sz) := by
  refine Met.ofW (cc := cX7_part) (maxL := 3) (ret := (some .double)) (by decide) rfl ?_
  intro p e s m args below meth c s₁ B hml hv
  obtain ⟨rfl, hsz, hP, hK, hN⟩ := hv
  have hx := B.exec
  have hb := B.bytes
  have hr := B.returns
  have hts := atoms_spec (ws := wsX7_part) B.pre
  have hown : s.vm.findClass RX7 = some m.cls := findClass_of_methodNamed B.named
  have hlocks := B.notSynchronized
  subst hsz
  generalize hAe : AM L ad s.heap.size = A
  have hA : ∀ q : Nat, s.heap.size ≤ q → A q := fun q h => by rw [← hAe]; exact Or.inr h
  have hAL : ∀ k, k ∈ L → A (ad k) := fun k h => by rw [← hAe]; exact Or.inl ⟨k, h, rfl⟩
  have hDD : ∀ I D, va_D A (iwM L a b ad cy I D) := fun I D => iwM_D hM hAL I D
  obtain ⟨H, hH⟩ : ∃ H : Heap, H = s.heap := ⟨_, rfl⟩
  have hS : va_S A s.heap H [] := by rw [hH]; exact va_S.rf
  rw [← hH]
  rw [← hH] at hP
  have hl := lv_entry ([.ref (ad 0), .int p1, .int p2]) (n := 3) (Nat.le_of_ble_eq_true rfl)
  rw [lg_entry_eq]
  generalize (lg_sl ([.ref (ad 0), .int p1, .int p2]) ++ List.replicate (3 - (lg_sl ([.ref (ad 0), .int p1, .int p2])).length) Slot.unset).toArray = ls at hl ⊢
  have hl : lv_has ls 3 [(0, .ref (ad 0)), (1, .int p1), (2, .int p2)] := hl
  unfold f_X7_part at hf
  refine lv_aload_n hx hb dX7_part_0 rfl (lv_at hl 0 rfl) ?_
  refine lv_iconst (v := 0) hx hb dX7_part_1 (by decide) ?_
  obtain ⟨q_1, wq_1, heq_1⟩ := heM_0 (cy := cy) (I := I) (D := D) hM
  obtain ⟨I_2, eI_2, hf⟩ := nm_out hf
  refine va_put (D := (dC, dI)) (ci := 8) (v := .int 0) (ty := .int) (C := RX7) (T := TX7) (N := 9) hx hb hts iX7_part_RX7 tyX7 tyX7_ok nmX7 hown hK hP (hDD I D) hS q_1 heq_1 rfl 0 (by decide) (hts (.fieldLink RX7 32 "OverrunHouseModel" "thrown" "I") (List.mem_cons_of_mem _ (List.mem_append_left _ (List.mem_append_left _ (List.mem_append_left _ (List.mem_append_left _ (List.mem_of_getElem? (i := 0) rfl))))))) (fun _ h9 => h9) rfl (by decide +kernel) rfl rfl (Nat.le_of_ble_eq_true rfl) dX7_part_2 (fun H locs hP _ hS => ?_)
  have hP : va_P (dC, dI) vwCl (iwM L a b ad cy I_2 D) H := by rw [eI_2]; exact hqI hM wq_1 ((cellM_0 ad cy a b _ _).trans rfl) hP
  refine lv_aload_n hx hb dX7_part_5 rfl (lv_at hl 0 rfl) ?_
  refine lv_iload_n hx hb dX7_part_6 rfl (lv_at hl 1 rfl) ?_
  obtain ⟨r_3, g_4, hf⟩ := bd_out hf
  obtain ⟨q_5, wq_5, heq_5⟩ := heM_0 (cy := cy) (I := I_2) (D := D) hM
  refine va_calli (va_runV (As := [.int p1]) (rest := []) ⟨hx, hb, hml, hown, hts⟩ (mt_X7_isMix l dC dI L a b ad cy hM H.size I_2 D p1 r_3 g_4) (cwV 1 hts gX7_part_X7_isMix rfl rfl rfl (by decide +kernel) ⟨Nat.le_of_ble_eq_true rfl, Nat.le_of_ble_eq_true rfl⟩) ⟨(wM.pre [.ref (ad 0), .int p1] hP hK hN).1, wM.recv (C := RX7) (T := TX7) (N := 9) hP hK heq_5 rfl, (wM.pre [.ref (ad 0), .int p1] hP hK hN).2⟩ rfl rfl hl.1 rfl (lv_room (Nat.le_of_ble_eq_true rfl)) dX7_part_7 ⟨Nat.le_of_ble_eq_true rfl, Nat.le_of_ble_eq_true rfl⟩) hS (fun q _ h => hA q (Nat.le_trans hS.1 h)) (fun q h => hA q (Nat.le_trans hS.1 h)) (fun r9 u t H1 locs ht hvm hw hB hz1 hk1 hS => ?_)
  subst hw
  have hP := va_Pnew hP hk1
  clear hz1 hk1 hvm ht hB
  generalize H1 = H at hP hS ⊢
  refine lv_if_ne (tgt := 20) hx hb dX7_part_10 (by decide) (fun c_6 => ?_) (fun c_6 => ?_)
  · have hf := it_f hf c_6
    refine lv_iload_n hx hb dX7_part_20 rfl (lv_at hl 2 rfl) ?_
    refine lv_iconst (v := 0) hx hb dX7_part_21 (by decide) ?_
    refine lv_iconst (v := 3) hx hb dX7_part_22 (by decide) ?_
    obtain ⟨r_7, g_8, hf⟩ := bd_out hf
    refine va_calli (va_runS (As := [.int p2, .int 0, .int 3]) (rest := []) ⟨hx, hb, hml, hown, hts⟩ (mt_X7_in l H.size p2 0 3 r_7 g_8) (va_cwS 3 hts gX7_part_X7_in rfl rfl rfl (by decide +kernel) ⟨Nat.le_of_ble_eq_true rfl, Nat.le_of_ble_eq_true rfl⟩) (pre0 [.int p2, .int 0, .int 3]) rfl rfl hl.1 rfl (lv_room (Nat.le_of_ble_eq_true rfl)) dX7_part_23 ⟨Nat.le_of_ble_eq_true rfl, Nat.le_of_ble_eq_true rfl⟩) hS (fun q _ h => hA q (Nat.le_trans hS.1 h)) (fun q h => hA q (Nat.le_trans hS.1 h)) (fun r9 u t H1 locs ht hvm hw hB hz1 hk1 hS => ?_)
    subst hw
    have hP := va_Pnew hP hk1
    clear hz1 hk1 hvm ht hB
    generalize H1 = H at hP hS ⊢
    refine lv_if_ne (tgt := 36) hx hb dX7_part_26 (by decide) (fun c_9 => ?_) (fun c_9 => ?_)
    · have hf := it_f hf c_9
      refine lv_iload_n hx hb dX7_part_36 rfl (lv_at hl 2 rfl) ?_
      refine lv_iconst (v := 3) hx hb dX7_part_37 (by decide) ?_
      refine lv_icmp_ne (tgt := 60) hx hb dX7_part_38 (by decide) (fun c_10 => ?_) (fun c_10 => ?_)
      · have hf := it_f hf c_10
        refine lv_aload_n hx hb dX7_part_60 rfl (lv_at hl 0 rfl) ?_
        obtain ⟨q_11, wq_11, heq_11⟩ := heM_0 (cy := cy) (I := I_2) (D := D) hM
        refine va_get (D := (dC, dI)) (ci := 8) (v := .ref (ad 2)) (C := RX7) (T := TX7) (N := 9) hx hb hts iX7_part_RX7 hown hK hP q_11 heq_11 rfl 2 (by decide) (hts (.fieldLink RX7 16 "OverrunHouseModel" "mixes" "Ljava/util/List;") (List.mem_cons_of_mem _ (List.mem_append_left _ (List.mem_append_left _ (List.mem_append_left _ (List.mem_append_left _ (List.mem_of_getElem? (i := 1) rfl))))))) (fun _ h9 => h9) rfl dX7_part_61 ?_
        refine lv_iload_n hx hb dX7_part_64 rfl (lv_at hl 1 rfl) ?_
        obtain ⟨r_12, g_13, hf⟩ := bd_out hf
        obtain ⟨q_14, wq_14, heq_14⟩ := heM_2 (cy := cy) (I := I_2) (D := D) hM
        refine va_callFr (va_runF (As := [.int p1]) (rest := []) (hK.1 0 _ rfl).2 ⟨hx, hb, hml, hown, hts⟩ (mt_get2 l dC dI L a b ad cy hM H.size I_2 D p1 r_12 g_13) (va_cwF 1 hts gX7_part_Jx4a65c_get_915e3_f55Jx4a65c rfl rfl rfl hN.2.2.1 (by decide +kernel) ⟨Nat.le_of_ble_eq_true rfl, Nat.le_of_ble_eq_true rfl⟩) ⟨(wM.pre [.ref (ad 2), .int p1] hP hK hN).1, wM.recv (C := RJx4a65c) (T := TJx4a65c) (N := 3) hP hK heq_14 rfl, (wM.pre [.ref (ad 2), .int p1] hP hK hN).2⟩ rfl rfl hl.1 rfl (lv_room (Nat.le_of_ble_eq_true rfl)) dX7_part_65 ⟨Nat.le_of_ble_eq_true rfl, Nat.le_of_ble_eq_true rfl⟩) hS (fun q _ h => hA q (Nat.le_trans hS.1 h)) (fun q h => hA q (Nat.le_trans hS.1 h)) (fun u r9 t H1 locs ht hvm hw hB hz1 hk1 hS => ?_)
        subst hB
        have hP := va_Pnew hP hk1
        clear hz1 hk1 hvm ht
        generalize H1 = H at hP hS ⊢
        obtain ⟨q_15, wq_15, heq_15⟩ := heM_Mixx (cy := cy) (I := I_2) (D := D) hM (f_get2_lt g_13)
        refine va_castS hx hb hown (hts (.classLink RX7 59 "OverrunHouseModel$Mix") (List.mem_cons_of_mem _ (List.mem_append_left _ (List.mem_append_left _ (List.mem_append_left _ (List.mem_append_left _ (List.mem_of_getElem? (i := 2) rfl))))))) (hK.1 7 _ rfl).2 (wM.recv (C := RX6) (T := TX6) (N := 5) hP hK heq_15 rfl) dX7_part_70 ?_
        refine lv_iload_n hx hb dX7_part_73 rfl (lv_at hl 2 rfl) ?_
        obtain ⟨r_16, g_17, hf⟩ := bd_out hf
        obtain ⟨q_18, wq_18, heq_18⟩ := heM_Mixx (cy := cy) (I := I_2) (D := D) hM (f_get2_lt g_13)
        refine va_calld (va_runV (As := [.int p2]) (rest := []) ⟨hx, hb, hml, hown, hts⟩ (mt_X6_part l dC dI L a b ad cy hM H.size I_2 D r_12 (f_get2_lt g_13) p2 r_16 g_17) (cwV 1 hts gX7_part_X6_part rfl rfl rfl (by decide +kernel) ⟨Nat.le_of_ble_eq_true rfl, Nat.le_of_ble_eq_true rfl⟩) ⟨(wM.pre [.ref (ad (20 + r_12)), .int p2] hP hK hN).1, wM.recv (C := RX6) (T := TX6) (N := 5) hP hK heq_18 rfl, (wM.pre [.ref (ad (20 + r_12)), .int p2] hP hK hN).2⟩ rfl rfl hl.1 rfl (lv_room (Nat.le_of_ble_eq_true rfl)) dX7_part_74 ⟨Nat.le_of_ble_eq_true rfl, Nat.le_of_ble_eq_true rfl⟩) hS (fun q _ h => hA q (Nat.le_trans hS.1 h)) (fun q h => hA q (Nat.le_trans hS.1 h)) (fun r9 u t H1 locs ht hvm hw hB hz1 hk1 hS => ?_)
        subst hw
        have hP := va_Pnew hP hk1
        clear hz1 hk1 hvm ht hB
        generalize H1 = H at hP hS ⊢
        have hf := Option.some.inj hf
        obtain ⟨q1, q2⟩ := Prod.mk.inj hf
        obtain ⟨q2, q3⟩ := Prod.mk.inj q2
        rw [q2, q3] at hP
        exact W.dret (v := r_16) hx hb hr (fun t ht hW9 => ⟨⟨r_16, (), rfl, q1.symm, wM.of hP hK hN ht hW9⟩, hS.F ht⟩) hS.2.2 dX7_part_77
      · have hf := it_t hf c_10
        refine lv_aload_n hx hb dX7_part_41 rfl (lv_at hl 0 rfl) ?_
        obtain ⟨q_19, wq_19, heq_19⟩ := heM_0 (cy := cy) (I := I_2) (D := D) hM
        refine va_get (D := (dC, dI)) (ci := 8) (v := .ref (ad 2)) (C := RX7) (T := TX7) (N := 9) hx hb hts iX7_part_RX7 hown hK hP q_19 heq_19 rfl 2 (by decide) (hts (.fieldLink RX7 16 "OverrunHouseModel" "mixes" "Ljava/util/List;") (List.mem_cons_of_mem _ (List.mem_append_left _ (List.mem_append_left _ (List.mem_append_left _ (List.mem_append_left _ (List.mem_of_getElem? (i := 1) rfl))))))) (fun _ h9 => h9) rfl dX7_part_42 ?_
        refine lv_iload_n hx hb dX7_part_45 rfl (lv_at hl 1 rfl) ?_
        obtain ⟨r_20, g_21, hf⟩ := bd_out hf
        obtain ⟨q_22, wq_22, heq_22⟩ := heM_2 (cy := cy) (I := I_2) (D := D) hM
        refine va_callFr (va_runF (As := [.int p1]) (rest := []) (hK.1 0 _ rfl).2 ⟨hx, hb, hml, hown, hts⟩ (mt_get2 l dC dI L a b ad cy hM H.size I_2 D p1 r_20 g_21) (va_cwF 1 hts gX7_part_Jx4a65c_get_915e3_f55Jx4a65c rfl rfl rfl hN.2.2.1 (by decide +kernel) ⟨Nat.le_of_ble_eq_true rfl, Nat.le_of_ble_eq_true rfl⟩) ⟨(wM.pre [.ref (ad 2), .int p1] hP hK hN).1, wM.recv (C := RJx4a65c) (T := TJx4a65c) (N := 3) hP hK heq_22 rfl, (wM.pre [.ref (ad 2), .int p1] hP hK hN).2⟩ rfl rfl hl.1 rfl (lv_room (Nat.le_of_ble_eq_true rfl)) dX7_part_46 ⟨Nat.le_of_ble_eq_true rfl, Nat.le_of_ble_eq_true rfl⟩) hS (fun q _ h => hA q (Nat.le_trans hS.1 h)) (fun q h => hA q (Nat.le_trans hS.1 h)) (fun u r9 t H1 locs ht hvm hw hB hz1 hk1 hS => ?_)
        subst hB
        have hP := va_Pnew hP hk1
        clear hz1 hk1 hvm ht
        generalize H1 = H at hP hS ⊢
        obtain ⟨q_23, wq_23, heq_23⟩ := heM_Mixx (cy := cy) (I := I_2) (D := D) hM (f_get2_lt g_21)
        refine va_castS hx hb hown (hts (.classLink RX7 59 "OverrunHouseModel$Mix") (List.mem_cons_of_mem _ (List.mem_append_left _ (List.mem_append_left _ (List.mem_append_left _ (List.mem_append_left _ (List.mem_of_getElem? (i := 2) rfl))))))) (hK.1 7 _ rfl).2 (wM.recv (C := RX6) (T := TX6) (N := 5) hP hK heq_23 rfl) dX7_part_51 ?_
        obtain ⟨r_24, g_25, hf⟩ := bd_out hf
        obtain ⟨q_26, wq_26, heq_26⟩ := heM_Mixx (cy := cy) (I := I_2) (D := D) hM (f_get2_lt g_21)
        refine va_calld (va_runV (As := []) (rest := []) ⟨hx, hb, hml, hown, hts⟩ (mt_X6_freezes l dC dI L a b ad cy hM H.size I_2 D r_20 (f_get2_lt g_21) r_24 g_25) (cwV 0 hts gX7_part_X6_freezes rfl rfl rfl (by decide +kernel) ⟨Nat.le_of_ble_eq_true rfl, Nat.le_of_ble_eq_true rfl⟩) ⟨(wM.pre [.ref (ad (20 + r_20))] hP hK hN).1, wM.recv (C := RX6) (T := TX6) (N := 5) hP hK heq_26 rfl, (wM.pre [.ref (ad (20 + r_20))] hP hK hN).2⟩ rfl rfl hl.1 rfl (lv_room (Nat.le_of_ble_eq_true rfl)) dX7_part_54 ⟨Nat.le_of_ble_eq_true rfl, Nat.le_of_ble_eq_true rfl⟩) hS (fun q _ h => hA q (Nat.le_trans hS.1 h)) (fun q h => hA q (Nat.le_trans hS.1 h)) (fun r9 u t H1 locs ht hvm hw hB hz1 hk1 hS => ?_)
        subst hw
        have hP := va_Pnew hP hk1
        clear hz1 hk1 hvm ht hB
        generalize H1 = H at hP hS ⊢
        refine lv_goto (tgt := 77) hx hb dX7_part_57 (by decide) ?_
        have hf := Option.some.inj hf
        obtain ⟨q1, q2⟩ := Prod.mk.inj hf
        obtain ⟨q2, q3⟩ := Prod.mk.inj q2
        rw [q2, q3] at hP
        exact W.dret (v := r_24) hx hb hr (fun t ht hW9 => ⟨⟨r_24, (), rfl, q1.symm, wM.of hP hK hN ht hW9⟩, hS.F ht⟩) hS.2.2 dX7_part_77
    · have hf := it_t hf c_9
      refine lv_aload_n hx hb dX7_part_29 rfl (lv_at hl 0 rfl) ?_
      refine lv_iconst (v := 2) hx hb dX7_part_30 (by decide) ?_
      obtain ⟨⟨r_27, I_29, D_30⟩, g_28, hf⟩ := bd_out hf
      obtain ⟨q_31, wq_31, heq_31⟩ := heM_0 (cy := cy) (I := I_2) (D := D) hM
      have hAW : ∀ q, AM L ad H.size q → A q := fun q h => h.elim (fun ⟨k, k1, k2⟩ => k2 ▸ hAL k k1) (fun h => hA q (Nat.le_trans hS.1 h))
      refine va_calli (va_runV (As := [.int 2]) (rest := []) ⟨hx, hb, hml, hown, hts⟩ (mt_X7_no l dC dI L a b ad cy hM H.size I_2 D 2 r_27 I_29 D_30 g_28) (cwV 1 hts gX7_part_X7_no rfl rfl rfl (by decide +kernel) ⟨Nat.le_of_ble_eq_true rfl, Nat.le_of_ble_eq_true rfl⟩) ⟨(wM.pre [.ref (ad 0), .int 2] hP hK hN).1, wM.recv (C := RX7) (T := TX7) (N := 9) hP hK heq_31 rfl, (wM.pre [.ref (ad 0), .int 2] hP hK hN).2⟩ rfl rfl hl.1 rfl (lv_room (Nat.le_of_ble_eq_true rfl)) dX7_part_31 ⟨Nat.le_of_ble_eq_true rfl, Nat.le_of_ble_eq_true rfl⟩) hS (fun q _ h => hAW q h) hAW (fun r9 u t H1 locs ht hvm hw hB hz1 hk1 hS => ?_)
      subst hw
      have hP : va_P (dC, dI) vwCl (iwM L a b ad cy I_29 D_30) H1 := by rw [← ht]; exact hB.1
      clear hz1 hk1 hvm ht hB
      generalize H1 = H at hP hS ⊢
      refine lv_i2d hx hb dX7_part_34 ?_
      have hf := Option.some.inj hf
      obtain ⟨q1, q2⟩ := Prod.mk.inj hf
      obtain ⟨q2, q3⟩ := Prod.mk.inj q2
      rw [q2, q3] at hP
      exact W.dret (v := (FP.i2d r_27)) hx hb hr (fun t ht hW9 => ⟨⟨(FP.i2d r_27), (), rfl, q1.symm, wM.of hP hK hN ht hW9⟩, hS.F ht⟩) hS.2.2 dX7_part_35
  · have hf := it_t hf c_6
    refine lv_aload_n hx hb dX7_part_13 rfl (lv_at hl 0 rfl) ?_
    refine lv_iconst (v := 1) hx hb dX7_part_14 (by decide) ?_
    obtain ⟨⟨r_32, I_34, D_35⟩, g_33, hf⟩ := bd_out hf
    obtain ⟨q_36, wq_36, heq_36⟩ := heM_0 (cy := cy) (I := I_2) (D := D) hM
    have hAW : ∀ q, AM L ad H.size q → A q := fun q h => h.elim (fun ⟨k, k1, k2⟩ => k2 ▸ hAL k k1) (fun h => hA q (Nat.le_trans hS.1 h))
    refine va_calli (va_runV (As := [.int 1]) (rest := []) ⟨hx, hb, hml, hown, hts⟩ (mt_X7_no l dC dI L a b ad cy hM H.size I_2 D 1 r_32 I_34 D_35 g_33) (cwV 1 hts gX7_part_X7_no rfl rfl rfl (by decide +kernel) ⟨Nat.le_of_ble_eq_true rfl, Nat.le_of_ble_eq_true rfl⟩) ⟨(wM.pre [.ref (ad 0), .int 1] hP hK hN).1, wM.recv (C := RX7) (T := TX7) (N := 9) hP hK heq_36 rfl, (wM.pre [.ref (ad 0), .int 1] hP hK hN).2⟩ rfl rfl hl.1 rfl (lv_room (Nat.le_of_ble_eq_true rfl)) dX7_part_15 ⟨Nat.le_of_ble_eq_true rfl, Nat.le_of_ble_eq_true rfl⟩) hS (fun q _ h => hAW q h) hAW (fun r9 u t H1 locs ht hvm hw hB hz1 hk1 hS => ?_)
    subst hw
    have hP : va_P (dC, dI) vwCl (iwM L a b ad cy I_34 D_35) H1 := by rw [← ht]; exact hB.1
    clear hz1 hk1 hvm ht hB
    generalize H1 = H at hP hS ⊢
    refine lv_i2d hx hb dX7_part_18 ?_
    have hf := Option.some.inj hf
    obtain ⟨q1, q2⟩ := Prod.mk.inj hf
    obtain ⟨q2, q3⟩ := Prod.mk.inj q2
    rw [q2, q3] at hP
    exact W.dret (v := (FP.i2d r_32)) hx hb hr (fun t ht hW9 => ⟨⟨(FP.i2d r_32), (), rfl, q1.symm, wM.of hP hK hN ht hW9⟩, hS.F ht⟩) hS.2.2 dX7_part_19

def f_X7_ice (a b : Nat) (I : Nat → Nat → Int32) (D : Nat → Nat → UInt64) (p1 : Int32) (p2 : Int32) : Option (UInt64 × (Nat → Nat → Int32) × (Nat → Nat → UInt64)) :=
  nm (up2 I 0 0 0) (fun I_2 => bd (f_X7_isMix a b I_2 D p1) (fun r_3 => (if r_3 = 0 then bd (f_X7_no a b I_2 D 1) (fun (r_23, I_25, D_26) => some ((FP.i2d r_23), I_25, D_26)) else bd (f_X7_in p2 (-40) 20) (fun r_7 => (if r_7 = 0 then bd (f_X7_no a b I_2 D 2) (fun (r_18, I_20, D_21) => some ((FP.i2d r_18), I_20, D_21)) else bd (f_get2 a b I_2 D p1) (fun r_11 => bd (f_X6_ice a b I_2 D r_11 (FP.i2d p2)) (fun r_15 => some (r_15, I_2, D))))))))
theorem iX7_ice_RX7 : ∀ w ∈ u_ws RX7 TX7 9, w ∈ wsX7_ice := fun w h => List.mem_cons_of_mem _ (List.mem_append_left _ (List.mem_append_left _ (List.mem_append_right _ (h))))
set_option maxHeartbeats 4000000 in
set_option maxRecDepth 100000 in
theorem mt_X7_ice (l : Launch) (dC : Nat → ClassId) (dI : Nat → Nat → Nat) (L : List Nat) (a b : Nat) (ad : Nat → Nat) (cy : Nat → ClassId) (hM : mOK L a b ad) (sz : Nat) (I : Nat → Nat → Int32) (D : Nat → Nat → UInt64) (p1 : Int32) (p2 : Int32) (rr : UInt64) (I9 : Nat → Nat → Int32) (D9 : Nat → Nat → UInt64) (hf : f_X7_ice a b I D p1 p2 = some (rr, I9, D9)) : Met l yX7_ice wsX7_ice ({ frames := 8, cells := 0, slots := 0, locals := 222 }) (va_Pc [.ref (ad 0), .int p1, .int p2] (fun U => U.heap.size = sz ∧ wM dC dI L a b ad cy I D U)) (va_Qd (fun r (_ : Unit) => rr = r) (fun _ t => wM dC dI L a b ad cy I9 D9 t) (AM L ad sz)) 0 0 (AM L ad sz) := by
  refine Met.ofW (cc := cX7_ice) (maxL := 3) (ret := (some .double)) (by decide) rfl ?_
  intro p e s m args below meth c s₁ B hml hv
  obtain ⟨rfl, hsz, hP, hK, hN⟩ := hv
  have hx := B.exec
  have hb := B.bytes
  have hr := B.returns
  have hts := atoms_spec (ws := wsX7_ice) B.pre
  have hown : s.vm.findClass RX7 = some m.cls := findClass_of_methodNamed B.named
  have hlocks := B.notSynchronized
  subst hsz
  generalize hAe : AM L ad s.heap.size = A
  have hA : ∀ q : Nat, s.heap.size ≤ q → A q := fun q h => by rw [← hAe]; exact Or.inr h
  have hAL : ∀ k, k ∈ L → A (ad k) := fun k h => by rw [← hAe]; exact Or.inl ⟨k, h, rfl⟩
  have hDD : ∀ I D, va_D A (iwM L a b ad cy I D) := fun I D => iwM_D hM hAL I D
  obtain ⟨H, hH⟩ : ∃ H : Heap, H = s.heap := ⟨_, rfl⟩
  have hS : va_S A s.heap H [] := by rw [hH]; exact va_S.rf
  rw [← hH]
  rw [← hH] at hP
  have hl := lv_entry ([.ref (ad 0), .int p1, .int p2]) (n := 3) (Nat.le_of_ble_eq_true rfl)
  rw [lg_entry_eq]
  generalize (lg_sl ([.ref (ad 0), .int p1, .int p2]) ++ List.replicate (3 - (lg_sl ([.ref (ad 0), .int p1, .int p2])).length) Slot.unset).toArray = ls at hl ⊢
  have hl : lv_has ls 3 [(0, .ref (ad 0)), (1, .int p1), (2, .int p2)] := hl
  unfold f_X7_ice at hf
  refine lv_aload_n hx hb dX7_ice_0 rfl (lv_at hl 0 rfl) ?_
  refine lv_iconst (v := 0) hx hb dX7_ice_1 (by decide) ?_
  obtain ⟨q_1, wq_1, heq_1⟩ := heM_0 (cy := cy) (I := I) (D := D) hM
  obtain ⟨I_2, eI_2, hf⟩ := nm_out hf
  refine va_put (D := (dC, dI)) (ci := 8) (v := .int 0) (ty := .int) (C := RX7) (T := TX7) (N := 9) hx hb hts iX7_ice_RX7 tyX7 tyX7_ok nmX7 hown hK hP (hDD I D) hS q_1 heq_1 rfl 0 (by decide) (hts (.fieldLink RX7 32 "OverrunHouseModel" "thrown" "I") (List.mem_cons_of_mem _ (List.mem_append_left _ (List.mem_append_left _ (List.mem_append_left _ (List.mem_append_left _ (List.mem_of_getElem? (i := 0) rfl))))))) (fun _ h9 => h9) rfl (by decide +kernel) rfl rfl (Nat.le_of_ble_eq_true rfl) dX7_ice_2 (fun H locs hP _ hS => ?_)
  have hP : va_P (dC, dI) vwCl (iwM L a b ad cy I_2 D) H := by rw [eI_2]; exact hqI hM wq_1 ((cellM_0 ad cy a b _ _).trans rfl) hP
  refine lv_aload_n hx hb dX7_ice_5 rfl (lv_at hl 0 rfl) ?_
  refine lv_iload_n hx hb dX7_ice_6 rfl (lv_at hl 1 rfl) ?_
  obtain ⟨r_3, g_4, hf⟩ := bd_out hf
  obtain ⟨q_5, wq_5, heq_5⟩ := heM_0 (cy := cy) (I := I_2) (D := D) hM
  refine va_calli (va_runV (As := [.int p1]) (rest := []) ⟨hx, hb, hml, hown, hts⟩ (mt_X7_isMix l dC dI L a b ad cy hM H.size I_2 D p1 r_3 g_4) (cwV 1 hts gX7_ice_X7_isMix rfl rfl rfl (by decide +kernel) ⟨Nat.le_of_ble_eq_true rfl, Nat.le_of_ble_eq_true rfl⟩) ⟨(wM.pre [.ref (ad 0), .int p1] hP hK hN).1, wM.recv (C := RX7) (T := TX7) (N := 9) hP hK heq_5 rfl, (wM.pre [.ref (ad 0), .int p1] hP hK hN).2⟩ rfl rfl hl.1 rfl (lv_room (Nat.le_of_ble_eq_true rfl)) dX7_ice_7 ⟨Nat.le_of_ble_eq_true rfl, Nat.le_of_ble_eq_true rfl⟩) hS (fun q _ h => hA q (Nat.le_trans hS.1 h)) (fun q h => hA q (Nat.le_trans hS.1 h)) (fun r9 u t H1 locs ht hvm hw hB hz1 hk1 hS => ?_)
  subst hw
  have hP := va_Pnew hP hk1
  clear hz1 hk1 hvm ht hB
  generalize H1 = H at hP hS ⊢
  refine lv_if_ne (tgt := 20) hx hb dX7_ice_10 (by decide) (fun c_6 => ?_) (fun c_6 => ?_)
  · have hf := it_f hf c_6
    refine lv_iload_n hx hb dX7_ice_20 rfl (lv_at hl 2 rfl) ?_
    refine lv_bipush (v := (-40)) hx hb dX7_ice_21 (by decide) ?_
    refine lv_bipush (v := 20) hx hb dX7_ice_23 (by decide) ?_
    obtain ⟨r_7, g_8, hf⟩ := bd_out hf
    refine va_calli (va_runS (As := [.int p2, .int (-40), .int 20]) (rest := []) ⟨hx, hb, hml, hown, hts⟩ (mt_X7_in l H.size p2 (-40) 20 r_7 g_8) (va_cwS 3 hts gX7_ice_X7_in rfl rfl rfl (by decide +kernel) ⟨Nat.le_of_ble_eq_true rfl, Nat.le_of_ble_eq_true rfl⟩) (pre0 [.int p2, .int (-40), .int 20]) rfl rfl hl.1 rfl (lv_room (Nat.le_of_ble_eq_true rfl)) dX7_ice_25 ⟨Nat.le_of_ble_eq_true rfl, Nat.le_of_ble_eq_true rfl⟩) hS (fun q _ h => hA q (Nat.le_trans hS.1 h)) (fun q h => hA q (Nat.le_trans hS.1 h)) (fun r9 u t H1 locs ht hvm hw hB hz1 hk1 hS => ?_)
    subst hw
    have hP := va_Pnew hP hk1
    clear hz1 hk1 hvm ht hB
    generalize H1 = H at hP hS ⊢
    refine lv_if_ne (tgt := 38) hx hb dX7_ice_28 (by decide) (fun c_9 => ?_) (fun c_9 => ?_)
    · have hf := it_f hf c_9
      refine lv_aload_n hx hb dX7_ice_38 rfl (lv_at hl 0 rfl) ?_
      obtain ⟨q_10, wq_10, heq_10⟩ := heM_0 (cy := cy) (I := I_2) (D := D) hM
      refine va_get (D := (dC, dI)) (ci := 8) (v := .ref (ad 2)) (C := RX7) (T := TX7) (N := 9) hx hb hts iX7_ice_RX7 hown hK hP q_10 heq_10 rfl 2 (by decide) (hts (.fieldLink RX7 16 "OverrunHouseModel" "mixes" "Ljava/util/List;") (List.mem_cons_of_mem _ (List.mem_append_left _ (List.mem_append_left _ (List.mem_append_left _ (List.mem_append_left _ (List.mem_of_getElem? (i := 1) rfl))))))) (fun _ h9 => h9) rfl dX7_ice_39 ?_
      refine lv_iload_n hx hb dX7_ice_42 rfl (lv_at hl 1 rfl) ?_
      obtain ⟨r_11, g_12, hf⟩ := bd_out hf
      obtain ⟨q_13, wq_13, heq_13⟩ := heM_2 (cy := cy) (I := I_2) (D := D) hM
      refine va_callFr (va_runF (As := [.int p1]) (rest := []) (hK.1 0 _ rfl).2 ⟨hx, hb, hml, hown, hts⟩ (mt_get2 l dC dI L a b ad cy hM H.size I_2 D p1 r_11 g_12) (va_cwF 1 hts gX7_ice_Jx4a65c_get_915e3_f55Jx4a65c rfl rfl rfl hN.2.2.1 (by decide +kernel) ⟨Nat.le_of_ble_eq_true rfl, Nat.le_of_ble_eq_true rfl⟩) ⟨(wM.pre [.ref (ad 2), .int p1] hP hK hN).1, wM.recv (C := RJx4a65c) (T := TJx4a65c) (N := 3) hP hK heq_13 rfl, (wM.pre [.ref (ad 2), .int p1] hP hK hN).2⟩ rfl rfl hl.1 rfl (lv_room (Nat.le_of_ble_eq_true rfl)) dX7_ice_43 ⟨Nat.le_of_ble_eq_true rfl, Nat.le_of_ble_eq_true rfl⟩) hS (fun q _ h => hA q (Nat.le_trans hS.1 h)) (fun q h => hA q (Nat.le_trans hS.1 h)) (fun u r9 t H1 locs ht hvm hw hB hz1 hk1 hS => ?_)
      subst hB
      have hP := va_Pnew hP hk1
      clear hz1 hk1 hvm ht
      generalize H1 = H at hP hS ⊢
      obtain ⟨q_14, wq_14, heq_14⟩ := heM_Mixx (cy := cy) (I := I_2) (D := D) hM (f_get2_lt g_12)
      refine va_castS hx hb hown (hts (.classLink RX7 59 "OverrunHouseModel$Mix") (List.mem_cons_of_mem _ (List.mem_append_left _ (List.mem_append_left _ (List.mem_append_left _ (List.mem_append_left _ (List.mem_of_getElem? (i := 2) rfl))))))) (hK.1 7 _ rfl).2 (wM.recv (C := RX6) (T := TX6) (N := 5) hP hK heq_14 rfl) dX7_ice_48 ?_
      refine lv_iload_n hx hb dX7_ice_51 rfl (lv_at hl 2 rfl) ?_
      refine lv_i2d hx hb dX7_ice_52 ?_
      obtain ⟨r_15, g_16, hf⟩ := bd_out hf
      obtain ⟨q_17, wq_17, heq_17⟩ := heM_Mixx (cy := cy) (I := I_2) (D := D) hM (f_get2_lt g_12)
      refine va_calld (va_runV (As := [.double (FP.i2d p2)]) (rest := []) ⟨hx, hb, hml, hown, hts⟩ (mt_X6_ice l dC dI L a b ad cy hM H.size I_2 D r_11 (f_get2_lt g_12) (FP.i2d p2) r_15 g_16) (cwV 1 hts gX7_ice_X6_ice rfl rfl rfl (by decide +kernel) ⟨Nat.le_of_ble_eq_true rfl, Nat.le_of_ble_eq_true rfl⟩) ⟨(wM.pre [.ref (ad (20 + r_11)), .double (FP.i2d p2)] hP hK hN).1, wM.recv (C := RX6) (T := TX6) (N := 5) hP hK heq_17 rfl, (wM.pre [.ref (ad (20 + r_11)), .double (FP.i2d p2)] hP hK hN).2⟩ rfl rfl hl.1 rfl (lv_room (Nat.le_of_ble_eq_true rfl)) dX7_ice_53 ⟨Nat.le_of_ble_eq_true rfl, Nat.le_of_ble_eq_true rfl⟩) hS (fun q _ h => hA q (Nat.le_trans hS.1 h)) (fun q h => hA q (Nat.le_trans hS.1 h)) (fun r9 u t H1 locs ht hvm hw hB hz1 hk1 hS => ?_)
      subst hw
      have hP := va_Pnew hP hk1
      clear hz1 hk1 hvm ht hB
      generalize H1 = H at hP hS ⊢
      have hf := Option.some.inj hf
      obtain ⟨q1, q2⟩ := Prod.mk.inj hf
      obtain ⟨q2, q3⟩ := Prod.mk.inj q2
      rw [q2, q3] at hP
      exact W.dret (v := r_15) hx hb hr (fun t ht hW9 => ⟨⟨r_15, (), rfl, q1.symm, wM.of hP hK hN ht hW9⟩, hS.F ht⟩) hS.2.2 dX7_ice_56
    · have hf := it_t hf c_9
      refine lv_aload_n hx hb dX7_ice_31 rfl (lv_at hl 0 rfl) ?_
      refine lv_iconst (v := 2) hx hb dX7_ice_32 (by decide) ?_
      obtain ⟨⟨r_18, I_20, D_21⟩, g_19, hf⟩ := bd_out hf
      obtain ⟨q_22, wq_22, heq_22⟩ := heM_0 (cy := cy) (I := I_2) (D := D) hM
      have hAW : ∀ q, AM L ad H.size q → A q := fun q h => h.elim (fun ⟨k, k1, k2⟩ => k2 ▸ hAL k k1) (fun h => hA q (Nat.le_trans hS.1 h))
      refine va_calli (va_runV (As := [.int 2]) (rest := []) ⟨hx, hb, hml, hown, hts⟩ (mt_X7_no l dC dI L a b ad cy hM H.size I_2 D 2 r_18 I_20 D_21 g_19) (cwV 1 hts gX7_ice_X7_no rfl rfl rfl (by decide +kernel) ⟨Nat.le_of_ble_eq_true rfl, Nat.le_of_ble_eq_true rfl⟩) ⟨(wM.pre [.ref (ad 0), .int 2] hP hK hN).1, wM.recv (C := RX7) (T := TX7) (N := 9) hP hK heq_22 rfl, (wM.pre [.ref (ad 0), .int 2] hP hK hN).2⟩ rfl rfl hl.1 rfl (lv_room (Nat.le_of_ble_eq_true rfl)) dX7_ice_33 ⟨Nat.le_of_ble_eq_true rfl, Nat.le_of_ble_eq_true rfl⟩) hS (fun q _ h => hAW q h) hAW (fun r9 u t H1 locs ht hvm hw hB hz1 hk1 hS => ?_)
      subst hw
      have hP : va_P (dC, dI) vwCl (iwM L a b ad cy I_20 D_21) H1 := by rw [← ht]; exact hB.1
      clear hz1 hk1 hvm ht hB
      generalize H1 = H at hP hS ⊢
      refine lv_i2d hx hb dX7_ice_36 ?_
      have hf := Option.some.inj hf
      obtain ⟨q1, q2⟩ := Prod.mk.inj hf
      obtain ⟨q2, q3⟩ := Prod.mk.inj q2
      rw [q2, q3] at hP
      exact W.dret (v := (FP.i2d r_18)) hx hb hr (fun t ht hW9 => ⟨⟨(FP.i2d r_18), (), rfl, q1.symm, wM.of hP hK hN ht hW9⟩, hS.F ht⟩) hS.2.2 dX7_ice_37
  · have hf := it_t hf c_6
    refine lv_aload_n hx hb dX7_ice_13 rfl (lv_at hl 0 rfl) ?_
    refine lv_iconst (v := 1) hx hb dX7_ice_14 (by decide) ?_
    obtain ⟨⟨r_23, I_25, D_26⟩, g_24, hf⟩ := bd_out hf
    obtain ⟨q_27, wq_27, heq_27⟩ := heM_0 (cy := cy) (I := I_2) (D := D) hM
    have hAW : ∀ q, AM L ad H.size q → A q := fun q h => h.elim (fun ⟨k, k1, k2⟩ => k2 ▸ hAL k k1) (fun h => hA q (Nat.le_trans hS.1 h))
    refine va_calli (va_runV (As := [.int 1]) (rest := []) ⟨hx, hb, hml, hown, hts⟩ (mt_X7_no l dC dI L a b ad cy hM H.size I_2 D 1 r_23 I_25 D_26 g_24) (cwV 1 hts gX7_ice_X7_no rfl rfl rfl (by decide +kernel) ⟨Nat.le_of_ble_eq_true rfl, Nat.le_of_ble_eq_true rfl⟩) ⟨(wM.pre [.ref (ad 0), .int 1] hP hK hN).1, wM.recv (C := RX7) (T := TX7) (N := 9) hP hK heq_27 rfl, (wM.pre [.ref (ad 0), .int 1] hP hK hN).2⟩ rfl rfl hl.1 rfl (lv_room (Nat.le_of_ble_eq_true rfl)) dX7_ice_15 ⟨Nat.le_of_ble_eq_true rfl, Nat.le_of_ble_eq_true rfl⟩) hS (fun q _ h => hAW q h) hAW (fun r9 u t H1 locs ht hvm hw hB hz1 hk1 hS => ?_)
    subst hw
    have hP : va_P (dC, dI) vwCl (iwM L a b ad cy I_25 D_26) H1 := by rw [← ht]; exact hB.1
    clear hz1 hk1 hvm ht hB
    generalize H1 = H at hP hS ⊢
    refine lv_i2d hx hb dX7_ice_18 ?_
    have hf := Option.some.inj hf
    obtain ⟨q1, q2⟩ := Prod.mk.inj hf
    obtain ⟨q2, q3⟩ := Prod.mk.inj q2
    rw [q2, q3] at hP
    exact W.dret (v := (FP.i2d r_23)) hx hb hr (fun t ht hW9 => ⟨⟨(FP.i2d r_23), (), rfl, q1.symm, wM.of hP hK hN ht hW9⟩, hS.F ht⟩) hS.2.2 dX7_ice_19

def f_X7_bars (a b : Nat) (I : Nat → Nat → Int32) (D : Nat → Nat → UInt64) (p1 : Int32) (p2 : Int32) (p3 : Int32) (p4 : Int32) : Option (Int32 × (Nat → Nat → Int32) × (Nat → Nat → UInt64)) :=
  bd (f_X7_canAsk a b I D p1 p2 p3 p4) (fun (r_1, I_3, D_4) => (if r_1 = 0 then some (0, I_3, D_4) else bd (f_get2 a b I_3 D_4 p2) (fun r_8 => bd (f_X7_barsNow a b I_3 D_4 p1 r_8 p3 p4) (fun r_12 => some (r_12, I_3, D_4)))))
theorem iX7_bars_RX7 : ∀ w ∈ u_ws RX7 TX7 9, w ∈ wsX7_bars := fun w h => List.mem_cons_of_mem _ (List.mem_append_left _ (List.mem_append_left _ (List.mem_append_left _ (List.mem_append_right _ (h)))))
set_option maxHeartbeats 4000000 in
set_option maxRecDepth 100000 in
theorem mt_X7_bars (l : Launch) (dC : Nat → ClassId) (dI : Nat → Nat → Nat) (L : List Nat) (a b : Nat) (ad : Nat → Nat) (cy : Nat → ClassId) (hM : mOK L a b ad) (sz : Nat) (I : Nat → Nat → Int32) (D : Nat → Nat → UInt64) (p1 : Int32) (p2 : Int32) (p3 : Int32) (p4 : Int32) (rr : Int32) (I9 : Nat → Nat → Int32) (D9 : Nat → Nat → UInt64) (hf : f_X7_bars a b I D p1 p2 p3 p4 = some (rr, I9, D9)) : Met l yX7_bars wsX7_bars ({ frames := 8, cells := 0, slots := 0, locals := 222 }) (va_Pc [.ref (ad 0), .int p1, .int p2, .int p3, .int p4] (fun U => U.heap.size = sz ∧ wM dC dI L a b ad cy I D U)) (va_Qi (fun r (_ : Unit) => rr = r) (fun _ t => wM dC dI L a b ad cy I9 D9 t) (AM L ad sz)) 0 0 (AM L ad sz) := by
  refine Met.ofW (cc := cX7_bars) (maxL := 5) (ret := (some .int)) (by decide) rfl ?_
  intro p e s m args below meth c s₁ B hml hv
  obtain ⟨rfl, hsz, hP, hK, hN⟩ := hv
  have hx := B.exec
  have hb := B.bytes
  have hr := B.returns
  have hts := atoms_spec (ws := wsX7_bars) B.pre
  have hown : s.vm.findClass RX7 = some m.cls := findClass_of_methodNamed B.named
  have hlocks := B.notSynchronized
  subst hsz
  generalize hAe : AM L ad s.heap.size = A
  have hA : ∀ q : Nat, s.heap.size ≤ q → A q := fun q h => by rw [← hAe]; exact Or.inr h
  have hAL : ∀ k, k ∈ L → A (ad k) := fun k h => by rw [← hAe]; exact Or.inl ⟨k, h, rfl⟩
  have hDD : ∀ I D, va_D A (iwM L a b ad cy I D) := fun I D => iwM_D hM hAL I D
  obtain ⟨H, hH⟩ : ∃ H : Heap, H = s.heap := ⟨_, rfl⟩
  have hS : va_S A s.heap H [] := by rw [hH]; exact va_S.rf
  rw [← hH]
  rw [← hH] at hP
  have hl := lv_entry ([.ref (ad 0), .int p1, .int p2, .int p3, .int p4]) (n := 5) (Nat.le_of_ble_eq_true rfl)
  rw [lg_entry_eq]
  generalize (lg_sl ([.ref (ad 0), .int p1, .int p2, .int p3, .int p4]) ++ List.replicate (5 - (lg_sl ([.ref (ad 0), .int p1, .int p2, .int p3, .int p4])).length) Slot.unset).toArray = ls at hl ⊢
  have hl : lv_has ls 5 [(0, .ref (ad 0)), (1, .int p1), (2, .int p2), (3, .int p3), (4, .int p4)] := hl
  unfold f_X7_bars at hf
  refine lv_aload_n hx hb dX7_bars_0 rfl (lv_at hl 0 rfl) ?_
  refine lv_iload_n hx hb dX7_bars_1 rfl (lv_at hl 1 rfl) ?_
  refine lv_iload_n hx hb dX7_bars_2 rfl (lv_at hl 2 rfl) ?_
  refine lv_iload_n hx hb dX7_bars_3 rfl (lv_at hl 3 rfl) ?_
  refine lv_iload hx hb dX7_bars_4 (lv_at hl 4 rfl) ?_
  obtain ⟨⟨r_1, I_3, D_4⟩, g_2, hf⟩ := bd_out hf
  obtain ⟨q_5, wq_5, heq_5⟩ := heM_0 (cy := cy) (I := I) (D := D) hM
  have hAW : ∀ q, AM L ad H.size q → A q := fun q h => h.elim (fun ⟨k, k1, k2⟩ => k2 ▸ hAL k k1) (fun h => hA q (Nat.le_trans hS.1 h))
  refine va_calli (va_runV (As := [.int p1, .int p2, .int p3, .int p4]) (rest := []) ⟨hx, hb, hml, hown, hts⟩ (mt_X7_canAsk l dC dI L a b ad cy hM H.size I D p1 p2 p3 p4 r_1 I_3 D_4 g_2) (cwV 4 hts gX7_bars_X7_canAsk rfl rfl rfl (by decide +kernel) ⟨Nat.le_of_ble_eq_true rfl, Nat.le_of_ble_eq_true rfl⟩) ⟨(wM.pre [.ref (ad 0), .int p1, .int p2, .int p3, .int p4] hP hK hN).1, wM.recv (C := RX7) (T := TX7) (N := 9) hP hK heq_5 rfl, (wM.pre [.ref (ad 0), .int p1, .int p2, .int p3, .int p4] hP hK hN).2⟩ rfl rfl hl.1 rfl (lv_room (Nat.le_of_ble_eq_true rfl)) dX7_bars_6 ⟨Nat.le_of_ble_eq_true rfl, Nat.le_of_ble_eq_true rfl⟩) hS (fun q _ h => hAW q h) hAW (fun r9 u t H1 locs ht hvm hw hB hz1 hk1 hS => ?_)
  subst hw
  have hP : va_P (dC, dI) vwCl (iwM L a b ad cy I_3 D_4) H1 := by rw [← ht]; exact hB.1
  clear hz1 hk1 hvm ht hB
  generalize H1 = H at hP hS ⊢
  refine lv_if_ne (tgt := 14) hx hb dX7_bars_9 (by decide) (fun c_6 => ?_) (fun c_6 => ?_)
  · have hf := it_f hf c_6
    refine lv_aload_n hx hb dX7_bars_14 rfl (lv_at hl 0 rfl) ?_
    refine lv_iload_n hx hb dX7_bars_15 rfl (lv_at hl 1 rfl) ?_
    refine lv_aload_n hx hb dX7_bars_16 rfl (lv_at hl 0 rfl) ?_
    obtain ⟨q_7, wq_7, heq_7⟩ := heM_0 (cy := cy) (I := I_3) (D := D_4) hM
    refine va_get (D := (dC, dI)) (ci := 8) (v := .ref (ad 2)) (C := RX7) (T := TX7) (N := 9) hx hb hts iX7_bars_RX7 hown hK hP q_7 heq_7 rfl 2 (by decide) (hts (.fieldLink RX7 16 "OverrunHouseModel" "mixes" "Ljava/util/List;") (List.mem_cons_of_mem _ (List.mem_append_left _ (List.mem_append_left _ (List.mem_append_left _ (List.mem_append_left _ (List.mem_append_left _ (List.mem_of_getElem? (i := 0) rfl)))))))) (fun _ h9 => h9) rfl dX7_bars_17 ?_
    refine lv_iload_n hx hb dX7_bars_20 rfl (lv_at hl 2 rfl) ?_
    obtain ⟨r_8, g_9, hf⟩ := bd_out hf
    obtain ⟨q_10, wq_10, heq_10⟩ := heM_2 (cy := cy) (I := I_3) (D := D_4) hM
    refine va_callFr (va_runF (As := [.int p2]) (rest := [.int p1, .ref (ad 0)]) (hK.1 0 _ rfl).2 ⟨hx, hb, hml, hown, hts⟩ (mt_get2 l dC dI L a b ad cy hM H.size I_3 D_4 p2 r_8 g_9) (va_cwF 1 hts gX7_bars_Jx4a65c_get_915e3_f55Jx4a65c rfl rfl rfl hN.2.2.1 (by decide +kernel) ⟨Nat.le_of_ble_eq_true rfl, Nat.le_of_ble_eq_true rfl⟩) ⟨(wM.pre [.ref (ad 2), .int p2] hP hK hN).1, wM.recv (C := RJx4a65c) (T := TJx4a65c) (N := 3) hP hK heq_10 rfl, (wM.pre [.ref (ad 2), .int p2] hP hK hN).2⟩ rfl rfl hl.1 rfl (lv_room (Nat.le_of_ble_eq_true rfl)) dX7_bars_21 ⟨Nat.le_of_ble_eq_true rfl, Nat.le_of_ble_eq_true rfl⟩) hS (fun q _ h => hA q (Nat.le_trans hS.1 h)) (fun q h => hA q (Nat.le_trans hS.1 h)) (fun u r9 t H1 locs ht hvm hw hB hz1 hk1 hS => ?_)
    subst hB
    have hP := va_Pnew hP hk1
    clear hz1 hk1 hvm ht
    generalize H1 = H at hP hS ⊢
    obtain ⟨q_11, wq_11, heq_11⟩ := heM_Mixx (cy := cy) (I := I_3) (D := D_4) hM (f_get2_lt g_9)
    refine va_castS hx hb hown (hts (.classLink RX7 59 "OverrunHouseModel$Mix") (List.mem_cons_of_mem _ (List.mem_append_left _ (List.mem_append_left _ (List.mem_append_left _ (List.mem_append_left _ (List.mem_append_left _ (List.mem_of_getElem? (i := 1) rfl)))))))) (hK.1 7 _ rfl).2 (wM.recv (C := RX6) (T := TX6) (N := 5) hP hK heq_11 rfl) dX7_bars_26 ?_
    refine lv_iload_n hx hb dX7_bars_29 rfl (lv_at hl 3 rfl) ?_
    refine lv_iload hx hb dX7_bars_30 (lv_at hl 4 rfl) ?_
    obtain ⟨r_12, g_13, hf⟩ := bd_out hf
    obtain ⟨q_14, wq_14, heq_14⟩ := heM_0 (cy := cy) (I := I_3) (D := D_4) hM
    refine va_calli (va_runV (As := [.int p1, .ref (ad (20 + r_8)), .int p3, .int p4]) (rest := []) ⟨hx, hb, hml, hown, hts⟩ (mt_X7_barsNow l dC dI L a b ad cy hM H.size I_3 D_4 p1 r_8 (f_get2_lt g_9) p3 p4 r_12 g_13) (cwV 4 hts gX7_bars_X7_barsNow rfl rfl rfl (by decide +kernel) ⟨Nat.le_of_ble_eq_true rfl, Nat.le_of_ble_eq_true rfl⟩) ⟨(wM.pre [.ref (ad 0), .int p1, .ref (ad (20 + r_8)), .int p3, .int p4] hP hK hN).1, wM.recv (C := RX7) (T := TX7) (N := 9) hP hK heq_14 rfl, (wM.pre [.ref (ad 0), .int p1, .ref (ad (20 + r_8)), .int p3, .int p4] hP hK hN).2⟩ rfl rfl hl.1 rfl (lv_room (Nat.le_of_ble_eq_true rfl)) dX7_bars_32 ⟨Nat.le_of_ble_eq_true rfl, Nat.le_of_ble_eq_true rfl⟩) hS (fun q _ h => hA q (Nat.le_trans hS.1 h)) (fun q h => hA q (Nat.le_trans hS.1 h)) (fun r9 u t H1 locs ht hvm hw hB hz1 hk1 hS => ?_)
    subst hw
    have hP := va_Pnew hP hk1
    clear hz1 hk1 hvm ht hB
    generalize H1 = H at hP hS ⊢
    have hf := Option.some.inj hf
    obtain ⟨q1, q2⟩ := Prod.mk.inj hf
    obtain ⟨q2, q3⟩ := Prod.mk.inj q2
    rw [q2, q3] at hP
    exact W.iret (v := r_12) hx hb hr (fun t ht hW9 => ⟨⟨r_12, (), rfl, q1.symm, wM.of hP hK hN ht hW9⟩, hS.F ht⟩) hS.2.2 dX7_bars_35
  · have hf := it_t hf c_6
    refine lv_iconst (v := 0) hx hb dX7_bars_12 (by decide) ?_
    have hf := Option.some.inj hf
    obtain ⟨q1, q2⟩ := Prod.mk.inj hf
    obtain ⟨q2, q3⟩ := Prod.mk.inj q2
    rw [q2, q3] at hP
    exact W.iret (v := 0) hx hb hr (fun t ht hW9 => ⟨⟨0, (), rfl, q1.symm, wM.of hP hK hN ht hW9⟩, hS.F ht⟩) hS.2.2 dX7_bars_13

def f_X7_crystal (a b : Nat) (I : Nat → Nat → Int32) (D : Nat → Nat → UInt64) (p1 : Int32) : Option (UInt64 × (Nat → Nat → Int32) × (Nat → Nat → UInt64)) :=
  nm (up2 I 0 0 0) (fun I_2 => bd (f_X7_isBatch a b I_2 D p1) (fun r_3 => (if r_3 = 0 then bd (f_X7_no a b I_2 D 1) (fun (r_11, I_13, D_14) => some ((FP.i2d r_11), I_13, D_14)) else ck (inB p1 12) (some ((D (5 + 5) (p1).toNatClampNeg), I_2, D)))))
theorem iX7_crystal_RX5 : ∀ w ∈ u_ws RX5 TX5 10, w ∈ wsX7_crystal := fun w h => List.mem_cons_of_mem _ (List.mem_append_right _ (h))
theorem iX7_crystal_RX7 : ∀ w ∈ u_ws RX7 TX7 9, w ∈ wsX7_crystal := fun w h => List.mem_cons_of_mem _ (List.mem_append_left _ (List.mem_append_right _ (h)))
set_option maxHeartbeats 4000000 in
set_option maxRecDepth 100000 in
theorem mt_X7_crystal (l : Launch) (dC : Nat → ClassId) (dI : Nat → Nat → Nat) (L : List Nat) (a b : Nat) (ad : Nat → Nat) (cy : Nat → ClassId) (hM : mOK L a b ad) (sz : Nat) (I : Nat → Nat → Int32) (D : Nat → Nat → UInt64) (p1 : Int32) (rr : UInt64) (I9 : Nat → Nat → Int32) (D9 : Nat → Nat → UInt64) (hf : f_X7_crystal a b I D p1 = some (rr, I9, D9)) : Met l yX7_crystal wsX7_crystal ({ frames := 2, cells := 0, slots := 0, locals := 43 }) (va_Pc [.ref (ad 0), .int p1] (fun U => U.heap.size = sz ∧ wM dC dI L a b ad cy I D U)) (va_Qd (fun r (_ : Unit) => rr = r) (fun _ t => wM dC dI L a b ad cy I9 D9 t) (AM L ad sz)) 0 0 (AM L ad sz) := by
  refine Met.ofW (cc := cX7_crystal) (maxL := 2) (ret := (some .double)) (by decide) rfl ?_
  intro p e s m args below meth c s₁ B hml hv
  obtain ⟨rfl, hsz, hP, hK, hN⟩ := hv
  have hx := B.exec
  have hb := B.bytes
  have hr := B.returns
  have hts := atoms_spec (ws := wsX7_crystal) B.pre
  have hown : s.vm.findClass RX7 = some m.cls := findClass_of_methodNamed B.named
  have hlocks := B.notSynchronized
  subst hsz
  generalize hAe : AM L ad s.heap.size = A
  have hA : ∀ q : Nat, s.heap.size ≤ q → A q := fun q h => by rw [← hAe]; exact Or.inr h
  have hAL : ∀ k, k ∈ L → A (ad k) := fun k h => by rw [← hAe]; exact Or.inl ⟨k, h, rfl⟩
  have hDD : ∀ I D, va_D A (iwM L a b ad cy I D) := fun I D => iwM_D hM hAL I D
  obtain ⟨H, hH⟩ : ∃ H : Heap, H = s.heap := ⟨_, rfl⟩
  have hS : va_S A s.heap H [] := by rw [hH]; exact va_S.rf
  rw [← hH]
  rw [← hH] at hP
  have hl := lv_entry ([.ref (ad 0), .int p1]) (n := 2) (Nat.le_of_ble_eq_true rfl)
  rw [lg_entry_eq]
  generalize (lg_sl ([.ref (ad 0), .int p1]) ++ List.replicate (2 - (lg_sl ([.ref (ad 0), .int p1])).length) Slot.unset).toArray = ls at hl ⊢
  have hl : lv_has ls 2 [(0, .ref (ad 0)), (1, .int p1)] := hl
  unfold f_X7_crystal at hf
  refine lv_aload_n hx hb dX7_crystal_0 rfl (lv_at hl 0 rfl) ?_
  refine lv_iconst (v := 0) hx hb dX7_crystal_1 (by decide) ?_
  obtain ⟨q_1, wq_1, heq_1⟩ := heM_0 (cy := cy) (I := I) (D := D) hM
  obtain ⟨I_2, eI_2, hf⟩ := nm_out hf
  refine va_put (D := (dC, dI)) (ci := 8) (v := .int 0) (ty := .int) (C := RX7) (T := TX7) (N := 9) hx hb hts iX7_crystal_RX7 tyX7 tyX7_ok nmX7 hown hK hP (hDD I D) hS q_1 heq_1 rfl 0 (by decide) (hts (.fieldLink RX7 32 "OverrunHouseModel" "thrown" "I") (List.mem_cons_of_mem _ (List.mem_append_left _ (List.mem_append_left _ (List.mem_of_getElem? (i := 0) rfl))))) (fun _ h9 => h9) rfl (by decide +kernel) rfl rfl (Nat.le_of_ble_eq_true rfl) dX7_crystal_2 (fun H locs hP _ hS => ?_)
  have hP : va_P (dC, dI) vwCl (iwM L a b ad cy I_2 D) H := by rw [eI_2]; exact hqI hM wq_1 ((cellM_0 ad cy a b _ _).trans rfl) hP
  refine lv_aload_n hx hb dX7_crystal_5 rfl (lv_at hl 0 rfl) ?_
  refine lv_iload_n hx hb dX7_crystal_6 rfl (lv_at hl 1 rfl) ?_
  obtain ⟨r_3, g_4, hf⟩ := bd_out hf
  obtain ⟨q_5, wq_5, heq_5⟩ := heM_0 (cy := cy) (I := I_2) (D := D) hM
  refine va_calli (va_runV (As := [.int p1]) (rest := []) ⟨hx, hb, hml, hown, hts⟩ (mt_X7_isBatch l dC dI L a b ad cy hM H.size I_2 D p1 r_3 g_4) (cwV 1 hts gX7_crystal_X7_isBatch rfl rfl rfl (by decide +kernel) ⟨Nat.le_of_ble_eq_true rfl, Nat.le_of_ble_eq_true rfl⟩) ⟨(wM.pre [.ref (ad 0), .int p1] hP hK hN).1, wM.recv (C := RX7) (T := TX7) (N := 9) hP hK heq_5 rfl, (wM.pre [.ref (ad 0), .int p1] hP hK hN).2⟩ rfl rfl hl.1 rfl (lv_room (Nat.le_of_ble_eq_true rfl)) dX7_crystal_7 ⟨Nat.le_of_ble_eq_true rfl, Nat.le_of_ble_eq_true rfl⟩) hS (fun q _ h => hA q (Nat.le_trans hS.1 h)) (fun q h => hA q (Nat.le_trans hS.1 h)) (fun r9 u t H1 locs ht hvm hw hB hz1 hk1 hS => ?_)
  subst hw
  have hP := va_Pnew hP hk1
  clear hz1 hk1 hvm ht hB
  generalize H1 = H at hP hS ⊢
  refine lv_if_ne (tgt := 20) hx hb dX7_crystal_10 (by decide) (fun c_6 => ?_) (fun c_6 => ?_)
  · have hf := it_f hf c_6
    refine lv_aload_n hx hb dX7_crystal_20 rfl (lv_at hl 0 rfl) ?_
    obtain ⟨q_7, wq_7, heq_7⟩ := heM_0 (cy := cy) (I := I_2) (D := D) hM
    refine va_get (D := (dC, dI)) (ci := 8) (v := .ref (ad 5)) (C := RX7) (T := TX7) (N := 9) hx hb hts iX7_crystal_RX7 hown hK hP q_7 heq_7 rfl 3 (by decide) (hts (.fieldLink RX7 24 "OverrunHouseModel" "cold" "LOverrunHouseModel$Cold;") (List.mem_cons_of_mem _ (List.mem_append_left _ (List.mem_append_left _ (List.mem_of_getElem? (i := 1) rfl))))) (fun _ h9 => h9) rfl dX7_crystal_21 ?_
    obtain ⟨q_8, wq_8, heq_8⟩ := heM_Cold (cy := cy) (I := I_2) (D := D) (a := a) (b := b) (cOK_5 hM)
    refine va_get (D := (dC, dI)) (ci := 6) (v := .ref (ad (5 + 5))) (C := RX5) (T := TX5) (N := 10) hx hb hts iX7_crystal_RX5 hown hK hP q_8 heq_8 rfl 5 (by decide) (hts (.fieldLink RX7 126 "OverrunHouseModel$Cold" "crystal" "[D") (List.mem_cons_of_mem _ (List.mem_append_left _ (List.mem_append_left _ (List.mem_of_getElem? (i := 2) rfl))))) (fun _ h9 => h9) rfl dX7_crystal_24 ?_
    refine lv_iload_n hx hb dX7_crystal_27 rfl (lv_at hl 1 rfl) ?_
    obtain ⟨q_9, wq_9, heq_9⟩ := heM_Crystal (cy := cy) (I := I_2) (D := D) (a := a) (b := b) (cOK_5 hM)
    obtain ⟨h_10, hf⟩ := ck_out hf
    refine va_dald (n := 12) (f := D (5 + 5)) hx hb hK hP q_9 6 heq_9 rfl (inB_in h_10) dX7_crystal_28 ?_
    have hf := Option.some.inj hf
    obtain ⟨q1, q2⟩ := Prod.mk.inj hf
    obtain ⟨q2, q3⟩ := Prod.mk.inj q2
    rw [q2, q3] at hP
    exact W.dret (v := (D (5 + 5) (p1).toNatClampNeg)) hx hb hr (fun t ht hW9 => ⟨⟨(D (5 + 5) (p1).toNatClampNeg), (), rfl, q1.symm, wM.of hP hK hN ht hW9⟩, hS.F ht⟩) hS.2.2 dX7_crystal_29
  · have hf := it_t hf c_6
    refine lv_aload_n hx hb dX7_crystal_13 rfl (lv_at hl 0 rfl) ?_
    refine lv_iconst (v := 1) hx hb dX7_crystal_14 (by decide) ?_
    obtain ⟨⟨r_11, I_13, D_14⟩, g_12, hf⟩ := bd_out hf
    obtain ⟨q_15, wq_15, heq_15⟩ := heM_0 (cy := cy) (I := I_2) (D := D) hM
    have hAW : ∀ q, AM L ad H.size q → A q := fun q h => h.elim (fun ⟨k, k1, k2⟩ => k2 ▸ hAL k k1) (fun h => hA q (Nat.le_trans hS.1 h))
    refine va_calli (va_runV (As := [.int 1]) (rest := []) ⟨hx, hb, hml, hown, hts⟩ (mt_X7_no l dC dI L a b ad cy hM H.size I_2 D 1 r_11 I_13 D_14 g_12) (cwV 1 hts gX7_crystal_X7_no rfl rfl rfl (by decide +kernel) ⟨Nat.le_of_ble_eq_true rfl, Nat.le_of_ble_eq_true rfl⟩) ⟨(wM.pre [.ref (ad 0), .int 1] hP hK hN).1, wM.recv (C := RX7) (T := TX7) (N := 9) hP hK heq_15 rfl, (wM.pre [.ref (ad 0), .int 1] hP hK hN).2⟩ rfl rfl hl.1 rfl (lv_room (Nat.le_of_ble_eq_true rfl)) dX7_crystal_15 ⟨Nat.le_of_ble_eq_true rfl, Nat.le_of_ble_eq_true rfl⟩) hS (fun q _ h => hAW q h) hAW (fun r9 u t H1 locs ht hvm hw hB hz1 hk1 hS => ?_)
    subst hw
    have hP : va_P (dC, dI) vwCl (iwM L a b ad cy I_13 D_14) H1 := by rw [← ht]; exact hB.1
    clear hz1 hk1 hvm ht hB
    generalize H1 = H at hP hS ⊢
    refine lv_i2d hx hb dX7_crystal_18 ?_
    have hf := Option.some.inj hf
    obtain ⟨q1, q2⟩ := Prod.mk.inj hf
    obtain ⟨q2, q3⟩ := Prod.mk.inj q2
    rw [q2, q3] at hP
    exact W.dret (v := (FP.i2d r_11)) hx hb hr (fun t ht hW9 => ⟨⟨(FP.i2d r_11), (), rfl, q1.symm, wM.of hP hK hN ht hW9⟩, hS.F ht⟩) hS.2.2 dX7_crystal_19

def f_X7_temp (a b : Nat) (I : Nat → Nat → Int32) (D : Nat → Nat → UInt64) (p1 : Int32) : Option (UInt64 × (Nat → Nat → Int32) × (Nat → Nat → UInt64)) :=
  nm (up2 I 0 0 0) (fun I_2 => bd (f_X7_isStore a b I_2 D p1) (fun r_3 => (if r_3 = 0 then bd (f_X7_no a b I_2 D 1) (fun (r_11, I_13, D_14) => some ((FP.i2d r_11), I_13, D_14)) else ck (inB p1 3) (some ((D (5 + 7) (p1).toNatClampNeg), I_2, D)))))
theorem iX7_temp_RX5 : ∀ w ∈ u_ws RX5 TX5 10, w ∈ wsX7_temp := fun w h => List.mem_cons_of_mem _ (List.mem_append_right _ (h))
theorem iX7_temp_RX7 : ∀ w ∈ u_ws RX7 TX7 9, w ∈ wsX7_temp := fun w h => List.mem_cons_of_mem _ (List.mem_append_left _ (List.mem_append_right _ (h)))
set_option maxHeartbeats 4000000 in
set_option maxRecDepth 100000 in
theorem mt_X7_temp (l : Launch) (dC : Nat → ClassId) (dI : Nat → Nat → Nat) (L : List Nat) (a b : Nat) (ad : Nat → Nat) (cy : Nat → ClassId) (hM : mOK L a b ad) (sz : Nat) (I : Nat → Nat → Int32) (D : Nat → Nat → UInt64) (p1 : Int32) (rr : UInt64) (I9 : Nat → Nat → Int32) (D9 : Nat → Nat → UInt64) (hf : f_X7_temp a b I D p1 = some (rr, I9, D9)) : Met l yX7_temp wsX7_temp ({ frames := 2, cells := 0, slots := 0, locals := 43 }) (va_Pc [.ref (ad 0), .int p1] (fun U => U.heap.size = sz ∧ wM dC dI L a b ad cy I D U)) (va_Qd (fun r (_ : Unit) => rr = r) (fun _ t => wM dC dI L a b ad cy I9 D9 t) (AM L ad sz)) 0 0 (AM L ad sz) := by
  refine Met.ofW (cc := cX7_temp) (maxL := 2) (ret := (some .double)) (by decide) rfl ?_
  intro p e s m args below meth c s₁ B hml hv
  obtain ⟨rfl, hsz, hP, hK, hN⟩ := hv
  have hx := B.exec
  have hb := B.bytes
  have hr := B.returns
  have hts := atoms_spec (ws := wsX7_temp) B.pre
  have hown : s.vm.findClass RX7 = some m.cls := findClass_of_methodNamed B.named
  have hlocks := B.notSynchronized
  subst hsz
  generalize hAe : AM L ad s.heap.size = A
  have hA : ∀ q : Nat, s.heap.size ≤ q → A q := fun q h => by rw [← hAe]; exact Or.inr h
  have hAL : ∀ k, k ∈ L → A (ad k) := fun k h => by rw [← hAe]; exact Or.inl ⟨k, h, rfl⟩
  have hDD : ∀ I D, va_D A (iwM L a b ad cy I D) := fun I D => iwM_D hM hAL I D
  obtain ⟨H, hH⟩ : ∃ H : Heap, H = s.heap := ⟨_, rfl⟩
  have hS : va_S A s.heap H [] := by rw [hH]; exact va_S.rf
  rw [← hH]
  rw [← hH] at hP
  have hl := lv_entry ([.ref (ad 0), .int p1]) (n := 2) (Nat.le_of_ble_eq_true rfl)
  rw [lg_entry_eq]
  generalize (lg_sl ([.ref (ad 0), .int p1]) ++ List.replicate (2 - (lg_sl ([.ref (ad 0), .int p1])).length) Slot.unset).toArray = ls at hl ⊢
  have hl : lv_has ls 2 [(0, .ref (ad 0)), (1, .int p1)] := hl
  unfold f_X7_temp at hf
  refine lv_aload_n hx hb dX7_temp_0 rfl (lv_at hl 0 rfl) ?_
  refine lv_iconst (v := 0) hx hb dX7_temp_1 (by decide) ?_
  obtain ⟨q_1, wq_1, heq_1⟩ := heM_0 (cy := cy) (I := I) (D := D) hM
  obtain ⟨I_2, eI_2, hf⟩ := nm_out hf
  refine va_put (D := (dC, dI)) (ci := 8) (v := .int 0) (ty := .int) (C := RX7) (T := TX7) (N := 9) hx hb hts iX7_temp_RX7 tyX7 tyX7_ok nmX7 hown hK hP (hDD I D) hS q_1 heq_1 rfl 0 (by decide) (hts (.fieldLink RX7 32 "OverrunHouseModel" "thrown" "I") (List.mem_cons_of_mem _ (List.mem_append_left _ (List.mem_append_left _ (List.mem_of_getElem? (i := 0) rfl))))) (fun _ h9 => h9) rfl (by decide +kernel) rfl rfl (Nat.le_of_ble_eq_true rfl) dX7_temp_2 (fun H locs hP _ hS => ?_)
  have hP : va_P (dC, dI) vwCl (iwM L a b ad cy I_2 D) H := by rw [eI_2]; exact hqI hM wq_1 ((cellM_0 ad cy a b _ _).trans rfl) hP
  refine lv_aload_n hx hb dX7_temp_5 rfl (lv_at hl 0 rfl) ?_
  refine lv_iload_n hx hb dX7_temp_6 rfl (lv_at hl 1 rfl) ?_
  obtain ⟨r_3, g_4, hf⟩ := bd_out hf
  obtain ⟨q_5, wq_5, heq_5⟩ := heM_0 (cy := cy) (I := I_2) (D := D) hM
  refine va_calli (va_runV (As := [.int p1]) (rest := []) ⟨hx, hb, hml, hown, hts⟩ (mt_X7_isStore l dC dI L a b ad cy hM H.size I_2 D p1 r_3 g_4) (cwV 1 hts gX7_temp_X7_isStore rfl rfl rfl (by decide +kernel) ⟨Nat.le_of_ble_eq_true rfl, Nat.le_of_ble_eq_true rfl⟩) ⟨(wM.pre [.ref (ad 0), .int p1] hP hK hN).1, wM.recv (C := RX7) (T := TX7) (N := 9) hP hK heq_5 rfl, (wM.pre [.ref (ad 0), .int p1] hP hK hN).2⟩ rfl rfl hl.1 rfl (lv_room (Nat.le_of_ble_eq_true rfl)) dX7_temp_7 ⟨Nat.le_of_ble_eq_true rfl, Nat.le_of_ble_eq_true rfl⟩) hS (fun q _ h => hA q (Nat.le_trans hS.1 h)) (fun q h => hA q (Nat.le_trans hS.1 h)) (fun r9 u t H1 locs ht hvm hw hB hz1 hk1 hS => ?_)
  subst hw
  have hP := va_Pnew hP hk1
  clear hz1 hk1 hvm ht hB
  generalize H1 = H at hP hS ⊢
  refine lv_if_ne (tgt := 20) hx hb dX7_temp_10 (by decide) (fun c_6 => ?_) (fun c_6 => ?_)
  · have hf := it_f hf c_6
    refine lv_aload_n hx hb dX7_temp_20 rfl (lv_at hl 0 rfl) ?_
    obtain ⟨q_7, wq_7, heq_7⟩ := heM_0 (cy := cy) (I := I_2) (D := D) hM
    refine va_get (D := (dC, dI)) (ci := 8) (v := .ref (ad 5)) (C := RX7) (T := TX7) (N := 9) hx hb hts iX7_temp_RX7 hown hK hP q_7 heq_7 rfl 3 (by decide) (hts (.fieldLink RX7 24 "OverrunHouseModel" "cold" "LOverrunHouseModel$Cold;") (List.mem_cons_of_mem _ (List.mem_append_left _ (List.mem_append_left _ (List.mem_of_getElem? (i := 1) rfl))))) (fun _ h9 => h9) rfl dX7_temp_21 ?_
    obtain ⟨q_8, wq_8, heq_8⟩ := heM_Cold (cy := cy) (I := I_2) (D := D) (a := a) (b := b) (cOK_5 hM)
    refine va_get (D := (dC, dI)) (ci := 6) (v := .ref (ad (5 + 7))) (C := RX5) (T := TX5) (N := 10) hx hb hts iX7_temp_RX5 hown hK hP q_8 heq_8 rfl 8 (by decide) (hts (.fieldLink RX7 146 "OverrunHouseModel$Cold" "temp" "[D") (List.mem_cons_of_mem _ (List.mem_append_left _ (List.mem_append_left _ (List.mem_of_getElem? (i := 2) rfl))))) (fun _ h9 => h9) rfl dX7_temp_24 ?_
    refine lv_iload_n hx hb dX7_temp_27 rfl (lv_at hl 1 rfl) ?_
    obtain ⟨q_9, wq_9, heq_9⟩ := heM_Temp (cy := cy) (I := I_2) (D := D) (a := a) (b := b) (cOK_5 hM)
    obtain ⟨h_10, hf⟩ := ck_out hf
    refine va_dald (n := 3) (f := D (5 + 7)) hx hb hK hP q_9 6 heq_9 rfl (inB_in h_10) dX7_temp_28 ?_
    have hf := Option.some.inj hf
    obtain ⟨q1, q2⟩ := Prod.mk.inj hf
    obtain ⟨q2, q3⟩ := Prod.mk.inj q2
    rw [q2, q3] at hP
    exact W.dret (v := (D (5 + 7) (p1).toNatClampNeg)) hx hb hr (fun t ht hW9 => ⟨⟨(D (5 + 7) (p1).toNatClampNeg), (), rfl, q1.symm, wM.of hP hK hN ht hW9⟩, hS.F ht⟩) hS.2.2 dX7_temp_29
  · have hf := it_t hf c_6
    refine lv_aload_n hx hb dX7_temp_13 rfl (lv_at hl 0 rfl) ?_
    refine lv_iconst (v := 1) hx hb dX7_temp_14 (by decide) ?_
    obtain ⟨⟨r_11, I_13, D_14⟩, g_12, hf⟩ := bd_out hf
    obtain ⟨q_15, wq_15, heq_15⟩ := heM_0 (cy := cy) (I := I_2) (D := D) hM
    have hAW : ∀ q, AM L ad H.size q → A q := fun q h => h.elim (fun ⟨k, k1, k2⟩ => k2 ▸ hAL k k1) (fun h => hA q (Nat.le_trans hS.1 h))
    refine va_calli (va_runV (As := [.int 1]) (rest := []) ⟨hx, hb, hml, hown, hts⟩ (mt_X7_no l dC dI L a b ad cy hM H.size I_2 D 1 r_11 I_13 D_14 g_12) (cwV 1 hts gX7_temp_X7_no rfl rfl rfl (by decide +kernel) ⟨Nat.le_of_ble_eq_true rfl, Nat.le_of_ble_eq_true rfl⟩) ⟨(wM.pre [.ref (ad 0), .int 1] hP hK hN).1, wM.recv (C := RX7) (T := TX7) (N := 9) hP hK heq_15 rfl, (wM.pre [.ref (ad 0), .int 1] hP hK hN).2⟩ rfl rfl hl.1 rfl (lv_room (Nat.le_of_ble_eq_true rfl)) dX7_temp_15 ⟨Nat.le_of_ble_eq_true rfl, Nat.le_of_ble_eq_true rfl⟩) hS (fun q _ h => hAW q h) hAW (fun r9 u t H1 locs ht hvm hw hB hz1 hk1 hS => ?_)
    subst hw
    have hP : va_P (dC, dI) vwCl (iwM L a b ad cy I_13 D_14) H1 := by rw [← ht]; exact hB.1
    clear hz1 hk1 hvm ht hB
    generalize H1 = H at hP hS ⊢
    refine lv_i2d hx hb dX7_temp_18 ?_
    have hf := Option.some.inj hf
    obtain ⟨q1, q2⟩ := Prod.mk.inj hf
    obtain ⟨q2, q3⟩ := Prod.mk.inj q2
    rw [q2, q3] at hP
    exact W.dret (v := (FP.i2d r_11)) hx hb hr (fun t ht hW9 => ⟨⟨(FP.i2d r_11), (), rfl, q1.symm, wM.of hP hK hN ht hW9⟩, hS.F ht⟩) hS.2.2 dX7_temp_19
