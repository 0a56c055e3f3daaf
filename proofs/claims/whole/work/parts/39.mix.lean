def f_X7_mix_tail (a b : Nat) (I : Nat → Nat → Int32) (D : Nat → Nat → UInt64) : Option (Int32 × Nat × (Nat → Nat → Int32) × (Nat → Nat → UInt64)) :=
  bd (f_size2 a b I D ) (fun r_2 => some ((r_2 - 1), b, I, D))
def f_X7_mix_mid (a b : Nat) (p1 p2 : Int32) (I : Nat → Nat → Int32) (D : Nat → Nat → UInt64) : Option (Int32 × Nat × (Nat → Nat → Int32) × (Nat → Nat → UInt64)) :=
  bd (f_X6_putx a b I D b p1 p2) (fun (r_5, I_7, D_8) => if I_7 2 1 = 0 then ck (decide (I_7 2 2 = 0)) (ck (decide (b = 0)) (nm (addI I_7 2) (fun zI => f_X7_mix_tail a 1 zI D_8))) else ck (inB (I_7 2 2) 10) (ck (decide (¬ I_7 2 2 = 10)) (ck (decide ((I_7 2 2).toNatClampNeg = b)) (ck (decide (0 < b)) (ck (decide (b < 5)) (nm (addI I_7 2) (fun zI => f_X7_mix_tail a (b + 1) zI D_8)))))))
def f_X7_mix (a b : Nat) (I : Nat → Nat → Int32) (D : Nat → Nat → UInt64) (p1 p2 : Int32) : Option (Int32 × Nat × (Nat → Nat → Int32) × (Nat → Nat → UInt64)) :=
  nm (up2 I 0 0 0) (fun I_12 => bd (f_X7_isIngredient a b I_12 D p1) (fun r_13 => (if r_13 = 0 then bd (f_X7_no a b I_12 D 1) (fun (r_35, I_37, D_38) => some (r_35, b, I_37, D_38)) else bd (f_X7_in p2 1 500) (fun r_17 => (if r_17 = 0 then bd (f_X7_no a b I_12 D 2) (fun (r_30, I_32, D_33) => some (r_30, b, I_32, D_33)) else bd (f_size2 a b I_12 D ) (fun r_21 => (if r_21 = 5 then bd (f_X7_no a b I_12 D 3) (fun (r_25, I_27, D_28) => some (r_25, b, I_27, D_28)) else ck (decide (b < 5)) (nm (upR (upR I_12 (20 + b) (fun _ => 0)) (25 + b) (fun _ => 0)) (fun zI => f_X7_mix_mid a b p1 p2 zI D)))))))))
theorem iX7_mix_RX7 : ∀ w ∈ u_ws RX7 TX7 9, w ∈ wsX7_mix := fun w h => List.mem_cons_of_mem _ (List.mem_append_left _ (List.mem_append_left _ (List.mem_append_right _ (h))))
theorem iX7_mix_RX6 : ∀ w ∈ u_ws RX6 TX6 5, w ∈ wsX7_mix := fun w h => List.mem_cons_of_mem _ (List.mem_append_left _ (List.mem_append_right _ (h)))
set_option maxHeartbeats 4000000 in
set_option maxRecDepth 100000 in
theorem mt_X7_mix (l : Launch) (dC : Nat → ClassId) (dI : Nat → Nat → Nat) (L : List Nat) (a b : Nat) (ad : Nat → Nat) (cy : Nat → ClassId) (hM : mOK L a b ad) (hLx : ∀ k, k ∈ L → k ∈ mL a b) (sz : Nat) (I : Nat → Nat → Int32) (D : Nat → Nat → UInt64) (p1 p2 : Int32) (rr : Int32) (n9 : Nat) (I9 : Nat → Nat → Int32) (D9 : Nat → Nat → UInt64) (hf : f_X7_mix a b I D p1 p2 = some (rr, n9, I9, D9)) : Met l yX7_mix wsX7_mix ({ frames := 5, cells := 3, slots := 21, locals := 101 }) (va_Pc [.ref (ad 0), .int p1, .int p2] (fun U => U.heap.size = sz ∧ wM dC dI L a b ad cy I D U ∧ va_Nw (.castable "[I" "java/lang/Object") U ∧ va_Nw (.castable RX6 "java/lang/Object") U ∧ va_AO "java/lang/Object" U ∧ va_Z "java/util/ArrayList" "DEFAULTCAPACITY_EMPTY_ELEMENTDATA" "[Ljava/lang/Object;" (.ref (ad 41)) (AM L ad sz) U U.heap ∧ va_T (.object "java/lang/Object") (ad 41) 0 (fun _ => .null) (AM L ad sz) U U.heap)) (va_Qi (fun r (_ : Unit) => rr = r) (fun _ t => ∃ (L9 : List Nat) (ad9 : Nat → Nat), wM dC dI L9 a n9 ad9 cy I9 D9 t ∧ mOK L9 a n9 ad9 ∧ (∀ k, k ∈ L9 → k ∈ mL a n9) ∧ (∀ k, k ∈ L9 → (AM L ad sz) (ad9 k)) ∧ ad9 0 = ad 0 ∧ ad9 41 = ad 41) (AM L ad sz)) 3 21 (AM L ad sz) := by
  refine Met.ofW (cc := cX7_mix) (maxL := 4) (ret := (some .int)) (by decide) rfl ?_
  intro p e s m args below meth c s₁ B hml hv
  obtain ⟨rfl, hsz, ⟨hP, hK, hN⟩, hcI, hcM, hO, hZ, hT⟩ := hv
  have hx := B.exec
  have hb := B.bytes
  have hr := B.returns
  have hts := atoms_spec (ws := wsX7_mix) B.pre
  have hown : s.vm.findClass RX7 = some m.cls := findClass_of_methodNamed B.named
  have hlocks := B.notSynchronized
  subst hsz
  have hA0 : ∀ k, k ∈ L → AM L ad s.heap.size (ad k) := fun k h => Or.inl ⟨k, h, rfl⟩
  have hA1 : ∀ q : Nat, s.heap.size ≤ q → AM L ad s.heap.size q := fun q h => Or.inr h
  generalize hAe : AM L ad s.heap.size = A at hA0 hA1 hZ hT ⊢
  have hA := hA1
  have hAL := hA0
  have hDD : ∀ I D, va_D A (iwM L a b ad cy I D) := fun I D => iwM_D hM hAL I D
  have h00 : ad 0 = ad 0 := rfl
  have h41 : ad 41 = ad 41 := rfl
  obtain ⟨H, hH⟩ : ∃ H : Heap, H = s.heap := ⟨_, rfl⟩
  have hS : va_S A s.heap H [] := by rw [hH]; exact va_S.rf
  rw [← hH] at hP
  have tail : ∀ (L2 : List Nat) (b2 : Nat) (ad2 : Nat → Nat) (I2 : Nat → Nat → Int32) (D2 : Nat → Nat → UInt64) (H2 : Heap) (locs2 : List Loc) (ls2 : Array Slot), mOK L2 a b2 ad2 → (∀ k, k ∈ L2 → A (ad2 k)) → (∀ k, k ∈ L2 → k ∈ mL a b2) → ad2 0 = ad 0 → ad2 41 = ad 41 → va_P (dC, dI) vwCl (iwM L2 a b2 ad2 cy I2 D2) H2 → va_S A s.heap H2 locs2 → lv_has ls2 4 [(0, .ref (ad2 0))] → f_X7_mix_tail a b2 I2 D2 = some (rr, n9, I9, D9) → W p l e (headSpec wsX7_mix ({ frames := 5, cells := 3, slots := 21, locals := 101 })).room s m ([.ref (ad 0), .int p1, .int p2] : List Value).toArray below meth c H2 locs2 3 21 (MQ below (va_Qi (fun r (_ : Unit) => rr = r) (fun _ t => ∃ (L9 : List Nat) (ad9 : Nat → Nat), wM dC dI L9 a n9 ad9 cy I9 D9 t ∧ mOK L9 a n9 ad9 ∧ (∀ k, k ∈ L9 → k ∈ mL a n9) ∧ (∀ k, k ∈ L9 → A (ad9 k)) ∧ ad9 0 = ad 0 ∧ ad9 41 = ad 41) A) ([.ref (ad 0), .int p1, .int p2] : List Value).toArray s 3 21 A) (F0 m 81 ls2 [.int 1]) := by
    intro L b ad I D H locs ls hM hAL hLx h00 h41 hP hS hl hf
    have hDD : ∀ I D, va_D A (iwM L a b ad cy I D) := fun I D => iwM_D hM hAL I D
    unfold f_X7_mix_tail at hf
    refine lv_pop hx hb dX7_mix_81 rfl ?_
    refine lv_aload_n hx hb dX7_mix_82 rfl (lv_at hl 0 rfl) ?_
    obtain ⟨q_1, wq_1, heq_1⟩ := heM_0 (cy := cy) (I := I) (D := D) hM
    refine va_get (D := (dC, dI)) (ci := 8) (v := .ref (ad 2)) (C := RX7) (T := TX7) (N := 9) hx hb hts iX7_mix_RX7 hown hK hP q_1 heq_1 rfl 2 (by decide) (hts (.fieldLink RX7 16 "OverrunHouseModel" "mixes" "Ljava/util/List;") (List.mem_cons_of_mem _ (List.mem_append_left _ (List.mem_append_left _ (List.mem_append_left _ (List.mem_append_left _ (List.mem_of_getElem? (i := 1) rfl))))))) (fun _ h9 => h9) rfl dX7_mix_83 ?_
    obtain ⟨r_2, g_3, hf⟩ := bd_out hf
    obtain ⟨q_4, wq_4, heq_4⟩ := heM_2 (cy := cy) (I := I) (D := D) hM
    refine va_callFi (va_runF (As := []) (rest := []) (hK.1 0 _ rfl).2 ⟨hx, hb, hml, hown, hts⟩ (mt_size2 l dC dI L a b ad cy hM H.size I D  r_2 g_3) (va_cwF 0 hts gX7_mix_Jx4a65c_size_8abf5_f36Jx4a65c rfl rfl rfl hN.2.1 (by decide +kernel) ⟨Nat.le_of_ble_eq_true rfl, Nat.le_of_ble_eq_true rfl⟩) ⟨(wM.pre [.ref (ad 2)] hP hK hN).1, wM.recv (C := RJx4a65c) (T := TJx4a65c) (N := 3) hP hK heq_4 rfl, (wM.pre [.ref (ad 2)] hP hK hN).2⟩ rfl rfl hl.1 rfl (lv_room (Nat.le_of_ble_eq_true rfl)) dX7_mix_86 ⟨Nat.le_of_ble_eq_true rfl, Nat.le_of_ble_eq_true rfl⟩) hS (fun q _ h => hA q (Nat.le_trans hS.1 h)) (fun q h => hA q (Nat.le_trans hS.1 h)) (fun r9 u t H1 locs ht hvm hw hB hz1 hk1 hS => ?_)
    subst hw
    have hP := va_Pnew hP hk1
    clear hz1 hk1 hvm ht hB
    generalize H1 = H at hP hS ⊢
    refine lv_iconst (v := 1) hx hb dX7_mix_91 (by decide) ?_
    refine lv_isub hx hb dX7_mix_92 ?_
    have hf := Option.some.inj hf
    obtain ⟨q1, q2⟩ := Prod.mk.inj hf
    obtain ⟨q2, q3⟩ := Prod.mk.inj q2
    obtain ⟨q3, q4⟩ := Prod.mk.inj q3
    subst q2
    rw [q3, q4] at hP
    exact W.iret (v := (r_2 - 1)) hx hb hr (fun t ht hW9 => ⟨⟨(r_2 - 1), (), rfl, q1.symm, L, ad, wM.of hP hK hN ht hW9, hM, hLx, hAL, h00, h41⟩, hS.F ht⟩) hS.2.2 dX7_mix_93
  have mid : ∀ (L2 : List Nat) (ad2 : Nat → Nat) (I2 : Nat → Nat → Int32) (D2 : Nat → Nat → UInt64) (H2 : Heap) (locs2 : List Loc) (ls2 : Array Slot), mOK L2 a b ad2 → xOK L2 b → (∀ k, k ∈ L2 → k ∈ mL a b ∨ k = 20 + b ∨ k = 25 + b) → (∀ k, k ∈ L2 → A (ad2 k)) → ad2 0 = ad 0 → ad2 41 = ad 41 → va_P (dC, dI) vwCl (iwM L2 a b ad2 cy I2 D2) H2 → va_S A s.heap H2 locs2 → lv_has ls2 4 [(0, .ref (ad2 0)), (1, .int p1), (2, .int p2)] → f_X7_mix_mid a b p1 p2 I2 D2 = some (rr, n9, I9, D9) → W p l e (headSpec wsX7_mix ({ frames := 5, cells := 3, slots := 21, locals := 101 })).room s m ([.ref (ad 0), .int p1, .int p2] : List Value).toArray below meth c H2 locs2 2 11 (MQ below (va_Qi (fun r (_ : Unit) => rr = r) (fun _ t => ∃ (L9 : List Nat) (ad9 : Nat → Nat), wM dC dI L9 a n9 ad9 cy I9 D9 t ∧ mOK L9 a n9 ad9 ∧ (∀ k, k ∈ L9 → k ∈ mL a n9) ∧ (∀ k, k ∈ L9 → A (ad9 k)) ∧ ad9 0 = ad 0 ∧ ad9 41 = ad 41) A) ([.ref (ad 0), .int p1, .int p2] : List Value).toArray s 3 21 A) (F0 m 63 ls2 [.ref (ad2 (20 + b))]) := by
    intro L ad I D H locs ls hM hxb hLy hAL h00 h41 hP hS hl hf
    have hDD : ∀ I D, va_D A (iwM L a b ad cy I D) := fun I D => iwM_D hM hAL I D
    unfold f_X7_mix_mid at hf
    refine lv_astore_n (lv' := [(3, .ref (ad (20 + b))), (0, .ref (ad 0)), (1, .int p1), (2, .int p2)]) hx hb dX7_mix_63 rfl hl (by decide) rfl (fun ls hl => ?_)
    refine lv_aload_n hx hb dX7_mix_64 rfl (lv_at hl 0 rfl) ?_
    refine lv_iload_n hx hb dX7_mix_65 rfl (lv_at hl 2 rfl) ?_
    refine lv_iload_n hx hb dX7_mix_66 rfl (lv_at hl 3 rfl) ?_
    obtain ⟨⟨r_5, I_7, D_8⟩, g_6, hf⟩ := bd_out hf
    obtain ⟨q_9, wq_9, heq_9⟩ := heM_Mixxx (cy := cy) (I := I) (D := D) (ad := ad) (a := a) (b := b) hxb
    have hAW : ∀ q, AM L ad H.size q → A q := fun q h => h.elim (fun ⟨k, k1, k2⟩ => k2 ▸ hAL k k1) (fun h => hA q (Nat.le_trans hS.1 h))
    refine va_calli (va_runV (As := [.int p1, .int p2]) (rest := []) ⟨hx, hb, hml, hown, hts⟩ (mt_X6_putx l dC dI L a b ad cy hM H.size I D b hxb p1 p2 r_5 I_7 D_8 g_6) (cwV 2 hts gX7_mix_X6_put rfl rfl rfl (by decide +kernel) ⟨Nat.le_of_ble_eq_true rfl, Nat.le_of_ble_eq_true rfl⟩) ⟨(wM.pre [.ref (ad (20 + b)), .int p1, .int p2] hP hK hN).1, wM.recv (C := RX6) (T := TX6) (N := 5) hP hK heq_9 rfl, (wM.pre [.ref (ad (20 + b)), .int p1, .int p2] hP hK hN).2⟩ rfl rfl hl.1 rfl (lv_room (Nat.le_of_ble_eq_true rfl)) dX7_mix_67 ⟨Nat.le_of_ble_eq_true rfl, Nat.le_of_ble_eq_true rfl⟩) hS (fun q _ h => hAW q h) hAW (fun r9 u t H1 locs ht hvm hw hB hz1 hk1 hS => ?_)
    subst hw
    have hP : va_P (dC, dI) vwCl (iwM L a b ad cy I_7 D_8) H1 := by rw [← ht]; exact hB.1
    clear hz1 hk1 hvm ht hB
    generalize H1 = H at hP hS ⊢
    refine lv_pop hx hb dX7_mix_70 rfl ?_
    refine lv_aload_n hx hb dX7_mix_71 rfl (lv_at hl 1 rfl) ?_
    obtain ⟨q_10, wq_10, heq_10⟩ := heM_0 (cy := cy) (I := I_7) (D := D_8) hM
    refine va_get (D := (dC, dI)) (ci := 8) (v := .ref (ad 2)) (C := RX7) (T := TX7) (N := 9) hx hb hts iX7_mix_RX7 hown hK hP q_10 heq_10 rfl 2 (by decide) (hts (.fieldLink RX7 16 "OverrunHouseModel" "mixes" "Ljava/util/List;") (List.mem_cons_of_mem _ (List.mem_append_left _ (List.mem_append_left _ (List.mem_append_left _ (List.mem_append_left _ (List.mem_of_getElem? (i := 1) rfl))))))) (fun _ h9 => h9) rfl dX7_mix_72 ?_
    refine lv_aload_n hx hb dX7_mix_75 rfl (lv_at hl 0 rfl) ?_
    obtain ⟨qx, wqx, hex⟩ := heM_Mixxx (cy := cy) (I := I_7) (D := D_8) (ad := ad) (a := a) (b := b) hxb
    have hV := va_rAny hK hP hex (show vwCl[7]? = some (RX6, TX6, 5) from rfl) (castM_asg hcM)
    have hLi : 2 ∈ L := hM.1.2.1 _ (mL_c (by decide))
    have hAdl := va_P_one hP (iwM_mem (a := a) (b := b) (ad := ad) (cy := cy) (I := I_7) (D := D_8) hLi)
    have hql : (ad (20 + b)) < H.size := iwM_lt hP hxb.1
    have hS0 := hS.1
    by_cases c9 : I_7 2 1 = 0
    · have hf := it_t hf c9
      obtain ⟨g1, hf⟩ := ck_out hf
      obtain ⟨g2, hf⟩ := ck_out hf
      have g1 := of_decide_eq_true g1
      have g2 := of_decide_eq_true g2
      have hf7 := hf
      subst g2
      obtain ⟨zI, ezI, hf⟩ := nm_out hf7
      have hAd : va_at (dC, dI) vwCl (ad 2, (.inr (0, [.int (I_7 2 0), .ref (ad 41), .int 0]) : va_E)) H := by
        have h := hAdl
        rw [cellM_2, if_pos c9, g1] at h
        exact h
      have hPc : va_P (dC, dI) vwCl [(ad 2, (.inr (0, [.int (I_7 2 0), .ref (ad 41), .int 0]) : va_E))] H := va_P_all (fun x hx => by rw [List.mem_singleton.mp hx]; exact hAd)
      have hFc : ∀ p, va_A [(ad 2, (.inr (0, [.int (I_7 2 0), .ref (ad 41), .int 0]) : va_E))] H.size p → A p := fun p h => (xA1 h).elim (fun h => h ▸ hAL _ hLi) (fun h => hA p (Nat.le_trans hS.1 h))
      have hNV : ¬ va_A [(ad 2, (.inr (0, [.int (I_7 2 0), .ref (ad 41), .int 0]) : va_E))] H.size (ad (20 + 0)) := fun h => (xA1 h).elim (fun h => absurd (hM.1.2.2 _ _ hLi hxb.1 h) (by decide)) (fun h => Nat.lt_irrefl _ (Nat.lt_of_lt_of_le hql h))
      have hZ1 : va_Z "java/util/ArrayList" "DEFAULTCAPACITY_EMPTY_ELEMENTDATA" "[Ljava/lang/Object;" (.ref (ad 41)) A s s.heap := by rw [h41]; exact hZ
      have hT1 : va_T (.object "java/lang/Object") (ad 41) 0 (fun _ => .null) A s s.heap := by rw [h41]; exact hT
      refine va_callFi (va_runF (As := [.ref (ad (20 + 0))]) (rest := []) (hK.1 0 _ rfl).2 ⟨hx, hb, hml, hown, hts⟩ (ml_F_add l dC dI cy (ad 2) (ad 41) (ad (20 + 0)) (I_7 2 0) H.size) (va_cwF 1 hts gX7_mix_Jx4a65c_add_9ea2d_f73Jx4a65c rfl rfl rfl hN.2.2.2 (by decide +kernel) ⟨(Nat.le_of_ble_eq_true rfl), (Nat.le_of_ble_eq_true rfl)⟩) ⟨fun a U g mk q => by obtain ⟨q0, q1, q2, q3, q4, q5, q6, q7, q8, q9⟩ := q; exact ⟨q0, q1, q2, va_K.moved (u := U) (U := U.calling g mk a) (Vm.Alike.refl U.vm) q3, q4, va_AO.moved (u := U) (U := U.calling g mk a) (Vm.Alike.refl U.vm) q5, va_Z.moved (u := U) (U := U.calling g mk a) (Vm.Alike.refl U.vm) q6, va_T.moved (u := U) (U := U.calling g mk a) (Vm.Alike.refl U.vm) q7, va_Any.moved (u := U) (U := U.calling g mk a) (Vm.Alike.refl U.vm) q8, q9⟩, va_recv hK hPc (q0 := 0) (q := (RJx4a65c, TJx4a65c, 3)) rfl rfl, fun U hU hW1 => ⟨rfl, by rw [hU], by rw [hU]; exact hPc, va_K.moved hW1.alike hK, vaD1 _, hO.moved hW1.alike, by rw [hU]; exact va_Z.moved hW1.alike ((hZ1.kept hS.2.1).narrow hFc), by rw [hU]; exact va_T.moved hW1.alike ((hT1.kept hS.2.1).narrow hFc), by rw [hU]; exact va_Any.moved hW1.alike hV, hNV⟩⟩ rfl rfl hl.1 rfl (lv_room (Nat.le_of_ble_eq_true rfl)) dX7_mix_76 ⟨(Nat.le_of_ble_eq_true rfl), (Nat.le_of_ble_eq_true rfl)⟩) hS (fun q _ h => hFc q h) hFc (fun r9 u t H1 locs ht hvm hw hB hz1 hk1 hS => ?_)
      subst hw
      obtain ⟨zz, hP1, hD1⟩ := hB
      rw [ht] at hP1
      have hz : H.size ≤ zz := (xA1 (hD1.2 1 _ rfl)).elim (fun h => absurd (hD1.1 0 1 _ _ rfl rfl h) (by decide)) (fun h => h)
      obtain ⟨hPn, hMn, hLn⟩ := grow2F hM hLy hxb.1 hxb.2.1 hP hk1 g1 hP1 hz
      rw [← ezI] at hPn
      refine W.widen (k := 3) (n := 21) (Nat.le_of_ble_eq_true rfl) (Nat.le_of_ble_eq_true rfl) ?_
      exact tail _ 1 _ zI D_8 _ _ ls hMn (fun k hk => by
        rcases List.mem_append.mp hk with h | h
        · rw [adG_ne (fun e => by
            rcases hLy k h with h | h | h
            · have h9 := mL_iff.mp h
              omega
            · omega
            · omega)]
          exact hAL k h
        · rw [List.mem_singleton.mp h, adG_at]; exact hA _ (Nat.le_trans hS0 hz)) hLn h00 h41 hPn hS (lv_sub hl [1] rfl) hf
    · have hf := it_f hf c9
      obtain ⟨g1, hf⟩ := ck_out hf
      obtain ⟨g2, hf⟩ := ck_out hf
      obtain ⟨g3, hf⟩ := ck_out hf
      obtain ⟨g4, hf⟩ := ck_out hf
      obtain ⟨g5, hf⟩ := ck_out hf
      have g2 := of_decide_eq_true g2
      have g3 := of_decide_eq_true g3
      have g4 := of_decide_eq_true g4
      have g5 := of_decide_eq_true g5
      obtain ⟨zI, ezI, hf⟩ := nm_out hf
      have hL3 : 4 ∈ L := hM.1.2.1 _ (mL_4 g4)
      have hAd : va_at (dC, dI) vwCl (ad 2, (.inr (0, [.int (I_7 2 0), .ref (ad 4), .int (I_7 2 2)]) : va_E)) H := by
        have h := hAdl
        rw [cellM_2, if_neg c9] at h
        exact h
      have hAd3 : va_at (dC, dI) vwCl (ad 4, (.inl (cy 7, 10, .inr (.inr (.inr (.inr (fun j => if j < b then some (ad (20 + j)) else none))))) : va_E)) H := va_P_one hP (iwM_mem (a := a) (b := b) (ad := ad) (cy := cy) (I := I_7) (D := D_8) hL3)
      have hPc : va_P (dC, dI) vwCl [(ad 2, (.inr (0, [.int (I_7 2 0), .ref (ad 4), .int (I_7 2 2)]) : va_E)), (ad 4, (.inl (cy 7, 10, .inr (.inr (.inr (.inr (fun j => if j < b then some (ad (20 + j)) else none))))) : va_E))] H := va_P_all (fun x hx => by rcases List.mem_cons.mp hx with rfl | hx; exact hAd; rw [List.mem_singleton.mp hx]; exact hAd3)
      have hFc : ∀ p, va_A [(ad 2, (.inr (0, [.int (I_7 2 0), .ref (ad 4), .int (I_7 2 2)]) : va_E)), (ad 4, (.inl (cy 7, 10, .inr (.inr (.inr (.inr (fun j => if j < b then some (ad (20 + j)) else none))))) : va_E))] H.size p → A p := fun p h => (xA2 h).elim (fun h => h ▸ hAL _ hLi) (fun h => h.elim (fun h => h ▸ hAL _ hL3) (fun h => hA p (Nat.le_trans hS.1 h)))
      have hNV : ¬ va_A [(ad 2, (.inr (0, [.int (I_7 2 0), .ref (ad 4), .int (I_7 2 2)]) : va_E)), (ad 4, (.inl (cy 7, 10, .inr (.inr (.inr (.inr (fun j => if j < b then some (ad (20 + j)) else none))))) : va_E))] H.size (ad (20 + b)) := fun h => (xA2 h).elim (fun h => absurd (hM.1.2.2 _ _ hLi hxb.1 h) (by omega)) (fun h => h.elim (fun h => absurd (hM.1.2.2 _ _ hL3 hxb.1 h) (by omega)) (fun h => Nat.lt_irrefl _ (Nat.lt_of_lt_of_le hql h)))
      have hDc : va_D (fun _ => True) [(ad 2, (.inr (0, [.int (I_7 2 0), .ref (ad 4), .int (I_7 2 2)]) : va_E)), (ad 4, (.inl (cy 7, 10, .inr (.inr (.inr (.inr (fun j => if j < b then some (ad (20 + j)) else none))))) : va_E))] := vaD2 (fun e => absurd (hM.1.2.2 _ _ hLi hL3 e) (by decide))
      refine va_callFi (va_runF (As := [.ref (ad (20 + b))]) (rest := []) (hK.1 0 _ rfl).2 ⟨hx, hb, hml, hown, hts⟩ (ml_S_add l dC dI cy (ad 2) (ad 4) (ad (20 + b)) (I_7 2 0) (I_7 2 2) (fun j => if j < b then some (ad (20 + j)) else none) H.size (inB_in g1) g2) (va_cwF 1 hts gX7_mix_Jx4a65c_add_9ea2d_f73Jx4a65c rfl rfl rfl hN.2.2.2 (by decide +kernel) ⟨(Nat.le_of_ble_eq_true rfl), (Nat.le_of_ble_eq_true rfl)⟩) ⟨fun a U g mk q => by obtain ⟨q0, q1, q2, q3, q4, q5, q6⟩ := q; exact ⟨q0, q1, q2, va_K.moved (u := U) (U := U.calling g mk a) (Vm.Alike.refl U.vm) q3, q4, va_Any.moved (u := U) (U := U.calling g mk a) (Vm.Alike.refl U.vm) q5, q6⟩, va_recv hK hPc (q0 := 0) (q := (RJx4a65c, TJx4a65c, 3)) rfl rfl, fun U hU hW1 => ⟨rfl, by rw [hU], by rw [hU]; exact hPc, va_K.moved hW1.alike hK, hDc, by rw [hU]; exact va_Any.moved hW1.alike hV, hNV⟩⟩ rfl rfl hl.1 rfl (lv_room (Nat.le_of_ble_eq_true rfl)) dX7_mix_76 ⟨(Nat.le_of_ble_eq_true rfl), (Nat.le_of_ble_eq_true rfl)⟩) hS (fun q _ h => hFc q h) hFc (fun r9 u t H1 locs ht hvm hw hB hz1 hk1 hS => ?_)
      subst hw
      obtain ⟨hP1, hD1⟩ := hB
      rw [ht] at hP1
      rw [g3] at hP1
      obtain ⟨hPn, hMn, hLn⟩ := grow2S hM hLy g4 g5 hxb.1 hxb.2.1 hP hk1 hP1
      rw [← ezI] at hPn
      refine W.widen (k := 3) (n := 21) (Nat.le_of_ble_eq_true rfl) (Nat.le_of_ble_eq_true rfl) ?_
      exact tail _ (b + 1) _ zI D_8 _ _ ls hMn hAL hLn h00 h41 hPn hS (lv_sub hl [1] rfl) hf
  suffices hgo : W p l e (headSpec wsX7_mix ({ frames := 5, cells := 3, slots := 21, locals := 101 })).room s m ([.ref (ad 0), .int p1, .int p2] : List Value).toArray below meth c H [] 0 0 (MQ below (va_Qi (fun r (_ : Unit) => rr = r) (fun _ t => ∃ (L9 : List Nat) (ad9 : Nat → Nat), wM dC dI L9 a n9 ad9 cy I9 D9 t ∧ mOK L9 a n9 ad9 ∧ (∀ k, k ∈ L9 → k ∈ mL a n9) ∧ (∀ k, k ∈ L9 → A (ad9 k)) ∧ ad9 0 = ad 0 ∧ ad9 41 = ad 41) A) ([.ref (ad 0), .int p1, .int p2] : List Value).toArray s 3 21 A) (entryFrame m ([.ref (ad 0), .int p1, .int p2] : List Value).toArray 4) by rw [← hH]; exact hgo
  clear hH
  have hl := lv_entry ([.ref (ad 0), .int p1, .int p2]) (n := 4) (Nat.le_of_ble_eq_true rfl)
  rw [lg_entry_eq]
  generalize (lg_sl ([.ref (ad 0), .int p1, .int p2]) ++ List.replicate (4 - (lg_sl ([.ref (ad 0), .int p1, .int p2])).length) Slot.unset).toArray = ls at hl ⊢
  have hl : lv_has ls 4 [(0, .ref (ad 0)), (1, .int p1), (2, .int p2)] := hl
  unfold f_X7_mix at hf
  refine lv_aload_n hx hb dX7_mix_0 rfl (lv_at hl 0 rfl) ?_
  refine lv_iconst (v := 0) hx hb dX7_mix_1 (by decide) ?_
  obtain ⟨q_11, wq_11, heq_11⟩ := heM_0 (cy := cy) (I := I) (D := D) hM
  obtain ⟨I_12, eI_12, hf⟩ := nm_out hf
  refine va_put (D := (dC, dI)) (ci := 8) (v := .int 0) (ty := .int) (C := RX7) (T := TX7) (N := 9) hx hb hts iX7_mix_RX7 tyX7 tyX7_ok nmX7 hown hK hP (hDD I D) hS q_11 heq_11 rfl 0 (by decide) (hts (.fieldLink RX7 32 "OverrunHouseModel" "thrown" "I") (List.mem_cons_of_mem _ (List.mem_append_left _ (List.mem_append_left _ (List.mem_append_left _ (List.mem_append_left _ (List.mem_of_getElem? (i := 0) rfl))))))) (fun _ h9 => h9) rfl (by decide +kernel) rfl rfl (Nat.le_of_ble_eq_true rfl) dX7_mix_2 (fun H locs hP _ hS => ?_)
  have hP : va_P (dC, dI) vwCl (iwM L a b ad cy I_12 D) H := by rw [eI_12]; exact hqI hM wq_11 ((cellM_0 ad cy a b _ _).trans rfl) hP
  refine lv_aload_n hx hb dX7_mix_5 rfl (lv_at hl 0 rfl) ?_
  refine lv_iload_n hx hb dX7_mix_6 rfl (lv_at hl 1 rfl) ?_
  obtain ⟨r_13, g_14, hf⟩ := bd_out hf
  obtain ⟨q_15, wq_15, heq_15⟩ := heM_0 (cy := cy) (I := I_12) (D := D) hM
  refine va_calli (va_runV (As := [.int p1]) (rest := []) ⟨hx, hb, hml, hown, hts⟩ (mt_X7_isIngredient l dC dI L a b ad cy hM H.size I_12 D p1 r_13 g_14) (cwV 1 hts gX7_mix_X7_isIngredient rfl rfl rfl (by decide +kernel) ⟨Nat.le_of_ble_eq_true rfl, Nat.le_of_ble_eq_true rfl⟩) ⟨(wM.pre [.ref (ad 0), .int p1] hP hK hN).1, wM.recv (C := RX7) (T := TX7) (N := 9) hP hK heq_15 rfl, (wM.pre [.ref (ad 0), .int p1] hP hK hN).2⟩ rfl rfl hl.1 rfl (lv_room (Nat.le_of_ble_eq_true rfl)) dX7_mix_7 ⟨Nat.le_of_ble_eq_true rfl, Nat.le_of_ble_eq_true rfl⟩) hS (fun q _ h => hA q (Nat.le_trans hS.1 h)) (fun q h => hA q (Nat.le_trans hS.1 h)) (fun r9 u t H1 locs ht hvm hw hB hz1 hk1 hS => ?_)
  subst hw
  have hP := va_Pnew hP hk1
  clear hz1 hk1 hvm ht hB
  generalize H1 = H at hP hS ⊢
  refine lv_if_ne (tgt := 19) hx hb dX7_mix_10 (by decide) (fun c_16 => ?_) (fun c_16 => ?_)
  · have hf := it_f hf c_16
    refine lv_iload_n hx hb dX7_mix_19 rfl (lv_at hl 2 rfl) ?_
    refine lv_iconst (v := 1) hx hb dX7_mix_20 (by decide) ?_
    refine lv_sipush (v := 500) hx hb dX7_mix_21 (by decide) ?_
    obtain ⟨r_17, g_18, hf⟩ := bd_out hf
    refine va_calli (va_runS (As := [.int p2, .int 1, .int 500]) (rest := []) ⟨hx, hb, hml, hown, hts⟩ (mt_X7_in l H.size p2 1 500 r_17 g_18) (va_cwS 3 hts gX7_mix_X7_in rfl rfl rfl (by decide +kernel) ⟨Nat.le_of_ble_eq_true rfl, Nat.le_of_ble_eq_true rfl⟩) (pre0 [.int p2, .int 1, .int 500]) rfl rfl hl.1 rfl (lv_room (Nat.le_of_ble_eq_true rfl)) dX7_mix_24 ⟨Nat.le_of_ble_eq_true rfl, Nat.le_of_ble_eq_true rfl⟩) hS (fun q _ h => hA q (Nat.le_trans hS.1 h)) (fun q h => hA q (Nat.le_trans hS.1 h)) (fun r9 u t H1 locs ht hvm hw hB hz1 hk1 hS => ?_)
    subst hw
    have hP := va_Pnew hP hk1
    clear hz1 hk1 hvm ht hB
    generalize H1 = H at hP hS ⊢
    refine lv_if_ne (tgt := 36) hx hb dX7_mix_27 (by decide) (fun c_19 => ?_) (fun c_19 => ?_)
    · have hf := it_f hf c_19
      refine lv_aload_n hx hb dX7_mix_36 rfl (lv_at hl 0 rfl) ?_
      obtain ⟨q_20, wq_20, heq_20⟩ := heM_0 (cy := cy) (I := I_12) (D := D) hM
      refine va_get (D := (dC, dI)) (ci := 8) (v := .ref (ad 2)) (C := RX7) (T := TX7) (N := 9) hx hb hts iX7_mix_RX7 hown hK hP q_20 heq_20 rfl 2 (by decide) (hts (.fieldLink RX7 16 "OverrunHouseModel" "mixes" "Ljava/util/List;") (List.mem_cons_of_mem _ (List.mem_append_left _ (List.mem_append_left _ (List.mem_append_left _ (List.mem_append_left _ (List.mem_of_getElem? (i := 1) rfl))))))) (fun _ h9 => h9) rfl dX7_mix_37 ?_
      obtain ⟨r_21, g_22, hf⟩ := bd_out hf
      obtain ⟨q_23, wq_23, heq_23⟩ := heM_2 (cy := cy) (I := I_12) (D := D) hM
      refine va_callFi (va_runF (As := []) (rest := []) (hK.1 0 _ rfl).2 ⟨hx, hb, hml, hown, hts⟩ (mt_size2 l dC dI L a b ad cy hM H.size I_12 D  r_21 g_22) (va_cwF 0 hts gX7_mix_Jx4a65c_size_8abf5_f36Jx4a65c rfl rfl rfl hN.2.1 (by decide +kernel) ⟨Nat.le_of_ble_eq_true rfl, Nat.le_of_ble_eq_true rfl⟩) ⟨(wM.pre [.ref (ad 2)] hP hK hN).1, wM.recv (C := RJx4a65c) (T := TJx4a65c) (N := 3) hP hK heq_23 rfl, (wM.pre [.ref (ad 2)] hP hK hN).2⟩ rfl rfl hl.1 rfl (lv_room (Nat.le_of_ble_eq_true rfl)) dX7_mix_40 ⟨Nat.le_of_ble_eq_true rfl, Nat.le_of_ble_eq_true rfl⟩) hS (fun q _ h => hA q (Nat.le_trans hS.1 h)) (fun q h => hA q (Nat.le_trans hS.1 h)) (fun r9 u t H1 locs ht hvm hw hB hz1 hk1 hS => ?_)
      subst hw
      have hP := va_Pnew hP hk1
      clear hz1 hk1 hvm ht hB
      generalize H1 = H at hP hS ⊢
      refine lv_iconst (v := 5) hx hb dX7_mix_45 (by decide) ?_
      refine lv_icmp_ne (tgt := 55) hx hb dX7_mix_46 (by decide) (fun c_24 => ?_) (fun c_24 => ?_)
      · have hf := it_f hf c_24
        obtain ⟨hb5, hf⟩ := ck_out hf
        have hb5 := of_decide_eq_true hb5
        refine va_new (ci := 7) (fs := [.null, .int 0, .int 0, .int 0, .null]) (C := RX6) (T := TX6) (N := 5) hx hb hts iX7_mix_RX6 tyX6 tyX6_ok hown (hts (.classLink RX7 59 RX6) (List.mem_cons_of_mem _ (List.mem_append_left _ (List.mem_append_left _ (List.mem_append_left _ (List.mem_append_left _ (List.mem_of_getElem? (i := 2) rfl))))))) (hts (.instantiable RX6 5) (List.mem_cons_of_mem _ (List.mem_append_left _ (List.mem_append_left _ (List.mem_append_left _ (List.mem_append_left _ (List.mem_of_getElem? (i := 3) rfl))))))) (hts (.initialized RX6) (List.mem_cons_of_mem _ (List.mem_append_left _ (List.mem_append_left _ (List.mem_append_left _ (List.mem_append_left _ (List.mem_of_getElem? (i := 4) rfl))))))) hK hP (hDD I_12 D) hS hA rfl (fun j hj => nw_Mixx j hj) (Nat.le_of_ble_eq_true rfl) (Nat.le_of_ble_eq_true rfl) dX7_mix_55 (fun q0 H hP hD hS => ?_)
        refine lv_dup hx hb dX7_mix_58 rfl ?_
        refine lv_aload_n hx hb dX7_mix_59 rfl (lv_at hl 0 rfl) ?_
        have hPm := va_Pl hP
        have hPc : va_P (dC, dI) vwCl [(q0, .inr (7, [.null, .int 0, .int 0, .int 0, .null]))] H := va_Pr hP
        have hDc : va_D A [(q0, .inr (7, [.null, .int 0, .int 0, .int 0, .null]))] := va_Dr hD
        have hn0 : ∀ k, k ∈ L → ad k ≠ q0 := fun k hk e => va_Dx hD (List.getElem?_of_mem (iwM_mem hk)).choose_spec (show [(q0, (_ : va_E))][0]? = some _ from rfl) e
        have hFc : ∀ q, va_A [(q0, .inr (7, [.null, .int 0, .int 0, .int 0, .null]))] H.size q → A q := fun q h => (xA1 h).elim (fun h => h ▸ hDc.2 0 _ rfl) (fun h => hA q (Nat.le_trans hS.1 h))
        have hlt : ∀ k, k ∈ L → ad k < H.size := fun k hk => iwM_lt hPm hk
        refine va_callv (va_runIN (As := [.ref (ad 0)]) (rest := [.ref q0]) ⟨hx, hb, hml, hown, hts⟩ (mi_X6_init l dC dI cy q0 (ad 0) H.size) ⟨va_cnB 1 hts gX7_mix_X6_init_n81 rfl rfl rfl (hN.1 (.methodLinkNest "OverrunHouseModel" 81 ⟨"OverrunHouseModel$Mix", "<init>", "(LOverrunHouseModel;)V"⟩ "OverrunHouseModel") (List.mem_of_getElem? (i := 45) rfl)) (hts (.initialized RX6) (List.mem_cons_of_mem _ (List.mem_append_left _ (List.mem_append_left _ (List.mem_append_left _ (List.mem_append_left _ (List.mem_of_getElem? (i := 4) rfl))))))) (by decide +kernel) ⟨(Nat.le_of_ble_eq_true rfl), (Nat.le_of_ble_eq_true rfl)⟩, rfl, (hts (.instanceMethod yX6_init) (List.mem_cons_of_mem _ (List.mem_append_left _ (List.mem_append_left _ (List.mem_append_left _ (List.mem_append_right _ (List.mem_append_left _ (List.mem_of_getElem? (i := 0) rfl))))))))⟩ (⟨fun a U g mk q => by obtain ⟨q0, q1, q2, q3, q4⟩ := q; exact ⟨q0, q1, q2, va_K.moved (u := U) (U := U.calling g mk a) (Vm.Alike.refl U.vm) q3, q4⟩, fun U hU hW1 => ⟨rfl, by rw [hU], by rw [hU]; exact hPc, va_K.moved hW1.alike hK, vaD1 _⟩⟩) rfl rfl hl.1 rfl (lv_room (Nat.le_of_ble_eq_true rfl)) dX7_mix_60 ⟨(Nat.le_of_ble_eq_true rfl), (Nat.le_of_ble_eq_true rfl)⟩) hS (fun q _ h => hFc q h) hFc (fun u t H1 locs ht hvm hw hB hz1 hk1 hS => ?_)
        obtain ⟨q1, hP1, hD1⟩ := hB
        rw [ht] at hP1
        have hq1 : q0 ≠ q1 := fun e => absurd (hD1.1 0 1 _ _ rfl rfl e) (by decide)
        have hz : H.size ≤ q1 := (xA1 (hD1.2 1 _ rfl)).elim (fun h => absurd h hq1) (fun h => h)
        have hPm := va_Pkeep hPm (fun k x hk h => by
          obtain ⟨j, hj, hjx⟩ := List.mem_map.mp (List.mem_of_getElem? hk)
          have e8 : ad j = x.1 := congrArg Prod.fst hjx
          rcases xA1 h with h | h
          · exact hn0 j hj (e8.trans h.symm)
          · have := hlt j hj
            omega) hk1
        obtain ⟨hPn, hMn, hxb, hLn⟩ := growX hM hLx hb5 hPm hP1 hn0 (fun k hk e => by have := hlt k hk; omega) hq1
        have hA1q : A q1 := hFc _ (hD1.2 1 _ rfl)
        have hA0q : A q0 := hDc.2 0 _ rfl
        obtain ⟨zI, ezI, hf⟩ := nm_out hf
        rw [← ezI] at hPn
        refine W.eq (g2 := F0 m 63 ls [.ref (adG (adG ad (20 + b) q0) (25 + b) q1 (20 + b))]) (by rw [show adG (adG ad (20 + b) q0) (25 + b) q1 (20 + b) = q0 from (adG_ne (by omega)).trans adG_at]) ?_
        exact mid _ _ zI D _ _ ls hMn hxb hLn (fun k hk => by
          rcases List.mem_append.mp hk with h | h
          · have h9 := mL_iff.mp (hLx k h)
            have h8 := hM.2
            rw [adG_ne (by omega), adG_ne (by omega)]; exact hAL k h
          · rcases List.mem_cons.mp h with rfl | h
            · rw [(adG_ne (by omega)).trans adG_at]; exact hA0q
            · rw [List.mem_singleton.mp h, adG_at]; exact hA1q) ((adG_ne (by omega)).trans (adG_ne (by omega))) ((adG_ne (by omega)).trans (adG_ne (by omega))) hPn hS (by rw [show adG (adG ad (20 + b) q0) (25 + b) q1 0 = ad 0 from (adG_ne (by omega)).trans (adG_ne (by omega))]; exact lv_sub hl [0, 1, 2] rfl) hf
      · have hf := it_t hf c_24
        refine lv_aload_n hx hb dX7_mix_49 rfl (lv_at hl 0 rfl) ?_
        refine lv_iconst (v := 3) hx hb dX7_mix_50 (by decide) ?_
        obtain ⟨⟨r_25, I_27, D_28⟩, g_26, hf⟩ := bd_out hf
        obtain ⟨q_29, wq_29, heq_29⟩ := heM_0 (cy := cy) (I := I_12) (D := D) hM
        have hAW : ∀ q, AM L ad H.size q → A q := fun q h => h.elim (fun ⟨k, k1, k2⟩ => k2 ▸ hAL k k1) (fun h => hA q (Nat.le_trans hS.1 h))
        refine va_calli (va_runV (As := [.int 3]) (rest := []) ⟨hx, hb, hml, hown, hts⟩ (mt_X7_no l dC dI L a b ad cy hM H.size I_12 D 3 r_25 I_27 D_28 g_26) (cwV 1 hts gX7_mix_X7_no rfl rfl rfl (by decide +kernel) ⟨Nat.le_of_ble_eq_true rfl, Nat.le_of_ble_eq_true rfl⟩) ⟨(wM.pre [.ref (ad 0), .int 3] hP hK hN).1, wM.recv (C := RX7) (T := TX7) (N := 9) hP hK heq_29 rfl, (wM.pre [.ref (ad 0), .int 3] hP hK hN).2⟩ rfl rfl hl.1 rfl (lv_room (Nat.le_of_ble_eq_true rfl)) dX7_mix_51 ⟨Nat.le_of_ble_eq_true rfl, Nat.le_of_ble_eq_true rfl⟩) hS (fun q _ h => hAW q h) hAW (fun r9 u t H1 locs ht hvm hw hB hz1 hk1 hS => ?_)
        subst hw
        have hP : va_P (dC, dI) vwCl (iwM L a b ad cy I_27 D_28) H1 := by rw [← ht]; exact hB.1
        clear hz1 hk1 hvm ht hB
        generalize H1 = H at hP hS ⊢
        have hf := Option.some.inj hf
        obtain ⟨q1, q2⟩ := Prod.mk.inj hf
        obtain ⟨q2, q3⟩ := Prod.mk.inj q2
        obtain ⟨q3, q4⟩ := Prod.mk.inj q3
        subst q2
        rw [q3, q4] at hP
        refine W.widen (k := 3) (n := 21) (Nat.le_of_ble_eq_true rfl) (Nat.le_of_ble_eq_true rfl) ?_
        exact W.iret (v := r_25) hx hb hr (fun t ht hW9 => ⟨⟨r_25, (), rfl, q1.symm, L, ad, wM.of hP hK hN ht hW9, hM, hLx, hAL, h00, h41⟩, hS.F ht⟩) hS.2.2 dX7_mix_54
    · have hf := it_t hf c_19
      refine lv_aload_n hx hb dX7_mix_30 rfl (lv_at hl 0 rfl) ?_
      refine lv_iconst (v := 2) hx hb dX7_mix_31 (by decide) ?_
      obtain ⟨⟨r_30, I_32, D_33⟩, g_31, hf⟩ := bd_out hf
      obtain ⟨q_34, wq_34, heq_34⟩ := heM_0 (cy := cy) (I := I_12) (D := D) hM
      have hAW : ∀ q, AM L ad H.size q → A q := fun q h => h.elim (fun ⟨k, k1, k2⟩ => k2 ▸ hAL k k1) (fun h => hA q (Nat.le_trans hS.1 h))
      refine va_calli (va_runV (As := [.int 2]) (rest := []) ⟨hx, hb, hml, hown, hts⟩ (mt_X7_no l dC dI L a b ad cy hM H.size I_12 D 2 r_30 I_32 D_33 g_31) (cwV 1 hts gX7_mix_X7_no rfl rfl rfl (by decide +kernel) ⟨Nat.le_of_ble_eq_true rfl, Nat.le_of_ble_eq_true rfl⟩) ⟨(wM.pre [.ref (ad 0), .int 2] hP hK hN).1, wM.recv (C := RX7) (T := TX7) (N := 9) hP hK heq_34 rfl, (wM.pre [.ref (ad 0), .int 2] hP hK hN).2⟩ rfl rfl hl.1 rfl (lv_room (Nat.le_of_ble_eq_true rfl)) dX7_mix_32 ⟨Nat.le_of_ble_eq_true rfl, Nat.le_of_ble_eq_true rfl⟩) hS (fun q _ h => hAW q h) hAW (fun r9 u t H1 locs ht hvm hw hB hz1 hk1 hS => ?_)
      subst hw
      have hP : va_P (dC, dI) vwCl (iwM L a b ad cy I_32 D_33) H1 := by rw [← ht]; exact hB.1
      clear hz1 hk1 hvm ht hB
      generalize H1 = H at hP hS ⊢
      have hf := Option.some.inj hf
      obtain ⟨q1, q2⟩ := Prod.mk.inj hf
      obtain ⟨q2, q3⟩ := Prod.mk.inj q2
      obtain ⟨q3, q4⟩ := Prod.mk.inj q3
      subst q2
      rw [q3, q4] at hP
      refine W.widen (k := 3) (n := 21) (Nat.le_of_ble_eq_true rfl) (Nat.le_of_ble_eq_true rfl) ?_
      exact W.iret (v := r_30) hx hb hr (fun t ht hW9 => ⟨⟨r_30, (), rfl, q1.symm, L, ad, wM.of hP hK hN ht hW9, hM, hLx, hAL, h00, h41⟩, hS.F ht⟩) hS.2.2 dX7_mix_35
  · have hf := it_t hf c_16
    refine lv_aload_n hx hb dX7_mix_13 rfl (lv_at hl 0 rfl) ?_
    refine lv_iconst (v := 1) hx hb dX7_mix_14 (by decide) ?_
    obtain ⟨⟨r_35, I_37, D_38⟩, g_36, hf⟩ := bd_out hf
    obtain ⟨q_39, wq_39, heq_39⟩ := heM_0 (cy := cy) (I := I_12) (D := D) hM
    have hAW : ∀ q, AM L ad H.size q → A q := fun q h => h.elim (fun ⟨k, k1, k2⟩ => k2 ▸ hAL k k1) (fun h => hA q (Nat.le_trans hS.1 h))
    refine va_calli (va_runV (As := [.int 1]) (rest := []) ⟨hx, hb, hml, hown, hts⟩ (mt_X7_no l dC dI L a b ad cy hM H.size I_12 D 1 r_35 I_37 D_38 g_36) (cwV 1 hts gX7_mix_X7_no rfl rfl rfl (by decide +kernel) ⟨Nat.le_of_ble_eq_true rfl, Nat.le_of_ble_eq_true rfl⟩) ⟨(wM.pre [.ref (ad 0), .int 1] hP hK hN).1, wM.recv (C := RX7) (T := TX7) (N := 9) hP hK heq_39 rfl, (wM.pre [.ref (ad 0), .int 1] hP hK hN).2⟩ rfl rfl hl.1 rfl (lv_room (Nat.le_of_ble_eq_true rfl)) dX7_mix_15 ⟨Nat.le_of_ble_eq_true rfl, Nat.le_of_ble_eq_true rfl⟩) hS (fun q _ h => hAW q h) hAW (fun r9 u t H1 locs ht hvm hw hB hz1 hk1 hS => ?_)
    subst hw
    have hP : va_P (dC, dI) vwCl (iwM L a b ad cy I_37 D_38) H1 := by rw [← ht]; exact hB.1
    clear hz1 hk1 hvm ht hB
    generalize H1 = H at hP hS ⊢
    have hf := Option.some.inj hf
    obtain ⟨q1, q2⟩ := Prod.mk.inj hf
    obtain ⟨q2, q3⟩ := Prod.mk.inj q2
    obtain ⟨q3, q4⟩ := Prod.mk.inj q3
    subst q2
    rw [q3, q4] at hP
    refine W.widen (k := 3) (n := 21) (Nat.le_of_ble_eq_true rfl) (Nat.le_of_ble_eq_true rfl) ?_
    exact W.iret (v := r_35) hx hb hr (fun t ht hW9 => ⟨⟨r_35, (), rfl, q1.symm, L, ad, wM.of hP hK hN ht hW9, hM, hLx, hAL, h00, h41⟩, hS.F ht⟩) hS.2.2 dX7_mix_18
