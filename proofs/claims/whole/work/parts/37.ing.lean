theorem lastG {α : Type} (w : List α) (x : α) : (w ++ [x])[w.length]? = some x := by
  rw [List.getElem?_append_right (Nat.le_refl _), Nat.sub_self]
  rfl
theorem lastS {α : Type} {w : List α} {x y : α} : (w ++ [x]).set w.length y = w ++ [y] := by
  rw [List.set_append_right _ _ (Nat.le_refl _), Nat.sub_self]
  rfl
theorem vaD1 (x : Nat × va_E) : va_D (fun _ => True) [x] := by
  refine ⟨fun i j p q hi hj _ => ?_, fun _ _ _ => trivial⟩
  have h1 := (List.getElem?_eq_some_iff.mp hi).1
  have h2 := (List.getElem?_eq_some_iff.mp hj).1
  have h1 : i < 1 := h1
  have h2 : j < 1 := h2
  omega
theorem vaD2 {x y : Nat × va_E} (h : x.1 ≠ y.1) : va_D (fun _ => True) [x, y] := by
  refine ⟨fun i j p q hi hj e => ?_, fun _ _ _ => trivial⟩
  have h1 := (List.getElem?_eq_some_iff.mp hi).1
  have h2 := (List.getElem?_eq_some_iff.mp hj).1
  have h1 : i < 2 := h1
  have h2 : j < 2 := h2
  by_cases e1 : i = j
  · exact e1
  · exfalso
    by_cases e0 : i = 0
    · have e2 : j = 1 := by omega
      subst e0; subst e2
      rw [← Option.some.inj hi, ← Option.some.inj hj] at e
      exact h e
    · have e2 : i = 1 := by omega
      have e3 : j = 0 := by omega
      subst e2; subst e3
      rw [← Option.some.inj hi, ← Option.some.inj hj] at e
      exact h e.symm
def f_X7_ingredient_tail (a b : Nat) (I : Nat → Nat → Int32) (D : Nat → Nat → UInt64) : Option (Int32 × Nat × (Nat → Nat → Int32) × (Nat → Nat → UInt64)) :=
  bd (f_size1 a b I D ) (fun r_2 => some ((r_2 - 1), a, I, D))
def f_X7_ingredient (a b : Nat) (I : Nat → Nat → Int32) (D : Nat → Nat → UInt64) (p1 : Int32) (p2 : Int32) (p3 : Int32) (p4 : Int32) (p5 : Int32) : Option (Int32 × Nat × (Nat → Nat → Int32) × (Nat → Nat → UInt64)) :=
  nm (up2 I 0 0 0) (fun I_6 => (if p1 < 0 then bd (f_X7_no a b I_6 D 1) (fun (r_8, I_10, D_11) => some (r_8, a, I_10, D_11)) else (if p2 < 0 then bd (f_X7_no a b I_6 D 1) (fun (r_14, I_16, D_17) => some (r_14, a, I_16, D_17)) else (if p3 < 0 then bd (f_X7_no a b I_6 D 1) (fun (r_20, I_22, D_23) => some (r_20, a, I_22, D_23)) else (if 0 < (lg_cmp (((p1).toInt64 + (p2).toInt64) + (p3).toInt64) (1000 : Int64)) then bd (f_X7_no a b I_6 D 1) (fun (r_26, I_28, D_29) => some (r_26, a, I_28, D_29)) else bd (f_X7_in p4 1 99) (fun r_31 => (if r_31 = 0 then bd (f_X7_no a b I_6 D 1) (fun (r_34, I_36, D_37) => some (r_34, a, I_36, D_37)) else bd (f_X7_in p5 0 15) (fun r_39 => (if r_39 = 0 then bd (f_X7_no a b I_6 D 1) (fun (r_59, I_61, D_62) => some (r_59, a, I_61, D_62)) else bd (f_size1 a b I_6 D ) (fun r_43 => (if r_43 = 6 then bd (f_X7_no a b I_6 D 2) (fun (r_54, I_56, D_57) => some (r_54, a, I_56, D_57)) else nm (fun _ => (0 : Int32)) (fun (T_47 : Nat → Int32) => nm (upd T_47 0 p1) (fun T_48 => nm (upd T_48 1 p2) (fun T_49 => nm (upd T_49 2 p3) (fun T_50 => nm (upd T_50 3 p4) (fun T_51 => nm (upd T_51 4 p5) (fun T_52 => if I_6 1 1 = 0 then ck (decide (I_6 1 2 = 0)) (ck (decide (a = 0)) (nm (upR (addI I_6 1) 14 T_52) (fun zI => f_X7_ingredient_tail 1 b zI D))) else ck (inB (I_6 1 2) 10) (ck (decide (¬ I_6 1 2 = 10)) (ck (decide ((I_6 1 2).toNatClampNeg = a)) (ck (decide (0 < a)) (ck (decide (a < 6)) (nm (upR (addI I_6 1) (14 + a) T_52) (fun zI => f_X7_ingredient_tail (a + 1) b zI D)))))))))))))))))))))))
theorem iX7_ingredient_RX7 : ∀ w ∈ u_ws RX7 TX7 9, w ∈ wsX7_ingredient := fun w h => List.mem_cons_of_mem _ (List.mem_append_left _ (List.mem_append_right _ (h)))
set_option maxHeartbeats 4000000 in
set_option maxRecDepth 100000 in
theorem mt_X7_ingredient (l : Launch) (dC : Nat → ClassId) (dI : Nat → Nat → Nat) (L : List Nat) (a b : Nat) (ad : Nat → Nat) (cy : Nat → ClassId) (hM : mOK L a b ad) (hLx : ∀ k, k ∈ L → k ∈ mL a b) (sz : Nat) (I : Nat → Nat → Int32) (D : Nat → Nat → UInt64) (p1 : Int32) (p2 : Int32) (p3 : Int32) (p4 : Int32) (p5 : Int32) (rr : Int32) (n9 : Nat) (I9 : Nat → Nat → Int32) (D9 : Nat → Nat → UInt64) (hf : f_X7_ingredient a b I D p1 p2 p3 p4 p5 = some (rr, n9, I9, D9)) : Met l yX7_ingredient wsX7_ingredient ({ frames := 5, cells := 2, slots := 15, locals := 101 }) (va_Pc [.ref (ad 0), .int p1, .int p2, .int p3, .int p4, .int p5] (fun U => U.heap.size = sz ∧ wM dC dI L a b ad cy I D U ∧ va_Nw (.castable "[I" "java/lang/Object") U ∧ va_Nw (.castable RX6 "java/lang/Object") U ∧ va_AO "java/lang/Object" U ∧ va_Z "java/util/ArrayList" "DEFAULTCAPACITY_EMPTY_ELEMENTDATA" "[Ljava/lang/Object;" (.ref (ad 41)) (AM L ad sz) U U.heap ∧ va_T (.object "java/lang/Object") (ad 41) 0 (fun _ => .null) (AM L ad sz) U U.heap)) (va_Qi (fun r (_ : Unit) => rr = r) (fun _ t => ∃ (L9 : List Nat) (ad9 : Nat → Nat), wM dC dI L9 n9 b ad9 cy I9 D9 t ∧ mOK L9 n9 b ad9 ∧ (∀ k, k ∈ L9 → k ∈ mL n9 b) ∧ (∀ k, k ∈ L9 → (AM L ad sz) (ad9 k)) ∧ ad9 0 = ad 0 ∧ ad9 41 = ad 41) (AM L ad sz)) 2 15 (AM L ad sz) := by
  refine Met.ofW (cc := cX7_ingredient) (maxL := 7) (ret := (some .int)) (by decide) rfl ?_
  intro p e s m args below meth c s₁ B hml hv
  obtain ⟨rfl, hsz, ⟨hP, hK, hN⟩, hcI, hcM, hO, hZ, hT⟩ := hv
  have hx := B.exec
  have hb := B.bytes
  have hr := B.returns
  have hts := atoms_spec (ws := wsX7_ingredient) B.pre
  have hown : s.vm.findClass RX7 = some m.cls := findClass_of_methodNamed B.named
  have hlocks := B.notSynchronized
  subst hsz
  have hA0 : ∀ k, k ∈ L → AM L ad s.heap.size (ad k) := fun k h => Or.inl ⟨k, h, rfl⟩
  have hA1 : ∀ q : Nat, s.heap.size ≤ q → AM L ad s.heap.size q := fun q h => Or.inr h
  generalize hAe : AM L ad s.heap.size = A at hA0 hA1 hZ hT ⊢
  have hA := hA1
  have hAL := hA0
  have hDD : ∀ I D, va_D A (iwM L a b ad cy I D) := fun I D => iwM_D hM hAL I D
  have h00 : ad 0 = ad 0 := rfl
  have h41 : ad 41 = ad 41 := rfl
  obtain ⟨H, hH⟩ : ∃ H : Heap, H = s.heap := ⟨_, rfl⟩
  have hS : va_S A s.heap H [] := by rw [hH]; exact va_S.rf
  rw [← hH] at hP
  have tail : ∀ (L2 : List Nat) (a2 : Nat) (ad2 : Nat → Nat) (I2 : Nat → Nat → Int32) (D2 : Nat → Nat → UInt64) (H2 : Heap) (locs2 : List Loc) (ls2 : Array Slot), mOK L2 a2 b ad2 → (∀ k, k ∈ L2 → A (ad2 k)) → (∀ k, k ∈ L2 → k ∈ mL a2 b) → ad2 0 = ad 0 → ad2 41 = ad 41 → va_P (dC, dI) vwCl (iwM L2 a2 b ad2 cy I2 D2) H2 → va_S A s.heap H2 locs2 → lv_has ls2 7 [(0, .ref (ad2 0))] → f_X7_ingredient_tail a2 b I2 D2 = some (rr, n9, I9, D9) → W p l e (headSpec wsX7_ingredient ({ frames := 5, cells := 2, slots := 15, locals := 101 })).room s m ([.ref (ad 0), .int p1, .int p2, .int p3, .int p4, .int p5] : List Value).toArray below meth c H2 locs2 2 15 (MQ below (va_Qi (fun r (_ : Unit) => rr = r) (fun _ t => ∃ (L9 : List Nat) (ad9 : Nat → Nat), wM dC dI L9 n9 b ad9 cy I9 D9 t ∧ mOK L9 n9 b ad9 ∧ (∀ k, k ∈ L9 → k ∈ mL n9 b) ∧ (∀ k, k ∈ L9 → A (ad9 k)) ∧ ad9 0 = ad 0 ∧ ad9 41 = ad 41) A) ([.ref (ad 0), .int p1, .int p2, .int p3, .int p4, .int p5] : List Value).toArray s 2 15 A) (F0 m 118 ls2 [.int 1]) := by
    intro L a ad I D H locs ls hM hAL hLx h00 h41 hP hS hl hf
    have hDD : ∀ I D, va_D A (iwM L a b ad cy I D) := fun I D => iwM_D hM hAL I D
    unfold f_X7_ingredient_tail at hf
    refine lv_pop hx hb dX7_ingredient_118 rfl ?_
    refine lv_aload_n hx hb dX7_ingredient_119 rfl (lv_at hl 0 rfl) ?_
    obtain ⟨q_1, wq_1, heq_1⟩ := heM_0 (cy := cy) (I := I) (D := D) hM
    refine va_get (D := (dC, dI)) (ci := 8) (v := .ref (ad 1)) (C := RX7) (T := TX7) (N := 9) hx hb hts iX7_ingredient_RX7 hown hK hP q_1 heq_1 rfl 1 (by decide) (hts (.fieldLink RX7 10 "OverrunHouseModel" "ingredients" "Ljava/util/List;") (List.mem_cons_of_mem _ (List.mem_append_left _ (List.mem_append_left _ (List.mem_append_left _ (List.mem_of_getElem? (i := 2) rfl)))))) (fun _ h9 => h9) rfl dX7_ingredient_120 ?_
    obtain ⟨r_2, g_3, hf⟩ := bd_out hf
    obtain ⟨q_4, wq_4, heq_4⟩ := heM_1 (cy := cy) (I := I) (D := D) hM
    refine va_callFi (va_runF (As := []) (rest := []) (hK.1 0 _ rfl).2 ⟨hx, hb, hml, hown, hts⟩ (mt_size1 l dC dI L a b ad cy hM H.size I D  r_2 g_3) (va_cwF 0 hts gX7_ingredient_Jx4a65c_size_8abf5_f36Jx4a65c rfl rfl rfl hN.2.1 (by decide +kernel) ⟨Nat.le_of_ble_eq_true rfl, Nat.le_of_ble_eq_true rfl⟩) ⟨(wM.pre [.ref (ad 1)] hP hK hN).1, wM.recv (C := RJx4a65c) (T := TJx4a65c) (N := 3) hP hK heq_4 rfl, (wM.pre [.ref (ad 1)] hP hK hN).2⟩ rfl rfl hl.1 rfl (lv_room (Nat.le_of_ble_eq_true rfl)) dX7_ingredient_123 ⟨Nat.le_of_ble_eq_true rfl, Nat.le_of_ble_eq_true rfl⟩) hS (fun q _ h => hA q (Nat.le_trans hS.1 h)) (fun q h => hA q (Nat.le_trans hS.1 h)) (fun r9 u t H1 locs ht hvm hw hB hz1 hk1 hS => ?_)
    subst hw
    have hP := va_Pnew hP hk1
    clear hz1 hk1 hvm ht hB
    generalize H1 = H at hP hS ⊢
    refine lv_iconst (v := 1) hx hb dX7_ingredient_128 (by decide) ?_
    refine lv_isub hx hb dX7_ingredient_129 ?_
    have hf := Option.some.inj hf
    obtain ⟨q1, q2⟩ := Prod.mk.inj hf
    obtain ⟨q2, q3⟩ := Prod.mk.inj q2
    obtain ⟨q3, q4⟩ := Prod.mk.inj q3
    subst q2
    rw [q3, q4] at hP
    exact W.iret (v := (r_2 - 1)) hx hb hr (fun t ht hW9 => ⟨⟨(r_2 - 1), (), rfl, q1.symm, L, ad, wM.of hP hK hN ht hW9, hM, hLx, hAL, h00, h41⟩, hS.F ht⟩) hS.2.2 dX7_ingredient_130
  suffices hgo : W p l e (headSpec wsX7_ingredient ({ frames := 5, cells := 2, slots := 15, locals := 101 })).room s m ([.ref (ad 0), .int p1, .int p2, .int p3, .int p4, .int p5] : List Value).toArray below meth c H [] 0 0 (MQ below (va_Qi (fun r (_ : Unit) => rr = r) (fun _ t => ∃ (L9 : List Nat) (ad9 : Nat → Nat), wM dC dI L9 n9 b ad9 cy I9 D9 t ∧ mOK L9 n9 b ad9 ∧ (∀ k, k ∈ L9 → k ∈ mL n9 b) ∧ (∀ k, k ∈ L9 → A (ad9 k)) ∧ ad9 0 = ad 0 ∧ ad9 41 = ad 41) A) ([.ref (ad 0), .int p1, .int p2, .int p3, .int p4, .int p5] : List Value).toArray s 2 15 A) (entryFrame m ([.ref (ad 0), .int p1, .int p2, .int p3, .int p4, .int p5] : List Value).toArray 7) by rw [← hH]; exact hgo
  clear hH
  have hl := lv_entry ([.ref (ad 0), .int p1, .int p2, .int p3, .int p4, .int p5]) (n := 7) (Nat.le_of_ble_eq_true rfl)
  rw [lg_entry_eq]
  generalize (lg_sl ([.ref (ad 0), .int p1, .int p2, .int p3, .int p4, .int p5]) ++ List.replicate (7 - (lg_sl ([.ref (ad 0), .int p1, .int p2, .int p3, .int p4, .int p5])).length) Slot.unset).toArray = ls at hl ⊢
  have hl : lv_has ls 7 [(0, .ref (ad 0)), (1, .int p1), (2, .int p2), (3, .int p3), (4, .int p4), (5, .int p5)] := hl
  unfold f_X7_ingredient at hf
  refine lv_aload_n hx hb dX7_ingredient_0 rfl (lv_at hl 0 rfl) ?_
  refine lv_iconst (v := 0) hx hb dX7_ingredient_1 (by decide) ?_
  obtain ⟨q_5, wq_5, heq_5⟩ := heM_0 (cy := cy) (I := I) (D := D) hM
  obtain ⟨I_6, eI_6, hf⟩ := nm_out hf
  refine va_put (D := (dC, dI)) (ci := 8) (v := .int 0) (ty := .int) (C := RX7) (T := TX7) (N := 9) hx hb hts iX7_ingredient_RX7 tyX7 tyX7_ok nmX7 hown hK hP (hDD I D) hS q_5 heq_5 rfl 0 (by decide) (hts (.fieldLink RX7 32 "OverrunHouseModel" "thrown" "I") (List.mem_cons_of_mem _ (List.mem_append_left _ (List.mem_append_left _ (List.mem_append_left _ (List.mem_of_getElem? (i := 0) rfl)))))) (fun _ h9 => h9) rfl (by decide +kernel) rfl rfl (Nat.le_of_ble_eq_true rfl) dX7_ingredient_2 (fun H locs hP _ hS => ?_)
  have hP : va_P (dC, dI) vwCl (iwM L a b ad cy I_6 D) H := by rw [eI_6]; exact hqI hM wq_5 ((cellM_0 ad cy a b _ _).trans rfl) hP
  refine lv_iload_n hx hb dX7_ingredient_5 rfl (lv_at hl 1 rfl) ?_
  refine lv_if_lt (tgt := 54) hx hb dX7_ingredient_6 (by decide) (fun c_7 => ?_) (fun c_7 => ?_)
  · have hf := it_t hf c_7
    refine lv_aload_n hx hb dX7_ingredient_54 rfl (lv_at hl 0 rfl) ?_
    refine lv_iconst (v := 1) hx hb dX7_ingredient_55 (by decide) ?_
    obtain ⟨⟨r_8, I_10, D_11⟩, g_9, hf⟩ := bd_out hf
    obtain ⟨q_12, wq_12, heq_12⟩ := heM_0 (cy := cy) (I := I_6) (D := D) hM
    have hAW : ∀ q, AM L ad H.size q → A q := fun q h => h.elim (fun ⟨k, k1, k2⟩ => k2 ▸ hAL k k1) (fun h => hA q (Nat.le_trans hS.1 h))
    refine va_calli (va_runV (As := [.int 1]) (rest := []) ⟨hx, hb, hml, hown, hts⟩ (mt_X7_no l dC dI L a b ad cy hM H.size I_6 D 1 r_8 I_10 D_11 g_9) (cwV 1 hts gX7_ingredient_X7_no rfl rfl rfl (by decide +kernel) ⟨Nat.le_of_ble_eq_true rfl, Nat.le_of_ble_eq_true rfl⟩) ⟨(wM.pre [.ref (ad 0), .int 1] hP hK hN).1, wM.recv (C := RX7) (T := TX7) (N := 9) hP hK heq_12 rfl, (wM.pre [.ref (ad 0), .int 1] hP hK hN).2⟩ rfl rfl hl.1 rfl (lv_room (Nat.le_of_ble_eq_true rfl)) dX7_ingredient_56 ⟨Nat.le_of_ble_eq_true rfl, Nat.le_of_ble_eq_true rfl⟩) hS (fun q _ h => hAW q h) hAW (fun r9 u t H1 locs ht hvm hw hB hz1 hk1 hS => ?_)
    subst hw
    have hP : va_P (dC, dI) vwCl (iwM L a b ad cy I_10 D_11) H1 := by rw [← ht]; exact hB.1
    clear hz1 hk1 hvm ht hB
    generalize H1 = H at hP hS ⊢
    have hf := Option.some.inj hf
    obtain ⟨q1, q2⟩ := Prod.mk.inj hf
    obtain ⟨q2, q3⟩ := Prod.mk.inj q2
    obtain ⟨q3, q4⟩ := Prod.mk.inj q3
    subst q2
    rw [q3, q4] at hP
    refine W.widen (k := 2) (n := 15) (Nat.le_of_ble_eq_true rfl) (Nat.le_of_ble_eq_true rfl) ?_
    exact W.iret (v := r_8) hx hb hr (fun t ht hW9 => ⟨⟨r_8, (), rfl, q1.symm, L, ad, wM.of hP hK hN ht hW9, hM, hLx, hAL, h00, h41⟩, hS.F ht⟩) hS.2.2 dX7_ingredient_59
  · have hf := it_f hf c_7
    refine lv_iload_n hx hb dX7_ingredient_9 rfl (lv_at hl 2 rfl) ?_
    refine lv_if_lt (tgt := 54) hx hb dX7_ingredient_10 (by decide) (fun c_13 => ?_) (fun c_13 => ?_)
    · have hf := it_t hf c_13
      refine lv_aload_n hx hb dX7_ingredient_54 rfl (lv_at hl 0 rfl) ?_
      refine lv_iconst (v := 1) hx hb dX7_ingredient_55 (by decide) ?_
      obtain ⟨⟨r_14, I_16, D_17⟩, g_15, hf⟩ := bd_out hf
      obtain ⟨q_18, wq_18, heq_18⟩ := heM_0 (cy := cy) (I := I_6) (D := D) hM
      have hAW : ∀ q, AM L ad H.size q → A q := fun q h => h.elim (fun ⟨k, k1, k2⟩ => k2 ▸ hAL k k1) (fun h => hA q (Nat.le_trans hS.1 h))
      refine va_calli (va_runV (As := [.int 1]) (rest := []) ⟨hx, hb, hml, hown, hts⟩ (mt_X7_no l dC dI L a b ad cy hM H.size I_6 D 1 r_14 I_16 D_17 g_15) (cwV 1 hts gX7_ingredient_X7_no rfl rfl rfl (by decide +kernel) ⟨Nat.le_of_ble_eq_true rfl, Nat.le_of_ble_eq_true rfl⟩) ⟨(wM.pre [.ref (ad 0), .int 1] hP hK hN).1, wM.recv (C := RX7) (T := TX7) (N := 9) hP hK heq_18 rfl, (wM.pre [.ref (ad 0), .int 1] hP hK hN).2⟩ rfl rfl hl.1 rfl (lv_room (Nat.le_of_ble_eq_true rfl)) dX7_ingredient_56 ⟨Nat.le_of_ble_eq_true rfl, Nat.le_of_ble_eq_true rfl⟩) hS (fun q _ h => hAW q h) hAW (fun r9 u t H1 locs ht hvm hw hB hz1 hk1 hS => ?_)
      subst hw
      have hP : va_P (dC, dI) vwCl (iwM L a b ad cy I_16 D_17) H1 := by rw [← ht]; exact hB.1
      clear hz1 hk1 hvm ht hB
      generalize H1 = H at hP hS ⊢
      have hf := Option.some.inj hf
      obtain ⟨q1, q2⟩ := Prod.mk.inj hf
      obtain ⟨q2, q3⟩ := Prod.mk.inj q2
      obtain ⟨q3, q4⟩ := Prod.mk.inj q3
      subst q2
      rw [q3, q4] at hP
      refine W.widen (k := 2) (n := 15) (Nat.le_of_ble_eq_true rfl) (Nat.le_of_ble_eq_true rfl) ?_
      exact W.iret (v := r_14) hx hb hr (fun t ht hW9 => ⟨⟨r_14, (), rfl, q1.symm, L, ad, wM.of hP hK hN ht hW9, hM, hLx, hAL, h00, h41⟩, hS.F ht⟩) hS.2.2 dX7_ingredient_59
    · have hf := it_f hf c_13
      refine lv_iload_n hx hb dX7_ingredient_13 rfl (lv_at hl 3 rfl) ?_
      refine lv_if_lt (tgt := 54) hx hb dX7_ingredient_14 (by decide) (fun c_19 => ?_) (fun c_19 => ?_)
      · have hf := it_t hf c_19
        refine lv_aload_n hx hb dX7_ingredient_54 rfl (lv_at hl 0 rfl) ?_
        refine lv_iconst (v := 1) hx hb dX7_ingredient_55 (by decide) ?_
        obtain ⟨⟨r_20, I_22, D_23⟩, g_21, hf⟩ := bd_out hf
        obtain ⟨q_24, wq_24, heq_24⟩ := heM_0 (cy := cy) (I := I_6) (D := D) hM
        have hAW : ∀ q, AM L ad H.size q → A q := fun q h => h.elim (fun ⟨k, k1, k2⟩ => k2 ▸ hAL k k1) (fun h => hA q (Nat.le_trans hS.1 h))
        refine va_calli (va_runV (As := [.int 1]) (rest := []) ⟨hx, hb, hml, hown, hts⟩ (mt_X7_no l dC dI L a b ad cy hM H.size I_6 D 1 r_20 I_22 D_23 g_21) (cwV 1 hts gX7_ingredient_X7_no rfl rfl rfl (by decide +kernel) ⟨Nat.le_of_ble_eq_true rfl, Nat.le_of_ble_eq_true rfl⟩) ⟨(wM.pre [.ref (ad 0), .int 1] hP hK hN).1, wM.recv (C := RX7) (T := TX7) (N := 9) hP hK heq_24 rfl, (wM.pre [.ref (ad 0), .int 1] hP hK hN).2⟩ rfl rfl hl.1 rfl (lv_room (Nat.le_of_ble_eq_true rfl)) dX7_ingredient_56 ⟨Nat.le_of_ble_eq_true rfl, Nat.le_of_ble_eq_true rfl⟩) hS (fun q _ h => hAW q h) hAW (fun r9 u t H1 locs ht hvm hw hB hz1 hk1 hS => ?_)
        subst hw
        have hP : va_P (dC, dI) vwCl (iwM L a b ad cy I_22 D_23) H1 := by rw [← ht]; exact hB.1
        clear hz1 hk1 hvm ht hB
        generalize H1 = H at hP hS ⊢
        have hf := Option.some.inj hf
        obtain ⟨q1, q2⟩ := Prod.mk.inj hf
        obtain ⟨q2, q3⟩ := Prod.mk.inj q2
        obtain ⟨q3, q4⟩ := Prod.mk.inj q3
        subst q2
        rw [q3, q4] at hP
        refine W.widen (k := 2) (n := 15) (Nat.le_of_ble_eq_true rfl) (Nat.le_of_ble_eq_true rfl) ?_
        exact W.iret (v := r_20) hx hb hr (fun t ht hW9 => ⟨⟨r_20, (), rfl, q1.symm, L, ad, wM.of hP hK hN ht hW9, hM, hLx, hAL, h00, h41⟩, hS.F ht⟩) hS.2.2 dX7_ingredient_59
      · have hf := it_f hf c_19
        refine lv_iload_n hx hb dX7_ingredient_17 rfl (lv_at hl 1 rfl) ?_
        refine lv_i2l (v := (p1).toInt64) hx hb dX7_ingredient_18 rfl ?_
        refine lv_iload_n hx hb dX7_ingredient_19 rfl (lv_at hl 2 rfl) ?_
        refine lv_i2l (v := (p2).toInt64) hx hb dX7_ingredient_20 rfl ?_
        refine lv_ladd hx hb dX7_ingredient_21 ?_
        refine lv_iload_n hx hb dX7_ingredient_22 rfl (lv_at hl 3 rfl) ?_
        refine lv_i2l (v := (p3).toInt64) hx hb dX7_ingredient_23 rfl ?_
        refine lv_ladd hx hb dX7_ingredient_24 ?_
        refine lv_ldc2 (v := 1000) hx hb hown (hts (.constantLong RX7 67 (1000)) (List.mem_cons_of_mem _ (List.mem_append_left _ (List.mem_append_left _ (List.mem_append_left _ (List.mem_of_getElem? (i := 1) rfl)))))) dX7_ingredient_25 ?_
        refine W.lcmp hx hb dX7_ingredient_28 ?_
        refine lv_if_gt (tgt := 54) hx hb dX7_ingredient_29 (by decide) (fun c_25 => ?_) (fun c_25 => ?_)
        · have hf := it_t hf c_25
          refine lv_aload_n hx hb dX7_ingredient_54 rfl (lv_at hl 0 rfl) ?_
          refine lv_iconst (v := 1) hx hb dX7_ingredient_55 (by decide) ?_
          obtain ⟨⟨r_26, I_28, D_29⟩, g_27, hf⟩ := bd_out hf
          obtain ⟨q_30, wq_30, heq_30⟩ := heM_0 (cy := cy) (I := I_6) (D := D) hM
          have hAW : ∀ q, AM L ad H.size q → A q := fun q h => h.elim (fun ⟨k, k1, k2⟩ => k2 ▸ hAL k k1) (fun h => hA q (Nat.le_trans hS.1 h))
          refine va_calli (va_runV (As := [.int 1]) (rest := []) ⟨hx, hb, hml, hown, hts⟩ (mt_X7_no l dC dI L a b ad cy hM H.size I_6 D 1 r_26 I_28 D_29 g_27) (cwV 1 hts gX7_ingredient_X7_no rfl rfl rfl (by decide +kernel) ⟨Nat.le_of_ble_eq_true rfl, Nat.le_of_ble_eq_true rfl⟩) ⟨(wM.pre [.ref (ad 0), .int 1] hP hK hN).1, wM.recv (C := RX7) (T := TX7) (N := 9) hP hK heq_30 rfl, (wM.pre [.ref (ad 0), .int 1] hP hK hN).2⟩ rfl rfl hl.1 rfl (lv_room (Nat.le_of_ble_eq_true rfl)) dX7_ingredient_56 ⟨Nat.le_of_ble_eq_true rfl, Nat.le_of_ble_eq_true rfl⟩) hS (fun q _ h => hAW q h) hAW (fun r9 u t H1 locs ht hvm hw hB hz1 hk1 hS => ?_)
          subst hw
          have hP : va_P (dC, dI) vwCl (iwM L a b ad cy I_28 D_29) H1 := by rw [← ht]; exact hB.1
          clear hz1 hk1 hvm ht hB
          generalize H1 = H at hP hS ⊢
          have hf := Option.some.inj hf
          obtain ⟨q1, q2⟩ := Prod.mk.inj hf
          obtain ⟨q2, q3⟩ := Prod.mk.inj q2
          obtain ⟨q3, q4⟩ := Prod.mk.inj q3
          subst q2
          rw [q3, q4] at hP
          refine W.widen (k := 2) (n := 15) (Nat.le_of_ble_eq_true rfl) (Nat.le_of_ble_eq_true rfl) ?_
          exact W.iret (v := r_26) hx hb hr (fun t ht hW9 => ⟨⟨r_26, (), rfl, q1.symm, L, ad, wM.of hP hK hN ht hW9, hM, hLx, hAL, h00, h41⟩, hS.F ht⟩) hS.2.2 dX7_ingredient_59
        · have hf := it_f hf c_25
          refine lv_iload hx hb dX7_ingredient_32 (lv_at hl 4 rfl) ?_
          refine lv_iconst (v := 1) hx hb dX7_ingredient_34 (by decide) ?_
          refine lv_bipush (v := 99) hx hb dX7_ingredient_35 (by decide) ?_
          obtain ⟨r_31, g_32, hf⟩ := bd_out hf
          refine va_calli (va_runS (As := [.int p4, .int 1, .int 99]) (rest := []) ⟨hx, hb, hml, hown, hts⟩ (mt_X7_in l H.size p4 1 99 r_31 g_32) (va_cwS 3 hts gX7_ingredient_X7_in rfl rfl rfl (by decide +kernel) ⟨Nat.le_of_ble_eq_true rfl, Nat.le_of_ble_eq_true rfl⟩) (pre0 [.int p4, .int 1, .int 99]) rfl rfl hl.1 rfl (lv_room (Nat.le_of_ble_eq_true rfl)) dX7_ingredient_37 ⟨Nat.le_of_ble_eq_true rfl, Nat.le_of_ble_eq_true rfl⟩) hS (fun q _ h => hA q (Nat.le_trans hS.1 h)) (fun q h => hA q (Nat.le_trans hS.1 h)) (fun r9 u t H1 locs ht hvm hw hB hz1 hk1 hS => ?_)
          subst hw
          have hP := va_Pnew hP hk1
          clear hz1 hk1 hvm ht hB
          generalize H1 = H at hP hS ⊢
          refine lv_if_eq (tgt := 54) hx hb dX7_ingredient_40 (by decide) (fun c_33 => ?_) (fun c_33 => ?_)
          · have hf := it_t hf c_33
            refine lv_aload_n hx hb dX7_ingredient_54 rfl (lv_at hl 0 rfl) ?_
            refine lv_iconst (v := 1) hx hb dX7_ingredient_55 (by decide) ?_
            obtain ⟨⟨r_34, I_36, D_37⟩, g_35, hf⟩ := bd_out hf
            obtain ⟨q_38, wq_38, heq_38⟩ := heM_0 (cy := cy) (I := I_6) (D := D) hM
            have hAW : ∀ q, AM L ad H.size q → A q := fun q h => h.elim (fun ⟨k, k1, k2⟩ => k2 ▸ hAL k k1) (fun h => hA q (Nat.le_trans hS.1 h))
            refine va_calli (va_runV (As := [.int 1]) (rest := []) ⟨hx, hb, hml, hown, hts⟩ (mt_X7_no l dC dI L a b ad cy hM H.size I_6 D 1 r_34 I_36 D_37 g_35) (cwV 1 hts gX7_ingredient_X7_no rfl rfl rfl (by decide +kernel) ⟨Nat.le_of_ble_eq_true rfl, Nat.le_of_ble_eq_true rfl⟩) ⟨(wM.pre [.ref (ad 0), .int 1] hP hK hN).1, wM.recv (C := RX7) (T := TX7) (N := 9) hP hK heq_38 rfl, (wM.pre [.ref (ad 0), .int 1] hP hK hN).2⟩ rfl rfl hl.1 rfl (lv_room (Nat.le_of_ble_eq_true rfl)) dX7_ingredient_56 ⟨Nat.le_of_ble_eq_true rfl, Nat.le_of_ble_eq_true rfl⟩) hS (fun q _ h => hAW q h) hAW (fun r9 u t H1 locs ht hvm hw hB hz1 hk1 hS => ?_)
            subst hw
            have hP : va_P (dC, dI) vwCl (iwM L a b ad cy I_36 D_37) H1 := by rw [← ht]; exact hB.1
            clear hz1 hk1 hvm ht hB
            generalize H1 = H at hP hS ⊢
            have hf := Option.some.inj hf
            obtain ⟨q1, q2⟩ := Prod.mk.inj hf
            obtain ⟨q2, q3⟩ := Prod.mk.inj q2
            obtain ⟨q3, q4⟩ := Prod.mk.inj q3
            subst q2
            rw [q3, q4] at hP
            refine W.widen (k := 2) (n := 15) (Nat.le_of_ble_eq_true rfl) (Nat.le_of_ble_eq_true rfl) ?_
            exact W.iret (v := r_34) hx hb hr (fun t ht hW9 => ⟨⟨r_34, (), rfl, q1.symm, L, ad, wM.of hP hK hN ht hW9, hM, hLx, hAL, h00, h41⟩, hS.F ht⟩) hS.2.2 dX7_ingredient_59
          · have hf := it_f hf c_33
            refine lv_iload hx hb dX7_ingredient_43 (lv_at hl 5 rfl) ?_
            refine lv_iconst (v := 0) hx hb dX7_ingredient_45 (by decide) ?_
            refine lv_bipush (v := 15) hx hb dX7_ingredient_46 (by decide) ?_
            obtain ⟨r_39, g_40, hf⟩ := bd_out hf
            refine va_calli (va_runS (As := [.int p5, .int 0, .int 15]) (rest := []) ⟨hx, hb, hml, hown, hts⟩ (mt_X7_in l H.size p5 0 15 r_39 g_40) (va_cwS 3 hts gX7_ingredient_X7_in rfl rfl rfl (by decide +kernel) ⟨Nat.le_of_ble_eq_true rfl, Nat.le_of_ble_eq_true rfl⟩) (pre0 [.int p5, .int 0, .int 15]) rfl rfl hl.1 rfl (lv_room (Nat.le_of_ble_eq_true rfl)) dX7_ingredient_48 ⟨Nat.le_of_ble_eq_true rfl, Nat.le_of_ble_eq_true rfl⟩) hS (fun q _ h => hA q (Nat.le_trans hS.1 h)) (fun q h => hA q (Nat.le_trans hS.1 h)) (fun r9 u t H1 locs ht hvm hw hB hz1 hk1 hS => ?_)
            subst hw
            have hP := va_Pnew hP hk1
            clear hz1 hk1 hvm ht hB
            generalize H1 = H at hP hS ⊢
            refine lv_if_ne (tgt := 60) hx hb dX7_ingredient_51 (by decide) (fun c_41 => ?_) (fun c_41 => ?_)
            · have hf := it_f hf c_41
              refine lv_aload_n hx hb dX7_ingredient_60 rfl (lv_at hl 0 rfl) ?_
              obtain ⟨q_42, wq_42, heq_42⟩ := heM_0 (cy := cy) (I := I_6) (D := D) hM
              refine va_get (D := (dC, dI)) (ci := 8) (v := .ref (ad 1)) (C := RX7) (T := TX7) (N := 9) hx hb hts iX7_ingredient_RX7 hown hK hP q_42 heq_42 rfl 1 (by decide) (hts (.fieldLink RX7 10 "OverrunHouseModel" "ingredients" "Ljava/util/List;") (List.mem_cons_of_mem _ (List.mem_append_left _ (List.mem_append_left _ (List.mem_append_left _ (List.mem_of_getElem? (i := 2) rfl)))))) (fun _ h9 => h9) rfl dX7_ingredient_61 ?_
              obtain ⟨r_43, g_44, hf⟩ := bd_out hf
              obtain ⟨q_45, wq_45, heq_45⟩ := heM_1 (cy := cy) (I := I_6) (D := D) hM
              refine va_callFi (va_runF (As := []) (rest := []) (hK.1 0 _ rfl).2 ⟨hx, hb, hml, hown, hts⟩ (mt_size1 l dC dI L a b ad cy hM H.size I_6 D  r_43 g_44) (va_cwF 0 hts gX7_ingredient_Jx4a65c_size_8abf5_f36Jx4a65c rfl rfl rfl hN.2.1 (by decide +kernel) ⟨Nat.le_of_ble_eq_true rfl, Nat.le_of_ble_eq_true rfl⟩) ⟨(wM.pre [.ref (ad 1)] hP hK hN).1, wM.recv (C := RJx4a65c) (T := TJx4a65c) (N := 3) hP hK heq_45 rfl, (wM.pre [.ref (ad 1)] hP hK hN).2⟩ rfl rfl hl.1 rfl (lv_room (Nat.le_of_ble_eq_true rfl)) dX7_ingredient_64 ⟨Nat.le_of_ble_eq_true rfl, Nat.le_of_ble_eq_true rfl⟩) hS (fun q _ h => hA q (Nat.le_trans hS.1 h)) (fun q h => hA q (Nat.le_trans hS.1 h)) (fun r9 u t H1 locs ht hvm hw hB hz1 hk1 hS => ?_)
              subst hw
              have hP := va_Pnew hP hk1
              clear hz1 hk1 hvm ht hB
              generalize H1 = H at hP hS ⊢
              refine lv_bipush (v := 6) hx hb dX7_ingredient_69 (by decide) ?_
              refine lv_icmp_ne (tgt := 80) hx hb dX7_ingredient_71 (by decide) (fun c_46 => ?_) (fun c_46 => ?_)
              · have hf := it_f hf c_46
                refine lv_iconst (v := 5) hx hb dX7_ingredient_80 (by decide) ?_
                obtain ⟨T_47, eT_47, hf⟩ := nm_out hf
                refine va_newa (atype := .int) (ty := .int) (N' := 5) (a0 := (5, .inl (fun _ => 0))) (D := (dC, dI)) (cl := vwCl) hx hb (hts (.arrayClass .int) (List.mem_cons_of_mem _ (List.mem_append_left _ (List.mem_append_left _ (List.mem_append_left _ (List.mem_of_getElem? (i := 3) rfl)))))) rfl hK hP (hDD I_6 D) hS hA (fun cA => va_arr0 cA 5) (by decide) (by decide) (by decide) (Nat.le_of_ble_eq_true rfl) (Nat.le_of_ble_eq_true rfl) dX7_ingredient_81 (fun qT cA9 H hKt hP hD hS => ?_)
                obtain rfl : cA9 = cy 0 := cy_same hKt 0 rfl rfl
                have hP : va_P (dC, dI) vwCl (iwM L a b ad cy I_6 D ++ [(qT, .inl (cy 0, 5, .inl T_47))]) H := by rw [eT_47]; exact hP
                have hD : va_D A (iwM L a b ad cy I_6 D ++ [(qT, .inl (cy 0, 5, .inl T_47))]) := by rw [eT_47]; exact hD
                refine lv_dup hx hb dX7_ingredient_83 rfl ?_
                refine lv_iconst (v := 0) hx hb dX7_ingredient_84 (by decide) ?_
                refine lv_iload_n hx hb dX7_ingredient_85 rfl (lv_at hl 1 rfl) ?_
                obtain ⟨T_48, eT_48, hf⟩ := nm_out hf
                refine va_iast (n := 5) (f := T_47) hx hb hK hP hD hS (iwM L a b ad cy I_6 D).length 0 (lastG _ _) rfl (inB_in (n := 5) (i := 0) rfl) dX7_ingredient_86 (fun H locs hP hD hS => ?_)
                rw [lastS] at hP hD
                have hP : va_P (dC, dI) vwCl (iwM L a b ad cy I_6 D ++ [(qT, .inl (cy 0, 5, .inl T_48))]) H := by rw [eT_48]; exact hP
                have hD : va_D A (iwM L a b ad cy I_6 D ++ [(qT, .inl (cy 0, 5, .inl T_48))]) := by rw [eT_48]; exact hD
                refine lv_dup hx hb dX7_ingredient_87 rfl ?_
                refine lv_iconst (v := 1) hx hb dX7_ingredient_88 (by decide) ?_
                refine lv_iload_n hx hb dX7_ingredient_89 rfl (lv_at hl 2 rfl) ?_
                obtain ⟨T_49, eT_49, hf⟩ := nm_out hf
                refine va_iast (n := 5) (f := T_48) hx hb hK hP hD hS (iwM L a b ad cy I_6 D).length 0 (lastG _ _) rfl (inB_in (n := 5) (i := 1) rfl) dX7_ingredient_90 (fun H locs hP hD hS => ?_)
                rw [lastS] at hP hD
                have hP : va_P (dC, dI) vwCl (iwM L a b ad cy I_6 D ++ [(qT, .inl (cy 0, 5, .inl T_49))]) H := by rw [eT_49]; exact hP
                have hD : va_D A (iwM L a b ad cy I_6 D ++ [(qT, .inl (cy 0, 5, .inl T_49))]) := by rw [eT_49]; exact hD
                refine lv_dup hx hb dX7_ingredient_91 rfl ?_
                refine lv_iconst (v := 2) hx hb dX7_ingredient_92 (by decide) ?_
                refine lv_iload_n hx hb dX7_ingredient_93 rfl (lv_at hl 3 rfl) ?_
                obtain ⟨T_50, eT_50, hf⟩ := nm_out hf
                refine va_iast (n := 5) (f := T_49) hx hb hK hP hD hS (iwM L a b ad cy I_6 D).length 0 (lastG _ _) rfl (inB_in (n := 5) (i := 2) rfl) dX7_ingredient_94 (fun H locs hP hD hS => ?_)
                rw [lastS] at hP hD
                have hP : va_P (dC, dI) vwCl (iwM L a b ad cy I_6 D ++ [(qT, .inl (cy 0, 5, .inl T_50))]) H := by rw [eT_50]; exact hP
                have hD : va_D A (iwM L a b ad cy I_6 D ++ [(qT, .inl (cy 0, 5, .inl T_50))]) := by rw [eT_50]; exact hD
                refine lv_dup hx hb dX7_ingredient_95 rfl ?_
                refine lv_iconst (v := 3) hx hb dX7_ingredient_96 (by decide) ?_
                refine lv_iload hx hb dX7_ingredient_97 (lv_at hl 4 rfl) ?_
                obtain ⟨T_51, eT_51, hf⟩ := nm_out hf
                refine va_iast (n := 5) (f := T_50) hx hb hK hP hD hS (iwM L a b ad cy I_6 D).length 0 (lastG _ _) rfl (inB_in (n := 5) (i := 3) rfl) dX7_ingredient_99 (fun H locs hP hD hS => ?_)
                rw [lastS] at hP hD
                have hP : va_P (dC, dI) vwCl (iwM L a b ad cy I_6 D ++ [(qT, .inl (cy 0, 5, .inl T_51))]) H := by rw [eT_51]; exact hP
                have hD : va_D A (iwM L a b ad cy I_6 D ++ [(qT, .inl (cy 0, 5, .inl T_51))]) := by rw [eT_51]; exact hD
                refine lv_dup hx hb dX7_ingredient_100 rfl ?_
                refine lv_iconst (v := 4) hx hb dX7_ingredient_101 (by decide) ?_
                refine lv_iload hx hb dX7_ingredient_102 (lv_at hl 5 rfl) ?_
                obtain ⟨T_52, eT_52, hf⟩ := nm_out hf
                refine va_iast (n := 5) (f := T_51) hx hb hK hP hD hS (iwM L a b ad cy I_6 D).length 0 (lastG _ _) rfl (inB_in (n := 5) (i := 4) rfl) dX7_ingredient_104 (fun H locs hP hD hS => ?_)
                rw [lastS] at hP hD
                have hP : va_P (dC, dI) vwCl (iwM L a b ad cy I_6 D ++ [(qT, .inl (cy 0, 5, .inl T_52))]) H := by rw [eT_52]; exact hP
                have hD : va_D A (iwM L a b ad cy I_6 D ++ [(qT, .inl (cy 0, 5, .inl T_52))]) := by rw [eT_52]; exact hD
                have hPr := va_Pr hP
                have hqn : ∀ k, k ∈ L → ad k ≠ qT := fun k hk e => va_Dx hD (List.getElem?_of_mem (iwM_mem hk)).choose_spec (show [(qT, (_ : va_E))][0]? = some _ from rfl) e
                have hAq : A qT := hD.2 _ _ (lastG _ _)
                have hP := va_Pl hP
                have hql : qT < H.size := (va_P_one hPr (List.mem_singleton.mpr rfl)).lt
                refine lv_astore (lv' := [(6, .ref qT), (0, .ref (ad 0)), (1, .int p1), (2, .int p2), (3, .int p3), (4, .int p4), (5, .int p5)]) hx hb dX7_ingredient_105 hl (by decide) rfl (fun ls hl => ?_)
                refine lv_aload_n hx hb dX7_ingredient_107 rfl (lv_at hl 1 rfl) ?_
                obtain ⟨q_53, wq_53, heq_53⟩ := heM_0 (cy := cy) (I := I_6) (D := D) hM
                refine va_get (D := (dC, dI)) (ci := 8) (v := .ref (ad 1)) (C := RX7) (T := TX7) (N := 9) hx hb hts iX7_ingredient_RX7 hown hK hP q_53 heq_53 rfl 1 (by decide) (hts (.fieldLink RX7 10 "OverrunHouseModel" "ingredients" "Ljava/util/List;") (List.mem_cons_of_mem _ (List.mem_append_left _ (List.mem_append_left _ (List.mem_append_left _ (List.mem_of_getElem? (i := 2) rfl)))))) (fun _ h9 => h9) rfl dX7_ingredient_108 ?_
                refine lv_aload hx hb dX7_ingredient_111 (lv_at hl 0 rfl) ?_
                have hV := va_rowAny hK hPr hcI
                have hLi : 1 ∈ L := hM.1.2.1 _ (mL_c (by decide))
                have hAdl := va_P_one hP (iwM_mem (a := a) (b := b) (ad := ad) (cy := cy) (I := I_6) (D := D) hLi)
                by_cases c9 : I_6 1 1 = 0
                · rw [if_pos c9] at hf
                  obtain ⟨g1, hf⟩ := ck_out hf
                  obtain ⟨g2, hf⟩ := ck_out hf
                  have g1 := of_decide_eq_true g1
                  have g2 := of_decide_eq_true g2
                  have hf7 := hf
                  subst g2
                  obtain ⟨zI, ezI, hf⟩ := nm_out hf7
                  have hAd : va_at (dC, dI) vwCl (ad 1, (.inr (0, [.int (I_6 1 0), .ref (ad 41), .int 0]) : va_E)) H := by
                    have h := hAdl
                    rw [cellM_1, if_pos c9, g1] at h
                    exact h
                  have hPc : va_P (dC, dI) vwCl [(ad 1, (.inr (0, [.int (I_6 1 0), .ref (ad 41), .int 0]) : va_E))] H := va_P_all (fun x hx => by rw [List.mem_singleton.mp hx]; exact hAd)
                  have hFc : ∀ p, va_A [(ad 1, (.inr (0, [.int (I_6 1 0), .ref (ad 41), .int 0]) : va_E))] H.size p → A p := fun p h => (xA1 h).elim (fun h => h ▸ hAL _ hLi) (fun h => hA p (Nat.le_trans hS.1 h))
                  have hNV : ¬ va_A [(ad 1, (.inr (0, [.int (I_6 1 0), .ref (ad 41), .int 0]) : va_E))] H.size qT := fun h => (xA1 h).elim (fun h => hqn _ hLi h) (fun h => Nat.lt_irrefl _ (Nat.lt_of_lt_of_le hql h))
                  have hS0 := hS.1
                  refine va_callFi (va_runF (As := [.ref qT]) (rest := []) (hK.1 0 _ rfl).2 ⟨hx, hb, hml, hown, hts⟩ (ml_F_add l dC dI cy (ad 1) (ad 41) qT (I_6 1 0) H.size) (va_cwF 1 hts gX7_ingredient_Jx4a65c_add_9ea2d_f73Jx4a65c rfl rfl rfl hN.2.2.2 (by decide +kernel) ⟨(Nat.le_of_ble_eq_true rfl), (Nat.le_of_ble_eq_true rfl)⟩) ⟨fun a U g mk q => by obtain ⟨q0, q1, q2, q3, q4, q5, q6, q7, q8, q9⟩ := q; exact ⟨q0, q1, q2, va_K.moved (u := U) (U := U.calling g mk a) (Vm.Alike.refl U.vm) q3, q4, va_AO.moved (u := U) (U := U.calling g mk a) (Vm.Alike.refl U.vm) q5, va_Z.moved (u := U) (U := U.calling g mk a) (Vm.Alike.refl U.vm) q6, va_T.moved (u := U) (U := U.calling g mk a) (Vm.Alike.refl U.vm) q7, va_Any.moved (u := U) (U := U.calling g mk a) (Vm.Alike.refl U.vm) q8, q9⟩, va_recv hK hPc (q0 := 0) (q := (RJx4a65c, TJx4a65c, 3)) rfl rfl, fun U hU hW1 => ⟨rfl, by rw [hU], by rw [hU]; exact hPc, va_K.moved hW1.alike hK, vaD1 _, hO.moved hW1.alike, by rw [hU]; exact va_Z.moved hW1.alike ((hZ.kept hS.2.1).narrow hFc), by rw [hU]; exact va_T.moved hW1.alike ((hT.kept hS.2.1).narrow hFc), by rw [hU]; exact va_Any.moved hW1.alike hV, hNV⟩⟩ rfl rfl hl.1 rfl (lv_room (Nat.le_of_ble_eq_true rfl)) dX7_ingredient_113 ⟨(Nat.le_of_ble_eq_true rfl), (Nat.le_of_ble_eq_true rfl)⟩) hS (fun q _ h => hFc q h) hFc (fun r9 u t H1 locs ht hvm hw hB hz1 hk1 hS => ?_)
                  subst hw
                  obtain ⟨zz, hP1, hD1⟩ := hB
                  rw [ht] at hP1
                  have hz : H.size ≤ zz := (xA1 (hD1.2 1 _ rfl)).elim (fun h => absurd (hD1.1 0 1 _ _ rfl rfl h) (by decide)) (fun h => h)
                  obtain ⟨hPn, hMn, hLn⟩ := grow1F hM hLx hP hPr hqn hk1 g1 hP1 hz
                  rw [← ezI] at hPn
                  refine W.widen (k := 2) (n := 15) (Nat.le_of_ble_eq_true rfl) (Nat.le_of_ble_eq_true rfl) ?_
                  exact tail _ 1 _ zI D _ _ ls hMn (fun k hk => by
                    rcases List.mem_append.mp hk with h | h
                    · have h9 := mL_iff.mp (hLx k h)
                      rw [adG_ne (by omega), adG_ne (by omega)]; exact hAL k h
                    · rcases List.mem_cons.mp h with rfl | h
                      · exact hA _ (Nat.le_trans hS0 hz)
                      · rw [List.mem_singleton.mp h]; exact hAq) hLn rfl rfl hPn hS (lv_sub hl [1] rfl) hf
                · rw [if_neg c9] at hf
                  obtain ⟨g1, hf⟩ := ck_out hf
                  obtain ⟨g2, hf⟩ := ck_out hf
                  obtain ⟨g3, hf⟩ := ck_out hf
                  obtain ⟨g4, hf⟩ := ck_out hf
                  obtain ⟨g5, hf⟩ := ck_out hf
                  have g2 := of_decide_eq_true g2
                  have g3 := of_decide_eq_true g3
                  have g4 := of_decide_eq_true g4
                  have g5 := of_decide_eq_true g5
                  obtain ⟨zI, ezI, hf⟩ := nm_out hf
                  have hL3 : 3 ∈ L := hM.1.2.1 _ (mL_3 g4)
                  have hAd : va_at (dC, dI) vwCl (ad 1, (.inr (0, [.int (I_6 1 0), .ref (ad 3), .int (I_6 1 2)]) : va_E)) H := by
                    have h := hAdl
                    rw [cellM_1, if_neg c9] at h
                    exact h
                  have hAd3 : va_at (dC, dI) vwCl (ad 3, (.inl (cy 7, 10, .inr (.inr (.inr (.inr (fun j => if j < a then some (ad (14 + j)) else none))))) : va_E)) H := va_P_one hP (iwM_mem (a := a) (b := b) (ad := ad) (cy := cy) (I := I_6) (D := D) hL3)
                  have hPc : va_P (dC, dI) vwCl [(ad 1, (.inr (0, [.int (I_6 1 0), .ref (ad 3), .int (I_6 1 2)]) : va_E)), (ad 3, (.inl (cy 7, 10, .inr (.inr (.inr (.inr (fun j => if j < a then some (ad (14 + j)) else none))))) : va_E))] H := va_P_all (fun x hx => by rcases List.mem_cons.mp hx with rfl | hx; exact hAd; rw [List.mem_singleton.mp hx]; exact hAd3)
                  have hFc : ∀ p, va_A [(ad 1, (.inr (0, [.int (I_6 1 0), .ref (ad 3), .int (I_6 1 2)]) : va_E)), (ad 3, (.inl (cy 7, 10, .inr (.inr (.inr (.inr (fun j => if j < a then some (ad (14 + j)) else none))))) : va_E))] H.size p → A p := fun p h => (xA2 h).elim (fun h => h ▸ hAL _ hLi) (fun h => h.elim (fun h => h ▸ hAL _ hL3) (fun h => hA p (Nat.le_trans hS.1 h)))
                  have hNV : ¬ va_A [(ad 1, (.inr (0, [.int (I_6 1 0), .ref (ad 3), .int (I_6 1 2)]) : va_E)), (ad 3, (.inl (cy 7, 10, .inr (.inr (.inr (.inr (fun j => if j < a then some (ad (14 + j)) else none))))) : va_E))] H.size qT := fun h => (xA2 h).elim (fun h => hqn _ hLi h) (fun h => h.elim (fun h => hqn _ hL3 h) (fun h => Nat.lt_irrefl _ (Nat.lt_of_lt_of_le hql h)))
                  have hDc : va_D (fun _ => True) [(ad 1, (.inr (0, [.int (I_6 1 0), .ref (ad 3), .int (I_6 1 2)]) : va_E)), (ad 3, (.inl (cy 7, 10, .inr (.inr (.inr (.inr (fun j => if j < a then some (ad (14 + j)) else none))))) : va_E))] := vaD2 (fun e => absurd (hM.1.2.2 _ _ hLi hL3 e) (by decide))
                  have hS0 := hS.1
                  refine va_callFi (va_runF (As := [.ref qT]) (rest := []) (hK.1 0 _ rfl).2 ⟨hx, hb, hml, hown, hts⟩ (ml_S_add l dC dI cy (ad 1) (ad 3) qT (I_6 1 0) (I_6 1 2) (fun j => if j < a then some (ad (14 + j)) else none) H.size (inB_in g1) g2) (va_cwF 1 hts gX7_ingredient_Jx4a65c_add_9ea2d_f73Jx4a65c rfl rfl rfl hN.2.2.2 (by decide +kernel) ⟨(Nat.le_of_ble_eq_true rfl), (Nat.le_of_ble_eq_true rfl)⟩) ⟨fun a U g mk q => by obtain ⟨q0, q1, q2, q3, q4, q5, q6⟩ := q; exact ⟨q0, q1, q2, va_K.moved (u := U) (U := U.calling g mk a) (Vm.Alike.refl U.vm) q3, q4, va_Any.moved (u := U) (U := U.calling g mk a) (Vm.Alike.refl U.vm) q5, q6⟩, va_recv hK hPc (q0 := 0) (q := (RJx4a65c, TJx4a65c, 3)) rfl rfl, fun U hU hW1 => ⟨rfl, by rw [hU], by rw [hU]; exact hPc, va_K.moved hW1.alike hK, hDc, by rw [hU]; exact va_Any.moved hW1.alike hV, hNV⟩⟩ rfl rfl hl.1 rfl (lv_room (Nat.le_of_ble_eq_true rfl)) dX7_ingredient_113 ⟨(Nat.le_of_ble_eq_true rfl), (Nat.le_of_ble_eq_true rfl)⟩) hS (fun q _ h => hFc q h) hFc (fun r9 u t H1 locs ht hvm hw hB hz1 hk1 hS => ?_)
                  subst hw
                  obtain ⟨hP1, hD1⟩ := hB
                  rw [ht] at hP1
                  rw [g3] at hP1
                  obtain ⟨hPn, hMn, hLn⟩ := grow1S hM hLx g4 g5 hP hPr hqn hk1 hP1
                  rw [← ezI] at hPn
                  refine W.widen (k := 2) (n := 15) (Nat.le_of_ble_eq_true rfl) (Nat.le_of_ble_eq_true rfl) ?_
                  exact tail _ (a + 1) _ zI D _ _ ls hMn (fun k hk => by
                    rcases List.mem_append.mp hk with h | h
                    · have h9 := mL_iff.mp (hLx k h)
                      rw [adG_ne (by omega)]; exact hAL k h
                    · rw [List.mem_singleton.mp h, adG_at]; exact hAq) hLn (adG_ne (by omega)) (adG_ne (by omega)) hPn hS (by rw [adG_ne (show 0 ≠ 14 + a by omega)]; exact lv_sub hl [1] rfl) hf
              · have hf := it_t hf c_46
                refine lv_aload_n hx hb dX7_ingredient_74 rfl (lv_at hl 0 rfl) ?_
                refine lv_iconst (v := 2) hx hb dX7_ingredient_75 (by decide) ?_
                obtain ⟨⟨r_54, I_56, D_57⟩, g_55, hf⟩ := bd_out hf
                obtain ⟨q_58, wq_58, heq_58⟩ := heM_0 (cy := cy) (I := I_6) (D := D) hM
                have hAW : ∀ q, AM L ad H.size q → A q := fun q h => h.elim (fun ⟨k, k1, k2⟩ => k2 ▸ hAL k k1) (fun h => hA q (Nat.le_trans hS.1 h))
                refine va_calli (va_runV (As := [.int 2]) (rest := []) ⟨hx, hb, hml, hown, hts⟩ (mt_X7_no l dC dI L a b ad cy hM H.size I_6 D 2 r_54 I_56 D_57 g_55) (cwV 1 hts gX7_ingredient_X7_no rfl rfl rfl (by decide +kernel) ⟨Nat.le_of_ble_eq_true rfl, Nat.le_of_ble_eq_true rfl⟩) ⟨(wM.pre [.ref (ad 0), .int 2] hP hK hN).1, wM.recv (C := RX7) (T := TX7) (N := 9) hP hK heq_58 rfl, (wM.pre [.ref (ad 0), .int 2] hP hK hN).2⟩ rfl rfl hl.1 rfl (lv_room (Nat.le_of_ble_eq_true rfl)) dX7_ingredient_76 ⟨Nat.le_of_ble_eq_true rfl, Nat.le_of_ble_eq_true rfl⟩) hS (fun q _ h => hAW q h) hAW (fun r9 u t H1 locs ht hvm hw hB hz1 hk1 hS => ?_)
                subst hw
                have hP : va_P (dC, dI) vwCl (iwM L a b ad cy I_56 D_57) H1 := by rw [← ht]; exact hB.1
                clear hz1 hk1 hvm ht hB
                generalize H1 = H at hP hS ⊢
                have hf := Option.some.inj hf
                obtain ⟨q1, q2⟩ := Prod.mk.inj hf
                obtain ⟨q2, q3⟩ := Prod.mk.inj q2
                obtain ⟨q3, q4⟩ := Prod.mk.inj q3
                subst q2
                rw [q3, q4] at hP
                refine W.widen (k := 2) (n := 15) (Nat.le_of_ble_eq_true rfl) (Nat.le_of_ble_eq_true rfl) ?_
                exact W.iret (v := r_54) hx hb hr (fun t ht hW9 => ⟨⟨r_54, (), rfl, q1.symm, L, ad, wM.of hP hK hN ht hW9, hM, hLx, hAL, h00, h41⟩, hS.F ht⟩) hS.2.2 dX7_ingredient_79
            · have hf := it_t hf c_41
              refine lv_aload_n hx hb dX7_ingredient_54 rfl (lv_at hl 0 rfl) ?_
              refine lv_iconst (v := 1) hx hb dX7_ingredient_55 (by decide) ?_
              obtain ⟨⟨r_59, I_61, D_62⟩, g_60, hf⟩ := bd_out hf
              obtain ⟨q_63, wq_63, heq_63⟩ := heM_0 (cy := cy) (I := I_6) (D := D) hM
              have hAW : ∀ q, AM L ad H.size q → A q := fun q h => h.elim (fun ⟨k, k1, k2⟩ => k2 ▸ hAL k k1) (fun h => hA q (Nat.le_trans hS.1 h))
              refine va_calli (va_runV (As := [.int 1]) (rest := []) ⟨hx, hb, hml, hown, hts⟩ (mt_X7_no l dC dI L a b ad cy hM H.size I_6 D 1 r_59 I_61 D_62 g_60) (cwV 1 hts gX7_ingredient_X7_no rfl rfl rfl (by decide +kernel) ⟨Nat.le_of_ble_eq_true rfl, Nat.le_of_ble_eq_true rfl⟩) ⟨(wM.pre [.ref (ad 0), .int 1] hP hK hN).1, wM.recv (C := RX7) (T := TX7) (N := 9) hP hK heq_63 rfl, (wM.pre [.ref (ad 0), .int 1] hP hK hN).2⟩ rfl rfl hl.1 rfl (lv_room (Nat.le_of_ble_eq_true rfl)) dX7_ingredient_56 ⟨Nat.le_of_ble_eq_true rfl, Nat.le_of_ble_eq_true rfl⟩) hS (fun q _ h => hAW q h) hAW (fun r9 u t H1 locs ht hvm hw hB hz1 hk1 hS => ?_)
              subst hw
              have hP : va_P (dC, dI) vwCl (iwM L a b ad cy I_61 D_62) H1 := by rw [← ht]; exact hB.1
              clear hz1 hk1 hvm ht hB
              generalize H1 = H at hP hS ⊢
              have hf := Option.some.inj hf
              obtain ⟨q1, q2⟩ := Prod.mk.inj hf
              obtain ⟨q2, q3⟩ := Prod.mk.inj q2
              obtain ⟨q3, q4⟩ := Prod.mk.inj q3
              subst q2
              rw [q3, q4] at hP
              refine W.widen (k := 2) (n := 15) (Nat.le_of_ble_eq_true rfl) (Nat.le_of_ble_eq_true rfl) ?_
              exact W.iret (v := r_59) hx hb hr (fun t ht hW9 => ⟨⟨r_59, (), rfl, q1.symm, L, ad, wM.of hP hK hN ht hW9, hM, hLx, hAL, h00, h41⟩, hS.F ht⟩) hS.2.2 dX7_ingredient_59
