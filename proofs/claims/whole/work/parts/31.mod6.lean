def f_X5_copy (a b : Nat) (I : Nat → Nat → Int32) (D : Nat → Nat → UInt64) : Option ((Nat → Nat → Int32) × (Nat → Nat → UInt64)) :=
  nm (clr 0 I) (fun I1 => nm (clr 0 D) (fun D1 => nm (up2 I1 30 0 (I1 5 0)) (fun I_3 => nm (upR I_3 (30 + 1) (va_cpy (I_3 (5 + 1)) (I_3 (30 + 1)) 0 0 12)) (fun I_8 => ck (allB (I_8 (5 + 3)) 12) (nm (upR I_8 (30 + 3) (va_cpy (I_8 (5 + 3)) (I_8 (30 + 3)) 0 0 12)) (fun I_14 => nm (upR I_14 (30 + 4) (va_cpy (I_14 (5 + 4)) (I_14 (30 + 4)) 0 0 12)) (fun I_19 => nm (upR D1 (30 + 5) (va_cpy (D1 (5 + 5)) (D1 (30 + 5)) 0 0 12)) (fun D_24 => nm (up2 I_19 30 6 (I_19 5 6)) (fun I_27 => nm (upR I_27 (30 + 6) (va_cpy (I_27 (5 + 6)) (I_27 (30 + 6)) 0 0 3)) (fun I_32 => nm (upR D_24 (30 + 7) (va_cpy (D_24 (5 + 7)) (D_24 (30 + 7)) 0 0 3)) (fun D_37 => some (I_32, D_37))))))))))))
theorem iX5_copy_RX5 : ∀ w ∈ u_ws RX5 TX5 10, w ∈ wsX5_copy := fun w h => List.mem_cons_of_mem _ (List.mem_append_right _ (h))
set_option maxHeartbeats 4000000 in
set_option maxRecDepth 100000 in
theorem mt_X5_copy (l : Launch) (dC : Nat → ClassId) (dI : Nat → Nat → Nat) (L : List Nat) (a b : Nat) (ad : Nat → Nat) (cy : Nat → ClassId) (hM : mOK L a b ad) (h30 : ∀ k ∈ L, k < 30) (sz : Nat) (I : Nat → Nat → Int32) (D : Nat → Nat → UInt64) (I9 : Nat → Nat → Int32) (D9 : Nat → Nat → UInt64) (hf : f_X5_copy a b I D = some (I9, D9)) : Met l yX5_copy wsX5_copy ({ frames := 2, cells := 8, slots := 76, locals := 120 }) (va_Pc [.ref (ad 5)] (fun U => U.heap.size = sz ∧ wM dC dI L a b ad cy I D U)) (va_Qr (fun (_ : Nat → Nat) => True) (fun q r t => r = (adC ad q) 30 ∧ mOK (L ++ p8) a b (adC ad q) ∧ wM dC dI (L ++ p8) a b (adC ad q) cy I9 D9 t ∧ ∀ j, j < 8 → sz ≤ q j) (AM L ad sz)) 8 76 (AM L ad sz) := by
  refine Met.ofW (cc := cX5_copy) (maxL := 2) (ret := (some (.object "OverrunHouseModel$Cold"))) (by decide) rfl ?_
  intro p e s m args below meth c s₁ B hml hv
  obtain ⟨rfl, hsz, hP, hK, hN⟩ := hv
  have hx := B.exec
  have hb := B.bytes
  have hr := B.returns
  have hts := atoms_spec (ws := wsX5_copy) B.pre
  have hown : s.vm.findClass RX5 = some m.cls := findClass_of_methodNamed B.named
  have hlocks := B.notSynchronized
  subst hsz
  generalize hAe : AM L ad s.heap.size = A
  have hA : ∀ q : Nat, s.heap.size ≤ q → A q := fun q h => by rw [← hAe]; exact Or.inr h
  have hAL : ∀ k, k ∈ L → A (ad k) := fun k h => by rw [← hAe]; exact Or.inl ⟨k, h, rfl⟩
  have hDD : ∀ I D, va_D A (iwM L a b ad cy I D) := fun I D => iwM_D hM hAL I D
  obtain ⟨H, hH⟩ : ∃ H : Heap, H = s.heap := ⟨_, rfl⟩
  have hS : va_S A s.heap H [] := by rw [hH]; exact va_S.rf
  rw [← hH]
  rw [← hH] at hP
  have hl := lv_entry ([.ref (ad 5)]) (n := 2) (Nat.le_of_ble_eq_true rfl)
  rw [lg_entry_eq]
  generalize (lg_sl ([.ref (ad 5)]) ++ List.replicate (2 - (lg_sl ([.ref (ad 5)])).length) Slot.unset).toArray = ls at hl ⊢
  have hl : lv_has ls 2 [(0, .ref (ad 5))] := hl
  unfold f_X5_copy at hf
  refine va_new (ci := 6) (fs := [.int 0, .null, .null, .null, .null, .null, .int 0, .null, .null, .null]) (C := RX5) (T := TX5) (N := 10) hx hb hts iX5_copy_RX5 tyX5 tyX5_ok hown (hts (.classLink RX5 4 RX5) (List.mem_cons_of_mem _ (List.mem_append_left _ (List.mem_append_left _ (List.mem_of_getElem? (i := 0) rfl))))) (hts (.instantiable RX5 10) (List.mem_cons_of_mem _ (List.mem_append_left _ (List.mem_append_left _ (List.mem_of_getElem? (i := 1) rfl))))) (hts (.initialized RX5) (List.mem_cons_of_mem _ (List.mem_append_left _ (List.mem_append_left _ (List.mem_of_getElem? (i := 2) rfl))))) hK hP (hDD I D) hS hA rfl (fun j hj => nw_Cold j hj) (Nat.le_of_ble_eq_true rfl) (Nat.le_of_ble_eq_true rfl) dX5_copy_0 (fun q0 H hP hD hS => ?_)
  refine lv_dup hx hb dX5_copy_3 rfl ?_
  refine lv_aload_n hx hb dX5_copy_4 rfl (lv_at hl 0 rfl) ?_
  have hPm := va_Pl hP
  obtain ⟨q9, w9, he9⟩ := heM_Cold (cy := cy) (I := I) (D := D) (a := a) (b := b) (ad := ad) (cOK_5 hM)
  refine va_get (D := (dC, dI)) (ci := 6) (v := .ref (ad 0)) (C := RX5) (T := TX5) (N := 10) hx hb hts iX5_copy_RX5 hown hK hPm q9 he9 rfl 9 (by decide) (hts (.fieldLink RX5 3 "OverrunHouseModel$Cold" "this$0" "LOverrunHouseModel;") (List.mem_cons_of_mem _ (List.mem_append_left _ (List.mem_append_left _ (List.mem_of_getElem? (i := 3) rfl))))) (fun _ h9 => h9) rfl dX5_copy_5 ?_
  have hPc : va_P (dC, dI) vwCl [(q0, .inr (6, [.int 0, .null, .null, .null, .null, .null, .int 0, .null, .null, .null]))] H := va_Pr hP
  have hDc : va_D A [(q0, .inr (6, [.int 0, .null, .null, .null, .null, .null, .int 0, .null, .null, .null]))] := va_Dr hD
  have hx0 : ∀ (k : Nat) (x : Nat × va_E), (iwM L a b ad cy I D)[k]? = some x → x.1 ≠ q0 := fun k x hk => va_Dx hD (j := 0) hk rfl
  have hq0 : s.heap.size ≤ q0 := by
    have h := hDc.2 0 _ rfl
    rw [← hAe] at h
    rcases h with ⟨k, h1, h2⟩ | h
    · obtain ⟨x, hx⟩ := List.getElem?_of_mem h1
      exact absurd h2 (hx0 x _ (iw_get (c := fun k => cellM ad cy a b k (I k) (D k)) hx))
    · exact h
  have hlt : ∀ (i : Nat) (x : Nat × va_E), (iwM L a b ad cy I D)[i]? = some x → x.1 < H.size := fun i x hi => (hPm i x hi).lt
  have hSz := hS.1
  have hFc : ∀ q, va_A [(q0, .inr (6, [.int 0, .null, .null, .null, .null, .null, .int 0, .null, .null, .null]))] H.size q → A q := fun q h => h.elim (fun ⟨k, e, h⟩ => hDc.2 k (q, e) h) (fun h => hA q (Nat.le_trans hS.1 h))
  refine va_callv (va_runI (As := [.ref (ad 0)]) (rest := [.ref q0]) ⟨hx, hb, hml, hown, hts⟩ (mi_X5_init l dC dI cy q0 (ad 0) H.size) (cwI 1 hts gX5_copy_X5_init rfl rfl rfl (hts (.initialized RX5) (List.mem_cons_of_mem _ (List.mem_append_left _ (List.mem_append_left _ (List.mem_of_getElem? (i := 2) rfl))))) (hts (.methodLink RX5 39 yX5_init) (List.mem_cons_of_mem _ (List.mem_append_left _ (List.mem_append_left _ (List.mem_of_getElem? (i := 16) rfl))))) (hts (.instanceMethod yX5_init) (List.mem_cons_of_mem _ (List.mem_append_left _ (List.mem_append_left _ (List.mem_of_getElem? (i := 17) rfl))))) rfl (by decide +kernel) ⟨(Nat.le_of_ble_eq_true rfl), (Nat.le_of_ble_eq_true rfl)⟩) (⟨fun x U g mk q => by obtain ⟨q0, q1, q2, q3, q4⟩ := q; exact ⟨q0, q1, q2, va_K.moved (u := U) (U := U.calling g mk x) (Vm.Alike.refl U.vm) q3, q4⟩, fun U hU hW1 => ⟨rfl, by rw [hU], by rw [hU]; exact hPc, va_K.moved hW1.alike hK, hDc.weaken (fun _ _ _ _ => trivial)⟩⟩) rfl rfl hl.1 rfl (lv_room (Nat.le_of_ble_eq_true rfl)) dX5_copy_8 ⟨(Nat.le_of_ble_eq_true rfl), (Nat.le_of_ble_eq_true rfl)⟩) hS (fun q _ h => hFc q h) hFc (fun u t H1 locs ht hvm hw hB hz1 hk1 hS => ?_)
  obtain ⟨q1, q2, q3, q4, q5, q6, q7, hP1, hD1⟩ := hB
  rw [ht] at hP1
  have hPm := va_Pkeep hPm (fun k x hk h => by
    rcases h with ⟨j, e, h⟩ | h
    · have hj : j < 1 := (List.getElem?_eq_some_iff.mp h).1
      have hj0 : j = 0 := (by omega)
      subst hj0
      have e9 := congrArg Prod.fst (Option.some.inj h)
      have e8 : q0 = x.1 := e9
      exact hx0 k x hk e8.symm
    · exact Nat.lt_irrefl _ (Nat.lt_of_lt_of_le (hPm k x hk).lt h)) hk1
  obtain ⟨q, hq⟩ : ∃ q : Nat → Nat, q = fun j => if j = 0 then q0 else if j = 1 then q1 else if j = 2 then q2 else if j = 3 then q3 else if j = 4 then q4 else if j = 5 then q5 else if j = 6 then q6 else q7 := ⟨_, rfl⟩
  have hP1 : va_P (dC, dI) vwCl (c8 q cy (ad 0)) H1 := by rw [hq]; exact hP1
  have hD1 : va_D (va_A [(q0, .inr (6, [.int 0, .null, .null, .null, .null, .null, .int 0, .null, .null, .null]))] H.size) (c8 q cy (ad 0)) := by rw [hq]; exact hD1
  have hqs : ∀ j, j < 8 → s.heap.size ≤ q j := fun j hj => by
    have hA8 : ∀ j, j < 8 → va_A [(q0, .inr (6, [.int 0, .null, .null, .null, .null, .null, .int 0, .null, .null, .null]))] H.size (q j) := fun j hj => by
      match j, hj with
      | 0, _ => exact hD1.2 0 _ rfl
      | 1, _ => exact hD1.2 1 _ rfl
      | 2, _ => exact hD1.2 2 _ rfl
      | 3, _ => exact hD1.2 3 _ rfl
      | 4, _ => exact hD1.2 4 _ rfl
      | 5, _ => exact hD1.2 5 _ rfl
      | 6, _ => exact hD1.2 6 _ rfl
      | 7, _ => exact hD1.2 7 _ rfl
    rcases hA8 j hj with ⟨k, e, h⟩ | h
    · have hk : k < 1 := (List.getElem?_eq_some_iff.mp h).1
      have hk0 : k = 0 := by omega
      subst hk0
      have e9 := congrArg Prod.fst (Option.some.inj h)
      have e8 : q0 = q j := e9
      rw [← e8]; exact hq0
    · exact Nat.le_trans hSz h
  have hDj : va_D A (iwM L a b ad cy I D ++ c8 q cy (ad 0)) := va_D.app (hDD I D) (hD1.weaken (fun _ _ _ h => hFc _ h)) (fun i j x y hi hj e => by
    have h1 := hD1.2 j y hj
    rcases h1 with ⟨k, e2, h⟩ | h
    · have hk : k < 1 := (List.getElem?_eq_some_iff.mp h).1
      have hk0 : k = 0 := by omega
      subst hk0
      have e9 := congrArg Prod.fst (Option.some.inj h)
      have e8 : q0 = y.1 := e9
      exact hx0 i x hi (e.trans e8.symm)
    · have h2 := hlt i x hi
      omega)
  have hM2 : mOK (L ++ p8) a b (adC ad q) := mOK_c8 (I := I) (D := D) hM h30 hDj
  have hP := hPm.app hP1
  rw [← c8_eq hM.2.1 hM.2.2 h30] at hP
  have hAL2 : ∀ k, k ∈ (L ++ p8) → A ((adC ad q) k) := fun k hk => by
    rcases List.mem_append.mp hk with h | h
    · rw [adC_lo (h30 k h)]; exact hAL k h
    · refine hA _ ?_
      have h3 : 30 ≤ k ∧ k < 38 := by
        have h4 : ∀ z ∈ p8, 30 ≤ z ∧ z < 38 := by decide
        exact h4 k h
      unfold adC
      rw [if_pos h3]
      exact hqs _ (by omega)
  have hDD2 : ∀ I D, va_D A (iwM (L ++ p8) a b (adC ad q) cy I D) := fun I D => iwM_D hM2 hAL2 I D
  clear hz1 hk1 hvm ht hPm hP1 hD1 hDj hPc hDc hFc hx0 hlt hSz
  generalize H1 = H at hP hS ⊢
  obtain ⟨I1, eI1, hf⟩ := nm_out hf
  obtain ⟨D1, eD1, hf⟩ := nm_out hf
  rw [← eI1, ← eD1] at hP
  have hl : lv_has ls 2 [(0, .ref ((adC ad q) 5))] := hl
  refine W.eq (g2 := F0 m 11 ls [.ref ((adC ad q) 30)]) (by rw [hq]; rfl) ?_
  refine lv_astore_n (lv' := [(1, .ref ((adC ad q) 30)), (0, .ref ((adC ad q) 5))]) hx hb dX5_copy_11 rfl hl (by decide) rfl (fun ls hl => ?_)
  refine lv_aload_n hx hb dX5_copy_12 rfl (lv_at hl 0 rfl) ?_
  refine lv_aload_n hx hb dX5_copy_13 rfl (lv_at hl 1 rfl) ?_
  obtain ⟨q_1, wq_1, heq_1⟩ := heM_Cold (cy := cy) (I := I1) (D := D1) (a := a) (b := b) (cOK_5 hM2)
  refine va_get (D := (dC, dI)) (ci := 6) (v := .int (I1 5 0)) (C := RX5) (T := TX5) (N := 10) hx hb hts iX5_copy_RX5 hown hK hP q_1 heq_1 rfl 0 (by decide) (hts (.fieldLink RX5 42 "OverrunHouseModel$Cold" "batches" "I") (List.mem_cons_of_mem _ (List.mem_append_left _ (List.mem_append_left _ (List.mem_of_getElem? (i := 4) rfl))))) (fun _ h9 => h9) rfl dX5_copy_14 ?_
  obtain ⟨q_2, wq_2, heq_2⟩ := heM_Cold (cy := cy) (I := I1) (D := D1) (a := a) (b := b) cOK_30
  obtain ⟨I_3, eI_3, hf⟩ := nm_out hf
  refine va_put (D := (dC, dI)) (ci := 6) (v := .int (I1 5 0)) (ty := .int) (C := RX5) (T := TX5) (N := 10) hx hb hts iX5_copy_RX5 tyX5 tyX5_ok nmX5 hown hK hP (hDD2 I1 D1) hS q_2 heq_2 rfl 0 (by decide) (hts (.fieldLink RX5 42 "OverrunHouseModel$Cold" "batches" "I") (List.mem_cons_of_mem _ (List.mem_append_left _ (List.mem_append_left _ (List.mem_of_getElem? (i := 4) rfl))))) (fun _ h9 => h9) rfl (by decide +kernel) rfl rfl (Nat.le_of_ble_eq_true rfl) dX5_copy_17 (fun H locs hP _ hS => ?_)
  have hP : va_P (dC, dI) vwCl (iwM (L ++ p8) a b (adC ad q) cy I_3 D1) H := by rw [eI_3]; exact hqI hM2 wq_2 ((cellM_Cold (adC ad q) cy a b (Or.inr rfl) _ _).trans rfl) hP
  refine lv_aload_n hx hb dX5_copy_20 rfl (lv_at hl 1 rfl) ?_
  obtain ⟨q_4, wq_4, heq_4⟩ := heM_Cold (cy := cy) (I := I_3) (D := D1) (a := a) (b := b) (cOK_5 hM2)
  refine va_get (D := (dC, dI)) (ci := 6) (v := .ref ((adC ad q) (5 + 1))) (C := RX5) (T := TX5) (N := 10) hx hb hts iX5_copy_RX5 hown hK hP q_4 heq_4 rfl 1 (by decide) (hts (.fieldLink RX5 15 "OverrunHouseModel$Cold" "of" "[I") (List.mem_cons_of_mem _ (List.mem_append_left _ (List.mem_append_left _ (List.mem_of_getElem? (i := 5) rfl))))) (fun _ h9 => h9) rfl dX5_copy_21 ?_
  refine lv_iconst (v := 0) hx hb dX5_copy_24 (by decide) ?_
  refine lv_aload_n hx hb dX5_copy_25 rfl (lv_at hl 0 rfl) ?_
  obtain ⟨q_5, wq_5, heq_5⟩ := heM_Cold (cy := cy) (I := I_3) (D := D1) (a := a) (b := b) cOK_30
  refine va_get (D := (dC, dI)) (ci := 6) (v := .ref ((adC ad q) (30 + 1))) (C := RX5) (T := TX5) (N := 10) hx hb hts iX5_copy_RX5 hown hK hP q_5 heq_5 rfl 1 (by decide) (hts (.fieldLink RX5 15 "OverrunHouseModel$Cold" "of" "[I") (List.mem_cons_of_mem _ (List.mem_append_left _ (List.mem_append_left _ (List.mem_of_getElem? (i := 5) rfl))))) (fun _ h9 => h9) rfl dX5_copy_26 ?_
  refine lv_iconst (v := 0) hx hb dX5_copy_29 (by decide) ?_
  refine lv_bipush (v := 12) hx hb dX5_copy_30 (by decide) ?_
  obtain ⟨q_6, wq_6, heq_6⟩ := heM_Of (cy := cy) (I := I_3) (D := D1) (a := a) (b := b) (cOK_5 hM2)
  obtain ⟨q_7, wq_7, heq_7⟩ := heM_Of (cy := cy) (I := I_3) (D := D1) (a := a) (b := b) cOK_30
  obtain ⟨I_8, eI_8, hf⟩ := nm_out hf
  refine va_copyi (n := 12) (sp := 0) (dp := 0) hx hb (by rw [hml]; exact hl.1.symm) hown (hts (.methodLink RX5 46 arraycopyName) (List.mem_cons_of_mem _ (List.mem_append_left _ (List.mem_append_left _ (List.mem_of_getElem? (i := 6) rfl))))) (hts (.native arraycopyName) (List.mem_cons_of_mem _ (List.mem_append_left _ (List.mem_append_left _ (List.mem_of_getElem? (i := 7) rfl))))) (hts (.static arraycopyName) (List.mem_cons_of_mem _ (List.mem_append_left _ (List.mem_append_left _ (List.mem_of_getElem? (i := 8) rfl))))) (hts (.initialized "java/lang/System") (List.mem_cons_of_mem _ (List.mem_append_left _ (List.mem_append_left _ (List.mem_of_getElem? (i := 9) rfl))))) hK hP (hDD2 I_3 D1) hS q_6 q_7 0 0 heq_6 heq_7 rfl rfl rfl (by decide) (by decide) (by decide) (by decide) (by decide) (fun _ _ => rfl) (Nat.le_of_ble_eq_true rfl) (Nat.le_of_ble_eq_true rfl) dX5_copy_32 (fun H locs hP _ hS => ?_)
  have hP : va_P (dC, dI) vwCl (iwM (L ++ p8) a b (adC ad q) cy I_8 D1) H := by rw [eI_8]; exact hrI hM2 wq_7 (cellM_Of (adC ad q) cy a b (Or.inr rfl) _ _) hP
  refine lv_aload_n hx hb dX5_copy_35 rfl (lv_at hl 1 rfl) ?_
  obtain ⟨q_9, wq_9, heq_9⟩ := heM_Cold (cy := cy) (I := I_8) (D := D1) (a := a) (b := b) (cOK_5 hM2)
  refine va_get (D := (dC, dI)) (ci := 6) (v := .ref ((adC ad q) (5 + 3))) (C := RX5) (T := TX5) (N := 10) hx hb hts iX5_copy_RX5 hown hK hP q_9 heq_9 rfl 3 (by decide) (hts (.fieldLink RX5 22 "OverrunHouseModel$Cold" "hard" "[Z") (List.mem_cons_of_mem _ (List.mem_append_left _ (List.mem_append_left _ (List.mem_of_getElem? (i := 10) rfl))))) (fun _ h9 => h9) rfl dX5_copy_36 ?_
  refine lv_iconst (v := 0) hx hb dX5_copy_39 (by decide) ?_
  refine lv_aload_n hx hb dX5_copy_40 rfl (lv_at hl 0 rfl) ?_
  obtain ⟨q_10, wq_10, heq_10⟩ := heM_Cold (cy := cy) (I := I_8) (D := D1) (a := a) (b := b) cOK_30
  refine va_get (D := (dC, dI)) (ci := 6) (v := .ref ((adC ad q) (30 + 3))) (C := RX5) (T := TX5) (N := 10) hx hb hts iX5_copy_RX5 hown hK hP q_10 heq_10 rfl 3 (by decide) (hts (.fieldLink RX5 22 "OverrunHouseModel$Cold" "hard" "[Z") (List.mem_cons_of_mem _ (List.mem_append_left _ (List.mem_append_left _ (List.mem_of_getElem? (i := 10) rfl))))) (fun _ h9 => h9) rfl dX5_copy_41 ?_
  refine lv_iconst (v := 0) hx hb dX5_copy_44 (by decide) ?_
  refine lv_bipush (v := 12) hx hb dX5_copy_45 (by decide) ?_
  obtain ⟨q_11, wq_11, heq_11⟩ := heM_Hard (cy := cy) (I := I_8) (D := D1) (a := a) (b := b) (cOK_5 hM2)
  obtain ⟨q_12, wq_12, heq_12⟩ := heM_Hard (cy := cy) (I := I_8) (D := D1) (a := a) (b := b) cOK_30
  obtain ⟨h_13, hf⟩ := ck_out hf
  obtain ⟨I_14, eI_14, hf⟩ := nm_out hf
  refine va_copyi (n := 12) (sp := 0) (dp := 0) hx hb (by rw [hml]; exact hl.1.symm) hown (hts (.methodLink RX5 46 arraycopyName) (List.mem_cons_of_mem _ (List.mem_append_left _ (List.mem_append_left _ (List.mem_of_getElem? (i := 6) rfl))))) (hts (.native arraycopyName) (List.mem_cons_of_mem _ (List.mem_append_left _ (List.mem_append_left _ (List.mem_of_getElem? (i := 7) rfl))))) (hts (.static arraycopyName) (List.mem_cons_of_mem _ (List.mem_append_left _ (List.mem_append_left _ (List.mem_of_getElem? (i := 8) rfl))))) (hts (.initialized "java/lang/System") (List.mem_cons_of_mem _ (List.mem_append_left _ (List.mem_append_left _ (List.mem_of_getElem? (i := 9) rfl))))) hK hP (hDD2 I_8 D1) hS q_11 q_12 5 5 heq_11 heq_12 rfl rfl rfl (by decide) (by decide) (by decide) (by decide) (by decide) (allB_fit h_13) (Nat.le_of_ble_eq_true rfl) (Nat.le_of_ble_eq_true rfl) dX5_copy_47 (fun H locs hP _ hS => ?_)
  have hP : va_P (dC, dI) vwCl (iwM (L ++ p8) a b (adC ad q) cy I_14 D1) H := by rw [eI_14]; exact hrI hM2 wq_12 (cellM_Hard (adC ad q) cy a b (Or.inr rfl) _ _) hP
  refine lv_aload_n hx hb dX5_copy_50 rfl (lv_at hl 1 rfl) ?_
  obtain ⟨q_15, wq_15, heq_15⟩ := heM_Cold (cy := cy) (I := I_14) (D := D1) (a := a) (b := b) (cOK_5 hM2)
  refine va_get (D := (dC, dI)) (ci := 6) (v := .ref ((adC ad q) (5 + 4))) (C := RX5) (T := TX5) (N := 10) hx hb hts iX5_copy_RX5 hown hK hP q_15 heq_15 rfl 4 (by decide) (hts (.fieldLink RX5 26 "OverrunHouseModel$Cold" "where" "[I") (List.mem_cons_of_mem _ (List.mem_append_left _ (List.mem_append_left _ (List.mem_of_getElem? (i := 11) rfl))))) (fun _ h9 => h9) rfl dX5_copy_51 ?_
  refine lv_iconst (v := 0) hx hb dX5_copy_54 (by decide) ?_
  refine lv_aload_n hx hb dX5_copy_55 rfl (lv_at hl 0 rfl) ?_
  obtain ⟨q_16, wq_16, heq_16⟩ := heM_Cold (cy := cy) (I := I_14) (D := D1) (a := a) (b := b) cOK_30
  refine va_get (D := (dC, dI)) (ci := 6) (v := .ref ((adC ad q) (30 + 4))) (C := RX5) (T := TX5) (N := 10) hx hb hts iX5_copy_RX5 hown hK hP q_16 heq_16 rfl 4 (by decide) (hts (.fieldLink RX5 26 "OverrunHouseModel$Cold" "where" "[I") (List.mem_cons_of_mem _ (List.mem_append_left _ (List.mem_append_left _ (List.mem_of_getElem? (i := 11) rfl))))) (fun _ h9 => h9) rfl dX5_copy_56 ?_
  refine lv_iconst (v := 0) hx hb dX5_copy_59 (by decide) ?_
  refine lv_bipush (v := 12) hx hb dX5_copy_60 (by decide) ?_
  obtain ⟨q_17, wq_17, heq_17⟩ := heM_Where (cy := cy) (I := I_14) (D := D1) (a := a) (b := b) (cOK_5 hM2)
  obtain ⟨q_18, wq_18, heq_18⟩ := heM_Where (cy := cy) (I := I_14) (D := D1) (a := a) (b := b) cOK_30
  obtain ⟨I_19, eI_19, hf⟩ := nm_out hf
  refine va_copyi (n := 12) (sp := 0) (dp := 0) hx hb (by rw [hml]; exact hl.1.symm) hown (hts (.methodLink RX5 46 arraycopyName) (List.mem_cons_of_mem _ (List.mem_append_left _ (List.mem_append_left _ (List.mem_of_getElem? (i := 6) rfl))))) (hts (.native arraycopyName) (List.mem_cons_of_mem _ (List.mem_append_left _ (List.mem_append_left _ (List.mem_of_getElem? (i := 7) rfl))))) (hts (.static arraycopyName) (List.mem_cons_of_mem _ (List.mem_append_left _ (List.mem_append_left _ (List.mem_of_getElem? (i := 8) rfl))))) (hts (.initialized "java/lang/System") (List.mem_cons_of_mem _ (List.mem_append_left _ (List.mem_append_left _ (List.mem_of_getElem? (i := 9) rfl))))) hK hP (hDD2 I_14 D1) hS q_17 q_18 0 0 heq_17 heq_18 rfl rfl rfl (by decide) (by decide) (by decide) (by decide) (by decide) (fun _ _ => rfl) (Nat.le_of_ble_eq_true rfl) (Nat.le_of_ble_eq_true rfl) dX5_copy_62 (fun H locs hP _ hS => ?_)
  have hP : va_P (dC, dI) vwCl (iwM (L ++ p8) a b (adC ad q) cy I_19 D1) H := by rw [eI_19]; exact hrI hM2 wq_18 (cellM_Where (adC ad q) cy a b (Or.inr rfl) _ _) hP
  refine lv_aload_n hx hb dX5_copy_65 rfl (lv_at hl 1 rfl) ?_
  obtain ⟨q_20, wq_20, heq_20⟩ := heM_Cold (cy := cy) (I := I_19) (D := D1) (a := a) (b := b) (cOK_5 hM2)
  refine va_get (D := (dC, dI)) (ci := 6) (v := .ref ((adC ad q) (5 + 5))) (C := RX5) (T := TX5) (N := 10) hx hb hts iX5_copy_RX5 hown hK hP q_20 heq_20 rfl 5 (by decide) (hts (.fieldLink RX5 29 "OverrunHouseModel$Cold" "crystal" "[D") (List.mem_cons_of_mem _ (List.mem_append_left _ (List.mem_append_left _ (List.mem_of_getElem? (i := 12) rfl))))) (fun _ h9 => h9) rfl dX5_copy_66 ?_
  refine lv_iconst (v := 0) hx hb dX5_copy_69 (by decide) ?_
  refine lv_aload_n hx hb dX5_copy_70 rfl (lv_at hl 0 rfl) ?_
  obtain ⟨q_21, wq_21, heq_21⟩ := heM_Cold (cy := cy) (I := I_19) (D := D1) (a := a) (b := b) cOK_30
  refine va_get (D := (dC, dI)) (ci := 6) (v := .ref ((adC ad q) (30 + 5))) (C := RX5) (T := TX5) (N := 10) hx hb hts iX5_copy_RX5 hown hK hP q_21 heq_21 rfl 5 (by decide) (hts (.fieldLink RX5 29 "OverrunHouseModel$Cold" "crystal" "[D") (List.mem_cons_of_mem _ (List.mem_append_left _ (List.mem_append_left _ (List.mem_of_getElem? (i := 12) rfl))))) (fun _ h9 => h9) rfl dX5_copy_71 ?_
  refine lv_iconst (v := 0) hx hb dX5_copy_74 (by decide) ?_
  refine lv_bipush (v := 12) hx hb dX5_copy_75 (by decide) ?_
  obtain ⟨q_22, wq_22, heq_22⟩ := heM_Crystal (cy := cy) (I := I_19) (D := D1) (a := a) (b := b) (cOK_5 hM2)
  obtain ⟨q_23, wq_23, heq_23⟩ := heM_Crystal (cy := cy) (I := I_19) (D := D1) (a := a) (b := b) cOK_30
  obtain ⟨D_24, eD_24, hf⟩ := nm_out hf
  refine va_copyd (n := 12) (sp := 0) (dp := 0) hx hb (by rw [hml]; exact hl.1.symm) hown (hts (.methodLink RX5 46 arraycopyName) (List.mem_cons_of_mem _ (List.mem_append_left _ (List.mem_append_left _ (List.mem_of_getElem? (i := 6) rfl))))) (hts (.native arraycopyName) (List.mem_cons_of_mem _ (List.mem_append_left _ (List.mem_append_left _ (List.mem_of_getElem? (i := 7) rfl))))) (hts (.static arraycopyName) (List.mem_cons_of_mem _ (List.mem_append_left _ (List.mem_append_left _ (List.mem_of_getElem? (i := 8) rfl))))) (hts (.initialized "java/lang/System") (List.mem_cons_of_mem _ (List.mem_append_left _ (List.mem_append_left _ (List.mem_of_getElem? (i := 9) rfl))))) hK hP (hDD2 I_19 D1) hS q_22 q_23 6 6 heq_22 heq_23 rfl rfl rfl (by decide) (by decide) (by decide) (by decide) (by decide) (fun _ _ => rfl) (Nat.le_of_ble_eq_true rfl) (Nat.le_of_ble_eq_true rfl) dX5_copy_77 (fun H locs hP _ hS => ?_)
  have hP : va_P (dC, dI) vwCl (iwM (L ++ p8) a b (adC ad q) cy I_19 D_24) H := by rw [eD_24]; exact hrD hM2 wq_23 (cellM_Crystal (adC ad q) cy a b (Or.inr rfl) _ _) hP
  refine lv_aload_n hx hb dX5_copy_80 rfl (lv_at hl 0 rfl) ?_
  refine lv_aload_n hx hb dX5_copy_81 rfl (lv_at hl 1 rfl) ?_
  obtain ⟨q_25, wq_25, heq_25⟩ := heM_Cold (cy := cy) (I := I_19) (D := D_24) (a := a) (b := b) (cOK_5 hM2)
  refine va_get (D := (dC, dI)) (ci := 6) (v := .int (I_19 5 6)) (C := RX5) (T := TX5) (N := 10) hx hb hts iX5_copy_RX5 hown hK hP q_25 heq_25 rfl 6 (by decide) (hts (.fieldLink RX5 52 "OverrunHouseModel$Cold" "stores" "I") (List.mem_cons_of_mem _ (List.mem_append_left _ (List.mem_append_left _ (List.mem_of_getElem? (i := 13) rfl))))) (fun _ h9 => h9) rfl dX5_copy_82 ?_
  obtain ⟨q_26, wq_26, heq_26⟩ := heM_Cold (cy := cy) (I := I_19) (D := D_24) (a := a) (b := b) cOK_30
  obtain ⟨I_27, eI_27, hf⟩ := nm_out hf
  refine va_put (D := (dC, dI)) (ci := 6) (v := .int (I_19 5 6)) (ty := .int) (C := RX5) (T := TX5) (N := 10) hx hb hts iX5_copy_RX5 tyX5 tyX5_ok nmX5 hown hK hP (hDD2 I_19 D_24) hS q_26 heq_26 rfl 6 (by decide) (hts (.fieldLink RX5 52 "OverrunHouseModel$Cold" "stores" "I") (List.mem_cons_of_mem _ (List.mem_append_left _ (List.mem_append_left _ (List.mem_of_getElem? (i := 13) rfl))))) (fun _ h9 => h9) rfl (by decide +kernel) rfl rfl (Nat.le_of_ble_eq_true rfl) dX5_copy_85 (fun H locs hP _ hS => ?_)
  have hP : va_P (dC, dI) vwCl (iwM (L ++ p8) a b (adC ad q) cy I_27 D_24) H := by rw [eI_27]; exact hqI hM2 wq_26 ((cellM_Cold (adC ad q) cy a b (Or.inr rfl) _ _).trans rfl) hP
  refine lv_aload_n hx hb dX5_copy_88 rfl (lv_at hl 1 rfl) ?_
  obtain ⟨q_28, wq_28, heq_28⟩ := heM_Cold (cy := cy) (I := I_27) (D := D_24) (a := a) (b := b) (cOK_5 hM2)
  refine va_get (D := (dC, dI)) (ci := 6) (v := .ref ((adC ad q) (5 + 6))) (C := RX5) (T := TX5) (N := 10) hx hb hts iX5_copy_RX5 hown hK hP q_28 heq_28 rfl 7 (by decide) (hts (.fieldLink RX5 33 "OverrunHouseModel$Cold" "set" "[I") (List.mem_cons_of_mem _ (List.mem_append_left _ (List.mem_append_left _ (List.mem_of_getElem? (i := 14) rfl))))) (fun _ h9 => h9) rfl dX5_copy_89 ?_
  refine lv_iconst (v := 0) hx hb dX5_copy_92 (by decide) ?_
  refine lv_aload_n hx hb dX5_copy_93 rfl (lv_at hl 0 rfl) ?_
  obtain ⟨q_29, wq_29, heq_29⟩ := heM_Cold (cy := cy) (I := I_27) (D := D_24) (a := a) (b := b) cOK_30
  refine va_get (D := (dC, dI)) (ci := 6) (v := .ref ((adC ad q) (30 + 6))) (C := RX5) (T := TX5) (N := 10) hx hb hts iX5_copy_RX5 hown hK hP q_29 heq_29 rfl 7 (by decide) (hts (.fieldLink RX5 33 "OverrunHouseModel$Cold" "set" "[I") (List.mem_cons_of_mem _ (List.mem_append_left _ (List.mem_append_left _ (List.mem_of_getElem? (i := 14) rfl))))) (fun _ h9 => h9) rfl dX5_copy_94 ?_
  refine lv_iconst (v := 0) hx hb dX5_copy_97 (by decide) ?_
  refine lv_iconst (v := 3) hx hb dX5_copy_98 (by decide) ?_
  obtain ⟨q_30, wq_30, heq_30⟩ := heM_Set (cy := cy) (I := I_27) (D := D_24) (a := a) (b := b) (cOK_5 hM2)
  obtain ⟨q_31, wq_31, heq_31⟩ := heM_Set (cy := cy) (I := I_27) (D := D_24) (a := a) (b := b) cOK_30
  obtain ⟨I_32, eI_32, hf⟩ := nm_out hf
  refine va_copyi (n := 3) (sp := 0) (dp := 0) hx hb (by rw [hml]; exact hl.1.symm) hown (hts (.methodLink RX5 46 arraycopyName) (List.mem_cons_of_mem _ (List.mem_append_left _ (List.mem_append_left _ (List.mem_of_getElem? (i := 6) rfl))))) (hts (.native arraycopyName) (List.mem_cons_of_mem _ (List.mem_append_left _ (List.mem_append_left _ (List.mem_of_getElem? (i := 7) rfl))))) (hts (.static arraycopyName) (List.mem_cons_of_mem _ (List.mem_append_left _ (List.mem_append_left _ (List.mem_of_getElem? (i := 8) rfl))))) (hts (.initialized "java/lang/System") (List.mem_cons_of_mem _ (List.mem_append_left _ (List.mem_append_left _ (List.mem_of_getElem? (i := 9) rfl))))) hK hP (hDD2 I_27 D_24) hS q_30 q_31 0 0 heq_30 heq_31 rfl rfl rfl (by decide) (by decide) (by decide) (by decide) (by decide) (fun _ _ => rfl) (Nat.le_of_ble_eq_true rfl) (Nat.le_of_ble_eq_true rfl) dX5_copy_99 (fun H locs hP _ hS => ?_)
  have hP : va_P (dC, dI) vwCl (iwM (L ++ p8) a b (adC ad q) cy I_32 D_24) H := by rw [eI_32]; exact hrI hM2 wq_31 (cellM_Set (adC ad q) cy a b (Or.inr rfl) _ _) hP
  refine lv_aload_n hx hb dX5_copy_102 rfl (lv_at hl 1 rfl) ?_
  obtain ⟨q_33, wq_33, heq_33⟩ := heM_Cold (cy := cy) (I := I_32) (D := D_24) (a := a) (b := b) (cOK_5 hM2)
  refine va_get (D := (dC, dI)) (ci := 6) (v := .ref ((adC ad q) (5 + 7))) (C := RX5) (T := TX5) (N := 10) hx hb hts iX5_copy_RX5 hown hK hP q_33 heq_33 rfl 8 (by decide) (hts (.fieldLink RX5 36 "OverrunHouseModel$Cold" "temp" "[D") (List.mem_cons_of_mem _ (List.mem_append_left _ (List.mem_append_left _ (List.mem_of_getElem? (i := 15) rfl))))) (fun _ h9 => h9) rfl dX5_copy_103 ?_
  refine lv_iconst (v := 0) hx hb dX5_copy_106 (by decide) ?_
  refine lv_aload_n hx hb dX5_copy_107 rfl (lv_at hl 0 rfl) ?_
  obtain ⟨q_34, wq_34, heq_34⟩ := heM_Cold (cy := cy) (I := I_32) (D := D_24) (a := a) (b := b) cOK_30
  refine va_get (D := (dC, dI)) (ci := 6) (v := .ref ((adC ad q) (30 + 7))) (C := RX5) (T := TX5) (N := 10) hx hb hts iX5_copy_RX5 hown hK hP q_34 heq_34 rfl 8 (by decide) (hts (.fieldLink RX5 36 "OverrunHouseModel$Cold" "temp" "[D") (List.mem_cons_of_mem _ (List.mem_append_left _ (List.mem_append_left _ (List.mem_of_getElem? (i := 15) rfl))))) (fun _ h9 => h9) rfl dX5_copy_108 ?_
  refine lv_iconst (v := 0) hx hb dX5_copy_111 (by decide) ?_
  refine lv_iconst (v := 3) hx hb dX5_copy_112 (by decide) ?_
  obtain ⟨q_35, wq_35, heq_35⟩ := heM_Temp (cy := cy) (I := I_32) (D := D_24) (a := a) (b := b) (cOK_5 hM2)
  obtain ⟨q_36, wq_36, heq_36⟩ := heM_Temp (cy := cy) (I := I_32) (D := D_24) (a := a) (b := b) cOK_30
  obtain ⟨D_37, eD_37, hf⟩ := nm_out hf
  refine va_copyd (n := 3) (sp := 0) (dp := 0) hx hb (by rw [hml]; exact hl.1.symm) hown (hts (.methodLink RX5 46 arraycopyName) (List.mem_cons_of_mem _ (List.mem_append_left _ (List.mem_append_left _ (List.mem_of_getElem? (i := 6) rfl))))) (hts (.native arraycopyName) (List.mem_cons_of_mem _ (List.mem_append_left _ (List.mem_append_left _ (List.mem_of_getElem? (i := 7) rfl))))) (hts (.static arraycopyName) (List.mem_cons_of_mem _ (List.mem_append_left _ (List.mem_append_left _ (List.mem_of_getElem? (i := 8) rfl))))) (hts (.initialized "java/lang/System") (List.mem_cons_of_mem _ (List.mem_append_left _ (List.mem_append_left _ (List.mem_of_getElem? (i := 9) rfl))))) hK hP (hDD2 I_32 D_24) hS q_35 q_36 6 6 heq_35 heq_36 rfl rfl rfl (by decide) (by decide) (by decide) (by decide) (by decide) (fun _ _ => rfl) (Nat.le_of_ble_eq_true rfl) (Nat.le_of_ble_eq_true rfl) dX5_copy_113 (fun H locs hP _ hS => ?_)
  have hP : va_P (dC, dI) vwCl (iwM (L ++ p8) a b (adC ad q) cy I_32 D_37) H := by rw [eD_37]; exact hrD hM2 wq_36 (cellM_Temp (adC ad q) cy a b (Or.inr rfl) _ _) hP
  refine lv_aload_n hx hb dX5_copy_116 rfl (lv_at hl 0 rfl) ?_
  have hf := Option.some.inj hf
  obtain ⟨q2, q3⟩ := Prod.mk.inj hf
  rw [q2, q3] at hP
  exact W.aret (v := .ref ((adC ad q) 30)) (rt := .object "OverrunHouseModel$Cold") hx hb hr (Or.inl ⟨_, rfl⟩) (Or.inr ⟨_, rfl⟩) (fun t ht hW9 => ⟨⟨q, (adC ad q) 30, rfl, trivial, rfl, hM2, wM.of hP hK hN ht hW9, by rw [hH]; exact hqs⟩, hS.F ht⟩) hS.2.2 dX5_copy_117
