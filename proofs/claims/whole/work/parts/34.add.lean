theorem va_Any.moved {E : String} {u U : State} {H : Heap} {a : Nat} (hvm : u.vm.Alike U.vm) (h : va_Any E u H a) : va_Any E U H a := by
  obtain ⟨cell, h1, h2, ⟨kC, h3⟩, h4⟩ := h
  obtain ⟨k', h5, _⟩ := hvm.2.2 _ _ h3
  exact ⟨cell, h1, h2, ⟨k', h5⟩, fun comp hc => by rw [hvm.assignable]; exact h4 comp (by rw [← hvm.findClass]; exact hc)⟩
theorem va_Any.kept {E : String} {s : State} {A : Nat → Prop} {H0 H : Heap} {a : Nat} (h : va_Any E s H0 a) (hk : ∀ q : Nat, q < H0.size → ¬ A q → H[q]? = H0[q]?) (hn : ¬ A a) : va_Any E s H a := by
  obtain ⟨cell, h1, h2⟩ := h
  exact ⟨cell, (hk a (Array.getElem?_eq_some_iff.mp h1).1 hn).trans h1, h2⟩

theorem icJx4a65c_grow_92f84_RJx4a65c : ∀ w ∈ u_ws RJx4a65c TJx4a65c 3, w ∈ wsJx4a65c_grow_92f84 := fun w h => List.mem_cons_of_mem _ (List.mem_append_right _ (h))
set_option maxHeartbeats 8000000 in
set_option maxRecDepth 100000 in
theorem ml_F_grow1 (l : Launch) (dC : Nat → ClassId) (dI : Nat → Nat → Nat) (cy : Nat → ClassId) (h0 t0 : Nat) (mc : Int32) (sz : Nat) : Met l yJx4a65c_grow_92f84 wsJx4a65c_grow_92f84 ({ frames := 1, cells := 1, slots := 10, locals := 14 }) (va_Pc [.ref h0, .int (0 + 1)] (fun U => U.heap.size = sz ∧ va_P (dC, dI) vwCl [(h0, .inr (0, [.int mc, .ref t0, .int 0]))] U.heap ∧ va_K (dC, dI) vwCl (tysA cy) U ∧ va_D (fun _ => True) [(h0, .inr (0, [.int mc, .ref t0, .int 0]))] ∧ va_AO "java/lang/Object" U ∧ va_Z "java/util/ArrayList" "DEFAULTCAPACITY_EMPTY_ELEMENTDATA" "[Ljava/lang/Object;" (.ref t0) (va_A [(h0, .inr (0, [.int mc, .ref t0, .int 0]))] sz) U U.heap ∧ va_T (.object "java/lang/Object") t0 0 (fun _ => .null) (va_A [(h0, .inr (0, [.int mc, .ref t0, .int 0]))] sz) U U.heap)) (va_Qr (fun (_ : Unit) => True) (fun _ r t => ∃ zq9 : Nat, zq9 = r ∧ va_P (dC, dI) vwCl [(h0, .inr (0, [.int mc, .ref zq9, .int 0])), (zq9, .inl (cy 7, 10, .inr (.inr (.inr (.inr (fun _ => none))))))] t.heap ∧ va_D (va_A [(h0, .inr (0, [.int mc, .ref t0, .int 0]))] sz) [(h0, .inr (0, [.int mc, .ref zq9, .int 0])), (zq9, .inl (cy 7, 10, .inr (.inr (.inr (.inr (fun _ => none))))))]) (va_A [(h0, .inr (0, [.int mc, .ref t0, .int 0]))] sz)) 1 10 (va_A [(h0, .inr (0, [.int mc, .ref t0, .int 0]))] sz) := by
  refine Met.ofW (cc := cJx4a65c_grow_92f84) (maxL := 4) (ret := (some (.array (.object "java/lang/Object")))) (by decide) rfl ?_
  intro p e s m args below meth c s₁ B hml hv
  obtain ⟨rfl, hsz, hP, hK, hD0, hO, hZ, hT⟩ := hv
  have hx := B.exec
  have hb := B.bytes
  have hr := B.returns
  have hts := atoms_spec (ws := wsJx4a65c_grow_92f84) B.pre
  have hown : s.vm.findClass RJx4a65c = some m.cls := findClass_of_methodNamed B.named
  have hlocks := B.notSynchronized
  subst hsz
  have hD := hD0.self (sz := s.heap.size)
  generalize hAe : va_A [(h0, .inr (0, [.int mc, .ref t0, .int 0]))] s.heap.size = A at hD hZ hT ⊢
  have hA : ∀ q : Nat, s.heap.size ≤ q → A q := fun q h => by rw [← hAe]; exact Or.inr h
  obtain ⟨H, hH⟩ : ∃ H : Heap, H = s.heap := ⟨_, rfl⟩
  have hS : va_S A s.heap H [] := by rw [hH]; exact va_S.rf
  have hP : va_P (dC, dI) vwCl [(h0, .inr (0, [.int mc, .ref t0, .int 0]))] H := by rw [hH]; exact hP
  suffices hgo : W p l e (headSpec wsJx4a65c_grow_92f84 ({ frames := 1, cells := 1, slots := 10, locals := 14 })).room s m ([.ref h0, .int (0 + 1)] : List Value).toArray below meth c H [] 0 0 (MQ below (va_Qr (fun (_ : Unit) => True) (fun _ r t => ∃ zq9 : Nat, zq9 = r ∧ va_P (dC, dI) vwCl [(h0, .inr (0, [.int mc, .ref zq9, .int 0])), (zq9, .inl (cy 7, 10, .inr (.inr (.inr (.inr (fun _ => none))))))] t.heap ∧ va_D A [(h0, .inr (0, [.int mc, .ref zq9, .int 0])), (zq9, .inl (cy 7, 10, .inr (.inr (.inr (.inr (fun _ => none))))))]) A) ([.ref h0, .int (0 + 1)] : List Value).toArray s 1 10 A) (entryFrame m ([.ref h0, .int (0 + 1)] : List Value).toArray 4) by rw [← hH]; exact hgo
  clear hH
  have hl := lv_entry ([.ref h0, .int (0 + 1)]) (n := 4) (Nat.le_of_ble_eq_true rfl)
  rw [lg_entry_eq]
  generalize (lg_sl ([.ref h0, .int (0 + 1)]) ++ List.replicate (4 - (lg_sl ([.ref h0, .int (0 + 1)])).length) Slot.unset).toArray = ls at hl ⊢
  have hl : lv_has ls 4 [(0, .ref h0), (1, .int (0 + 1))] := hl
  refine lv_aload_n hx hb dJx4a65c_grow_92f84_0 rfl (lv_at hl 0 rfl) ?_
  refine va_get (D := (dC, dI)) (ci := 0) (v := .ref t0) (C := RJx4a65c) (T := TJx4a65c) (N := 3) hx hb hts icJx4a65c_grow_92f84_RJx4a65c hown hK hP 0 rfl rfl 1 (by decide) (hts (.fieldLink RJx4a65c 9 "java/util/ArrayList" "elementData" "[Ljava/lang/Object;") (List.mem_cons_of_mem _ (List.mem_append_left _ (List.mem_append_left _ (List.mem_of_getElem? (i := 0) rfl))))) (fun _ h9 => h9) rfl dJx4a65c_grow_92f84_1 ?_
  refine va_tlen (v := 0) hx hb hT hS rfl dJx4a65c_grow_92f84_4 ?_
  refine lv_istore_n (lv' := [(2, .int 0), (0, .ref h0), (1, .int (0 + 1))]) hx hb dJx4a65c_grow_92f84_5 rfl hl (by decide) rfl (fun ls hl => ?_)
  refine lv_iload_n hx hb dJx4a65c_grow_92f84_6 rfl (lv_at hl 0 rfl) ?_
  refine lv_if_gt (tgt := 20) hx hb dJx4a65c_grow_92f84_7 (by decide) (fun h => absurd h (by decide)) (fun _ => ?_)
  refine lv_aload_n hx hb dJx4a65c_grow_92f84_10 rfl (lv_at hl 1 rfl) ?_
  refine va_get (D := (dC, dI)) (ci := 0) (v := .ref t0) (C := RJx4a65c) (T := TJx4a65c) (N := 3) hx hb hts icJx4a65c_grow_92f84_RJx4a65c hown hK hP 0 rfl rfl 1 (by decide) (hts (.fieldLink RJx4a65c 9 "java/util/ArrayList" "elementData" "[Ljava/lang/Object;") (List.mem_cons_of_mem _ (List.mem_append_left _ (List.mem_append_left _ (List.mem_of_getElem? (i := 0) rfl))))) (fun _ h9 => h9) rfl dJx4a65c_grow_92f84_11 ?_
  refine va_gets hx hb (C := "java/util/ArrayList") (n := "DEFAULTCAPACITY_EMPTY_ELEMENTDATA") (d := "[Ljava/lang/Object;") hZ hS hown (hts (.fieldLink RJx4a65c 39 "java/util/ArrayList" "DEFAULTCAPACITY_EMPTY_ELEMENTDATA" "[Ljava/lang/Object;") (List.mem_cons_of_mem _ (List.mem_append_left _ (List.mem_append_left _ (List.mem_of_getElem? (i := 1) rfl))))) (fun _ h9 => h9) dJx4a65c_grow_92f84_14 ?_
  refine lv_acmp_eq (rx := some t0) (ry := some t0) (tgt := 45) hx hb dJx4a65c_grow_92f84_17 (by decide) (fun _ => ?_) (fun h => absurd rfl h)
  refine lv_aload_n hx hb dJx4a65c_grow_92f84_45 rfl (lv_at hl 1 rfl) ?_
  refine lv_bipush (v := 10) hx hb dJx4a65c_grow_92f84_46 (by decide) ?_
  refine lv_iload_n hx hb dJx4a65c_grow_92f84_48 rfl (lv_at hl 2 rfl) ?_
  refine va_mmax (x := 10) (y := (0 + 1)) hx hb (by rw [hml]; exact hl.1.symm) hown (hts (.methodLink RJx4a65c 79 Lib.Math.max.name) (List.mem_cons_of_mem _ (List.mem_append_left _ (List.mem_append_left _ (List.mem_of_getElem? (i := 2) rfl))))) (hts (.static Lib.Math.max.name) (List.mem_cons_of_mem _ (List.mem_append_left _ (List.mem_append_left _ (List.mem_of_getElem? (i := 3) rfl))))) (hts (.initialized "java/lang/Math") (List.mem_cons_of_mem _ (List.mem_append_left _ (List.mem_append_left _ (List.mem_of_getElem? (i := 4) rfl))))) (hts (.code Lib.Math.max.name Lib.Math.max.code 2 (some .int)) (List.mem_cons_of_mem _ (List.mem_append_left _ (List.mem_append_left _ (List.mem_of_getElem? (i := 5) rfl))))) (Nat.le_of_ble_eq_true rfl) (Nat.le_of_ble_eq_true rfl) (Nat.le_of_ble_eq_true rfl) (Nat.le_of_ble_eq_true rfl) dJx4a65c_grow_92f84_49 ?_
  rw [show (if (10 : Int32) < (0 + 1) then ((0 + 1) : Int32) else 10) = 10 from by decide +kernel]
  refine va_newq (C := "java/lang/Object") (N' := 10) (D := (dC, dI)) (cl := vwCl) hx hb hown (hts (.classLink RJx4a65c 7 "java/lang/Object") (List.mem_cons_of_mem _ (List.mem_append_left _ (List.mem_append_left _ (List.mem_of_getElem? (i := 6) rfl))))) hO hK hP hD hS hA (by decide) (by decide) (by decide) (Nat.le_of_ble_eq_true rfl) (Nat.le_of_ble_eq_true rfl) dJx4a65c_grow_92f84_52 (fun zq9 cA9 H hKt hP hD hS => ?_)
  obtain rfl : cA9 = cy 7 := cy_sameO hKt 7 rfl rfl
  have hP : va_P (dC, dI) vwCl [(h0, .inr (0, [.int mc, .ref t0, .int 0])), (zq9, .inl (cy 7, 10, .inr (.inr (.inr (.inr (fun _ => none))))))] H := hP
  have hD : va_D A [(h0, .inr (0, [.int mc, .ref t0, .int 0])), (zq9, .inl (cy 7, 10, .inr (.inr (.inr (.inr (fun _ => none))))))] := hD
  refine lv_dup_x1 hx hb dJx4a65c_grow_92f84_55 rfl rfl ?_
  refine va_put (D := (dC, dI)) (ci := 0) (v := .ref zq9) (ty := .array (.object "java/lang/Object")) (C := RJx4a65c) (T := TJx4a65c) (N := 3) hx hb hts icJx4a65c_grow_92f84_RJx4a65c tyJx4a65c tyJx4a65c_ok nmJx4a65c hown hK hP hD hS 0 rfl rfl 1 (by decide) (hts (.fieldLink RJx4a65c 9 "java/util/ArrayList" "elementData" "[Ljava/lang/Object;") (List.mem_cons_of_mem _ (List.mem_append_left _ (List.mem_append_left _ (List.mem_of_getElem? (i := 0) rfl))))) (fun _ h9 => h9) rfl (by decide +kernel) rfl rfl (Nat.le_of_ble_eq_true rfl) dJx4a65c_grow_92f84_56 (fun H locs hP hD hS => ?_)
  have hP : va_P (dC, dI) vwCl [(h0, .inr (0, [.int mc, .ref zq9, .int 0])), (zq9, .inl (cy 7, 10, .inr (.inr (.inr (.inr (fun _ => none))))))] H := hP
  have hD : va_D A [(h0, .inr (0, [.int mc, .ref zq9, .int 0])), (zq9, .inl (cy 7, 10, .inr (.inr (.inr (.inr (fun _ => none))))))] := hD
  exact W.aret (v := .ref zq9) (rt := .array (.object "java/lang/Object")) hx hb hr (Or.inr ⟨_, rfl⟩) (Or.inr ⟨_, rfl⟩) (fun t ht hW9 => ⟨⟨(), zq9, rfl, trivial, zq9, rfl, by rw [ht]; exact hP, hD⟩, hS.F ht⟩) hS.2.2 dJx4a65c_grow_92f84_59

theorem icJx4a65c_grow_d5877_RJx4a65c : ∀ w ∈ u_ws RJx4a65c TJx4a65c 3, w ∈ wsJx4a65c_grow_d5877 := fun w h => List.mem_cons_of_mem _ (List.mem_append_right _ (h))
set_option maxHeartbeats 8000000 in
set_option maxRecDepth 100000 in
theorem ml_F_grow0 (l : Launch) (dC : Nat → ClassId) (dI : Nat → Nat → Nat) (cy : Nat → ClassId) (h0 t0 : Nat) (mc : Int32) (sz : Nat) : Met l yJx4a65c_grow_d5877 wsJx4a65c_grow_d5877 ({ frames := 2, cells := 1, slots := 10, locals := 37 }) (va_Pc [.ref h0] (fun U => U.heap.size = sz ∧ va_P (dC, dI) vwCl [(h0, .inr (0, [.int mc, .ref t0, .int 0]))] U.heap ∧ va_K (dC, dI) vwCl (tysA cy) U ∧ va_D (fun _ => True) [(h0, .inr (0, [.int mc, .ref t0, .int 0]))] ∧ va_AO "java/lang/Object" U ∧ va_Z "java/util/ArrayList" "DEFAULTCAPACITY_EMPTY_ELEMENTDATA" "[Ljava/lang/Object;" (.ref t0) (va_A [(h0, .inr (0, [.int mc, .ref t0, .int 0]))] sz) U U.heap ∧ va_T (.object "java/lang/Object") t0 0 (fun _ => .null) (va_A [(h0, .inr (0, [.int mc, .ref t0, .int 0]))] sz) U U.heap)) (va_Qr (fun (_ : Unit) => True) (fun _ r t => ∃ zq9 : Nat, zq9 = r ∧ va_P (dC, dI) vwCl [(h0, .inr (0, [.int (mc), .ref zq9, .int 0])), (zq9, .inl (cy 7, 10, .inr (.inr (.inr (.inr (fun _ => none))))))] t.heap ∧ va_D (va_A [(h0, .inr (0, [.int mc, .ref t0, .int 0]))] sz) [(h0, .inr (0, [.int (mc), .ref zq9, .int 0])), (zq9, .inl (cy 7, 10, .inr (.inr (.inr (.inr (fun _ => none))))))]) (va_A [(h0, .inr (0, [.int mc, .ref t0, .int 0]))] sz)) 1 10 (va_A [(h0, .inr (0, [.int mc, .ref t0, .int 0]))] sz) := by
  refine Met.ofW (cc := cJx4a65c_grow_d5877) (maxL := 1) (ret := (some (.array (.object "java/lang/Object")))) (by decide) rfl ?_
  intro p e s m args below meth c s₁ B hml hv
  obtain ⟨rfl, hsz, hP, hK, hD0, hO, hZ, hT⟩ := hv
  have hx := B.exec
  have hb := B.bytes
  have hr := B.returns
  have hts := atoms_spec (ws := wsJx4a65c_grow_d5877) B.pre
  have hown : s.vm.findClass RJx4a65c = some m.cls := findClass_of_methodNamed B.named
  have hlocks := B.notSynchronized
  subst hsz
  have hD := hD0.self (sz := s.heap.size)
  generalize hAe : va_A [(h0, .inr (0, [.int mc, .ref t0, .int 0]))] s.heap.size = A at hD hZ hT ⊢
  have hA : ∀ q : Nat, s.heap.size ≤ q → A q := fun q h => by rw [← hAe]; exact Or.inr h
  obtain ⟨H, hH⟩ : ∃ H : Heap, H = s.heap := ⟨_, rfl⟩
  have hS : va_S A s.heap H [] := by rw [hH]; exact va_S.rf
  have hP : va_P (dC, dI) vwCl [(h0, .inr (0, [.int mc, .ref t0, .int 0]))] H := by rw [hH]; exact hP
  suffices hgo : W p l e (headSpec wsJx4a65c_grow_d5877 ({ frames := 2, cells := 1, slots := 10, locals := 37 })).room s m ([.ref h0] : List Value).toArray below meth c H [] 0 0 (MQ below (va_Qr (fun (_ : Unit) => True) (fun _ r t => ∃ zq9 : Nat, zq9 = r ∧ va_P (dC, dI) vwCl [(h0, .inr (0, [.int (mc), .ref zq9, .int 0])), (zq9, .inl (cy 7, 10, .inr (.inr (.inr (.inr (fun _ => none))))))] t.heap ∧ va_D A [(h0, .inr (0, [.int (mc), .ref zq9, .int 0])), (zq9, .inl (cy 7, 10, .inr (.inr (.inr (.inr (fun _ => none))))))]) A) ([.ref h0] : List Value).toArray s 1 10 A) (entryFrame m ([.ref h0] : List Value).toArray 1) by rw [← hH]; exact hgo
  clear hH
  have hl := lv_entry ([.ref h0]) (n := 1) (Nat.le_of_ble_eq_true rfl)
  rw [lg_entry_eq]
  generalize (lg_sl ([.ref h0]) ++ List.replicate (1 - (lg_sl ([.ref h0])).length) Slot.unset).toArray = ls at hl ⊢
  have hl : lv_has ls 1 [(0, .ref h0)] := hl
  refine lv_aload_n hx hb dJx4a65c_grow_d5877_0 rfl (lv_at hl 0 rfl) ?_
  refine lv_aload_n hx hb dJx4a65c_grow_d5877_1 rfl (lv_at hl 0 rfl) ?_
  refine va_get (D := (dC, dI)) (ci := 0) (v := .int 0) (C := RJx4a65c) (T := TJx4a65c) (N := 3) hx hb hts icJx4a65c_grow_d5877_RJx4a65c hown hK hP 0 rfl rfl 2 (by decide) (hts (.fieldLink RJx4a65c 48 "java/util/ArrayList" "size" "I") (List.mem_cons_of_mem _ (List.mem_append_left _ (List.mem_append_left _ (List.mem_of_getElem? (i := 0) rfl))))) (fun _ h9 => h9) rfl dJx4a65c_grow_d5877_2 ?_
  refine lv_iconst (v := 1) hx hb dJx4a65c_grow_d5877_5 (by decide) ?_
  refine lv_iadd hx hb dJx4a65c_grow_d5877_6 ?_
  have hPc := hP.sub (ws' := [(h0, .inr (0, [.int mc, .ref t0, .int 0]))]) [0] rfl
  have hDc := hD.sub (ws' := [(h0, .inr (0, [.int mc, .ref t0, .int 0]))]) [0] (by decide) rfl
  have hFc := va_free (wc := [(h0, .inr (0, [.int mc, .ref t0, .int 0]))]) hD hS hA [0] rfl
  refine va_callr (va_runV (As := [.int (0 + 1)]) (rest := []) ⟨hx, hb, hml, hown, hts⟩ (ml_F_grow1 l dC dI cy h0 t0 (mc) H.size) (cwV 1 hts gJx4a65c_grow_d5877_Jx4a65c_grow_92f84 rfl rfl rfl (by decide +kernel) ⟨(Nat.le_of_ble_eq_true rfl), (Nat.le_of_ble_eq_true rfl)⟩) ⟨fun a U g mk q => by obtain ⟨q0, q1, q2, q3, q4, q5, q6, q7⟩ := q; exact ⟨q0, q1, q2, va_K.moved (u := U) (U := U.calling g mk a) (Vm.Alike.refl U.vm) q3, q4, va_AO.moved (u := U) (U := U.calling g mk a) (Vm.Alike.refl U.vm) q5, va_Z.moved (u := U) (U := U.calling g mk a) (Vm.Alike.refl U.vm) q6, va_T.moved (u := U) (U := U.calling g mk a) (Vm.Alike.refl U.vm) q7⟩, va_recv hK hP (q0 := 0) (q := (RJx4a65c, TJx4a65c, 3)) rfl rfl, fun U hU hW1 => ⟨rfl, by rw [hU], by rw [hU]; exact hPc, va_K.moved hW1.alike hK, hDc.weaken (fun _ _ _ _ => trivial), hO.moved hW1.alike, by rw [hU]; exact va_Z.moved hW1.alike ((hZ.kept hS.2.1).narrow hFc), by rw [hU]; exact va_T.moved hW1.alike ((hT.kept hS.2.1).narrow hFc)⟩⟩ rfl rfl hl.1 rfl (lv_room (Nat.le_of_ble_eq_true rfl)) dJx4a65c_grow_d5877_7 ⟨(Nat.le_of_ble_eq_true rfl), (Nat.le_of_ble_eq_true rfl)⟩) hS (fun q _ h => hFc q h) hFc (fun u r9 t H1 locs ht hvm hw hB hz1 hk1 hS => ?_)
  obtain ⟨zq9, e9, hP1, hD1⟩ := hB
  subst e9
  rw [ht] at hP1
  obtain ⟨hP, hD⟩ := va_join (wr := []) (w1 := [(h0, .inr (0, [.int (mc), .ref zq9, .int 0])), (zq9, .inl (cy 7, 10, .inr (.inr (.inr (.inr (fun _ => none))))))]) hP hD [0] [] rfl rfl (by decide) (by decide) hk1 hFc hP1 hD1
  generalize H1 = H at hP hS ⊢
  have hP : va_P (dC, dI) vwCl [(h0, .inr (0, [.int (mc), .ref zq9, .int 0])), (zq9, .inl (cy 7, 10, .inr (.inr (.inr (.inr (fun _ => none))))))] H := hP
  have hD : va_D A [(h0, .inr (0, [.int (mc), .ref zq9, .int 0])), (zq9, .inl (cy 7, 10, .inr (.inr (.inr (.inr (fun _ => none))))))] := hD
  clear hk1 hz1 hvm ht hPc hDc hFc hP1 hD1
  exact W.aret (v := .ref zq9) (rt := .array (.object "java/lang/Object")) hx hb hr (Or.inr ⟨_, rfl⟩) (Or.inr ⟨_, rfl⟩) (fun t ht hW9 => ⟨⟨(), zq9, rfl, trivial, zq9, rfl, by rw [ht]; exact hP, hD⟩, hS.F ht⟩) hS.2.2 dJx4a65c_grow_d5877_10

theorem icJx4a65c_add_72be8_RJx4a65c : ∀ w ∈ u_ws RJx4a65c TJx4a65c 3, w ∈ wsJx4a65c_add_72be8 := fun w h => List.mem_cons_of_mem _ (List.mem_append_right _ (h))
set_option maxHeartbeats 8000000 in
set_option maxRecDepth 100000 in
theorem ml_F_add3 (l : Launch) (dC : Nat → ClassId) (dI : Nat → Nat → Nat) (cy : Nat → ClassId) (h0 t0 v : Nat) (mc : Int32) (sz : Nat) : Met l yJx4a65c_add_72be8 wsJx4a65c_add_72be8 ({ frames := 3, cells := 1, slots := 10, locals := 57 }) (va_Pc [.ref h0, .ref v, .ref t0, .int 0] (fun U => U.heap.size = sz ∧ va_P (dC, dI) vwCl [(h0, .inr (0, [.int mc, .ref t0, .int 0]))] U.heap ∧ va_K (dC, dI) vwCl (tysA cy) U ∧ va_D (fun _ => True) [(h0, .inr (0, [.int mc, .ref t0, .int 0]))] ∧ va_AO "java/lang/Object" U ∧ va_Z "java/util/ArrayList" "DEFAULTCAPACITY_EMPTY_ELEMENTDATA" "[Ljava/lang/Object;" (.ref t0) (va_A [(h0, .inr (0, [.int mc, .ref t0, .int 0]))] sz) U U.heap ∧ va_T (.object "java/lang/Object") t0 0 (fun _ => .null) (va_A [(h0, .inr (0, [.int mc, .ref t0, .int 0]))] sz) U U.heap ∧ va_Any "java/lang/Object" U U.heap v ∧ ¬ va_A [(h0, .inr (0, [.int mc, .ref t0, .int 0]))] sz v)) (va_Qv (fun (_ : Unit) => True) (fun _ t => ∃ zq9 : Nat, va_P (dC, dI) vwCl [(h0, .inr (0, [.int ((mc)), .ref zq9, .int (0 + 1)])), (zq9, .inl (cy 7, 10, .inr (.inr (.inr (.inr (va_up (fun _ => none) 0 (some v)))))))] t.heap ∧ va_D (va_A [(h0, .inr (0, [.int mc, .ref t0, .int 0]))] sz) [(h0, .inr (0, [.int ((mc)), .ref zq9, .int (0 + 1)])), (zq9, .inl (cy 7, 10, .inr (.inr (.inr (.inr (va_up (fun _ => none) 0 (some v)))))))]) (va_A [(h0, .inr (0, [.int mc, .ref t0, .int 0]))] sz)) 1 10 (va_A [(h0, .inr (0, [.int mc, .ref t0, .int 0]))] sz) := by
  refine Met.ofW (cc := cJx4a65c_add_72be8) (maxL := 4) (ret := none) (by decide) rfl ?_
  intro p e s m args below meth c s₁ B hml hv
  obtain ⟨rfl, hsz, hP, hK, hD0, hO, hZ, hT, hV, hNV⟩ := hv
  have hx := B.exec
  have hb := B.bytes
  have hr := B.returns
  have hts := atoms_spec (ws := wsJx4a65c_add_72be8) B.pre
  have hown : s.vm.findClass RJx4a65c = some m.cls := findClass_of_methodNamed B.named
  have hlocks := B.notSynchronized
  subst hsz
  have hD := hD0.self (sz := s.heap.size)
  generalize hAe : va_A [(h0, .inr (0, [.int mc, .ref t0, .int 0]))] s.heap.size = A at hD hZ hT hNV ⊢
  have hA : ∀ q : Nat, s.heap.size ≤ q → A q := fun q h => by rw [← hAe]; exact Or.inr h
  obtain ⟨H, hH⟩ : ∃ H : Heap, H = s.heap := ⟨_, rfl⟩
  have hS : va_S A s.heap H [] := by rw [hH]; exact va_S.rf
  have hP : va_P (dC, dI) vwCl [(h0, .inr (0, [.int mc, .ref t0, .int 0]))] H := by rw [hH]; exact hP
  suffices hgo : W p l e (headSpec wsJx4a65c_add_72be8 ({ frames := 3, cells := 1, slots := 10, locals := 57 })).room s m ([.ref h0, .ref v, .ref t0, .int 0] : List Value).toArray below meth c H [] 0 0 (MQ below (va_Qv (fun (_ : Unit) => True) (fun _ t => ∃ zq9 : Nat, va_P (dC, dI) vwCl [(h0, .inr (0, [.int ((mc)), .ref zq9, .int (0 + 1)])), (zq9, .inl (cy 7, 10, .inr (.inr (.inr (.inr (va_up (fun _ => none) 0 (some v)))))))] t.heap ∧ va_D A [(h0, .inr (0, [.int ((mc)), .ref zq9, .int (0 + 1)])), (zq9, .inl (cy 7, 10, .inr (.inr (.inr (.inr (va_up (fun _ => none) 0 (some v)))))))]) A) ([.ref h0, .ref v, .ref t0, .int 0] : List Value).toArray s 1 10 A) (entryFrame m ([.ref h0, .ref v, .ref t0, .int 0] : List Value).toArray 4) by rw [← hH]; exact hgo
  clear hH
  have hl := lv_entry ([.ref h0, .ref v, .ref t0, .int 0]) (n := 4) (Nat.le_of_ble_eq_true rfl)
  rw [lg_entry_eq]
  generalize (lg_sl ([.ref h0, .ref v, .ref t0, .int 0]) ++ List.replicate (4 - (lg_sl ([.ref h0, .ref v, .ref t0, .int 0])).length) Slot.unset).toArray = ls at hl ⊢
  have hl : lv_has ls 4 [(0, .ref h0), (1, .ref v), (2, .ref t0), (3, .int 0)] := hl
  refine lv_iload_n hx hb dJx4a65c_add_72be8_0 rfl (lv_at hl 3 rfl) ?_
  refine lv_aload_n hx hb dJx4a65c_add_72be8_1 rfl (lv_at hl 2 rfl) ?_
  refine va_tlen (v := 0) hx hb hT hS rfl dJx4a65c_add_72be8_2 ?_
  refine lv_icmp_ne (tgt := 11) hx hb dJx4a65c_add_72be8_3 (by decide) (fun h => absurd rfl h) (fun _ => ?_)
  refine lv_aload_n hx hb dJx4a65c_add_72be8_6 rfl (lv_at hl 0 rfl) ?_
  have hPc := hP.sub (ws' := [(h0, .inr (0, [.int mc, .ref t0, .int 0]))]) [0] rfl
  have hDc := hD.sub (ws' := [(h0, .inr (0, [.int mc, .ref t0, .int 0]))]) [0] (by decide) rfl
  have hFc := va_free (wc := [(h0, .inr (0, [.int mc, .ref t0, .int 0]))]) hD hS hA [0] rfl
  refine va_callr (va_runV (As := []) (rest := []) ⟨hx, hb, hml, hown, hts⟩ (ml_F_grow0 l dC dI cy h0 t0 (mc) H.size) (cwV 0 hts gJx4a65c_add_72be8_Jx4a65c_grow_d5877 rfl rfl rfl (by decide +kernel) ⟨(Nat.le_of_ble_eq_true rfl), (Nat.le_of_ble_eq_true rfl)⟩) ⟨fun a U g mk q => by obtain ⟨q0, q1, q2, q3, q4, q5, q6, q7⟩ := q; exact ⟨q0, q1, q2, va_K.moved (u := U) (U := U.calling g mk a) (Vm.Alike.refl U.vm) q3, q4, va_AO.moved (u := U) (U := U.calling g mk a) (Vm.Alike.refl U.vm) q5, va_Z.moved (u := U) (U := U.calling g mk a) (Vm.Alike.refl U.vm) q6, va_T.moved (u := U) (U := U.calling g mk a) (Vm.Alike.refl U.vm) q7⟩, va_recv hK hP (q0 := 0) (q := (RJx4a65c, TJx4a65c, 3)) rfl rfl, fun U hU hW1 => ⟨rfl, by rw [hU], by rw [hU]; exact hPc, va_K.moved hW1.alike hK, hDc.weaken (fun _ _ _ _ => trivial), hO.moved hW1.alike, by rw [hU]; exact va_Z.moved hW1.alike ((hZ.kept hS.2.1).narrow hFc), by rw [hU]; exact va_T.moved hW1.alike ((hT.kept hS.2.1).narrow hFc)⟩⟩ rfl rfl hl.1 rfl (lv_room (Nat.le_of_ble_eq_true rfl)) dJx4a65c_add_72be8_7 ⟨(Nat.le_of_ble_eq_true rfl), (Nat.le_of_ble_eq_true rfl)⟩) hS (fun q _ h => hFc q h) hFc (fun u r9 t H1 locs ht hvm hw hB hz1 hk1 hS => ?_)
  obtain ⟨zq9, e9, hP1, hD1⟩ := hB
  subst e9
  rw [ht] at hP1
  obtain ⟨hP, hD⟩ := va_join (wr := []) (w1 := [(h0, .inr (0, [.int ((mc)), .ref zq9, .int 0])), (zq9, .inl (cy 7, 10, .inr (.inr (.inr (.inr (fun _ => none))))))]) hP hD [0] [] rfl rfl (by decide) (by decide) hk1 hFc hP1 hD1
  generalize H1 = H at hP hS ⊢
  have hP : va_P (dC, dI) vwCl [(h0, .inr (0, [.int ((mc)), .ref zq9, .int 0])), (zq9, .inl (cy 7, 10, .inr (.inr (.inr (.inr (fun _ => none))))))] H := hP
  have hD : va_D A [(h0, .inr (0, [.int ((mc)), .ref zq9, .int 0])), (zq9, .inl (cy 7, 10, .inr (.inr (.inr (.inr (fun _ => none))))))] := hD
  clear hk1 hz1 hvm ht hPc hDc hFc hP1 hD1
  refine lv_astore_n (lv' := [(2, .ref zq9), (0, .ref h0), (1, .ref v), (3, .int 0)]) hx hb dJx4a65c_add_72be8_10 rfl hl (by decide) rfl (fun ls hl => ?_)
  refine lv_aload_n hx hb dJx4a65c_add_72be8_11 rfl (lv_at hl 0 rfl) ?_
  refine lv_iload_n hx hb dJx4a65c_add_72be8_12 rfl (lv_at hl 3 rfl) ?_
  refine lv_aload_n hx hb dJx4a65c_add_72be8_13 rfl (lv_at hl 2 rfl) ?_
  refine va_astqM (n := 10) (E := "java/lang/Object") hx hb hK hP hD hS 1 7 rfl rfl (hV.kept hS.2.1 hNV) (inB_in (n := 10) (i := 0) rfl) dJx4a65c_add_72be8_14 (fun H locs hP hD hS => ?_)
  have hP : va_P (dC, dI) vwCl [(h0, .inr (0, [.int ((mc)), .ref zq9, .int 0])), (zq9, .inl (cy 7, 10, .inr (.inr (.inr (.inr (va_up (fun _ => none) 0 (some v)))))))] H := hP
  have hD : va_D A [(h0, .inr (0, [.int ((mc)), .ref zq9, .int 0])), (zq9, .inl (cy 7, 10, .inr (.inr (.inr (.inr (va_up (fun _ => none) 0 (some v)))))))] := hD
  refine lv_aload_n hx hb dJx4a65c_add_72be8_15 rfl (lv_at hl 1 rfl) ?_
  refine lv_iload_n hx hb dJx4a65c_add_72be8_16 rfl (lv_at hl 3 rfl) ?_
  refine lv_iconst (v := 1) hx hb dJx4a65c_add_72be8_17 (by decide) ?_
  refine lv_iadd hx hb dJx4a65c_add_72be8_18 ?_
  refine va_put (D := (dC, dI)) (ci := 0) (v := .int (0 + 1)) (ty := .int) (C := RJx4a65c) (T := TJx4a65c) (N := 3) hx hb hts icJx4a65c_add_72be8_RJx4a65c tyJx4a65c tyJx4a65c_ok nmJx4a65c hown hK hP hD hS 0 rfl rfl 2 (by decide) (hts (.fieldLink RJx4a65c 48 "java/util/ArrayList" "size" "I") (List.mem_cons_of_mem _ (List.mem_append_left _ (List.mem_append_left _ (List.mem_of_getElem? (i := 0) rfl))))) (fun _ h9 => h9) rfl (by decide +kernel) rfl rfl (Nat.le_of_ble_eq_true rfl) dJx4a65c_add_72be8_19 (fun H locs hP hD hS => ?_)
  have hP : va_P (dC, dI) vwCl [(h0, .inr (0, [.int ((mc)), .ref zq9, .int (0 + 1)])), (zq9, .inl (cy 7, 10, .inr (.inr (.inr (.inr (va_up (fun _ => none) 0 (some v)))))))] H := hP
  have hD : va_D A [(h0, .inr (0, [.int ((mc)), .ref zq9, .int (0 + 1)])), (zq9, .inl (cy 7, 10, .inr (.inr (.inr (.inr (va_up (fun _ => none) 0 (some v)))))))] := hD
  exact W.vret hx hb hr (fun t ht hW9 => ⟨⟨(), rfl, trivial, zq9, by rw [ht]; exact hP, hD⟩, hS.F ht⟩) hS.2.2 dJx4a65c_add_72be8_22

theorem icJx4a65c_add_9ea2d_RJx4a65c : ∀ w ∈ u_ws RJx4a65c TJx4a65c 3, w ∈ wsJx4a65c_add_9ea2d := fun w h => List.mem_cons_of_mem _ (List.mem_append_right _ (h))
set_option maxHeartbeats 8000000 in
set_option maxRecDepth 100000 in
theorem ml_F_add (l : Launch) (dC : Nat → ClassId) (dI : Nat → Nat → Nat) (cy : Nat → ClassId) (h0 t0 v : Nat) (mc : Int32) (sz : Nat) : Met l yJx4a65c_add_9ea2d wsJx4a65c_add_9ea2d ({ frames := 4, cells := 1, slots := 10, locals := 80 }) (va_Pc [.ref h0, .ref v] (fun U => U.heap.size = sz ∧ va_P (dC, dI) vwCl [(h0, .inr (0, [.int mc, .ref t0, .int 0]))] U.heap ∧ va_K (dC, dI) vwCl (tysA cy) U ∧ va_D (fun _ => True) [(h0, .inr (0, [.int mc, .ref t0, .int 0]))] ∧ va_AO "java/lang/Object" U ∧ va_Z "java/util/ArrayList" "DEFAULTCAPACITY_EMPTY_ELEMENTDATA" "[Ljava/lang/Object;" (.ref t0) (va_A [(h0, .inr (0, [.int mc, .ref t0, .int 0]))] sz) U U.heap ∧ va_T (.object "java/lang/Object") t0 0 (fun _ => .null) (va_A [(h0, .inr (0, [.int mc, .ref t0, .int 0]))] sz) U U.heap ∧ va_Any "java/lang/Object" U U.heap v ∧ ¬ va_A [(h0, .inr (0, [.int mc, .ref t0, .int 0]))] sz v)) (va_Qi (fun r (_ : Unit) => 1 = r) (fun _ t => ∃ zq9 : Nat, va_P (dC, dI) vwCl [(h0, .inr (0, [.int ((((mc + 1)))), .ref zq9, .int (0 + 1)])), (zq9, .inl (cy 7, 10, .inr (.inr (.inr (.inr (va_up (fun _ => none) 0 (some v)))))))] t.heap ∧ va_D (va_A [(h0, .inr (0, [.int mc, .ref t0, .int 0]))] sz) [(h0, .inr (0, [.int ((((mc + 1)))), .ref zq9, .int (0 + 1)])), (zq9, .inl (cy 7, 10, .inr (.inr (.inr (.inr (va_up (fun _ => none) 0 (some v)))))))]) (va_A [(h0, .inr (0, [.int mc, .ref t0, .int 0]))] sz)) 1 10 (va_A [(h0, .inr (0, [.int mc, .ref t0, .int 0]))] sz) := by
  refine Met.ofW (cc := cJx4a65c_add_9ea2d) (maxL := 2) (ret := (some .boolean)) (by decide) rfl ?_
  intro p e s m args below meth c s₁ B hml hv
  obtain ⟨rfl, hsz, hP, hK, hD0, hO, hZ, hT, hV, hNV⟩ := hv
  have hx := B.exec
  have hb := B.bytes
  have hr := B.returns
  have hts := atoms_spec (ws := wsJx4a65c_add_9ea2d) B.pre
  have hown : s.vm.findClass RJx4a65c = some m.cls := findClass_of_methodNamed B.named
  have hlocks := B.notSynchronized
  subst hsz
  have hD := hD0.self (sz := s.heap.size)
  generalize hAe : va_A [(h0, .inr (0, [.int mc, .ref t0, .int 0]))] s.heap.size = A at hD hZ hT hNV ⊢
  have hA : ∀ q : Nat, s.heap.size ≤ q → A q := fun q h => by rw [← hAe]; exact Or.inr h
  obtain ⟨H, hH⟩ : ∃ H : Heap, H = s.heap := ⟨_, rfl⟩
  have hS : va_S A s.heap H [] := by rw [hH]; exact va_S.rf
  have hP : va_P (dC, dI) vwCl [(h0, .inr (0, [.int mc, .ref t0, .int 0]))] H := by rw [hH]; exact hP
  suffices hgo : W p l e (headSpec wsJx4a65c_add_9ea2d ({ frames := 4, cells := 1, slots := 10, locals := 80 })).room s m ([.ref h0, .ref v] : List Value).toArray below meth c H [] 0 0 (MQ below (va_Qi (fun r (_ : Unit) => 1 = r) (fun _ t => ∃ zq9 : Nat, va_P (dC, dI) vwCl [(h0, .inr (0, [.int ((((mc + 1)))), .ref zq9, .int (0 + 1)])), (zq9, .inl (cy 7, 10, .inr (.inr (.inr (.inr (va_up (fun _ => none) 0 (some v)))))))] t.heap ∧ va_D A [(h0, .inr (0, [.int ((((mc + 1)))), .ref zq9, .int (0 + 1)])), (zq9, .inl (cy 7, 10, .inr (.inr (.inr (.inr (va_up (fun _ => none) 0 (some v)))))))]) A) ([.ref h0, .ref v] : List Value).toArray s 1 10 A) (entryFrame m ([.ref h0, .ref v] : List Value).toArray 2) by rw [← hH]; exact hgo
  clear hH
  have hl := lv_entry ([.ref h0, .ref v]) (n := 2) (Nat.le_of_ble_eq_true rfl)
  rw [lg_entry_eq]
  generalize (lg_sl ([.ref h0, .ref v]) ++ List.replicate (2 - (lg_sl ([.ref h0, .ref v])).length) Slot.unset).toArray = ls at hl ⊢
  have hl : lv_has ls 2 [(0, .ref h0), (1, .ref v)] := hl
  refine lv_aload_n hx hb dJx4a65c_add_9ea2d_0 rfl (lv_at hl 0 rfl) ?_
  refine lv_dup hx hb dJx4a65c_add_9ea2d_1 rfl ?_
  refine va_get (D := (dC, dI)) (ci := 0) (v := .int mc) (C := RJx4a65c) (T := TJx4a65c) (N := 3) hx hb hts icJx4a65c_add_9ea2d_RJx4a65c hown hK hP 0 rfl rfl 0 (by decide) (hts (.fieldLink RJx4a65c 63 "java/util/ArrayList" "modCount" "I") (List.mem_cons_of_mem _ (List.mem_append_left _ (List.mem_append_left _ (List.mem_of_getElem? (i := 0) rfl))))) (fun x h9 => u_same (hts (.sameField "java/util/ArrayList" "java/util/AbstractList" "modCount" "I") (List.mem_cons_of_mem _ (List.mem_append_left _ (List.mem_append_left _ (List.mem_of_getElem? (i := 1) rfl))))) x h9) rfl dJx4a65c_add_9ea2d_2 ?_
  refine lv_iconst (v := 1) hx hb dJx4a65c_add_9ea2d_5 (by decide) ?_
  refine lv_iadd hx hb dJx4a65c_add_9ea2d_6 ?_
  refine va_put (D := (dC, dI)) (ci := 0) (v := .int (mc + 1)) (ty := .int) (C := RJx4a65c) (T := TJx4a65c) (N := 3) hx hb hts icJx4a65c_add_9ea2d_RJx4a65c tyJx4a65c tyJx4a65c_ok nmJx4a65c hown hK hP hD hS 0 rfl rfl 0 (by decide) (hts (.fieldLink RJx4a65c 63 "java/util/ArrayList" "modCount" "I") (List.mem_cons_of_mem _ (List.mem_append_left _ (List.mem_append_left _ (List.mem_of_getElem? (i := 0) rfl))))) (fun x h9 => u_same (hts (.sameField "java/util/ArrayList" "java/util/AbstractList" "modCount" "I") (List.mem_cons_of_mem _ (List.mem_append_left _ (List.mem_append_left _ (List.mem_of_getElem? (i := 1) rfl))))) x h9) rfl (by decide +kernel) rfl rfl (Nat.le_of_ble_eq_true rfl) dJx4a65c_add_9ea2d_7 (fun H locs hP hD hS => ?_)
  have hP : va_P (dC, dI) vwCl [(h0, .inr (0, [.int (mc + 1), .ref t0, .int 0]))] H := hP
  have hD : va_D A [(h0, .inr (0, [.int (mc + 1), .ref t0, .int 0]))] := hD
  refine lv_aload_n hx hb dJx4a65c_add_9ea2d_10 rfl (lv_at hl 0 rfl) ?_
  refine lv_aload_n hx hb dJx4a65c_add_9ea2d_11 rfl (lv_at hl 1 rfl) ?_
  refine lv_aload_n hx hb dJx4a65c_add_9ea2d_12 rfl (lv_at hl 0 rfl) ?_
  refine va_get (D := (dC, dI)) (ci := 0) (v := .ref t0) (C := RJx4a65c) (T := TJx4a65c) (N := 3) hx hb hts icJx4a65c_add_9ea2d_RJx4a65c hown hK hP 0 rfl rfl 1 (by decide) (hts (.fieldLink RJx4a65c 9 "java/util/ArrayList" "elementData" "[Ljava/lang/Object;") (List.mem_cons_of_mem _ (List.mem_append_left _ (List.mem_append_left _ (List.mem_of_getElem? (i := 2) rfl))))) (fun _ h9 => h9) rfl dJx4a65c_add_9ea2d_13 ?_
  refine lv_aload_n hx hb dJx4a65c_add_9ea2d_16 rfl (lv_at hl 0 rfl) ?_
  refine va_get (D := (dC, dI)) (ci := 0) (v := .int 0) (C := RJx4a65c) (T := TJx4a65c) (N := 3) hx hb hts icJx4a65c_add_9ea2d_RJx4a65c hown hK hP 0 rfl rfl 2 (by decide) (hts (.fieldLink RJx4a65c 48 "java/util/ArrayList" "size" "I") (List.mem_cons_of_mem _ (List.mem_append_left _ (List.mem_append_left _ (List.mem_of_getElem? (i := 3) rfl))))) (fun _ h9 => h9) rfl dJx4a65c_add_9ea2d_17 ?_
  have hPc := hP.sub (ws' := [(h0, .inr (0, [.int (mc + 1), .ref t0, .int 0]))]) [0] rfl
  have hDc := hD.sub (ws' := [(h0, .inr (0, [.int (mc + 1), .ref t0, .int 0]))]) [0] (by decide) rfl
  have hFc := va_free (wc := [(h0, .inr (0, [.int (mc + 1), .ref t0, .int 0]))]) hD hS hA [0] rfl
  refine va_callv (va_runV (As := [.ref v, .ref t0, .int 0]) (rest := []) ⟨hx, hb, hml, hown, hts⟩ (ml_F_add3 l dC dI cy h0 t0 v ((mc + 1)) H.size) (cwV 3 hts gJx4a65c_add_9ea2d_Jx4a65c_add_72be8 rfl rfl rfl (by decide +kernel) ⟨(Nat.le_of_ble_eq_true rfl), (Nat.le_of_ble_eq_true rfl)⟩) ⟨fun a U g mk q => by obtain ⟨q0, q1, q2, q3, q4, q5, q6, q7, q8, q9⟩ := q; exact ⟨q0, q1, q2, va_K.moved (u := U) (U := U.calling g mk a) (Vm.Alike.refl U.vm) q3, q4, va_AO.moved (u := U) (U := U.calling g mk a) (Vm.Alike.refl U.vm) q5, va_Z.moved (u := U) (U := U.calling g mk a) (Vm.Alike.refl U.vm) q6, va_T.moved (u := U) (U := U.calling g mk a) (Vm.Alike.refl U.vm) q7, va_Any.moved (u := U) (U := U.calling g mk a) (Vm.Alike.refl U.vm) q8, q9⟩, va_recv hK hP (q0 := 0) (q := (RJx4a65c, TJx4a65c, 3)) rfl rfl, fun U hU hW1 => ⟨rfl, by rw [hU], by rw [hU]; exact hPc, va_K.moved hW1.alike hK, hDc.weaken (fun _ _ _ _ => trivial), hO.moved hW1.alike, by rw [hU]; exact va_Z.moved hW1.alike ((hZ.kept hS.2.1).narrow hFc), by rw [hU]; exact va_T.moved hW1.alike ((hT.kept hS.2.1).narrow hFc), by rw [hU]; exact va_Any.moved hW1.alike (hV.kept hS.2.1 hNV), fun h9 => hNV (hFc _ h9)⟩⟩ rfl rfl hl.1 rfl (lv_room (Nat.le_of_ble_eq_true rfl)) dJx4a65c_add_9ea2d_20 ⟨(Nat.le_of_ble_eq_true rfl), (Nat.le_of_ble_eq_true rfl)⟩) hS (fun q _ h => hFc q h) hFc (fun u t H1 locs ht hvm hw hB hz1 hk1 hS => ?_)
  obtain ⟨zq9, hP1, hD1⟩ := hB
  rw [ht] at hP1
  obtain ⟨hP, hD⟩ := va_join (wr := []) (w1 := [(h0, .inr (0, [.int ((((mc + 1)))), .ref zq9, .int (0 + 1)])), (zq9, .inl (cy 7, 10, .inr (.inr (.inr (.inr (va_up (fun _ => none) 0 (some v)))))))]) hP hD [0] [] rfl rfl (by decide) (by decide) hk1 hFc hP1 hD1
  generalize H1 = H at hP hS ⊢
  have hP : va_P (dC, dI) vwCl [(h0, .inr (0, [.int ((((mc + 1)))), .ref zq9, .int (0 + 1)])), (zq9, .inl (cy 7, 10, .inr (.inr (.inr (.inr (va_up (fun _ => none) 0 (some v)))))))] H := hP
  have hD : va_D A [(h0, .inr (0, [.int ((((mc + 1)))), .ref zq9, .int (0 + 1)])), (zq9, .inl (cy 7, 10, .inr (.inr (.inr (.inr (va_up (fun _ => none) 0 (some v)))))))] := hD
  clear hk1 hz1 hvm ht hPc hDc hFc hP1 hD1
  refine lv_iconst (v := 1) hx hb dJx4a65c_add_9ea2d_23 (by decide) ?_
  exact W.zret (ty := .boolean) (v := 1) hx hb hr rfl (fun t ht hW9 => ⟨⟨1, (), rfl, rfl, zq9, by rw [ht]; exact hP, hD⟩, hS.F ht⟩) hS.2.2 dJx4a65c_add_9ea2d_24

set_option maxHeartbeats 8000000 in
set_option maxRecDepth 100000 in
theorem ml_S_add3 (l : Launch) (dC : Nat → ClassId) (dI : Nat → Nat → Nat) (cy : Nat → ClassId) (h0 e9 v : Nat) (mc : Int32) (n9 : Int32) (fn9 : Nat → Option Nat) (sz : Nat) (hn : vp_in n9 10) (hne : ¬ n9 = 10) : Met l yJx4a65c_add_72be8 wsJx4a65c_add_72be8 ({ frames := 0, cells := 0, slots := 0, locals := 0 }) (va_Pc [.ref h0, .ref v, .ref e9, .int n9] (fun U => U.heap.size = sz ∧ va_P (dC, dI) vwCl [(h0, .inr (0, [.int mc, .ref e9, .int n9])), (e9, .inl (cy 7, 10, .inr (.inr (.inr (.inr fn9)))))] U.heap ∧ va_K (dC, dI) vwCl (tysA cy) U ∧ va_D (fun _ => True) [(h0, .inr (0, [.int mc, .ref e9, .int n9])), (e9, .inl (cy 7, 10, .inr (.inr (.inr (.inr fn9)))))] ∧ va_Any "java/lang/Object" U U.heap v ∧ ¬ va_A [(h0, .inr (0, [.int mc, .ref e9, .int n9])), (e9, .inl (cy 7, 10, .inr (.inr (.inr (.inr fn9)))))] sz v)) (va_Qv (fun (_ : Unit) => True) (fun _ t => va_P (dC, dI) vwCl [(h0, .inr (0, [.int mc, .ref e9, .int (n9 + 1)])), (e9, .inl (cy 7, 10, .inr (.inr (.inr (.inr (va_up fn9 (n9).toNatClampNeg (some v)))))))] t.heap ∧ va_D (va_A [(h0, .inr (0, [.int mc, .ref e9, .int n9])), (e9, .inl (cy 7, 10, .inr (.inr (.inr (.inr fn9)))))] sz) [(h0, .inr (0, [.int mc, .ref e9, .int (n9 + 1)])), (e9, .inl (cy 7, 10, .inr (.inr (.inr (.inr (va_up fn9 (n9).toNatClampNeg (some v)))))))]) (va_A [(h0, .inr (0, [.int mc, .ref e9, .int n9])), (e9, .inl (cy 7, 10, .inr (.inr (.inr (.inr fn9)))))] sz)) 0 0 (va_A [(h0, .inr (0, [.int mc, .ref e9, .int n9])), (e9, .inl (cy 7, 10, .inr (.inr (.inr (.inr fn9)))))] sz) := by
  refine Met.ofW (cc := cJx4a65c_add_72be8) (maxL := 4) (ret := none) (by decide) rfl ?_
  intro p e s m args below meth c s₁ B hml hv
  obtain ⟨rfl, hsz, hP, hK, hD0, hV, hNV⟩ := hv
  have hx := B.exec
  have hb := B.bytes
  have hr := B.returns
  have hts := atoms_spec (ws := wsJx4a65c_add_72be8) B.pre
  have hown : s.vm.findClass RJx4a65c = some m.cls := findClass_of_methodNamed B.named
  have hlocks := B.notSynchronized
  subst hsz
  have hD := hD0.self (sz := s.heap.size)
  generalize hAe : va_A [(h0, .inr (0, [.int mc, .ref e9, .int n9])), (e9, .inl (cy 7, 10, .inr (.inr (.inr (.inr fn9)))))] s.heap.size = A at hD hNV ⊢
  have hA : ∀ q : Nat, s.heap.size ≤ q → A q := fun q h => by rw [← hAe]; exact Or.inr h
  obtain ⟨H, hH⟩ : ∃ H : Heap, H = s.heap := ⟨_, rfl⟩
  have hS : va_S A s.heap H [] := by rw [hH]; exact va_S.rf
  have hP : va_P (dC, dI) vwCl [(h0, .inr (0, [.int mc, .ref e9, .int n9])), (e9, .inl (cy 7, 10, .inr (.inr (.inr (.inr fn9)))))] H := by rw [hH]; exact hP
  suffices hgo : W p l e (headSpec wsJx4a65c_add_72be8 ({ frames := 0, cells := 0, slots := 0, locals := 0 })).room s m ([.ref h0, .ref v, .ref e9, .int n9] : List Value).toArray below meth c H [] 0 0 (MQ below (va_Qv (fun (_ : Unit) => True) (fun _ t => va_P (dC, dI) vwCl [(h0, .inr (0, [.int mc, .ref e9, .int (n9 + 1)])), (e9, .inl (cy 7, 10, .inr (.inr (.inr (.inr (va_up fn9 (n9).toNatClampNeg (some v)))))))] t.heap ∧ va_D A [(h0, .inr (0, [.int mc, .ref e9, .int (n9 + 1)])), (e9, .inl (cy 7, 10, .inr (.inr (.inr (.inr (va_up fn9 (n9).toNatClampNeg (some v)))))))]) A) ([.ref h0, .ref v, .ref e9, .int n9] : List Value).toArray s 0 0 A) (entryFrame m ([.ref h0, .ref v, .ref e9, .int n9] : List Value).toArray 4) by rw [← hH]; exact hgo
  clear hH
  have hl := lv_entry ([.ref h0, .ref v, .ref e9, .int n9]) (n := 4) (Nat.le_of_ble_eq_true rfl)
  rw [lg_entry_eq]
  generalize (lg_sl ([.ref h0, .ref v, .ref e9, .int n9]) ++ List.replicate (4 - (lg_sl ([.ref h0, .ref v, .ref e9, .int n9])).length) Slot.unset).toArray = ls at hl ⊢
  have hl : lv_has ls 4 [(0, .ref h0), (1, .ref v), (2, .ref e9), (3, .int n9)] := hl
  refine lv_iload_n hx hb dJx4a65c_add_72be8_0 rfl (lv_at hl 3 rfl) ?_
  refine lv_aload_n hx hb dJx4a65c_add_72be8_1 rfl (lv_at hl 2 rfl) ?_
  refine va_alen (v := 10) hx hb hK hP 1 7 rfl rfl rfl dJx4a65c_add_72be8_2 ?_
  refine lv_icmp_ne (tgt := 11) hx hb dJx4a65c_add_72be8_3 (by decide) (fun _ => ?_) (fun h => absurd h hne)
  refine lv_aload_n hx hb dJx4a65c_add_72be8_11 rfl (lv_at hl 2 rfl) ?_
  refine lv_iload_n hx hb dJx4a65c_add_72be8_12 rfl (lv_at hl 3 rfl) ?_
  refine lv_aload_n hx hb dJx4a65c_add_72be8_13 rfl (lv_at hl 1 rfl) ?_
  refine va_astqM (n := 10) (E := "java/lang/Object") hx hb hK hP hD hS 1 7 rfl rfl (hV.kept hS.2.1 hNV) hn dJx4a65c_add_72be8_14 (fun H locs hP hD hS => ?_)
  have hP : va_P (dC, dI) vwCl [(h0, .inr (0, [.int mc, .ref e9, .int n9])), (e9, .inl (cy 7, 10, .inr (.inr (.inr (.inr (va_up fn9 (n9).toNatClampNeg (some v)))))))] H := hP
  have hD : va_D A [(h0, .inr (0, [.int mc, .ref e9, .int n9])), (e9, .inl (cy 7, 10, .inr (.inr (.inr (.inr (va_up fn9 (n9).toNatClampNeg (some v)))))))] := hD
  refine lv_aload_n hx hb dJx4a65c_add_72be8_15 rfl (lv_at hl 0 rfl) ?_
  refine lv_iload_n hx hb dJx4a65c_add_72be8_16 rfl (lv_at hl 3 rfl) ?_
  refine lv_iconst (v := 1) hx hb dJx4a65c_add_72be8_17 (by decide) ?_
  refine lv_iadd hx hb dJx4a65c_add_72be8_18 ?_
  refine va_put (D := (dC, dI)) (ci := 0) (v := .int (n9 + 1)) (ty := .int) (C := RJx4a65c) (T := TJx4a65c) (N := 3) hx hb hts icJx4a65c_add_72be8_RJx4a65c tyJx4a65c tyJx4a65c_ok nmJx4a65c hown hK hP hD hS 0 rfl rfl 2 (by decide) (hts (.fieldLink RJx4a65c 48 "java/util/ArrayList" "size" "I") (List.mem_cons_of_mem _ (List.mem_append_left _ (List.mem_append_left _ (List.mem_of_getElem? (i := 0) rfl))))) (fun _ h9 => h9) rfl (by decide +kernel) rfl rfl (Nat.le_of_ble_eq_true rfl) dJx4a65c_add_72be8_19 (fun H locs hP hD hS => ?_)
  have hP : va_P (dC, dI) vwCl [(h0, .inr (0, [.int mc, .ref e9, .int (n9 + 1)])), (e9, .inl (cy 7, 10, .inr (.inr (.inr (.inr (va_up fn9 (n9).toNatClampNeg (some v)))))))] H := hP
  have hD : va_D A [(h0, .inr (0, [.int mc, .ref e9, .int (n9 + 1)])), (e9, .inl (cy 7, 10, .inr (.inr (.inr (.inr (va_up fn9 (n9).toNatClampNeg (some v)))))))] := hD
  exact W.vret hx hb hr (fun t ht hW9 => ⟨⟨(), rfl, trivial, by rw [ht]; exact hP, hD⟩, hS.F ht⟩) hS.2.2 dJx4a65c_add_72be8_22

set_option maxHeartbeats 8000000 in
set_option maxRecDepth 100000 in
theorem ml_S_add (l : Launch) (dC : Nat → ClassId) (dI : Nat → Nat → Nat) (cy : Nat → ClassId) (h0 e9 v : Nat) (mc : Int32) (n9 : Int32) (fn9 : Nat → Option Nat) (sz : Nat) (hn : vp_in n9 10) (hne : ¬ n9 = 10) : Met l yJx4a65c_add_9ea2d wsJx4a65c_add_9ea2d ({ frames := 1, cells := 0, slots := 0, locals := 23 }) (va_Pc [.ref h0, .ref v] (fun U => U.heap.size = sz ∧ va_P (dC, dI) vwCl [(h0, .inr (0, [.int mc, .ref e9, .int n9])), (e9, .inl (cy 7, 10, .inr (.inr (.inr (.inr fn9)))))] U.heap ∧ va_K (dC, dI) vwCl (tysA cy) U ∧ va_D (fun _ => True) [(h0, .inr (0, [.int mc, .ref e9, .int n9])), (e9, .inl (cy 7, 10, .inr (.inr (.inr (.inr fn9)))))] ∧ va_Any "java/lang/Object" U U.heap v ∧ ¬ va_A [(h0, .inr (0, [.int mc, .ref e9, .int n9])), (e9, .inl (cy 7, 10, .inr (.inr (.inr (.inr fn9)))))] sz v)) (va_Qi (fun r (_ : Unit) => 1 = r) (fun _ t => va_P (dC, dI) vwCl [(h0, .inr (0, [.int ((mc + 1)), .ref e9, .int (n9 + 1)])), (e9, .inl (cy 7, 10, .inr (.inr (.inr (.inr (va_up fn9 (n9).toNatClampNeg (some v)))))))] t.heap ∧ va_D (va_A [(h0, .inr (0, [.int mc, .ref e9, .int n9])), (e9, .inl (cy 7, 10, .inr (.inr (.inr (.inr fn9)))))] sz) [(h0, .inr (0, [.int ((mc + 1)), .ref e9, .int (n9 + 1)])), (e9, .inl (cy 7, 10, .inr (.inr (.inr (.inr (va_up fn9 (n9).toNatClampNeg (some v)))))))]) (va_A [(h0, .inr (0, [.int mc, .ref e9, .int n9])), (e9, .inl (cy 7, 10, .inr (.inr (.inr (.inr fn9)))))] sz)) 0 0 (va_A [(h0, .inr (0, [.int mc, .ref e9, .int n9])), (e9, .inl (cy 7, 10, .inr (.inr (.inr (.inr fn9)))))] sz) := by
  refine Met.ofW (cc := cJx4a65c_add_9ea2d) (maxL := 2) (ret := (some .boolean)) (by decide) rfl ?_
  intro p e s m args below meth c s₁ B hml hv
  obtain ⟨rfl, hsz, hP, hK, hD0, hV, hNV⟩ := hv
  have hx := B.exec
  have hb := B.bytes
  have hr := B.returns
  have hts := atoms_spec (ws := wsJx4a65c_add_9ea2d) B.pre
  have hown : s.vm.findClass RJx4a65c = some m.cls := findClass_of_methodNamed B.named
  have hlocks := B.notSynchronized
  subst hsz
  have hD := hD0.self (sz := s.heap.size)
  generalize hAe : va_A [(h0, .inr (0, [.int mc, .ref e9, .int n9])), (e9, .inl (cy 7, 10, .inr (.inr (.inr (.inr fn9)))))] s.heap.size = A at hD hNV ⊢
  have hA : ∀ q : Nat, s.heap.size ≤ q → A q := fun q h => by rw [← hAe]; exact Or.inr h
  obtain ⟨H, hH⟩ : ∃ H : Heap, H = s.heap := ⟨_, rfl⟩
  have hS : va_S A s.heap H [] := by rw [hH]; exact va_S.rf
  have hP : va_P (dC, dI) vwCl [(h0, .inr (0, [.int mc, .ref e9, .int n9])), (e9, .inl (cy 7, 10, .inr (.inr (.inr (.inr fn9)))))] H := by rw [hH]; exact hP
  suffices hgo : W p l e (headSpec wsJx4a65c_add_9ea2d ({ frames := 1, cells := 0, slots := 0, locals := 23 })).room s m ([.ref h0, .ref v] : List Value).toArray below meth c H [] 0 0 (MQ below (va_Qi (fun r (_ : Unit) => 1 = r) (fun _ t => va_P (dC, dI) vwCl [(h0, .inr (0, [.int ((mc + 1)), .ref e9, .int (n9 + 1)])), (e9, .inl (cy 7, 10, .inr (.inr (.inr (.inr (va_up fn9 (n9).toNatClampNeg (some v)))))))] t.heap ∧ va_D A [(h0, .inr (0, [.int ((mc + 1)), .ref e9, .int (n9 + 1)])), (e9, .inl (cy 7, 10, .inr (.inr (.inr (.inr (va_up fn9 (n9).toNatClampNeg (some v)))))))]) A) ([.ref h0, .ref v] : List Value).toArray s 0 0 A) (entryFrame m ([.ref h0, .ref v] : List Value).toArray 2) by rw [← hH]; exact hgo
  clear hH
  have hl := lv_entry ([.ref h0, .ref v]) (n := 2) (Nat.le_of_ble_eq_true rfl)
  rw [lg_entry_eq]
  generalize (lg_sl ([.ref h0, .ref v]) ++ List.replicate (2 - (lg_sl ([.ref h0, .ref v])).length) Slot.unset).toArray = ls at hl ⊢
  have hl : lv_has ls 2 [(0, .ref h0), (1, .ref v)] := hl
  refine lv_aload_n hx hb dJx4a65c_add_9ea2d_0 rfl (lv_at hl 0 rfl) ?_
  refine lv_dup hx hb dJx4a65c_add_9ea2d_1 rfl ?_
  refine va_get (D := (dC, dI)) (ci := 0) (v := .int mc) (C := RJx4a65c) (T := TJx4a65c) (N := 3) hx hb hts icJx4a65c_add_9ea2d_RJx4a65c hown hK hP 0 rfl rfl 0 (by decide) (hts (.fieldLink RJx4a65c 63 "java/util/ArrayList" "modCount" "I") (List.mem_cons_of_mem _ (List.mem_append_left _ (List.mem_append_left _ (List.mem_of_getElem? (i := 0) rfl))))) (fun x h9 => u_same (hts (.sameField "java/util/ArrayList" "java/util/AbstractList" "modCount" "I") (List.mem_cons_of_mem _ (List.mem_append_left _ (List.mem_append_left _ (List.mem_of_getElem? (i := 1) rfl))))) x h9) rfl dJx4a65c_add_9ea2d_2 ?_
  refine lv_iconst (v := 1) hx hb dJx4a65c_add_9ea2d_5 (by decide) ?_
  refine lv_iadd hx hb dJx4a65c_add_9ea2d_6 ?_
  refine va_put (D := (dC, dI)) (ci := 0) (v := .int (mc + 1)) (ty := .int) (C := RJx4a65c) (T := TJx4a65c) (N := 3) hx hb hts icJx4a65c_add_9ea2d_RJx4a65c tyJx4a65c tyJx4a65c_ok nmJx4a65c hown hK hP hD hS 0 rfl rfl 0 (by decide) (hts (.fieldLink RJx4a65c 63 "java/util/ArrayList" "modCount" "I") (List.mem_cons_of_mem _ (List.mem_append_left _ (List.mem_append_left _ (List.mem_of_getElem? (i := 0) rfl))))) (fun x h9 => u_same (hts (.sameField "java/util/ArrayList" "java/util/AbstractList" "modCount" "I") (List.mem_cons_of_mem _ (List.mem_append_left _ (List.mem_append_left _ (List.mem_of_getElem? (i := 1) rfl))))) x h9) rfl (by decide +kernel) rfl rfl (Nat.le_of_ble_eq_true rfl) dJx4a65c_add_9ea2d_7 (fun H locs hP hD hS => ?_)
  have hP : va_P (dC, dI) vwCl [(h0, .inr (0, [.int (mc + 1), .ref e9, .int n9])), (e9, .inl (cy 7, 10, .inr (.inr (.inr (.inr fn9)))))] H := hP
  have hD : va_D A [(h0, .inr (0, [.int (mc + 1), .ref e9, .int n9])), (e9, .inl (cy 7, 10, .inr (.inr (.inr (.inr fn9)))))] := hD
  refine lv_aload_n hx hb dJx4a65c_add_9ea2d_10 rfl (lv_at hl 0 rfl) ?_
  refine lv_aload_n hx hb dJx4a65c_add_9ea2d_11 rfl (lv_at hl 1 rfl) ?_
  refine lv_aload_n hx hb dJx4a65c_add_9ea2d_12 rfl (lv_at hl 0 rfl) ?_
  refine va_get (D := (dC, dI)) (ci := 0) (v := .ref e9) (C := RJx4a65c) (T := TJx4a65c) (N := 3) hx hb hts icJx4a65c_add_9ea2d_RJx4a65c hown hK hP 0 rfl rfl 1 (by decide) (hts (.fieldLink RJx4a65c 9 "java/util/ArrayList" "elementData" "[Ljava/lang/Object;") (List.mem_cons_of_mem _ (List.mem_append_left _ (List.mem_append_left _ (List.mem_of_getElem? (i := 2) rfl))))) (fun _ h9 => h9) rfl dJx4a65c_add_9ea2d_13 ?_
  refine lv_aload_n hx hb dJx4a65c_add_9ea2d_16 rfl (lv_at hl 0 rfl) ?_
  refine va_get (D := (dC, dI)) (ci := 0) (v := .int n9) (C := RJx4a65c) (T := TJx4a65c) (N := 3) hx hb hts icJx4a65c_add_9ea2d_RJx4a65c hown hK hP 0 rfl rfl 2 (by decide) (hts (.fieldLink RJx4a65c 48 "java/util/ArrayList" "size" "I") (List.mem_cons_of_mem _ (List.mem_append_left _ (List.mem_append_left _ (List.mem_of_getElem? (i := 3) rfl))))) (fun _ h9 => h9) rfl dJx4a65c_add_9ea2d_17 ?_
  have hPc := hP.sub (ws' := [(h0, .inr (0, [.int (mc + 1), .ref e9, .int n9])), (e9, .inl (cy 7, 10, .inr (.inr (.inr (.inr fn9)))))]) [0, 1] rfl
  have hDc := hD.sub (ws' := [(h0, .inr (0, [.int (mc + 1), .ref e9, .int n9])), (e9, .inl (cy 7, 10, .inr (.inr (.inr (.inr fn9)))))]) [0, 1] (by decide) rfl
  have hFc := va_free (wc := [(h0, .inr (0, [.int (mc + 1), .ref e9, .int n9])), (e9, .inl (cy 7, 10, .inr (.inr (.inr (.inr fn9)))))]) hD hS hA [0, 1] rfl
  refine va_callv (va_runV (As := [.ref v, .ref e9, .int n9]) (rest := []) ⟨hx, hb, hml, hown, hts⟩ (ml_S_add3 l dC dI cy h0 e9 v ((mc + 1)) n9 fn9 H.size hn hne) (cwV 3 hts gJx4a65c_add_9ea2d_Jx4a65c_add_72be8 rfl rfl rfl (by decide +kernel) ⟨(Nat.le_of_ble_eq_true rfl), (Nat.le_of_ble_eq_true rfl)⟩) ⟨fun a U g mk q => by obtain ⟨q0, q1, q2, q3, q4, q5, q6⟩ := q; exact ⟨q0, q1, q2, va_K.moved (u := U) (U := U.calling g mk a) (Vm.Alike.refl U.vm) q3, q4, va_Any.moved (u := U) (U := U.calling g mk a) (Vm.Alike.refl U.vm) q5, q6⟩, va_recv hK hP (q0 := 0) (q := (RJx4a65c, TJx4a65c, 3)) rfl rfl, fun U hU hW1 => ⟨rfl, by rw [hU], by rw [hU]; exact hPc, va_K.moved hW1.alike hK, hDc.weaken (fun _ _ _ _ => trivial), by rw [hU]; exact va_Any.moved hW1.alike (hV.kept hS.2.1 hNV), fun h9 => hNV (hFc _ h9)⟩⟩ rfl rfl hl.1 rfl (lv_room (Nat.le_of_ble_eq_true rfl)) dJx4a65c_add_9ea2d_20 ⟨(Nat.le_of_ble_eq_true rfl), (Nat.le_of_ble_eq_true rfl)⟩) hS (fun q _ h => hFc q h) hFc (fun u t H1 locs ht hvm hw hB hz1 hk1 hS => ?_)
  obtain ⟨hP1, hD1⟩ := hB
  rw [ht] at hP1
  obtain ⟨hP, hD⟩ := va_join (wr := []) (w1 := [(h0, .inr (0, [.int ((mc + 1)), .ref e9, .int (n9 + 1)])), (e9, .inl (cy 7, 10, .inr (.inr (.inr (.inr (va_up fn9 (n9).toNatClampNeg (some v)))))))]) hP hD [0, 1] [] rfl rfl (by decide) (by decide) hk1 hFc hP1 hD1
  generalize H1 = H at hP hS ⊢
  have hP : va_P (dC, dI) vwCl [(h0, .inr (0, [.int ((mc + 1)), .ref e9, .int (n9 + 1)])), (e9, .inl (cy 7, 10, .inr (.inr (.inr (.inr (va_up fn9 (n9).toNatClampNeg (some v)))))))] H := hP
  have hD : va_D A [(h0, .inr (0, [.int ((mc + 1)), .ref e9, .int (n9 + 1)])), (e9, .inl (cy 7, 10, .inr (.inr (.inr (.inr (va_up fn9 (n9).toNatClampNeg (some v)))))))] := hD
  clear hk1 hz1 hvm ht hPc hDc hFc hP1 hD1
  refine lv_iconst (v := 1) hx hb dJx4a65c_add_9ea2d_23 (by decide) ?_
  exact W.zret (ty := .boolean) (v := 1) hx hb hr rfl (fun t ht hW9 => ⟨⟨1, (), rfl, rfl, by rw [ht]; exact hP, hD⟩, hS.F ht⟩) hS.2.2 dJx4a65c_add_9ea2d_24
