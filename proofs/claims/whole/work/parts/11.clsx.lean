set_option maxHeartbeats 4000000 in
set_option maxRecDepth 100000 in
theorem mx_X4_checkNumber (l : Launch) (hl0 : l.stackTraces = false) (sa : Nat → Nat) (sz : Nat) (p0 : Int32) (p1 : Int32) (E0 : String) (hf : f_X4_checkNumber p0 p1 = some (.error E0)) : vx_Met l yX4_checkNumber wsX4_checkNumber ({ frames := 6, cells := 1, slots := 6, locals := 90 }) (va_Pc [.int p0, .int p1] (fun U => U.heap.size = sz ∧ xS sa (fun q => sz ≤ q) U)) (va_Qv (fun (_ : Unit) => False) (fun _ _ => True) (fun q => sz ≤ q)) (vx_X (fun _ : Unit => True) (fun E _ t => E0 = E) (fun q => sz ≤ q)) 1 6 (fun q => sz ≤ q) := by
  refine vx_ofW (cc := cX4_checkNumber) (maxL := 2) (ret := none) (by decide) rfl ?_
  intro p e s m args below meth c s₁ B hml ht hv
  obtain ⟨rfl, hsz, hZ⟩ := hv
  have hx := B.exec
  have hb := B.bytes
  have hr := B.returns
  have hts := atoms_spec (ws := wsX4_checkNumber) B.pre
  have hown : s.vm.findClass RX4 = some m.cls := findClass_of_methodNamed B.named
  have hlocks := B.notSynchronized
  subst hsz
  generalize hAe : (fun q : Nat => s.heap.size ≤ q) = A at hZ ⊢
  have hA : ∀ q : Nat, s.heap.size ≤ q → A q := fun q h => by rw [← hAe]; exact h
  obtain ⟨H, hH⟩ : ∃ H : Heap, H = s.heap := ⟨_, rfl⟩
  have hS : va_S A s.heap H [] := by rw [hH]; exact va_S.rf
  rw [← hH]
  have hl := lv_entry ([.int p0, .int p1]) (n := 2) (Nat.le_of_ble_eq_true rfl)
  rw [lg_entry_eq]
  generalize (lg_sl ([.int p0, .int p1]) ++ List.replicate (2 - (lg_sl ([.int p0, .int p1])).length) Slot.unset).toArray = ls at hl ⊢
  have hl : lv_has ls 2 [(0, .int p0), (1, .int p1)] := hl
  unfold f_X4_checkNumber at hf
  refine lv_iload_n hx hb dX4_checkNumber_0 rfl (lv_at hl 0 rfl) ?_
  refine lv_if_lt (tgt := 9) hx hb dX4_checkNumber_1 (by decide) (fun c_1 => ?_) (fun c_1 => ?_)
  · have hf := it_t hf c_1
    have hE := (er_in hf).symm
    exact vx_throwSW (names := xnames) (A := A) hx hb hl0 hown xfit2 xfit (hts (.classLink RX4 286 "java/lang/IndexOutOfBoundsException") (List.mem_cons_of_mem _ (List.mem_append_left _ (List.mem_of_getElem? (i := 0) rfl)))) (hts (.initialized "java/lang/IndexOutOfBoundsException") (List.mem_cons_of_mem _ (List.mem_append_left _ (List.mem_of_getElem? (i := 1) rfl)))) (hZ.1 4 _ rfl) (bad_at2 hZ (fun w h => hts w (List.mem_cons_of_mem _ (List.mem_append_right _ (h))))) (xgood_c rfl rfl xgood2) hZ.2.2.1 hZ.2.2.2 hS (by rw [hml]; exact hl.1) dX4_checkNumber_9 dX4_checkNumber_12 dX4_checkNumber_13 dX4_checkNumber_16 dX4_checkNumber_19 (fun x hx9 => (ht x hx9).elim) (Nat.le_of_ble_eq_true rfl) (Nat.le_of_ble_eq_true rfl) (Nat.le_of_ble_eq_true rfl) (Nat.le_of_ble_eq_true rfl) hlocks (fun t hvm hz hk => ⟨(), trivial, hE, Nat.le_trans hS.1 hz, fun q h1 h2 => (hk q (Nat.lt_of_lt_of_le h1 hS.1)).trans (hS.2.1 q h1 h2)⟩) hS.2.2 (Nat.le_of_ble_eq_true rfl) (Nat.le_of_ble_eq_true rfl)
  · have hf := it_f hf c_1
    refine lv_iload_n hx hb dX4_checkNumber_4 rfl (lv_at hl 0 rfl) ?_
    refine lv_iload_n hx hb dX4_checkNumber_5 rfl (lv_at hl 1 rfl) ?_
    refine lv_icmp_lt (tgt := 20) hx hb dX4_checkNumber_6 (by decide) (fun c_2 => ?_) (fun c_2 => ?_)
    · have hf := it_t hf c_2
      exact (er_ne hf).elim
    · have hf := it_f hf c_2
      have hE := (er_in hf).symm
      exact vx_throwSW (names := xnames) (A := A) hx hb hl0 hown xfit2 xfit (hts (.classLink RX4 286 "java/lang/IndexOutOfBoundsException") (List.mem_cons_of_mem _ (List.mem_append_left _ (List.mem_of_getElem? (i := 0) rfl)))) (hts (.initialized "java/lang/IndexOutOfBoundsException") (List.mem_cons_of_mem _ (List.mem_append_left _ (List.mem_of_getElem? (i := 1) rfl)))) (hZ.1 4 _ rfl) (bad_at2 hZ (fun w h => hts w (List.mem_cons_of_mem _ (List.mem_append_right _ (h))))) (xgood_c rfl rfl xgood2) hZ.2.2.1 hZ.2.2.2 hS (by rw [hml]; exact hl.1) dX4_checkNumber_9 dX4_checkNumber_12 dX4_checkNumber_13 dX4_checkNumber_16 dX4_checkNumber_19 (fun x hx9 => (ht x hx9).elim) (Nat.le_of_ble_eq_true rfl) (Nat.le_of_ble_eq_true rfl) (Nat.le_of_ble_eq_true rfl) (Nat.le_of_ble_eq_true rfl) hlocks (fun t hvm hz hk => ⟨(), trivial, hE, Nat.le_trans hS.1 hz, fun q h1 h2 => (hk q (Nat.lt_of_lt_of_le h1 hS.1)).trans (hS.2.1 q h1 h2)⟩) hS.2.2 (Nat.le_of_ble_eq_true rfl) (Nat.le_of_ble_eq_true rfl)

set_option maxHeartbeats 4000000 in
set_option maxRecDepth 100000 in
theorem mx_X4_checkRange (l : Launch) (hl0 : l.stackTraces = false) (sa : Nat → Nat) (sz : Nat) (p0 : Int32) (p1 : Int32) (p2 : Int32) (E0 : String) (hf : f_X4_checkRange p0 p1 p2 = some (.error E0)) : vx_Met l yX4_checkRange wsX4_checkRange ({ frames := 6, cells := 1, slots := 6, locals := 90 }) (va_Pc [.int p0, .int p1, .int p2] (fun U => U.heap.size = sz ∧ xS sa (fun q => sz ≤ q) U)) (va_Qv (fun (_ : Unit) => False) (fun _ _ => True) (fun q => sz ≤ q)) (vx_X (fun _ : Unit => True) (fun E _ t => E0 = E) (fun q => sz ≤ q)) 1 6 (fun q => sz ≤ q) := by
  refine vx_ofW (cc := cX4_checkRange) (maxL := 3) (ret := none) (by decide) rfl ?_
  intro p e s m args below meth c s₁ B hml ht hv
  obtain ⟨rfl, hsz, hZ⟩ := hv
  have hx := B.exec
  have hb := B.bytes
  have hr := B.returns
  have hts := atoms_spec (ws := wsX4_checkRange) B.pre
  have hown : s.vm.findClass RX4 = some m.cls := findClass_of_methodNamed B.named
  have hlocks := B.notSynchronized
  subst hsz
  generalize hAe : (fun q : Nat => s.heap.size ≤ q) = A at hZ ⊢
  have hA : ∀ q : Nat, s.heap.size ≤ q → A q := fun q h => by rw [← hAe]; exact h
  obtain ⟨H, hH⟩ : ∃ H : Heap, H = s.heap := ⟨_, rfl⟩
  have hS : va_S A s.heap H [] := by rw [hH]; exact va_S.rf
  rw [← hH]
  have hl := lv_entry ([.int p0, .int p1, .int p2]) (n := 3) (Nat.le_of_ble_eq_true rfl)
  rw [lg_entry_eq]
  generalize (lg_sl ([.int p0, .int p1, .int p2]) ++ List.replicate (3 - (lg_sl ([.int p0, .int p1, .int p2])).length) Slot.unset).toArray = ls at hl ⊢
  have hl : lv_has ls 3 [(0, .int p0), (1, .int p1), (2, .int p2)] := hl
  unfold f_X4_checkRange at hf
  refine lv_iload_n hx hb dX4_checkRange_0 rfl (lv_at hl 0 rfl) ?_
  refine lv_iload_n hx hb dX4_checkRange_1 rfl (lv_at hl 1 rfl) ?_
  refine lv_icmp_lt (tgt := 10) hx hb dX4_checkRange_2 (by decide) (fun c_1 => ?_) (fun c_1 => ?_)
  · have hf := it_t hf c_1
    have hE := (er_in hf).symm
    exact vx_throwSW (names := xnames) (A := A) hx hb hl0 hown xfit3 xfit (hts (.classLink RX4 291 "java/lang/IllegalArgumentException") (List.mem_cons_of_mem _ (List.mem_append_left _ (List.mem_of_getElem? (i := 0) rfl)))) (hts (.initialized "java/lang/IllegalArgumentException") (List.mem_cons_of_mem _ (List.mem_append_left _ (List.mem_of_getElem? (i := 1) rfl)))) (hZ.1 5 _ rfl) (bad_at3 hZ (fun w h => hts w (List.mem_cons_of_mem _ (List.mem_append_right _ (h))))) (xgood_c rfl rfl xgood3) hZ.2.2.1 hZ.2.2.2 hS (by rw [hml]; exact hl.1) dX4_checkRange_10 dX4_checkRange_13 dX4_checkRange_14 dX4_checkRange_17 dX4_checkRange_20 (fun x hx9 => (ht x hx9).elim) (Nat.le_of_ble_eq_true rfl) (Nat.le_of_ble_eq_true rfl) (Nat.le_of_ble_eq_true rfl) (Nat.le_of_ble_eq_true rfl) hlocks (fun t hvm hz hk => ⟨(), trivial, hE, Nat.le_trans hS.1 hz, fun q h1 h2 => (hk q (Nat.lt_of_lt_of_le h1 hS.1)).trans (hS.2.1 q h1 h2)⟩) hS.2.2 (Nat.le_of_ble_eq_true rfl) (Nat.le_of_ble_eq_true rfl)
  · have hf := it_f hf c_1
    refine lv_iload_n hx hb dX4_checkRange_5 rfl (lv_at hl 0 rfl) ?_
    refine lv_iload_n hx hb dX4_checkRange_6 rfl (lv_at hl 2 rfl) ?_
    refine lv_icmp_le (tgt := 21) hx hb dX4_checkRange_7 (by decide) (fun c_2 => ?_) (fun c_2 => ?_)
    · have hf := it_t hf c_2
      exact (er_ne hf).elim
    · have hf := it_f hf c_2
      have hE := (er_in hf).symm
      exact vx_throwSW (names := xnames) (A := A) hx hb hl0 hown xfit3 xfit (hts (.classLink RX4 291 "java/lang/IllegalArgumentException") (List.mem_cons_of_mem _ (List.mem_append_left _ (List.mem_of_getElem? (i := 0) rfl)))) (hts (.initialized "java/lang/IllegalArgumentException") (List.mem_cons_of_mem _ (List.mem_append_left _ (List.mem_of_getElem? (i := 1) rfl)))) (hZ.1 5 _ rfl) (bad_at3 hZ (fun w h => hts w (List.mem_cons_of_mem _ (List.mem_append_right _ (h))))) (xgood_c rfl rfl xgood3) hZ.2.2.1 hZ.2.2.2 hS (by rw [hml]; exact hl.1) dX4_checkRange_10 dX4_checkRange_13 dX4_checkRange_14 dX4_checkRange_17 dX4_checkRange_20 (fun x hx9 => (ht x hx9).elim) (Nat.le_of_ble_eq_true rfl) (Nat.le_of_ble_eq_true rfl) (Nat.le_of_ble_eq_true rfl) (Nat.le_of_ble_eq_true rfl) hlocks (fun t hvm hz hk => ⟨(), trivial, hE, Nat.le_trans hS.1 hz, fun q h1 h2 => (hk q (Nat.lt_of_lt_of_le h1 hS.1)).trans (hS.2.1 q h1 h2)⟩) hS.2.2 (Nat.le_of_ble_eq_true rfl) (Nat.le_of_ble_eq_true rfl)

set_option maxHeartbeats 4000000 in
set_option maxRecDepth 100000 in
theorem mx_X4_checkRoom (l : Launch) (hl0 : l.stackTraces = false) (sa : Nat → Nat) (sz : Nat) (p0 : Int32) (p1 : Int32) (E0 : String) (hf : f_X4_checkRoom p0 p1 = some (.error E0)) : vx_Met l yX4_checkRoom wsX4_checkRoom ({ frames := 6, cells := 1, slots := 6, locals := 90 }) (va_Pc [.int p0, .int p1] (fun U => U.heap.size = sz ∧ xS sa (fun q => sz ≤ q) U)) (va_Qv (fun (_ : Unit) => False) (fun _ _ => True) (fun q => sz ≤ q)) (vx_X (fun _ : Unit => True) (fun E _ t => E0 = E) (fun q => sz ≤ q)) 1 6 (fun q => sz ≤ q) := by
  refine vx_ofW (cc := cX4_checkRoom) (maxL := 2) (ret := none) (by decide) rfl ?_
  intro p e s m args below meth c s₁ B hml ht hv
  obtain ⟨rfl, hsz, hZ⟩ := hv
  have hx := B.exec
  have hb := B.bytes
  have hr := B.returns
  have hts := atoms_spec (ws := wsX4_checkRoom) B.pre
  have hown : s.vm.findClass RX4 = some m.cls := findClass_of_methodNamed B.named
  have hlocks := B.notSynchronized
  subst hsz
  generalize hAe : (fun q : Nat => s.heap.size ≤ q) = A at hZ ⊢
  have hA : ∀ q : Nat, s.heap.size ≤ q → A q := fun q h => by rw [← hAe]; exact h
  obtain ⟨H, hH⟩ : ∃ H : Heap, H = s.heap := ⟨_, rfl⟩
  have hS : va_S A s.heap H [] := by rw [hH]; exact va_S.rf
  rw [← hH]
  have hl := lv_entry ([.int p0, .int p1]) (n := 2) (Nat.le_of_ble_eq_true rfl)
  rw [lg_entry_eq]
  generalize (lg_sl ([.int p0, .int p1]) ++ List.replicate (2 - (lg_sl ([.int p0, .int p1])).length) Slot.unset).toArray = ls at hl ⊢
  have hl : lv_has ls 2 [(0, .int p0), (1, .int p1)] := hl
  unfold f_X4_checkRoom at hf
  refine lv_iload_n hx hb dX4_checkRoom_0 rfl (lv_at hl 0 rfl) ?_
  refine lv_iload_n hx hb dX4_checkRoom_1 rfl (lv_at hl 1 rfl) ?_
  refine lv_icmp_lt (tgt := 16) hx hb dX4_checkRoom_2 (by decide) (fun c_1 => ?_) (fun c_1 => ?_)
  · have hf := it_t hf c_1
    exact (er_ne hf).elim
  · have hf := it_f hf c_1
    have hE := (er_in hf).symm
    exact vx_throwSW (names := xnames) (A := A) hx hb hl0 hown xfit1 xfit (hts (.classLink RX4 105 "java/lang/IllegalStateException") (List.mem_cons_of_mem _ (List.mem_append_left _ (List.mem_of_getElem? (i := 0) rfl)))) (hts (.initialized "java/lang/IllegalStateException") (List.mem_cons_of_mem _ (List.mem_append_left _ (List.mem_of_getElem? (i := 1) rfl)))) (hZ.1 6 _ rfl) (bad_at1 hZ (fun w h => hts w (List.mem_cons_of_mem _ (List.mem_append_right _ (h))))) (xgood_c rfl rfl xgood1) hZ.2.2.1 hZ.2.2.2 hS (by rw [hml]; exact hl.1) dX4_checkRoom_5 dX4_checkRoom_8 dX4_checkRoom_9 dX4_checkRoom_12 dX4_checkRoom_15 (fun x hx9 => (ht x hx9).elim) (Nat.le_of_ble_eq_true rfl) (Nat.le_of_ble_eq_true rfl) (Nat.le_of_ble_eq_true rfl) (Nat.le_of_ble_eq_true rfl) hlocks (fun t hvm hz hk => ⟨(), trivial, hE, Nat.le_trans hS.1 hz, fun q h1 h2 => (hk q (Nat.lt_of_lt_of_le h1 hS.1)).trans (hS.2.1 q h1 h2)⟩) hS.2.2 (Nat.le_of_ble_eq_true rfl) (Nat.le_of_ble_eq_true rfl)

set_option maxHeartbeats 4000000 in
set_option maxRecDepth 100000 in
theorem mx_X4_ingredient (l : Launch) (hl0 : l.stackTraces = false) (dC : Nat → ClassId) (dI : Nat → Nat → Nat) (ad : Nat → Nat) (cy : Nat → ClassId) (hJ : J33 ad) (sa : Nat → Nat) (sz : Nat) (I : Nat → Nat → Int32) (D : Nat → Nat → UInt64) (p1 : Int32) (p2 : Int32) (p3 : Int32) (p4 : Int32) (p5 : Int32) (E0 : String) (hf : f_X4_ingredient I D p1 p2 p3 p4 p5 = some (.error E0)) : vx_Met l yX4_ingredient wsX4_ingredient ({ frames := 7, cells := 1, slots := 6, locals := 112 }) (va_Pc [.ref (ad 0), .int p1, .int p2, .int p3, .int p4, .int p5] (fun U => U.heap.size = sz ∧ hW dC dI ad cy I D U ∧ xS sa (AW ad sz) U)) (va_Qi (fun _ (_ : Unit) => False) (fun _ _ => True) (AW ad sz)) (vx_X (fun _ : Unit => True) (fun E _ t => E0 = E ∧ va_P (dC, dI) vwCl (iwH ad cy I D) t.heap ∧ va_K (dC, dI) vwCl (tysA cy) t) (AW ad sz)) 1 6 (AW ad sz) := by
  refine vx_ofW (cc := cX4_ingredient) (maxL := 7) (ret := (some .int)) (by decide) rfl ?_
  intro p e s m args below meth c s₁ B hml ht hv
  obtain ⟨rfl, hsz, ⟨hP, hK, hN⟩, hZ⟩ := hv
  have hx := B.exec
  have hb := B.bytes
  have hr := B.returns
  have hts := atoms_spec (ws := wsX4_ingredient) B.pre
  have hown : s.vm.findClass RX4 = some m.cls := findClass_of_methodNamed B.named
  have hlocks := B.notSynchronized
  subst hsz
  generalize hAe : AW ad s.heap.size = A at hZ ⊢
  have hA : ∀ q : Nat, s.heap.size ≤ q → A q := fun q h => by rw [← hAe]; exact Or.inr h
  have hA33 : ∀ k, k < 33 → A (ad k) := fun k h => by rw [← hAe]; exact Or.inl ⟨k, h, rfl⟩
  have hDD : ∀ I D, va_D A (iwH ad cy I D) := fun I D => iwH_D hJ hA33 I D
  obtain ⟨H, hH⟩ : ∃ H : Heap, H = s.heap := ⟨_, rfl⟩
  have hS : va_S A s.heap H [] := by rw [hH]; exact va_S.rf
  rw [← hH]
  rw [← hH] at hP
  have hl := lv_entry ([.ref (ad 0), .int p1, .int p2, .int p3, .int p4, .int p5]) (n := 7) (Nat.le_of_ble_eq_true rfl)
  rw [lg_entry_eq]
  generalize (lg_sl ([.ref (ad 0), .int p1, .int p2, .int p3, .int p4, .int p5]) ++ List.replicate (7 - (lg_sl ([.ref (ad 0), .int p1, .int p2, .int p3, .int p4, .int p5])).length) Slot.unset).toArray = ls at hl ⊢
  have hl : lv_has ls 7 [(0, .ref (ad 0)), (1, .int p1), (2, .int p2), (3, .int p3), (4, .int p4), (5, .int p5)] := hl
  unfold f_X4_ingredient at hf
  refine lv_iload_n hx hb dX4_ingredient_0 rfl (lv_at hl 1 rfl) ?_
  refine lv_iconst (v := 0) hx hb dX4_ingredient_1 (by decide) ?_
  refine lv_sipush (v := 1000) hx hb dX4_ingredient_2 (by decide) ?_
  rcases bE_err hf with g_2 | ⟨_, g_2, hf⟩
  · skip
    refine vx_callv (vx_runS (As := [.int p1, .int 0, .int 1000]) (rest := []) ⟨hx, hb, hml, hown, hts⟩ (mx_X4_checkRange l hl0 sa H.size p1 0 1000 E0 g_2) (va_cwS 3 hts gX4_ingredient_X4_checkRange rfl rfl rfl (by decide +kernel) ⟨Nat.le_of_ble_eq_true rfl, Nat.le_of_ble_eq_true rfl⟩) (pre0X [.int p1, .int 0, .int 1000] (xS_kept (B := fun q => H.size ≤ q) hZ hS (fun q h => hA q (Nat.le_trans hS.1 h)))) rfl rfl hl.1 rfl (lv_room (Nat.le_of_ble_eq_true rfl)) dX4_ingredient_5 ⟨Nat.le_of_ble_eq_true rfl, Nat.le_of_ble_eq_true rfl⟩) hS (fun q _ h => hA q (Nat.le_trans hS.1 h)) (fun q h => hA q (Nat.le_trans hS.1 h)) (fun q _ h => hA q (Nat.le_trans hS.1 h)) (fun E9 ce q9 u t H1 locs1 ht9 hvm hpu hBX hz1 hk1 hS h1 h2 h3 => ?_) (fun u t H1 locs ht9 hvm hw hB hz1 hk1 hS => hw.elim)
    exact vx_out (fun x hx9 => (ht x hx9).elim) hlocks h1 h2 h3 (fun t9 ht8 hvm8 => ⟨(), trivial, ⟨hBX, by rw [ht8]; exact va_Pnew hP hk1, va_K.moved hvm8 hK⟩, hS.F ht8⟩) hS.2.2 (Nat.le_of_ble_eq_true rfl) (Nat.le_of_ble_eq_true rfl)
  · skip
    refine va_callv (va_runS (As := [.int p1, .int 0, .int 1000]) (rest := []) ⟨hx, hb, hml, hown, hts⟩ (mt_X4_checkRange l H.size p1 0 1000  g_2) (va_cwS 3 hts gX4_ingredient_X4_checkRange rfl rfl rfl (by decide +kernel) ⟨Nat.le_of_ble_eq_true rfl, Nat.le_of_ble_eq_true rfl⟩) (pre0 [.int p1, .int 0, .int 1000]) rfl rfl hl.1 rfl (lv_room (Nat.le_of_ble_eq_true rfl)) dX4_ingredient_5 ⟨Nat.le_of_ble_eq_true rfl, Nat.le_of_ble_eq_true rfl⟩) hS (fun q _ h => hA q (Nat.le_trans hS.1 h)) (fun q h => hA q (Nat.le_trans hS.1 h)) (fun u t H1 locs ht hvm hw hB hz1 hk1 hS => ?_)
    have hP := va_Pnew hP hk1
    clear hB hz1 hk1 hvm ht
    generalize H1 = H at hP hS ⊢
    refine lv_iload_n hx hb dX4_ingredient_8 rfl (lv_at hl 2 rfl) ?_
    refine lv_iconst (v := 0) hx hb dX4_ingredient_9 (by decide) ?_
    refine lv_sipush (v := 1000) hx hb dX4_ingredient_10 (by decide) ?_
    refine lv_iload_n hx hb dX4_ingredient_13 rfl (lv_at hl 1 rfl) ?_
    refine lv_isub hx hb dX4_ingredient_14 ?_
    rcases bE_err hf with g_4 | ⟨_, g_4, hf⟩
    · skip
      refine vx_callv (vx_runS (As := [.int p2, .int 0, .int (1000 - p1)]) (rest := []) ⟨hx, hb, hml, hown, hts⟩ (mx_X4_checkRange l hl0 sa H.size p2 0 (1000 - p1) E0 g_4) (va_cwS 3 hts gX4_ingredient_X4_checkRange rfl rfl rfl (by decide +kernel) ⟨Nat.le_of_ble_eq_true rfl, Nat.le_of_ble_eq_true rfl⟩) (pre0X [.int p2, .int 0, .int (1000 - p1)] (xS_kept (B := fun q => H.size ≤ q) hZ hS (fun q h => hA q (Nat.le_trans hS.1 h)))) rfl rfl hl.1 rfl (lv_room (Nat.le_of_ble_eq_true rfl)) dX4_ingredient_15 ⟨Nat.le_of_ble_eq_true rfl, Nat.le_of_ble_eq_true rfl⟩) hS (fun q _ h => hA q (Nat.le_trans hS.1 h)) (fun q h => hA q (Nat.le_trans hS.1 h)) (fun q _ h => hA q (Nat.le_trans hS.1 h)) (fun E9 ce q9 u t H1 locs1 ht9 hvm hpu hBX hz1 hk1 hS h1 h2 h3 => ?_) (fun u t H1 locs ht9 hvm hw hB hz1 hk1 hS => hw.elim)
      exact vx_out (fun x hx9 => (ht x hx9).elim) hlocks h1 h2 h3 (fun t9 ht8 hvm8 => ⟨(), trivial, ⟨hBX, by rw [ht8]; exact va_Pnew hP hk1, va_K.moved hvm8 hK⟩, hS.F ht8⟩) hS.2.2 (Nat.le_of_ble_eq_true rfl) (Nat.le_of_ble_eq_true rfl)
    · skip
      refine va_callv (va_runS (As := [.int p2, .int 0, .int (1000 - p1)]) (rest := []) ⟨hx, hb, hml, hown, hts⟩ (mt_X4_checkRange l H.size p2 0 (1000 - p1)  g_4) (va_cwS 3 hts gX4_ingredient_X4_checkRange rfl rfl rfl (by decide +kernel) ⟨Nat.le_of_ble_eq_true rfl, Nat.le_of_ble_eq_true rfl⟩) (pre0 [.int p2, .int 0, .int (1000 - p1)]) rfl rfl hl.1 rfl (lv_room (Nat.le_of_ble_eq_true rfl)) dX4_ingredient_15 ⟨Nat.le_of_ble_eq_true rfl, Nat.le_of_ble_eq_true rfl⟩) hS (fun q _ h => hA q (Nat.le_trans hS.1 h)) (fun q h => hA q (Nat.le_trans hS.1 h)) (fun u t H1 locs ht hvm hw hB hz1 hk1 hS => ?_)
      have hP := va_Pnew hP hk1
      clear hB hz1 hk1 hvm ht
      generalize H1 = H at hP hS ⊢
      refine lv_iload_n hx hb dX4_ingredient_18 rfl (lv_at hl 3 rfl) ?_
      refine lv_iconst (v := 0) hx hb dX4_ingredient_19 (by decide) ?_
      refine lv_sipush (v := 1000) hx hb dX4_ingredient_20 (by decide) ?_
      refine lv_iload_n hx hb dX4_ingredient_23 rfl (lv_at hl 1 rfl) ?_
      refine lv_isub hx hb dX4_ingredient_24 ?_
      refine lv_iload_n hx hb dX4_ingredient_25 rfl (lv_at hl 2 rfl) ?_
      refine lv_isub hx hb dX4_ingredient_26 ?_
      rcases bE_err hf with g_6 | ⟨_, g_6, hf⟩
      · skip
        refine vx_callv (vx_runS (As := [.int p3, .int 0, .int ((1000 - p1) - p2)]) (rest := []) ⟨hx, hb, hml, hown, hts⟩ (mx_X4_checkRange l hl0 sa H.size p3 0 ((1000 - p1) - p2) E0 g_6) (va_cwS 3 hts gX4_ingredient_X4_checkRange rfl rfl rfl (by decide +kernel) ⟨Nat.le_of_ble_eq_true rfl, Nat.le_of_ble_eq_true rfl⟩) (pre0X [.int p3, .int 0, .int ((1000 - p1) - p2)] (xS_kept (B := fun q => H.size ≤ q) hZ hS (fun q h => hA q (Nat.le_trans hS.1 h)))) rfl rfl hl.1 rfl (lv_room (Nat.le_of_ble_eq_true rfl)) dX4_ingredient_27 ⟨Nat.le_of_ble_eq_true rfl, Nat.le_of_ble_eq_true rfl⟩) hS (fun q _ h => hA q (Nat.le_trans hS.1 h)) (fun q h => hA q (Nat.le_trans hS.1 h)) (fun q _ h => hA q (Nat.le_trans hS.1 h)) (fun E9 ce q9 u t H1 locs1 ht9 hvm hpu hBX hz1 hk1 hS h1 h2 h3 => ?_) (fun u t H1 locs ht9 hvm hw hB hz1 hk1 hS => hw.elim)
        exact vx_out (fun x hx9 => (ht x hx9).elim) hlocks h1 h2 h3 (fun t9 ht8 hvm8 => ⟨(), trivial, ⟨hBX, by rw [ht8]; exact va_Pnew hP hk1, va_K.moved hvm8 hK⟩, hS.F ht8⟩) hS.2.2 (Nat.le_of_ble_eq_true rfl) (Nat.le_of_ble_eq_true rfl)
      · skip
        refine va_callv (va_runS (As := [.int p3, .int 0, .int ((1000 - p1) - p2)]) (rest := []) ⟨hx, hb, hml, hown, hts⟩ (mt_X4_checkRange l H.size p3 0 ((1000 - p1) - p2)  g_6) (va_cwS 3 hts gX4_ingredient_X4_checkRange rfl rfl rfl (by decide +kernel) ⟨Nat.le_of_ble_eq_true rfl, Nat.le_of_ble_eq_true rfl⟩) (pre0 [.int p3, .int 0, .int ((1000 - p1) - p2)]) rfl rfl hl.1 rfl (lv_room (Nat.le_of_ble_eq_true rfl)) dX4_ingredient_27 ⟨Nat.le_of_ble_eq_true rfl, Nat.le_of_ble_eq_true rfl⟩) hS (fun q _ h => hA q (Nat.le_trans hS.1 h)) (fun q h => hA q (Nat.le_trans hS.1 h)) (fun u t H1 locs ht hvm hw hB hz1 hk1 hS => ?_)
        have hP := va_Pnew hP hk1
        clear hB hz1 hk1 hvm ht
        generalize H1 = H at hP hS ⊢
        refine lv_iload hx hb dX4_ingredient_30 (lv_at hl 4 rfl) ?_
        refine lv_iconst (v := 1) hx hb dX4_ingredient_32 (by decide) ?_
        refine lv_bipush (v := 99) hx hb dX4_ingredient_33 (by decide) ?_
        rcases bE_err hf with g_8 | ⟨_, g_8, hf⟩
        · skip
          refine vx_callv (vx_runS (As := [.int p4, .int 1, .int 99]) (rest := []) ⟨hx, hb, hml, hown, hts⟩ (mx_X4_checkRange l hl0 sa H.size p4 1 99 E0 g_8) (va_cwS 3 hts gX4_ingredient_X4_checkRange rfl rfl rfl (by decide +kernel) ⟨Nat.le_of_ble_eq_true rfl, Nat.le_of_ble_eq_true rfl⟩) (pre0X [.int p4, .int 1, .int 99] (xS_kept (B := fun q => H.size ≤ q) hZ hS (fun q h => hA q (Nat.le_trans hS.1 h)))) rfl rfl hl.1 rfl (lv_room (Nat.le_of_ble_eq_true rfl)) dX4_ingredient_35 ⟨Nat.le_of_ble_eq_true rfl, Nat.le_of_ble_eq_true rfl⟩) hS (fun q _ h => hA q (Nat.le_trans hS.1 h)) (fun q h => hA q (Nat.le_trans hS.1 h)) (fun q _ h => hA q (Nat.le_trans hS.1 h)) (fun E9 ce q9 u t H1 locs1 ht9 hvm hpu hBX hz1 hk1 hS h1 h2 h3 => ?_) (fun u t H1 locs ht9 hvm hw hB hz1 hk1 hS => hw.elim)
          exact vx_out (fun x hx9 => (ht x hx9).elim) hlocks h1 h2 h3 (fun t9 ht8 hvm8 => ⟨(), trivial, ⟨hBX, by rw [ht8]; exact va_Pnew hP hk1, va_K.moved hvm8 hK⟩, hS.F ht8⟩) hS.2.2 (Nat.le_of_ble_eq_true rfl) (Nat.le_of_ble_eq_true rfl)
        · skip
          refine va_callv (va_runS (As := [.int p4, .int 1, .int 99]) (rest := []) ⟨hx, hb, hml, hown, hts⟩ (mt_X4_checkRange l H.size p4 1 99  g_8) (va_cwS 3 hts gX4_ingredient_X4_checkRange rfl rfl rfl (by decide +kernel) ⟨Nat.le_of_ble_eq_true rfl, Nat.le_of_ble_eq_true rfl⟩) (pre0 [.int p4, .int 1, .int 99]) rfl rfl hl.1 rfl (lv_room (Nat.le_of_ble_eq_true rfl)) dX4_ingredient_35 ⟨Nat.le_of_ble_eq_true rfl, Nat.le_of_ble_eq_true rfl⟩) hS (fun q _ h => hA q (Nat.le_trans hS.1 h)) (fun q h => hA q (Nat.le_trans hS.1 h)) (fun u t H1 locs ht hvm hw hB hz1 hk1 hS => ?_)
          have hP := va_Pnew hP hk1
          clear hB hz1 hk1 hvm ht
          generalize H1 = H at hP hS ⊢
          refine lv_iload hx hb dX4_ingredient_38 (lv_at hl 5 rfl) ?_
          refine lv_iconst (v := 0) hx hb dX4_ingredient_40 (by decide) ?_
          refine lv_bipush (v := 15) hx hb dX4_ingredient_41 (by decide) ?_
          rcases bE_err hf with g_10 | ⟨_, g_10, hf⟩
          · skip
            refine vx_callv (vx_runS (As := [.int p5, .int 0, .int 15]) (rest := []) ⟨hx, hb, hml, hown, hts⟩ (mx_X4_checkRange l hl0 sa H.size p5 0 15 E0 g_10) (va_cwS 3 hts gX4_ingredient_X4_checkRange rfl rfl rfl (by decide +kernel) ⟨Nat.le_of_ble_eq_true rfl, Nat.le_of_ble_eq_true rfl⟩) (pre0X [.int p5, .int 0, .int 15] (xS_kept (B := fun q => H.size ≤ q) hZ hS (fun q h => hA q (Nat.le_trans hS.1 h)))) rfl rfl hl.1 rfl (lv_room (Nat.le_of_ble_eq_true rfl)) dX4_ingredient_43 ⟨Nat.le_of_ble_eq_true rfl, Nat.le_of_ble_eq_true rfl⟩) hS (fun q _ h => hA q (Nat.le_trans hS.1 h)) (fun q h => hA q (Nat.le_trans hS.1 h)) (fun q _ h => hA q (Nat.le_trans hS.1 h)) (fun E9 ce q9 u t H1 locs1 ht9 hvm hpu hBX hz1 hk1 hS h1 h2 h3 => ?_) (fun u t H1 locs ht9 hvm hw hB hz1 hk1 hS => hw.elim)
            exact vx_out (fun x hx9 => (ht x hx9).elim) hlocks h1 h2 h3 (fun t9 ht8 hvm8 => ⟨(), trivial, ⟨hBX, by rw [ht8]; exact va_Pnew hP hk1, va_K.moved hvm8 hK⟩, hS.F ht8⟩) hS.2.2 (Nat.le_of_ble_eq_true rfl) (Nat.le_of_ble_eq_true rfl)
          · skip
            refine va_callv (va_runS (As := [.int p5, .int 0, .int 15]) (rest := []) ⟨hx, hb, hml, hown, hts⟩ (mt_X4_checkRange l H.size p5 0 15  g_10) (va_cwS 3 hts gX4_ingredient_X4_checkRange rfl rfl rfl (by decide +kernel) ⟨Nat.le_of_ble_eq_true rfl, Nat.le_of_ble_eq_true rfl⟩) (pre0 [.int p5, .int 0, .int 15]) rfl rfl hl.1 rfl (lv_room (Nat.le_of_ble_eq_true rfl)) dX4_ingredient_43 ⟨Nat.le_of_ble_eq_true rfl, Nat.le_of_ble_eq_true rfl⟩) hS (fun q _ h => hA q (Nat.le_trans hS.1 h)) (fun q h => hA q (Nat.le_trans hS.1 h)) (fun u t H1 locs ht hvm hw hB hz1 hk1 hS => ?_)
            have hP := va_Pnew hP hk1
            clear hB hz1 hk1 hvm ht
            generalize H1 = H at hP hS ⊢
            refine lv_aload_n hx hb dX4_ingredient_46 rfl (lv_at hl 0 rfl) ?_
            refine va_get (D := (dC, dI)) (ci := 5) (v := .int (I 0 5)) (C := RX4) (T := TX4) (N := 14) hx hb hts iX4_ingredient_RX4 hown hK hP 0 heH_0 rfl 5 (by decide) (hts (.fieldLink RX4 37 "OverrunHouse" "ingredientCount" "I") (List.mem_cons_of_mem _ (List.mem_append_left _ (List.mem_append_left _ (List.mem_append_left _ (List.mem_append_left _ (List.mem_of_getElem? (i := 0) rfl))))))) (fun _ h9 => h9) rfl dX4_ingredient_47 ?_
            refine lv_bipush (v := 6) hx hb dX4_ingredient_50 (by decide) ?_
            rcases bE_err hf with g_12 | ⟨_, g_12, hf⟩
            · skip
              refine vx_callv (vx_runS (As := [.int (I 0 5), .int 6]) (rest := []) ⟨hx, hb, hml, hown, hts⟩ (mx_X4_checkRoom l hl0 sa H.size (I 0 5) 6 E0 g_12) (va_cwS 2 hts gX4_ingredient_X4_checkRoom rfl rfl rfl (by decide +kernel) ⟨Nat.le_of_ble_eq_true rfl, Nat.le_of_ble_eq_true rfl⟩) (pre0X [.int (I 0 5), .int 6] (xS_kept (B := fun q => H.size ≤ q) hZ hS (fun q h => hA q (Nat.le_trans hS.1 h)))) rfl rfl hl.1 rfl (lv_room (Nat.le_of_ble_eq_true rfl)) dX4_ingredient_52 ⟨Nat.le_of_ble_eq_true rfl, Nat.le_of_ble_eq_true rfl⟩) hS (fun q _ h => hA q (Nat.le_trans hS.1 h)) (fun q h => hA q (Nat.le_trans hS.1 h)) (fun q _ h => hA q (Nat.le_trans hS.1 h)) (fun E9 ce q9 u t H1 locs1 ht9 hvm hpu hBX hz1 hk1 hS h1 h2 h3 => ?_) (fun u t H1 locs ht9 hvm hw hB hz1 hk1 hS => hw.elim)
              exact vx_out (fun x hx9 => (ht x hx9).elim) hlocks h1 h2 h3 (fun t9 ht8 hvm8 => ⟨(), trivial, ⟨hBX, by rw [ht8]; exact va_Pnew hP hk1, va_K.moved hvm8 hK⟩, hS.F ht8⟩) hS.2.2 (Nat.le_of_ble_eq_true rfl) (Nat.le_of_ble_eq_true rfl)
            · skip
              refine va_callv (va_runS (As := [.int (I 0 5), .int 6]) (rest := []) ⟨hx, hb, hml, hown, hts⟩ (mt_X4_checkRoom l H.size (I 0 5) 6  g_12) (va_cwS 2 hts gX4_ingredient_X4_checkRoom rfl rfl rfl (by decide +kernel) ⟨Nat.le_of_ble_eq_true rfl, Nat.le_of_ble_eq_true rfl⟩) (pre0 [.int (I 0 5), .int 6]) rfl rfl hl.1 rfl (lv_room (Nat.le_of_ble_eq_true rfl)) dX4_ingredient_52 ⟨Nat.le_of_ble_eq_true rfl, Nat.le_of_ble_eq_true rfl⟩) hS (fun q _ h => hA q (Nat.le_trans hS.1 h)) (fun q h => hA q (Nat.le_trans hS.1 h)) (fun u t H1 locs ht hvm hw hB hz1 hk1 hS => ?_)
              have hP := va_Pnew hP hk1
              clear hB hz1 hk1 hvm ht
              generalize H1 = H at hP hS ⊢
              refine lv_aload_n hx hb dX4_ingredient_55 rfl (lv_at hl 0 rfl) ?_
              refine va_get (D := (dC, dI)) (ci := 5) (v := .ref (ad 1)) (C := RX4) (T := TX4) (N := 14) hx hb hts iX4_ingredient_RX4 hown hK hP 0 heH_0 rfl 0 (by decide) (hts (.fieldLink RX4 11 "OverrunHouse" "ingredients" "[LOverrunHouse$Ingredient;") (List.mem_cons_of_mem _ (List.mem_append_left _ (List.mem_append_left _ (List.mem_append_left _ (List.mem_append_left _ (List.mem_of_getElem? (i := 1) rfl))))))) (fun _ h9 => h9) rfl dX4_ingredient_56 ?_
              refine lv_aload_n hx hb dX4_ingredient_59 rfl (lv_at hl 0 rfl) ?_
              refine va_get (D := (dC, dI)) (ci := 5) (v := .int (I 0 5)) (C := RX4) (T := TX4) (N := 14) hx hb hts iX4_ingredient_RX4 hown hK hP 0 heH_0 rfl 5 (by decide) (hts (.fieldLink RX4 37 "OverrunHouse" "ingredientCount" "I") (List.mem_cons_of_mem _ (List.mem_append_left _ (List.mem_append_left _ (List.mem_append_left _ (List.mem_append_left _ (List.mem_of_getElem? (i := 0) rfl))))))) (fun _ h9 => h9) rfl dX4_ingredient_60 ?_
              obtain ⟨h_13, hf⟩ := ck_out hf
              refine wr_aald (b := 7) (n := 6) hx hb hK hP 1 1 heH_1 rfl (inB_in h_13) dX4_ingredient_63 ?_
              refine lv_astore (lv' := [(6, .ref (ad (7 + ((I 0 5)).toNatClampNeg))), (0, .ref (ad 0)), (1, .int p1), (2, .int p2), (3, .int p3), (4, .int p4), (5, .int p5)]) hx hb dX4_ingredient_64 hl (by decide) rfl (fun ls hl => ?_)
              refine lv_aload hx hb dX4_ingredient_66 (lv_at hl 0 rfl) ?_
              refine lv_iload_n hx hb dX4_ingredient_68 rfl (lv_at hl 2 rfl) ?_
              obtain ⟨I_14, eI_14, hf⟩ := nm_out hf
              refine va_putN (D := (dC, dI)) (ci := 2) (v := .int p1) (ty := .int) (C := RX1) (T := TX1) (N := 5) hx hb hts iX4_ingredient_RX1 tyX1 tyX1_ok nmX1 hown hK hP (hDD I D) hS (7 + ((I 0 5)).toNatClampNeg) (heH_Ingredient (inB_lt h_13)) rfl 0 (by decide) (va_Nw.use (w := .fieldLinkNest "OverrunHouse" 77 "OverrunHouse$Ingredient" "fat" "I" "OverrunHouse") rfl (hN _ (List.mem_of_getElem? (i := 1) rfl))) (fun _ h9 => h9) rfl (by decide +kernel) rfl rfl (Nat.le_of_ble_eq_true rfl) dX4_ingredient_69 (fun H locs hP _ hS => ?_)
              have hP : va_P (dC, dI) vwCl (iwH ad cy I_14 D) H := by rw [eI_14]; exact hpI (by have := (inB_lt h_13); omega) ((cellH_Ingredient ad cy (inB_lt h_13) _ _).trans rfl) hP
              refine lv_aload hx hb dX4_ingredient_72 (lv_at hl 0 rfl) ?_
              refine lv_iload_n hx hb dX4_ingredient_74 rfl (lv_at hl 3 rfl) ?_
              obtain ⟨I_15, eI_15, hf⟩ := nm_out hf
              refine va_putN (D := (dC, dI)) (ci := 2) (v := .int p2) (ty := .int) (C := RX1) (T := TX1) (N := 5) hx hb hts iX4_ingredient_RX1 tyX1 tyX1_ok nmX1 hown hK hP (hDD I_14 D) hS (7 + ((I 0 5)).toNatClampNeg) (heH_Ingredient (inB_lt h_13)) rfl 1 (by decide) (va_Nw.use (w := .fieldLinkNest "OverrunHouse" 80 "OverrunHouse$Ingredient" "milk" "I" "OverrunHouse") rfl (hN _ (List.mem_of_getElem? (i := 3) rfl))) (fun _ h9 => h9) rfl (by decide +kernel) rfl rfl (Nat.le_of_ble_eq_true rfl) dX4_ingredient_75 (fun H locs hP _ hS => ?_)
              have hP : va_P (dC, dI) vwCl (iwH ad cy I_15 D) H := by rw [eI_15]; exact hpI (by have := (inB_lt h_13); omega) ((cellH_Ingredient ad cy (inB_lt h_13) _ _).trans rfl) hP
              refine lv_aload hx hb dX4_ingredient_78 (lv_at hl 0 rfl) ?_
              refine lv_iload_n hx hb dX4_ingredient_80 rfl (lv_at hl 4 rfl) ?_
              obtain ⟨I_16, eI_16, hf⟩ := nm_out hf
              refine va_putN (D := (dC, dI)) (ci := 2) (v := .int p3) (ty := .int) (C := RX1) (T := TX1) (N := 5) hx hb hts iX4_ingredient_RX1 tyX1 tyX1_ok nmX1 hown hK hP (hDD I_15 D) hS (7 + ((I 0 5)).toNatClampNeg) (heH_Ingredient (inB_lt h_13)) rfl 2 (by decide) (va_Nw.use (w := .fieldLinkNest "OverrunHouse" 83 "OverrunHouse$Ingredient" "sugar" "I" "OverrunHouse") rfl (hN _ (List.mem_of_getElem? (i := 5) rfl))) (fun _ h9 => h9) rfl (by decide +kernel) rfl rfl (Nat.le_of_ble_eq_true rfl) dX4_ingredient_81 (fun H locs hP _ hS => ?_)
              have hP : va_P (dC, dI) vwCl (iwH ad cy I_16 D) H := by rw [eI_16]; exact hpI (by have := (inB_lt h_13); omega) ((cellH_Ingredient ad cy (inB_lt h_13) _ _).trans rfl) hP
              refine lv_aload hx hb dX4_ingredient_84 (lv_at hl 0 rfl) ?_
              refine lv_iload hx hb dX4_ingredient_86 (lv_at hl 5 rfl) ?_
              obtain ⟨I_17, eI_17, hf⟩ := nm_out hf
              refine va_putN (D := (dC, dI)) (ci := 2) (v := .int p4) (ty := .int) (C := RX1) (T := TX1) (N := 5) hx hb hts iX4_ingredient_RX1 tyX1 tyX1_ok nmX1 hown hK hP (hDD I_16 D) hS (7 + ((I 0 5)).toNatClampNeg) (heH_Ingredient (inB_lt h_13)) rfl 3 (by decide) (va_Nw.use (w := .fieldLinkNest "OverrunHouse" 86 "OverrunHouse$Ingredient" "cost" "I" "OverrunHouse") rfl (hN _ (List.mem_of_getElem? (i := 7) rfl))) (fun _ h9 => h9) rfl (by decide +kernel) rfl rfl (Nat.le_of_ble_eq_true rfl) dX4_ingredient_88 (fun H locs hP _ hS => ?_)
              have hP : va_P (dC, dI) vwCl (iwH ad cy I_17 D) H := by rw [eI_17]; exact hpI (by have := (inB_lt h_13); omega) ((cellH_Ingredient ad cy (inB_lt h_13) _ _).trans rfl) hP
              refine lv_aload hx hb dX4_ingredient_91 (lv_at hl 0 rfl) ?_
              refine lv_iload hx hb dX4_ingredient_93 (lv_at hl 6 rfl) ?_
              obtain ⟨I_18, eI_18, hf⟩ := nm_out hf
              refine va_putN (D := (dC, dI)) (ci := 2) (v := .int p5) (ty := .int) (C := RX1) (T := TX1) (N := 5) hx hb hts iX4_ingredient_RX1 tyX1 tyX1_ok nmX1 hown hK hP (hDD I_17 D) hS (7 + ((I 0 5)).toNatClampNeg) (heH_Ingredient (inB_lt h_13)) rfl 4 (by decide) (va_Nw.use (w := .fieldLinkNest "OverrunHouse" 89 "OverrunHouse$Ingredient" "harms" "I" "OverrunHouse") rfl (hN _ (List.mem_of_getElem? (i := 9) rfl))) (fun _ h9 => h9) rfl (by decide +kernel) rfl rfl (Nat.le_of_ble_eq_true rfl) dX4_ingredient_95 (fun H locs hP _ hS => ?_)
              have hP : va_P (dC, dI) vwCl (iwH ad cy I_18 D) H := by rw [eI_18]; exact hpI (by have := (inB_lt h_13); omega) ((cellH_Ingredient ad cy (inB_lt h_13) _ _).trans rfl) hP
              refine lv_aload_n hx hb dX4_ingredient_98 rfl (lv_at hl 1 rfl) ?_
              refine lv_dup hx hb dX4_ingredient_99 rfl ?_
              refine va_get (D := (dC, dI)) (ci := 5) (v := .int (I_18 0 5)) (C := RX4) (T := TX4) (N := 14) hx hb hts iX4_ingredient_RX4 hown hK hP 0 heH_0 rfl 5 (by decide) (hts (.fieldLink RX4 37 "OverrunHouse" "ingredientCount" "I") (List.mem_cons_of_mem _ (List.mem_append_left _ (List.mem_append_left _ (List.mem_append_left _ (List.mem_append_left _ (List.mem_of_getElem? (i := 0) rfl))))))) (fun _ h9 => h9) rfl dX4_ingredient_100 ?_
              refine lv_iconst (v := 1) hx hb dX4_ingredient_103 (by decide) ?_
              refine lv_iadd hx hb dX4_ingredient_104 ?_
              obtain ⟨I_19, eI_19, hf⟩ := nm_out hf
              refine va_put (D := (dC, dI)) (ci := 5) (v := .int ((I_18 0 5) + 1)) (ty := .int) (C := RX4) (T := TX4) (N := 14) hx hb hts iX4_ingredient_RX4 tyX4 tyX4_ok nmX4 hown hK hP (hDD I_18 D) hS 0 heH_0 rfl 5 (by decide) (hts (.fieldLink RX4 37 "OverrunHouse" "ingredientCount" "I") (List.mem_cons_of_mem _ (List.mem_append_left _ (List.mem_append_left _ (List.mem_append_left _ (List.mem_append_left _ (List.mem_of_getElem? (i := 0) rfl))))))) (fun _ h9 => h9) rfl (by decide +kernel) rfl rfl (Nat.le_of_ble_eq_true rfl) dX4_ingredient_105 (fun H locs hP _ hS => ?_)
              have hP : va_P (dC, dI) vwCl (iwH ad cy I_19 D) H := by rw [eI_19]; exact hpI (by decide) ((cellH_0 ad cy _ _).trans rfl) hP
              refine lv_aload_n hx hb dX4_ingredient_108 rfl (lv_at hl 1 rfl) ?_
              refine va_get (D := (dC, dI)) (ci := 5) (v := .int (I_19 0 5)) (C := RX4) (T := TX4) (N := 14) hx hb hts iX4_ingredient_RX4 hown hK hP 0 heH_0 rfl 5 (by decide) (hts (.fieldLink RX4 37 "OverrunHouse" "ingredientCount" "I") (List.mem_cons_of_mem _ (List.mem_append_left _ (List.mem_append_left _ (List.mem_append_left _ (List.mem_append_left _ (List.mem_of_getElem? (i := 0) rfl))))))) (fun _ h9 => h9) rfl dX4_ingredient_109 ?_
              refine lv_iconst (v := 1) hx hb dX4_ingredient_112 (by decide) ?_
              refine lv_isub hx hb dX4_ingredient_113 ?_
              exact (er_ne hf).elim

set_option maxHeartbeats 4000000 in
set_option maxRecDepth 100000 in
theorem mx_X4_mix (l : Launch) (hl0 : l.stackTraces = false) (dC : Nat → ClassId) (dI : Nat → Nat → Nat) (ad : Nat → Nat) (cy : Nat → ClassId) (hJ : J33 ad) (sa : Nat → Nat) (sz : Nat) (I : Nat → Nat → Int32) (D : Nat → Nat → UInt64) (p1 : Int32) (p2 : Int32) (E0 : String) (hf : f_X4_mix I D p1 p2 = some (.error E0)) : vx_Met l yX4_mix wsX4_mix ({ frames := 7, cells := 1, slots := 6, locals := 112 }) (va_Pc [.ref (ad 0), .int p1, .int p2] (fun U => U.heap.size = sz ∧ hW dC dI ad cy I D U ∧ xS sa (AW ad sz) U)) (va_Qi (fun _ (_ : Unit) => False) (fun _ _ => True) (AW ad sz)) (vx_X (fun _ : Unit => True) (fun E _ t => E0 = E ∧ va_P (dC, dI) vwCl (iwH ad cy I D) t.heap ∧ va_K (dC, dI) vwCl (tysA cy) t) (AW ad sz)) 1 6 (AW ad sz) := by
  refine vx_ofW (cc := cX4_mix) (maxL := 3) (ret := (some .int)) (by decide) rfl ?_
  intro p e s m args below meth c s₁ B hml ht hv
  obtain ⟨rfl, hsz, ⟨hP, hK, hN⟩, hZ⟩ := hv
  have hx := B.exec
  have hb := B.bytes
  have hr := B.returns
  have hts := atoms_spec (ws := wsX4_mix) B.pre
  have hown : s.vm.findClass RX4 = some m.cls := findClass_of_methodNamed B.named
  have hlocks := B.notSynchronized
  subst hsz
  generalize hAe : AW ad s.heap.size = A at hZ ⊢
  have hA : ∀ q : Nat, s.heap.size ≤ q → A q := fun q h => by rw [← hAe]; exact Or.inr h
  have hA33 : ∀ k, k < 33 → A (ad k) := fun k h => by rw [← hAe]; exact Or.inl ⟨k, h, rfl⟩
  have hDD : ∀ I D, va_D A (iwH ad cy I D) := fun I D => iwH_D hJ hA33 I D
  obtain ⟨H, hH⟩ : ∃ H : Heap, H = s.heap := ⟨_, rfl⟩
  have hS : va_S A s.heap H [] := by rw [hH]; exact va_S.rf
  rw [← hH]
  rw [← hH] at hP
  have hl := lv_entry ([.ref (ad 0), .int p1, .int p2]) (n := 3) (Nat.le_of_ble_eq_true rfl)
  rw [lg_entry_eq]
  generalize (lg_sl ([.ref (ad 0), .int p1, .int p2]) ++ List.replicate (3 - (lg_sl ([.ref (ad 0), .int p1, .int p2])).length) Slot.unset).toArray = ls at hl ⊢
  have hl : lv_has ls 3 [(0, .ref (ad 0)), (1, .int p1), (2, .int p2)] := hl
  unfold f_X4_mix at hf
  refine lv_iload_n hx hb dX4_mix_0 rfl (lv_at hl 1 rfl) ?_
  refine lv_aload_n hx hb dX4_mix_1 rfl (lv_at hl 0 rfl) ?_
  refine va_get (D := (dC, dI)) (ci := 5) (v := .int (I 0 5)) (C := RX4) (T := TX4) (N := 14) hx hb hts iX4_mix_RX4 hown hK hP 0 heH_0 rfl 5 (by decide) (hts (.fieldLink RX4 37 "OverrunHouse" "ingredientCount" "I") (List.mem_cons_of_mem _ (List.mem_append_left _ (List.mem_append_left _ (List.mem_append_left _ (List.mem_append_left _ (List.mem_append_left _ (List.mem_append_left _ (List.mem_append_left _ (List.mem_of_getElem? (i := 0) rfl)))))))))) (fun _ h9 => h9) rfl dX4_mix_2 ?_
  rcases bE_err hf with g_2 | ⟨_, g_2, hf⟩
  · skip
    refine vx_callv (vx_runS (As := [.int p1, .int (I 0 5)]) (rest := []) ⟨hx, hb, hml, hown, hts⟩ (mx_X4_checkNumber l hl0 sa H.size p1 (I 0 5) E0 g_2) (va_cwS 2 hts gX4_mix_X4_checkNumber rfl rfl rfl (by decide +kernel) ⟨Nat.le_of_ble_eq_true rfl, Nat.le_of_ble_eq_true rfl⟩) (pre0X [.int p1, .int (I 0 5)] (xS_kept (B := fun q => H.size ≤ q) hZ hS (fun q h => hA q (Nat.le_trans hS.1 h)))) rfl rfl hl.1 rfl (lv_room (Nat.le_of_ble_eq_true rfl)) dX4_mix_5 ⟨Nat.le_of_ble_eq_true rfl, Nat.le_of_ble_eq_true rfl⟩) hS (fun q _ h => hA q (Nat.le_trans hS.1 h)) (fun q h => hA q (Nat.le_trans hS.1 h)) (fun q _ h => hA q (Nat.le_trans hS.1 h)) (fun E9 ce q9 u t H1 locs1 ht9 hvm hpu hBX hz1 hk1 hS h1 h2 h3 => ?_) (fun u t H1 locs ht9 hvm hw hB hz1 hk1 hS => hw.elim)
    exact vx_out (fun x hx9 => (ht x hx9).elim) hlocks h1 h2 h3 (fun t9 ht8 hvm8 => ⟨(), trivial, ⟨hBX, by rw [ht8]; exact va_Pnew hP hk1, va_K.moved hvm8 hK⟩, hS.F ht8⟩) hS.2.2 (Nat.le_of_ble_eq_true rfl) (Nat.le_of_ble_eq_true rfl)
  · skip
    refine va_callv (va_runS (As := [.int p1, .int (I 0 5)]) (rest := []) ⟨hx, hb, hml, hown, hts⟩ (mt_X4_checkNumber l H.size p1 (I 0 5)  g_2) (va_cwS 2 hts gX4_mix_X4_checkNumber rfl rfl rfl (by decide +kernel) ⟨Nat.le_of_ble_eq_true rfl, Nat.le_of_ble_eq_true rfl⟩) (pre0 [.int p1, .int (I 0 5)]) rfl rfl hl.1 rfl (lv_room (Nat.le_of_ble_eq_true rfl)) dX4_mix_5 ⟨Nat.le_of_ble_eq_true rfl, Nat.le_of_ble_eq_true rfl⟩) hS (fun q _ h => hA q (Nat.le_trans hS.1 h)) (fun q h => hA q (Nat.le_trans hS.1 h)) (fun u t H1 locs ht hvm hw hB hz1 hk1 hS => ?_)
    have hP := va_Pnew hP hk1
    clear hB hz1 hk1 hvm ht
    generalize H1 = H at hP hS ⊢
    refine lv_iload_n hx hb dX4_mix_8 rfl (lv_at hl 2 rfl) ?_
    refine lv_iconst (v := 1) hx hb dX4_mix_9 (by decide) ?_
    refine lv_sipush (v := 500) hx hb dX4_mix_10 (by decide) ?_
    rcases bE_err hf with g_4 | ⟨_, g_4, hf⟩
    · skip
      refine vx_callv (vx_runS (As := [.int p2, .int 1, .int 500]) (rest := []) ⟨hx, hb, hml, hown, hts⟩ (mx_X4_checkRange l hl0 sa H.size p2 1 500 E0 g_4) (va_cwS 3 hts gX4_mix_X4_checkRange rfl rfl rfl (by decide +kernel) ⟨Nat.le_of_ble_eq_true rfl, Nat.le_of_ble_eq_true rfl⟩) (pre0X [.int p2, .int 1, .int 500] (xS_kept (B := fun q => H.size ≤ q) hZ hS (fun q h => hA q (Nat.le_trans hS.1 h)))) rfl rfl hl.1 rfl (lv_room (Nat.le_of_ble_eq_true rfl)) dX4_mix_13 ⟨Nat.le_of_ble_eq_true rfl, Nat.le_of_ble_eq_true rfl⟩) hS (fun q _ h => hA q (Nat.le_trans hS.1 h)) (fun q h => hA q (Nat.le_trans hS.1 h)) (fun q _ h => hA q (Nat.le_trans hS.1 h)) (fun E9 ce q9 u t H1 locs1 ht9 hvm hpu hBX hz1 hk1 hS h1 h2 h3 => ?_) (fun u t H1 locs ht9 hvm hw hB hz1 hk1 hS => hw.elim)
      exact vx_out (fun x hx9 => (ht x hx9).elim) hlocks h1 h2 h3 (fun t9 ht8 hvm8 => ⟨(), trivial, ⟨hBX, by rw [ht8]; exact va_Pnew hP hk1, va_K.moved hvm8 hK⟩, hS.F ht8⟩) hS.2.2 (Nat.le_of_ble_eq_true rfl) (Nat.le_of_ble_eq_true rfl)
    · skip
      refine va_callv (va_runS (As := [.int p2, .int 1, .int 500]) (rest := []) ⟨hx, hb, hml, hown, hts⟩ (mt_X4_checkRange l H.size p2 1 500  g_4) (va_cwS 3 hts gX4_mix_X4_checkRange rfl rfl rfl (by decide +kernel) ⟨Nat.le_of_ble_eq_true rfl, Nat.le_of_ble_eq_true rfl⟩) (pre0 [.int p2, .int 1, .int 500]) rfl rfl hl.1 rfl (lv_room (Nat.le_of_ble_eq_true rfl)) dX4_mix_13 ⟨Nat.le_of_ble_eq_true rfl, Nat.le_of_ble_eq_true rfl⟩) hS (fun q _ h => hA q (Nat.le_trans hS.1 h)) (fun q h => hA q (Nat.le_trans hS.1 h)) (fun u t H1 locs ht hvm hw hB hz1 hk1 hS => ?_)
      have hP := va_Pnew hP hk1
      clear hB hz1 hk1 hvm ht
      generalize H1 = H at hP hS ⊢
      refine lv_aload_n hx hb dX4_mix_16 rfl (lv_at hl 0 rfl) ?_
      refine va_get (D := (dC, dI)) (ci := 5) (v := .int (I 0 6)) (C := RX4) (T := TX4) (N := 14) hx hb hts iX4_mix_RX4 hown hK hP 0 heH_0 rfl 6 (by decide) (hts (.fieldLink RX4 41 "OverrunHouse" "mixCount" "I") (List.mem_cons_of_mem _ (List.mem_append_left _ (List.mem_append_left _ (List.mem_append_left _ (List.mem_append_left _ (List.mem_append_left _ (List.mem_append_left _ (List.mem_append_left _ (List.mem_of_getElem? (i := 1) rfl)))))))))) (fun _ h9 => h9) rfl dX4_mix_17 ?_
      refine lv_iconst (v := 5) hx hb dX4_mix_20 (by decide) ?_
      rcases bE_err hf with g_6 | ⟨_, g_6, hf⟩
      · skip
        refine vx_callv (vx_runS (As := [.int (I 0 6), .int 5]) (rest := []) ⟨hx, hb, hml, hown, hts⟩ (mx_X4_checkRoom l hl0 sa H.size (I 0 6) 5 E0 g_6) (va_cwS 2 hts gX4_mix_X4_checkRoom rfl rfl rfl (by decide +kernel) ⟨Nat.le_of_ble_eq_true rfl, Nat.le_of_ble_eq_true rfl⟩) (pre0X [.int (I 0 6), .int 5] (xS_kept (B := fun q => H.size ≤ q) hZ hS (fun q h => hA q (Nat.le_trans hS.1 h)))) rfl rfl hl.1 rfl (lv_room (Nat.le_of_ble_eq_true rfl)) dX4_mix_21 ⟨Nat.le_of_ble_eq_true rfl, Nat.le_of_ble_eq_true rfl⟩) hS (fun q _ h => hA q (Nat.le_trans hS.1 h)) (fun q h => hA q (Nat.le_trans hS.1 h)) (fun q _ h => hA q (Nat.le_trans hS.1 h)) (fun E9 ce q9 u t H1 locs1 ht9 hvm hpu hBX hz1 hk1 hS h1 h2 h3 => ?_) (fun u t H1 locs ht9 hvm hw hB hz1 hk1 hS => hw.elim)
        exact vx_out (fun x hx9 => (ht x hx9).elim) hlocks h1 h2 h3 (fun t9 ht8 hvm8 => ⟨(), trivial, ⟨hBX, by rw [ht8]; exact va_Pnew hP hk1, va_K.moved hvm8 hK⟩, hS.F ht8⟩) hS.2.2 (Nat.le_of_ble_eq_true rfl) (Nat.le_of_ble_eq_true rfl)
      · skip
        refine va_callv (va_runS (As := [.int (I 0 6), .int 5]) (rest := []) ⟨hx, hb, hml, hown, hts⟩ (mt_X4_checkRoom l H.size (I 0 6) 5  g_6) (va_cwS 2 hts gX4_mix_X4_checkRoom rfl rfl rfl (by decide +kernel) ⟨Nat.le_of_ble_eq_true rfl, Nat.le_of_ble_eq_true rfl⟩) (pre0 [.int (I 0 6), .int 5]) rfl rfl hl.1 rfl (lv_room (Nat.le_of_ble_eq_true rfl)) dX4_mix_21 ⟨Nat.le_of_ble_eq_true rfl, Nat.le_of_ble_eq_true rfl⟩) hS (fun q _ h => hA q (Nat.le_trans hS.1 h)) (fun q h => hA q (Nat.le_trans hS.1 h)) (fun u t H1 locs ht hvm hw hB hz1 hk1 hS => ?_)
        have hP := va_Pnew hP hk1
        clear hB hz1 hk1 hvm ht
        generalize H1 = H at hP hS ⊢
        refine lv_aload_n hx hb dX4_mix_24 rfl (lv_at hl 0 rfl) ?_
        refine va_get (D := (dC, dI)) (ci := 5) (v := .ref (ad 2)) (C := RX4) (T := TX4) (N := 14) hx hb hts iX4_mix_RX4 hown hK hP 0 heH_0 rfl 1 (by decide) (hts (.fieldLink RX4 17 "OverrunHouse" "mixes" "[LOverrunHouse$Mix;") (List.mem_cons_of_mem _ (List.mem_append_left _ (List.mem_append_left _ (List.mem_append_left _ (List.mem_append_left _ (List.mem_append_left _ (List.mem_append_left _ (List.mem_append_left _ (List.mem_of_getElem? (i := 2) rfl)))))))))) (fun _ h9 => h9) rfl dX4_mix_25 ?_
        refine lv_aload_n hx hb dX4_mix_28 rfl (lv_at hl 0 rfl) ?_
        refine va_get (D := (dC, dI)) (ci := 5) (v := .int (I 0 6)) (C := RX4) (T := TX4) (N := 14) hx hb hts iX4_mix_RX4 hown hK hP 0 heH_0 rfl 6 (by decide) (hts (.fieldLink RX4 41 "OverrunHouse" "mixCount" "I") (List.mem_cons_of_mem _ (List.mem_append_left _ (List.mem_append_left _ (List.mem_append_left _ (List.mem_append_left _ (List.mem_append_left _ (List.mem_append_left _ (List.mem_append_left _ (List.mem_of_getElem? (i := 1) rfl)))))))))) (fun _ h9 => h9) rfl dX4_mix_29 ?_
        obtain ⟨h_7, hf⟩ := ck_out hf
        refine wr_aald (b := 13) (n := 5) hx hb hK hP 2 2 heH_2 rfl (inB_in h_7) dX4_mix_32 ?_
        refine lv_aload_n hx hb dX4_mix_33 rfl (lv_at hl 0 rfl) ?_
        refine va_get (D := (dC, dI)) (ci := 5) (v := .ref (ad 1)) (C := RX4) (T := TX4) (N := 14) hx hb hts iX4_mix_RX4 hown hK hP 0 heH_0 rfl 0 (by decide) (hts (.fieldLink RX4 11 "OverrunHouse" "ingredients" "[LOverrunHouse$Ingredient;") (List.mem_cons_of_mem _ (List.mem_append_left _ (List.mem_append_left _ (List.mem_append_left _ (List.mem_append_left _ (List.mem_append_left _ (List.mem_append_left _ (List.mem_append_left _ (List.mem_of_getElem? (i := 3) rfl)))))))))) (fun _ h9 => h9) rfl dX4_mix_34 ?_
        refine lv_iload_n hx hb dX4_mix_37 rfl (lv_at hl 1 rfl) ?_
        obtain ⟨h_8, hf⟩ := ck_out hf
        refine wr_aald (b := 7) (n := 6) hx hb hK hP 1 1 heH_1 rfl (inB_in h_8) dX4_mix_38 ?_
        refine lv_iload_n hx hb dX4_mix_39 rfl (lv_at hl 1 rfl) ?_
        refine lv_iload_n hx hb dX4_mix_40 rfl (lv_at hl 2 rfl) ?_
        obtain ⟨⟨I_11, D_12⟩, g_10, hf⟩ := bd_out hf
        have hAW : ∀ q, AW ad H.size q → A q := fun q h => h.elim (fun ⟨k, k1, k2⟩ => k2 ▸ hA33 k k1) (fun h => hA q (Nat.le_trans hS.1 h))
        refine va_callv (va_runVN (As := [.ref (ad (7 + (p1).toNatClampNeg)), .int p1, .int p2]) (rest := []) ⟨hx, hb, hml, hown, hts⟩ (mt_X2_add l dC dI ad cy hJ H.size I D ((I 0 6)).toNatClampNeg (inB_lt h_7) (p1).toNatClampNeg (inB_lt h_8) p1 p2 I_11 D_12 g_10) ⟨va_cnB 3 hts gX4_mix_X2_add_n95 rfl rfl rfl (hN (.methodLinkNest "OverrunHouse" 95 ⟨"OverrunHouse$Mix", "add", "(LOverrunHouse$Ingredient;II)V"⟩ "OverrunHouse") (List.mem_of_getElem? (i := 40) rfl)) (hts (.initialized RX2) (List.mem_cons_of_mem _ (List.mem_append_left _ (List.mem_append_left _ (List.mem_append_left _ (List.mem_append_left _ (List.mem_append_left _ (List.mem_append_left _ (List.mem_append_left _ (List.mem_of_getElem? (i := 21) rfl)))))))))) (by decide +kernel) ⟨Nat.le_of_ble_eq_true rfl, Nat.le_of_ble_eq_true rfl⟩, (hts (.instanceMethod yX2_add) (List.mem_cons_of_mem _ (List.mem_append_left _ (List.mem_append_left _ (List.mem_append_left _ (List.mem_append_left _ (List.mem_append_left _ (List.mem_append_left _ (List.mem_append_left _ (List.mem_of_getElem? (i := 20) rfl)))))))))), (hts (.selects RX2 yX2_add yX2_add) (List.mem_cons_of_mem _ (List.mem_append_left _ (List.mem_append_left _ (List.mem_append_left _ (List.mem_append_left _ (List.mem_append_left _ (List.mem_append_left _ (List.mem_append_left _ (List.mem_of_getElem? (i := 22) rfl))))))))))⟩ ⟨(hW.pre [.ref (ad (13 + ((I 0 6)).toNatClampNeg)), .ref (ad (7 + (p1).toNatClampNeg)), .int p1, .int p2] hP hK hN).1, hW.recv (C := RX2) (T := TX2) (N := 12) hP hK (heH_Mix (inB_lt h_7)) rfl, (hW.pre [.ref (ad (13 + ((I 0 6)).toNatClampNeg)), .ref (ad (7 + (p1).toNatClampNeg)), .int p1, .int p2] hP hK hN).2⟩ rfl rfl hl.1 rfl (lv_room (Nat.le_of_ble_eq_true rfl)) dX4_mix_41 ⟨Nat.le_of_ble_eq_true rfl, Nat.le_of_ble_eq_true rfl⟩) hS (fun q _ h => hAW q h) (fun q h => hAW q h) (fun u t H1 locs ht hvm hw hB hz1 hk1 hS => ?_)
        have hP : va_P (dC, dI) vwCl (iwH ad cy I_11 D_12) H1 := by rw [← ht]; exact hB.1
        clear hB hz1 hk1 hvm ht
        generalize H1 = H at hP hS ⊢
        refine lv_aload_n hx hb dX4_mix_44 rfl (lv_at hl 0 rfl) ?_
        refine lv_dup hx hb dX4_mix_45 rfl ?_
        refine va_get (D := (dC, dI)) (ci := 5) (v := .int (I_11 0 6)) (C := RX4) (T := TX4) (N := 14) hx hb hts iX4_mix_RX4 hown hK hP 0 heH_0 rfl 6 (by decide) (hts (.fieldLink RX4 41 "OverrunHouse" "mixCount" "I") (List.mem_cons_of_mem _ (List.mem_append_left _ (List.mem_append_left _ (List.mem_append_left _ (List.mem_append_left _ (List.mem_append_left _ (List.mem_append_left _ (List.mem_append_left _ (List.mem_of_getElem? (i := 1) rfl)))))))))) (fun _ h9 => h9) rfl dX4_mix_46 ?_
        refine lv_iconst (v := 1) hx hb dX4_mix_49 (by decide) ?_
        refine lv_iadd hx hb dX4_mix_50 ?_
        obtain ⟨I_13, eI_13, hf⟩ := nm_out hf
        refine va_put (D := (dC, dI)) (ci := 5) (v := .int ((I_11 0 6) + 1)) (ty := .int) (C := RX4) (T := TX4) (N := 14) hx hb hts iX4_mix_RX4 tyX4 tyX4_ok nmX4 hown hK hP (hDD I_11 D_12) hS 0 heH_0 rfl 6 (by decide) (hts (.fieldLink RX4 41 "OverrunHouse" "mixCount" "I") (List.mem_cons_of_mem _ (List.mem_append_left _ (List.mem_append_left _ (List.mem_append_left _ (List.mem_append_left _ (List.mem_append_left _ (List.mem_append_left _ (List.mem_append_left _ (List.mem_of_getElem? (i := 1) rfl)))))))))) (fun _ h9 => h9) rfl (by decide +kernel) rfl rfl (Nat.le_of_ble_eq_true rfl) dX4_mix_51 (fun H locs hP _ hS => ?_)
        have hP : va_P (dC, dI) vwCl (iwH ad cy I_13 D_12) H := by rw [eI_13]; exact hpI (by decide) ((cellH_0 ad cy _ _).trans rfl) hP
        refine lv_aload_n hx hb dX4_mix_54 rfl (lv_at hl 0 rfl) ?_
        refine va_get (D := (dC, dI)) (ci := 5) (v := .int (I_13 0 6)) (C := RX4) (T := TX4) (N := 14) hx hb hts iX4_mix_RX4 hown hK hP 0 heH_0 rfl 6 (by decide) (hts (.fieldLink RX4 41 "OverrunHouse" "mixCount" "I") (List.mem_cons_of_mem _ (List.mem_append_left _ (List.mem_append_left _ (List.mem_append_left _ (List.mem_append_left _ (List.mem_append_left _ (List.mem_append_left _ (List.mem_append_left _ (List.mem_of_getElem? (i := 1) rfl)))))))))) (fun _ h9 => h9) rfl dX4_mix_55 ?_
        refine lv_iconst (v := 1) hx hb dX4_mix_58 (by decide) ?_
        refine lv_isub hx hb dX4_mix_59 ?_
        exact (er_ne hf).elim

set_option maxHeartbeats 4000000 in
set_option maxRecDepth 100000 in
theorem mx_X4_put (l : Launch) (hl0 : l.stackTraces = false) (dC : Nat → ClassId) (dI : Nat → Nat → Nat) (ad : Nat → Nat) (cy : Nat → ClassId) (hJ : J33 ad) (sa : Nat → Nat) (sz : Nat) (I : Nat → Nat → Int32) (D : Nat → Nat → UInt64) (p1 : Int32) (p2 : Int32) (p3 : Int32) (E0 : String) (hf : f_X4_put I D p1 p2 p3 = some (.error E0)) : vx_Met l yX4_put wsX4_put ({ frames := 7, cells := 1, slots := 6, locals := 112 }) (va_Pc [.ref (ad 0), .int p1, .int p2, .int p3] (fun U => U.heap.size = sz ∧ hW dC dI ad cy I D U ∧ xS sa (AW ad sz) U)) (va_Qi (fun _ (_ : Unit) => False) (fun _ _ => True) (AW ad sz)) (vx_X (fun _ : Unit => True) (fun E _ t => E0 = E ∧ va_P (dC, dI) vwCl (iwH ad cy I D) t.heap ∧ va_K (dC, dI) vwCl (tysA cy) t) (AW ad sz)) 1 6 (AW ad sz) := by
  refine vx_ofW (cc := cX4_put) (maxL := 5) (ret := (some .int)) (by decide) rfl ?_
  intro p e s m args below meth c s₁ B hml ht hv
  obtain ⟨rfl, hsz, ⟨hP, hK, hN⟩, hZ⟩ := hv
  have hx := B.exec
  have hb := B.bytes
  have hr := B.returns
  have hts := atoms_spec (ws := wsX4_put) B.pre
  have hown : s.vm.findClass RX4 = some m.cls := findClass_of_methodNamed B.named
  have hlocks := B.notSynchronized
  subst hsz
  generalize hAe : AW ad s.heap.size = A at hZ ⊢
  have hA : ∀ q : Nat, s.heap.size ≤ q → A q := fun q h => by rw [← hAe]; exact Or.inr h
  have hA33 : ∀ k, k < 33 → A (ad k) := fun k h => by rw [← hAe]; exact Or.inl ⟨k, h, rfl⟩
  have hDD : ∀ I D, va_D A (iwH ad cy I D) := fun I D => iwH_D hJ hA33 I D
  obtain ⟨H, hH⟩ : ∃ H : Heap, H = s.heap := ⟨_, rfl⟩
  have hS : va_S A s.heap H [] := by rw [hH]; exact va_S.rf
  rw [← hH]
  rw [← hH] at hP
  have hl := lv_entry ([.ref (ad 0), .int p1, .int p2, .int p3]) (n := 5) (Nat.le_of_ble_eq_true rfl)
  rw [lg_entry_eq]
  generalize (lg_sl ([.ref (ad 0), .int p1, .int p2, .int p3]) ++ List.replicate (5 - (lg_sl ([.ref (ad 0), .int p1, .int p2, .int p3])).length) Slot.unset).toArray = ls at hl ⊢
  have hl : lv_has ls 5 [(0, .ref (ad 0)), (1, .int p1), (2, .int p2), (3, .int p3)] := hl
  unfold f_X4_put at hf
  refine lv_iload_n hx hb dX4_put_0 rfl (lv_at hl 1 rfl) ?_
  refine lv_aload_n hx hb dX4_put_1 rfl (lv_at hl 0 rfl) ?_
  refine va_get (D := (dC, dI)) (ci := 5) (v := .int (I 0 6)) (C := RX4) (T := TX4) (N := 14) hx hb hts iX4_put_RX4 hown hK hP 0 heH_0 rfl 6 (by decide) (hts (.fieldLink RX4 41 "OverrunHouse" "mixCount" "I") (List.mem_cons_of_mem _ (List.mem_append_left _ (List.mem_append_left _ (List.mem_append_left _ (List.mem_append_left _ (List.mem_append_left _ (List.mem_append_left _ (List.mem_append_left _ (List.mem_of_getElem? (i := 2) rfl)))))))))) (fun _ h9 => h9) rfl dX4_put_2 ?_
  rcases bE_err hf with g_2 | ⟨_, g_2, hf⟩
  · skip
    refine vx_callv (vx_runS (As := [.int p1, .int (I 0 6)]) (rest := []) ⟨hx, hb, hml, hown, hts⟩ (mx_X4_checkNumber l hl0 sa H.size p1 (I 0 6) E0 g_2) (va_cwS 2 hts gX4_put_X4_checkNumber rfl rfl rfl (by decide +kernel) ⟨Nat.le_of_ble_eq_true rfl, Nat.le_of_ble_eq_true rfl⟩) (pre0X [.int p1, .int (I 0 6)] (xS_kept (B := fun q => H.size ≤ q) hZ hS (fun q h => hA q (Nat.le_trans hS.1 h)))) rfl rfl hl.1 rfl (lv_room (Nat.le_of_ble_eq_true rfl)) dX4_put_5 ⟨Nat.le_of_ble_eq_true rfl, Nat.le_of_ble_eq_true rfl⟩) hS (fun q _ h => hA q (Nat.le_trans hS.1 h)) (fun q h => hA q (Nat.le_trans hS.1 h)) (fun q _ h => hA q (Nat.le_trans hS.1 h)) (fun E9 ce q9 u t H1 locs1 ht9 hvm hpu hBX hz1 hk1 hS h1 h2 h3 => ?_) (fun u t H1 locs ht9 hvm hw hB hz1 hk1 hS => hw.elim)
    exact vx_out (fun x hx9 => (ht x hx9).elim) hlocks h1 h2 h3 (fun t9 ht8 hvm8 => ⟨(), trivial, ⟨hBX, by rw [ht8]; exact va_Pnew hP hk1, va_K.moved hvm8 hK⟩, hS.F ht8⟩) hS.2.2 (Nat.le_of_ble_eq_true rfl) (Nat.le_of_ble_eq_true rfl)
  · skip
    refine va_callv (va_runS (As := [.int p1, .int (I 0 6)]) (rest := []) ⟨hx, hb, hml, hown, hts⟩ (mt_X4_checkNumber l H.size p1 (I 0 6)  g_2) (va_cwS 2 hts gX4_put_X4_checkNumber rfl rfl rfl (by decide +kernel) ⟨Nat.le_of_ble_eq_true rfl, Nat.le_of_ble_eq_true rfl⟩) (pre0 [.int p1, .int (I 0 6)]) rfl rfl hl.1 rfl (lv_room (Nat.le_of_ble_eq_true rfl)) dX4_put_5 ⟨Nat.le_of_ble_eq_true rfl, Nat.le_of_ble_eq_true rfl⟩) hS (fun q _ h => hA q (Nat.le_trans hS.1 h)) (fun q h => hA q (Nat.le_trans hS.1 h)) (fun u t H1 locs ht hvm hw hB hz1 hk1 hS => ?_)
    have hP := va_Pnew hP hk1
    clear hB hz1 hk1 hvm ht
    generalize H1 = H at hP hS ⊢
    refine lv_iload_n hx hb dX4_put_8 rfl (lv_at hl 2 rfl) ?_
    refine lv_aload_n hx hb dX4_put_9 rfl (lv_at hl 0 rfl) ?_
    refine va_get (D := (dC, dI)) (ci := 5) (v := .int (I 0 5)) (C := RX4) (T := TX4) (N := 14) hx hb hts iX4_put_RX4 hown hK hP 0 heH_0 rfl 5 (by decide) (hts (.fieldLink RX4 37 "OverrunHouse" "ingredientCount" "I") (List.mem_cons_of_mem _ (List.mem_append_left _ (List.mem_append_left _ (List.mem_append_left _ (List.mem_append_left _ (List.mem_append_left _ (List.mem_append_left _ (List.mem_append_left _ (List.mem_of_getElem? (i := 3) rfl)))))))))) (fun _ h9 => h9) rfl dX4_put_10 ?_
    rcases bE_err hf with g_4 | ⟨_, g_4, hf⟩
    · skip
      refine vx_callv (vx_runS (As := [.int p2, .int (I 0 5)]) (rest := []) ⟨hx, hb, hml, hown, hts⟩ (mx_X4_checkNumber l hl0 sa H.size p2 (I 0 5) E0 g_4) (va_cwS 2 hts gX4_put_X4_checkNumber rfl rfl rfl (by decide +kernel) ⟨Nat.le_of_ble_eq_true rfl, Nat.le_of_ble_eq_true rfl⟩) (pre0X [.int p2, .int (I 0 5)] (xS_kept (B := fun q => H.size ≤ q) hZ hS (fun q h => hA q (Nat.le_trans hS.1 h)))) rfl rfl hl.1 rfl (lv_room (Nat.le_of_ble_eq_true rfl)) dX4_put_13 ⟨Nat.le_of_ble_eq_true rfl, Nat.le_of_ble_eq_true rfl⟩) hS (fun q _ h => hA q (Nat.le_trans hS.1 h)) (fun q h => hA q (Nat.le_trans hS.1 h)) (fun q _ h => hA q (Nat.le_trans hS.1 h)) (fun E9 ce q9 u t H1 locs1 ht9 hvm hpu hBX hz1 hk1 hS h1 h2 h3 => ?_) (fun u t H1 locs ht9 hvm hw hB hz1 hk1 hS => hw.elim)
      exact vx_out (fun x hx9 => (ht x hx9).elim) hlocks h1 h2 h3 (fun t9 ht8 hvm8 => ⟨(), trivial, ⟨hBX, by rw [ht8]; exact va_Pnew hP hk1, va_K.moved hvm8 hK⟩, hS.F ht8⟩) hS.2.2 (Nat.le_of_ble_eq_true rfl) (Nat.le_of_ble_eq_true rfl)
    · skip
      refine va_callv (va_runS (As := [.int p2, .int (I 0 5)]) (rest := []) ⟨hx, hb, hml, hown, hts⟩ (mt_X4_checkNumber l H.size p2 (I 0 5)  g_4) (va_cwS 2 hts gX4_put_X4_checkNumber rfl rfl rfl (by decide +kernel) ⟨Nat.le_of_ble_eq_true rfl, Nat.le_of_ble_eq_true rfl⟩) (pre0 [.int p2, .int (I 0 5)]) rfl rfl hl.1 rfl (lv_room (Nat.le_of_ble_eq_true rfl)) dX4_put_13 ⟨Nat.le_of_ble_eq_true rfl, Nat.le_of_ble_eq_true rfl⟩) hS (fun q _ h => hA q (Nat.le_trans hS.1 h)) (fun q h => hA q (Nat.le_trans hS.1 h)) (fun u t H1 locs ht hvm hw hB hz1 hk1 hS => ?_)
      have hP := va_Pnew hP hk1
      clear hB hz1 hk1 hvm ht
      generalize H1 = H at hP hS ⊢
      refine lv_iload_n hx hb dX4_put_16 rfl (lv_at hl 3 rfl) ?_
      refine lv_iconst (v := 1) hx hb dX4_put_17 (by decide) ?_
      refine lv_sipush (v := 500) hx hb dX4_put_18 (by decide) ?_
      rcases bE_err hf with g_6 | ⟨_, g_6, hf⟩
      · skip
        refine vx_callv (vx_runS (As := [.int p3, .int 1, .int 500]) (rest := []) ⟨hx, hb, hml, hown, hts⟩ (mx_X4_checkRange l hl0 sa H.size p3 1 500 E0 g_6) (va_cwS 3 hts gX4_put_X4_checkRange rfl rfl rfl (by decide +kernel) ⟨Nat.le_of_ble_eq_true rfl, Nat.le_of_ble_eq_true rfl⟩) (pre0X [.int p3, .int 1, .int 500] (xS_kept (B := fun q => H.size ≤ q) hZ hS (fun q h => hA q (Nat.le_trans hS.1 h)))) rfl rfl hl.1 rfl (lv_room (Nat.le_of_ble_eq_true rfl)) dX4_put_21 ⟨Nat.le_of_ble_eq_true rfl, Nat.le_of_ble_eq_true rfl⟩) hS (fun q _ h => hA q (Nat.le_trans hS.1 h)) (fun q h => hA q (Nat.le_trans hS.1 h)) (fun q _ h => hA q (Nat.le_trans hS.1 h)) (fun E9 ce q9 u t H1 locs1 ht9 hvm hpu hBX hz1 hk1 hS h1 h2 h3 => ?_) (fun u t H1 locs ht9 hvm hw hB hz1 hk1 hS => hw.elim)
        exact vx_out (fun x hx9 => (ht x hx9).elim) hlocks h1 h2 h3 (fun t9 ht8 hvm8 => ⟨(), trivial, ⟨hBX, by rw [ht8]; exact va_Pnew hP hk1, va_K.moved hvm8 hK⟩, hS.F ht8⟩) hS.2.2 (Nat.le_of_ble_eq_true rfl) (Nat.le_of_ble_eq_true rfl)
      · skip
        refine va_callv (va_runS (As := [.int p3, .int 1, .int 500]) (rest := []) ⟨hx, hb, hml, hown, hts⟩ (mt_X4_checkRange l H.size p3 1 500  g_6) (va_cwS 3 hts gX4_put_X4_checkRange rfl rfl rfl (by decide +kernel) ⟨Nat.le_of_ble_eq_true rfl, Nat.le_of_ble_eq_true rfl⟩) (pre0 [.int p3, .int 1, .int 500]) rfl rfl hl.1 rfl (lv_room (Nat.le_of_ble_eq_true rfl)) dX4_put_21 ⟨Nat.le_of_ble_eq_true rfl, Nat.le_of_ble_eq_true rfl⟩) hS (fun q _ h => hA q (Nat.le_trans hS.1 h)) (fun q h => hA q (Nat.le_trans hS.1 h)) (fun u t H1 locs ht hvm hw hB hz1 hk1 hS => ?_)
        have hP := va_Pnew hP hk1
        clear hB hz1 hk1 hvm ht
        generalize H1 = H at hP hS ⊢
        refine lv_aload_n hx hb dX4_put_24 rfl (lv_at hl 0 rfl) ?_
        refine va_get (D := (dC, dI)) (ci := 5) (v := .ref (ad 2)) (C := RX4) (T := TX4) (N := 14) hx hb hts iX4_put_RX4 hown hK hP 0 heH_0 rfl 1 (by decide) (hts (.fieldLink RX4 17 "OverrunHouse" "mixes" "[LOverrunHouse$Mix;") (List.mem_cons_of_mem _ (List.mem_append_left _ (List.mem_append_left _ (List.mem_append_left _ (List.mem_append_left _ (List.mem_append_left _ (List.mem_append_left _ (List.mem_append_left _ (List.mem_of_getElem? (i := 4) rfl)))))))))) (fun _ h9 => h9) rfl dX4_put_25 ?_
        refine lv_iload_n hx hb dX4_put_28 rfl (lv_at hl 1 rfl) ?_
        obtain ⟨h_7, hf⟩ := ck_out hf
        refine wr_aald (b := 13) (n := 5) hx hb hK hP 2 2 heH_2 rfl (inB_in h_7) dX4_put_29 ?_
        refine lv_astore (lv' := [(4, .ref (ad (13 + (p1).toNatClampNeg))), (0, .ref (ad 0)), (1, .int p1), (2, .int p2), (3, .int p3)]) hx hb dX4_put_30 hl (by decide) rfl (fun ls hl => ?_)
        refine lv_aload hx hb dX4_put_32 (lv_at hl 0 rfl) ?_
        refine va_getN (D := (dC, dI)) (ci := 3) (v := .int (I (13 + (p1).toNatClampNeg) 0)) (C := RX2) (T := TX2) (N := 12) hx hb hts iX4_put_RX2 hown hK hP (13 + (p1).toNatClampNeg) (heH_Mix (inB_lt h_7)) rfl 0 (by decide) (va_Nw.use (w := .fieldLinkNest "OverrunHouse" 99 "OverrunHouse$Mix" "kilos" "I" "OverrunHouse") rfl (hN _ (List.mem_of_getElem? (i := 10) rfl))) (fun _ h9 => h9) rfl dX4_put_34 ?_
        refine lv_iload_n hx hb dX4_put_37 rfl (lv_at hl 4 rfl) ?_
        refine lv_iadd hx hb dX4_put_38 ?_
        refine lv_sipush (v := 500) hx hb dX4_put_39 (by decide) ?_
        refine lv_icmp_gt (tgt := 53) hx hb dX4_put_42 (by decide) (fun c_8 => ?_) (fun c_8 => ?_)
        · have hf := it_t hf c_8
          have hE := (er_in hf).symm
          exact vx_throwS (names := xnames) (A := A) hx hb hl0 hown xfit1 xfit (hts (.classLink RX4 105 "java/lang/IllegalStateException") (List.mem_cons_of_mem _ (List.mem_append_left _ (List.mem_append_left _ (List.mem_append_left _ (List.mem_append_left _ (List.mem_append_left _ (List.mem_append_left _ (List.mem_append_left _ (List.mem_of_getElem? (i := 0) rfl)))))))))) (hts (.initialized "java/lang/IllegalStateException") (List.mem_cons_of_mem _ (List.mem_append_left _ (List.mem_append_left _ (List.mem_append_left _ (List.mem_append_left _ (List.mem_append_left _ (List.mem_append_left _ (List.mem_append_left _ (List.mem_of_getElem? (i := 1) rfl)))))))))) (hZ.1 0 _ rfl) (bad_at1 hZ (fun w h => hts w (List.mem_cons_of_mem _ (List.mem_append_left _ (List.mem_append_left _ (List.mem_append_right _ (h))))))) (xgood_c rfl rfl xgood1) hZ.2.2.1 hZ.2.2.2 hS (by rw [hml]; exact hl.1) dX4_put_53 dX4_put_56 dX4_put_57 dX4_put_59 dX4_put_62 (fun x hx9 => (ht x hx9).elim) (Nat.le_of_ble_eq_true rfl) (Nat.le_of_ble_eq_true rfl) (Nat.le_of_ble_eq_true rfl) (Nat.le_of_ble_eq_true rfl) hlocks (fun t hvm hz hk => ⟨(), trivial, ⟨hE, hP.kept (fun k q hq => hk q.1 (hP k q hq).lt), va_K.moved hvm hK⟩, Nat.le_trans hS.1 hz, fun q h1 h2 => (hk q (Nat.lt_of_lt_of_le h1 hS.1)).trans (hS.2.1 q h1 h2)⟩) hS.2.2 (Nat.le_of_ble_eq_true rfl) (Nat.le_of_ble_eq_true rfl)
        · have hf := it_f hf c_8
          refine lv_aload hx hb dX4_put_45 (lv_at hl 0 rfl) ?_
          refine va_getN (D := (dC, dI)) (ci := 3) (v := .int (I (13 + (p1).toNatClampNeg) 9)) (C := RX2) (T := TX2) (N := 12) hx hb hts iX4_put_RX2 hown hK hP (13 + (p1).toNatClampNeg) (heH_Mix (inB_lt h_7)) rfl 9 (by decide) (va_Nw.use (w := .fieldLinkNest "OverrunHouse" 102 "OverrunHouse$Mix" "batchesOfIt" "I" "OverrunHouse") rfl (hN _ (List.mem_of_getElem? (i := 19) rfl))) (fun _ h9 => h9) rfl dX4_put_47 ?_
          refine lv_if_le (tgt := 63) hx hb dX4_put_50 (by decide) (fun c_9 => ?_) (fun c_9 => ?_)
          · have hf := it_t hf c_9
            refine lv_aload hx hb dX4_put_63 (lv_at hl 0 rfl) ?_
            refine lv_aload_n hx hb dX4_put_65 rfl (lv_at hl 1 rfl) ?_
            refine va_get (D := (dC, dI)) (ci := 5) (v := .ref (ad 1)) (C := RX4) (T := TX4) (N := 14) hx hb hts iX4_put_RX4 hown hK hP 0 heH_0 rfl 0 (by decide) (hts (.fieldLink RX4 11 "OverrunHouse" "ingredients" "[LOverrunHouse$Ingredient;") (List.mem_cons_of_mem _ (List.mem_append_left _ (List.mem_append_left _ (List.mem_append_left _ (List.mem_append_left _ (List.mem_append_left _ (List.mem_append_left _ (List.mem_append_left _ (List.mem_of_getElem? (i := 5) rfl)))))))))) (fun _ h9 => h9) rfl dX4_put_66 ?_
            refine lv_iload_n hx hb dX4_put_69 rfl (lv_at hl 3 rfl) ?_
            obtain ⟨h_10, hf⟩ := ck_out hf
            refine wr_aald (b := 7) (n := 6) hx hb hK hP 1 1 heH_1 rfl (inB_in h_10) dX4_put_70 ?_
            refine lv_iload_n hx hb dX4_put_71 rfl (lv_at hl 3 rfl) ?_
            refine lv_iload_n hx hb dX4_put_72 rfl (lv_at hl 4 rfl) ?_
            obtain ⟨⟨I_13, D_14⟩, g_12, hf⟩ := bd_out hf
            have hAW : ∀ q, AW ad H.size q → A q := fun q h => h.elim (fun ⟨k, k1, k2⟩ => k2 ▸ hA33 k k1) (fun h => hA q (Nat.le_trans hS.1 h))
            refine va_callv (va_runVN (As := [.ref (ad (7 + (p2).toNatClampNeg)), .int p2, .int p3]) (rest := []) ⟨hx, hb, hml, hown, hts⟩ (mt_X2_add l dC dI ad cy hJ H.size I D (p1).toNatClampNeg (inB_lt h_7) (p2).toNatClampNeg (inB_lt h_10) p2 p3 I_13 D_14 g_12) ⟨va_cnB 3 hts gX4_put_X2_add_n95 rfl rfl rfl (hN (.methodLinkNest "OverrunHouse" 95 ⟨"OverrunHouse$Mix", "add", "(LOverrunHouse$Ingredient;II)V"⟩ "OverrunHouse") (List.mem_of_getElem? (i := 40) rfl)) (hts (.initialized RX2) (List.mem_cons_of_mem _ (List.mem_append_left _ (List.mem_append_left _ (List.mem_append_left _ (List.mem_append_left _ (List.mem_append_left _ (List.mem_append_left _ (List.mem_append_left _ (List.mem_of_getElem? (i := 18) rfl)))))))))) (by decide +kernel) ⟨Nat.le_of_ble_eq_true rfl, Nat.le_of_ble_eq_true rfl⟩, (hts (.instanceMethod yX2_add) (List.mem_cons_of_mem _ (List.mem_append_left _ (List.mem_append_left _ (List.mem_append_left _ (List.mem_append_left _ (List.mem_append_left _ (List.mem_append_left _ (List.mem_append_left _ (List.mem_of_getElem? (i := 17) rfl)))))))))), (hts (.selects RX2 yX2_add yX2_add) (List.mem_cons_of_mem _ (List.mem_append_left _ (List.mem_append_left _ (List.mem_append_left _ (List.mem_append_left _ (List.mem_append_left _ (List.mem_append_left _ (List.mem_append_left _ (List.mem_of_getElem? (i := 19) rfl))))))))))⟩ ⟨(hW.pre [.ref (ad (13 + (p1).toNatClampNeg)), .ref (ad (7 + (p2).toNatClampNeg)), .int p2, .int p3] hP hK hN).1, hW.recv (C := RX2) (T := TX2) (N := 12) hP hK (heH_Mix (inB_lt h_7)) rfl, (hW.pre [.ref (ad (13 + (p1).toNatClampNeg)), .ref (ad (7 + (p2).toNatClampNeg)), .int p2, .int p3] hP hK hN).2⟩ rfl rfl hl.1 rfl (lv_room (Nat.le_of_ble_eq_true rfl)) dX4_put_73 ⟨Nat.le_of_ble_eq_true rfl, Nat.le_of_ble_eq_true rfl⟩) hS (fun q _ h => hAW q h) (fun q h => hAW q h) (fun u t H1 locs ht hvm hw hB hz1 hk1 hS => ?_)
            have hP : va_P (dC, dI) vwCl (iwH ad cy I_13 D_14) H1 := by rw [← ht]; exact hB.1
            clear hB hz1 hk1 hvm ht
            generalize H1 = H at hP hS ⊢
            refine lv_aload hx hb dX4_put_76 (lv_at hl 0 rfl) ?_
            refine va_getN (D := (dC, dI)) (ci := 3) (v := .int (I_13 (13 + (p1).toNatClampNeg) 0)) (C := RX2) (T := TX2) (N := 12) hx hb hts iX4_put_RX2 hown hK hP (13 + (p1).toNatClampNeg) (heH_Mix (inB_lt h_7)) rfl 0 (by decide) (va_Nw.use (w := .fieldLinkNest "OverrunHouse" 99 "OverrunHouse$Mix" "kilos" "I" "OverrunHouse") rfl (hN _ (List.mem_of_getElem? (i := 10) rfl))) (fun _ h9 => h9) rfl dX4_put_78 ?_
            exact (er_ne hf).elim
          · have hf := it_f hf c_9
            have hE := (er_in hf).symm
            exact vx_throwS (names := xnames) (A := A) hx hb hl0 hown xfit1 xfit (hts (.classLink RX4 105 "java/lang/IllegalStateException") (List.mem_cons_of_mem _ (List.mem_append_left _ (List.mem_append_left _ (List.mem_append_left _ (List.mem_append_left _ (List.mem_append_left _ (List.mem_append_left _ (List.mem_append_left _ (List.mem_of_getElem? (i := 0) rfl)))))))))) (hts (.initialized "java/lang/IllegalStateException") (List.mem_cons_of_mem _ (List.mem_append_left _ (List.mem_append_left _ (List.mem_append_left _ (List.mem_append_left _ (List.mem_append_left _ (List.mem_append_left _ (List.mem_append_left _ (List.mem_of_getElem? (i := 1) rfl)))))))))) (hZ.1 0 _ rfl) (bad_at1 hZ (fun w h => hts w (List.mem_cons_of_mem _ (List.mem_append_left _ (List.mem_append_left _ (List.mem_append_right _ (h))))))) (xgood_c rfl rfl xgood1) hZ.2.2.1 hZ.2.2.2 hS (by rw [hml]; exact hl.1) dX4_put_53 dX4_put_56 dX4_put_57 dX4_put_59 dX4_put_62 (fun x hx9 => (ht x hx9).elim) (Nat.le_of_ble_eq_true rfl) (Nat.le_of_ble_eq_true rfl) (Nat.le_of_ble_eq_true rfl) (Nat.le_of_ble_eq_true rfl) hlocks (fun t hvm hz hk => ⟨(), trivial, ⟨hE, hP.kept (fun k q hq => hk q.1 (hP k q hq).lt), va_K.moved hvm hK⟩, Nat.le_trans hS.1 hz, fun q h1 h2 => (hk q (Nat.lt_of_lt_of_le h1 hS.1)).trans (hS.2.1 q h1 h2)⟩) hS.2.2 (Nat.le_of_ble_eq_true rfl) (Nat.le_of_ble_eq_true rfl)

set_option maxHeartbeats 4000000 in
set_option maxRecDepth 100000 in
theorem mx_X4_heat (l : Launch) (hl0 : l.stackTraces = false) (dC : Nat → ClassId) (dI : Nat → Nat → Nat) (ad : Nat → Nat) (cy : Nat → ClassId) (hJ : J33 ad) (sa : Nat → Nat) (sz : Nat) (I : Nat → Nat → Int32) (D : Nat → Nat → UInt64) (p1 : Int32) (p2 : Int32) (p3 : Int32) (E0 : String) (hf : f_X4_heat I D p1 p2 p3 = some (.error E0)) : vx_Met l yX4_heat wsX4_heat ({ frames := 7, cells := 1, slots := 6, locals := 112 }) (va_Pc [.ref (ad 0), .int p1, .int p2, .int p3] (fun U => U.heap.size = sz ∧ hW dC dI ad cy I D U ∧ xS sa (AW ad sz) U)) (va_Qi (fun _ (_ : Unit) => False) (fun _ _ => True) (AW ad sz)) (vx_X (fun _ : Unit => True) (fun E _ t => E0 = E ∧ va_P (dC, dI) vwCl (iwH ad cy I D) t.heap ∧ va_K (dC, dI) vwCl (tysA cy) t) (AW ad sz)) 1 6 (AW ad sz) := by
  refine vx_ofW (cc := cX4_heat) (maxL := 5) (ret := (some .boolean)) (by decide) rfl ?_
  intro p e s m args below meth c s₁ B hml ht hv
  obtain ⟨rfl, hsz, ⟨hP, hK, hN⟩, hZ⟩ := hv
  have hx := B.exec
  have hb := B.bytes
  have hr := B.returns
  have hts := atoms_spec (ws := wsX4_heat) B.pre
  have hown : s.vm.findClass RX4 = some m.cls := findClass_of_methodNamed B.named
  have hlocks := B.notSynchronized
  subst hsz
  generalize hAe : AW ad s.heap.size = A at hZ ⊢
  have hA : ∀ q : Nat, s.heap.size ≤ q → A q := fun q h => by rw [← hAe]; exact Or.inr h
  have hA33 : ∀ k, k < 33 → A (ad k) := fun k h => by rw [← hAe]; exact Or.inl ⟨k, h, rfl⟩
  have hDD : ∀ I D, va_D A (iwH ad cy I D) := fun I D => iwH_D hJ hA33 I D
  obtain ⟨H, hH⟩ : ∃ H : Heap, H = s.heap := ⟨_, rfl⟩
  have hS : va_S A s.heap H [] := by rw [hH]; exact va_S.rf
  rw [← hH]
  rw [← hH] at hP
  have hl := lv_entry ([.ref (ad 0), .int p1, .int p2, .int p3]) (n := 5) (Nat.le_of_ble_eq_true rfl)
  rw [lg_entry_eq]
  generalize (lg_sl ([.ref (ad 0), .int p1, .int p2, .int p3]) ++ List.replicate (5 - (lg_sl ([.ref (ad 0), .int p1, .int p2, .int p3])).length) Slot.unset).toArray = ls at hl ⊢
  have hl : lv_has ls 5 [(0, .ref (ad 0)), (1, .int p1), (2, .int p2), (3, .int p3)] := hl
  unfold f_X4_heat at hf
  refine lv_iload_n hx hb dX4_heat_0 rfl (lv_at hl 1 rfl) ?_
  refine lv_aload_n hx hb dX4_heat_1 rfl (lv_at hl 0 rfl) ?_
  refine va_get (D := (dC, dI)) (ci := 5) (v := .int (I 0 6)) (C := RX4) (T := TX4) (N := 14) hx hb hts iX4_heat_RX4 hown hK hP 0 heH_0 rfl 6 (by decide) (hts (.fieldLink RX4 41 "OverrunHouse" "mixCount" "I") (List.mem_cons_of_mem _ (List.mem_append_left _ (List.mem_append_left _ (List.mem_append_left _ (List.mem_append_left _ (List.mem_of_getElem? (i := 0) rfl))))))) (fun _ h9 => h9) rfl dX4_heat_2 ?_
  rcases bE_err hf with g_2 | ⟨_, g_2, hf⟩
  · skip
    refine vx_callv (vx_runS (As := [.int p1, .int (I 0 6)]) (rest := []) ⟨hx, hb, hml, hown, hts⟩ (mx_X4_checkNumber l hl0 sa H.size p1 (I 0 6) E0 g_2) (va_cwS 2 hts gX4_heat_X4_checkNumber rfl rfl rfl (by decide +kernel) ⟨Nat.le_of_ble_eq_true rfl, Nat.le_of_ble_eq_true rfl⟩) (pre0X [.int p1, .int (I 0 6)] (xS_kept (B := fun q => H.size ≤ q) hZ hS (fun q h => hA q (Nat.le_trans hS.1 h)))) rfl rfl hl.1 rfl (lv_room (Nat.le_of_ble_eq_true rfl)) dX4_heat_5 ⟨Nat.le_of_ble_eq_true rfl, Nat.le_of_ble_eq_true rfl⟩) hS (fun q _ h => hA q (Nat.le_trans hS.1 h)) (fun q h => hA q (Nat.le_trans hS.1 h)) (fun q _ h => hA q (Nat.le_trans hS.1 h)) (fun E9 ce q9 u t H1 locs1 ht9 hvm hpu hBX hz1 hk1 hS h1 h2 h3 => ?_) (fun u t H1 locs ht9 hvm hw hB hz1 hk1 hS => hw.elim)
    exact vx_out (fun x hx9 => (ht x hx9).elim) hlocks h1 h2 h3 (fun t9 ht8 hvm8 => ⟨(), trivial, ⟨hBX, by rw [ht8]; exact va_Pnew hP hk1, va_K.moved hvm8 hK⟩, hS.F ht8⟩) hS.2.2 (Nat.le_of_ble_eq_true rfl) (Nat.le_of_ble_eq_true rfl)
  · skip
    refine va_callv (va_runS (As := [.int p1, .int (I 0 6)]) (rest := []) ⟨hx, hb, hml, hown, hts⟩ (mt_X4_checkNumber l H.size p1 (I 0 6)  g_2) (va_cwS 2 hts gX4_heat_X4_checkNumber rfl rfl rfl (by decide +kernel) ⟨Nat.le_of_ble_eq_true rfl, Nat.le_of_ble_eq_true rfl⟩) (pre0 [.int p1, .int (I 0 6)]) rfl rfl hl.1 rfl (lv_room (Nat.le_of_ble_eq_true rfl)) dX4_heat_5 ⟨Nat.le_of_ble_eq_true rfl, Nat.le_of_ble_eq_true rfl⟩) hS (fun q _ h => hA q (Nat.le_trans hS.1 h)) (fun q h => hA q (Nat.le_trans hS.1 h)) (fun u t H1 locs ht hvm hw hB hz1 hk1 hS => ?_)
    have hP := va_Pnew hP hk1
    clear hB hz1 hk1 hvm ht
    generalize H1 = H at hP hS ⊢
    refine lv_iload_n hx hb dX4_heat_8 rfl (lv_at hl 2 rfl) ?_
    refine lv_bipush (v := 20) hx hb dX4_heat_9 (by decide) ?_
    refine lv_bipush (v := 120) hx hb dX4_heat_11 (by decide) ?_
    rcases bE_err hf with g_4 | ⟨_, g_4, hf⟩
    · skip
      refine vx_callv (vx_runS (As := [.int p2, .int 20, .int 120]) (rest := []) ⟨hx, hb, hml, hown, hts⟩ (mx_X4_checkRange l hl0 sa H.size p2 20 120 E0 g_4) (va_cwS 3 hts gX4_heat_X4_checkRange rfl rfl rfl (by decide +kernel) ⟨Nat.le_of_ble_eq_true rfl, Nat.le_of_ble_eq_true rfl⟩) (pre0X [.int p2, .int 20, .int 120] (xS_kept (B := fun q => H.size ≤ q) hZ hS (fun q h => hA q (Nat.le_trans hS.1 h)))) rfl rfl hl.1 rfl (lv_room (Nat.le_of_ble_eq_true rfl)) dX4_heat_13 ⟨Nat.le_of_ble_eq_true rfl, Nat.le_of_ble_eq_true rfl⟩) hS (fun q _ h => hA q (Nat.le_trans hS.1 h)) (fun q h => hA q (Nat.le_trans hS.1 h)) (fun q _ h => hA q (Nat.le_trans hS.1 h)) (fun E9 ce q9 u t H1 locs1 ht9 hvm hpu hBX hz1 hk1 hS h1 h2 h3 => ?_) (fun u t H1 locs ht9 hvm hw hB hz1 hk1 hS => hw.elim)
      exact vx_out (fun x hx9 => (ht x hx9).elim) hlocks h1 h2 h3 (fun t9 ht8 hvm8 => ⟨(), trivial, ⟨hBX, by rw [ht8]; exact va_Pnew hP hk1, va_K.moved hvm8 hK⟩, hS.F ht8⟩) hS.2.2 (Nat.le_of_ble_eq_true rfl) (Nat.le_of_ble_eq_true rfl)
    · skip
      refine va_callv (va_runS (As := [.int p2, .int 20, .int 120]) (rest := []) ⟨hx, hb, hml, hown, hts⟩ (mt_X4_checkRange l H.size p2 20 120  g_4) (va_cwS 3 hts gX4_heat_X4_checkRange rfl rfl rfl (by decide +kernel) ⟨Nat.le_of_ble_eq_true rfl, Nat.le_of_ble_eq_true rfl⟩) (pre0 [.int p2, .int 20, .int 120]) rfl rfl hl.1 rfl (lv_room (Nat.le_of_ble_eq_true rfl)) dX4_heat_13 ⟨Nat.le_of_ble_eq_true rfl, Nat.le_of_ble_eq_true rfl⟩) hS (fun q _ h => hA q (Nat.le_trans hS.1 h)) (fun q h => hA q (Nat.le_trans hS.1 h)) (fun u t H1 locs ht hvm hw hB hz1 hk1 hS => ?_)
      have hP := va_Pnew hP hk1
      clear hB hz1 hk1 hvm ht
      generalize H1 = H at hP hS ⊢
      refine lv_iload_n hx hb dX4_heat_16 rfl (lv_at hl 3 rfl) ?_
      refine lv_iconst (v := 1) hx hb dX4_heat_17 (by decide) ?_
      refine lv_sipush (v := 9999) hx hb dX4_heat_18 (by decide) ?_
      rcases bE_err hf with g_6 | ⟨_, g_6, hf⟩
      · skip
        refine vx_callv (vx_runS (As := [.int p3, .int 1, .int 9999]) (rest := []) ⟨hx, hb, hml, hown, hts⟩ (mx_X4_checkRange l hl0 sa H.size p3 1 9999 E0 g_6) (va_cwS 3 hts gX4_heat_X4_checkRange rfl rfl rfl (by decide +kernel) ⟨Nat.le_of_ble_eq_true rfl, Nat.le_of_ble_eq_true rfl⟩) (pre0X [.int p3, .int 1, .int 9999] (xS_kept (B := fun q => H.size ≤ q) hZ hS (fun q h => hA q (Nat.le_trans hS.1 h)))) rfl rfl hl.1 rfl (lv_room (Nat.le_of_ble_eq_true rfl)) dX4_heat_21 ⟨Nat.le_of_ble_eq_true rfl, Nat.le_of_ble_eq_true rfl⟩) hS (fun q _ h => hA q (Nat.le_trans hS.1 h)) (fun q h => hA q (Nat.le_trans hS.1 h)) (fun q _ h => hA q (Nat.le_trans hS.1 h)) (fun E9 ce q9 u t H1 locs1 ht9 hvm hpu hBX hz1 hk1 hS h1 h2 h3 => ?_) (fun u t H1 locs ht9 hvm hw hB hz1 hk1 hS => hw.elim)
        exact vx_out (fun x hx9 => (ht x hx9).elim) hlocks h1 h2 h3 (fun t9 ht8 hvm8 => ⟨(), trivial, ⟨hBX, by rw [ht8]; exact va_Pnew hP hk1, va_K.moved hvm8 hK⟩, hS.F ht8⟩) hS.2.2 (Nat.le_of_ble_eq_true rfl) (Nat.le_of_ble_eq_true rfl)
      · skip
        refine va_callv (va_runS (As := [.int p3, .int 1, .int 9999]) (rest := []) ⟨hx, hb, hml, hown, hts⟩ (mt_X4_checkRange l H.size p3 1 9999  g_6) (va_cwS 3 hts gX4_heat_X4_checkRange rfl rfl rfl (by decide +kernel) ⟨Nat.le_of_ble_eq_true rfl, Nat.le_of_ble_eq_true rfl⟩) (pre0 [.int p3, .int 1, .int 9999]) rfl rfl hl.1 rfl (lv_room (Nat.le_of_ble_eq_true rfl)) dX4_heat_21 ⟨Nat.le_of_ble_eq_true rfl, Nat.le_of_ble_eq_true rfl⟩) hS (fun q _ h => hA q (Nat.le_trans hS.1 h)) (fun q h => hA q (Nat.le_trans hS.1 h)) (fun u t H1 locs ht hvm hw hB hz1 hk1 hS => ?_)
        have hP := va_Pnew hP hk1
        clear hB hz1 hk1 hvm ht
        generalize H1 = H at hP hS ⊢
        refine lv_aload_n hx hb dX4_heat_24 rfl (lv_at hl 0 rfl) ?_
        refine va_get (D := (dC, dI)) (ci := 5) (v := .ref (ad 2)) (C := RX4) (T := TX4) (N := 14) hx hb hts iX4_heat_RX4 hown hK hP 0 heH_0 rfl 1 (by decide) (hts (.fieldLink RX4 17 "OverrunHouse" "mixes" "[LOverrunHouse$Mix;") (List.mem_cons_of_mem _ (List.mem_append_left _ (List.mem_append_left _ (List.mem_append_left _ (List.mem_append_left _ (List.mem_of_getElem? (i := 1) rfl))))))) (fun _ h9 => h9) rfl dX4_heat_25 ?_
        refine lv_iload_n hx hb dX4_heat_28 rfl (lv_at hl 1 rfl) ?_
        obtain ⟨h_7, hf⟩ := ck_out hf
        refine wr_aald (b := 13) (n := 5) hx hb hK hP 2 2 heH_2 rfl (inB_in h_7) dX4_heat_29 ?_
        refine lv_astore (lv' := [(4, .ref (ad (13 + (p1).toNatClampNeg))), (0, .ref (ad 0)), (1, .int p1), (2, .int p2), (3, .int p3)]) hx hb dX4_heat_30 hl (by decide) rfl (fun ls hl => ?_)
        refine lv_aload hx hb dX4_heat_32 (lv_at hl 0 rfl) ?_
        refine lv_aload hx hb dX4_heat_34 (lv_at hl 0 rfl) ?_
        refine va_getN (D := (dC, dI)) (ci := 3) (v := .int (I (13 + (p1).toNatClampNeg) 10)) (C := RX2) (T := TX2) (N := 12) hx hb hts iX4_heat_RX2 hown hK hP (13 + (p1).toNatClampNeg) (heH_Mix (inB_lt h_7)) rfl 10 (by decide) (va_Nw.use (w := .fieldLinkNest "OverrunHouse" 112 "OverrunHouse$Mix" "isProved" "Z" "OverrunHouse") rfl (hN _ (List.mem_of_getElem? (i := 20) rfl))) (fun _ h9 => h9) rfl dX4_heat_36 ?_
        refine lv_if_ne (tgt := 50) hx hb dX4_heat_39 (by decide) (fun c_8 => ?_) (fun c_8 => ?_)
        · have hf := it_f hf c_8
          refine lv_iconst (v := 1) hx hb dX4_heat_50 (by decide) ?_
          refine lv_goto (tgt := 55) hx hb dX4_heat_51 (by decide) ?_
          obtain ⟨I_9, eI_9, hf⟩ := nm_out hf
          refine va_putN (D := (dC, dI)) (ci := 3) (v := .int 1) (ty := .boolean) (C := RX2) (T := TX2) (N := 12) hx hb hts iX4_heat_RX2 tyX2 tyX2_ok nmX2 hown hK hP (hDD I D) hS (13 + (p1).toNatClampNeg) (heH_Mix (inB_lt h_7)) rfl 10 (by decide) (va_Nw.use (w := .fieldLinkNest "OverrunHouse" 112 "OverrunHouse$Mix" "isProved" "Z" "OverrunHouse") rfl (hN _ (List.mem_of_getElem? (i := 20) rfl))) (fun _ h9 => h9) rfl (by decide +kernel) rfl rfl (Nat.le_of_ble_eq_true rfl) dX4_heat_55 (fun H locs hP _ hS => ?_)
          have hP : va_P (dC, dI) vwCl (iwH ad cy I_9 D) H := by rw [eI_9]; exact hpI (by have := (inB_lt h_7); omega) ((cellH_Mix ad cy (inB_lt h_7) _ _).trans rfl) hP
          refine lv_aload hx hb dX4_heat_58 (lv_at hl 0 rfl) ?_
          refine lv_iconst (v := 0) hx hb dX4_heat_60 (by decide) ?_
          obtain ⟨I_10, eI_10, hf⟩ := nm_out hf
          refine va_putN (D := (dC, dI)) (ci := 3) (v := .int 0) (ty := .int) (C := RX2) (T := TX2) (N := 12) hx hb hts iX4_heat_RX2 tyX2 tyX2_ok nmX2 hown hK hP (hDD I_9 D) hS (13 + (p1).toNatClampNeg) (heH_Mix (inB_lt h_7)) rfl 8 (by decide) (va_Nw.use (w := .fieldLinkNest "OverrunHouse" 120 "OverrunHouse$Mix" "age" "I" "OverrunHouse") rfl (hN _ (List.mem_of_getElem? (i := 18) rfl))) (fun _ h9 => h9) rfl (by decide +kernel) rfl rfl (Nat.le_of_ble_eq_true rfl) dX4_heat_61 (fun H locs hP _ hS => ?_)
          have hP : va_P (dC, dI) vwCl (iwH ad cy I_10 D) H := by rw [eI_10]; exact hpI (by have := (inB_lt h_7); omega) ((cellH_Mix ad cy (inB_lt h_7) _ _).trans rfl) hP
          refine lv_aload hx hb dX4_heat_64 (lv_at hl 0 rfl) ?_
          refine va_getN (D := (dC, dI)) (ci := 3) (v := .int (I_10 (13 + (p1).toNatClampNeg) 10)) (C := RX2) (T := TX2) (N := 12) hx hb hts iX4_heat_RX2 hown hK hP (13 + (p1).toNatClampNeg) (heH_Mix (inB_lt h_7)) rfl 10 (by decide) (va_Nw.use (w := .fieldLinkNest "OverrunHouse" 112 "OverrunHouse$Mix" "isProved" "Z" "OverrunHouse") rfl (hN _ (List.mem_of_getElem? (i := 20) rfl))) (fun _ h9 => h9) rfl dX4_heat_66 ?_
          obtain ⟨h_11, hf⟩ := ck_out hf
          exact (er_ne hf).elim
        · have hf := it_t hf c_8
          refine lv_iload_n hx hb dX4_heat_42 rfl (lv_at hl 3 rfl) ?_
          refine lv_iload_n hx hb dX4_heat_43 rfl (lv_at hl 4 rfl) ?_
          obtain ⟨r_12, g_13, hf⟩ := bd_out hf
          refine va_calli (va_runS (As := [.int p2, .int p3]) (rest := [.ref (ad (13 + (p1).toNatClampNeg))]) ⟨hx, hb, hml, hown, hts⟩ (mt_X4_proves l H.size p2 p3 r_12 g_13) (va_cwS 2 hts gX4_heat_X4_proves rfl rfl rfl (by decide +kernel) ⟨Nat.le_of_ble_eq_true rfl, Nat.le_of_ble_eq_true rfl⟩) (pre0 [.int p2, .int p3]) rfl rfl hl.1 rfl (lv_room (Nat.le_of_ble_eq_true rfl)) dX4_heat_44 ⟨Nat.le_of_ble_eq_true rfl, Nat.le_of_ble_eq_true rfl⟩) hS (fun q _ h => hA q (Nat.le_trans hS.1 h)) (fun q h => hA q (Nat.le_trans hS.1 h)) (fun r9 u t H1 locs ht hvm hw hB hz1 hk1 hS => ?_)
          subst hw
          have hP := va_Pnew hP hk1
          clear hB hz1 hk1 hvm ht
          generalize H1 = H at hP hS ⊢
          refine lv_if_eq (tgt := 54) hx hb dX4_heat_47 (by decide) (fun c_14 => ?_) (fun c_14 => ?_)
          · have hf := it_t hf c_14
            refine lv_iconst (v := 0) hx hb dX4_heat_54 (by decide) ?_
            obtain ⟨I_15, eI_15, hf⟩ := nm_out hf
            refine va_putN (D := (dC, dI)) (ci := 3) (v := .int 0) (ty := .boolean) (C := RX2) (T := TX2) (N := 12) hx hb hts iX4_heat_RX2 tyX2 tyX2_ok nmX2 hown hK hP (hDD I D) hS (13 + (p1).toNatClampNeg) (heH_Mix (inB_lt h_7)) rfl 10 (by decide) (va_Nw.use (w := .fieldLinkNest "OverrunHouse" 112 "OverrunHouse$Mix" "isProved" "Z" "OverrunHouse") rfl (hN _ (List.mem_of_getElem? (i := 20) rfl))) (fun _ h9 => h9) rfl (by decide +kernel) rfl rfl (Nat.le_of_ble_eq_true rfl) dX4_heat_55 (fun H locs hP _ hS => ?_)
            have hP : va_P (dC, dI) vwCl (iwH ad cy I_15 D) H := by rw [eI_15]; exact hpI (by have := (inB_lt h_7); omega) ((cellH_Mix ad cy (inB_lt h_7) _ _).trans rfl) hP
            refine lv_aload hx hb dX4_heat_58 (lv_at hl 0 rfl) ?_
            refine lv_iconst (v := 0) hx hb dX4_heat_60 (by decide) ?_
            obtain ⟨I_16, eI_16, hf⟩ := nm_out hf
            refine va_putN (D := (dC, dI)) (ci := 3) (v := .int 0) (ty := .int) (C := RX2) (T := TX2) (N := 12) hx hb hts iX4_heat_RX2 tyX2 tyX2_ok nmX2 hown hK hP (hDD I_15 D) hS (13 + (p1).toNatClampNeg) (heH_Mix (inB_lt h_7)) rfl 8 (by decide) (va_Nw.use (w := .fieldLinkNest "OverrunHouse" 120 "OverrunHouse$Mix" "age" "I" "OverrunHouse") rfl (hN _ (List.mem_of_getElem? (i := 18) rfl))) (fun _ h9 => h9) rfl (by decide +kernel) rfl rfl (Nat.le_of_ble_eq_true rfl) dX4_heat_61 (fun H locs hP _ hS => ?_)
            have hP : va_P (dC, dI) vwCl (iwH ad cy I_16 D) H := by rw [eI_16]; exact hpI (by have := (inB_lt h_7); omega) ((cellH_Mix ad cy (inB_lt h_7) _ _).trans rfl) hP
            refine lv_aload hx hb dX4_heat_64 (lv_at hl 0 rfl) ?_
            refine va_getN (D := (dC, dI)) (ci := 3) (v := .int (I_16 (13 + (p1).toNatClampNeg) 10)) (C := RX2) (T := TX2) (N := 12) hx hb hts iX4_heat_RX2 hown hK hP (13 + (p1).toNatClampNeg) (heH_Mix (inB_lt h_7)) rfl 10 (by decide) (va_Nw.use (w := .fieldLinkNest "OverrunHouse" 112 "OverrunHouse$Mix" "isProved" "Z" "OverrunHouse") rfl (hN _ (List.mem_of_getElem? (i := 20) rfl))) (fun _ h9 => h9) rfl dX4_heat_66 ?_
            obtain ⟨h_17, hf⟩ := ck_out hf
            exact (er_ne hf).elim
          · have hf := it_f hf c_14
            refine lv_iconst (v := 1) hx hb dX4_heat_50 (by decide) ?_
            refine lv_goto (tgt := 55) hx hb dX4_heat_51 (by decide) ?_
            obtain ⟨I_18, eI_18, hf⟩ := nm_out hf
            refine va_putN (D := (dC, dI)) (ci := 3) (v := .int 1) (ty := .boolean) (C := RX2) (T := TX2) (N := 12) hx hb hts iX4_heat_RX2 tyX2 tyX2_ok nmX2 hown hK hP (hDD I D) hS (13 + (p1).toNatClampNeg) (heH_Mix (inB_lt h_7)) rfl 10 (by decide) (va_Nw.use (w := .fieldLinkNest "OverrunHouse" 112 "OverrunHouse$Mix" "isProved" "Z" "OverrunHouse") rfl (hN _ (List.mem_of_getElem? (i := 20) rfl))) (fun _ h9 => h9) rfl (by decide +kernel) rfl rfl (Nat.le_of_ble_eq_true rfl) dX4_heat_55 (fun H locs hP _ hS => ?_)
            have hP : va_P (dC, dI) vwCl (iwH ad cy I_18 D) H := by rw [eI_18]; exact hpI (by have := (inB_lt h_7); omega) ((cellH_Mix ad cy (inB_lt h_7) _ _).trans rfl) hP
            refine lv_aload hx hb dX4_heat_58 (lv_at hl 0 rfl) ?_
            refine lv_iconst (v := 0) hx hb dX4_heat_60 (by decide) ?_
            obtain ⟨I_19, eI_19, hf⟩ := nm_out hf
            refine va_putN (D := (dC, dI)) (ci := 3) (v := .int 0) (ty := .int) (C := RX2) (T := TX2) (N := 12) hx hb hts iX4_heat_RX2 tyX2 tyX2_ok nmX2 hown hK hP (hDD I_18 D) hS (13 + (p1).toNatClampNeg) (heH_Mix (inB_lt h_7)) rfl 8 (by decide) (va_Nw.use (w := .fieldLinkNest "OverrunHouse" 120 "OverrunHouse$Mix" "age" "I" "OverrunHouse") rfl (hN _ (List.mem_of_getElem? (i := 18) rfl))) (fun _ h9 => h9) rfl (by decide +kernel) rfl rfl (Nat.le_of_ble_eq_true rfl) dX4_heat_61 (fun H locs hP _ hS => ?_)
            have hP : va_P (dC, dI) vwCl (iwH ad cy I_19 D) H := by rw [eI_19]; exact hpI (by have := (inB_lt h_7); omega) ((cellH_Mix ad cy (inB_lt h_7) _ _).trans rfl) hP
            refine lv_aload hx hb dX4_heat_64 (lv_at hl 0 rfl) ?_
            refine va_getN (D := (dC, dI)) (ci := 3) (v := .int (I_19 (13 + (p1).toNatClampNeg) 10)) (C := RX2) (T := TX2) (N := 12) hx hb hts iX4_heat_RX2 hown hK hP (13 + (p1).toNatClampNeg) (heH_Mix (inB_lt h_7)) rfl 10 (by decide) (va_Nw.use (w := .fieldLinkNest "OverrunHouse" 112 "OverrunHouse$Mix" "isProved" "Z" "OverrunHouse") rfl (hN _ (List.mem_of_getElem? (i := 20) rfl))) (fun _ h9 => h9) rfl dX4_heat_66 ?_
            obtain ⟨h_20, hf⟩ := ck_out hf
            exact (er_ne hf).elim

set_option maxHeartbeats 4000000 in
set_option maxRecDepth 100000 in
theorem mx_X4_bars (l : Launch) (hl0 : l.stackTraces = false) (dC : Nat → ClassId) (dI : Nat → Nat → Nat) (ad : Nat → Nat) (cy : Nat → ClassId) (hJ : J33 ad) (sa : Nat → Nat) (sz : Nat) (I : Nat → Nat → Int32) (D : Nat → Nat → UInt64) (p1 : Int32) (p2 : Int32) (p3 : Int32) (p4 : Int32) (E0 : String) (hf : f_X4_bars I D p1 p2 p3 p4 = some (.error E0)) : vx_Met l yX4_bars wsX4_bars ({ frames := 7, cells := 1, slots := 6, locals := 112 }) (va_Pc [.ref (ad 0), .int p1, .int p2, .int p3, .int p4] (fun U => U.heap.size = sz ∧ hW dC dI ad cy I D U ∧ xS sa (AW ad sz) U)) (va_Qi (fun _ (_ : Unit) => False) (fun _ _ => True) (AW ad sz)) (vx_X (fun _ : Unit => True) (fun E _ t => E0 = E ∧ va_P (dC, dI) vwCl (iwH ad cy I D) t.heap ∧ va_K (dC, dI) vwCl (tysA cy) t) (AW ad sz)) 1 6 (AW ad sz) := by
  refine vx_ofW (cc := cX4_bars) (maxL := 6) (ret := (some .int)) (by decide) rfl ?_
  intro p e s m args below meth c s₁ B hml ht hv
  obtain ⟨rfl, hsz, ⟨hP, hK, hN⟩, hZ⟩ := hv
  have hx := B.exec
  have hb := B.bytes
  have hr := B.returns
  have hts := atoms_spec (ws := wsX4_bars) B.pre
  have hown : s.vm.findClass RX4 = some m.cls := findClass_of_methodNamed B.named
  have hlocks := B.notSynchronized
  subst hsz
  generalize hAe : AW ad s.heap.size = A at hZ ⊢
  have hA : ∀ q : Nat, s.heap.size ≤ q → A q := fun q h => by rw [← hAe]; exact Or.inr h
  have hA33 : ∀ k, k < 33 → A (ad k) := fun k h => by rw [← hAe]; exact Or.inl ⟨k, h, rfl⟩
  have hDD : ∀ I D, va_D A (iwH ad cy I D) := fun I D => iwH_D hJ hA33 I D
  obtain ⟨H, hH⟩ : ∃ H : Heap, H = s.heap := ⟨_, rfl⟩
  have hS : va_S A s.heap H [] := by rw [hH]; exact va_S.rf
  rw [← hH]
  rw [← hH] at hP
  have hl := lv_entry ([.ref (ad 0), .int p1, .int p2, .int p3, .int p4]) (n := 6) (Nat.le_of_ble_eq_true rfl)
  rw [lg_entry_eq]
  generalize (lg_sl ([.ref (ad 0), .int p1, .int p2, .int p3, .int p4]) ++ List.replicate (6 - (lg_sl ([.ref (ad 0), .int p1, .int p2, .int p3, .int p4])).length) Slot.unset).toArray = ls at hl ⊢
  have hl : lv_has ls 6 [(0, .ref (ad 0)), (1, .int p1), (2, .int p2), (3, .int p3), (4, .int p4)] := hl
  unfold f_X4_bars at hf
  refine lv_iload_n hx hb dX4_bars_0 rfl (lv_at hl 1 rfl) ?_
  refine lv_iconst (v := 2) hx hb dX4_bars_1 (by decide) ?_
  rcases bE_err hf with g_2 | ⟨_, g_2, hf⟩
  · skip
    refine vx_callv (vx_runS (As := [.int p1, .int 2]) (rest := []) ⟨hx, hb, hml, hown, hts⟩ (mx_X4_checkNumber l hl0 sa H.size p1 2 E0 g_2) (va_cwS 2 hts gX4_bars_X4_checkNumber rfl rfl rfl (by decide +kernel) ⟨Nat.le_of_ble_eq_true rfl, Nat.le_of_ble_eq_true rfl⟩) (pre0X [.int p1, .int 2] (xS_kept (B := fun q => H.size ≤ q) hZ hS (fun q h => hA q (Nat.le_trans hS.1 h)))) rfl rfl hl.1 rfl (lv_room (Nat.le_of_ble_eq_true rfl)) dX4_bars_2 ⟨Nat.le_of_ble_eq_true rfl, Nat.le_of_ble_eq_true rfl⟩) hS (fun q _ h => hA q (Nat.le_trans hS.1 h)) (fun q h => hA q (Nat.le_trans hS.1 h)) (fun q _ h => hA q (Nat.le_trans hS.1 h)) (fun E9 ce q9 u t H1 locs1 ht9 hvm hpu hBX hz1 hk1 hS h1 h2 h3 => ?_) (fun u t H1 locs ht9 hvm hw hB hz1 hk1 hS => hw.elim)
    exact vx_out (fun x hx9 => (ht x hx9).elim) hlocks h1 h2 h3 (fun t9 ht8 hvm8 => ⟨(), trivial, ⟨hBX, by rw [ht8]; exact va_Pnew hP hk1, va_K.moved hvm8 hK⟩, hS.F ht8⟩) hS.2.2 (Nat.le_of_ble_eq_true rfl) (Nat.le_of_ble_eq_true rfl)
  · skip
    refine va_callv (va_runS (As := [.int p1, .int 2]) (rest := []) ⟨hx, hb, hml, hown, hts⟩ (mt_X4_checkNumber l H.size p1 2  g_2) (va_cwS 2 hts gX4_bars_X4_checkNumber rfl rfl rfl (by decide +kernel) ⟨Nat.le_of_ble_eq_true rfl, Nat.le_of_ble_eq_true rfl⟩) (pre0 [.int p1, .int 2]) rfl rfl hl.1 rfl (lv_room (Nat.le_of_ble_eq_true rfl)) dX4_bars_2 ⟨Nat.le_of_ble_eq_true rfl, Nat.le_of_ble_eq_true rfl⟩) hS (fun q _ h => hA q (Nat.le_trans hS.1 h)) (fun q h => hA q (Nat.le_trans hS.1 h)) (fun u t H1 locs ht hvm hw hB hz1 hk1 hS => ?_)
    have hP := va_Pnew hP hk1
    clear hB hz1 hk1 hvm ht
    generalize H1 = H at hP hS ⊢
    refine lv_iload_n hx hb dX4_bars_5 rfl (lv_at hl 2 rfl) ?_
    refine lv_aload_n hx hb dX4_bars_6 rfl (lv_at hl 0 rfl) ?_
    refine va_get (D := (dC, dI)) (ci := 5) (v := .int (I 0 6)) (C := RX4) (T := TX4) (N := 14) hx hb hts iX4_bars_RX4 hown hK hP 0 heH_0 rfl 6 (by decide) (hts (.fieldLink RX4 41 "OverrunHouse" "mixCount" "I") (List.mem_cons_of_mem _ (List.mem_append_left _ (List.mem_append_left _ (List.mem_append_left _ (List.mem_append_left _ (List.mem_append_left _ (List.mem_of_getElem? (i := 0) rfl)))))))) (fun _ h9 => h9) rfl dX4_bars_7 ?_
    rcases bE_err hf with g_4 | ⟨_, g_4, hf⟩
    · skip
      refine vx_callv (vx_runS (As := [.int p2, .int (I 0 6)]) (rest := []) ⟨hx, hb, hml, hown, hts⟩ (mx_X4_checkNumber l hl0 sa H.size p2 (I 0 6) E0 g_4) (va_cwS 2 hts gX4_bars_X4_checkNumber rfl rfl rfl (by decide +kernel) ⟨Nat.le_of_ble_eq_true rfl, Nat.le_of_ble_eq_true rfl⟩) (pre0X [.int p2, .int (I 0 6)] (xS_kept (B := fun q => H.size ≤ q) hZ hS (fun q h => hA q (Nat.le_trans hS.1 h)))) rfl rfl hl.1 rfl (lv_room (Nat.le_of_ble_eq_true rfl)) dX4_bars_10 ⟨Nat.le_of_ble_eq_true rfl, Nat.le_of_ble_eq_true rfl⟩) hS (fun q _ h => hA q (Nat.le_trans hS.1 h)) (fun q h => hA q (Nat.le_trans hS.1 h)) (fun q _ h => hA q (Nat.le_trans hS.1 h)) (fun E9 ce q9 u t H1 locs1 ht9 hvm hpu hBX hz1 hk1 hS h1 h2 h3 => ?_) (fun u t H1 locs ht9 hvm hw hB hz1 hk1 hS => hw.elim)
      exact vx_out (fun x hx9 => (ht x hx9).elim) hlocks h1 h2 h3 (fun t9 ht8 hvm8 => ⟨(), trivial, ⟨hBX, by rw [ht8]; exact va_Pnew hP hk1, va_K.moved hvm8 hK⟩, hS.F ht8⟩) hS.2.2 (Nat.le_of_ble_eq_true rfl) (Nat.le_of_ble_eq_true rfl)
    · skip
      refine va_callv (va_runS (As := [.int p2, .int (I 0 6)]) (rest := []) ⟨hx, hb, hml, hown, hts⟩ (mt_X4_checkNumber l H.size p2 (I 0 6)  g_4) (va_cwS 2 hts gX4_bars_X4_checkNumber rfl rfl rfl (by decide +kernel) ⟨Nat.le_of_ble_eq_true rfl, Nat.le_of_ble_eq_true rfl⟩) (pre0 [.int p2, .int (I 0 6)]) rfl rfl hl.1 rfl (lv_room (Nat.le_of_ble_eq_true rfl)) dX4_bars_10 ⟨Nat.le_of_ble_eq_true rfl, Nat.le_of_ble_eq_true rfl⟩) hS (fun q _ h => hA q (Nat.le_trans hS.1 h)) (fun q h => hA q (Nat.le_trans hS.1 h)) (fun u t H1 locs ht hvm hw hB hz1 hk1 hS => ?_)
      have hP := va_Pnew hP hk1
      clear hB hz1 hk1 hvm ht
      generalize H1 = H at hP hS ⊢
      refine lv_iload_n hx hb dX4_bars_13 rfl (lv_at hl 3 rfl) ?_
      refine lv_iconst (v := 5) hx hb dX4_bars_14 (by decide) ?_
      refine lv_sipush (v := 500) hx hb dX4_bars_15 (by decide) ?_
      rcases bE_err hf with g_6 | ⟨_, g_6, hf⟩
      · skip
        refine vx_callv (vx_runS (As := [.int p3, .int 5, .int 500]) (rest := []) ⟨hx, hb, hml, hown, hts⟩ (mx_X4_checkRange l hl0 sa H.size p3 5 500 E0 g_6) (va_cwS 3 hts gX4_bars_X4_checkRange rfl rfl rfl (by decide +kernel) ⟨Nat.le_of_ble_eq_true rfl, Nat.le_of_ble_eq_true rfl⟩) (pre0X [.int p3, .int 5, .int 500] (xS_kept (B := fun q => H.size ≤ q) hZ hS (fun q h => hA q (Nat.le_trans hS.1 h)))) rfl rfl hl.1 rfl (lv_room (Nat.le_of_ble_eq_true rfl)) dX4_bars_18 ⟨Nat.le_of_ble_eq_true rfl, Nat.le_of_ble_eq_true rfl⟩) hS (fun q _ h => hA q (Nat.le_trans hS.1 h)) (fun q h => hA q (Nat.le_trans hS.1 h)) (fun q _ h => hA q (Nat.le_trans hS.1 h)) (fun E9 ce q9 u t H1 locs1 ht9 hvm hpu hBX hz1 hk1 hS h1 h2 h3 => ?_) (fun u t H1 locs ht9 hvm hw hB hz1 hk1 hS => hw.elim)
        exact vx_out (fun x hx9 => (ht x hx9).elim) hlocks h1 h2 h3 (fun t9 ht8 hvm8 => ⟨(), trivial, ⟨hBX, by rw [ht8]; exact va_Pnew hP hk1, va_K.moved hvm8 hK⟩, hS.F ht8⟩) hS.2.2 (Nat.le_of_ble_eq_true rfl) (Nat.le_of_ble_eq_true rfl)
      · skip
        refine va_callv (va_runS (As := [.int p3, .int 5, .int 500]) (rest := []) ⟨hx, hb, hml, hown, hts⟩ (mt_X4_checkRange l H.size p3 5 500  g_6) (va_cwS 3 hts gX4_bars_X4_checkRange rfl rfl rfl (by decide +kernel) ⟨Nat.le_of_ble_eq_true rfl, Nat.le_of_ble_eq_true rfl⟩) (pre0 [.int p3, .int 5, .int 500]) rfl rfl hl.1 rfl (lv_room (Nat.le_of_ble_eq_true rfl)) dX4_bars_18 ⟨Nat.le_of_ble_eq_true rfl, Nat.le_of_ble_eq_true rfl⟩) hS (fun q _ h => hA q (Nat.le_trans hS.1 h)) (fun q h => hA q (Nat.le_trans hS.1 h)) (fun u t H1 locs ht hvm hw hB hz1 hk1 hS => ?_)
        have hP := va_Pnew hP hk1
        clear hB hz1 hk1 hvm ht
        generalize H1 = H at hP hS ⊢
        refine lv_iload hx hb dX4_bars_21 (lv_at hl 4 rfl) ?_
        refine lv_bipush (v := 20) hx hb dX4_bars_23 (by decide) ?_
        refine lv_sipush (v := 140) hx hb dX4_bars_25 (by decide) ?_
        rcases bE_err hf with g_8 | ⟨_, g_8, hf⟩
        · skip
          refine vx_callv (vx_runS (As := [.int p4, .int 20, .int 140]) (rest := []) ⟨hx, hb, hml, hown, hts⟩ (mx_X4_checkRange l hl0 sa H.size p4 20 140 E0 g_8) (va_cwS 3 hts gX4_bars_X4_checkRange rfl rfl rfl (by decide +kernel) ⟨Nat.le_of_ble_eq_true rfl, Nat.le_of_ble_eq_true rfl⟩) (pre0X [.int p4, .int 20, .int 140] (xS_kept (B := fun q => H.size ≤ q) hZ hS (fun q h => hA q (Nat.le_trans hS.1 h)))) rfl rfl hl.1 rfl (lv_room (Nat.le_of_ble_eq_true rfl)) dX4_bars_28 ⟨Nat.le_of_ble_eq_true rfl, Nat.le_of_ble_eq_true rfl⟩) hS (fun q _ h => hA q (Nat.le_trans hS.1 h)) (fun q h => hA q (Nat.le_trans hS.1 h)) (fun q _ h => hA q (Nat.le_trans hS.1 h)) (fun E9 ce q9 u t H1 locs1 ht9 hvm hpu hBX hz1 hk1 hS h1 h2 h3 => ?_) (fun u t H1 locs ht9 hvm hw hB hz1 hk1 hS => hw.elim)
          exact vx_out (fun x hx9 => (ht x hx9).elim) hlocks h1 h2 h3 (fun t9 ht8 hvm8 => ⟨(), trivial, ⟨hBX, by rw [ht8]; exact va_Pnew hP hk1, va_K.moved hvm8 hK⟩, hS.F ht8⟩) hS.2.2 (Nat.le_of_ble_eq_true rfl) (Nat.le_of_ble_eq_true rfl)
        · skip
          refine va_callv (va_runS (As := [.int p4, .int 20, .int 140]) (rest := []) ⟨hx, hb, hml, hown, hts⟩ (mt_X4_checkRange l H.size p4 20 140  g_8) (va_cwS 3 hts gX4_bars_X4_checkRange rfl rfl rfl (by decide +kernel) ⟨Nat.le_of_ble_eq_true rfl, Nat.le_of_ble_eq_true rfl⟩) (pre0 [.int p4, .int 20, .int 140]) rfl rfl hl.1 rfl (lv_room (Nat.le_of_ble_eq_true rfl)) dX4_bars_28 ⟨Nat.le_of_ble_eq_true rfl, Nat.le_of_ble_eq_true rfl⟩) hS (fun q _ h => hA q (Nat.le_trans hS.1 h)) (fun q h => hA q (Nat.le_trans hS.1 h)) (fun u t H1 locs ht hvm hw hB hz1 hk1 hS => ?_)
          have hP := va_Pnew hP hk1
          clear hB hz1 hk1 hvm ht
          generalize H1 = H at hP hS ⊢
          refine lv_aload_n hx hb dX4_bars_31 rfl (lv_at hl 0 rfl) ?_
          refine va_get (D := (dC, dI)) (ci := 5) (v := .ref (ad 2)) (C := RX4) (T := TX4) (N := 14) hx hb hts iX4_bars_RX4 hown hK hP 0 heH_0 rfl 1 (by decide) (hts (.fieldLink RX4 17 "OverrunHouse" "mixes" "[LOverrunHouse$Mix;") (List.mem_cons_of_mem _ (List.mem_append_left _ (List.mem_append_left _ (List.mem_append_left _ (List.mem_append_left _ (List.mem_append_left _ (List.mem_of_getElem? (i := 1) rfl)))))))) (fun _ h9 => h9) rfl dX4_bars_32 ?_
          refine lv_iload_n hx hb dX4_bars_35 rfl (lv_at hl 2 rfl) ?_
          obtain ⟨h_9, hf⟩ := ck_out hf
          refine wr_aald (b := 13) (n := 5) hx hb hK hP 2 2 heH_2 rfl (inB_in h_9) dX4_bars_36 ?_
          refine lv_astore (lv' := [(5, .ref (ad (13 + (p2).toNatClampNeg))), (0, .ref (ad 0)), (1, .int p1), (2, .int p2), (3, .int p3), (4, .int p4)]) hx hb dX4_bars_37 hl (by decide) rfl (fun ls hl => ?_)
          refine lv_aload hx hb dX4_bars_39 (lv_at hl 0 rfl) ?_
          refine va_getN (D := (dC, dI)) (ci := 3) (v := .int (I (13 + (p2).toNatClampNeg) 10)) (C := RX2) (T := TX2) (N := 12) hx hb hts iX4_bars_RX2 hown hK hP (13 + (p2).toNatClampNeg) (heH_Mix (inB_lt h_9)) rfl 10 (by decide) (va_Nw.use (w := .fieldLinkNest "OverrunHouse" 112 "OverrunHouse$Mix" "isProved" "Z" "OverrunHouse") rfl (hN _ (List.mem_of_getElem? (i := 20) rfl))) (fun _ h9 => h9) rfl dX4_bars_41 ?_
          refine lv_if_ne (tgt := 49) hx hb dX4_bars_44 (by decide) (fun c_10 => ?_) (fun c_10 => ?_)
          · have hf := it_f hf c_10
            refine lv_aload hx hb dX4_bars_49 (lv_at hl 0 rfl) ?_
            refine va_getN (D := (dC, dI)) (ci := 3) (v := .int (I (13 + (p2).toNatClampNeg) 8)) (C := RX2) (T := TX2) (N := 12) hx hb hts iX4_bars_RX2 hown hK hP (13 + (p2).toNatClampNeg) (heH_Mix (inB_lt h_9)) rfl 8 (by decide) (va_Nw.use (w := .fieldLinkNest "OverrunHouse" 120 "OverrunHouse$Mix" "age" "I" "OverrunHouse") rfl (hN _ (List.mem_of_getElem? (i := 18) rfl))) (fun _ h9 => h9) rfl dX4_bars_51 ?_
            refine lv_iconst (v := 4) hx hb dX4_bars_54 (by decide) ?_
            refine lv_icmp_ge (tgt := 60) hx hb dX4_bars_55 (by decide) (fun c_11 => ?_) (fun c_11 => ?_)
            · have hf := it_t hf c_11
              refine lv_aload hx hb dX4_bars_60 (lv_at hl 0 rfl) ?_
              refine va_getN (D := (dC, dI)) (ci := 3) (v := .int (I (13 + (p2).toNatClampNeg) 8)) (C := RX2) (T := TX2) (N := 12) hx hb hts iX4_bars_RX2 hown hK hP (13 + (p2).toNatClampNeg) (heH_Mix (inB_lt h_9)) rfl 8 (by decide) (va_Nw.use (w := .fieldLinkNest "OverrunHouse" 120 "OverrunHouse$Mix" "age" "I" "OverrunHouse") rfl (hN _ (List.mem_of_getElem? (i := 18) rfl))) (fun _ h9 => h9) rfl dX4_bars_62 ?_
              refine lv_bipush (v := 72) hx hb dX4_bars_65 (by decide) ?_
              refine lv_icmp_le (tgt := 72) hx hb dX4_bars_67 (by decide) (fun c_12 => ?_) (fun c_12 => ?_)
              · have hf := it_t hf c_12
                refine lv_aload hx hb dX4_bars_72 (lv_at hl 0 rfl) ?_
                refine va_getN (D := (dC, dI)) (ci := 3) (v := .int (I (13 + (p2).toNatClampNeg) 1)) (C := RX2) (T := TX2) (N := 12) hx hb hts iX4_bars_RX2 hown hK hP (13 + (p2).toNatClampNeg) (heH_Mix (inB_lt h_9)) rfl 1 (by decide) (va_Nw.use (w := .fieldLinkNest "OverrunHouse" 127 "OverrunHouse$Mix" "left" "I" "OverrunHouse") rfl (hN _ (List.mem_of_getElem? (i := 11) rfl))) (fun _ h9 => h9) rfl dX4_bars_74 ?_
                refine lv_iload_n hx hb dX4_bars_77 rfl (lv_at hl 4 rfl) ?_
                refine lv_icmp_ge (tgt := 83) hx hb dX4_bars_78 (by decide) (fun c_13 => ?_) (fun c_13 => ?_)
                · have hf := it_t hf c_13
                  refine lv_aload_n hx hb dX4_bars_83 rfl (lv_at hl 1 rfl) ?_
                  refine va_get (D := (dC, dI)) (ci := 5) (v := .ref (ad 5)) (C := RX4) (T := TX4) (N := 14) hx hb hts iX4_bars_RX4 hown hK hP 0 heH_0 rfl 4 (by decide) (hts (.fieldLink RX4 33 "OverrunHouse" "rests" "[I") (List.mem_cons_of_mem _ (List.mem_append_left _ (List.mem_append_left _ (List.mem_append_left _ (List.mem_append_left _ (List.mem_append_left _ (List.mem_of_getElem? (i := 2) rfl)))))))) (fun _ h9 => h9) rfl dX4_bars_84 ?_
                  refine lv_iload_n hx hb dX4_bars_87 rfl (lv_at hl 2 rfl) ?_
                  obtain ⟨h_14, hf⟩ := ck_out hf
                  refine va_iald (n := 2) (f := I 5) hx hb hK hP 5 0 heH_5 rfl (inB_in h_14) dX4_bars_88 ?_
                  refine lv_aload hx hb dX4_bars_89 (lv_at hl 0 rfl) ?_
                  refine va_getN (D := (dC, dI)) (ci := 3) (v := .int (I (13 + (p2).toNatClampNeg) 6)) (C := RX2) (T := TX2) (N := 12) hx hb hts iX4_bars_RX2 hown hK hP (13 + (p2).toNatClampNeg) (heH_Mix (inB_lt h_9)) rfl 6 (by decide) (va_Nw.use (w := .fieldLinkNest "OverrunHouse" 130 "OverrunHouse$Mix" "harms" "I" "OverrunHouse") rfl (hN _ (List.mem_of_getElem? (i := 16) rfl))) (fun _ h9 => h9) rfl dX4_bars_91 ?_
                  refine lv_iconst (v := (-1)) hx hb dX4_bars_94 (by decide) ?_
                  refine lv_ixor hx hb dX4_bars_95 ?_
                  refine lv_iand hx hb dX4_bars_96 ?_
                  refine lv_if_eq (tgt := 102) hx hb dX4_bars_97 (by decide) (fun c_15 => ?_) (fun c_15 => ?_)
                  · have hf := it_t hf c_15
                    refine lv_iload hx hb dX4_bars_102 (lv_at hl 5 rfl) ?_
                    refine lv_bipush (v := 100) hx hb dX4_bars_104 (by decide) ?_
                    refine lv_icmp_le (tgt := 120) hx hb dX4_bars_106 (by decide) (fun c_16 => ?_) (fun c_16 => ?_)
                    · have hf := it_t hf c_16
                      refine lv_aload_n hx hb dX4_bars_120 rfl (lv_at hl 1 rfl) ?_
                      refine va_get (D := (dC, dI)) (ci := 5) (v := .int (I 0 7)) (C := RX4) (T := TX4) (N := 14) hx hb hts iX4_bars_RX4 hown hK hP 0 heH_0 rfl 7 (by decide) (hts (.fieldLink RX4 44 "OverrunHouse" "batchCount" "I") (List.mem_cons_of_mem _ (List.mem_append_left _ (List.mem_append_left _ (List.mem_append_left _ (List.mem_append_left _ (List.mem_append_left _ (List.mem_of_getElem? (i := 3) rfl)))))))) (fun _ h9 => h9) rfl dX4_bars_121 ?_
                      refine lv_bipush (v := 12) hx hb dX4_bars_124 (by decide) ?_
                      refine lv_icmp_lt (tgt := 134) hx hb dX4_bars_126 (by decide) (fun c_17 => ?_) (fun c_17 => ?_)
                      · have hf := it_t hf c_17
                        refine lv_iconst (v := 0) hx hb dX4_bars_134 (by decide) ?_
                        exact (er_ne hf).elim
                      · have hf := it_f hf c_17
                        refine lv_bipush (v := 7) hx hb dX4_bars_129 (by decide) ?_
                        refine lv_goto (tgt := 135) hx hb dX4_bars_131 (by decide) ?_
                        exact (er_ne hf).elim
                    · have hf := it_f hf c_16
                      refine lv_aload hx hb dX4_bars_109 (lv_at hl 0 rfl) ?_
                      obtain ⟨r_18, g_19, hf⟩ := bd_out hf
                      refine va_calli (va_runVN (As := []) (rest := []) ⟨hx, hb, hml, hown, hts⟩ (mt_X2_isCream l dC dI ad cy hJ H.size I D (p2).toNatClampNeg (inB_lt h_9) r_18 g_19) ⟨va_cnB 0 hts gX4_bars_X2_isCream_n213 rfl rfl rfl (hN (.methodLinkNest "OverrunHouse" 213 ⟨"OverrunHouse$Mix", "isCream", "()Z"⟩ "OverrunHouse") (List.mem_of_getElem? (i := 35) rfl)) (hts (.initialized RX2) (List.mem_cons_of_mem _ (List.mem_append_left _ (List.mem_append_left _ (List.mem_append_left _ (List.mem_append_left _ (List.mem_append_left _ (List.mem_of_getElem? (i := 16) rfl)))))))) (by decide +kernel) ⟨Nat.le_of_ble_eq_true rfl, Nat.le_of_ble_eq_true rfl⟩, (hts (.instanceMethod yX2_isCream) (List.mem_cons_of_mem _ (List.mem_append_left _ (List.mem_append_left _ (List.mem_append_left _ (List.mem_append_left _ (List.mem_append_left _ (List.mem_of_getElem? (i := 15) rfl)))))))), (hts (.selects RX2 yX2_isCream yX2_isCream) (List.mem_cons_of_mem _ (List.mem_append_left _ (List.mem_append_left _ (List.mem_append_left _ (List.mem_append_left _ (List.mem_append_left _ (List.mem_of_getElem? (i := 17) rfl))))))))⟩ ⟨(hW.pre [.ref (ad (13 + (p2).toNatClampNeg))] hP hK hN).1, hW.recv (C := RX2) (T := TX2) (N := 12) hP hK (heH_Mix (inB_lt h_9)) rfl, (hW.pre [.ref (ad (13 + (p2).toNatClampNeg))] hP hK hN).2⟩ rfl rfl hl.1 rfl (lv_room (Nat.le_of_ble_eq_true rfl)) dX4_bars_111 ⟨Nat.le_of_ble_eq_true rfl, Nat.le_of_ble_eq_true rfl⟩) hS (fun q _ h => hA q (Nat.le_trans hS.1 h)) (fun q h => hA q (Nat.le_trans hS.1 h)) (fun r9 u t H1 locs ht hvm hw hB hz1 hk1 hS => ?_)
                      subst hw
                      have hP := va_Pnew hP hk1
                      clear hB hz1 hk1 hvm ht
                      generalize H1 = H at hP hS ⊢
                      refine lv_if_eq (tgt := 120) hx hb dX4_bars_114 (by decide) (fun c_20 => ?_) (fun c_20 => ?_)
                      · have hf := it_t hf c_20
                        refine lv_aload_n hx hb dX4_bars_120 rfl (lv_at hl 1 rfl) ?_
                        refine va_get (D := (dC, dI)) (ci := 5) (v := .int (I 0 7)) (C := RX4) (T := TX4) (N := 14) hx hb hts iX4_bars_RX4 hown hK hP 0 heH_0 rfl 7 (by decide) (hts (.fieldLink RX4 44 "OverrunHouse" "batchCount" "I") (List.mem_cons_of_mem _ (List.mem_append_left _ (List.mem_append_left _ (List.mem_append_left _ (List.mem_append_left _ (List.mem_append_left _ (List.mem_of_getElem? (i := 3) rfl)))))))) (fun _ h9 => h9) rfl dX4_bars_121 ?_
                        refine lv_bipush (v := 12) hx hb dX4_bars_124 (by decide) ?_
                        refine lv_icmp_lt (tgt := 134) hx hb dX4_bars_126 (by decide) (fun c_21 => ?_) (fun c_21 => ?_)
                        · have hf := it_t hf c_21
                          refine lv_iconst (v := 0) hx hb dX4_bars_134 (by decide) ?_
                          exact (er_ne hf).elim
                        · have hf := it_f hf c_21
                          refine lv_bipush (v := 7) hx hb dX4_bars_129 (by decide) ?_
                          refine lv_goto (tgt := 135) hx hb dX4_bars_131 (by decide) ?_
                          exact (er_ne hf).elim
                      · have hf := it_f hf c_20
                        refine lv_bipush (v := 6) hx hb dX4_bars_117 (by decide) ?_
                        exact (er_ne hf).elim
                  · have hf := it_f hf c_15
                    refine lv_iconst (v := 5) hx hb dX4_bars_100 (by decide) ?_
                    exact (er_ne hf).elim
                · have hf := it_f hf c_13
                  refine lv_iconst (v := 4) hx hb dX4_bars_81 (by decide) ?_
                  exact (er_ne hf).elim
              · have hf := it_f hf c_12
                refine lv_iconst (v := 3) hx hb dX4_bars_70 (by decide) ?_
                exact (er_ne hf).elim
            · have hf := it_f hf c_11
              refine lv_iconst (v := 2) hx hb dX4_bars_58 (by decide) ?_
              exact (er_ne hf).elim
          · have hf := it_t hf c_10
            refine lv_iconst (v := 1) hx hb dX4_bars_47 (by decide) ?_
            exact (er_ne hf).elim

set_option maxHeartbeats 4000000 in
set_option maxRecDepth 100000 in
theorem mx_X4_run (l : Launch) (hl0 : l.stackTraces = false) (dC : Nat → ClassId) (dI : Nat → Nat → Nat) (ad : Nat → Nat) (cy : Nat → ClassId) (hJ : J33 ad) (sa : Nat → Nat) (sz : Nat) (I : Nat → Nat → Int32) (D : Nat → Nat → UInt64) (p1 : Int32) (p2 : Int32) (p3 : Int32) (p4 : Int32) (E0 : String) (hf : f_X4_run I D p1 p2 p3 p4 = some (.error E0)) : vx_Met l yX4_run wsX4_run ({ frames := 8, cells := 1, slots := 6, locals := 137 }) (va_Pc [.ref (ad 0), .int p1, .int p2, .int p3, .int p4] (fun U => U.heap.size = sz ∧ hW dC dI ad cy I D U ∧ xS sa (AW ad sz) U)) (va_Qi (fun _ (_ : Unit) => False) (fun _ _ => True) (AW ad sz)) (vx_X (fun _ : Unit => True) (fun E _ t => E0 = E ∧ va_P (dC, dI) vwCl (iwH ad cy I D) t.heap ∧ va_K (dC, dI) vwCl (tysA cy) t) (AW ad sz)) 1 6 (AW ad sz) := by
  refine vx_ofW (cc := cX4_run) (maxL := 8) (ret := (some .int)) (by decide) rfl ?_
  intro p e s m args below meth c s₁ B hml ht hv
  obtain ⟨rfl, hsz, ⟨hP, hK, hN⟩, hZ⟩ := hv
  have hx := B.exec
  have hb := B.bytes
  have hr := B.returns
  have hts := atoms_spec (ws := wsX4_run) B.pre
  have hown : s.vm.findClass RX4 = some m.cls := findClass_of_methodNamed B.named
  have hlocks := B.notSynchronized
  subst hsz
  generalize hAe : AW ad s.heap.size = A at hZ ⊢
  have hA : ∀ q : Nat, s.heap.size ≤ q → A q := fun q h => by rw [← hAe]; exact Or.inr h
  have hA33 : ∀ k, k < 33 → A (ad k) := fun k h => by rw [← hAe]; exact Or.inl ⟨k, h, rfl⟩
  have hDD : ∀ I D, va_D A (iwH ad cy I D) := fun I D => iwH_D hJ hA33 I D
  obtain ⟨H, hH⟩ : ∃ H : Heap, H = s.heap := ⟨_, rfl⟩
  have hS : va_S A s.heap H [] := by rw [hH]; exact va_S.rf
  rw [← hH]
  rw [← hH] at hP
  have hl := lv_entry ([.ref (ad 0), .int p1, .int p2, .int p3, .int p4]) (n := 8) (Nat.le_of_ble_eq_true rfl)
  rw [lg_entry_eq]
  generalize (lg_sl ([.ref (ad 0), .int p1, .int p2, .int p3, .int p4]) ++ List.replicate (8 - (lg_sl ([.ref (ad 0), .int p1, .int p2, .int p3, .int p4])).length) Slot.unset).toArray = ls at hl ⊢
  have hl : lv_has ls 8 [(0, .ref (ad 0)), (1, .int p1), (2, .int p2), (3, .int p3), (4, .int p4)] := hl
  unfold f_X4_run at hf
  refine lv_aload_n hx hb dX4_run_0 rfl (lv_at hl 0 rfl) ?_
  refine lv_iload_n hx hb dX4_run_1 rfl (lv_at hl 1 rfl) ?_
  refine lv_iload_n hx hb dX4_run_2 rfl (lv_at hl 2 rfl) ?_
  refine lv_iload_n hx hb dX4_run_3 rfl (lv_at hl 3 rfl) ?_
  refine lv_iload hx hb dX4_run_4 (lv_at hl 4 rfl) ?_
  rcases bE_err hf with g_2 | ⟨r_1, g_2, hf⟩
  · have hAW : ∀ q, AW ad H.size q → A q := fun q h => h.elim (fun ⟨k, k1, k2⟩ => k2 ▸ hA33 k k1) (fun h => hA q (Nat.le_trans hS.1 h))
    refine vx_calli (vx_runV (As := [.int p1, .int p2, .int p3, .int p4]) (rest := []) ⟨hx, hb, hml, hown, hts⟩ (mx_X4_bars l hl0 dC dI ad cy hJ sa H.size I D p1 p2 p3 p4 E0 g_2) (cwV 4 hts gX4_run_X4_bars rfl rfl rfl (by decide +kernel) ⟨Nat.le_of_ble_eq_true rfl, Nat.le_of_ble_eq_true rfl⟩) ⟨(hW.preX [.ref (ad 0), .int p1, .int p2, .int p3, .int p4] hP hK hN (xS_kept (B := AW ad H.size) hZ hS hAW)).1, hW.recv (C := RX4) (T := TX4) (N := 14) hP hK heH_0 rfl, (hW.preX [.ref (ad 0), .int p1, .int p2, .int p3, .int p4] hP hK hN (xS_kept (B := AW ad H.size) hZ hS hAW)).2⟩ rfl rfl hl.1 rfl (lv_room (Nat.le_of_ble_eq_true rfl)) dX4_run_6 ⟨Nat.le_of_ble_eq_true rfl, Nat.le_of_ble_eq_true rfl⟩) hS (fun q _ h => hAW q h) hAW (fun q _ h => hAW q h) (fun E9 ce q9 u t H1 locs1 ht9 hvm hpu hBX hz1 hk1 hS h1 h2 h3 => ?_) (fun r9 u t H1 locs ht9 hvm hw hB hz1 hk1 hS => hw.elim)
    exact vx_out (fun x hx9 => (ht x hx9).elim) hlocks h1 h2 h3 (fun t9 ht8 hvm8 => ⟨(), trivial, ⟨hBX.1, by rw [ht8, ← ht9]; exact hBX.2.1, va_K.moved hvm8 hK⟩, hS.F ht8⟩) hS.2.2 (Nat.le_of_ble_eq_true rfl) (Nat.le_of_ble_eq_true rfl)
  · skip
    refine va_calli (va_runV (As := [.int p1, .int p2, .int p3, .int p4]) (rest := []) ⟨hx, hb, hml, hown, hts⟩ (mt_X4_bars l dC dI ad cy hJ H.size I D p1 p2 p3 p4 r_1 g_2) (cwV 4 hts gX4_run_X4_bars rfl rfl rfl (by decide +kernel) ⟨Nat.le_of_ble_eq_true rfl, Nat.le_of_ble_eq_true rfl⟩) ⟨(hW.pre [.ref (ad 0), .int p1, .int p2, .int p3, .int p4] hP hK hN).1, hW.recv (C := RX4) (T := TX4) (N := 14) hP hK heH_0 rfl, (hW.pre [.ref (ad 0), .int p1, .int p2, .int p3, .int p4] hP hK hN).2⟩ rfl rfl hl.1 rfl (lv_room (Nat.le_of_ble_eq_true rfl)) dX4_run_6 ⟨Nat.le_of_ble_eq_true rfl, Nat.le_of_ble_eq_true rfl⟩) hS (fun q _ h => hA q (Nat.le_trans hS.1 h)) (fun q h => hA q (Nat.le_trans hS.1 h)) (fun r9 u t H1 locs ht hvm hw hB hz1 hk1 hS => ?_)
    subst hw
    have hP := va_Pnew hP hk1
    clear hB hz1 hk1 hvm ht
    generalize H1 = H at hP hS ⊢
    refine lv_istore (lv' := [(5, .int r_1), (0, .ref (ad 0)), (1, .int p1), (2, .int p2), (3, .int p3), (4, .int p4)]) hx hb dX4_run_9 hl (by decide) rfl (fun ls hl => ?_)
    refine lv_iload hx hb dX4_run_11 (lv_at hl 0 rfl) ?_
    refine lv_if_eq (tgt := 22) hx hb dX4_run_13 (by decide) (fun c_3 => ?_) (fun c_3 => ?_)
    · have hf := it_t hf c_3
      refine lv_aload_n hx hb dX4_run_22 rfl (lv_at hl 1 rfl) ?_
      refine va_get (D := (dC, dI)) (ci := 5) (v := .ref (ad 2)) (C := RX4) (T := TX4) (N := 14) hx hb hts iX4_run_RX4 hown hK hP 0 heH_0 rfl 1 (by decide) (hts (.fieldLink RX4 17 "OverrunHouse" "mixes" "[LOverrunHouse$Mix;") (List.mem_cons_of_mem _ (List.mem_append_left _ (List.mem_append_left _ (List.mem_append_left _ (List.mem_append_left _ (List.mem_append_left _ (List.mem_append_left _ (List.mem_of_getElem? (i := 0) rfl))))))))) (fun _ h9 => h9) rfl dX4_run_23 ?_
      refine lv_iload_n hx hb dX4_run_26 rfl (lv_at hl 3 rfl) ?_
      obtain ⟨h_4, hf⟩ := ck_out hf
      refine wr_aald (b := 13) (n := 5) hx hb hK hP 2 2 heH_2 rfl (inB_in h_4) dX4_run_27 ?_
      refine lv_astore (lv' := [(6, .ref (ad (13 + (p2).toNatClampNeg))), (5, .int r_1), (0, .ref (ad 0)), (1, .int p1), (2, .int p2), (3, .int p3), (4, .int p4)]) hx hb dX4_run_28 hl (by decide) rfl (fun ls hl => ?_)
      refine lv_aload hx hb dX4_run_30 (lv_at hl 0 rfl) ?_
      refine lv_dup hx hb dX4_run_32 rfl ?_
      refine va_getN (D := (dC, dI)) (ci := 3) (v := .int (I (13 + (p2).toNatClampNeg) 1)) (C := RX2) (T := TX2) (N := 12) hx hb hts iX4_run_RX2 hown hK hP (13 + (p2).toNatClampNeg) (heH_Mix (inB_lt h_4)) rfl 1 (by decide) (va_Nw.use (w := .fieldLinkNest "OverrunHouse" 127 "OverrunHouse$Mix" "left" "I" "OverrunHouse") rfl (hN _ (List.mem_of_getElem? (i := 11) rfl))) (fun _ h9 => h9) rfl dX4_run_33 ?_
      refine lv_iload_n hx hb dX4_run_36 rfl (lv_at hl 5 rfl) ?_
      refine lv_isub hx hb dX4_run_37 ?_
      obtain ⟨I_5, eI_5, hf⟩ := nm_out hf
      refine va_putN (D := (dC, dI)) (ci := 3) (v := .int ((I (13 + (p2).toNatClampNeg) 1) - p3)) (ty := .int) (C := RX2) (T := TX2) (N := 12) hx hb hts iX4_run_RX2 tyX2 tyX2_ok nmX2 hown hK hP (hDD I D) hS (13 + (p2).toNatClampNeg) (heH_Mix (inB_lt h_4)) rfl 1 (by decide) (va_Nw.use (w := .fieldLinkNest "OverrunHouse" 127 "OverrunHouse$Mix" "left" "I" "OverrunHouse") rfl (hN _ (List.mem_of_getElem? (i := 11) rfl))) (fun _ h9 => h9) rfl (by decide +kernel) rfl rfl (Nat.le_of_ble_eq_true rfl) dX4_run_38 (fun H locs hP _ hS => ?_)
      have hP : va_P (dC, dI) vwCl (iwH ad cy I_5 D) H := by rw [eI_5]; exact hpI (by have := (inB_lt h_4); omega) ((cellH_Mix ad cy (inB_lt h_4) _ _).trans rfl) hP
      refine lv_aload hx hb dX4_run_41 (lv_at hl 0 rfl) ?_
      refine lv_dup hx hb dX4_run_43 rfl ?_
      refine va_getN (D := (dC, dI)) (ci := 3) (v := .int (I_5 (13 + (p2).toNatClampNeg) 9)) (C := RX2) (T := TX2) (N := 12) hx hb hts iX4_run_RX2 hown hK hP (13 + (p2).toNatClampNeg) (heH_Mix (inB_lt h_4)) rfl 9 (by decide) (va_Nw.use (w := .fieldLinkNest "OverrunHouse" 102 "OverrunHouse$Mix" "batchesOfIt" "I" "OverrunHouse") rfl (hN _ (List.mem_of_getElem? (i := 19) rfl))) (fun _ h9 => h9) rfl dX4_run_44 ?_
      refine lv_iconst (v := 1) hx hb dX4_run_47 (by decide) ?_
      refine lv_iadd hx hb dX4_run_48 ?_
      obtain ⟨I_6, eI_6, hf⟩ := nm_out hf
      refine va_putN (D := (dC, dI)) (ci := 3) (v := .int ((I_5 (13 + (p2).toNatClampNeg) 9) + 1)) (ty := .int) (C := RX2) (T := TX2) (N := 12) hx hb hts iX4_run_RX2 tyX2 tyX2_ok nmX2 hown hK hP (hDD I_5 D) hS (13 + (p2).toNatClampNeg) (heH_Mix (inB_lt h_4)) rfl 9 (by decide) (va_Nw.use (w := .fieldLinkNest "OverrunHouse" 102 "OverrunHouse$Mix" "batchesOfIt" "I" "OverrunHouse") rfl (hN _ (List.mem_of_getElem? (i := 19) rfl))) (fun _ h9 => h9) rfl (by decide +kernel) rfl rfl (Nat.le_of_ble_eq_true rfl) dX4_run_49 (fun H locs hP _ hS => ?_)
      have hP : va_P (dC, dI) vwCl (iwH ad cy I_6 D) H := by rw [eI_6]; exact hpI (by have := (inB_lt h_4); omega) ((cellH_Mix ad cy (inB_lt h_4) _ _).trans rfl) hP
      refine lv_aload_n hx hb dX4_run_52 rfl (lv_at hl 2 rfl) ?_
      refine va_get (D := (dC, dI)) (ci := 5) (v := .ref (ad 5)) (C := RX4) (T := TX4) (N := 14) hx hb hts iX4_run_RX4 hown hK hP 0 heH_0 rfl 4 (by decide) (hts (.fieldLink RX4 33 "OverrunHouse" "rests" "[I") (List.mem_cons_of_mem _ (List.mem_append_left _ (List.mem_append_left _ (List.mem_append_left _ (List.mem_append_left _ (List.mem_append_left _ (List.mem_append_left _ (List.mem_of_getElem? (i := 1) rfl))))))))) (fun _ h9 => h9) rfl dX4_run_53 ?_
      refine lv_iload_n hx hb dX4_run_56 rfl (lv_at hl 3 rfl) ?_
      refine lv_aload hx hb dX4_run_57 (lv_at hl 0 rfl) ?_
      refine va_getN (D := (dC, dI)) (ci := 3) (v := .int (I_6 (13 + (p2).toNatClampNeg) 6)) (C := RX2) (T := TX2) (N := 12) hx hb hts iX4_run_RX2 hown hK hP (13 + (p2).toNatClampNeg) (heH_Mix (inB_lt h_4)) rfl 6 (by decide) (va_Nw.use (w := .fieldLinkNest "OverrunHouse" 130 "OverrunHouse$Mix" "harms" "I" "OverrunHouse") rfl (hN _ (List.mem_of_getElem? (i := 16) rfl))) (fun _ h9 => h9) rfl dX4_run_59 ?_
      obtain ⟨h_7, hf⟩ := ck_out hf
      obtain ⟨I_8, eI_8, hf⟩ := nm_out hf
      refine va_iast (n := 2) (f := I_6 5) hx hb hK hP (hDD I_6 D) hS 5 0 heH_5 rfl (inB_in h_7) dX4_run_62 (fun H locs hP _ hS => ?_)
      have hP : va_P (dC, dI) vwCl (iwH ad cy I_8 D) H := by rw [eI_8]; exact hpI (by decide) ((cellH_5 ad cy _ _).trans rfl) hP
      refine lv_aload_n hx hb dX4_run_63 rfl (lv_at hl 2 rfl) ?_
      refine va_get (D := (dC, dI)) (ci := 5) (v := .ref (ad 3)) (C := RX4) (T := TX4) (N := 14) hx hb hts iX4_run_RX4 hown hK hP 0 heH_0 rfl 2 (by decide) (hts (.fieldLink RX4 23 "OverrunHouse" "batches" "[LOverrunHouse$Batch;") (List.mem_cons_of_mem _ (List.mem_append_left _ (List.mem_append_left _ (List.mem_append_left _ (List.mem_append_left _ (List.mem_append_left _ (List.mem_append_left _ (List.mem_of_getElem? (i := 2) rfl))))))))) (fun _ h9 => h9) rfl dX4_run_64 ?_
      refine lv_aload_n hx hb dX4_run_67 rfl (lv_at hl 2 rfl) ?_
      refine va_get (D := (dC, dI)) (ci := 5) (v := .int (I_8 0 7)) (C := RX4) (T := TX4) (N := 14) hx hb hts iX4_run_RX4 hown hK hP 0 heH_0 rfl 7 (by decide) (hts (.fieldLink RX4 44 "OverrunHouse" "batchCount" "I") (List.mem_cons_of_mem _ (List.mem_append_left _ (List.mem_append_left _ (List.mem_append_left _ (List.mem_append_left _ (List.mem_append_left _ (List.mem_append_left _ (List.mem_of_getElem? (i := 3) rfl))))))))) (fun _ h9 => h9) rfl dX4_run_68 ?_
      obtain ⟨h_9, hf⟩ := ck_out hf
      refine wr_aald (b := 18) (n := 12) hx hb hK hP 3 3 heH_3 rfl (inB_in h_9) dX4_run_71 ?_
      refine lv_astore (lv' := [(7, .ref (ad (18 + ((I_8 0 7)).toNatClampNeg))), (6, .ref (ad (13 + (p2).toNatClampNeg))), (5, .int r_1), (0, .ref (ad 0)), (1, .int p1), (2, .int p2), (3, .int p3), (4, .int p4)]) hx hb dX4_run_72 hl (by decide) rfl (fun ls hl => ?_)
      refine lv_aload hx hb dX4_run_74 (lv_at hl 0 rfl) ?_
      refine lv_iload_n hx hb dX4_run_76 rfl (lv_at hl 5 rfl) ?_
      obtain ⟨I_10, eI_10, hf⟩ := nm_out hf
      refine va_putN (D := (dC, dI)) (ci := 1) (v := .int p2) (ty := .int) (C := RX0) (T := TX0) (N := 5) hx hb hts iX4_run_RX0 tyX0 tyX0_ok nmX0 hown hK hP (hDD I_8 D) hS (18 + ((I_8 0 7)).toNatClampNeg) (heH_Batch (inB_lt h_9)) rfl 0 (by decide) (va_Nw.use (w := .fieldLinkNest "OverrunHouse" 131 "OverrunHouse$Batch" "mix" "I" "OverrunHouse") rfl (hN _ (List.mem_of_getElem? (i := 22) rfl))) (fun _ h9 => h9) rfl (by decide +kernel) rfl rfl (Nat.le_of_ble_eq_true rfl) dX4_run_77 (fun H locs hP _ hS => ?_)
      have hP : va_P (dC, dI) vwCl (iwH ad cy I_10 D) H := by rw [eI_10]; exact hpI (by have := (inB_lt h_9); omega) ((cellH_Batch ad cy (inB_lt h_9) _ _).trans rfl) hP
      refine lv_aload hx hb dX4_run_80 (lv_at hl 0 rfl) ?_
      refine lv_iload_n hx hb dX4_run_82 rfl (lv_at hl 6 rfl) ?_
      refine lv_iconst (v := 2) hx hb dX4_run_83 (by decide) ?_
      refine lv_isub hx hb dX4_run_84 ?_
      refine lv_bipush (v := 100) hx hb dX4_run_85 (by decide) ?_
      refine lv_iload hx hb dX4_run_87 (lv_at hl 7 rfl) ?_
      refine lv_iadd hx hb dX4_run_89 ?_
      refine lv_imul hx hb dX4_run_90 ?_
      refine lv_bipush (v := 100) hx hb dX4_run_91 (by decide) ?_
      refine lv_idiv hx hb dX4_run_93 (by decide) ?_
      obtain ⟨I_11, eI_11, hf⟩ := nm_out hf
      refine va_putN (D := (dC, dI)) (ci := 1) (v := .int (((p3 - 2) * (100 + p4)) / 100)) (ty := .int) (C := RX0) (T := TX0) (N := 5) hx hb hts iX4_run_RX0 tyX0 tyX0_ok nmX0 hown hK hP (hDD I_10 D) hS (18 + ((I_8 0 7)).toNatClampNeg) (heH_Batch (inB_lt h_9)) rfl 1 (by decide) (va_Nw.use (w := .fieldLinkNest "OverrunHouse" 134 "OverrunHouse$Batch" "litres" "I" "OverrunHouse") rfl (hN _ (List.mem_of_getElem? (i := 23) rfl))) (fun _ h9 => h9) rfl (by decide +kernel) rfl rfl (Nat.le_of_ble_eq_true rfl) dX4_run_94 (fun H locs hP _ hS => ?_)
      have hP : va_P (dC, dI) vwCl (iwH ad cy I_11 D) H := by rw [eI_11]; exact hpI (by have := (inB_lt h_9); omega) ((cellH_Batch ad cy (inB_lt h_9) _ _).trans rfl) hP
      refine lv_aload hx hb dX4_run_97 (lv_at hl 0 rfl) ?_
      refine lv_ldc2d (v := 4626322717216342016) hx hb hown (hts (.constantDouble RX4 137 (4626322717216342016)) (List.mem_cons_of_mem _ (List.mem_append_left _ (List.mem_append_left _ (List.mem_append_left _ (List.mem_append_left _ (List.mem_append_left _ (List.mem_append_left _ (List.mem_of_getElem? (i := 4) rfl))))))))) dX4_run_99 ?_
      obtain ⟨D_12, eD_12, hf⟩ := nm_out hf
      refine va_putN (D := (dC, dI)) (ci := 1) (v := .double (4626322717216342016 : UInt64)) (ty := .double) (C := RX0) (T := TX0) (N := 5) hx hb hts iX4_run_RX0 tyX0 tyX0_ok nmX0 hown hK hP (hDD I_11 D) hS (18 + ((I_8 0 7)).toNatClampNeg) (heH_Batch (inB_lt h_9)) rfl 4 (by decide) (va_Nw.use (w := .fieldLinkNest "OverrunHouse" 139 "OverrunHouse$Batch" "crystal" "D" "OverrunHouse") rfl (hN _ (List.mem_of_getElem? (i := 26) rfl))) (fun _ h9 => h9) rfl (by decide +kernel) rfl rfl (Nat.le_of_ble_eq_true rfl) dX4_run_102 (fun H locs hP _ hS => ?_)
      have hP : va_P (dC, dI) vwCl (iwH ad cy I_11 D_12) H := by rw [eD_12]; exact hpD (by have := (inB_lt h_9); omega) ((cellH_Batch ad cy (inB_lt h_9) _ _).trans rfl) hP
      refine lv_aload_n hx hb dX4_run_105 rfl (lv_at hl 3 rfl) ?_
      refine lv_dup hx hb dX4_run_106 rfl ?_
      refine va_get (D := (dC, dI)) (ci := 5) (v := .int (I_11 0 7)) (C := RX4) (T := TX4) (N := 14) hx hb hts iX4_run_RX4 hown hK hP 0 heH_0 rfl 7 (by decide) (hts (.fieldLink RX4 44 "OverrunHouse" "batchCount" "I") (List.mem_cons_of_mem _ (List.mem_append_left _ (List.mem_append_left _ (List.mem_append_left _ (List.mem_append_left _ (List.mem_append_left _ (List.mem_append_left _ (List.mem_of_getElem? (i := 3) rfl))))))))) (fun _ h9 => h9) rfl dX4_run_107 ?_
      refine lv_iconst (v := 1) hx hb dX4_run_110 (by decide) ?_
      refine lv_iadd hx hb dX4_run_111 ?_
      obtain ⟨I_13, eI_13, hf⟩ := nm_out hf
      refine va_put (D := (dC, dI)) (ci := 5) (v := .int ((I_11 0 7) + 1)) (ty := .int) (C := RX4) (T := TX4) (N := 14) hx hb hts iX4_run_RX4 tyX4 tyX4_ok nmX4 hown hK hP (hDD I_11 D_12) hS 0 heH_0 rfl 7 (by decide) (hts (.fieldLink RX4 44 "OverrunHouse" "batchCount" "I") (List.mem_cons_of_mem _ (List.mem_append_left _ (List.mem_append_left _ (List.mem_append_left _ (List.mem_append_left _ (List.mem_append_left _ (List.mem_append_left _ (List.mem_of_getElem? (i := 3) rfl))))))))) (fun _ h9 => h9) rfl (by decide +kernel) rfl rfl (Nat.le_of_ble_eq_true rfl) dX4_run_112 (fun H locs hP _ hS => ?_)
      have hP : va_P (dC, dI) vwCl (iwH ad cy I_13 D_12) H := by rw [eI_13]; exact hpI (by decide) ((cellH_0 ad cy _ _).trans rfl) hP
      refine lv_aload_n hx hb dX4_run_115 rfl (lv_at hl 3 rfl) ?_
      refine va_get (D := (dC, dI)) (ci := 5) (v := .int (I_13 0 7)) (C := RX4) (T := TX4) (N := 14) hx hb hts iX4_run_RX4 hown hK hP 0 heH_0 rfl 7 (by decide) (hts (.fieldLink RX4 44 "OverrunHouse" "batchCount" "I") (List.mem_cons_of_mem _ (List.mem_append_left _ (List.mem_append_left _ (List.mem_append_left _ (List.mem_append_left _ (List.mem_append_left _ (List.mem_append_left _ (List.mem_of_getElem? (i := 3) rfl))))))))) (fun _ h9 => h9) rfl dX4_run_116 ?_
      refine lv_iconst (v := 1) hx hb dX4_run_119 (by decide) ?_
      refine lv_isub hx hb dX4_run_120 ?_
      exact (er_ne hf).elim
    · have hf := it_f hf c_3
      refine lv_bipush (v := (-10)) hx hb dX4_run_16 (by decide) ?_
      refine lv_iload hx hb dX4_run_18 (lv_at hl 0 rfl) ?_
      refine lv_isub hx hb dX4_run_20 ?_
      exact (er_ne hf).elim

set_option maxHeartbeats 4000000 in
set_option maxRecDepth 100000 in
theorem mx_X4_wash (l : Launch) (hl0 : l.stackTraces = false) (dC : Nat → ClassId) (dI : Nat → Nat → Nat) (ad : Nat → Nat) (cy : Nat → ClassId) (hJ : J33 ad) (sa : Nat → Nat) (sz : Nat) (I : Nat → Nat → Int32) (D : Nat → Nat → UInt64) (p1 : Int32) (E0 : String) (hf : f_X4_wash I D p1 = some (.error E0)) : vx_Met l yX4_wash wsX4_wash ({ frames := 7, cells := 1, slots := 6, locals := 111 }) (va_Pc [.ref (ad 0), .int p1] (fun U => U.heap.size = sz ∧ hW dC dI ad cy I D U ∧ xS sa (AW ad sz) U)) (va_Qi (fun _ (_ : Unit) => False) (fun _ _ => True) (AW ad sz)) (vx_X (fun _ : Unit => True) (fun E _ t => E0 = E ∧ va_P (dC, dI) vwCl (iwH ad cy I D) t.heap ∧ va_K (dC, dI) vwCl (tysA cy) t) (AW ad sz)) 1 6 (AW ad sz) := by
  refine vx_ofW (cc := cX4_wash) (maxL := 3) (ret := (some .int)) (by decide) rfl ?_
  intro p e s m args below meth c s₁ B hml ht hv
  obtain ⟨rfl, hsz, ⟨hP, hK, hN⟩, hZ⟩ := hv
  have hx := B.exec
  have hb := B.bytes
  have hr := B.returns
  have hts := atoms_spec (ws := wsX4_wash) B.pre
  have hown : s.vm.findClass RX4 = some m.cls := findClass_of_methodNamed B.named
  have hlocks := B.notSynchronized
  subst hsz
  generalize hAe : AW ad s.heap.size = A at hZ ⊢
  have hA : ∀ q : Nat, s.heap.size ≤ q → A q := fun q h => by rw [← hAe]; exact Or.inr h
  have hA33 : ∀ k, k < 33 → A (ad k) := fun k h => by rw [← hAe]; exact Or.inl ⟨k, h, rfl⟩
  have hDD : ∀ I D, va_D A (iwH ad cy I D) := fun I D => iwH_D hJ hA33 I D
  obtain ⟨H, hH⟩ : ∃ H : Heap, H = s.heap := ⟨_, rfl⟩
  have hS : va_S A s.heap H [] := by rw [hH]; exact va_S.rf
  rw [← hH]
  rw [← hH] at hP
  have hl := lv_entry ([.ref (ad 0), .int p1]) (n := 3) (Nat.le_of_ble_eq_true rfl)
  rw [lg_entry_eq]
  generalize (lg_sl ([.ref (ad 0), .int p1]) ++ List.replicate (3 - (lg_sl ([.ref (ad 0), .int p1])).length) Slot.unset).toArray = ls at hl ⊢
  have hl : lv_has ls 3 [(0, .ref (ad 0)), (1, .int p1)] := hl
  unfold f_X4_wash at hf
  refine lv_iload_n hx hb dX4_wash_0 rfl (lv_at hl 1 rfl) ?_
  refine lv_iconst (v := 2) hx hb dX4_wash_1 (by decide) ?_
  rcases bE_err hf with g_2 | ⟨_, g_2, hf⟩
  · skip
    refine vx_callv (vx_runS (As := [.int p1, .int 2]) (rest := []) ⟨hx, hb, hml, hown, hts⟩ (mx_X4_checkNumber l hl0 sa H.size p1 2 E0 g_2) (va_cwS 2 hts gX4_wash_X4_checkNumber rfl rfl rfl (by decide +kernel) ⟨Nat.le_of_ble_eq_true rfl, Nat.le_of_ble_eq_true rfl⟩) (pre0X [.int p1, .int 2] (xS_kept (B := fun q => H.size ≤ q) hZ hS (fun q h => hA q (Nat.le_trans hS.1 h)))) rfl rfl hl.1 rfl (lv_room (Nat.le_of_ble_eq_true rfl)) dX4_wash_2 ⟨Nat.le_of_ble_eq_true rfl, Nat.le_of_ble_eq_true rfl⟩) hS (fun q _ h => hA q (Nat.le_trans hS.1 h)) (fun q h => hA q (Nat.le_trans hS.1 h)) (fun q _ h => hA q (Nat.le_trans hS.1 h)) (fun E9 ce q9 u t H1 locs1 ht9 hvm hpu hBX hz1 hk1 hS h1 h2 h3 => ?_) (fun u t H1 locs ht9 hvm hw hB hz1 hk1 hS => hw.elim)
    exact vx_out (fun x hx9 => (ht x hx9).elim) hlocks h1 h2 h3 (fun t9 ht8 hvm8 => ⟨(), trivial, ⟨hBX, by rw [ht8]; exact va_Pnew hP hk1, va_K.moved hvm8 hK⟩, hS.F ht8⟩) hS.2.2 (Nat.le_of_ble_eq_true rfl) (Nat.le_of_ble_eq_true rfl)
  · skip
    refine va_callv (va_runS (As := [.int p1, .int 2]) (rest := []) ⟨hx, hb, hml, hown, hts⟩ (mt_X4_checkNumber l H.size p1 2  g_2) (va_cwS 2 hts gX4_wash_X4_checkNumber rfl rfl rfl (by decide +kernel) ⟨Nat.le_of_ble_eq_true rfl, Nat.le_of_ble_eq_true rfl⟩) (pre0 [.int p1, .int 2]) rfl rfl hl.1 rfl (lv_room (Nat.le_of_ble_eq_true rfl)) dX4_wash_2 ⟨Nat.le_of_ble_eq_true rfl, Nat.le_of_ble_eq_true rfl⟩) hS (fun q _ h => hA q (Nat.le_trans hS.1 h)) (fun q h => hA q (Nat.le_trans hS.1 h)) (fun u t H1 locs ht hvm hw hB hz1 hk1 hS => ?_)
    have hP := va_Pnew hP hk1
    clear hB hz1 hk1 hvm ht
    generalize H1 = H at hP hS ⊢
    refine lv_aload_n hx hb dX4_wash_5 rfl (lv_at hl 0 rfl) ?_
    refine va_get (D := (dC, dI)) (ci := 5) (v := .ref (ad 5)) (C := RX4) (T := TX4) (N := 14) hx hb hts iX4_wash_RX4 hown hK hP 0 heH_0 rfl 4 (by decide) (hts (.fieldLink RX4 33 "OverrunHouse" "rests" "[I") (List.mem_cons_of_mem _ (List.mem_append_left _ (List.mem_append_left _ (List.mem_of_getElem? (i := 0) rfl))))) (fun _ h9 => h9) rfl dX4_wash_6 ?_
    refine lv_iload_n hx hb dX4_wash_9 rfl (lv_at hl 1 rfl) ?_
    obtain ⟨h_3, hf⟩ := ck_out hf
    refine va_iald (n := 2) (f := I 5) hx hb hK hP 5 0 heH_5 rfl (inB_in h_3) dX4_wash_10 ?_
    refine lv_istore_n (lv' := [(2, .int (I 5 (p1).toNatClampNeg)), (0, .ref (ad 0)), (1, .int p1)]) hx hb dX4_wash_11 rfl hl (by decide) rfl (fun ls hl => ?_)
    refine lv_aload_n hx hb dX4_wash_12 rfl (lv_at hl 1 rfl) ?_
    refine va_get (D := (dC, dI)) (ci := 5) (v := .ref (ad 5)) (C := RX4) (T := TX4) (N := 14) hx hb hts iX4_wash_RX4 hown hK hP 0 heH_0 rfl 4 (by decide) (hts (.fieldLink RX4 33 "OverrunHouse" "rests" "[I") (List.mem_cons_of_mem _ (List.mem_append_left _ (List.mem_append_left _ (List.mem_of_getElem? (i := 0) rfl))))) (fun _ h9 => h9) rfl dX4_wash_13 ?_
    refine lv_iload_n hx hb dX4_wash_16 rfl (lv_at hl 2 rfl) ?_
    refine lv_iconst (v := 0) hx hb dX4_wash_17 (by decide) ?_
    obtain ⟨h_4, hf⟩ := ck_out hf
    obtain ⟨I_5, eI_5, hf⟩ := nm_out hf
    refine va_iast (n := 2) (f := I 5) hx hb hK hP (hDD I D) hS 5 0 heH_5 rfl (inB_in h_4) dX4_wash_18 (fun H locs hP _ hS => ?_)
    have hP : va_P (dC, dI) vwCl (iwH ad cy I_5 D) H := by rw [eI_5]; exact hpI (by decide) ((cellH_5 ad cy _ _).trans rfl) hP
    refine lv_aload_n hx hb dX4_wash_19 rfl (lv_at hl 1 rfl) ?_
    refine lv_dup hx hb dX4_wash_20 rfl ?_
    refine va_get (D := (dC, dI)) (ci := 5) (v := .int (I_5 0 11)) (C := RX4) (T := TX4) (N := 14) hx hb hts iX4_wash_RX4 hown hK hP 0 heH_0 rfl 11 (by decide) (hts (.fieldLink RX4 56 "OverrunHouse" "washesEver" "I") (List.mem_cons_of_mem _ (List.mem_append_left _ (List.mem_append_left _ (List.mem_of_getElem? (i := 1) rfl))))) (fun _ h9 => h9) rfl dX4_wash_21 ?_
    refine lv_iconst (v := 1) hx hb dX4_wash_24 (by decide) ?_
    refine lv_iadd hx hb dX4_wash_25 ?_
    obtain ⟨I_6, eI_6, hf⟩ := nm_out hf
    refine va_put (D := (dC, dI)) (ci := 5) (v := .int ((I_5 0 11) + 1)) (ty := .int) (C := RX4) (T := TX4) (N := 14) hx hb hts iX4_wash_RX4 tyX4 tyX4_ok nmX4 hown hK hP (hDD I_5 D) hS 0 heH_0 rfl 11 (by decide) (hts (.fieldLink RX4 56 "OverrunHouse" "washesEver" "I") (List.mem_cons_of_mem _ (List.mem_append_left _ (List.mem_append_left _ (List.mem_of_getElem? (i := 1) rfl))))) (fun _ h9 => h9) rfl (by decide +kernel) rfl rfl (Nat.le_of_ble_eq_true rfl) dX4_wash_26 (fun H locs hP _ hS => ?_)
    have hP : va_P (dC, dI) vwCl (iwH ad cy I_6 D) H := by rw [eI_6]; exact hpI (by decide) ((cellH_0 ad cy _ _).trans rfl) hP
    refine lv_iload_n hx hb dX4_wash_29 rfl (lv_at hl 0 rfl) ?_
    exact (er_ne hf).elim

set_option maxHeartbeats 4000000 in
set_option maxRecDepth 100000 in
theorem mx_X4_harden (l : Launch) (hl0 : l.stackTraces = false) (dC : Nat → ClassId) (dI : Nat → Nat → Nat) (ad : Nat → Nat) (cy : Nat → ClassId) (hJ : J33 ad) (sa : Nat → Nat) (sz : Nat) (I : Nat → Nat → Int32) (D : Nat → Nat → UInt64) (p1 : Int32) (p2 : Int32) (E0 : String) (hf : f_X4_harden I D p1 p2 = some (.error E0)) : vx_Met l yX4_harden wsX4_harden ({ frames := 7, cells := 1, slots := 6, locals := 112 }) (va_Pc [.ref (ad 0), .int p1, .int p2] (fun U => U.heap.size = sz ∧ hW dC dI ad cy I D U ∧ xS sa (AW ad sz) U)) (va_Qd (fun _ (_ : Unit) => False) (fun _ _ => True) (AW ad sz)) (vx_X (fun _ : Unit => True) (fun E _ t => E0 = E ∧ va_P (dC, dI) vwCl (iwH ad cy I D) t.heap ∧ va_K (dC, dI) vwCl (tysA cy) t) (AW ad sz)) 1 6 (AW ad sz) := by
  refine vx_ofW (cc := cX4_harden) (maxL := 4) (ret := (some .double)) (by decide) rfl ?_
  intro p e s m args below meth c s₁ B hml ht hv
  obtain ⟨rfl, hsz, ⟨hP, hK, hN⟩, hZ⟩ := hv
  have hx := B.exec
  have hb := B.bytes
  have hr := B.returns
  have hts := atoms_spec (ws := wsX4_harden) B.pre
  have hown : s.vm.findClass RX4 = some m.cls := findClass_of_methodNamed B.named
  have hlocks := B.notSynchronized
  subst hsz
  generalize hAe : AW ad s.heap.size = A at hZ ⊢
  have hA : ∀ q : Nat, s.heap.size ≤ q → A q := fun q h => by rw [← hAe]; exact Or.inr h
  have hA33 : ∀ k, k < 33 → A (ad k) := fun k h => by rw [← hAe]; exact Or.inl ⟨k, h, rfl⟩
  have hDD : ∀ I D, va_D A (iwH ad cy I D) := fun I D => iwH_D hJ hA33 I D
  obtain ⟨H, hH⟩ : ∃ H : Heap, H = s.heap := ⟨_, rfl⟩
  have hS : va_S A s.heap H [] := by rw [hH]; exact va_S.rf
  rw [← hH]
  rw [← hH] at hP
  have hl := lv_entry ([.ref (ad 0), .int p1, .int p2]) (n := 4) (Nat.le_of_ble_eq_true rfl)
  rw [lg_entry_eq]
  generalize (lg_sl ([.ref (ad 0), .int p1, .int p2]) ++ List.replicate (4 - (lg_sl ([.ref (ad 0), .int p1, .int p2])).length) Slot.unset).toArray = ls at hl ⊢
  have hl : lv_has ls 4 [(0, .ref (ad 0)), (1, .int p1), (2, .int p2)] := hl
  unfold f_X4_harden at hf
  refine lv_iload_n hx hb dX4_harden_0 rfl (lv_at hl 1 rfl) ?_
  refine lv_aload_n hx hb dX4_harden_1 rfl (lv_at hl 0 rfl) ?_
  refine va_get (D := (dC, dI)) (ci := 5) (v := .int (I 0 7)) (C := RX4) (T := TX4) (N := 14) hx hb hts iX4_harden_RX4 hown hK hP 0 heH_0 rfl 7 (by decide) (hts (.fieldLink RX4 44 "OverrunHouse" "batchCount" "I") (List.mem_cons_of_mem _ (List.mem_append_left _ (List.mem_append_left _ (List.mem_append_left _ (List.mem_append_left _ (List.mem_append_left _ (List.mem_of_getElem? (i := 2) rfl)))))))) (fun _ h9 => h9) rfl dX4_harden_2 ?_
  rcases bE_err hf with g_2 | ⟨_, g_2, hf⟩
  · skip
    refine vx_callv (vx_runS (As := [.int p1, .int (I 0 7)]) (rest := []) ⟨hx, hb, hml, hown, hts⟩ (mx_X4_checkNumber l hl0 sa H.size p1 (I 0 7) E0 g_2) (va_cwS 2 hts gX4_harden_X4_checkNumber rfl rfl rfl (by decide +kernel) ⟨Nat.le_of_ble_eq_true rfl, Nat.le_of_ble_eq_true rfl⟩) (pre0X [.int p1, .int (I 0 7)] (xS_kept (B := fun q => H.size ≤ q) hZ hS (fun q h => hA q (Nat.le_trans hS.1 h)))) rfl rfl hl.1 rfl (lv_room (Nat.le_of_ble_eq_true rfl)) dX4_harden_5 ⟨Nat.le_of_ble_eq_true rfl, Nat.le_of_ble_eq_true rfl⟩) hS (fun q _ h => hA q (Nat.le_trans hS.1 h)) (fun q h => hA q (Nat.le_trans hS.1 h)) (fun q _ h => hA q (Nat.le_trans hS.1 h)) (fun E9 ce q9 u t H1 locs1 ht9 hvm hpu hBX hz1 hk1 hS h1 h2 h3 => ?_) (fun u t H1 locs ht9 hvm hw hB hz1 hk1 hS => hw.elim)
    exact vx_out (fun x hx9 => (ht x hx9).elim) hlocks h1 h2 h3 (fun t9 ht8 hvm8 => ⟨(), trivial, ⟨hBX, by rw [ht8]; exact va_Pnew hP hk1, va_K.moved hvm8 hK⟩, hS.F ht8⟩) hS.2.2 (Nat.le_of_ble_eq_true rfl) (Nat.le_of_ble_eq_true rfl)
  · skip
    refine va_callv (va_runS (As := [.int p1, .int (I 0 7)]) (rest := []) ⟨hx, hb, hml, hown, hts⟩ (mt_X4_checkNumber l H.size p1 (I 0 7)  g_2) (va_cwS 2 hts gX4_harden_X4_checkNumber rfl rfl rfl (by decide +kernel) ⟨Nat.le_of_ble_eq_true rfl, Nat.le_of_ble_eq_true rfl⟩) (pre0 [.int p1, .int (I 0 7)]) rfl rfl hl.1 rfl (lv_room (Nat.le_of_ble_eq_true rfl)) dX4_harden_5 ⟨Nat.le_of_ble_eq_true rfl, Nat.le_of_ble_eq_true rfl⟩) hS (fun q _ h => hA q (Nat.le_trans hS.1 h)) (fun q h => hA q (Nat.le_trans hS.1 h)) (fun u t H1 locs ht hvm hw hB hz1 hk1 hS => ?_)
    have hP := va_Pnew hP hk1
    clear hB hz1 hk1 hvm ht
    generalize H1 = H at hP hS ⊢
    refine lv_iload_n hx hb dX4_harden_8 rfl (lv_at hl 2 rfl) ?_
    refine lv_bipush (v := 10) hx hb dX4_harden_9 (by decide) ?_
    refine lv_bipush (v := 90) hx hb dX4_harden_11 (by decide) ?_
    rcases bE_err hf with g_4 | ⟨_, g_4, hf⟩
    · skip
      refine vx_callv (vx_runS (As := [.int p2, .int 10, .int 90]) (rest := []) ⟨hx, hb, hml, hown, hts⟩ (mx_X4_checkRange l hl0 sa H.size p2 10 90 E0 g_4) (va_cwS 3 hts gX4_harden_X4_checkRange rfl rfl rfl (by decide +kernel) ⟨Nat.le_of_ble_eq_true rfl, Nat.le_of_ble_eq_true rfl⟩) (pre0X [.int p2, .int 10, .int 90] (xS_kept (B := fun q => H.size ≤ q) hZ hS (fun q h => hA q (Nat.le_trans hS.1 h)))) rfl rfl hl.1 rfl (lv_room (Nat.le_of_ble_eq_true rfl)) dX4_harden_13 ⟨Nat.le_of_ble_eq_true rfl, Nat.le_of_ble_eq_true rfl⟩) hS (fun q _ h => hA q (Nat.le_trans hS.1 h)) (fun q h => hA q (Nat.le_trans hS.1 h)) (fun q _ h => hA q (Nat.le_trans hS.1 h)) (fun E9 ce q9 u t H1 locs1 ht9 hvm hpu hBX hz1 hk1 hS h1 h2 h3 => ?_) (fun u t H1 locs ht9 hvm hw hB hz1 hk1 hS => hw.elim)
      exact vx_out (fun x hx9 => (ht x hx9).elim) hlocks h1 h2 h3 (fun t9 ht8 hvm8 => ⟨(), trivial, ⟨hBX, by rw [ht8]; exact va_Pnew hP hk1, va_K.moved hvm8 hK⟩, hS.F ht8⟩) hS.2.2 (Nat.le_of_ble_eq_true rfl) (Nat.le_of_ble_eq_true rfl)
    · skip
      refine va_callv (va_runS (As := [.int p2, .int 10, .int 90]) (rest := []) ⟨hx, hb, hml, hown, hts⟩ (mt_X4_checkRange l H.size p2 10 90  g_4) (va_cwS 3 hts gX4_harden_X4_checkRange rfl rfl rfl (by decide +kernel) ⟨Nat.le_of_ble_eq_true rfl, Nat.le_of_ble_eq_true rfl⟩) (pre0 [.int p2, .int 10, .int 90]) rfl rfl hl.1 rfl (lv_room (Nat.le_of_ble_eq_true rfl)) dX4_harden_13 ⟨Nat.le_of_ble_eq_true rfl, Nat.le_of_ble_eq_true rfl⟩) hS (fun q _ h => hA q (Nat.le_trans hS.1 h)) (fun q h => hA q (Nat.le_trans hS.1 h)) (fun u t H1 locs ht hvm hw hB hz1 hk1 hS => ?_)
      have hP := va_Pnew hP hk1
      clear hB hz1 hk1 hvm ht
      generalize H1 = H at hP hS ⊢
      refine lv_aload_n hx hb dX4_harden_16 rfl (lv_at hl 0 rfl) ?_
      refine va_get (D := (dC, dI)) (ci := 5) (v := .ref (ad 3)) (C := RX4) (T := TX4) (N := 14) hx hb hts iX4_harden_RX4 hown hK hP 0 heH_0 rfl 2 (by decide) (hts (.fieldLink RX4 23 "OverrunHouse" "batches" "[LOverrunHouse$Batch;") (List.mem_cons_of_mem _ (List.mem_append_left _ (List.mem_append_left _ (List.mem_append_left _ (List.mem_append_left _ (List.mem_append_left _ (List.mem_of_getElem? (i := 3) rfl)))))))) (fun _ h9 => h9) rfl dX4_harden_17 ?_
      refine lv_iload_n hx hb dX4_harden_20 rfl (lv_at hl 1 rfl) ?_
      obtain ⟨h_5, hf⟩ := ck_out hf
      refine wr_aald (b := 18) (n := 12) hx hb hK hP 3 3 heH_3 rfl (inB_in h_5) dX4_harden_21 ?_
      refine lv_astore_n (lv' := [(3, .ref (ad (18 + (p1).toNatClampNeg))), (0, .ref (ad 0)), (1, .int p1), (2, .int p2)]) hx hb dX4_harden_22 rfl hl (by decide) rfl (fun ls hl => ?_)
      refine lv_aload_n hx hb dX4_harden_23 rfl (lv_at hl 0 rfl) ?_
      refine va_getN (D := (dC, dI)) (ci := 1) (v := .int (I (18 + (p1).toNatClampNeg) 2)) (C := RX0) (T := TX0) (N := 5) hx hb hts iX4_harden_RX0 hown hK hP (18 + (p1).toNatClampNeg) (heH_Batch (inB_lt h_5)) rfl 2 (by decide) (va_Nw.use (w := .fieldLinkNest "OverrunHouse" 143 "OverrunHouse$Batch" "place" "I" "OverrunHouse") rfl (hN _ (List.mem_of_getElem? (i := 24) rfl))) (fun _ h9 => h9) rfl dX4_harden_24 ?_
      refine lv_iconst (v := (-1)) hx hb dX4_harden_27 (by decide) ?_
      refine lv_icmp_ne (tgt := 38) hx hb dX4_harden_28 (by decide) (fun c_6 => ?_) (fun c_6 => ?_)
      · have hf := it_f hf c_6
        have hE := (er_in hf).symm
        exact vx_throwS (names := xnames) (A := A) hx hb hl0 hown xfit1 xfit (hts (.classLink RX4 105 "java/lang/IllegalStateException") (List.mem_cons_of_mem _ (List.mem_append_left _ (List.mem_append_left _ (List.mem_append_left _ (List.mem_append_left _ (List.mem_append_left _ (List.mem_of_getElem? (i := 0) rfl)))))))) (hts (.initialized "java/lang/IllegalStateException") (List.mem_cons_of_mem _ (List.mem_append_left _ (List.mem_append_left _ (List.mem_append_left _ (List.mem_append_left _ (List.mem_append_left _ (List.mem_of_getElem? (i := 1) rfl)))))))) (hZ.1 1 _ rfl) (bad_at1 hZ (fun w h => hts w (List.mem_cons_of_mem _ (List.mem_append_left _ (List.mem_append_left _ (List.mem_append_right _ (h))))))) (xgood_c rfl rfl xgood1) hZ.2.2.1 hZ.2.2.2 hS (by rw [hml]; exact hl.1) dX4_harden_38 dX4_harden_41 dX4_harden_42 dX4_harden_44 dX4_harden_47 (fun x hx9 => (ht x hx9).elim) (Nat.le_of_ble_eq_true rfl) (Nat.le_of_ble_eq_true rfl) (Nat.le_of_ble_eq_true rfl) (Nat.le_of_ble_eq_true rfl) hlocks (fun t hvm hz hk => ⟨(), trivial, ⟨hE, hP.kept (fun k q hq => hk q.1 (hP k q hq).lt), va_K.moved hvm hK⟩, Nat.le_trans hS.1 hz, fun q h1 h2 => (hk q (Nat.lt_of_lt_of_le h1 hS.1)).trans (hS.2.1 q h1 h2)⟩) hS.2.2 (Nat.le_of_ble_eq_true rfl) (Nat.le_of_ble_eq_true rfl)
      · have hf := it_t hf c_6
        refine lv_aload_n hx hb dX4_harden_31 rfl (lv_at hl 0 rfl) ?_
        refine va_getN (D := (dC, dI)) (ci := 1) (v := .int (I (18 + (p1).toNatClampNeg) 3)) (C := RX0) (T := TX0) (N := 5) hx hb hts iX4_harden_RX0 hown hK hP (18 + (p1).toNatClampNeg) (heH_Batch (inB_lt h_5)) rfl 3 (by decide) (va_Nw.use (w := .fieldLinkNest "OverrunHouse" 146 "OverrunHouse$Batch" "isHard" "Z" "OverrunHouse") rfl (hN _ (List.mem_of_getElem? (i := 25) rfl))) (fun _ h9 => h9) rfl dX4_harden_32 ?_
        refine lv_if_eq (tgt := 48) hx hb dX4_harden_35 (by decide) (fun c_7 => ?_) (fun c_7 => ?_)
        · have hf := it_t hf c_7
          refine lv_aload_n hx hb dX4_harden_48 rfl (lv_at hl 0 rfl) ?_
          refine lv_aload_n hx hb dX4_harden_49 rfl (lv_at hl 0 rfl) ?_
          refine va_getN (D := (dC, dI)) (ci := 1) (v := .double (D (18 + (p1).toNatClampNeg) 4)) (C := RX0) (T := TX0) (N := 5) hx hb hts iX4_harden_RX0 hown hK hP (18 + (p1).toNatClampNeg) (heH_Batch (inB_lt h_5)) rfl 4 (by decide) (va_Nw.use (w := .fieldLinkNest "OverrunHouse" 139 "OverrunHouse$Batch" "crystal" "D" "OverrunHouse") rfl (hN _ (List.mem_of_getElem? (i := 26) rfl))) (fun _ h9 => h9) rfl dX4_harden_50 ?_
          refine lv_iload_n hx hb dX4_harden_53 rfl (lv_at hl 3 rfl) ?_
          refine lv_i2d hx hb dX4_harden_54 ?_
          refine lv_ldc2d (v := 4598175219545276416) hx hb hown (hts (.constantDouble RX4 151 (4598175219545276416)) (List.mem_cons_of_mem _ (List.mem_append_left _ (List.mem_append_left _ (List.mem_append_left _ (List.mem_append_left _ (List.mem_append_left _ (List.mem_of_getElem? (i := 4) rfl)))))))) dX4_harden_55 ?_
          obtain ⟨h_8, hf⟩ := ck_out hf
          refine lv_dmul hx hb dX4_harden_58 (okD_n h_8) ?_
          obtain ⟨h_9, hf⟩ := ck_out hf
          refine lv_dadd hx hb dX4_harden_59 (okD_n h_9) ?_
          obtain ⟨D_10, eD_10, hf⟩ := nm_out hf
          refine va_putN (D := (dC, dI)) (ci := 1) (v := .double (FP.dadd (D (18 + (p1).toNatClampNeg) 4) (FP.dmul (FP.i2d p2) (4598175219545276416 : UInt64)))) (ty := .double) (C := RX0) (T := TX0) (N := 5) hx hb hts iX4_harden_RX0 tyX0 tyX0_ok nmX0 hown hK hP (hDD I D) hS (18 + (p1).toNatClampNeg) (heH_Batch (inB_lt h_5)) rfl 4 (by decide) (va_Nw.use (w := .fieldLinkNest "OverrunHouse" 139 "OverrunHouse$Batch" "crystal" "D" "OverrunHouse") rfl (hN _ (List.mem_of_getElem? (i := 26) rfl))) (fun _ h9 => h9) rfl (by decide +kernel) rfl rfl (Nat.le_of_ble_eq_true rfl) dX4_harden_60 (fun H locs hP _ hS => ?_)
          have hP : va_P (dC, dI) vwCl (iwH ad cy I D_10) H := by rw [eD_10]; exact hpD (by have := (inB_lt h_5); omega) ((cellH_Batch ad cy (inB_lt h_5) _ _).trans rfl) hP
          refine lv_aload_n hx hb dX4_harden_63 rfl (lv_at hl 0 rfl) ?_
          refine lv_iconst (v := 1) hx hb dX4_harden_64 (by decide) ?_
          obtain ⟨I_11, eI_11, hf⟩ := nm_out hf
          refine va_putN (D := (dC, dI)) (ci := 1) (v := .int 1) (ty := .boolean) (C := RX0) (T := TX0) (N := 5) hx hb hts iX4_harden_RX0 tyX0 tyX0_ok nmX0 hown hK hP (hDD I D_10) hS (18 + (p1).toNatClampNeg) (heH_Batch (inB_lt h_5)) rfl 3 (by decide) (va_Nw.use (w := .fieldLinkNest "OverrunHouse" 146 "OverrunHouse$Batch" "isHard" "Z" "OverrunHouse") rfl (hN _ (List.mem_of_getElem? (i := 25) rfl))) (fun _ h9 => h9) rfl (by decide +kernel) rfl rfl (Nat.le_of_ble_eq_true rfl) dX4_harden_65 (fun H locs hP _ hS => ?_)
          have hP : va_P (dC, dI) vwCl (iwH ad cy I_11 D_10) H := by rw [eI_11]; exact hpI (by have := (inB_lt h_5); omega) ((cellH_Batch ad cy (inB_lt h_5) _ _).trans rfl) hP
          refine lv_aload_n hx hb dX4_harden_68 rfl (lv_at hl 0 rfl) ?_
          refine va_getN (D := (dC, dI)) (ci := 1) (v := .double (D_10 (18 + (p1).toNatClampNeg) 4)) (C := RX0) (T := TX0) (N := 5) hx hb hts iX4_harden_RX0 hown hK hP (18 + (p1).toNatClampNeg) (heH_Batch (inB_lt h_5)) rfl 4 (by decide) (va_Nw.use (w := .fieldLinkNest "OverrunHouse" 139 "OverrunHouse$Batch" "crystal" "D" "OverrunHouse") rfl (hN _ (List.mem_of_getElem? (i := 26) rfl))) (fun _ h9 => h9) rfl dX4_harden_69 ?_
          exact (er_ne hf).elim
        · have hf := it_f hf c_7
          have hE := (er_in hf).symm
          exact vx_throwS (names := xnames) (A := A) hx hb hl0 hown xfit1 xfit (hts (.classLink RX4 105 "java/lang/IllegalStateException") (List.mem_cons_of_mem _ (List.mem_append_left _ (List.mem_append_left _ (List.mem_append_left _ (List.mem_append_left _ (List.mem_append_left _ (List.mem_of_getElem? (i := 0) rfl)))))))) (hts (.initialized "java/lang/IllegalStateException") (List.mem_cons_of_mem _ (List.mem_append_left _ (List.mem_append_left _ (List.mem_append_left _ (List.mem_append_left _ (List.mem_append_left _ (List.mem_of_getElem? (i := 1) rfl)))))))) (hZ.1 1 _ rfl) (bad_at1 hZ (fun w h => hts w (List.mem_cons_of_mem _ (List.mem_append_left _ (List.mem_append_left _ (List.mem_append_right _ (h))))))) (xgood_c rfl rfl xgood1) hZ.2.2.1 hZ.2.2.2 hS (by rw [hml]; exact hl.1) dX4_harden_38 dX4_harden_41 dX4_harden_42 dX4_harden_44 dX4_harden_47 (fun x hx9 => (ht x hx9).elim) (Nat.le_of_ble_eq_true rfl) (Nat.le_of_ble_eq_true rfl) (Nat.le_of_ble_eq_true rfl) (Nat.le_of_ble_eq_true rfl) hlocks (fun t hvm hz hk => ⟨(), trivial, ⟨hE, hP.kept (fun k q hq => hk q.1 (hP k q hq).lt), va_K.moved hvm hK⟩, Nat.le_trans hS.1 hz, fun q h1 h2 => (hk q (Nat.lt_of_lt_of_le h1 hS.1)).trans (hS.2.1 q h1 h2)⟩) hS.2.2 (Nat.le_of_ble_eq_true rfl) (Nat.le_of_ble_eq_true rfl)

set_option maxHeartbeats 4000000 in
set_option maxRecDepth 100000 in
theorem mx_X4_store (l : Launch) (hl0 : l.stackTraces = false) (dC : Nat → ClassId) (dI : Nat → Nat → Nat) (ad : Nat → Nat) (cy : Nat → ClassId) (hJ : J33 ad) (sa : Nat → Nat) (sz : Nat) (I : Nat → Nat → Int32) (D : Nat → Nat → UInt64) (p1 : Int32) (E0 : String) (hf : f_X4_store I D p1 = some (.error E0)) : vx_Met l yX4_store wsX4_store ({ frames := 7, cells := 1, slots := 6, locals := 112 }) (va_Pc [.ref (ad 0), .int p1] (fun U => U.heap.size = sz ∧ hW dC dI ad cy I D U ∧ xS sa (AW ad sz) U)) (va_Qi (fun _ (_ : Unit) => False) (fun _ _ => True) (AW ad sz)) (vx_X (fun _ : Unit => True) (fun E _ t => E0 = E ∧ va_P (dC, dI) vwCl (iwH ad cy I D) t.heap ∧ va_K (dC, dI) vwCl (tysA cy) t) (AW ad sz)) 1 6 (AW ad sz) := by
  refine vx_ofW (cc := cX4_store) (maxL := 2) (ret := (some .int)) (by decide) rfl ?_
  intro p e s m args below meth c s₁ B hml ht hv
  obtain ⟨rfl, hsz, ⟨hP, hK, hN⟩, hZ⟩ := hv
  have hx := B.exec
  have hb := B.bytes
  have hr := B.returns
  have hts := atoms_spec (ws := wsX4_store) B.pre
  have hown : s.vm.findClass RX4 = some m.cls := findClass_of_methodNamed B.named
  have hlocks := B.notSynchronized
  subst hsz
  generalize hAe : AW ad s.heap.size = A at hZ ⊢
  have hA : ∀ q : Nat, s.heap.size ≤ q → A q := fun q h => by rw [← hAe]; exact Or.inr h
  have hA33 : ∀ k, k < 33 → A (ad k) := fun k h => by rw [← hAe]; exact Or.inl ⟨k, h, rfl⟩
  have hDD : ∀ I D, va_D A (iwH ad cy I D) := fun I D => iwH_D hJ hA33 I D
  obtain ⟨H, hH⟩ : ∃ H : Heap, H = s.heap := ⟨_, rfl⟩
  have hS : va_S A s.heap H [] := by rw [hH]; exact va_S.rf
  rw [← hH]
  rw [← hH] at hP
  have hl := lv_entry ([.ref (ad 0), .int p1]) (n := 2) (Nat.le_of_ble_eq_true rfl)
  rw [lg_entry_eq]
  generalize (lg_sl ([.ref (ad 0), .int p1]) ++ List.replicate (2 - (lg_sl ([.ref (ad 0), .int p1])).length) Slot.unset).toArray = ls at hl ⊢
  have hl : lv_has ls 2 [(0, .ref (ad 0)), (1, .int p1)] := hl
  unfold f_X4_store at hf
  refine lv_iload_n hx hb dX4_store_0 rfl (lv_at hl 1 rfl) ?_
  refine lv_bipush (v := (-30)) hx hb dX4_store_1 (by decide) ?_
  refine lv_bipush (v := (-10)) hx hb dX4_store_3 (by decide) ?_
  rcases bE_err hf with g_2 | ⟨_, g_2, hf⟩
  · skip
    refine vx_callv (vx_runS (As := [.int p1, .int (-30), .int (-10)]) (rest := []) ⟨hx, hb, hml, hown, hts⟩ (mx_X4_checkRange l hl0 sa H.size p1 (-30) (-10) E0 g_2) (va_cwS 3 hts gX4_store_X4_checkRange rfl rfl rfl (by decide +kernel) ⟨Nat.le_of_ble_eq_true rfl, Nat.le_of_ble_eq_true rfl⟩) (pre0X [.int p1, .int (-30), .int (-10)] (xS_kept (B := fun q => H.size ≤ q) hZ hS (fun q h => hA q (Nat.le_trans hS.1 h)))) rfl rfl hl.1 rfl (lv_room (Nat.le_of_ble_eq_true rfl)) dX4_store_5 ⟨Nat.le_of_ble_eq_true rfl, Nat.le_of_ble_eq_true rfl⟩) hS (fun q _ h => hA q (Nat.le_trans hS.1 h)) (fun q h => hA q (Nat.le_trans hS.1 h)) (fun q _ h => hA q (Nat.le_trans hS.1 h)) (fun E9 ce q9 u t H1 locs1 ht9 hvm hpu hBX hz1 hk1 hS h1 h2 h3 => ?_) (fun u t H1 locs ht9 hvm hw hB hz1 hk1 hS => hw.elim)
    exact vx_out (fun x hx9 => (ht x hx9).elim) hlocks h1 h2 h3 (fun t9 ht8 hvm8 => ⟨(), trivial, ⟨hBX, by rw [ht8]; exact va_Pnew hP hk1, va_K.moved hvm8 hK⟩, hS.F ht8⟩) hS.2.2 (Nat.le_of_ble_eq_true rfl) (Nat.le_of_ble_eq_true rfl)
  · skip
    refine va_callv (va_runS (As := [.int p1, .int (-30), .int (-10)]) (rest := []) ⟨hx, hb, hml, hown, hts⟩ (mt_X4_checkRange l H.size p1 (-30) (-10)  g_2) (va_cwS 3 hts gX4_store_X4_checkRange rfl rfl rfl (by decide +kernel) ⟨Nat.le_of_ble_eq_true rfl, Nat.le_of_ble_eq_true rfl⟩) (pre0 [.int p1, .int (-30), .int (-10)]) rfl rfl hl.1 rfl (lv_room (Nat.le_of_ble_eq_true rfl)) dX4_store_5 ⟨Nat.le_of_ble_eq_true rfl, Nat.le_of_ble_eq_true rfl⟩) hS (fun q _ h => hA q (Nat.le_trans hS.1 h)) (fun q h => hA q (Nat.le_trans hS.1 h)) (fun u t H1 locs ht hvm hw hB hz1 hk1 hS => ?_)
    have hP := va_Pnew hP hk1
    clear hB hz1 hk1 hvm ht
    generalize H1 = H at hP hS ⊢
    refine lv_aload_n hx hb dX4_store_8 rfl (lv_at hl 0 rfl) ?_
    refine va_get (D := (dC, dI)) (ci := 5) (v := .int (I 0 8)) (C := RX4) (T := TX4) (N := 14) hx hb hts iX4_store_RX4 hown hK hP 0 heH_0 rfl 8 (by decide) (hts (.fieldLink RX4 47 "OverrunHouse" "storeCount" "I") (List.mem_cons_of_mem _ (List.mem_append_left _ (List.mem_append_left _ (List.mem_append_left _ (List.mem_append_left _ (List.mem_of_getElem? (i := 0) rfl))))))) (fun _ h9 => h9) rfl dX4_store_9 ?_
    refine lv_iconst (v := 3) hx hb dX4_store_12 (by decide) ?_
    rcases bE_err hf with g_4 | ⟨_, g_4, hf⟩
    · skip
      refine vx_callv (vx_runS (As := [.int (I 0 8), .int 3]) (rest := []) ⟨hx, hb, hml, hown, hts⟩ (mx_X4_checkRoom l hl0 sa H.size (I 0 8) 3 E0 g_4) (va_cwS 2 hts gX4_store_X4_checkRoom rfl rfl rfl (by decide +kernel) ⟨Nat.le_of_ble_eq_true rfl, Nat.le_of_ble_eq_true rfl⟩) (pre0X [.int (I 0 8), .int 3] (xS_kept (B := fun q => H.size ≤ q) hZ hS (fun q h => hA q (Nat.le_trans hS.1 h)))) rfl rfl hl.1 rfl (lv_room (Nat.le_of_ble_eq_true rfl)) dX4_store_13 ⟨Nat.le_of_ble_eq_true rfl, Nat.le_of_ble_eq_true rfl⟩) hS (fun q _ h => hA q (Nat.le_trans hS.1 h)) (fun q h => hA q (Nat.le_trans hS.1 h)) (fun q _ h => hA q (Nat.le_trans hS.1 h)) (fun E9 ce q9 u t H1 locs1 ht9 hvm hpu hBX hz1 hk1 hS h1 h2 h3 => ?_) (fun u t H1 locs ht9 hvm hw hB hz1 hk1 hS => hw.elim)
      exact vx_out (fun x hx9 => (ht x hx9).elim) hlocks h1 h2 h3 (fun t9 ht8 hvm8 => ⟨(), trivial, ⟨hBX, by rw [ht8]; exact va_Pnew hP hk1, va_K.moved hvm8 hK⟩, hS.F ht8⟩) hS.2.2 (Nat.le_of_ble_eq_true rfl) (Nat.le_of_ble_eq_true rfl)
    · skip
      refine va_callv (va_runS (As := [.int (I 0 8), .int 3]) (rest := []) ⟨hx, hb, hml, hown, hts⟩ (mt_X4_checkRoom l H.size (I 0 8) 3  g_4) (va_cwS 2 hts gX4_store_X4_checkRoom rfl rfl rfl (by decide +kernel) ⟨Nat.le_of_ble_eq_true rfl, Nat.le_of_ble_eq_true rfl⟩) (pre0 [.int (I 0 8), .int 3]) rfl rfl hl.1 rfl (lv_room (Nat.le_of_ble_eq_true rfl)) dX4_store_13 ⟨Nat.le_of_ble_eq_true rfl, Nat.le_of_ble_eq_true rfl⟩) hS (fun q _ h => hA q (Nat.le_trans hS.1 h)) (fun q h => hA q (Nat.le_trans hS.1 h)) (fun u t H1 locs ht hvm hw hB hz1 hk1 hS => ?_)
      have hP := va_Pnew hP hk1
      clear hB hz1 hk1 hvm ht
      generalize H1 = H at hP hS ⊢
      refine lv_aload_n hx hb dX4_store_16 rfl (lv_at hl 0 rfl) ?_
      refine va_get (D := (dC, dI)) (ci := 5) (v := .ref (ad 4)) (C := RX4) (T := TX4) (N := 14) hx hb hts iX4_store_RX4 hown hK hP 0 heH_0 rfl 3 (by decide) (hts (.fieldLink RX4 29 "OverrunHouse" "stores" "[LOverrunHouse$Store;") (List.mem_cons_of_mem _ (List.mem_append_left _ (List.mem_append_left _ (List.mem_append_left _ (List.mem_append_left _ (List.mem_of_getElem? (i := 1) rfl))))))) (fun _ h9 => h9) rfl dX4_store_17 ?_
      refine lv_aload_n hx hb dX4_store_20 rfl (lv_at hl 0 rfl) ?_
      refine va_get (D := (dC, dI)) (ci := 5) (v := .int (I 0 8)) (C := RX4) (T := TX4) (N := 14) hx hb hts iX4_store_RX4 hown hK hP 0 heH_0 rfl 8 (by decide) (hts (.fieldLink RX4 47 "OverrunHouse" "storeCount" "I") (List.mem_cons_of_mem _ (List.mem_append_left _ (List.mem_append_left _ (List.mem_append_left _ (List.mem_append_left _ (List.mem_of_getElem? (i := 0) rfl))))))) (fun _ h9 => h9) rfl dX4_store_21 ?_
      obtain ⟨h_5, hf⟩ := ck_out hf
      refine wr_aald (b := 30) (n := 3) hx hb hK hP 4 4 heH_4 rfl (inB_in h_5) dX4_store_24 ?_
      refine lv_iload_n hx hb dX4_store_25 rfl (lv_at hl 1 rfl) ?_
      obtain ⟨I_6, eI_6, hf⟩ := nm_out hf
      refine va_putN (D := (dC, dI)) (ci := 4) (v := .int p1) (ty := .int) (C := RX3) (T := TX3) (N := 2) hx hb hts iX4_store_RX3 tyX3 tyX3_ok nmX3 hown hK hP (hDD I D) hS (30 + ((I 0 8)).toNatClampNeg) (heH_Store (inB_lt h_5)) rfl 0 (by decide) (va_Nw.use (w := .fieldLinkNest "OverrunHouse" 153 "OverrunHouse$Store" "wanted" "I" "OverrunHouse") rfl (hN _ (List.mem_of_getElem? (i := 27) rfl))) (fun _ h9 => h9) rfl (by decide +kernel) rfl rfl (Nat.le_of_ble_eq_true rfl) dX4_store_26 (fun H locs hP _ hS => ?_)
      have hP : va_P (dC, dI) vwCl (iwH ad cy I_6 D) H := by rw [eI_6]; exact hpI (by have := (inB_lt h_5); omega) ((cellH_Store ad cy (inB_lt h_5) _ _).trans rfl) hP
      refine lv_aload_n hx hb dX4_store_29 rfl (lv_at hl 0 rfl) ?_
      refine va_get (D := (dC, dI)) (ci := 5) (v := .ref (ad 4)) (C := RX4) (T := TX4) (N := 14) hx hb hts iX4_store_RX4 hown hK hP 0 heH_0 rfl 3 (by decide) (hts (.fieldLink RX4 29 "OverrunHouse" "stores" "[LOverrunHouse$Store;") (List.mem_cons_of_mem _ (List.mem_append_left _ (List.mem_append_left _ (List.mem_append_left _ (List.mem_append_left _ (List.mem_of_getElem? (i := 1) rfl))))))) (fun _ h9 => h9) rfl dX4_store_30 ?_
      refine lv_aload_n hx hb dX4_store_33 rfl (lv_at hl 0 rfl) ?_
      refine va_get (D := (dC, dI)) (ci := 5) (v := .int (I_6 0 8)) (C := RX4) (T := TX4) (N := 14) hx hb hts iX4_store_RX4 hown hK hP 0 heH_0 rfl 8 (by decide) (hts (.fieldLink RX4 47 "OverrunHouse" "storeCount" "I") (List.mem_cons_of_mem _ (List.mem_append_left _ (List.mem_append_left _ (List.mem_append_left _ (List.mem_append_left _ (List.mem_of_getElem? (i := 0) rfl))))))) (fun _ h9 => h9) rfl dX4_store_34 ?_
      obtain ⟨h_7, hf⟩ := ck_out hf
      refine wr_aald (b := 30) (n := 3) hx hb hK hP 4 4 heH_4 rfl (inB_in h_7) dX4_store_37 ?_
      refine lv_iload_n hx hb dX4_store_38 rfl (lv_at hl 1 rfl) ?_
      refine lv_i2d hx hb dX4_store_39 ?_
      obtain ⟨D_8, eD_8, hf⟩ := nm_out hf
      refine va_putN (D := (dC, dI)) (ci := 4) (v := .double (FP.i2d p1)) (ty := .double) (C := RX3) (T := TX3) (N := 2) hx hb hts iX4_store_RX3 tyX3 tyX3_ok nmX3 hown hK hP (hDD I_6 D) hS (30 + ((I_6 0 8)).toNatClampNeg) (heH_Store (inB_lt h_7)) rfl 1 (by decide) (va_Nw.use (w := .fieldLinkNest "OverrunHouse" 156 "OverrunHouse$Store" "degrees" "D" "OverrunHouse") rfl (hN _ (List.mem_of_getElem? (i := 28) rfl))) (fun _ h9 => h9) rfl (by decide +kernel) rfl rfl (Nat.le_of_ble_eq_true rfl) dX4_store_40 (fun H locs hP _ hS => ?_)
      have hP : va_P (dC, dI) vwCl (iwH ad cy I_6 D_8) H := by rw [eD_8]; exact hpD (by have := (inB_lt h_7); omega) ((cellH_Store ad cy (inB_lt h_7) _ _).trans rfl) hP
      refine lv_aload_n hx hb dX4_store_43 rfl (lv_at hl 0 rfl) ?_
      refine lv_dup hx hb dX4_store_44 rfl ?_
      refine va_get (D := (dC, dI)) (ci := 5) (v := .int (I_6 0 8)) (C := RX4) (T := TX4) (N := 14) hx hb hts iX4_store_RX4 hown hK hP 0 heH_0 rfl 8 (by decide) (hts (.fieldLink RX4 47 "OverrunHouse" "storeCount" "I") (List.mem_cons_of_mem _ (List.mem_append_left _ (List.mem_append_left _ (List.mem_append_left _ (List.mem_append_left _ (List.mem_of_getElem? (i := 0) rfl))))))) (fun _ h9 => h9) rfl dX4_store_45 ?_
      refine lv_iconst (v := 1) hx hb dX4_store_48 (by decide) ?_
      refine lv_iadd hx hb dX4_store_49 ?_
      obtain ⟨I_9, eI_9, hf⟩ := nm_out hf
      refine va_put (D := (dC, dI)) (ci := 5) (v := .int ((I_6 0 8) + 1)) (ty := .int) (C := RX4) (T := TX4) (N := 14) hx hb hts iX4_store_RX4 tyX4 tyX4_ok nmX4 hown hK hP (hDD I_6 D_8) hS 0 heH_0 rfl 8 (by decide) (hts (.fieldLink RX4 47 "OverrunHouse" "storeCount" "I") (List.mem_cons_of_mem _ (List.mem_append_left _ (List.mem_append_left _ (List.mem_append_left _ (List.mem_append_left _ (List.mem_of_getElem? (i := 0) rfl))))))) (fun _ h9 => h9) rfl (by decide +kernel) rfl rfl (Nat.le_of_ble_eq_true rfl) dX4_store_50 (fun H locs hP _ hS => ?_)
      have hP : va_P (dC, dI) vwCl (iwH ad cy I_9 D_8) H := by rw [eI_9]; exact hpI (by decide) ((cellH_0 ad cy _ _).trans rfl) hP
      refine lv_aload_n hx hb dX4_store_53 rfl (lv_at hl 0 rfl) ?_
      refine va_get (D := (dC, dI)) (ci := 5) (v := .int (I_9 0 8)) (C := RX4) (T := TX4) (N := 14) hx hb hts iX4_store_RX4 hown hK hP 0 heH_0 rfl 8 (by decide) (hts (.fieldLink RX4 47 "OverrunHouse" "storeCount" "I") (List.mem_cons_of_mem _ (List.mem_append_left _ (List.mem_append_left _ (List.mem_append_left _ (List.mem_append_left _ (List.mem_of_getElem? (i := 0) rfl))))))) (fun _ h9 => h9) rfl dX4_store_54 ?_
      refine lv_iconst (v := 1) hx hb dX4_store_57 (by decide) ?_
      refine lv_isub hx hb dX4_store_58 ?_
      exact (er_ne hf).elim

set_option maxHeartbeats 4000000 in
set_option maxRecDepth 100000 in
theorem mx_X4_set (l : Launch) (hl0 : l.stackTraces = false) (dC : Nat → ClassId) (dI : Nat → Nat → Nat) (ad : Nat → Nat) (cy : Nat → ClassId) (hJ : J33 ad) (sa : Nat → Nat) (sz : Nat) (I : Nat → Nat → Int32) (D : Nat → Nat → UInt64) (p1 : Int32) (p2 : Int32) (E0 : String) (hf : f_X4_set I D p1 p2 = some (.error E0)) : vx_Met l yX4_set wsX4_set ({ frames := 7, cells := 1, slots := 6, locals := 112 }) (va_Pc [.ref (ad 0), .int p1, .int p2] (fun U => U.heap.size = sz ∧ hW dC dI ad cy I D U ∧ xS sa (AW ad sz) U)) (va_Qi (fun _ (_ : Unit) => False) (fun _ _ => True) (AW ad sz)) (vx_X (fun _ : Unit => True) (fun E _ t => E0 = E ∧ va_P (dC, dI) vwCl (iwH ad cy I D) t.heap ∧ va_K (dC, dI) vwCl (tysA cy) t) (AW ad sz)) 1 6 (AW ad sz) := by
  refine vx_ofW (cc := cX4_set) (maxL := 4) (ret := (some .int)) (by decide) rfl ?_
  intro p e s m args below meth c s₁ B hml ht hv
  obtain ⟨rfl, hsz, ⟨hP, hK, hN⟩, hZ⟩ := hv
  have hx := B.exec
  have hb := B.bytes
  have hr := B.returns
  have hts := atoms_spec (ws := wsX4_set) B.pre
  have hown : s.vm.findClass RX4 = some m.cls := findClass_of_methodNamed B.named
  have hlocks := B.notSynchronized
  subst hsz
  generalize hAe : AW ad s.heap.size = A at hZ ⊢
  have hA : ∀ q : Nat, s.heap.size ≤ q → A q := fun q h => by rw [← hAe]; exact Or.inr h
  have hA33 : ∀ k, k < 33 → A (ad k) := fun k h => by rw [← hAe]; exact Or.inl ⟨k, h, rfl⟩
  have hDD : ∀ I D, va_D A (iwH ad cy I D) := fun I D => iwH_D hJ hA33 I D
  obtain ⟨H, hH⟩ : ∃ H : Heap, H = s.heap := ⟨_, rfl⟩
  have hS : va_S A s.heap H [] := by rw [hH]; exact va_S.rf
  rw [← hH]
  rw [← hH] at hP
  have hl := lv_entry ([.ref (ad 0), .int p1, .int p2]) (n := 4) (Nat.le_of_ble_eq_true rfl)
  rw [lg_entry_eq]
  generalize (lg_sl ([.ref (ad 0), .int p1, .int p2]) ++ List.replicate (4 - (lg_sl ([.ref (ad 0), .int p1, .int p2])).length) Slot.unset).toArray = ls at hl ⊢
  have hl : lv_has ls 4 [(0, .ref (ad 0)), (1, .int p1), (2, .int p2)] := hl
  unfold f_X4_set at hf
  refine lv_iload_n hx hb dX4_set_0 rfl (lv_at hl 1 rfl) ?_
  refine lv_aload_n hx hb dX4_set_1 rfl (lv_at hl 0 rfl) ?_
  refine va_get (D := (dC, dI)) (ci := 5) (v := .int (I 0 8)) (C := RX4) (T := TX4) (N := 14) hx hb hts iX4_set_RX4 hown hK hP 0 heH_0 rfl 8 (by decide) (hts (.fieldLink RX4 47 "OverrunHouse" "storeCount" "I") (List.mem_cons_of_mem _ (List.mem_append_left _ (List.mem_append_left _ (List.mem_append_left _ (List.mem_append_left _ (List.mem_of_getElem? (i := 0) rfl))))))) (fun _ h9 => h9) rfl dX4_set_2 ?_
  rcases bE_err hf with g_2 | ⟨_, g_2, hf⟩
  · skip
    refine vx_callv (vx_runS (As := [.int p1, .int (I 0 8)]) (rest := []) ⟨hx, hb, hml, hown, hts⟩ (mx_X4_checkNumber l hl0 sa H.size p1 (I 0 8) E0 g_2) (va_cwS 2 hts gX4_set_X4_checkNumber rfl rfl rfl (by decide +kernel) ⟨Nat.le_of_ble_eq_true rfl, Nat.le_of_ble_eq_true rfl⟩) (pre0X [.int p1, .int (I 0 8)] (xS_kept (B := fun q => H.size ≤ q) hZ hS (fun q h => hA q (Nat.le_trans hS.1 h)))) rfl rfl hl.1 rfl (lv_room (Nat.le_of_ble_eq_true rfl)) dX4_set_5 ⟨Nat.le_of_ble_eq_true rfl, Nat.le_of_ble_eq_true rfl⟩) hS (fun q _ h => hA q (Nat.le_trans hS.1 h)) (fun q h => hA q (Nat.le_trans hS.1 h)) (fun q _ h => hA q (Nat.le_trans hS.1 h)) (fun E9 ce q9 u t H1 locs1 ht9 hvm hpu hBX hz1 hk1 hS h1 h2 h3 => ?_) (fun u t H1 locs ht9 hvm hw hB hz1 hk1 hS => hw.elim)
    exact vx_out (fun x hx9 => (ht x hx9).elim) hlocks h1 h2 h3 (fun t9 ht8 hvm8 => ⟨(), trivial, ⟨hBX, by rw [ht8]; exact va_Pnew hP hk1, va_K.moved hvm8 hK⟩, hS.F ht8⟩) hS.2.2 (Nat.le_of_ble_eq_true rfl) (Nat.le_of_ble_eq_true rfl)
  · skip
    refine va_callv (va_runS (As := [.int p1, .int (I 0 8)]) (rest := []) ⟨hx, hb, hml, hown, hts⟩ (mt_X4_checkNumber l H.size p1 (I 0 8)  g_2) (va_cwS 2 hts gX4_set_X4_checkNumber rfl rfl rfl (by decide +kernel) ⟨Nat.le_of_ble_eq_true rfl, Nat.le_of_ble_eq_true rfl⟩) (pre0 [.int p1, .int (I 0 8)]) rfl rfl hl.1 rfl (lv_room (Nat.le_of_ble_eq_true rfl)) dX4_set_5 ⟨Nat.le_of_ble_eq_true rfl, Nat.le_of_ble_eq_true rfl⟩) hS (fun q _ h => hA q (Nat.le_trans hS.1 h)) (fun q h => hA q (Nat.le_trans hS.1 h)) (fun u t H1 locs ht hvm hw hB hz1 hk1 hS => ?_)
    have hP := va_Pnew hP hk1
    clear hB hz1 hk1 hvm ht
    generalize H1 = H at hP hS ⊢
    refine lv_iload_n hx hb dX4_set_8 rfl (lv_at hl 2 rfl) ?_
    refine lv_bipush (v := (-30)) hx hb dX4_set_9 (by decide) ?_
    refine lv_bipush (v := (-10)) hx hb dX4_set_11 (by decide) ?_
    rcases bE_err hf with g_4 | ⟨_, g_4, hf⟩
    · skip
      refine vx_callv (vx_runS (As := [.int p2, .int (-30), .int (-10)]) (rest := []) ⟨hx, hb, hml, hown, hts⟩ (mx_X4_checkRange l hl0 sa H.size p2 (-30) (-10) E0 g_4) (va_cwS 3 hts gX4_set_X4_checkRange rfl rfl rfl (by decide +kernel) ⟨Nat.le_of_ble_eq_true rfl, Nat.le_of_ble_eq_true rfl⟩) (pre0X [.int p2, .int (-30), .int (-10)] (xS_kept (B := fun q => H.size ≤ q) hZ hS (fun q h => hA q (Nat.le_trans hS.1 h)))) rfl rfl hl.1 rfl (lv_room (Nat.le_of_ble_eq_true rfl)) dX4_set_13 ⟨Nat.le_of_ble_eq_true rfl, Nat.le_of_ble_eq_true rfl⟩) hS (fun q _ h => hA q (Nat.le_trans hS.1 h)) (fun q h => hA q (Nat.le_trans hS.1 h)) (fun q _ h => hA q (Nat.le_trans hS.1 h)) (fun E9 ce q9 u t H1 locs1 ht9 hvm hpu hBX hz1 hk1 hS h1 h2 h3 => ?_) (fun u t H1 locs ht9 hvm hw hB hz1 hk1 hS => hw.elim)
      exact vx_out (fun x hx9 => (ht x hx9).elim) hlocks h1 h2 h3 (fun t9 ht8 hvm8 => ⟨(), trivial, ⟨hBX, by rw [ht8]; exact va_Pnew hP hk1, va_K.moved hvm8 hK⟩, hS.F ht8⟩) hS.2.2 (Nat.le_of_ble_eq_true rfl) (Nat.le_of_ble_eq_true rfl)
    · skip
      refine va_callv (va_runS (As := [.int p2, .int (-30), .int (-10)]) (rest := []) ⟨hx, hb, hml, hown, hts⟩ (mt_X4_checkRange l H.size p2 (-30) (-10)  g_4) (va_cwS 3 hts gX4_set_X4_checkRange rfl rfl rfl (by decide +kernel) ⟨Nat.le_of_ble_eq_true rfl, Nat.le_of_ble_eq_true rfl⟩) (pre0 [.int p2, .int (-30), .int (-10)]) rfl rfl hl.1 rfl (lv_room (Nat.le_of_ble_eq_true rfl)) dX4_set_13 ⟨Nat.le_of_ble_eq_true rfl, Nat.le_of_ble_eq_true rfl⟩) hS (fun q _ h => hA q (Nat.le_trans hS.1 h)) (fun q h => hA q (Nat.le_trans hS.1 h)) (fun u t H1 locs ht hvm hw hB hz1 hk1 hS => ?_)
      have hP := va_Pnew hP hk1
      clear hB hz1 hk1 hvm ht
      generalize H1 = H at hP hS ⊢
      refine lv_aload_n hx hb dX4_set_16 rfl (lv_at hl 0 rfl) ?_
      refine va_get (D := (dC, dI)) (ci := 5) (v := .ref (ad 4)) (C := RX4) (T := TX4) (N := 14) hx hb hts iX4_set_RX4 hown hK hP 0 heH_0 rfl 3 (by decide) (hts (.fieldLink RX4 29 "OverrunHouse" "stores" "[LOverrunHouse$Store;") (List.mem_cons_of_mem _ (List.mem_append_left _ (List.mem_append_left _ (List.mem_append_left _ (List.mem_append_left _ (List.mem_of_getElem? (i := 1) rfl))))))) (fun _ h9 => h9) rfl dX4_set_17 ?_
      refine lv_iload_n hx hb dX4_set_20 rfl (lv_at hl 1 rfl) ?_
      obtain ⟨h_5, hf⟩ := ck_out hf
      refine wr_aald (b := 30) (n := 3) hx hb hK hP 4 4 heH_4 rfl (inB_in h_5) dX4_set_21 ?_
      refine va_getN (D := (dC, dI)) (ci := 4) (v := .int (I (30 + (p1).toNatClampNeg) 0)) (C := RX3) (T := TX3) (N := 2) hx hb hts iX4_set_RX3 hown hK hP (30 + (p1).toNatClampNeg) (heH_Store (inB_lt h_5)) rfl 0 (by decide) (va_Nw.use (w := .fieldLinkNest "OverrunHouse" 153 "OverrunHouse$Store" "wanted" "I" "OverrunHouse") rfl (hN _ (List.mem_of_getElem? (i := 27) rfl))) (fun _ h9 => h9) rfl dX4_set_22 ?_
      refine lv_istore_n (lv' := [(3, .int (I (30 + (p1).toNatClampNeg) 0)), (0, .ref (ad 0)), (1, .int p1), (2, .int p2)]) hx hb dX4_set_25 rfl hl (by decide) rfl (fun ls hl => ?_)
      refine lv_aload_n hx hb dX4_set_26 rfl (lv_at hl 1 rfl) ?_
      refine va_get (D := (dC, dI)) (ci := 5) (v := .ref (ad 4)) (C := RX4) (T := TX4) (N := 14) hx hb hts iX4_set_RX4 hown hK hP 0 heH_0 rfl 3 (by decide) (hts (.fieldLink RX4 29 "OverrunHouse" "stores" "[LOverrunHouse$Store;") (List.mem_cons_of_mem _ (List.mem_append_left _ (List.mem_append_left _ (List.mem_append_left _ (List.mem_append_left _ (List.mem_of_getElem? (i := 1) rfl))))))) (fun _ h9 => h9) rfl dX4_set_27 ?_
      refine lv_iload_n hx hb dX4_set_30 rfl (lv_at hl 2 rfl) ?_
      obtain ⟨h_6, hf⟩ := ck_out hf
      refine wr_aald (b := 30) (n := 3) hx hb hK hP 4 4 heH_4 rfl (inB_in h_6) dX4_set_31 ?_
      refine lv_iload_n hx hb dX4_set_32 rfl (lv_at hl 3 rfl) ?_
      obtain ⟨I_7, eI_7, hf⟩ := nm_out hf
      refine va_putN (D := (dC, dI)) (ci := 4) (v := .int p2) (ty := .int) (C := RX3) (T := TX3) (N := 2) hx hb hts iX4_set_RX3 tyX3 tyX3_ok nmX3 hown hK hP (hDD I D) hS (30 + (p1).toNatClampNeg) (heH_Store (inB_lt h_6)) rfl 0 (by decide) (va_Nw.use (w := .fieldLinkNest "OverrunHouse" 153 "OverrunHouse$Store" "wanted" "I" "OverrunHouse") rfl (hN _ (List.mem_of_getElem? (i := 27) rfl))) (fun _ h9 => h9) rfl (by decide +kernel) rfl rfl (Nat.le_of_ble_eq_true rfl) dX4_set_33 (fun H locs hP _ hS => ?_)
      have hP : va_P (dC, dI) vwCl (iwH ad cy I_7 D) H := by rw [eI_7]; exact hpI (by have := (inB_lt h_6); omega) ((cellH_Store ad cy (inB_lt h_6) _ _).trans rfl) hP
      refine lv_iload_n hx hb dX4_set_36 rfl (lv_at hl 0 rfl) ?_
      exact (er_ne hf).elim

set_option maxHeartbeats 4000000 in
set_option maxRecDepth 100000 in
theorem mx_X4_lay (l : Launch) (hl0 : l.stackTraces = false) (dC : Nat → ClassId) (dI : Nat → Nat → Nat) (ad : Nat → Nat) (cy : Nat → ClassId) (hJ : J33 ad) (sa : Nat → Nat) (sz : Nat) (I : Nat → Nat → Int32) (D : Nat → Nat → UInt64) (p1 : Int32) (p2 : Int32) (E0 : String) (hf : f_X4_lay I D p1 p2 = some (.error E0)) : vx_Met l yX4_lay wsX4_lay ({ frames := 7, cells := 1, slots := 6, locals := 111 }) (va_Pc [.ref (ad 0), .int p1, .int p2] (fun U => U.heap.size = sz ∧ hW dC dI ad cy I D U ∧ xS sa (AW ad sz) U)) (va_Qi (fun _ (_ : Unit) => False) (fun _ _ => True) (AW ad sz)) (vx_X (fun _ : Unit => True) (fun E _ t => E0 = E ∧ va_P (dC, dI) vwCl (iwH ad cy I D) t.heap ∧ va_K (dC, dI) vwCl (tysA cy) t) (AW ad sz)) 1 6 (AW ad sz) := by
  refine vx_ofW (cc := cX4_lay) (maxL := 4) (ret := (some .int)) (by decide) rfl ?_
  intro p e s m args below meth c s₁ B hml ht hv
  obtain ⟨rfl, hsz, ⟨hP, hK, hN⟩, hZ⟩ := hv
  have hx := B.exec
  have hb := B.bytes
  have hr := B.returns
  have hts := atoms_spec (ws := wsX4_lay) B.pre
  have hown : s.vm.findClass RX4 = some m.cls := findClass_of_methodNamed B.named
  have hlocks := B.notSynchronized
  subst hsz
  generalize hAe : AW ad s.heap.size = A at hZ ⊢
  have hA : ∀ q : Nat, s.heap.size ≤ q → A q := fun q h => by rw [← hAe]; exact Or.inr h
  have hA33 : ∀ k, k < 33 → A (ad k) := fun k h => by rw [← hAe]; exact Or.inl ⟨k, h, rfl⟩
  have hDD : ∀ I D, va_D A (iwH ad cy I D) := fun I D => iwH_D hJ hA33 I D
  obtain ⟨H, hH⟩ : ∃ H : Heap, H = s.heap := ⟨_, rfl⟩
  have hS : va_S A s.heap H [] := by rw [hH]; exact va_S.rf
  rw [← hH]
  rw [← hH] at hP
  have hl := lv_entry ([.ref (ad 0), .int p1, .int p2]) (n := 4) (Nat.le_of_ble_eq_true rfl)
  rw [lg_entry_eq]
  generalize (lg_sl ([.ref (ad 0), .int p1, .int p2]) ++ List.replicate (4 - (lg_sl ([.ref (ad 0), .int p1, .int p2])).length) Slot.unset).toArray = ls at hl ⊢
  have hl : lv_has ls 4 [(0, .ref (ad 0)), (1, .int p1), (2, .int p2)] := hl
  unfold f_X4_lay at hf
  refine lv_iload_n hx hb dX4_lay_0 rfl (lv_at hl 1 rfl) ?_
  refine lv_aload_n hx hb dX4_lay_1 rfl (lv_at hl 0 rfl) ?_
  refine va_get (D := (dC, dI)) (ci := 5) (v := .int (I 0 7)) (C := RX4) (T := TX4) (N := 14) hx hb hts iX4_lay_RX4 hown hK hP 0 heH_0 rfl 7 (by decide) (hts (.fieldLink RX4 44 "OverrunHouse" "batchCount" "I") (List.mem_cons_of_mem _ (List.mem_append_left _ (List.mem_append_left _ (List.mem_append_left _ (List.mem_append_left _ (List.mem_of_getElem? (i := 2) rfl))))))) (fun _ h9 => h9) rfl dX4_lay_2 ?_
  rcases bE_err hf with g_2 | ⟨_, g_2, hf⟩
  · skip
    refine vx_callv (vx_runS (As := [.int p1, .int (I 0 7)]) (rest := []) ⟨hx, hb, hml, hown, hts⟩ (mx_X4_checkNumber l hl0 sa H.size p1 (I 0 7) E0 g_2) (va_cwS 2 hts gX4_lay_X4_checkNumber rfl rfl rfl (by decide +kernel) ⟨Nat.le_of_ble_eq_true rfl, Nat.le_of_ble_eq_true rfl⟩) (pre0X [.int p1, .int (I 0 7)] (xS_kept (B := fun q => H.size ≤ q) hZ hS (fun q h => hA q (Nat.le_trans hS.1 h)))) rfl rfl hl.1 rfl (lv_room (Nat.le_of_ble_eq_true rfl)) dX4_lay_5 ⟨Nat.le_of_ble_eq_true rfl, Nat.le_of_ble_eq_true rfl⟩) hS (fun q _ h => hA q (Nat.le_trans hS.1 h)) (fun q h => hA q (Nat.le_trans hS.1 h)) (fun q _ h => hA q (Nat.le_trans hS.1 h)) (fun E9 ce q9 u t H1 locs1 ht9 hvm hpu hBX hz1 hk1 hS h1 h2 h3 => ?_) (fun u t H1 locs ht9 hvm hw hB hz1 hk1 hS => hw.elim)
    exact vx_out (fun x hx9 => (ht x hx9).elim) hlocks h1 h2 h3 (fun t9 ht8 hvm8 => ⟨(), trivial, ⟨hBX, by rw [ht8]; exact va_Pnew hP hk1, va_K.moved hvm8 hK⟩, hS.F ht8⟩) hS.2.2 (Nat.le_of_ble_eq_true rfl) (Nat.le_of_ble_eq_true rfl)
  · skip
    refine va_callv (va_runS (As := [.int p1, .int (I 0 7)]) (rest := []) ⟨hx, hb, hml, hown, hts⟩ (mt_X4_checkNumber l H.size p1 (I 0 7)  g_2) (va_cwS 2 hts gX4_lay_X4_checkNumber rfl rfl rfl (by decide +kernel) ⟨Nat.le_of_ble_eq_true rfl, Nat.le_of_ble_eq_true rfl⟩) (pre0 [.int p1, .int (I 0 7)]) rfl rfl hl.1 rfl (lv_room (Nat.le_of_ble_eq_true rfl)) dX4_lay_5 ⟨Nat.le_of_ble_eq_true rfl, Nat.le_of_ble_eq_true rfl⟩) hS (fun q _ h => hA q (Nat.le_trans hS.1 h)) (fun q h => hA q (Nat.le_trans hS.1 h)) (fun u t H1 locs ht hvm hw hB hz1 hk1 hS => ?_)
    have hP := va_Pnew hP hk1
    clear hB hz1 hk1 hvm ht
    generalize H1 = H at hP hS ⊢
    refine lv_iload_n hx hb dX4_lay_8 rfl (lv_at hl 2 rfl) ?_
    refine lv_aload_n hx hb dX4_lay_9 rfl (lv_at hl 0 rfl) ?_
    refine va_get (D := (dC, dI)) (ci := 5) (v := .int (I 0 8)) (C := RX4) (T := TX4) (N := 14) hx hb hts iX4_lay_RX4 hown hK hP 0 heH_0 rfl 8 (by decide) (hts (.fieldLink RX4 47 "OverrunHouse" "storeCount" "I") (List.mem_cons_of_mem _ (List.mem_append_left _ (List.mem_append_left _ (List.mem_append_left _ (List.mem_append_left _ (List.mem_of_getElem? (i := 3) rfl))))))) (fun _ h9 => h9) rfl dX4_lay_10 ?_
    rcases bE_err hf with g_4 | ⟨_, g_4, hf⟩
    · skip
      refine vx_callv (vx_runS (As := [.int p2, .int (I 0 8)]) (rest := []) ⟨hx, hb, hml, hown, hts⟩ (mx_X4_checkNumber l hl0 sa H.size p2 (I 0 8) E0 g_4) (va_cwS 2 hts gX4_lay_X4_checkNumber rfl rfl rfl (by decide +kernel) ⟨Nat.le_of_ble_eq_true rfl, Nat.le_of_ble_eq_true rfl⟩) (pre0X [.int p2, .int (I 0 8)] (xS_kept (B := fun q => H.size ≤ q) hZ hS (fun q h => hA q (Nat.le_trans hS.1 h)))) rfl rfl hl.1 rfl (lv_room (Nat.le_of_ble_eq_true rfl)) dX4_lay_13 ⟨Nat.le_of_ble_eq_true rfl, Nat.le_of_ble_eq_true rfl⟩) hS (fun q _ h => hA q (Nat.le_trans hS.1 h)) (fun q h => hA q (Nat.le_trans hS.1 h)) (fun q _ h => hA q (Nat.le_trans hS.1 h)) (fun E9 ce q9 u t H1 locs1 ht9 hvm hpu hBX hz1 hk1 hS h1 h2 h3 => ?_) (fun u t H1 locs ht9 hvm hw hB hz1 hk1 hS => hw.elim)
      exact vx_out (fun x hx9 => (ht x hx9).elim) hlocks h1 h2 h3 (fun t9 ht8 hvm8 => ⟨(), trivial, ⟨hBX, by rw [ht8]; exact va_Pnew hP hk1, va_K.moved hvm8 hK⟩, hS.F ht8⟩) hS.2.2 (Nat.le_of_ble_eq_true rfl) (Nat.le_of_ble_eq_true rfl)
    · skip
      refine va_callv (va_runS (As := [.int p2, .int (I 0 8)]) (rest := []) ⟨hx, hb, hml, hown, hts⟩ (mt_X4_checkNumber l H.size p2 (I 0 8)  g_4) (va_cwS 2 hts gX4_lay_X4_checkNumber rfl rfl rfl (by decide +kernel) ⟨Nat.le_of_ble_eq_true rfl, Nat.le_of_ble_eq_true rfl⟩) (pre0 [.int p2, .int (I 0 8)]) rfl rfl hl.1 rfl (lv_room (Nat.le_of_ble_eq_true rfl)) dX4_lay_13 ⟨Nat.le_of_ble_eq_true rfl, Nat.le_of_ble_eq_true rfl⟩) hS (fun q _ h => hA q (Nat.le_trans hS.1 h)) (fun q h => hA q (Nat.le_trans hS.1 h)) (fun u t H1 locs ht hvm hw hB hz1 hk1 hS => ?_)
      have hP := va_Pnew hP hk1
      clear hB hz1 hk1 hvm ht
      generalize H1 = H at hP hS ⊢
      refine lv_aload_n hx hb dX4_lay_16 rfl (lv_at hl 0 rfl) ?_
      refine va_get (D := (dC, dI)) (ci := 5) (v := .ref (ad 3)) (C := RX4) (T := TX4) (N := 14) hx hb hts iX4_lay_RX4 hown hK hP 0 heH_0 rfl 2 (by decide) (hts (.fieldLink RX4 23 "OverrunHouse" "batches" "[LOverrunHouse$Batch;") (List.mem_cons_of_mem _ (List.mem_append_left _ (List.mem_append_left _ (List.mem_append_left _ (List.mem_append_left _ (List.mem_of_getElem? (i := 4) rfl))))))) (fun _ h9 => h9) rfl dX4_lay_17 ?_
      refine lv_iload_n hx hb dX4_lay_20 rfl (lv_at hl 1 rfl) ?_
      obtain ⟨h_5, hf⟩ := ck_out hf
      refine wr_aald (b := 18) (n := 12) hx hb hK hP 3 3 heH_3 rfl (inB_in h_5) dX4_lay_21 ?_
      refine lv_astore_n (lv' := [(3, .ref (ad (18 + (p1).toNatClampNeg))), (0, .ref (ad 0)), (1, .int p1), (2, .int p2)]) hx hb dX4_lay_22 rfl hl (by decide) rfl (fun ls hl => ?_)
      refine lv_aload_n hx hb dX4_lay_23 rfl (lv_at hl 0 rfl) ?_
      refine va_getN (D := (dC, dI)) (ci := 1) (v := .int (I (18 + (p1).toNatClampNeg) 2)) (C := RX0) (T := TX0) (N := 5) hx hb hts iX4_lay_RX0 hown hK hP (18 + (p1).toNatClampNeg) (heH_Batch (inB_lt h_5)) rfl 2 (by decide) (va_Nw.use (w := .fieldLinkNest "OverrunHouse" 143 "OverrunHouse$Batch" "place" "I" "OverrunHouse") rfl (hN _ (List.mem_of_getElem? (i := 24) rfl))) (fun _ h9 => h9) rfl dX4_lay_24 ?_
      refine lv_bipush (v := 10) hx hb dX4_lay_27 (by decide) ?_
      refine lv_icmp_eq (tgt := 48) hx hb dX4_lay_29 (by decide) (fun c_6 => ?_) (fun c_6 => ?_)
      · have hf := it_t hf c_6
        have hE := (er_in hf).symm
        exact vx_throwS (names := xnames) (A := A) hx hb hl0 hown xfit1 xfit (hts (.classLink RX4 105 "java/lang/IllegalStateException") (List.mem_cons_of_mem _ (List.mem_append_left _ (List.mem_append_left _ (List.mem_append_left _ (List.mem_append_left _ (List.mem_of_getElem? (i := 0) rfl))))))) (hts (.initialized "java/lang/IllegalStateException") (List.mem_cons_of_mem _ (List.mem_append_left _ (List.mem_append_left _ (List.mem_append_left _ (List.mem_append_left _ (List.mem_of_getElem? (i := 1) rfl))))))) (hZ.1 2 _ rfl) (bad_at1 hZ (fun w h => hts w (List.mem_cons_of_mem _ (List.mem_append_left _ (List.mem_append_right _ (h)))))) (xgood_c rfl rfl xgood1) hZ.2.2.1 hZ.2.2.2 hS (by rw [hml]; exact hl.1) dX4_lay_48 dX4_lay_51 dX4_lay_52 dX4_lay_54 dX4_lay_57 (fun x hx9 => (ht x hx9).elim) (Nat.le_of_ble_eq_true rfl) (Nat.le_of_ble_eq_true rfl) (Nat.le_of_ble_eq_true rfl) (Nat.le_of_ble_eq_true rfl) hlocks (fun t hvm hz hk => ⟨(), trivial, ⟨hE, hP.kept (fun k q hq => hk q.1 (hP k q hq).lt), va_K.moved hvm hK⟩, Nat.le_trans hS.1 hz, fun q h1 h2 => (hk q (Nat.lt_of_lt_of_le h1 hS.1)).trans (hS.2.1 q h1 h2)⟩) hS.2.2 (Nat.le_of_ble_eq_true rfl) (Nat.le_of_ble_eq_true rfl)
      · have hf := it_f hf c_6
        refine lv_aload_n hx hb dX4_lay_32 rfl (lv_at hl 0 rfl) ?_
        refine va_getN (D := (dC, dI)) (ci := 1) (v := .int (I (18 + (p1).toNatClampNeg) 2)) (C := RX0) (T := TX0) (N := 5) hx hb hts iX4_lay_RX0 hown hK hP (18 + (p1).toNatClampNeg) (heH_Batch (inB_lt h_5)) rfl 2 (by decide) (va_Nw.use (w := .fieldLinkNest "OverrunHouse" 143 "OverrunHouse$Batch" "place" "I" "OverrunHouse") rfl (hN _ (List.mem_of_getElem? (i := 24) rfl))) (fun _ h9 => h9) rfl dX4_lay_33 ?_
        refine lv_bipush (v := 11) hx hb dX4_lay_36 (by decide) ?_
        refine lv_icmp_eq (tgt := 48) hx hb dX4_lay_38 (by decide) (fun c_7 => ?_) (fun c_7 => ?_)
        · have hf := it_t hf c_7
          have hE := (er_in hf).symm
          exact vx_throwS (names := xnames) (A := A) hx hb hl0 hown xfit1 xfit (hts (.classLink RX4 105 "java/lang/IllegalStateException") (List.mem_cons_of_mem _ (List.mem_append_left _ (List.mem_append_left _ (List.mem_append_left _ (List.mem_append_left _ (List.mem_of_getElem? (i := 0) rfl))))))) (hts (.initialized "java/lang/IllegalStateException") (List.mem_cons_of_mem _ (List.mem_append_left _ (List.mem_append_left _ (List.mem_append_left _ (List.mem_append_left _ (List.mem_of_getElem? (i := 1) rfl))))))) (hZ.1 2 _ rfl) (bad_at1 hZ (fun w h => hts w (List.mem_cons_of_mem _ (List.mem_append_left _ (List.mem_append_right _ (h)))))) (xgood_c rfl rfl xgood1) hZ.2.2.1 hZ.2.2.2 hS (by rw [hml]; exact hl.1) dX4_lay_48 dX4_lay_51 dX4_lay_52 dX4_lay_54 dX4_lay_57 (fun x hx9 => (ht x hx9).elim) (Nat.le_of_ble_eq_true rfl) (Nat.le_of_ble_eq_true rfl) (Nat.le_of_ble_eq_true rfl) (Nat.le_of_ble_eq_true rfl) hlocks (fun t hvm hz hk => ⟨(), trivial, ⟨hE, hP.kept (fun k q hq => hk q.1 (hP k q hq).lt), va_K.moved hvm hK⟩, Nat.le_trans hS.1 hz, fun q h1 h2 => (hk q (Nat.lt_of_lt_of_le h1 hS.1)).trans (hS.2.1 q h1 h2)⟩) hS.2.2 (Nat.le_of_ble_eq_true rfl) (Nat.le_of_ble_eq_true rfl)
        · have hf := it_f hf c_7
          refine lv_aload_n hx hb dX4_lay_41 rfl (lv_at hl 0 rfl) ?_
          refine va_getN (D := (dC, dI)) (ci := 1) (v := .int (I (18 + (p1).toNatClampNeg) 3)) (C := RX0) (T := TX0) (N := 5) hx hb hts iX4_lay_RX0 hown hK hP (18 + (p1).toNatClampNeg) (heH_Batch (inB_lt h_5)) rfl 3 (by decide) (va_Nw.use (w := .fieldLinkNest "OverrunHouse" 146 "OverrunHouse$Batch" "isHard" "Z" "OverrunHouse") rfl (hN _ (List.mem_of_getElem? (i := 25) rfl))) (fun _ h9 => h9) rfl dX4_lay_42 ?_
          refine lv_if_ne (tgt := 58) hx hb dX4_lay_45 (by decide) (fun c_8 => ?_) (fun c_8 => ?_)
          · have hf := it_f hf c_8
            refine lv_aload_n hx hb dX4_lay_58 rfl (lv_at hl 0 rfl) ?_
            refine lv_iload_n hx hb dX4_lay_59 rfl (lv_at hl 3 rfl) ?_
            obtain ⟨I_9, eI_9, hf⟩ := nm_out hf
            refine va_putN (D := (dC, dI)) (ci := 1) (v := .int p2) (ty := .int) (C := RX0) (T := TX0) (N := 5) hx hb hts iX4_lay_RX0 tyX0 tyX0_ok nmX0 hown hK hP (hDD I D) hS (18 + (p1).toNatClampNeg) (heH_Batch (inB_lt h_5)) rfl 2 (by decide) (va_Nw.use (w := .fieldLinkNest "OverrunHouse" 143 "OverrunHouse$Batch" "place" "I" "OverrunHouse") rfl (hN _ (List.mem_of_getElem? (i := 24) rfl))) (fun _ h9 => h9) rfl (by decide +kernel) rfl rfl (Nat.le_of_ble_eq_true rfl) dX4_lay_60 (fun H locs hP _ hS => ?_)
            have hP : va_P (dC, dI) vwCl (iwH ad cy I_9 D) H := by rw [eI_9]; exact hpI (by have := (inB_lt h_5); omega) ((cellH_Batch ad cy (inB_lt h_5) _ _).trans rfl) hP
            refine lv_aload_n hx hb dX4_lay_63 rfl (lv_at hl 1 rfl) ?_
            refine lv_iload_n hx hb dX4_lay_64 rfl (lv_at hl 3 rfl) ?_
            obtain ⟨r_10, g_11, hf⟩ := bd_out hf
            refine va_calli (va_runV (As := [.int p2]) (rest := []) ⟨hx, hb, hml, hown, hts⟩ (mt_X4_countAt l dC dI ad cy hJ H.size I_9 D p2 r_10 g_11) (cwV 1 hts gX4_lay_X4_countAt rfl rfl rfl (by decide +kernel) ⟨Nat.le_of_ble_eq_true rfl, Nat.le_of_ble_eq_true rfl⟩) ⟨(hW.pre [.ref (ad 0), .int p2] hP hK hN).1, hW.recv (C := RX4) (T := TX4) (N := 14) hP hK heH_0 rfl, (hW.pre [.ref (ad 0), .int p2] hP hK hN).2⟩ rfl rfl hl.1 rfl (lv_room (Nat.le_of_ble_eq_true rfl)) dX4_lay_65 ⟨Nat.le_of_ble_eq_true rfl, Nat.le_of_ble_eq_true rfl⟩) hS (fun q _ h => hA q (Nat.le_trans hS.1 h)) (fun q h => hA q (Nat.le_trans hS.1 h)) (fun r9 u t H1 locs ht hvm hw hB hz1 hk1 hS => ?_)
            subst hw
            have hP := va_Pnew hP hk1
            clear hB hz1 hk1 hvm ht
            generalize H1 = H at hP hS ⊢
            exact (er_ne hf).elim
          · have hf := it_t hf c_8
            have hE := (er_in hf).symm
            exact vx_throwS (names := xnames) (A := A) hx hb hl0 hown xfit1 xfit (hts (.classLink RX4 105 "java/lang/IllegalStateException") (List.mem_cons_of_mem _ (List.mem_append_left _ (List.mem_append_left _ (List.mem_append_left _ (List.mem_append_left _ (List.mem_of_getElem? (i := 0) rfl))))))) (hts (.initialized "java/lang/IllegalStateException") (List.mem_cons_of_mem _ (List.mem_append_left _ (List.mem_append_left _ (List.mem_append_left _ (List.mem_append_left _ (List.mem_of_getElem? (i := 1) rfl))))))) (hZ.1 2 _ rfl) (bad_at1 hZ (fun w h => hts w (List.mem_cons_of_mem _ (List.mem_append_left _ (List.mem_append_right _ (h)))))) (xgood_c rfl rfl xgood1) hZ.2.2.1 hZ.2.2.2 hS (by rw [hml]; exact hl.1) dX4_lay_48 dX4_lay_51 dX4_lay_52 dX4_lay_54 dX4_lay_57 (fun x hx9 => (ht x hx9).elim) (Nat.le_of_ble_eq_true rfl) (Nat.le_of_ble_eq_true rfl) (Nat.le_of_ble_eq_true rfl) (Nat.le_of_ble_eq_true rfl) hlocks (fun t hvm hz hk => ⟨(), trivial, ⟨hE, hP.kept (fun k q hq => hk q.1 (hP k q hq).lt), va_K.moved hvm hK⟩, Nat.le_trans hS.1 hz, fun q h1 h2 => (hk q (Nat.lt_of_lt_of_le h1 hS.1)).trans (hS.2.1 q h1 h2)⟩) hS.2.2 (Nat.le_of_ble_eq_true rfl) (Nat.le_of_ble_eq_true rfl)

set_option maxHeartbeats 4000000 in
set_option maxRecDepth 100000 in
theorem mx_X4_door (l : Launch) (hl0 : l.stackTraces = false) (dC : Nat → ClassId) (dI : Nat → Nat → Nat) (ad : Nat → Nat) (cy : Nat → ClassId) (hJ : J33 ad) (sa : Nat → Nat) (sz : Nat) (I : Nat → Nat → Int32) (D : Nat → Nat → UInt64) (p1 : Int32) (p2 : Int32) (E0 : String) (hf : f_X4_door I D p1 p2 = some (.error E0)) : vx_Met l yX4_door wsX4_door ({ frames := 7, cells := 1, slots := 6, locals := 112 }) (va_Pc [.ref (ad 0), .int p1, .int p2] (fun U => U.heap.size = sz ∧ hW dC dI ad cy I D U ∧ xS sa (AW ad sz) U)) (va_Qd (fun _ (_ : Unit) => False) (fun _ _ => True) (AW ad sz)) (vx_X (fun _ : Unit => True) (fun E _ t => E0 = E ∧ va_P (dC, dI) vwCl (iwH ad cy I D) t.heap ∧ va_K (dC, dI) vwCl (tysA cy) t) (AW ad sz)) 1 6 (AW ad sz) := by
  refine vx_ofW (cc := cX4_door) (maxL := 3) (ret := (some .double)) (by decide) rfl ?_
  intro p e s m args below meth c s₁ B hml ht hv
  obtain ⟨rfl, hsz, ⟨hP, hK, hN⟩, hZ⟩ := hv
  have hx := B.exec
  have hb := B.bytes
  have hr := B.returns
  have hts := atoms_spec (ws := wsX4_door) B.pre
  have hown : s.vm.findClass RX4 = some m.cls := findClass_of_methodNamed B.named
  have hlocks := B.notSynchronized
  subst hsz
  generalize hAe : AW ad s.heap.size = A at hZ ⊢
  have hA : ∀ q : Nat, s.heap.size ≤ q → A q := fun q h => by rw [← hAe]; exact Or.inr h
  have hA33 : ∀ k, k < 33 → A (ad k) := fun k h => by rw [← hAe]; exact Or.inl ⟨k, h, rfl⟩
  have hDD : ∀ I D, va_D A (iwH ad cy I D) := fun I D => iwH_D hJ hA33 I D
  obtain ⟨H, hH⟩ : ∃ H : Heap, H = s.heap := ⟨_, rfl⟩
  have hS : va_S A s.heap H [] := by rw [hH]; exact va_S.rf
  rw [← hH]
  rw [← hH] at hP
  have hl := lv_entry ([.ref (ad 0), .int p1, .int p2]) (n := 3) (Nat.le_of_ble_eq_true rfl)
  rw [lg_entry_eq]
  generalize (lg_sl ([.ref (ad 0), .int p1, .int p2]) ++ List.replicate (3 - (lg_sl ([.ref (ad 0), .int p1, .int p2])).length) Slot.unset).toArray = ls at hl ⊢
  have hl : lv_has ls 3 [(0, .ref (ad 0)), (1, .int p1), (2, .int p2)] := hl
  unfold f_X4_door at hf
  refine lv_iload_n hx hb dX4_door_0 rfl (lv_at hl 1 rfl) ?_
  refine lv_aload_n hx hb dX4_door_1 rfl (lv_at hl 0 rfl) ?_
  refine va_get (D := (dC, dI)) (ci := 5) (v := .int (I 0 8)) (C := RX4) (T := TX4) (N := 14) hx hb hts iX4_door_RX4 hown hK hP 0 heH_0 rfl 8 (by decide) (hts (.fieldLink RX4 47 "OverrunHouse" "storeCount" "I") (List.mem_cons_of_mem _ (List.mem_append_left _ (List.mem_append_left _ (List.mem_append_left _ (List.mem_append_left _ (List.mem_of_getElem? (i := 0) rfl))))))) (fun _ h9 => h9) rfl dX4_door_2 ?_
  rcases bE_err hf with g_2 | ⟨_, g_2, hf⟩
  · skip
    refine vx_callv (vx_runS (As := [.int p1, .int (I 0 8)]) (rest := []) ⟨hx, hb, hml, hown, hts⟩ (mx_X4_checkNumber l hl0 sa H.size p1 (I 0 8) E0 g_2) (va_cwS 2 hts gX4_door_X4_checkNumber rfl rfl rfl (by decide +kernel) ⟨Nat.le_of_ble_eq_true rfl, Nat.le_of_ble_eq_true rfl⟩) (pre0X [.int p1, .int (I 0 8)] (xS_kept (B := fun q => H.size ≤ q) hZ hS (fun q h => hA q (Nat.le_trans hS.1 h)))) rfl rfl hl.1 rfl (lv_room (Nat.le_of_ble_eq_true rfl)) dX4_door_5 ⟨Nat.le_of_ble_eq_true rfl, Nat.le_of_ble_eq_true rfl⟩) hS (fun q _ h => hA q (Nat.le_trans hS.1 h)) (fun q h => hA q (Nat.le_trans hS.1 h)) (fun q _ h => hA q (Nat.le_trans hS.1 h)) (fun E9 ce q9 u t H1 locs1 ht9 hvm hpu hBX hz1 hk1 hS h1 h2 h3 => ?_) (fun u t H1 locs ht9 hvm hw hB hz1 hk1 hS => hw.elim)
    exact vx_out (fun x hx9 => (ht x hx9).elim) hlocks h1 h2 h3 (fun t9 ht8 hvm8 => ⟨(), trivial, ⟨hBX, by rw [ht8]; exact va_Pnew hP hk1, va_K.moved hvm8 hK⟩, hS.F ht8⟩) hS.2.2 (Nat.le_of_ble_eq_true rfl) (Nat.le_of_ble_eq_true rfl)
  · skip
    refine va_callv (va_runS (As := [.int p1, .int (I 0 8)]) (rest := []) ⟨hx, hb, hml, hown, hts⟩ (mt_X4_checkNumber l H.size p1 (I 0 8)  g_2) (va_cwS 2 hts gX4_door_X4_checkNumber rfl rfl rfl (by decide +kernel) ⟨Nat.le_of_ble_eq_true rfl, Nat.le_of_ble_eq_true rfl⟩) (pre0 [.int p1, .int (I 0 8)]) rfl rfl hl.1 rfl (lv_room (Nat.le_of_ble_eq_true rfl)) dX4_door_5 ⟨Nat.le_of_ble_eq_true rfl, Nat.le_of_ble_eq_true rfl⟩) hS (fun q _ h => hA q (Nat.le_trans hS.1 h)) (fun q h => hA q (Nat.le_trans hS.1 h)) (fun u t H1 locs ht hvm hw hB hz1 hk1 hS => ?_)
    have hP := va_Pnew hP hk1
    clear hB hz1 hk1 hvm ht
    generalize H1 = H at hP hS ⊢
    refine lv_iload_n hx hb dX4_door_8 rfl (lv_at hl 2 rfl) ?_
    refine lv_iconst (v := 1) hx hb dX4_door_9 (by decide) ?_
    refine lv_bipush (v := 20) hx hb dX4_door_10 (by decide) ?_
    rcases bE_err hf with g_4 | ⟨_, g_4, hf⟩
    · skip
      refine vx_callv (vx_runS (As := [.int p2, .int 1, .int 20]) (rest := []) ⟨hx, hb, hml, hown, hts⟩ (mx_X4_checkRange l hl0 sa H.size p2 1 20 E0 g_4) (va_cwS 3 hts gX4_door_X4_checkRange rfl rfl rfl (by decide +kernel) ⟨Nat.le_of_ble_eq_true rfl, Nat.le_of_ble_eq_true rfl⟩) (pre0X [.int p2, .int 1, .int 20] (xS_kept (B := fun q => H.size ≤ q) hZ hS (fun q h => hA q (Nat.le_trans hS.1 h)))) rfl rfl hl.1 rfl (lv_room (Nat.le_of_ble_eq_true rfl)) dX4_door_12 ⟨Nat.le_of_ble_eq_true rfl, Nat.le_of_ble_eq_true rfl⟩) hS (fun q _ h => hA q (Nat.le_trans hS.1 h)) (fun q h => hA q (Nat.le_trans hS.1 h)) (fun q _ h => hA q (Nat.le_trans hS.1 h)) (fun E9 ce q9 u t H1 locs1 ht9 hvm hpu hBX hz1 hk1 hS h1 h2 h3 => ?_) (fun u t H1 locs ht9 hvm hw hB hz1 hk1 hS => hw.elim)
      exact vx_out (fun x hx9 => (ht x hx9).elim) hlocks h1 h2 h3 (fun t9 ht8 hvm8 => ⟨(), trivial, ⟨hBX, by rw [ht8]; exact va_Pnew hP hk1, va_K.moved hvm8 hK⟩, hS.F ht8⟩) hS.2.2 (Nat.le_of_ble_eq_true rfl) (Nat.le_of_ble_eq_true rfl)
    · skip
      refine va_callv (va_runS (As := [.int p2, .int 1, .int 20]) (rest := []) ⟨hx, hb, hml, hown, hts⟩ (mt_X4_checkRange l H.size p2 1 20  g_4) (va_cwS 3 hts gX4_door_X4_checkRange rfl rfl rfl (by decide +kernel) ⟨Nat.le_of_ble_eq_true rfl, Nat.le_of_ble_eq_true rfl⟩) (pre0 [.int p2, .int 1, .int 20]) rfl rfl hl.1 rfl (lv_room (Nat.le_of_ble_eq_true rfl)) dX4_door_12 ⟨Nat.le_of_ble_eq_true rfl, Nat.le_of_ble_eq_true rfl⟩) hS (fun q _ h => hA q (Nat.le_trans hS.1 h)) (fun q h => hA q (Nat.le_trans hS.1 h)) (fun u t H1 locs ht hvm hw hB hz1 hk1 hS => ?_)
      have hP := va_Pnew hP hk1
      clear hB hz1 hk1 hvm ht
      generalize H1 = H at hP hS ⊢
      refine lv_aload_n hx hb dX4_door_15 rfl (lv_at hl 0 rfl) ?_
      refine va_get (D := (dC, dI)) (ci := 5) (v := .ref (ad 4)) (C := RX4) (T := TX4) (N := 14) hx hb hts iX4_door_RX4 hown hK hP 0 heH_0 rfl 3 (by decide) (hts (.fieldLink RX4 29 "OverrunHouse" "stores" "[LOverrunHouse$Store;") (List.mem_cons_of_mem _ (List.mem_append_left _ (List.mem_append_left _ (List.mem_append_left _ (List.mem_append_left _ (List.mem_of_getElem? (i := 1) rfl))))))) (fun _ h9 => h9) rfl dX4_door_16 ?_
      refine lv_iload_n hx hb dX4_door_19 rfl (lv_at hl 1 rfl) ?_
      obtain ⟨h_5, hf⟩ := ck_out hf
      refine wr_aald (b := 30) (n := 3) hx hb hK hP 4 4 heH_4 rfl (inB_in h_5) dX4_door_20 ?_
      refine lv_aload_n hx hb dX4_door_21 rfl (lv_at hl 0 rfl) ?_
      refine va_get (D := (dC, dI)) (ci := 5) (v := .ref (ad 4)) (C := RX4) (T := TX4) (N := 14) hx hb hts iX4_door_RX4 hown hK hP 0 heH_0 rfl 3 (by decide) (hts (.fieldLink RX4 29 "OverrunHouse" "stores" "[LOverrunHouse$Store;") (List.mem_cons_of_mem _ (List.mem_append_left _ (List.mem_append_left _ (List.mem_append_left _ (List.mem_append_left _ (List.mem_of_getElem? (i := 1) rfl))))))) (fun _ h9 => h9) rfl dX4_door_22 ?_
      refine lv_iload_n hx hb dX4_door_25 rfl (lv_at hl 1 rfl) ?_
      obtain ⟨h_6, hf⟩ := ck_out hf
      refine wr_aald (b := 30) (n := 3) hx hb hK hP 4 4 heH_4 rfl (inB_in h_6) dX4_door_26 ?_
      refine va_getN (D := (dC, dI)) (ci := 4) (v := .double (D (30 + (p1).toNatClampNeg) 1)) (C := RX3) (T := TX3) (N := 2) hx hb hts iX4_door_RX3 hown hK hP (30 + (p1).toNatClampNeg) (heH_Store (inB_lt h_6)) rfl 1 (by decide) (va_Nw.use (w := .fieldLinkNest "OverrunHouse" 156 "OverrunHouse$Store" "degrees" "D" "OverrunHouse") rfl (hN _ (List.mem_of_getElem? (i := 28) rfl))) (fun _ h9 => h9) rfl dX4_door_27 ?_
      refine lv_iload_n hx hb dX4_door_30 rfl (lv_at hl 2 rfl) ?_
      obtain ⟨r_7, g_8, hf⟩ := bd_out hf
      refine va_calld (va_runS (As := [.double (D (30 + (p1).toNatClampNeg) 1), .int p2]) (rest := [.ref (ad (30 + (p1).toNatClampNeg))]) ⟨hx, hb, hml, hown, hts⟩ (mt_X4_opened l H.size (D (30 + (p1).toNatClampNeg) 1) p2 r_7 g_8) (va_cwS 2 hts gX4_door_X4_opened rfl rfl rfl (by decide +kernel) ⟨Nat.le_of_ble_eq_true rfl, Nat.le_of_ble_eq_true rfl⟩) (pre0 [.double (D (30 + (p1).toNatClampNeg) 1), .int p2]) rfl rfl hl.1 rfl (lv_room (Nat.le_of_ble_eq_true rfl)) dX4_door_31 ⟨Nat.le_of_ble_eq_true rfl, Nat.le_of_ble_eq_true rfl⟩) hS (fun q _ h => hA q (Nat.le_trans hS.1 h)) (fun q h => hA q (Nat.le_trans hS.1 h)) (fun r9 u t H1 locs ht hvm hw hB hz1 hk1 hS => ?_)
      subst hw
      have hP := va_Pnew hP hk1
      clear hB hz1 hk1 hvm ht
      generalize H1 = H at hP hS ⊢
      obtain ⟨D_9, eD_9, hf⟩ := nm_out hf
      refine va_putN (D := (dC, dI)) (ci := 4) (v := .double r_7) (ty := .double) (C := RX3) (T := TX3) (N := 2) hx hb hts iX4_door_RX3 tyX3 tyX3_ok nmX3 hown hK hP (hDD I D) hS (30 + (p1).toNatClampNeg) (heH_Store (inB_lt h_5)) rfl 1 (by decide) (va_Nw.use (w := .fieldLinkNest "OverrunHouse" 156 "OverrunHouse$Store" "degrees" "D" "OverrunHouse") rfl (hN _ (List.mem_of_getElem? (i := 28) rfl))) (fun _ h9 => h9) rfl (by decide +kernel) rfl rfl (Nat.le_of_ble_eq_true rfl) dX4_door_34 (fun H locs hP _ hS => ?_)
      have hP : va_P (dC, dI) vwCl (iwH ad cy I D_9) H := by rw [eD_9]; exact hpD (by have := (inB_lt h_5); omega) ((cellH_Store ad cy (inB_lt h_5) _ _).trans rfl) hP
      refine lv_aload_n hx hb dX4_door_37 rfl (lv_at hl 0 rfl) ?_
      refine va_get (D := (dC, dI)) (ci := 5) (v := .ref (ad 4)) (C := RX4) (T := TX4) (N := 14) hx hb hts iX4_door_RX4 hown hK hP 0 heH_0 rfl 3 (by decide) (hts (.fieldLink RX4 29 "OverrunHouse" "stores" "[LOverrunHouse$Store;") (List.mem_cons_of_mem _ (List.mem_append_left _ (List.mem_append_left _ (List.mem_append_left _ (List.mem_append_left _ (List.mem_of_getElem? (i := 1) rfl))))))) (fun _ h9 => h9) rfl dX4_door_38 ?_
      refine lv_iload_n hx hb dX4_door_41 rfl (lv_at hl 1 rfl) ?_
      obtain ⟨h_10, hf⟩ := ck_out hf
      refine wr_aald (b := 30) (n := 3) hx hb hK hP 4 4 heH_4 rfl (inB_in h_10) dX4_door_42 ?_
      refine va_getN (D := (dC, dI)) (ci := 4) (v := .double (D_9 (30 + (p1).toNatClampNeg) 1)) (C := RX3) (T := TX3) (N := 2) hx hb hts iX4_door_RX3 hown hK hP (30 + (p1).toNatClampNeg) (heH_Store (inB_lt h_10)) rfl 1 (by decide) (va_Nw.use (w := .fieldLinkNest "OverrunHouse" 156 "OverrunHouse$Store" "degrees" "D" "OverrunHouse") rfl (hN _ (List.mem_of_getElem? (i := 28) rfl))) (fun _ h9 => h9) rfl dX4_door_43 ?_
      exact (er_ne hf).elim

set_option maxHeartbeats 4000000 in
set_option maxRecDepth 100000 in
theorem mx_X4_pass (l : Launch) (hl0 : l.stackTraces = false) (dC : Nat → ClassId) (dI : Nat → Nat → Nat) (ad : Nat → Nat) (cy : Nat → ClassId) (hJ : J33 ad) (sa : Nat → Nat) (sz : Nat) (I : Nat → Nat → Int32) (D : Nat → Nat → UInt64) (p1 : Int32) (E0 : String) (hf : f_X4_pass I D p1 = some (.error E0)) : vx_Met l yX4_pass wsX4_pass ({ frames := 7, cells := 1, slots := 6, locals := 112 }) (va_Pc [.ref (ad 0), .int p1] (fun U => U.heap.size = sz ∧ hW dC dI ad cy I D U ∧ xS sa (AW ad sz) U)) (va_Qi (fun _ (_ : Unit) => False) (fun _ _ => True) (AW ad sz)) (vx_X (fun _ : Unit => True) (fun E _ t => E0 = E ∧ va_P (dC, dI) vwCl (iwH ad cy I D) t.heap ∧ va_K (dC, dI) vwCl (tysA cy) t) (AW ad sz)) 1 6 (AW ad sz) := by
  refine vx_ofW (cc := cX4_pass) (maxL := 3) (ret := (some .int)) (by decide) rfl ?_
  intro p e s m args below meth c s₁ B hml ht hv
  obtain ⟨rfl, hsz, ⟨hP, hK, hN⟩, hZ⟩ := hv
  have hx := B.exec
  have hb := B.bytes
  have hr := B.returns
  have hts := atoms_spec (ws := wsX4_pass) B.pre
  have hown : s.vm.findClass RX4 = some m.cls := findClass_of_methodNamed B.named
  have hlocks := B.notSynchronized
  subst hsz
  generalize hAe : AW ad s.heap.size = A at hZ ⊢
  have hA : ∀ q : Nat, s.heap.size ≤ q → A q := fun q h => by rw [← hAe]; exact Or.inr h
  have hA33 : ∀ k, k < 33 → A (ad k) := fun k h => by rw [← hAe]; exact Or.inl ⟨k, h, rfl⟩
  have hDD : ∀ I D, va_D A (iwH ad cy I D) := fun I D => iwH_D hJ hA33 I D
  obtain ⟨H, hH⟩ : ∃ H : Heap, H = s.heap := ⟨_, rfl⟩
  have hS : va_S A s.heap H [] := by rw [hH]; exact va_S.rf
  rw [← hH]
  rw [← hH] at hP
  have hl := lv_entry ([.ref (ad 0), .int p1]) (n := 3) (Nat.le_of_ble_eq_true rfl)
  rw [lg_entry_eq]
  generalize (lg_sl ([.ref (ad 0), .int p1]) ++ List.replicate (3 - (lg_sl ([.ref (ad 0), .int p1])).length) Slot.unset).toArray = ls at hl ⊢
  have hl : lv_has ls 3 [(0, .ref (ad 0)), (1, .int p1)] := hl
  unfold f_X4_pass at hf
  refine lv_iload_n hx hb dX4_pass_0 rfl (lv_at hl 1 rfl) ?_
  refine lv_iconst (v := 1) hx hb dX4_pass_1 (by decide) ?_
  refine lv_bipush (v := 48) hx hb dX4_pass_2 (by decide) ?_
  rcases bE_err hf with g_2 | ⟨_, g_2, hf⟩
  · skip
    refine vx_callv (vx_runS (As := [.int p1, .int 1, .int 48]) (rest := []) ⟨hx, hb, hml, hown, hts⟩ (mx_X4_checkRange l hl0 sa H.size p1 1 48 E0 g_2) (va_cwS 3 hts gX4_pass_X4_checkRange rfl rfl rfl (by decide +kernel) ⟨Nat.le_of_ble_eq_true rfl, Nat.le_of_ble_eq_true rfl⟩) (pre0X [.int p1, .int 1, .int 48] (xS_kept (B := fun q => H.size ≤ q) hZ hS (fun q h => hA q (Nat.le_trans hS.1 h)))) rfl rfl hl.1 rfl (lv_room (Nat.le_of_ble_eq_true rfl)) dX4_pass_4 ⟨Nat.le_of_ble_eq_true rfl, Nat.le_of_ble_eq_true rfl⟩) hS (fun q _ h => hA q (Nat.le_trans hS.1 h)) (fun q h => hA q (Nat.le_trans hS.1 h)) (fun q _ h => hA q (Nat.le_trans hS.1 h)) (fun E9 ce q9 u t H1 locs1 ht9 hvm hpu hBX hz1 hk1 hS h1 h2 h3 => ?_) (fun u t H1 locs ht9 hvm hw hB hz1 hk1 hS => hw.elim)
    exact vx_out (fun x hx9 => (ht x hx9).elim) hlocks h1 h2 h3 (fun t9 ht8 hvm8 => ⟨(), trivial, ⟨hBX, by rw [ht8]; exact va_Pnew hP hk1, va_K.moved hvm8 hK⟩, hS.F ht8⟩) hS.2.2 (Nat.le_of_ble_eq_true rfl) (Nat.le_of_ble_eq_true rfl)
  · skip
    refine va_callv (va_runS (As := [.int p1, .int 1, .int 48]) (rest := []) ⟨hx, hb, hml, hown, hts⟩ (mt_X4_checkRange l H.size p1 1 48  g_2) (va_cwS 3 hts gX4_pass_X4_checkRange rfl rfl rfl (by decide +kernel) ⟨Nat.le_of_ble_eq_true rfl, Nat.le_of_ble_eq_true rfl⟩) (pre0 [.int p1, .int 1, .int 48]) rfl rfl hl.1 rfl (lv_room (Nat.le_of_ble_eq_true rfl)) dX4_pass_4 ⟨Nat.le_of_ble_eq_true rfl, Nat.le_of_ble_eq_true rfl⟩) hS (fun q _ h => hA q (Nat.le_trans hS.1 h)) (fun q h => hA q (Nat.le_trans hS.1 h)) (fun u t H1 locs ht hvm hw hB hz1 hk1 hS => ?_)
    have hP := va_Pnew hP hk1
    clear hB hz1 hk1 hvm ht
    generalize H1 = H at hP hS ⊢
    refine lv_iconst (v := 0) hx hb dX4_pass_7 (by decide) ?_
    refine lv_istore_n (lv' := [(2, .int 0), (0, .ref (ad 0)), (1, .int p1)]) hx hb dX4_pass_8 rfl hl (by decide) rfl (fun ls hl => ?_)
    have L9 : ∀ (n9 : Nat) (x2_9 : Int32) (I_L9 : Nat → Nat → Int32) (D_L9 : Nat → Nat → UInt64), f_X4_pass_L9 p1 n9 x2_9 I_L9 D_L9 = some (.error E0) → ∀ (H : Heap) (locs : List Loc) (ls : Array Slot), va_P (dC, dI) vwCl (iwH ad cy I_L9 D_L9) H → va_S A s.heap H locs → lv_has ls 3 [(2, .int x2_9), (0, .ref (ad 0)), (1, .int p1)] → W p l e (headSpec wsX4_pass ({ frames := 7, cells := 1, slots := 6, locals := 112 })).room s m ([.ref (ad 0), .int p1] : List Value).toArray below meth c H locs 0 0 (vx_MQ below (va_Qi (fun _ (_ : Unit) => False) (fun _ _ => True) A) (vx_X (fun _ : Unit => True) (fun E _ t => E0 = E ∧ va_P (dC, dI) vwCl (iwH ad cy I D) t.heap ∧ va_K (dC, dI) vwCl (tysA cy) t) A) ([.ref (ad 0), .int p1] : List Value).toArray s 1 6 A) (F0 m 9 ls []) := by
      intro n9
      induction n9 with
      | zero => intro x2_9 I_L9 D_L9 hf; exact nomatch hf
      | succ n9 ih9 =>
        intro x2_9 I_L9 D_L9 hf H locs ls hP hS hl
        unfold f_X4_pass_L9 at hf
        refine lv_iload_n hx hb dX4_pass_9 rfl (lv_at hl 0 rfl) ?_
        refine lv_iload_n hx hb dX4_pass_10 rfl (lv_at hl 2 rfl) ?_
        refine lv_icmp_ge (tgt := 24) hx hb dX4_pass_11 (by decide) (fun c_3 => ?_) (fun c_3 => ?_)
        · have hf := it_t hf c_3
          refine lv_aload_n hx hb dX4_pass_24 rfl (lv_at hl 1 rfl) ?_
          refine lv_bipush (v := 11) hx hb dX4_pass_25 (by decide) ?_
          obtain ⟨r_4, g_5, hf⟩ := bd_out hf
          refine va_calli (va_runV (As := [.int 11]) (rest := []) ⟨hx, hb, hml, hown, hts⟩ (mt_X4_countAt l dC dI ad cy hJ H.size I_L9 D_L9 11 r_4 g_5) (cwV 1 hts gX4_pass_X4_countAt rfl rfl rfl (by decide +kernel) ⟨Nat.le_of_ble_eq_true rfl, Nat.le_of_ble_eq_true rfl⟩) ⟨(hW.pre [.ref (ad 0), .int 11] hP hK hN).1, hW.recv (C := RX4) (T := TX4) (N := 14) hP hK heH_0 rfl, (hW.pre [.ref (ad 0), .int 11] hP hK hN).2⟩ rfl rfl hl.1 rfl (lv_room (Nat.le_of_ble_eq_true rfl)) dX4_pass_27 ⟨Nat.le_of_ble_eq_true rfl, Nat.le_of_ble_eq_true rfl⟩) hS (fun q _ h => hA q (Nat.le_trans hS.1 h)) (fun q h => hA q (Nat.le_trans hS.1 h)) (fun r9 u t H1 locs ht hvm hw hB hz1 hk1 hS => ?_)
          subst hw
          have hP := va_Pnew hP hk1
          clear hB hz1 hk1 hvm ht
          generalize H1 = H at hP hS ⊢
          exact (er_ne hf).elim
        · have hf := it_f hf c_3
          refine lv_aload_n hx hb dX4_pass_14 rfl (lv_at hl 1 rfl) ?_
          obtain ⟨⟨I_8, D_9⟩, g_7, hf⟩ := bd_out hf
          have hAW : ∀ q, AW ad H.size q → A q := fun q h => h.elim (fun ⟨k, k1, k2⟩ => k2 ▸ hA33 k k1) (fun h => hA q (Nat.le_trans hS.1 h))
          refine va_callv (va_runV (As := []) (rest := []) ⟨hx, hb, hml, hown, hts⟩ (mt_X4_passHour l dC dI ad cy hJ H.size I_L9 D_L9  I_8 D_9 g_7) (cwV 0 hts gX4_pass_X4_passHour rfl rfl rfl (by decide +kernel) ⟨Nat.le_of_ble_eq_true rfl, Nat.le_of_ble_eq_true rfl⟩) ⟨(hW.pre [.ref (ad 0)] hP hK hN).1, hW.recv (C := RX4) (T := TX4) (N := 14) hP hK heH_0 rfl, (hW.pre [.ref (ad 0)] hP hK hN).2⟩ rfl rfl hl.1 rfl (lv_room (Nat.le_of_ble_eq_true rfl)) dX4_pass_15 ⟨Nat.le_of_ble_eq_true rfl, Nat.le_of_ble_eq_true rfl⟩) hS (fun q _ h => hAW q h) (fun q h => hAW q h) (fun u t H1 locs ht hvm hw hB hz1 hk1 hS => ?_)
          have hP : va_P (dC, dI) vwCl (iwH ad cy I_8 D_9) H1 := by rw [← ht]; exact hB.1
          clear hB hz1 hk1 hvm ht
          generalize H1 = H at hP hS ⊢
          refine lv_iinc (v := (x2_9 + 1)) (lv' := [(2, .int (x2_9 + 1)), (0, .ref (ad 0)), (1, .int p1)]) hx hb dX4_pass_18 hl (k := 0) rfl rfl (by decide) rfl (fun ls hl => ?_)
          refine lv_goto (tgt := 9) hx hb dX4_pass_21 (by decide) ?_
          exact ih9 (x2_9 + 1) I_8 D_9 hf _ _ _ hP hS (lv_sub hl [0, 1, 2] rfl)
    exact L9 200 0 I D hf _ _ _ hP hS (lv_sub hl [0, 1, 2] rfl)

set_option maxHeartbeats 4000000 in
set_option maxRecDepth 100000 in
theorem mx_X4_sell (l : Launch) (hl0 : l.stackTraces = false) (dC : Nat → ClassId) (dI : Nat → Nat → Nat) (ad : Nat → Nat) (cy : Nat → ClassId) (hJ : J33 ad) (sa : Nat → Nat) (sz : Nat) (I : Nat → Nat → Int32) (D : Nat → Nat → UInt64) (p1 : Int32) (p2 : Int32) (E0 : String) (hf : f_X4_sell I D p1 p2 = some (.error E0)) : vx_Met l yX4_sell wsX4_sell ({ frames := 7, cells := 1, slots := 6, locals := 112 }) (va_Pc [.ref (ad 0), .int p1, .int p2] (fun U => U.heap.size = sz ∧ hW dC dI ad cy I D U ∧ xS sa (AW ad sz) U)) (va_Qi (fun _ (_ : Unit) => False) (fun _ _ => True) (AW ad sz)) (vx_X (fun _ : Unit => True) (fun E _ t => E0 = E ∧ va_P (dC, dI) vwCl (iwH ad cy I D) t.heap ∧ va_K (dC, dI) vwCl (tysA cy) t) (AW ad sz)) 1 6 (AW ad sz) := by
  refine vx_ofW (cc := cX4_sell) (maxL := 4) (ret := (some .int)) (by decide) rfl ?_
  intro p e s m args below meth c s₁ B hml ht hv
  obtain ⟨rfl, hsz, ⟨hP, hK, hN⟩, hZ⟩ := hv
  have hx := B.exec
  have hb := B.bytes
  have hr := B.returns
  have hts := atoms_spec (ws := wsX4_sell) B.pre
  have hown : s.vm.findClass RX4 = some m.cls := findClass_of_methodNamed B.named
  have hlocks := B.notSynchronized
  subst hsz
  generalize hAe : AW ad s.heap.size = A at hZ ⊢
  have hA : ∀ q : Nat, s.heap.size ≤ q → A q := fun q h => by rw [← hAe]; exact Or.inr h
  have hA33 : ∀ k, k < 33 → A (ad k) := fun k h => by rw [← hAe]; exact Or.inl ⟨k, h, rfl⟩
  have hDD : ∀ I D, va_D A (iwH ad cy I D) := fun I D => iwH_D hJ hA33 I D
  obtain ⟨H, hH⟩ : ∃ H : Heap, H = s.heap := ⟨_, rfl⟩
  have hS : va_S A s.heap H [] := by rw [hH]; exact va_S.rf
  rw [← hH]
  rw [← hH] at hP
  have hl := lv_entry ([.ref (ad 0), .int p1, .int p2]) (n := 4) (Nat.le_of_ble_eq_true rfl)
  rw [lg_entry_eq]
  generalize (lg_sl ([.ref (ad 0), .int p1, .int p2]) ++ List.replicate (4 - (lg_sl ([.ref (ad 0), .int p1, .int p2])).length) Slot.unset).toArray = ls at hl ⊢
  have hl : lv_has ls 4 [(0, .ref (ad 0)), (1, .int p1), (2, .int p2)] := hl
  unfold f_X4_sell at hf
  refine lv_iload_n hx hb dX4_sell_0 rfl (lv_at hl 1 rfl) ?_
  refine lv_aload_n hx hb dX4_sell_1 rfl (lv_at hl 0 rfl) ?_
  refine va_get (D := (dC, dI)) (ci := 5) (v := .int (I 0 7)) (C := RX4) (T := TX4) (N := 14) hx hb hts iX4_sell_RX4 hown hK hP 0 heH_0 rfl 7 (by decide) (hts (.fieldLink RX4 44 "OverrunHouse" "batchCount" "I") (List.mem_cons_of_mem _ (List.mem_append_left _ (List.mem_append_left _ (List.mem_append_left _ (List.mem_append_left _ (List.mem_append_left _ (List.mem_append_left _ (List.mem_append_left _ (List.mem_of_getElem? (i := 2) rfl)))))))))) (fun _ h9 => h9) rfl dX4_sell_2 ?_
  rcases bE_err hf with g_2 | ⟨_, g_2, hf⟩
  · skip
    refine vx_callv (vx_runS (As := [.int p1, .int (I 0 7)]) (rest := []) ⟨hx, hb, hml, hown, hts⟩ (mx_X4_checkNumber l hl0 sa H.size p1 (I 0 7) E0 g_2) (va_cwS 2 hts gX4_sell_X4_checkNumber rfl rfl rfl (by decide +kernel) ⟨Nat.le_of_ble_eq_true rfl, Nat.le_of_ble_eq_true rfl⟩) (pre0X [.int p1, .int (I 0 7)] (xS_kept (B := fun q => H.size ≤ q) hZ hS (fun q h => hA q (Nat.le_trans hS.1 h)))) rfl rfl hl.1 rfl (lv_room (Nat.le_of_ble_eq_true rfl)) dX4_sell_5 ⟨Nat.le_of_ble_eq_true rfl, Nat.le_of_ble_eq_true rfl⟩) hS (fun q _ h => hA q (Nat.le_trans hS.1 h)) (fun q h => hA q (Nat.le_trans hS.1 h)) (fun q _ h => hA q (Nat.le_trans hS.1 h)) (fun E9 ce q9 u t H1 locs1 ht9 hvm hpu hBX hz1 hk1 hS h1 h2 h3 => ?_) (fun u t H1 locs ht9 hvm hw hB hz1 hk1 hS => hw.elim)
    exact vx_out (fun x hx9 => (ht x hx9).elim) hlocks h1 h2 h3 (fun t9 ht8 hvm8 => ⟨(), trivial, ⟨hBX, by rw [ht8]; exact va_Pnew hP hk1, va_K.moved hvm8 hK⟩, hS.F ht8⟩) hS.2.2 (Nat.le_of_ble_eq_true rfl) (Nat.le_of_ble_eq_true rfl)
  · skip
    refine va_callv (va_runS (As := [.int p1, .int (I 0 7)]) (rest := []) ⟨hx, hb, hml, hown, hts⟩ (mt_X4_checkNumber l H.size p1 (I 0 7)  g_2) (va_cwS 2 hts gX4_sell_X4_checkNumber rfl rfl rfl (by decide +kernel) ⟨Nat.le_of_ble_eq_true rfl, Nat.le_of_ble_eq_true rfl⟩) (pre0 [.int p1, .int (I 0 7)]) rfl rfl hl.1 rfl (lv_room (Nat.le_of_ble_eq_true rfl)) dX4_sell_5 ⟨Nat.le_of_ble_eq_true rfl, Nat.le_of_ble_eq_true rfl⟩) hS (fun q _ h => hA q (Nat.le_trans hS.1 h)) (fun q h => hA q (Nat.le_trans hS.1 h)) (fun u t H1 locs ht hvm hw hB hz1 hk1 hS => ?_)
    have hP := va_Pnew hP hk1
    clear hB hz1 hk1 hvm ht
    generalize H1 = H at hP hS ⊢
    refine lv_iload_n hx hb dX4_sell_8 rfl (lv_at hl 2 rfl) ?_
    refine lv_iconst (v := 1) hx hb dX4_sell_9 (by decide) ?_
    refine lv_bipush (v := 99) hx hb dX4_sell_10 (by decide) ?_
    rcases bE_err hf with g_4 | ⟨_, g_4, hf⟩
    · skip
      refine vx_callv (vx_runS (As := [.int p2, .int 1, .int 99]) (rest := []) ⟨hx, hb, hml, hown, hts⟩ (mx_X4_checkRange l hl0 sa H.size p2 1 99 E0 g_4) (va_cwS 3 hts gX4_sell_X4_checkRange rfl rfl rfl (by decide +kernel) ⟨Nat.le_of_ble_eq_true rfl, Nat.le_of_ble_eq_true rfl⟩) (pre0X [.int p2, .int 1, .int 99] (xS_kept (B := fun q => H.size ≤ q) hZ hS (fun q h => hA q (Nat.le_trans hS.1 h)))) rfl rfl hl.1 rfl (lv_room (Nat.le_of_ble_eq_true rfl)) dX4_sell_12 ⟨Nat.le_of_ble_eq_true rfl, Nat.le_of_ble_eq_true rfl⟩) hS (fun q _ h => hA q (Nat.le_trans hS.1 h)) (fun q h => hA q (Nat.le_trans hS.1 h)) (fun q _ h => hA q (Nat.le_trans hS.1 h)) (fun E9 ce q9 u t H1 locs1 ht9 hvm hpu hBX hz1 hk1 hS h1 h2 h3 => ?_) (fun u t H1 locs ht9 hvm hw hB hz1 hk1 hS => hw.elim)
      exact vx_out (fun x hx9 => (ht x hx9).elim) hlocks h1 h2 h3 (fun t9 ht8 hvm8 => ⟨(), trivial, ⟨hBX, by rw [ht8]; exact va_Pnew hP hk1, va_K.moved hvm8 hK⟩, hS.F ht8⟩) hS.2.2 (Nat.le_of_ble_eq_true rfl) (Nat.le_of_ble_eq_true rfl)
    · skip
      refine va_callv (va_runS (As := [.int p2, .int 1, .int 99]) (rest := []) ⟨hx, hb, hml, hown, hts⟩ (mt_X4_checkRange l H.size p2 1 99  g_4) (va_cwS 3 hts gX4_sell_X4_checkRange rfl rfl rfl (by decide +kernel) ⟨Nat.le_of_ble_eq_true rfl, Nat.le_of_ble_eq_true rfl⟩) (pre0 [.int p2, .int 1, .int 99]) rfl rfl hl.1 rfl (lv_room (Nat.le_of_ble_eq_true rfl)) dX4_sell_12 ⟨Nat.le_of_ble_eq_true rfl, Nat.le_of_ble_eq_true rfl⟩) hS (fun q _ h => hA q (Nat.le_trans hS.1 h)) (fun q h => hA q (Nat.le_trans hS.1 h)) (fun u t H1 locs ht hvm hw hB hz1 hk1 hS => ?_)
      have hP := va_Pnew hP hk1
      clear hB hz1 hk1 hvm ht
      generalize H1 = H at hP hS ⊢
      refine lv_aload_n hx hb dX4_sell_15 rfl (lv_at hl 0 rfl) ?_
      refine va_get (D := (dC, dI)) (ci := 5) (v := .ref (ad 3)) (C := RX4) (T := TX4) (N := 14) hx hb hts iX4_sell_RX4 hown hK hP 0 heH_0 rfl 2 (by decide) (hts (.fieldLink RX4 23 "OverrunHouse" "batches" "[LOverrunHouse$Batch;") (List.mem_cons_of_mem _ (List.mem_append_left _ (List.mem_append_left _ (List.mem_append_left _ (List.mem_append_left _ (List.mem_append_left _ (List.mem_append_left _ (List.mem_append_left _ (List.mem_of_getElem? (i := 3) rfl)))))))))) (fun _ h9 => h9) rfl dX4_sell_16 ?_
      refine lv_iload_n hx hb dX4_sell_19 rfl (lv_at hl 1 rfl) ?_
      obtain ⟨h_5, hf⟩ := ck_out hf
      refine wr_aald (b := 18) (n := 12) hx hb hK hP 3 3 heH_3 rfl (inB_in h_5) dX4_sell_20 ?_
      refine lv_astore_n (lv' := [(3, .ref (ad (18 + (p1).toNatClampNeg))), (0, .ref (ad 0)), (1, .int p1), (2, .int p2)]) hx hb dX4_sell_21 rfl hl (by decide) rfl (fun ls hl => ?_)
      refine lv_aload_n hx hb dX4_sell_22 rfl (lv_at hl 0 rfl) ?_
      obtain ⟨r_6, g_7, hf⟩ := bd_out hf
      refine va_calli (va_runVN (As := []) (rest := []) ⟨hx, hb, hml, hown, hts⟩ (mt_X0_isStored l dC dI ad cy hJ H.size I D (p1).toNatClampNeg (inB_lt h_5) r_6 g_7) ⟨va_cnB 0 hts gX4_sell_X0_isStored_n192 rfl rfl rfl (hN (.methodLinkNest "OverrunHouse" 192 ⟨"OverrunHouse$Batch", "isStored", "()Z"⟩ "OverrunHouse") (List.mem_of_getElem? (i := 41) rfl)) (hts (.initialized RX0) (List.mem_cons_of_mem _ (List.mem_append_left _ (List.mem_append_left _ (List.mem_append_left _ (List.mem_append_left _ (List.mem_append_left _ (List.mem_append_left _ (List.mem_append_left _ (List.mem_of_getElem? (i := 17) rfl)))))))))) (by decide +kernel) ⟨Nat.le_of_ble_eq_true rfl, Nat.le_of_ble_eq_true rfl⟩, (hts (.instanceMethod yX0_isStored) (List.mem_cons_of_mem _ (List.mem_append_left _ (List.mem_append_left _ (List.mem_append_left _ (List.mem_append_left _ (List.mem_append_left _ (List.mem_append_left _ (List.mem_append_left _ (List.mem_of_getElem? (i := 16) rfl)))))))))), (hts (.selects RX0 yX0_isStored yX0_isStored) (List.mem_cons_of_mem _ (List.mem_append_left _ (List.mem_append_left _ (List.mem_append_left _ (List.mem_append_left _ (List.mem_append_left _ (List.mem_append_left _ (List.mem_append_left _ (List.mem_of_getElem? (i := 18) rfl))))))))))⟩ ⟨(hW.pre [.ref (ad (18 + (p1).toNatClampNeg))] hP hK hN).1, hW.recv (C := RX0) (T := TX0) (N := 5) hP hK (heH_Batch (inB_lt h_5)) rfl, (hW.pre [.ref (ad (18 + (p1).toNatClampNeg))] hP hK hN).2⟩ rfl rfl hl.1 rfl (lv_room (Nat.le_of_ble_eq_true rfl)) dX4_sell_23 ⟨Nat.le_of_ble_eq_true rfl, Nat.le_of_ble_eq_true rfl⟩) hS (fun q _ h => hA q (Nat.le_trans hS.1 h)) (fun q h => hA q (Nat.le_trans hS.1 h)) (fun r9 u t H1 locs ht hvm hw hB hz1 hk1 hS => ?_)
      subst hw
      have hP := va_Pnew hP hk1
      clear hB hz1 hk1 hvm ht
      generalize H1 = H at hP hS ⊢
      refine lv_if_eq (tgt := 44) hx hb dX4_sell_26 (by decide) (fun c_8 => ?_) (fun c_8 => ?_)
      · have hf := it_t hf c_8
        have hE := (er_in hf).symm
        exact vx_throwS (names := xnames) (A := A) hx hb hl0 hown xfit1 xfit (hts (.classLink RX4 105 "java/lang/IllegalStateException") (List.mem_cons_of_mem _ (List.mem_append_left _ (List.mem_append_left _ (List.mem_append_left _ (List.mem_append_left _ (List.mem_append_left _ (List.mem_append_left _ (List.mem_append_left _ (List.mem_of_getElem? (i := 0) rfl)))))))))) (hts (.initialized "java/lang/IllegalStateException") (List.mem_cons_of_mem _ (List.mem_append_left _ (List.mem_append_left _ (List.mem_append_left _ (List.mem_append_left _ (List.mem_append_left _ (List.mem_append_left _ (List.mem_append_left _ (List.mem_of_getElem? (i := 1) rfl)))))))))) (hZ.1 3 _ rfl) (bad_at1 hZ (fun w h => hts w (List.mem_cons_of_mem _ (List.mem_append_left _ (List.mem_append_left _ (List.mem_append_right _ (h))))))) (xgood_c rfl rfl xgood1) hZ.2.2.1 hZ.2.2.2 hS (by rw [hml]; exact hl.1) dX4_sell_44 dX4_sell_47 dX4_sell_48 dX4_sell_50 dX4_sell_53 (fun x hx9 => (ht x hx9).elim) (Nat.le_of_ble_eq_true rfl) (Nat.le_of_ble_eq_true rfl) (Nat.le_of_ble_eq_true rfl) (Nat.le_of_ble_eq_true rfl) hlocks (fun t hvm hz hk => ⟨(), trivial, ⟨hE, hP.kept (fun k q hq => hk q.1 (hP k q hq).lt), va_K.moved hvm hK⟩, Nat.le_trans hS.1 hz, fun q h1 h2 => (hk q (Nat.lt_of_lt_of_le h1 hS.1)).trans (hS.2.1 q h1 h2)⟩) hS.2.2 (Nat.le_of_ble_eq_true rfl) (Nat.le_of_ble_eq_true rfl)
      · have hf := it_f hf c_8
        refine lv_aload_n hx hb dX4_sell_29 rfl (lv_at hl 0 rfl) ?_
        obtain ⟨r_9, g_10, hf⟩ := bd_out hf
        refine va_calli (va_runVN (As := []) (rest := []) ⟨hx, hb, hml, hown, hts⟩ (mt_X0_isCoarse l dC dI ad cy hJ H.size I D (p1).toNatClampNeg (inB_lt h_5) r_9 g_10) ⟨va_cnB 0 hts gX4_sell_X0_isCoarse_n196 rfl rfl rfl (hN (.methodLinkNest "OverrunHouse" 196 ⟨"OverrunHouse$Batch", "isCoarse", "()Z"⟩ "OverrunHouse") (List.mem_of_getElem? (i := 36) rfl)) (hts (.initialized RX0) (List.mem_cons_of_mem _ (List.mem_append_left _ (List.mem_append_left _ (List.mem_append_left _ (List.mem_append_left _ (List.mem_append_left _ (List.mem_append_left _ (List.mem_append_left _ (List.mem_of_getElem? (i := 17) rfl)))))))))) (by decide +kernel) ⟨Nat.le_of_ble_eq_true rfl, Nat.le_of_ble_eq_true rfl⟩, (hts (.instanceMethod yX0_isCoarse) (List.mem_cons_of_mem _ (List.mem_append_left _ (List.mem_append_left _ (List.mem_append_left _ (List.mem_append_left _ (List.mem_append_left _ (List.mem_append_left _ (List.mem_append_left _ (List.mem_of_getElem? (i := 21) rfl)))))))))), (hts (.selects RX0 yX0_isCoarse yX0_isCoarse) (List.mem_cons_of_mem _ (List.mem_append_left _ (List.mem_append_left _ (List.mem_append_left _ (List.mem_append_left _ (List.mem_append_left _ (List.mem_append_left _ (List.mem_append_left _ (List.mem_of_getElem? (i := 22) rfl))))))))))⟩ ⟨(hW.pre [.ref (ad (18 + (p1).toNatClampNeg))] hP hK hN).1, hW.recv (C := RX0) (T := TX0) (N := 5) hP hK (heH_Batch (inB_lt h_5)) rfl, (hW.pre [.ref (ad (18 + (p1).toNatClampNeg))] hP hK hN).2⟩ rfl rfl hl.1 rfl (lv_room (Nat.le_of_ble_eq_true rfl)) dX4_sell_30 ⟨Nat.le_of_ble_eq_true rfl, Nat.le_of_ble_eq_true rfl⟩) hS (fun q _ h => hA q (Nat.le_trans hS.1 h)) (fun q h => hA q (Nat.le_trans hS.1 h)) (fun r9 u t H1 locs ht hvm hw hB hz1 hk1 hS => ?_)
        subst hw
        have hP := va_Pnew hP hk1
        clear hB hz1 hk1 hvm ht
        generalize H1 = H at hP hS ⊢
        refine lv_if_ne (tgt := 44) hx hb dX4_sell_33 (by decide) (fun c_11 => ?_) (fun c_11 => ?_)
        · have hf := it_f hf c_11
          have hE := (er_in hf).symm
          exact vx_throwS (names := xnames) (A := A) hx hb hl0 hown xfit1 xfit (hts (.classLink RX4 105 "java/lang/IllegalStateException") (List.mem_cons_of_mem _ (List.mem_append_left _ (List.mem_append_left _ (List.mem_append_left _ (List.mem_append_left _ (List.mem_append_left _ (List.mem_append_left _ (List.mem_append_left _ (List.mem_of_getElem? (i := 0) rfl)))))))))) (hts (.initialized "java/lang/IllegalStateException") (List.mem_cons_of_mem _ (List.mem_append_left _ (List.mem_append_left _ (List.mem_append_left _ (List.mem_append_left _ (List.mem_append_left _ (List.mem_append_left _ (List.mem_append_left _ (List.mem_of_getElem? (i := 1) rfl)))))))))) (hZ.1 3 _ rfl) (bad_at1 hZ (fun w h => hts w (List.mem_cons_of_mem _ (List.mem_append_left _ (List.mem_append_left _ (List.mem_append_right _ (h))))))) (xgood_c rfl rfl xgood1) hZ.2.2.1 hZ.2.2.2 hS (by rw [hml]; exact hl.1) dX4_sell_44 dX4_sell_47 dX4_sell_48 dX4_sell_50 dX4_sell_53 (fun x hx9 => (ht x hx9).elim) (Nat.le_of_ble_eq_true rfl) (Nat.le_of_ble_eq_true rfl) (Nat.le_of_ble_eq_true rfl) (Nat.le_of_ble_eq_true rfl) hlocks (fun t hvm hz hk => ⟨(), trivial, ⟨hE, hP.kept (fun k q hq => hk q.1 (hP k q hq).lt), va_K.moved hvm hK⟩, Nat.le_trans hS.1 hz, fun q h1 h2 => (hk q (Nat.lt_of_lt_of_le h1 hS.1)).trans (hS.2.1 q h1 h2)⟩) hS.2.2 (Nat.le_of_ble_eq_true rfl) (Nat.le_of_ble_eq_true rfl)
        · have hf := it_t hf c_11
          refine lv_aload_n hx hb dX4_sell_36 rfl (lv_at hl 1 rfl) ?_
          refine lv_aload_n hx hb dX4_sell_37 rfl (lv_at hl 0 rfl) ?_
          obtain ⟨r_12, g_13, hf⟩ := bd_out hf
          refine va_calli (va_runV (As := [.ref (ad (18 + (p1).toNatClampNeg))]) (rest := []) ⟨hx, hb, hml, hown, hts⟩ (mt_X4_isCalled l dC dI ad cy hJ H.size I D (p1).toNatClampNeg (inB_lt h_5) r_12 g_13) (cwV 1 hts gX4_sell_X4_isCalled rfl rfl rfl (by decide +kernel) ⟨Nat.le_of_ble_eq_true rfl, Nat.le_of_ble_eq_true rfl⟩) ⟨(hW.pre [.ref (ad 0), .ref (ad (18 + (p1).toNatClampNeg))] hP hK hN).1, hW.recv (C := RX4) (T := TX4) (N := 14) hP hK heH_0 rfl, (hW.pre [.ref (ad 0), .ref (ad (18 + (p1).toNatClampNeg))] hP hK hN).2⟩ rfl rfl hl.1 rfl (lv_room (Nat.le_of_ble_eq_true rfl)) dX4_sell_38 ⟨Nat.le_of_ble_eq_true rfl, Nat.le_of_ble_eq_true rfl⟩) hS (fun q _ h => hA q (Nat.le_trans hS.1 h)) (fun q h => hA q (Nat.le_trans hS.1 h)) (fun r9 u t H1 locs ht hvm hw hB hz1 hk1 hS => ?_)
          subst hw
          have hP := va_Pnew hP hk1
          clear hB hz1 hk1 hvm ht
          generalize H1 = H at hP hS ⊢
          refine lv_if_eq (tgt := 54) hx hb dX4_sell_41 (by decide) (fun c_14 => ?_) (fun c_14 => ?_)
          · have hf := it_t hf c_14
            refine lv_aload_n hx hb dX4_sell_54 rfl (lv_at hl 0 rfl) ?_
            refine lv_bipush (v := 10) hx hb dX4_sell_55 (by decide) ?_
            obtain ⟨I_15, eI_15, hf⟩ := nm_out hf
            refine va_putN (D := (dC, dI)) (ci := 1) (v := .int 10) (ty := .int) (C := RX0) (T := TX0) (N := 5) hx hb hts iX4_sell_RX0 tyX0 tyX0_ok nmX0 hown hK hP (hDD I D) hS (18 + (p1).toNatClampNeg) (heH_Batch (inB_lt h_5)) rfl 2 (by decide) (va_Nw.use (w := .fieldLinkNest "OverrunHouse" 143 "OverrunHouse$Batch" "place" "I" "OverrunHouse") rfl (hN _ (List.mem_of_getElem? (i := 24) rfl))) (fun _ h9 => h9) rfl (by decide +kernel) rfl rfl (Nat.le_of_ble_eq_true rfl) dX4_sell_57 (fun H locs hP _ hS => ?_)
            have hP : va_P (dC, dI) vwCl (iwH ad cy I_15 D) H := by rw [eI_15]; exact hpI (by have := (inB_lt h_5); omega) ((cellH_Batch ad cy (inB_lt h_5) _ _).trans rfl) hP
            refine lv_aload_n hx hb dX4_sell_60 rfl (lv_at hl 1 rfl) ?_
            refine lv_dup hx hb dX4_sell_61 rfl ?_
            refine va_get (D := (dC, dI)) (ci := 5) (v := .int (I_15 0 10)) (C := RX4) (T := TX4) (N := 14) hx hb hts iX4_sell_RX4 hown hK hP 0 heH_0 rfl 10 (by decide) (hts (.fieldLink RX4 53 "OverrunHouse" "gainEver" "I") (List.mem_cons_of_mem _ (List.mem_append_left _ (List.mem_append_left _ (List.mem_append_left _ (List.mem_append_left _ (List.mem_append_left _ (List.mem_append_left _ (List.mem_append_left _ (List.mem_of_getElem? (i := 4) rfl)))))))))) (fun _ h9 => h9) rfl dX4_sell_62 ?_
            refine lv_aload_n hx hb dX4_sell_65 rfl (lv_at hl 0 rfl) ?_
            refine va_getN (D := (dC, dI)) (ci := 1) (v := .int (I_15 (18 + (p1).toNatClampNeg) 1)) (C := RX0) (T := TX0) (N := 5) hx hb hts iX4_sell_RX0 hown hK hP (18 + (p1).toNatClampNeg) (heH_Batch (inB_lt h_5)) rfl 1 (by decide) (va_Nw.use (w := .fieldLinkNest "OverrunHouse" 134 "OverrunHouse$Batch" "litres" "I" "OverrunHouse") rfl (hN _ (List.mem_of_getElem? (i := 23) rfl))) (fun _ h9 => h9) rfl dX4_sell_66 ?_
            refine lv_iload_n hx hb dX4_sell_69 rfl (lv_at hl 3 rfl) ?_
            refine lv_imul hx hb dX4_sell_70 ?_
            refine lv_iadd hx hb dX4_sell_71 ?_
            obtain ⟨I_16, eI_16, hf⟩ := nm_out hf
            refine va_put (D := (dC, dI)) (ci := 5) (v := .int ((I_15 0 10) + ((I_15 (18 + (p1).toNatClampNeg) 1) * p2))) (ty := .int) (C := RX4) (T := TX4) (N := 14) hx hb hts iX4_sell_RX4 tyX4 tyX4_ok nmX4 hown hK hP (hDD I_15 D) hS 0 heH_0 rfl 10 (by decide) (hts (.fieldLink RX4 53 "OverrunHouse" "gainEver" "I") (List.mem_cons_of_mem _ (List.mem_append_left _ (List.mem_append_left _ (List.mem_append_left _ (List.mem_append_left _ (List.mem_append_left _ (List.mem_append_left _ (List.mem_append_left _ (List.mem_of_getElem? (i := 4) rfl)))))))))) (fun _ h9 => h9) rfl (by decide +kernel) rfl rfl (Nat.le_of_ble_eq_true rfl) dX4_sell_72 (fun H locs hP _ hS => ?_)
            have hP : va_P (dC, dI) vwCl (iwH ad cy I_16 D) H := by rw [eI_16]; exact hpI (by decide) ((cellH_0 ad cy _ _).trans rfl) hP
            refine lv_aload_n hx hb dX4_sell_75 rfl (lv_at hl 1 rfl) ?_
            refine va_get (D := (dC, dI)) (ci := 5) (v := .int (I_16 0 10)) (C := RX4) (T := TX4) (N := 14) hx hb hts iX4_sell_RX4 hown hK hP 0 heH_0 rfl 10 (by decide) (hts (.fieldLink RX4 53 "OverrunHouse" "gainEver" "I") (List.mem_cons_of_mem _ (List.mem_append_left _ (List.mem_append_left _ (List.mem_append_left _ (List.mem_append_left _ (List.mem_append_left _ (List.mem_append_left _ (List.mem_append_left _ (List.mem_of_getElem? (i := 4) rfl)))))))))) (fun _ h9 => h9) rfl dX4_sell_76 ?_
            exact (er_ne hf).elim
          · have hf := it_f hf c_14
            have hE := (er_in hf).symm
            exact vx_throwS (names := xnames) (A := A) hx hb hl0 hown xfit1 xfit (hts (.classLink RX4 105 "java/lang/IllegalStateException") (List.mem_cons_of_mem _ (List.mem_append_left _ (List.mem_append_left _ (List.mem_append_left _ (List.mem_append_left _ (List.mem_append_left _ (List.mem_append_left _ (List.mem_append_left _ (List.mem_of_getElem? (i := 0) rfl)))))))))) (hts (.initialized "java/lang/IllegalStateException") (List.mem_cons_of_mem _ (List.mem_append_left _ (List.mem_append_left _ (List.mem_append_left _ (List.mem_append_left _ (List.mem_append_left _ (List.mem_append_left _ (List.mem_append_left _ (List.mem_of_getElem? (i := 1) rfl)))))))))) (hZ.1 3 _ rfl) (bad_at1 hZ (fun w h => hts w (List.mem_cons_of_mem _ (List.mem_append_left _ (List.mem_append_left _ (List.mem_append_right _ (h))))))) (xgood_c rfl rfl xgood1) hZ.2.2.1 hZ.2.2.2 hS (by rw [hml]; exact hl.1) dX4_sell_44 dX4_sell_47 dX4_sell_48 dX4_sell_50 dX4_sell_53 (fun x hx9 => (ht x hx9).elim) (Nat.le_of_ble_eq_true rfl) (Nat.le_of_ble_eq_true rfl) (Nat.le_of_ble_eq_true rfl) (Nat.le_of_ble_eq_true rfl) hlocks (fun t hvm hz hk => ⟨(), trivial, ⟨hE, hP.kept (fun k q hq => hk q.1 (hP k q hq).lt), va_K.moved hvm hK⟩, Nat.le_trans hS.1 hz, fun q h1 h2 => (hk q (Nat.lt_of_lt_of_le h1 hS.1)).trans (hS.2.1 q h1 h2)⟩) hS.2.2 (Nat.le_of_ble_eq_true rfl) (Nat.le_of_ble_eq_true rfl)

set_option maxHeartbeats 4000000 in
set_option maxRecDepth 100000 in
theorem mx_X4_call (l : Launch) (hl0 : l.stackTraces = false) (dC : Nat → ClassId) (dI : Nat → Nat → Nat) (ad : Nat → Nat) (cy : Nat → ClassId) (hJ : J33 ad) (sa : Nat → Nat) (sz : Nat) (I : Nat → Nat → Int32) (D : Nat → Nat → UInt64) (p1 : Int32) (E0 : String) (hf : f_X4_call I D p1 = some (.error E0)) : vx_Met l yX4_call wsX4_call ({ frames := 7, cells := 1, slots := 6, locals := 111 }) (va_Pc [.ref (ad 0), .int p1] (fun U => U.heap.size = sz ∧ hW dC dI ad cy I D U ∧ xS sa (AW ad sz) U)) (va_Qi (fun _ (_ : Unit) => False) (fun _ _ => True) (AW ad sz)) (vx_X (fun _ : Unit => True) (fun E _ t => E0 = E ∧ va_P (dC, dI) vwCl (iwH ad cy I D) t.heap ∧ va_K (dC, dI) vwCl (tysA cy) t) (AW ad sz)) 1 6 (AW ad sz) := by
  refine vx_ofW (cc := cX4_call) (maxL := 5) (ret := (some .int)) (by decide) rfl ?_
  intro p e s m args below meth c s₁ B hml ht hv
  obtain ⟨rfl, hsz, ⟨hP, hK, hN⟩, hZ⟩ := hv
  have hx := B.exec
  have hb := B.bytes
  have hr := B.returns
  have hts := atoms_spec (ws := wsX4_call) B.pre
  have hown : s.vm.findClass RX4 = some m.cls := findClass_of_methodNamed B.named
  have hlocks := B.notSynchronized
  subst hsz
  generalize hAe : AW ad s.heap.size = A at hZ ⊢
  have hA : ∀ q : Nat, s.heap.size ≤ q → A q := fun q h => by rw [← hAe]; exact Or.inr h
  have hA33 : ∀ k, k < 33 → A (ad k) := fun k h => by rw [← hAe]; exact Or.inl ⟨k, h, rfl⟩
  have hDD : ∀ I D, va_D A (iwH ad cy I D) := fun I D => iwH_D hJ hA33 I D
  obtain ⟨H, hH⟩ : ∃ H : Heap, H = s.heap := ⟨_, rfl⟩
  have hS : va_S A s.heap H [] := by rw [hH]; exact va_S.rf
  rw [← hH]
  rw [← hH] at hP
  have hl := lv_entry ([.ref (ad 0), .int p1]) (n := 5) (Nat.le_of_ble_eq_true rfl)
  rw [lg_entry_eq]
  generalize (lg_sl ([.ref (ad 0), .int p1]) ++ List.replicate (5 - (lg_sl ([.ref (ad 0), .int p1])).length) Slot.unset).toArray = ls at hl ⊢
  have hl : lv_has ls 5 [(0, .ref (ad 0)), (1, .int p1)] := hl
  unfold f_X4_call at hf
  refine lv_iload_n hx hb dX4_call_0 rfl (lv_at hl 1 rfl) ?_
  refine lv_aload_n hx hb dX4_call_1 rfl (lv_at hl 0 rfl) ?_
  refine va_get (D := (dC, dI)) (ci := 5) (v := .int (I 0 5)) (C := RX4) (T := TX4) (N := 14) hx hb hts iX4_call_RX4 hown hK hP 0 heH_0 rfl 5 (by decide) (hts (.fieldLink RX4 37 "OverrunHouse" "ingredientCount" "I") (List.mem_cons_of_mem _ (List.mem_append_left _ (List.mem_append_left _ (List.mem_append_left _ (List.mem_append_left _ (List.mem_of_getElem? (i := 0) rfl))))))) (fun _ h9 => h9) rfl dX4_call_2 ?_
  rcases bE_err hf with g_2 | ⟨_, g_2, hf⟩
  · skip
    refine vx_callv (vx_runS (As := [.int p1, .int (I 0 5)]) (rest := []) ⟨hx, hb, hml, hown, hts⟩ (mx_X4_checkNumber l hl0 sa H.size p1 (I 0 5) E0 g_2) (va_cwS 2 hts gX4_call_X4_checkNumber rfl rfl rfl (by decide +kernel) ⟨Nat.le_of_ble_eq_true rfl, Nat.le_of_ble_eq_true rfl⟩) (pre0X [.int p1, .int (I 0 5)] (xS_kept (B := fun q => H.size ≤ q) hZ hS (fun q h => hA q (Nat.le_trans hS.1 h)))) rfl rfl hl.1 rfl (lv_room (Nat.le_of_ble_eq_true rfl)) dX4_call_5 ⟨Nat.le_of_ble_eq_true rfl, Nat.le_of_ble_eq_true rfl⟩) hS (fun q _ h => hA q (Nat.le_trans hS.1 h)) (fun q h => hA q (Nat.le_trans hS.1 h)) (fun q _ h => hA q (Nat.le_trans hS.1 h)) (fun E9 ce q9 u t H1 locs1 ht9 hvm hpu hBX hz1 hk1 hS h1 h2 h3 => ?_) (fun u t H1 locs ht9 hvm hw hB hz1 hk1 hS => hw.elim)
    exact vx_out (fun x hx9 => (ht x hx9).elim) hlocks h1 h2 h3 (fun t9 ht8 hvm8 => ⟨(), trivial, ⟨hBX, by rw [ht8]; exact va_Pnew hP hk1, va_K.moved hvm8 hK⟩, hS.F ht8⟩) hS.2.2 (Nat.le_of_ble_eq_true rfl) (Nat.le_of_ble_eq_true rfl)
  · skip
    refine va_callv (va_runS (As := [.int p1, .int (I 0 5)]) (rest := []) ⟨hx, hb, hml, hown, hts⟩ (mt_X4_checkNumber l H.size p1 (I 0 5)  g_2) (va_cwS 2 hts gX4_call_X4_checkNumber rfl rfl rfl (by decide +kernel) ⟨Nat.le_of_ble_eq_true rfl, Nat.le_of_ble_eq_true rfl⟩) (pre0 [.int p1, .int (I 0 5)]) rfl rfl hl.1 rfl (lv_room (Nat.le_of_ble_eq_true rfl)) dX4_call_5 ⟨Nat.le_of_ble_eq_true rfl, Nat.le_of_ble_eq_true rfl⟩) hS (fun q _ h => hA q (Nat.le_trans hS.1 h)) (fun q h => hA q (Nat.le_trans hS.1 h)) (fun u t H1 locs ht hvm hw hB hz1 hk1 hS => ?_)
    have hP := va_Pnew hP hk1
    clear hB hz1 hk1 hvm ht
    generalize H1 = H at hP hS ⊢
    refine lv_iconst (v := 1) hx hb dX4_call_8 (by decide) ?_
    refine lv_iload_n hx hb dX4_call_9 rfl (lv_at hl 1 rfl) ?_
    refine lv_ishl hx hb dX4_call_10 ?_
    refine lv_istore_n (lv' := [(2, .int (1 <<< (p1 &&& 31))), (0, .ref (ad 0)), (1, .int p1)]) hx hb dX4_call_11 rfl hl (by decide) rfl (fun ls hl => ?_)
    refine lv_aload_n hx hb dX4_call_12 rfl (lv_at hl 1 rfl) ?_
    refine lv_dup hx hb dX4_call_13 rfl ?_
    refine va_get (D := (dC, dI)) (ci := 5) (v := .int (I 0 12)) (C := RX4) (T := TX4) (N := 14) hx hb hts iX4_call_RX4 hown hK hP 0 heH_0 rfl 12 (by decide) (hts (.fieldLink RX4 59 "OverrunHouse" "calledSet" "I") (List.mem_cons_of_mem _ (List.mem_append_left _ (List.mem_append_left _ (List.mem_append_left _ (List.mem_append_left _ (List.mem_of_getElem? (i := 1) rfl))))))) (fun _ h9 => h9) rfl dX4_call_14 ?_
    refine lv_iload_n hx hb dX4_call_17 rfl (lv_at hl 0 rfl) ?_
    refine lv_ior hx hb dX4_call_18 ?_
    obtain ⟨I_3, eI_3, hf⟩ := nm_out hf
    refine va_put (D := (dC, dI)) (ci := 5) (v := .int ((I 0 12) ||| (1 <<< (p1 &&& 31)))) (ty := .int) (C := RX4) (T := TX4) (N := 14) hx hb hts iX4_call_RX4 tyX4 tyX4_ok nmX4 hown hK hP (hDD I D) hS 0 heH_0 rfl 12 (by decide) (hts (.fieldLink RX4 59 "OverrunHouse" "calledSet" "I") (List.mem_cons_of_mem _ (List.mem_append_left _ (List.mem_append_left _ (List.mem_append_left _ (List.mem_append_left _ (List.mem_of_getElem? (i := 1) rfl))))))) (fun _ h9 => h9) rfl (by decide +kernel) rfl rfl (Nat.le_of_ble_eq_true rfl) dX4_call_19 (fun H locs hP _ hS => ?_)
    have hP : va_P (dC, dI) vwCl (iwH ad cy I_3 D) H := by rw [eI_3]; exact hpI (by decide) ((cellH_0 ad cy _ _).trans rfl) hP
    refine lv_iconst (v := 0) hx hb dX4_call_22 (by decide) ?_
    refine lv_istore_n (lv' := [(3, .int 0), (2, .int (1 <<< (p1 &&& 31))), (0, .ref (ad 0)), (1, .int p1)]) hx hb dX4_call_23 rfl hl (by decide) rfl (fun ls hl => ?_)
    refine lv_iconst (v := 0) hx hb dX4_call_24 (by decide) ?_
    refine lv_istore (lv' := [(4, .int 0), (3, .int 0), (2, .int (1 <<< (p1 &&& 31))), (0, .ref (ad 0)), (1, .int p1)]) hx hb dX4_call_25 hl (by decide) rfl (fun ls hl => ?_)
    have L27 : ∀ (n27 : Nat) (x4_27 : Int32) (x3_27 : Int32), f_X4_call_L27 D p1 I_3 n27 x4_27 x3_27 = some (.error E0) → ∀ (H : Heap) (locs : List Loc) (ls : Array Slot), va_P (dC, dI) vwCl (iwH ad cy I_3 D) H → va_S A s.heap H locs → lv_has ls 5 [(4, .int x4_27), (3, .int x3_27), (2, .int (1 <<< (p1 &&& 31))), (0, .ref (ad 0)), (1, .int p1)] → W p l e (headSpec wsX4_call ({ frames := 7, cells := 1, slots := 6, locals := 111 })).room s m ([.ref (ad 0), .int p1] : List Value).toArray below meth c H locs 0 0 (vx_MQ below (va_Qi (fun _ (_ : Unit) => False) (fun _ _ => True) A) (vx_X (fun _ : Unit => True) (fun E _ t => E0 = E ∧ va_P (dC, dI) vwCl (iwH ad cy I D) t.heap ∧ va_K (dC, dI) vwCl (tysA cy) t) A) ([.ref (ad 0), .int p1] : List Value).toArray s 1 6 A) (F0 m 27 ls []) := by
      intro n27
      induction n27 with
      | zero => intro x4_27 x3_27 hf; exact nomatch hf
      | succ n27 ih27 =>
        intro x4_27 x3_27 hf H locs ls hP hS hl
        unfold f_X4_call_L27 at hf
        refine lv_iload hx hb dX4_call_27 (lv_at hl 0 rfl) ?_
        refine lv_aload_n hx hb dX4_call_29 rfl (lv_at hl 3 rfl) ?_
        refine va_get (D := (dC, dI)) (ci := 5) (v := .int (I_3 0 7)) (C := RX4) (T := TX4) (N := 14) hx hb hts iX4_call_RX4 hown hK hP 0 heH_0 rfl 7 (by decide) (hts (.fieldLink RX4 44 "OverrunHouse" "batchCount" "I") (List.mem_cons_of_mem _ (List.mem_append_left _ (List.mem_append_left _ (List.mem_append_left _ (List.mem_append_left _ (List.mem_of_getElem? (i := 2) rfl))))))) (fun _ h9 => h9) rfl dX4_call_30 ?_
        refine lv_icmp_ge (tgt := 85) hx hb dX4_call_33 (by decide) (fun c_4 => ?_) (fun c_4 => ?_)
        · have hf := it_t hf c_4
          refine lv_iload_n hx hb dX4_call_85 rfl (lv_at hl 1 rfl) ?_
          exact (er_ne hf).elim
        · have hf := it_f hf c_4
          refine lv_aload_n hx hb dX4_call_36 rfl (lv_at hl 3 rfl) ?_
          refine va_get (D := (dC, dI)) (ci := 5) (v := .ref (ad 3)) (C := RX4) (T := TX4) (N := 14) hx hb hts iX4_call_RX4 hown hK hP 0 heH_0 rfl 2 (by decide) (hts (.fieldLink RX4 23 "OverrunHouse" "batches" "[LOverrunHouse$Batch;") (List.mem_cons_of_mem _ (List.mem_append_left _ (List.mem_append_left _ (List.mem_append_left _ (List.mem_append_left _ (List.mem_of_getElem? (i := 3) rfl))))))) (fun _ h9 => h9) rfl dX4_call_37 ?_
          refine lv_iload hx hb dX4_call_40 (lv_at hl 0 rfl) ?_
          obtain ⟨h_5, hf⟩ := ck_out hf
          refine wr_aald (b := 18) (n := 12) hx hb hK hP 3 3 heH_3 rfl (inB_in h_5) dX4_call_42 ?_
          refine va_getN (D := (dC, dI)) (ci := 1) (v := .int (I_3 (18 + (x4_27).toNatClampNeg) 2)) (C := RX0) (T := TX0) (N := 5) hx hb hts iX4_call_RX0 hown hK hP (18 + (x4_27).toNatClampNeg) (heH_Batch (inB_lt h_5)) rfl 2 (by decide) (va_Nw.use (w := .fieldLinkNest "OverrunHouse" 143 "OverrunHouse$Batch" "place" "I" "OverrunHouse") rfl (hN _ (List.mem_of_getElem? (i := 24) rfl))) (fun _ h9 => h9) rfl dX4_call_43 ?_
          refine lv_bipush (v := 10) hx hb dX4_call_46 (by decide) ?_
          refine lv_icmp_ne (tgt := 79) hx hb dX4_call_48 (by decide) (fun c_6 => ?_) (fun c_6 => ?_)
          · have hf := it_f hf c_6
            refine lv_iinc (v := (x4_27 + 1)) (lv' := [(4, .int (x4_27 + 1)), (3, .int x3_27), (2, .int (1 <<< (p1 &&& 31))), (0, .ref (ad 0)), (1, .int p1)]) hx hb dX4_call_79 hl (k := 0) rfl rfl (by decide) rfl (fun ls hl => ?_)
            refine lv_goto (tgt := 27) hx hb dX4_call_82 (by decide) ?_
            exact ih27 (x4_27 + 1) x3_27 hf _ _ _ hP hS (lv_sub hl [0, 1, 2, 3, 4] rfl)
          · have hf := it_t hf c_6
            refine lv_aload_n hx hb dX4_call_51 rfl (lv_at hl 3 rfl) ?_
            refine lv_aload_n hx hb dX4_call_52 rfl (lv_at hl 3 rfl) ?_
            refine va_get (D := (dC, dI)) (ci := 5) (v := .ref (ad 3)) (C := RX4) (T := TX4) (N := 14) hx hb hts iX4_call_RX4 hown hK hP 0 heH_0 rfl 2 (by decide) (hts (.fieldLink RX4 23 "OverrunHouse" "batches" "[LOverrunHouse$Batch;") (List.mem_cons_of_mem _ (List.mem_append_left _ (List.mem_append_left _ (List.mem_append_left _ (List.mem_append_left _ (List.mem_of_getElem? (i := 3) rfl))))))) (fun _ h9 => h9) rfl dX4_call_53 ?_
            refine lv_iload hx hb dX4_call_56 (lv_at hl 0 rfl) ?_
            obtain ⟨h_7, hf⟩ := ck_out hf
            refine wr_aald (b := 18) (n := 12) hx hb hK hP 3 3 heH_3 rfl (inB_in h_7) dX4_call_58 ?_
            refine lv_iload_n hx hb dX4_call_59 rfl (lv_at hl 2 rfl) ?_
            obtain ⟨r_8, g_9, hf⟩ := bd_out hf
            refine va_calli (va_runV (As := [.ref (ad (18 + (x4_27).toNatClampNeg)), .int (1 <<< (p1 &&& 31))]) (rest := []) ⟨hx, hb, hml, hown, hts⟩ (mt_X4_holdsAnyOf l dC dI ad cy hJ H.size I_3 D (x4_27).toNatClampNeg (inB_lt h_7) (1 <<< (p1 &&& 31)) r_8 g_9) (cwV 2 hts gX4_call_X4_holdsAnyOf rfl rfl rfl (by decide +kernel) ⟨Nat.le_of_ble_eq_true rfl, Nat.le_of_ble_eq_true rfl⟩) ⟨(hW.pre [.ref (ad 0), .ref (ad (18 + (x4_27).toNatClampNeg)), .int (1 <<< (p1 &&& 31))] hP hK hN).1, hW.recv (C := RX4) (T := TX4) (N := 14) hP hK heH_0 rfl, (hW.pre [.ref (ad 0), .ref (ad (18 + (x4_27).toNatClampNeg)), .int (1 <<< (p1 &&& 31))] hP hK hN).2⟩ rfl rfl hl.1 rfl (lv_room (Nat.le_of_ble_eq_true rfl)) dX4_call_60 ⟨Nat.le_of_ble_eq_true rfl, Nat.le_of_ble_eq_true rfl⟩) hS (fun q _ h => hA q (Nat.le_trans hS.1 h)) (fun q h => hA q (Nat.le_trans hS.1 h)) (fun r9 u t H1 locs ht hvm hw hB hz1 hk1 hS => ?_)
            subst hw
            have hP := va_Pnew hP hk1
            clear hB hz1 hk1 hvm ht
            generalize H1 = H at hP hS ⊢
            refine lv_if_eq (tgt := 79) hx hb dX4_call_63 (by decide) (fun c_10 => ?_) (fun c_10 => ?_)
            · have hf := it_t hf c_10
              refine lv_iinc (v := (x4_27 + 1)) (lv' := [(4, .int (x4_27 + 1)), (3, .int x3_27), (2, .int (1 <<< (p1 &&& 31))), (0, .ref (ad 0)), (1, .int p1)]) hx hb dX4_call_79 hl (k := 0) rfl rfl (by decide) rfl (fun ls hl => ?_)
              refine lv_goto (tgt := 27) hx hb dX4_call_82 (by decide) ?_
              exact ih27 (x4_27 + 1) x3_27 hf _ _ _ hP hS (lv_sub hl [0, 1, 2, 3, 4] rfl)
            · have hf := it_f hf c_10
              refine lv_iload_n hx hb dX4_call_66 rfl (lv_at hl 1 rfl) ?_
              refine lv_aload_n hx hb dX4_call_67 rfl (lv_at hl 3 rfl) ?_
              refine va_get (D := (dC, dI)) (ci := 5) (v := .ref (ad 3)) (C := RX4) (T := TX4) (N := 14) hx hb hts iX4_call_RX4 hown hK hP 0 heH_0 rfl 2 (by decide) (hts (.fieldLink RX4 23 "OverrunHouse" "batches" "[LOverrunHouse$Batch;") (List.mem_cons_of_mem _ (List.mem_append_left _ (List.mem_append_left _ (List.mem_append_left _ (List.mem_append_left _ (List.mem_of_getElem? (i := 3) rfl))))))) (fun _ h9 => h9) rfl dX4_call_68 ?_
              refine lv_iload hx hb dX4_call_71 (lv_at hl 0 rfl) ?_
              obtain ⟨h_11, hf⟩ := ck_out hf
              refine wr_aald (b := 18) (n := 12) hx hb hK hP 3 3 heH_3 rfl (inB_in h_11) dX4_call_73 ?_
              refine va_getN (D := (dC, dI)) (ci := 1) (v := .int (I_3 (18 + (x4_27).toNatClampNeg) 1)) (C := RX0) (T := TX0) (N := 5) hx hb hts iX4_call_RX0 hown hK hP (18 + (x4_27).toNatClampNeg) (heH_Batch (inB_lt h_11)) rfl 1 (by decide) (va_Nw.use (w := .fieldLinkNest "OverrunHouse" 134 "OverrunHouse$Batch" "litres" "I" "OverrunHouse") rfl (hN _ (List.mem_of_getElem? (i := 23) rfl))) (fun _ h9 => h9) rfl dX4_call_74 ?_
              refine lv_iadd hx hb dX4_call_77 ?_
              refine lv_istore_n (lv' := [(3, .int (x3_27 + (I_3 (18 + (x4_27).toNatClampNeg) 1))), (4, .int x4_27), (2, .int (1 <<< (p1 &&& 31))), (0, .ref (ad 0)), (1, .int p1)]) hx hb dX4_call_78 rfl hl (by decide) rfl (fun ls hl => ?_)
              refine lv_iinc (v := (x4_27 + 1)) (lv' := [(4, .int (x4_27 + 1)), (3, .int (x3_27 + (I_3 (18 + (x4_27).toNatClampNeg) 1))), (2, .int (1 <<< (p1 &&& 31))), (0, .ref (ad 0)), (1, .int p1)]) hx hb dX4_call_79 hl (k := 1) rfl rfl (by decide) rfl (fun ls hl => ?_)
              refine lv_goto (tgt := 27) hx hb dX4_call_82 (by decide) ?_
              exact ih27 (x4_27 + 1) (x3_27 + (I_3 (18 + (x4_27).toNatClampNeg) 1)) hf _ _ _ hP hS (lv_sub hl [0, 1, 2, 3, 4] rfl)
    exact L27 200 0 0 hf _ _ _ hP hS (lv_sub hl [0, 1, 2, 3, 4] rfl)

set_option maxHeartbeats 4000000 in
set_option maxRecDepth 100000 in
theorem mx_X4_ofMix (l : Launch) (hl0 : l.stackTraces = false) (dC : Nat → ClassId) (dI : Nat → Nat → Nat) (ad : Nat → Nat) (cy : Nat → ClassId) (hJ : J33 ad) (sa : Nat → Nat) (sz : Nat) (I : Nat → Nat → Int32) (D : Nat → Nat → UInt64) (p1 : Int32) (p2 : Int32) (E0 : String) (hf : f_X4_ofMix I D p1 p2 = some (.error E0)) : vx_Met l yX4_ofMix wsX4_ofMix ({ frames := 7, cells := 1, slots := 6, locals := 112 }) (va_Pc [.ref (ad 0), .int p1, .int p2] (fun U => U.heap.size = sz ∧ hW dC dI ad cy I D U ∧ xS sa (AW ad sz) U)) (va_Qi (fun _ (_ : Unit) => False) (fun _ _ => True) (AW ad sz)) (vx_X (fun _ : Unit => True) (fun E _ t => E0 = E ∧ va_P (dC, dI) vwCl (iwH ad cy I D) t.heap ∧ va_K (dC, dI) vwCl (tysA cy) t) (AW ad sz)) 1 6 (AW ad sz) := by
  refine vx_ofW (cc := cX4_ofMix) (maxL := 4) (ret := (some .int)) (by decide) rfl ?_
  intro p e s m args below meth c s₁ B hml ht hv
  obtain ⟨rfl, hsz, ⟨hP, hK, hN⟩, hZ⟩ := hv
  have hx := B.exec
  have hb := B.bytes
  have hr := B.returns
  have hts := atoms_spec (ws := wsX4_ofMix) B.pre
  have hown : s.vm.findClass RX4 = some m.cls := findClass_of_methodNamed B.named
  have hlocks := B.notSynchronized
  subst hsz
  generalize hAe : AW ad s.heap.size = A at hZ ⊢
  have hA : ∀ q : Nat, s.heap.size ≤ q → A q := fun q h => by rw [← hAe]; exact Or.inr h
  have hA33 : ∀ k, k < 33 → A (ad k) := fun k h => by rw [← hAe]; exact Or.inl ⟨k, h, rfl⟩
  have hDD : ∀ I D, va_D A (iwH ad cy I D) := fun I D => iwH_D hJ hA33 I D
  obtain ⟨H, hH⟩ : ∃ H : Heap, H = s.heap := ⟨_, rfl⟩
  have hS : va_S A s.heap H [] := by rw [hH]; exact va_S.rf
  rw [← hH]
  rw [← hH] at hP
  have hl := lv_entry ([.ref (ad 0), .int p1, .int p2]) (n := 4) (Nat.le_of_ble_eq_true rfl)
  rw [lg_entry_eq]
  generalize (lg_sl ([.ref (ad 0), .int p1, .int p2]) ++ List.replicate (4 - (lg_sl ([.ref (ad 0), .int p1, .int p2])).length) Slot.unset).toArray = ls at hl ⊢
  have hl : lv_has ls 4 [(0, .ref (ad 0)), (1, .int p1), (2, .int p2)] := hl
  unfold f_X4_ofMix at hf
  refine lv_iload_n hx hb dX4_ofMix_0 rfl (lv_at hl 1 rfl) ?_
  refine lv_aload_n hx hb dX4_ofMix_1 rfl (lv_at hl 0 rfl) ?_
  refine va_get (D := (dC, dI)) (ci := 5) (v := .int (I 0 6)) (C := RX4) (T := TX4) (N := 14) hx hb hts iX4_ofMix_RX4 hown hK hP 0 heH_0 rfl 6 (by decide) (hts (.fieldLink RX4 41 "OverrunHouse" "mixCount" "I") (List.mem_cons_of_mem _ (List.mem_append_left _ (List.mem_append_left _ (List.mem_append_left _ (List.mem_append_left _ (List.mem_append_left _ (List.mem_of_getElem? (i := 0) rfl)))))))) (fun _ h9 => h9) rfl dX4_ofMix_2 ?_
  rcases bE_err hf with g_2 | ⟨_, g_2, hf⟩
  · skip
    refine vx_callv (vx_runS (As := [.int p1, .int (I 0 6)]) (rest := []) ⟨hx, hb, hml, hown, hts⟩ (mx_X4_checkNumber l hl0 sa H.size p1 (I 0 6) E0 g_2) (va_cwS 2 hts gX4_ofMix_X4_checkNumber rfl rfl rfl (by decide +kernel) ⟨Nat.le_of_ble_eq_true rfl, Nat.le_of_ble_eq_true rfl⟩) (pre0X [.int p1, .int (I 0 6)] (xS_kept (B := fun q => H.size ≤ q) hZ hS (fun q h => hA q (Nat.le_trans hS.1 h)))) rfl rfl hl.1 rfl (lv_room (Nat.le_of_ble_eq_true rfl)) dX4_ofMix_5 ⟨Nat.le_of_ble_eq_true rfl, Nat.le_of_ble_eq_true rfl⟩) hS (fun q _ h => hA q (Nat.le_trans hS.1 h)) (fun q h => hA q (Nat.le_trans hS.1 h)) (fun q _ h => hA q (Nat.le_trans hS.1 h)) (fun E9 ce q9 u t H1 locs1 ht9 hvm hpu hBX hz1 hk1 hS h1 h2 h3 => ?_) (fun u t H1 locs ht9 hvm hw hB hz1 hk1 hS => hw.elim)
    exact vx_out (fun x hx9 => (ht x hx9).elim) hlocks h1 h2 h3 (fun t9 ht8 hvm8 => ⟨(), trivial, ⟨hBX, by rw [ht8]; exact va_Pnew hP hk1, va_K.moved hvm8 hK⟩, hS.F ht8⟩) hS.2.2 (Nat.le_of_ble_eq_true rfl) (Nat.le_of_ble_eq_true rfl)
  · skip
    refine va_callv (va_runS (As := [.int p1, .int (I 0 6)]) (rest := []) ⟨hx, hb, hml, hown, hts⟩ (mt_X4_checkNumber l H.size p1 (I 0 6)  g_2) (va_cwS 2 hts gX4_ofMix_X4_checkNumber rfl rfl rfl (by decide +kernel) ⟨Nat.le_of_ble_eq_true rfl, Nat.le_of_ble_eq_true rfl⟩) (pre0 [.int p1, .int (I 0 6)]) rfl rfl hl.1 rfl (lv_room (Nat.le_of_ble_eq_true rfl)) dX4_ofMix_5 ⟨Nat.le_of_ble_eq_true rfl, Nat.le_of_ble_eq_true rfl⟩) hS (fun q _ h => hA q (Nat.le_trans hS.1 h)) (fun q h => hA q (Nat.le_trans hS.1 h)) (fun u t H1 locs ht hvm hw hB hz1 hk1 hS => ?_)
    have hP := va_Pnew hP hk1
    clear hB hz1 hk1 hvm ht
    generalize H1 = H at hP hS ⊢
    refine lv_iload_n hx hb dX4_ofMix_8 rfl (lv_at hl 2 rfl) ?_
    refine lv_iconst (v := 0) hx hb dX4_ofMix_9 (by decide) ?_
    refine lv_bipush (v := 8) hx hb dX4_ofMix_10 (by decide) ?_
    rcases bE_err hf with g_4 | ⟨_, g_4, hf⟩
    · skip
      refine vx_callv (vx_runS (As := [.int p2, .int 0, .int 8]) (rest := []) ⟨hx, hb, hml, hown, hts⟩ (mx_X4_checkRange l hl0 sa H.size p2 0 8 E0 g_4) (va_cwS 3 hts gX4_ofMix_X4_checkRange rfl rfl rfl (by decide +kernel) ⟨Nat.le_of_ble_eq_true rfl, Nat.le_of_ble_eq_true rfl⟩) (pre0X [.int p2, .int 0, .int 8] (xS_kept (B := fun q => H.size ≤ q) hZ hS (fun q h => hA q (Nat.le_trans hS.1 h)))) rfl rfl hl.1 rfl (lv_room (Nat.le_of_ble_eq_true rfl)) dX4_ofMix_12 ⟨Nat.le_of_ble_eq_true rfl, Nat.le_of_ble_eq_true rfl⟩) hS (fun q _ h => hA q (Nat.le_trans hS.1 h)) (fun q h => hA q (Nat.le_trans hS.1 h)) (fun q _ h => hA q (Nat.le_trans hS.1 h)) (fun E9 ce q9 u t H1 locs1 ht9 hvm hpu hBX hz1 hk1 hS h1 h2 h3 => ?_) (fun u t H1 locs ht9 hvm hw hB hz1 hk1 hS => hw.elim)
      exact vx_out (fun x hx9 => (ht x hx9).elim) hlocks h1 h2 h3 (fun t9 ht8 hvm8 => ⟨(), trivial, ⟨hBX, by rw [ht8]; exact va_Pnew hP hk1, va_K.moved hvm8 hK⟩, hS.F ht8⟩) hS.2.2 (Nat.le_of_ble_eq_true rfl) (Nat.le_of_ble_eq_true rfl)
    · skip
      refine va_callv (va_runS (As := [.int p2, .int 0, .int 8]) (rest := []) ⟨hx, hb, hml, hown, hts⟩ (mt_X4_checkRange l H.size p2 0 8  g_4) (va_cwS 3 hts gX4_ofMix_X4_checkRange rfl rfl rfl (by decide +kernel) ⟨Nat.le_of_ble_eq_true rfl, Nat.le_of_ble_eq_true rfl⟩) (pre0 [.int p2, .int 0, .int 8]) rfl rfl hl.1 rfl (lv_room (Nat.le_of_ble_eq_true rfl)) dX4_ofMix_12 ⟨Nat.le_of_ble_eq_true rfl, Nat.le_of_ble_eq_true rfl⟩) hS (fun q _ h => hA q (Nat.le_trans hS.1 h)) (fun q h => hA q (Nat.le_trans hS.1 h)) (fun u t H1 locs ht hvm hw hB hz1 hk1 hS => ?_)
      have hP := va_Pnew hP hk1
      clear hB hz1 hk1 hvm ht
      generalize H1 = H at hP hS ⊢
      refine lv_aload_n hx hb dX4_ofMix_15 rfl (lv_at hl 0 rfl) ?_
      refine va_get (D := (dC, dI)) (ci := 5) (v := .ref (ad 2)) (C := RX4) (T := TX4) (N := 14) hx hb hts iX4_ofMix_RX4 hown hK hP 0 heH_0 rfl 1 (by decide) (hts (.fieldLink RX4 17 "OverrunHouse" "mixes" "[LOverrunHouse$Mix;") (List.mem_cons_of_mem _ (List.mem_append_left _ (List.mem_append_left _ (List.mem_append_left _ (List.mem_append_left _ (List.mem_append_left _ (List.mem_of_getElem? (i := 1) rfl)))))))) (fun _ h9 => h9) rfl dX4_ofMix_16 ?_
      refine lv_iload_n hx hb dX4_ofMix_19 rfl (lv_at hl 1 rfl) ?_
      obtain ⟨h_5, hf⟩ := ck_out hf
      refine wr_aald (b := 13) (n := 5) hx hb hK hP 2 2 heH_2 rfl (inB_in h_5) dX4_ofMix_20 ?_
      refine lv_astore_n (lv' := [(3, .ref (ad (13 + (p1).toNatClampNeg))), (0, .ref (ad 0)), (1, .int p1), (2, .int p2)]) hx hb dX4_ofMix_21 rfl hl (by decide) rfl (fun ls hl => ?_)
      refine lv_iload_n hx hb dX4_ofMix_22 rfl (lv_at hl 3 rfl) ?_
      by_cases c_6 : p2 = 0
      · have hf := it_t hf c_6
        refine lv_tableIn (off := 45) (tgt := 68) hx hb dX4_ofMix_23 (by rw [c_6]; decide) (by rw [c_6]; decide) (by rw [c_6]; decide) (by decide) ?_
        refine lv_aload_n hx hb dX4_ofMix_68 rfl (lv_at hl 0 rfl) ?_
        refine va_getN (D := (dC, dI)) (ci := 3) (v := .int (I (13 + (p1).toNatClampNeg) 0)) (C := RX2) (T := TX2) (N := 12) hx hb hts iX4_ofMix_RX2 hown hK hP (13 + (p1).toNatClampNeg) (heH_Mix (inB_lt h_5)) rfl 0 (by decide) (va_Nw.use (w := .fieldLinkNest "OverrunHouse" 99 "OverrunHouse$Mix" "kilos" "I" "OverrunHouse") rfl (hN _ (List.mem_of_getElem? (i := 10) rfl))) (fun _ h9 => h9) rfl dX4_ofMix_69 ?_
        exact (er_ne hf).elim
      · have hf := it_f hf c_6
        by_cases c_7 : p2 = 1
        · have hf := it_t hf c_7
          refine lv_tableIn (off := 50) (tgt := 73) hx hb dX4_ofMix_23 (by rw [c_7]; decide) (by rw [c_7]; decide) (by rw [c_7]; decide) (by decide) ?_
          refine lv_aload_n hx hb dX4_ofMix_73 rfl (lv_at hl 0 rfl) ?_
          refine va_getN (D := (dC, dI)) (ci := 3) (v := .int (I (13 + (p1).toNatClampNeg) 1)) (C := RX2) (T := TX2) (N := 12) hx hb hts iX4_ofMix_RX2 hown hK hP (13 + (p1).toNatClampNeg) (heH_Mix (inB_lt h_5)) rfl 1 (by decide) (va_Nw.use (w := .fieldLinkNest "OverrunHouse" 127 "OverrunHouse$Mix" "left" "I" "OverrunHouse") rfl (hN _ (List.mem_of_getElem? (i := 11) rfl))) (fun _ h9 => h9) rfl dX4_ofMix_74 ?_
          exact (er_ne hf).elim
        · have hf := it_f hf c_7
          by_cases c_8 : p2 = 2
          · have hf := it_t hf c_8
            refine lv_tableIn (off := 55) (tgt := 78) hx hb dX4_ofMix_23 (by rw [c_8]; decide) (by rw [c_8]; decide) (by rw [c_8]; decide) (by decide) ?_
            refine lv_aload_n hx hb dX4_ofMix_78 rfl (lv_at hl 0 rfl) ?_
            refine va_getN (D := (dC, dI)) (ci := 3) (v := .int (I (13 + (p1).toNatClampNeg) 5)) (C := RX2) (T := TX2) (N := 12) hx hb hts iX4_ofMix_RX2 hown hK hP (13 + (p1).toNatClampNeg) (heH_Mix (inB_lt h_5)) rfl 5 (by decide) (va_Nw.use (w := .fieldLinkNest "OverrunHouse" 212 "OverrunHouse$Mix" "cost" "I" "OverrunHouse") rfl (hN _ (List.mem_of_getElem? (i := 15) rfl))) (fun _ h9 => h9) rfl dX4_ofMix_79 ?_
            exact (er_ne hf).elim
          · have hf := it_f hf c_8
            by_cases c_9 : p2 = 3
            · have hf := it_t hf c_9
              refine lv_tableIn (off := 60) (tgt := 83) hx hb dX4_ofMix_23 (by rw [c_9]; decide) (by rw [c_9]; decide) (by rw [c_9]; decide) (by decide) ?_
              refine lv_aload_n hx hb dX4_ofMix_83 rfl (lv_at hl 0 rfl) ?_
              refine va_getN (D := (dC, dI)) (ci := 3) (v := .int (I (13 + (p1).toNatClampNeg) 6)) (C := RX2) (T := TX2) (N := 12) hx hb hts iX4_ofMix_RX2 hown hK hP (13 + (p1).toNatClampNeg) (heH_Mix (inB_lt h_5)) rfl 6 (by decide) (va_Nw.use (w := .fieldLinkNest "OverrunHouse" 130 "OverrunHouse$Mix" "harms" "I" "OverrunHouse") rfl (hN _ (List.mem_of_getElem? (i := 16) rfl))) (fun _ h9 => h9) rfl dX4_ofMix_84 ?_
              exact (er_ne hf).elim
            · have hf := it_f hf c_9
              by_cases c_10 : p2 = 4
              · have hf := it_t hf c_10
                refine lv_tableIn (off := 65) (tgt := 88) hx hb dX4_ofMix_23 (by rw [c_10]; decide) (by rw [c_10]; decide) (by rw [c_10]; decide) (by decide) ?_
                refine lv_aload_n hx hb dX4_ofMix_88 rfl (lv_at hl 0 rfl) ?_
                refine va_getN (D := (dC, dI)) (ci := 3) (v := .int (I (13 + (p1).toNatClampNeg) 10)) (C := RX2) (T := TX2) (N := 12) hx hb hts iX4_ofMix_RX2 hown hK hP (13 + (p1).toNatClampNeg) (heH_Mix (inB_lt h_5)) rfl 10 (by decide) (va_Nw.use (w := .fieldLinkNest "OverrunHouse" 112 "OverrunHouse$Mix" "isProved" "Z" "OverrunHouse") rfl (hN _ (List.mem_of_getElem? (i := 20) rfl))) (fun _ h9 => h9) rfl dX4_ofMix_89 ?_
                refine lv_if_eq (tgt := 99) hx hb dX4_ofMix_92 (by decide) (fun c_11 => ?_) (fun c_11 => ?_)
                · have hf := it_t hf c_11
                  refine lv_iconst (v := 0) hx hb dX4_ofMix_99 (by decide) ?_
                  exact (er_ne hf).elim
                · have hf := it_f hf c_11
                  refine lv_iconst (v := 1) hx hb dX4_ofMix_95 (by decide) ?_
                  refine lv_goto (tgt := 100) hx hb dX4_ofMix_96 (by decide) ?_
                  exact (er_ne hf).elim
              · have hf := it_f hf c_10
                by_cases c_12 : p2 = 5
                · have hf := it_t hf c_12
                  refine lv_tableIn (off := 78) (tgt := 101) hx hb dX4_ofMix_23 (by rw [c_12]; decide) (by rw [c_12]; decide) (by rw [c_12]; decide) (by decide) ?_
                  refine lv_aload_n hx hb dX4_ofMix_101 rfl (lv_at hl 0 rfl) ?_
                  refine va_getN (D := (dC, dI)) (ci := 3) (v := .int (I (13 + (p1).toNatClampNeg) 8)) (C := RX2) (T := TX2) (N := 12) hx hb hts iX4_ofMix_RX2 hown hK hP (13 + (p1).toNatClampNeg) (heH_Mix (inB_lt h_5)) rfl 8 (by decide) (va_Nw.use (w := .fieldLinkNest "OverrunHouse" 120 "OverrunHouse$Mix" "age" "I" "OverrunHouse") rfl (hN _ (List.mem_of_getElem? (i := 18) rfl))) (fun _ h9 => h9) rfl dX4_ofMix_102 ?_
                  exact (er_ne hf).elim
                · have hf := it_f hf c_12
                  by_cases c_13 : p2 = 6
                  · have hf := it_t hf c_13
                    refine lv_tableIn (off := 83) (tgt := 106) hx hb dX4_ofMix_23 (by rw [c_13]; decide) (by rw [c_13]; decide) (by rw [c_13]; decide) (by decide) ?_
                    refine lv_aload_n hx hb dX4_ofMix_106 rfl (lv_at hl 0 rfl) ?_
                    obtain ⟨r_14, g_15, hf⟩ := bd_out hf
                    refine va_calli (va_runVN (As := []) (rest := []) ⟨hx, hb, hml, hown, hts⟩ (mt_X2_isCream l dC dI ad cy hJ H.size I D (p1).toNatClampNeg (inB_lt h_5) r_14 g_15) ⟨va_cnB 0 hts gX4_ofMix_X2_isCream_n213 rfl rfl rfl (hN (.methodLinkNest "OverrunHouse" 213 ⟨"OverrunHouse$Mix", "isCream", "()Z"⟩ "OverrunHouse") (List.mem_of_getElem? (i := 35) rfl)) (hts (.initialized RX2) (List.mem_cons_of_mem _ (List.mem_append_left _ (List.mem_append_left _ (List.mem_append_left _ (List.mem_append_left _ (List.mem_append_left _ (List.mem_of_getElem? (i := 14) rfl)))))))) (by decide +kernel) ⟨Nat.le_of_ble_eq_true rfl, Nat.le_of_ble_eq_true rfl⟩, (hts (.instanceMethod yX2_isCream) (List.mem_cons_of_mem _ (List.mem_append_left _ (List.mem_append_left _ (List.mem_append_left _ (List.mem_append_left _ (List.mem_append_left _ (List.mem_of_getElem? (i := 13) rfl)))))))), (hts (.selects RX2 yX2_isCream yX2_isCream) (List.mem_cons_of_mem _ (List.mem_append_left _ (List.mem_append_left _ (List.mem_append_left _ (List.mem_append_left _ (List.mem_append_left _ (List.mem_of_getElem? (i := 15) rfl))))))))⟩ ⟨(hW.pre [.ref (ad (13 + (p1).toNatClampNeg))] hP hK hN).1, hW.recv (C := RX2) (T := TX2) (N := 12) hP hK (heH_Mix (inB_lt h_5)) rfl, (hW.pre [.ref (ad (13 + (p1).toNatClampNeg))] hP hK hN).2⟩ rfl rfl hl.1 rfl (lv_room (Nat.le_of_ble_eq_true rfl)) dX4_ofMix_107 ⟨Nat.le_of_ble_eq_true rfl, Nat.le_of_ble_eq_true rfl⟩) hS (fun q _ h => hA q (Nat.le_trans hS.1 h)) (fun q h => hA q (Nat.le_trans hS.1 h)) (fun r9 u t H1 locs ht hvm hw hB hz1 hk1 hS => ?_)
                    subst hw
                    have hP := va_Pnew hP hk1
                    clear hB hz1 hk1 hvm ht
                    generalize H1 = H at hP hS ⊢
                    refine lv_if_eq (tgt := 117) hx hb dX4_ofMix_110 (by decide) (fun c_16 => ?_) (fun c_16 => ?_)
                    · have hf := it_t hf c_16
                      refine lv_iconst (v := 0) hx hb dX4_ofMix_117 (by decide) ?_
                      exact (er_ne hf).elim
                    · have hf := it_f hf c_16
                      refine lv_iconst (v := 1) hx hb dX4_ofMix_113 (by decide) ?_
                      refine lv_goto (tgt := 118) hx hb dX4_ofMix_114 (by decide) ?_
                      exact (er_ne hf).elim
                  · have hf := it_f hf c_13
                    by_cases c_17 : p2 = 7
                    · have hf := it_t hf c_17
                      refine lv_tableIn (off := 96) (tgt := 119) hx hb dX4_ofMix_23 (by rw [c_17]; decide) (by rw [c_17]; decide) (by rw [c_17]; decide) (by decide) ?_
                      refine lv_aload_n hx hb dX4_ofMix_119 rfl (lv_at hl 0 rfl) ?_
                      refine va_getN (D := (dC, dI)) (ci := 3) (v := .int (I (13 + (p1).toNatClampNeg) 7)) (C := RX2) (T := TX2) (N := 12) hx hb hts iX4_ofMix_RX2 hown hK hP (13 + (p1).toNatClampNeg) (heH_Mix (inB_lt h_5)) rfl 7 (by decide) (va_Nw.use (w := .fieldLinkNest "OverrunHouse" 209 "OverrunHouse$Mix" "ingredientSet" "I" "OverrunHouse") rfl (hN _ (List.mem_of_getElem? (i := 17) rfl))) (fun _ h9 => h9) rfl dX4_ofMix_120 ?_
                      exact (er_ne hf).elim
                    · have hf := it_f hf c_17
                      refine lv_tableOut (tgt := 124) hx hb dX4_ofMix_23 (sw_out8 c_6 c_7 c_8 c_9 c_10 c_12 c_13 c_17) (by decide) ?_
                      refine lv_aload_n hx hb dX4_ofMix_124 rfl (lv_at hl 0 rfl) ?_
                      refine va_getN (D := (dC, dI)) (ci := 3) (v := .int (I (13 + (p1).toNatClampNeg) 9)) (C := RX2) (T := TX2) (N := 12) hx hb hts iX4_ofMix_RX2 hown hK hP (13 + (p1).toNatClampNeg) (heH_Mix (inB_lt h_5)) rfl 9 (by decide) (va_Nw.use (w := .fieldLinkNest "OverrunHouse" 102 "OverrunHouse$Mix" "batchesOfIt" "I" "OverrunHouse") rfl (hN _ (List.mem_of_getElem? (i := 19) rfl))) (fun _ h9 => h9) rfl dX4_ofMix_125 ?_
                      exact (er_ne hf).elim

set_option maxHeartbeats 4000000 in
set_option maxRecDepth 100000 in
theorem mx_X4_part (l : Launch) (hl0 : l.stackTraces = false) (dC : Nat → ClassId) (dI : Nat → Nat → Nat) (ad : Nat → Nat) (cy : Nat → ClassId) (hJ : J33 ad) (sa : Nat → Nat) (sz : Nat) (I : Nat → Nat → Int32) (D : Nat → Nat → UInt64) (p1 : Int32) (p2 : Int32) (E0 : String) (hf : f_X4_part I D p1 p2 = some (.error E0)) : vx_Met l yX4_part wsX4_part ({ frames := 7, cells := 1, slots := 6, locals := 112 }) (va_Pc [.ref (ad 0), .int p1, .int p2] (fun U => U.heap.size = sz ∧ hW dC dI ad cy I D U ∧ xS sa (AW ad sz) U)) (va_Qd (fun _ (_ : Unit) => False) (fun _ _ => True) (AW ad sz)) (vx_X (fun _ : Unit => True) (fun E _ t => E0 = E ∧ va_P (dC, dI) vwCl (iwH ad cy I D) t.heap ∧ va_K (dC, dI) vwCl (tysA cy) t) (AW ad sz)) 1 6 (AW ad sz) := by
  refine vx_ofW (cc := cX4_part) (maxL := 4) (ret := (some .double)) (by decide) rfl ?_
  intro p e s m args below meth c s₁ B hml ht hv
  obtain ⟨rfl, hsz, ⟨hP, hK, hN⟩, hZ⟩ := hv
  have hx := B.exec
  have hb := B.bytes
  have hr := B.returns
  have hts := atoms_spec (ws := wsX4_part) B.pre
  have hown : s.vm.findClass RX4 = some m.cls := findClass_of_methodNamed B.named
  have hlocks := B.notSynchronized
  subst hsz
  generalize hAe : AW ad s.heap.size = A at hZ ⊢
  have hA : ∀ q : Nat, s.heap.size ≤ q → A q := fun q h => by rw [← hAe]; exact Or.inr h
  have hA33 : ∀ k, k < 33 → A (ad k) := fun k h => by rw [← hAe]; exact Or.inl ⟨k, h, rfl⟩
  have hDD : ∀ I D, va_D A (iwH ad cy I D) := fun I D => iwH_D hJ hA33 I D
  obtain ⟨H, hH⟩ : ∃ H : Heap, H = s.heap := ⟨_, rfl⟩
  have hS : va_S A s.heap H [] := by rw [hH]; exact va_S.rf
  rw [← hH]
  rw [← hH] at hP
  have hl := lv_entry ([.ref (ad 0), .int p1, .int p2]) (n := 4) (Nat.le_of_ble_eq_true rfl)
  rw [lg_entry_eq]
  generalize (lg_sl ([.ref (ad 0), .int p1, .int p2]) ++ List.replicate (4 - (lg_sl ([.ref (ad 0), .int p1, .int p2])).length) Slot.unset).toArray = ls at hl ⊢
  have hl : lv_has ls 4 [(0, .ref (ad 0)), (1, .int p1), (2, .int p2)] := hl
  unfold f_X4_part at hf
  refine lv_iload_n hx hb dX4_part_0 rfl (lv_at hl 1 rfl) ?_
  refine lv_aload_n hx hb dX4_part_1 rfl (lv_at hl 0 rfl) ?_
  refine va_get (D := (dC, dI)) (ci := 5) (v := .int (I 0 6)) (C := RX4) (T := TX4) (N := 14) hx hb hts iX4_part_RX4 hown hK hP 0 heH_0 rfl 6 (by decide) (hts (.fieldLink RX4 41 "OverrunHouse" "mixCount" "I") (List.mem_cons_of_mem _ (List.mem_append_left _ (List.mem_append_left _ (List.mem_append_left _ (List.mem_append_left _ (List.mem_of_getElem? (i := 0) rfl))))))) (fun _ h9 => h9) rfl dX4_part_2 ?_
  rcases bE_err hf with g_2 | ⟨_, g_2, hf⟩
  · skip
    refine vx_callv (vx_runS (As := [.int p1, .int (I 0 6)]) (rest := []) ⟨hx, hb, hml, hown, hts⟩ (mx_X4_checkNumber l hl0 sa H.size p1 (I 0 6) E0 g_2) (va_cwS 2 hts gX4_part_X4_checkNumber rfl rfl rfl (by decide +kernel) ⟨Nat.le_of_ble_eq_true rfl, Nat.le_of_ble_eq_true rfl⟩) (pre0X [.int p1, .int (I 0 6)] (xS_kept (B := fun q => H.size ≤ q) hZ hS (fun q h => hA q (Nat.le_trans hS.1 h)))) rfl rfl hl.1 rfl (lv_room (Nat.le_of_ble_eq_true rfl)) dX4_part_5 ⟨Nat.le_of_ble_eq_true rfl, Nat.le_of_ble_eq_true rfl⟩) hS (fun q _ h => hA q (Nat.le_trans hS.1 h)) (fun q h => hA q (Nat.le_trans hS.1 h)) (fun q _ h => hA q (Nat.le_trans hS.1 h)) (fun E9 ce q9 u t H1 locs1 ht9 hvm hpu hBX hz1 hk1 hS h1 h2 h3 => ?_) (fun u t H1 locs ht9 hvm hw hB hz1 hk1 hS => hw.elim)
    exact vx_out (fun x hx9 => (ht x hx9).elim) hlocks h1 h2 h3 (fun t9 ht8 hvm8 => ⟨(), trivial, ⟨hBX, by rw [ht8]; exact va_Pnew hP hk1, va_K.moved hvm8 hK⟩, hS.F ht8⟩) hS.2.2 (Nat.le_of_ble_eq_true rfl) (Nat.le_of_ble_eq_true rfl)
  · skip
    refine va_callv (va_runS (As := [.int p1, .int (I 0 6)]) (rest := []) ⟨hx, hb, hml, hown, hts⟩ (mt_X4_checkNumber l H.size p1 (I 0 6)  g_2) (va_cwS 2 hts gX4_part_X4_checkNumber rfl rfl rfl (by decide +kernel) ⟨Nat.le_of_ble_eq_true rfl, Nat.le_of_ble_eq_true rfl⟩) (pre0 [.int p1, .int (I 0 6)]) rfl rfl hl.1 rfl (lv_room (Nat.le_of_ble_eq_true rfl)) dX4_part_5 ⟨Nat.le_of_ble_eq_true rfl, Nat.le_of_ble_eq_true rfl⟩) hS (fun q _ h => hA q (Nat.le_trans hS.1 h)) (fun q h => hA q (Nat.le_trans hS.1 h)) (fun u t H1 locs ht hvm hw hB hz1 hk1 hS => ?_)
    have hP := va_Pnew hP hk1
    clear hB hz1 hk1 hvm ht
    generalize H1 = H at hP hS ⊢
    refine lv_iload_n hx hb dX4_part_8 rfl (lv_at hl 2 rfl) ?_
    refine lv_iconst (v := 0) hx hb dX4_part_9 (by decide) ?_
    refine lv_iconst (v := 3) hx hb dX4_part_10 (by decide) ?_
    rcases bE_err hf with g_4 | ⟨_, g_4, hf⟩
    · skip
      refine vx_callv (vx_runS (As := [.int p2, .int 0, .int 3]) (rest := []) ⟨hx, hb, hml, hown, hts⟩ (mx_X4_checkRange l hl0 sa H.size p2 0 3 E0 g_4) (va_cwS 3 hts gX4_part_X4_checkRange rfl rfl rfl (by decide +kernel) ⟨Nat.le_of_ble_eq_true rfl, Nat.le_of_ble_eq_true rfl⟩) (pre0X [.int p2, .int 0, .int 3] (xS_kept (B := fun q => H.size ≤ q) hZ hS (fun q h => hA q (Nat.le_trans hS.1 h)))) rfl rfl hl.1 rfl (lv_room (Nat.le_of_ble_eq_true rfl)) dX4_part_11 ⟨Nat.le_of_ble_eq_true rfl, Nat.le_of_ble_eq_true rfl⟩) hS (fun q _ h => hA q (Nat.le_trans hS.1 h)) (fun q h => hA q (Nat.le_trans hS.1 h)) (fun q _ h => hA q (Nat.le_trans hS.1 h)) (fun E9 ce q9 u t H1 locs1 ht9 hvm hpu hBX hz1 hk1 hS h1 h2 h3 => ?_) (fun u t H1 locs ht9 hvm hw hB hz1 hk1 hS => hw.elim)
      exact vx_out (fun x hx9 => (ht x hx9).elim) hlocks h1 h2 h3 (fun t9 ht8 hvm8 => ⟨(), trivial, ⟨hBX, by rw [ht8]; exact va_Pnew hP hk1, va_K.moved hvm8 hK⟩, hS.F ht8⟩) hS.2.2 (Nat.le_of_ble_eq_true rfl) (Nat.le_of_ble_eq_true rfl)
    · skip
      refine va_callv (va_runS (As := [.int p2, .int 0, .int 3]) (rest := []) ⟨hx, hb, hml, hown, hts⟩ (mt_X4_checkRange l H.size p2 0 3  g_4) (va_cwS 3 hts gX4_part_X4_checkRange rfl rfl rfl (by decide +kernel) ⟨Nat.le_of_ble_eq_true rfl, Nat.le_of_ble_eq_true rfl⟩) (pre0 [.int p2, .int 0, .int 3]) rfl rfl hl.1 rfl (lv_room (Nat.le_of_ble_eq_true rfl)) dX4_part_11 ⟨Nat.le_of_ble_eq_true rfl, Nat.le_of_ble_eq_true rfl⟩) hS (fun q _ h => hA q (Nat.le_trans hS.1 h)) (fun q h => hA q (Nat.le_trans hS.1 h)) (fun u t H1 locs ht hvm hw hB hz1 hk1 hS => ?_)
      have hP := va_Pnew hP hk1
      clear hB hz1 hk1 hvm ht
      generalize H1 = H at hP hS ⊢
      refine lv_aload_n hx hb dX4_part_14 rfl (lv_at hl 0 rfl) ?_
      refine va_get (D := (dC, dI)) (ci := 5) (v := .ref (ad 2)) (C := RX4) (T := TX4) (N := 14) hx hb hts iX4_part_RX4 hown hK hP 0 heH_0 rfl 1 (by decide) (hts (.fieldLink RX4 17 "OverrunHouse" "mixes" "[LOverrunHouse$Mix;") (List.mem_cons_of_mem _ (List.mem_append_left _ (List.mem_append_left _ (List.mem_append_left _ (List.mem_append_left _ (List.mem_of_getElem? (i := 1) rfl))))))) (fun _ h9 => h9) rfl dX4_part_15 ?_
      refine lv_iload_n hx hb dX4_part_18 rfl (lv_at hl 1 rfl) ?_
      obtain ⟨h_5, hf⟩ := ck_out hf
      refine wr_aald (b := 13) (n := 5) hx hb hK hP 2 2 heH_2 rfl (inB_in h_5) dX4_part_19 ?_
      refine lv_astore_n (lv' := [(3, .ref (ad (13 + (p1).toNatClampNeg))), (0, .ref (ad 0)), (1, .int p1), (2, .int p2)]) hx hb dX4_part_20 rfl hl (by decide) rfl (fun ls hl => ?_)
      refine lv_iload_n hx hb dX4_part_21 rfl (lv_at hl 3 rfl) ?_
      by_cases c_6 : p2 = 0
      · have hf := it_t hf c_6
        refine lv_tableIn (off := 26) (tgt := 48) hx hb dX4_part_22 (by rw [c_6]; decide) (by rw [c_6]; decide) (by rw [c_6]; decide) (by decide) ?_
        refine lv_aload_n hx hb dX4_part_48 rfl (lv_at hl 0 rfl) ?_
        refine lv_aload_n hx hb dX4_part_49 rfl (lv_at hl 0 rfl) ?_
        refine va_getN (D := (dC, dI)) (ci := 3) (v := .int (I (13 + (p1).toNatClampNeg) 2)) (C := RX2) (T := TX2) (N := 12) hx hb hts iX4_part_RX2 hown hK hP (13 + (p1).toNatClampNeg) (heH_Mix (inB_lt h_5)) rfl 2 (by decide) (va_Nw.use (w := .fieldLinkNest "OverrunHouse" 216 "OverrunHouse$Mix" "fatSum" "I" "OverrunHouse") rfl (hN _ (List.mem_of_getElem? (i := 12) rfl))) (fun _ h9 => h9) rfl dX4_part_50 ?_
        obtain ⟨r_7, g_8, hf⟩ := bd_out hf
        refine va_calld (va_runVN (As := [.int (I (13 + (p1).toNatClampNeg) 2)]) (rest := []) ⟨hx, hb, hml, hown, hts⟩ (mt_X2_percent l dC dI ad cy hJ H.size I D (p1).toNatClampNeg (inB_lt h_5) (I (13 + (p1).toNatClampNeg) 2) r_7 g_8) ⟨va_cnB 1 hts gX4_part_X2_percent_n219 rfl rfl rfl (hN (.methodLinkNest "OverrunHouse" 219 ⟨"OverrunHouse$Mix", "percent", "(I)D"⟩ "OverrunHouse") (List.mem_of_getElem? (i := 42) rfl)) (hts (.initialized RX2) (List.mem_cons_of_mem _ (List.mem_append_left _ (List.mem_append_left _ (List.mem_append_left _ (List.mem_append_left _ (List.mem_of_getElem? (i := 14) rfl))))))) (by decide +kernel) ⟨Nat.le_of_ble_eq_true rfl, Nat.le_of_ble_eq_true rfl⟩, (hts (.instanceMethod yX2_percent) (List.mem_cons_of_mem _ (List.mem_append_left _ (List.mem_append_left _ (List.mem_append_left _ (List.mem_append_left _ (List.mem_of_getElem? (i := 13) rfl))))))), (hts (.selects RX2 yX2_percent yX2_percent) (List.mem_cons_of_mem _ (List.mem_append_left _ (List.mem_append_left _ (List.mem_append_left _ (List.mem_append_left _ (List.mem_of_getElem? (i := 15) rfl)))))))⟩ ⟨(hW.pre [.ref (ad (13 + (p1).toNatClampNeg)), .int (I (13 + (p1).toNatClampNeg) 2)] hP hK hN).1, hW.recv (C := RX2) (T := TX2) (N := 12) hP hK (heH_Mix (inB_lt h_5)) rfl, (hW.pre [.ref (ad (13 + (p1).toNatClampNeg)), .int (I (13 + (p1).toNatClampNeg) 2)] hP hK hN).2⟩ rfl rfl hl.1 rfl (lv_room (Nat.le_of_ble_eq_true rfl)) dX4_part_53 ⟨Nat.le_of_ble_eq_true rfl, Nat.le_of_ble_eq_true rfl⟩) hS (fun q _ h => hA q (Nat.le_trans hS.1 h)) (fun q h => hA q (Nat.le_trans hS.1 h)) (fun r9 u t H1 locs ht hvm hw hB hz1 hk1 hS => ?_)
        subst hw
        have hP := va_Pnew hP hk1
        clear hB hz1 hk1 hvm ht
        generalize H1 = H at hP hS ⊢
        exact (er_ne hf).elim
      · have hf := it_f hf c_6
        by_cases c_9 : p2 = 1
        · have hf := it_t hf c_9
          refine lv_tableIn (off := 35) (tgt := 57) hx hb dX4_part_22 (by rw [c_9]; decide) (by rw [c_9]; decide) (by rw [c_9]; decide) (by decide) ?_
          refine lv_aload_n hx hb dX4_part_57 rfl (lv_at hl 0 rfl) ?_
          refine lv_aload_n hx hb dX4_part_58 rfl (lv_at hl 0 rfl) ?_
          refine va_getN (D := (dC, dI)) (ci := 3) (v := .int (I (13 + (p1).toNatClampNeg) 3)) (C := RX2) (T := TX2) (N := 12) hx hb hts iX4_part_RX2 hown hK hP (13 + (p1).toNatClampNeg) (heH_Mix (inB_lt h_5)) rfl 3 (by decide) (va_Nw.use (w := .fieldLinkNest "OverrunHouse" 223 "OverrunHouse$Mix" "milkSum" "I" "OverrunHouse") rfl (hN _ (List.mem_of_getElem? (i := 13) rfl))) (fun _ h9 => h9) rfl dX4_part_59 ?_
          obtain ⟨r_10, g_11, hf⟩ := bd_out hf
          refine va_calld (va_runVN (As := [.int (I (13 + (p1).toNatClampNeg) 3)]) (rest := []) ⟨hx, hb, hml, hown, hts⟩ (mt_X2_percent l dC dI ad cy hJ H.size I D (p1).toNatClampNeg (inB_lt h_5) (I (13 + (p1).toNatClampNeg) 3) r_10 g_11) ⟨va_cnB 1 hts gX4_part_X2_percent_n219 rfl rfl rfl (hN (.methodLinkNest "OverrunHouse" 219 ⟨"OverrunHouse$Mix", "percent", "(I)D"⟩ "OverrunHouse") (List.mem_of_getElem? (i := 42) rfl)) (hts (.initialized RX2) (List.mem_cons_of_mem _ (List.mem_append_left _ (List.mem_append_left _ (List.mem_append_left _ (List.mem_append_left _ (List.mem_of_getElem? (i := 14) rfl))))))) (by decide +kernel) ⟨Nat.le_of_ble_eq_true rfl, Nat.le_of_ble_eq_true rfl⟩, (hts (.instanceMethod yX2_percent) (List.mem_cons_of_mem _ (List.mem_append_left _ (List.mem_append_left _ (List.mem_append_left _ (List.mem_append_left _ (List.mem_of_getElem? (i := 13) rfl))))))), (hts (.selects RX2 yX2_percent yX2_percent) (List.mem_cons_of_mem _ (List.mem_append_left _ (List.mem_append_left _ (List.mem_append_left _ (List.mem_append_left _ (List.mem_of_getElem? (i := 15) rfl)))))))⟩ ⟨(hW.pre [.ref (ad (13 + (p1).toNatClampNeg)), .int (I (13 + (p1).toNatClampNeg) 3)] hP hK hN).1, hW.recv (C := RX2) (T := TX2) (N := 12) hP hK (heH_Mix (inB_lt h_5)) rfl, (hW.pre [.ref (ad (13 + (p1).toNatClampNeg)), .int (I (13 + (p1).toNatClampNeg) 3)] hP hK hN).2⟩ rfl rfl hl.1 rfl (lv_room (Nat.le_of_ble_eq_true rfl)) dX4_part_62 ⟨Nat.le_of_ble_eq_true rfl, Nat.le_of_ble_eq_true rfl⟩) hS (fun q _ h => hA q (Nat.le_trans hS.1 h)) (fun q h => hA q (Nat.le_trans hS.1 h)) (fun r9 u t H1 locs ht hvm hw hB hz1 hk1 hS => ?_)
          subst hw
          have hP := va_Pnew hP hk1
          clear hB hz1 hk1 hvm ht
          generalize H1 = H at hP hS ⊢
          exact (er_ne hf).elim
        · have hf := it_f hf c_9
          by_cases c_12 : p2 = 2
          · have hf := it_t hf c_12
            refine lv_tableIn (off := 44) (tgt := 66) hx hb dX4_part_22 (by rw [c_12]; decide) (by rw [c_12]; decide) (by rw [c_12]; decide) (by decide) ?_
            refine lv_aload_n hx hb dX4_part_66 rfl (lv_at hl 0 rfl) ?_
            refine lv_aload_n hx hb dX4_part_67 rfl (lv_at hl 0 rfl) ?_
            refine va_getN (D := (dC, dI)) (ci := 3) (v := .int (I (13 + (p1).toNatClampNeg) 4)) (C := RX2) (T := TX2) (N := 12) hx hb hts iX4_part_RX2 hown hK hP (13 + (p1).toNatClampNeg) (heH_Mix (inB_lt h_5)) rfl 4 (by decide) (va_Nw.use (w := .fieldLinkNest "OverrunHouse" 226 "OverrunHouse$Mix" "sugarSum" "I" "OverrunHouse") rfl (hN _ (List.mem_of_getElem? (i := 14) rfl))) (fun _ h9 => h9) rfl dX4_part_68 ?_
            obtain ⟨r_13, g_14, hf⟩ := bd_out hf
            refine va_calld (va_runVN (As := [.int (I (13 + (p1).toNatClampNeg) 4)]) (rest := []) ⟨hx, hb, hml, hown, hts⟩ (mt_X2_percent l dC dI ad cy hJ H.size I D (p1).toNatClampNeg (inB_lt h_5) (I (13 + (p1).toNatClampNeg) 4) r_13 g_14) ⟨va_cnB 1 hts gX4_part_X2_percent_n219 rfl rfl rfl (hN (.methodLinkNest "OverrunHouse" 219 ⟨"OverrunHouse$Mix", "percent", "(I)D"⟩ "OverrunHouse") (List.mem_of_getElem? (i := 42) rfl)) (hts (.initialized RX2) (List.mem_cons_of_mem _ (List.mem_append_left _ (List.mem_append_left _ (List.mem_append_left _ (List.mem_append_left _ (List.mem_of_getElem? (i := 14) rfl))))))) (by decide +kernel) ⟨Nat.le_of_ble_eq_true rfl, Nat.le_of_ble_eq_true rfl⟩, (hts (.instanceMethod yX2_percent) (List.mem_cons_of_mem _ (List.mem_append_left _ (List.mem_append_left _ (List.mem_append_left _ (List.mem_append_left _ (List.mem_of_getElem? (i := 13) rfl))))))), (hts (.selects RX2 yX2_percent yX2_percent) (List.mem_cons_of_mem _ (List.mem_append_left _ (List.mem_append_left _ (List.mem_append_left _ (List.mem_append_left _ (List.mem_of_getElem? (i := 15) rfl)))))))⟩ ⟨(hW.pre [.ref (ad (13 + (p1).toNatClampNeg)), .int (I (13 + (p1).toNatClampNeg) 4)] hP hK hN).1, hW.recv (C := RX2) (T := TX2) (N := 12) hP hK (heH_Mix (inB_lt h_5)) rfl, (hW.pre [.ref (ad (13 + (p1).toNatClampNeg)), .int (I (13 + (p1).toNatClampNeg) 4)] hP hK hN).2⟩ rfl rfl hl.1 rfl (lv_room (Nat.le_of_ble_eq_true rfl)) dX4_part_71 ⟨Nat.le_of_ble_eq_true rfl, Nat.le_of_ble_eq_true rfl⟩) hS (fun q _ h => hA q (Nat.le_trans hS.1 h)) (fun q h => hA q (Nat.le_trans hS.1 h)) (fun r9 u t H1 locs ht hvm hw hB hz1 hk1 hS => ?_)
            subst hw
            have hP := va_Pnew hP hk1
            clear hB hz1 hk1 hvm ht
            generalize H1 = H at hP hS ⊢
            exact (er_ne hf).elim
          · have hf := it_f hf c_12
            refine lv_tableOut (tgt := 75) hx hb dX4_part_22 (sw_out3 c_6 c_9 c_12) (by decide) ?_
            refine lv_aload_n hx hb dX4_part_75 rfl (lv_at hl 0 rfl) ?_
            refine va_getN (D := (dC, dI)) (ci := 3) (v := .double (D (13 + (p1).toNatClampNeg) 11)) (C := RX2) (T := TX2) (N := 12) hx hb hts iX4_part_RX2 hown hK hP (13 + (p1).toNatClampNeg) (heH_Mix (inB_lt h_5)) rfl 11 (by decide) (va_Nw.use (w := .fieldLinkNest "OverrunHouse" 229 "OverrunHouse$Mix" "freezesAt" "D" "OverrunHouse") rfl (hN _ (List.mem_of_getElem? (i := 21) rfl))) (fun _ h9 => h9) rfl dX4_part_76 ?_
            exact (er_ne hf).elim

set_option maxHeartbeats 4000000 in
set_option maxRecDepth 100000 in
theorem mx_X4_ice (l : Launch) (hl0 : l.stackTraces = false) (dC : Nat → ClassId) (dI : Nat → Nat → Nat) (ad : Nat → Nat) (cy : Nat → ClassId) (hJ : J33 ad) (sa : Nat → Nat) (sz : Nat) (I : Nat → Nat → Int32) (D : Nat → Nat → UInt64) (p1 : Int32) (p2 : Int32) (E0 : String) (hf : f_X4_ice I D p1 p2 = some (.error E0)) : vx_Met l yX4_ice wsX4_ice ({ frames := 7, cells := 1, slots := 6, locals := 112 }) (va_Pc [.ref (ad 0), .int p1, .int p2] (fun U => U.heap.size = sz ∧ hW dC dI ad cy I D U ∧ xS sa (AW ad sz) U)) (va_Qd (fun _ (_ : Unit) => False) (fun _ _ => True) (AW ad sz)) (vx_X (fun _ : Unit => True) (fun E _ t => E0 = E ∧ va_P (dC, dI) vwCl (iwH ad cy I D) t.heap ∧ va_K (dC, dI) vwCl (tysA cy) t) (AW ad sz)) 1 6 (AW ad sz) := by
  refine vx_ofW (cc := cX4_ice) (maxL := 3) (ret := (some .double)) (by decide) rfl ?_
  intro p e s m args below meth c s₁ B hml ht hv
  obtain ⟨rfl, hsz, ⟨hP, hK, hN⟩, hZ⟩ := hv
  have hx := B.exec
  have hb := B.bytes
  have hr := B.returns
  have hts := atoms_spec (ws := wsX4_ice) B.pre
  have hown : s.vm.findClass RX4 = some m.cls := findClass_of_methodNamed B.named
  have hlocks := B.notSynchronized
  subst hsz
  generalize hAe : AW ad s.heap.size = A at hZ ⊢
  have hA : ∀ q : Nat, s.heap.size ≤ q → A q := fun q h => by rw [← hAe]; exact Or.inr h
  have hA33 : ∀ k, k < 33 → A (ad k) := fun k h => by rw [← hAe]; exact Or.inl ⟨k, h, rfl⟩
  have hDD : ∀ I D, va_D A (iwH ad cy I D) := fun I D => iwH_D hJ hA33 I D
  obtain ⟨H, hH⟩ : ∃ H : Heap, H = s.heap := ⟨_, rfl⟩
  have hS : va_S A s.heap H [] := by rw [hH]; exact va_S.rf
  rw [← hH]
  rw [← hH] at hP
  have hl := lv_entry ([.ref (ad 0), .int p1, .int p2]) (n := 3) (Nat.le_of_ble_eq_true rfl)
  rw [lg_entry_eq]
  generalize (lg_sl ([.ref (ad 0), .int p1, .int p2]) ++ List.replicate (3 - (lg_sl ([.ref (ad 0), .int p1, .int p2])).length) Slot.unset).toArray = ls at hl ⊢
  have hl : lv_has ls 3 [(0, .ref (ad 0)), (1, .int p1), (2, .int p2)] := hl
  unfold f_X4_ice at hf
  refine lv_iload_n hx hb dX4_ice_0 rfl (lv_at hl 1 rfl) ?_
  refine lv_aload_n hx hb dX4_ice_1 rfl (lv_at hl 0 rfl) ?_
  refine va_get (D := (dC, dI)) (ci := 5) (v := .int (I 0 6)) (C := RX4) (T := TX4) (N := 14) hx hb hts iX4_ice_RX4 hown hK hP 0 heH_0 rfl 6 (by decide) (hts (.fieldLink RX4 41 "OverrunHouse" "mixCount" "I") (List.mem_cons_of_mem _ (List.mem_append_left _ (List.mem_append_left _ (List.mem_append_left _ (List.mem_append_left _ (List.mem_of_getElem? (i := 0) rfl))))))) (fun _ h9 => h9) rfl dX4_ice_2 ?_
  rcases bE_err hf with g_2 | ⟨_, g_2, hf⟩
  · skip
    refine vx_callv (vx_runS (As := [.int p1, .int (I 0 6)]) (rest := []) ⟨hx, hb, hml, hown, hts⟩ (mx_X4_checkNumber l hl0 sa H.size p1 (I 0 6) E0 g_2) (va_cwS 2 hts gX4_ice_X4_checkNumber rfl rfl rfl (by decide +kernel) ⟨Nat.le_of_ble_eq_true rfl, Nat.le_of_ble_eq_true rfl⟩) (pre0X [.int p1, .int (I 0 6)] (xS_kept (B := fun q => H.size ≤ q) hZ hS (fun q h => hA q (Nat.le_trans hS.1 h)))) rfl rfl hl.1 rfl (lv_room (Nat.le_of_ble_eq_true rfl)) dX4_ice_5 ⟨Nat.le_of_ble_eq_true rfl, Nat.le_of_ble_eq_true rfl⟩) hS (fun q _ h => hA q (Nat.le_trans hS.1 h)) (fun q h => hA q (Nat.le_trans hS.1 h)) (fun q _ h => hA q (Nat.le_trans hS.1 h)) (fun E9 ce q9 u t H1 locs1 ht9 hvm hpu hBX hz1 hk1 hS h1 h2 h3 => ?_) (fun u t H1 locs ht9 hvm hw hB hz1 hk1 hS => hw.elim)
    exact vx_out (fun x hx9 => (ht x hx9).elim) hlocks h1 h2 h3 (fun t9 ht8 hvm8 => ⟨(), trivial, ⟨hBX, by rw [ht8]; exact va_Pnew hP hk1, va_K.moved hvm8 hK⟩, hS.F ht8⟩) hS.2.2 (Nat.le_of_ble_eq_true rfl) (Nat.le_of_ble_eq_true rfl)
  · skip
    refine va_callv (va_runS (As := [.int p1, .int (I 0 6)]) (rest := []) ⟨hx, hb, hml, hown, hts⟩ (mt_X4_checkNumber l H.size p1 (I 0 6)  g_2) (va_cwS 2 hts gX4_ice_X4_checkNumber rfl rfl rfl (by decide +kernel) ⟨Nat.le_of_ble_eq_true rfl, Nat.le_of_ble_eq_true rfl⟩) (pre0 [.int p1, .int (I 0 6)]) rfl rfl hl.1 rfl (lv_room (Nat.le_of_ble_eq_true rfl)) dX4_ice_5 ⟨Nat.le_of_ble_eq_true rfl, Nat.le_of_ble_eq_true rfl⟩) hS (fun q _ h => hA q (Nat.le_trans hS.1 h)) (fun q h => hA q (Nat.le_trans hS.1 h)) (fun u t H1 locs ht hvm hw hB hz1 hk1 hS => ?_)
    have hP := va_Pnew hP hk1
    clear hB hz1 hk1 hvm ht
    generalize H1 = H at hP hS ⊢
    refine lv_iload_n hx hb dX4_ice_8 rfl (lv_at hl 2 rfl) ?_
    refine lv_bipush (v := (-40)) hx hb dX4_ice_9 (by decide) ?_
    refine lv_bipush (v := 20) hx hb dX4_ice_11 (by decide) ?_
    rcases bE_err hf with g_4 | ⟨_, g_4, hf⟩
    · skip
      refine vx_callv (vx_runS (As := [.int p2, .int (-40), .int 20]) (rest := []) ⟨hx, hb, hml, hown, hts⟩ (mx_X4_checkRange l hl0 sa H.size p2 (-40) 20 E0 g_4) (va_cwS 3 hts gX4_ice_X4_checkRange rfl rfl rfl (by decide +kernel) ⟨Nat.le_of_ble_eq_true rfl, Nat.le_of_ble_eq_true rfl⟩) (pre0X [.int p2, .int (-40), .int 20] (xS_kept (B := fun q => H.size ≤ q) hZ hS (fun q h => hA q (Nat.le_trans hS.1 h)))) rfl rfl hl.1 rfl (lv_room (Nat.le_of_ble_eq_true rfl)) dX4_ice_13 ⟨Nat.le_of_ble_eq_true rfl, Nat.le_of_ble_eq_true rfl⟩) hS (fun q _ h => hA q (Nat.le_trans hS.1 h)) (fun q h => hA q (Nat.le_trans hS.1 h)) (fun q _ h => hA q (Nat.le_trans hS.1 h)) (fun E9 ce q9 u t H1 locs1 ht9 hvm hpu hBX hz1 hk1 hS h1 h2 h3 => ?_) (fun u t H1 locs ht9 hvm hw hB hz1 hk1 hS => hw.elim)
      exact vx_out (fun x hx9 => (ht x hx9).elim) hlocks h1 h2 h3 (fun t9 ht8 hvm8 => ⟨(), trivial, ⟨hBX, by rw [ht8]; exact va_Pnew hP hk1, va_K.moved hvm8 hK⟩, hS.F ht8⟩) hS.2.2 (Nat.le_of_ble_eq_true rfl) (Nat.le_of_ble_eq_true rfl)
    · skip
      refine va_callv (va_runS (As := [.int p2, .int (-40), .int 20]) (rest := []) ⟨hx, hb, hml, hown, hts⟩ (mt_X4_checkRange l H.size p2 (-40) 20  g_4) (va_cwS 3 hts gX4_ice_X4_checkRange rfl rfl rfl (by decide +kernel) ⟨Nat.le_of_ble_eq_true rfl, Nat.le_of_ble_eq_true rfl⟩) (pre0 [.int p2, .int (-40), .int 20]) rfl rfl hl.1 rfl (lv_room (Nat.le_of_ble_eq_true rfl)) dX4_ice_13 ⟨Nat.le_of_ble_eq_true rfl, Nat.le_of_ble_eq_true rfl⟩) hS (fun q _ h => hA q (Nat.le_trans hS.1 h)) (fun q h => hA q (Nat.le_trans hS.1 h)) (fun u t H1 locs ht hvm hw hB hz1 hk1 hS => ?_)
      have hP := va_Pnew hP hk1
      clear hB hz1 hk1 hvm ht
      generalize H1 = H at hP hS ⊢
      refine lv_aload_n hx hb dX4_ice_16 rfl (lv_at hl 0 rfl) ?_
      refine va_get (D := (dC, dI)) (ci := 5) (v := .ref (ad 2)) (C := RX4) (T := TX4) (N := 14) hx hb hts iX4_ice_RX4 hown hK hP 0 heH_0 rfl 1 (by decide) (hts (.fieldLink RX4 17 "OverrunHouse" "mixes" "[LOverrunHouse$Mix;") (List.mem_cons_of_mem _ (List.mem_append_left _ (List.mem_append_left _ (List.mem_append_left _ (List.mem_append_left _ (List.mem_of_getElem? (i := 1) rfl))))))) (fun _ h9 => h9) rfl dX4_ice_17 ?_
      refine lv_iload_n hx hb dX4_ice_20 rfl (lv_at hl 1 rfl) ?_
      obtain ⟨h_5, hf⟩ := ck_out hf
      refine wr_aald (b := 13) (n := 5) hx hb hK hP 2 2 heH_2 rfl (inB_in h_5) dX4_ice_21 ?_
      refine lv_iload_n hx hb dX4_ice_22 rfl (lv_at hl 2 rfl) ?_
      refine lv_i2d hx hb dX4_ice_23 ?_
      obtain ⟨r_6, g_7, hf⟩ := bd_out hf
      refine va_calld (va_runVN (As := [.double (FP.i2d p2)]) (rest := []) ⟨hx, hb, hml, hown, hts⟩ (mt_X2_iceShare l dC dI ad cy hJ H.size I D (p1).toNatClampNeg (inB_lt h_5) (FP.i2d p2) r_6 g_7) ⟨va_cnB 1 hts gX4_ice_X2_iceShare_n232 rfl rfl rfl (hN (.methodLinkNest "OverrunHouse" 232 ⟨"OverrunHouse$Mix", "iceShare", "(D)D"⟩ "OverrunHouse") (List.mem_of_getElem? (i := 43) rfl)) (hts (.initialized RX2) (List.mem_cons_of_mem _ (List.mem_append_left _ (List.mem_append_left _ (List.mem_append_left _ (List.mem_append_left _ (List.mem_of_getElem? (i := 14) rfl))))))) (by decide +kernel) ⟨Nat.le_of_ble_eq_true rfl, Nat.le_of_ble_eq_true rfl⟩, (hts (.instanceMethod yX2_iceShare) (List.mem_cons_of_mem _ (List.mem_append_left _ (List.mem_append_left _ (List.mem_append_left _ (List.mem_append_left _ (List.mem_of_getElem? (i := 13) rfl))))))), (hts (.selects RX2 yX2_iceShare yX2_iceShare) (List.mem_cons_of_mem _ (List.mem_append_left _ (List.mem_append_left _ (List.mem_append_left _ (List.mem_append_left _ (List.mem_of_getElem? (i := 15) rfl)))))))⟩ ⟨(hW.pre [.ref (ad (13 + (p1).toNatClampNeg)), .double (FP.i2d p2)] hP hK hN).1, hW.recv (C := RX2) (T := TX2) (N := 12) hP hK (heH_Mix (inB_lt h_5)) rfl, (hW.pre [.ref (ad (13 + (p1).toNatClampNeg)), .double (FP.i2d p2)] hP hK hN).2⟩ rfl rfl hl.1 rfl (lv_room (Nat.le_of_ble_eq_true rfl)) dX4_ice_24 ⟨Nat.le_of_ble_eq_true rfl, Nat.le_of_ble_eq_true rfl⟩) hS (fun q _ h => hA q (Nat.le_trans hS.1 h)) (fun q h => hA q (Nat.le_trans hS.1 h)) (fun r9 u t H1 locs ht hvm hw hB hz1 hk1 hS => ?_)
      subst hw
      have hP := va_Pnew hP hk1
      clear hB hz1 hk1 hvm ht
      generalize H1 = H at hP hS ⊢
      exact (er_ne hf).elim

set_option maxHeartbeats 4000000 in
set_option maxRecDepth 100000 in
theorem mx_X4_ofBatch (l : Launch) (hl0 : l.stackTraces = false) (dC : Nat → ClassId) (dI : Nat → Nat → Nat) (ad : Nat → Nat) (cy : Nat → ClassId) (hJ : J33 ad) (sa : Nat → Nat) (sz : Nat) (I : Nat → Nat → Int32) (D : Nat → Nat → UInt64) (p1 : Int32) (p2 : Int32) (E0 : String) (hf : f_X4_ofBatch I D p1 p2 = some (.error E0)) : vx_Met l yX4_ofBatch wsX4_ofBatch ({ frames := 7, cells := 1, slots := 6, locals := 112 }) (va_Pc [.ref (ad 0), .int p1, .int p2] (fun U => U.heap.size = sz ∧ hW dC dI ad cy I D U ∧ xS sa (AW ad sz) U)) (va_Qi (fun _ (_ : Unit) => False) (fun _ _ => True) (AW ad sz)) (vx_X (fun _ : Unit => True) (fun E _ t => E0 = E ∧ va_P (dC, dI) vwCl (iwH ad cy I D) t.heap ∧ va_K (dC, dI) vwCl (tysA cy) t) (AW ad sz)) 1 6 (AW ad sz) := by
  refine vx_ofW (cc := cX4_ofBatch) (maxL := 4) (ret := (some .int)) (by decide) rfl ?_
  intro p e s m args below meth c s₁ B hml ht hv
  obtain ⟨rfl, hsz, ⟨hP, hK, hN⟩, hZ⟩ := hv
  have hx := B.exec
  have hb := B.bytes
  have hr := B.returns
  have hts := atoms_spec (ws := wsX4_ofBatch) B.pre
  have hown : s.vm.findClass RX4 = some m.cls := findClass_of_methodNamed B.named
  have hlocks := B.notSynchronized
  subst hsz
  generalize hAe : AW ad s.heap.size = A at hZ ⊢
  have hA : ∀ q : Nat, s.heap.size ≤ q → A q := fun q h => by rw [← hAe]; exact Or.inr h
  have hA33 : ∀ k, k < 33 → A (ad k) := fun k h => by rw [← hAe]; exact Or.inl ⟨k, h, rfl⟩
  have hDD : ∀ I D, va_D A (iwH ad cy I D) := fun I D => iwH_D hJ hA33 I D
  obtain ⟨H, hH⟩ : ∃ H : Heap, H = s.heap := ⟨_, rfl⟩
  have hS : va_S A s.heap H [] := by rw [hH]; exact va_S.rf
  rw [← hH]
  rw [← hH] at hP
  have hl := lv_entry ([.ref (ad 0), .int p1, .int p2]) (n := 4) (Nat.le_of_ble_eq_true rfl)
  rw [lg_entry_eq]
  generalize (lg_sl ([.ref (ad 0), .int p1, .int p2]) ++ List.replicate (4 - (lg_sl ([.ref (ad 0), .int p1, .int p2])).length) Slot.unset).toArray = ls at hl ⊢
  have hl : lv_has ls 4 [(0, .ref (ad 0)), (1, .int p1), (2, .int p2)] := hl
  unfold f_X4_ofBatch at hf
  refine lv_iload_n hx hb dX4_ofBatch_0 rfl (lv_at hl 1 rfl) ?_
  refine lv_aload_n hx hb dX4_ofBatch_1 rfl (lv_at hl 0 rfl) ?_
  refine va_get (D := (dC, dI)) (ci := 5) (v := .int (I 0 7)) (C := RX4) (T := TX4) (N := 14) hx hb hts iX4_ofBatch_RX4 hown hK hP 0 heH_0 rfl 7 (by decide) (hts (.fieldLink RX4 44 "OverrunHouse" "batchCount" "I") (List.mem_cons_of_mem _ (List.mem_append_left _ (List.mem_append_left _ (List.mem_append_left _ (List.mem_append_left _ (List.mem_append_left _ (List.mem_append_left _ (List.mem_of_getElem? (i := 0) rfl))))))))) (fun _ h9 => h9) rfl dX4_ofBatch_2 ?_
  rcases bE_err hf with g_2 | ⟨_, g_2, hf⟩
  · skip
    refine vx_callv (vx_runS (As := [.int p1, .int (I 0 7)]) (rest := []) ⟨hx, hb, hml, hown, hts⟩ (mx_X4_checkNumber l hl0 sa H.size p1 (I 0 7) E0 g_2) (va_cwS 2 hts gX4_ofBatch_X4_checkNumber rfl rfl rfl (by decide +kernel) ⟨Nat.le_of_ble_eq_true rfl, Nat.le_of_ble_eq_true rfl⟩) (pre0X [.int p1, .int (I 0 7)] (xS_kept (B := fun q => H.size ≤ q) hZ hS (fun q h => hA q (Nat.le_trans hS.1 h)))) rfl rfl hl.1 rfl (lv_room (Nat.le_of_ble_eq_true rfl)) dX4_ofBatch_5 ⟨Nat.le_of_ble_eq_true rfl, Nat.le_of_ble_eq_true rfl⟩) hS (fun q _ h => hA q (Nat.le_trans hS.1 h)) (fun q h => hA q (Nat.le_trans hS.1 h)) (fun q _ h => hA q (Nat.le_trans hS.1 h)) (fun E9 ce q9 u t H1 locs1 ht9 hvm hpu hBX hz1 hk1 hS h1 h2 h3 => ?_) (fun u t H1 locs ht9 hvm hw hB hz1 hk1 hS => hw.elim)
    exact vx_out (fun x hx9 => (ht x hx9).elim) hlocks h1 h2 h3 (fun t9 ht8 hvm8 => ⟨(), trivial, ⟨hBX, by rw [ht8]; exact va_Pnew hP hk1, va_K.moved hvm8 hK⟩, hS.F ht8⟩) hS.2.2 (Nat.le_of_ble_eq_true rfl) (Nat.le_of_ble_eq_true rfl)
  · skip
    refine va_callv (va_runS (As := [.int p1, .int (I 0 7)]) (rest := []) ⟨hx, hb, hml, hown, hts⟩ (mt_X4_checkNumber l H.size p1 (I 0 7)  g_2) (va_cwS 2 hts gX4_ofBatch_X4_checkNumber rfl rfl rfl (by decide +kernel) ⟨Nat.le_of_ble_eq_true rfl, Nat.le_of_ble_eq_true rfl⟩) (pre0 [.int p1, .int (I 0 7)]) rfl rfl hl.1 rfl (lv_room (Nat.le_of_ble_eq_true rfl)) dX4_ofBatch_5 ⟨Nat.le_of_ble_eq_true rfl, Nat.le_of_ble_eq_true rfl⟩) hS (fun q _ h => hA q (Nat.le_trans hS.1 h)) (fun q h => hA q (Nat.le_trans hS.1 h)) (fun u t H1 locs ht hvm hw hB hz1 hk1 hS => ?_)
    have hP := va_Pnew hP hk1
    clear hB hz1 hk1 hvm ht
    generalize H1 = H at hP hS ⊢
    refine lv_iload_n hx hb dX4_ofBatch_8 rfl (lv_at hl 2 rfl) ?_
    refine lv_iconst (v := 0) hx hb dX4_ofBatch_9 (by decide) ?_
    refine lv_iconst (v := 5) hx hb dX4_ofBatch_10 (by decide) ?_
    rcases bE_err hf with g_4 | ⟨_, g_4, hf⟩
    · skip
      refine vx_callv (vx_runS (As := [.int p2, .int 0, .int 5]) (rest := []) ⟨hx, hb, hml, hown, hts⟩ (mx_X4_checkRange l hl0 sa H.size p2 0 5 E0 g_4) (va_cwS 3 hts gX4_ofBatch_X4_checkRange rfl rfl rfl (by decide +kernel) ⟨Nat.le_of_ble_eq_true rfl, Nat.le_of_ble_eq_true rfl⟩) (pre0X [.int p2, .int 0, .int 5] (xS_kept (B := fun q => H.size ≤ q) hZ hS (fun q h => hA q (Nat.le_trans hS.1 h)))) rfl rfl hl.1 rfl (lv_room (Nat.le_of_ble_eq_true rfl)) dX4_ofBatch_11 ⟨Nat.le_of_ble_eq_true rfl, Nat.le_of_ble_eq_true rfl⟩) hS (fun q _ h => hA q (Nat.le_trans hS.1 h)) (fun q h => hA q (Nat.le_trans hS.1 h)) (fun q _ h => hA q (Nat.le_trans hS.1 h)) (fun E9 ce q9 u t H1 locs1 ht9 hvm hpu hBX hz1 hk1 hS h1 h2 h3 => ?_) (fun u t H1 locs ht9 hvm hw hB hz1 hk1 hS => hw.elim)
      exact vx_out (fun x hx9 => (ht x hx9).elim) hlocks h1 h2 h3 (fun t9 ht8 hvm8 => ⟨(), trivial, ⟨hBX, by rw [ht8]; exact va_Pnew hP hk1, va_K.moved hvm8 hK⟩, hS.F ht8⟩) hS.2.2 (Nat.le_of_ble_eq_true rfl) (Nat.le_of_ble_eq_true rfl)
    · skip
      refine va_callv (va_runS (As := [.int p2, .int 0, .int 5]) (rest := []) ⟨hx, hb, hml, hown, hts⟩ (mt_X4_checkRange l H.size p2 0 5  g_4) (va_cwS 3 hts gX4_ofBatch_X4_checkRange rfl rfl rfl (by decide +kernel) ⟨Nat.le_of_ble_eq_true rfl, Nat.le_of_ble_eq_true rfl⟩) (pre0 [.int p2, .int 0, .int 5]) rfl rfl hl.1 rfl (lv_room (Nat.le_of_ble_eq_true rfl)) dX4_ofBatch_11 ⟨Nat.le_of_ble_eq_true rfl, Nat.le_of_ble_eq_true rfl⟩) hS (fun q _ h => hA q (Nat.le_trans hS.1 h)) (fun q h => hA q (Nat.le_trans hS.1 h)) (fun u t H1 locs ht hvm hw hB hz1 hk1 hS => ?_)
      have hP := va_Pnew hP hk1
      clear hB hz1 hk1 hvm ht
      generalize H1 = H at hP hS ⊢
      refine lv_aload_n hx hb dX4_ofBatch_14 rfl (lv_at hl 0 rfl) ?_
      refine va_get (D := (dC, dI)) (ci := 5) (v := .ref (ad 3)) (C := RX4) (T := TX4) (N := 14) hx hb hts iX4_ofBatch_RX4 hown hK hP 0 heH_0 rfl 2 (by decide) (hts (.fieldLink RX4 23 "OverrunHouse" "batches" "[LOverrunHouse$Batch;") (List.mem_cons_of_mem _ (List.mem_append_left _ (List.mem_append_left _ (List.mem_append_left _ (List.mem_append_left _ (List.mem_append_left _ (List.mem_append_left _ (List.mem_of_getElem? (i := 1) rfl))))))))) (fun _ h9 => h9) rfl dX4_ofBatch_15 ?_
      refine lv_iload_n hx hb dX4_ofBatch_18 rfl (lv_at hl 1 rfl) ?_
      obtain ⟨h_5, hf⟩ := ck_out hf
      refine wr_aald (b := 18) (n := 12) hx hb hK hP 3 3 heH_3 rfl (inB_in h_5) dX4_ofBatch_19 ?_
      refine lv_astore_n (lv' := [(3, .ref (ad (18 + (p1).toNatClampNeg))), (0, .ref (ad 0)), (1, .int p1), (2, .int p2)]) hx hb dX4_ofBatch_20 rfl hl (by decide) rfl (fun ls hl => ?_)
      refine lv_iload_n hx hb dX4_ofBatch_21 rfl (lv_at hl 3 rfl) ?_
      by_cases c_6 : p2 = 0
      · have hf := it_t hf c_6
        refine lv_tableIn (off := 34) (tgt := 56) hx hb dX4_ofBatch_22 (by rw [c_6]; decide) (by rw [c_6]; decide) (by rw [c_6]; decide) (by decide) ?_
        refine lv_aload_n hx hb dX4_ofBatch_56 rfl (lv_at hl 0 rfl) ?_
        refine va_getN (D := (dC, dI)) (ci := 1) (v := .int (I (18 + (p1).toNatClampNeg) 0)) (C := RX0) (T := TX0) (N := 5) hx hb hts iX4_ofBatch_RX0 hown hK hP (18 + (p1).toNatClampNeg) (heH_Batch (inB_lt h_5)) rfl 0 (by decide) (va_Nw.use (w := .fieldLinkNest "OverrunHouse" 131 "OverrunHouse$Batch" "mix" "I" "OverrunHouse") rfl (hN _ (List.mem_of_getElem? (i := 22) rfl))) (fun _ h9 => h9) rfl dX4_ofBatch_57 ?_
        exact (er_ne hf).elim
      · have hf := it_f hf c_6
        by_cases c_7 : p2 = 1
        · have hf := it_t hf c_7
          refine lv_tableIn (off := 39) (tgt := 61) hx hb dX4_ofBatch_22 (by rw [c_7]; decide) (by rw [c_7]; decide) (by rw [c_7]; decide) (by decide) ?_
          refine lv_aload_n hx hb dX4_ofBatch_61 rfl (lv_at hl 0 rfl) ?_
          refine va_getN (D := (dC, dI)) (ci := 1) (v := .int (I (18 + (p1).toNatClampNeg) 1)) (C := RX0) (T := TX0) (N := 5) hx hb hts iX4_ofBatch_RX0 hown hK hP (18 + (p1).toNatClampNeg) (heH_Batch (inB_lt h_5)) rfl 1 (by decide) (va_Nw.use (w := .fieldLinkNest "OverrunHouse" 134 "OverrunHouse$Batch" "litres" "I" "OverrunHouse") rfl (hN _ (List.mem_of_getElem? (i := 23) rfl))) (fun _ h9 => h9) rfl dX4_ofBatch_62 ?_
          exact (er_ne hf).elim
        · have hf := it_f hf c_7
          by_cases c_8 : p2 = 2
          · have hf := it_t hf c_8
            refine lv_tableIn (off := 44) (tgt := 66) hx hb dX4_ofBatch_22 (by rw [c_8]; decide) (by rw [c_8]; decide) (by rw [c_8]; decide) (by decide) ?_
            refine lv_aload_n hx hb dX4_ofBatch_66 rfl (lv_at hl 0 rfl) ?_
            refine va_getN (D := (dC, dI)) (ci := 1) (v := .int (I (18 + (p1).toNatClampNeg) 3)) (C := RX0) (T := TX0) (N := 5) hx hb hts iX4_ofBatch_RX0 hown hK hP (18 + (p1).toNatClampNeg) (heH_Batch (inB_lt h_5)) rfl 3 (by decide) (va_Nw.use (w := .fieldLinkNest "OverrunHouse" 146 "OverrunHouse$Batch" "isHard" "Z" "OverrunHouse") rfl (hN _ (List.mem_of_getElem? (i := 25) rfl))) (fun _ h9 => h9) rfl dX4_ofBatch_67 ?_
            refine lv_if_eq (tgt := 77) hx hb dX4_ofBatch_70 (by decide) (fun c_9 => ?_) (fun c_9 => ?_)
            · have hf := it_t hf c_9
              refine lv_iconst (v := 0) hx hb dX4_ofBatch_77 (by decide) ?_
              exact (er_ne hf).elim
            · have hf := it_f hf c_9
              refine lv_iconst (v := 1) hx hb dX4_ofBatch_73 (by decide) ?_
              refine lv_goto (tgt := 78) hx hb dX4_ofBatch_74 (by decide) ?_
              exact (er_ne hf).elim
          · have hf := it_f hf c_8
            by_cases c_10 : p2 = 3
            · have hf := it_t hf c_10
              refine lv_tableIn (off := 57) (tgt := 79) hx hb dX4_ofBatch_22 (by rw [c_10]; decide) (by rw [c_10]; decide) (by rw [c_10]; decide) (by decide) ?_
              refine lv_aload_n hx hb dX4_ofBatch_79 rfl (lv_at hl 0 rfl) ?_
              refine va_getN (D := (dC, dI)) (ci := 1) (v := .int (I (18 + (p1).toNatClampNeg) 2)) (C := RX0) (T := TX0) (N := 5) hx hb hts iX4_ofBatch_RX0 hown hK hP (18 + (p1).toNatClampNeg) (heH_Batch (inB_lt h_5)) rfl 2 (by decide) (va_Nw.use (w := .fieldLinkNest "OverrunHouse" 143 "OverrunHouse$Batch" "place" "I" "OverrunHouse") rfl (hN _ (List.mem_of_getElem? (i := 24) rfl))) (fun _ h9 => h9) rfl dX4_ofBatch_80 ?_
              exact (er_ne hf).elim
            · have hf := it_f hf c_10
              by_cases c_11 : p2 = 4
              · have hf := it_t hf c_11
                refine lv_tableIn (off := 62) (tgt := 84) hx hb dX4_ofBatch_22 (by rw [c_11]; decide) (by rw [c_11]; decide) (by rw [c_11]; decide) (by decide) ?_
                refine lv_aload_n hx hb dX4_ofBatch_84 rfl (lv_at hl 0 rfl) ?_
                obtain ⟨r_12, g_13, hf⟩ := bd_out hf
                refine va_calli (va_runVN (As := []) (rest := []) ⟨hx, hb, hml, hown, hts⟩ (mt_X0_isCoarse l dC dI ad cy hJ H.size I D (p1).toNatClampNeg (inB_lt h_5) r_12 g_13) ⟨va_cnB 0 hts gX4_ofBatch_X0_isCoarse_n196 rfl rfl rfl (hN (.methodLinkNest "OverrunHouse" 196 ⟨"OverrunHouse$Batch", "isCoarse", "()Z"⟩ "OverrunHouse") (List.mem_of_getElem? (i := 36) rfl)) (hts (.initialized RX0) (List.mem_cons_of_mem _ (List.mem_append_left _ (List.mem_append_left _ (List.mem_append_left _ (List.mem_append_left _ (List.mem_append_left _ (List.mem_append_left _ (List.mem_of_getElem? (i := 14) rfl))))))))) (by decide +kernel) ⟨Nat.le_of_ble_eq_true rfl, Nat.le_of_ble_eq_true rfl⟩, (hts (.instanceMethod yX0_isCoarse) (List.mem_cons_of_mem _ (List.mem_append_left _ (List.mem_append_left _ (List.mem_append_left _ (List.mem_append_left _ (List.mem_append_left _ (List.mem_append_left _ (List.mem_of_getElem? (i := 13) rfl))))))))), (hts (.selects RX0 yX0_isCoarse yX0_isCoarse) (List.mem_cons_of_mem _ (List.mem_append_left _ (List.mem_append_left _ (List.mem_append_left _ (List.mem_append_left _ (List.mem_append_left _ (List.mem_append_left _ (List.mem_of_getElem? (i := 15) rfl)))))))))⟩ ⟨(hW.pre [.ref (ad (18 + (p1).toNatClampNeg))] hP hK hN).1, hW.recv (C := RX0) (T := TX0) (N := 5) hP hK (heH_Batch (inB_lt h_5)) rfl, (hW.pre [.ref (ad (18 + (p1).toNatClampNeg))] hP hK hN).2⟩ rfl rfl hl.1 rfl (lv_room (Nat.le_of_ble_eq_true rfl)) dX4_ofBatch_85 ⟨Nat.le_of_ble_eq_true rfl, Nat.le_of_ble_eq_true rfl⟩) hS (fun q _ h => hA q (Nat.le_trans hS.1 h)) (fun q h => hA q (Nat.le_trans hS.1 h)) (fun r9 u t H1 locs ht hvm hw hB hz1 hk1 hS => ?_)
                subst hw
                have hP := va_Pnew hP hk1
                clear hB hz1 hk1 hvm ht
                generalize H1 = H at hP hS ⊢
                refine lv_if_eq (tgt := 95) hx hb dX4_ofBatch_88 (by decide) (fun c_14 => ?_) (fun c_14 => ?_)
                · have hf := it_t hf c_14
                  refine lv_iconst (v := 0) hx hb dX4_ofBatch_95 (by decide) ?_
                  exact (er_ne hf).elim
                · have hf := it_f hf c_14
                  refine lv_iconst (v := 1) hx hb dX4_ofBatch_91 (by decide) ?_
                  refine lv_goto (tgt := 96) hx hb dX4_ofBatch_92 (by decide) ?_
                  exact (er_ne hf).elim
              · have hf := it_f hf c_11
                refine lv_tableOut (tgt := 97) hx hb dX4_ofBatch_22 (sw_out5 c_6 c_7 c_8 c_10 c_11) (by decide) ?_
                refine lv_aload_n hx hb dX4_ofBatch_97 rfl (lv_at hl 1 rfl) ?_
                refine lv_aload_n hx hb dX4_ofBatch_98 rfl (lv_at hl 0 rfl) ?_
                obtain ⟨r_15, g_16, hf⟩ := bd_out hf
                refine va_calli (va_runV (As := [.ref (ad (18 + (p1).toNatClampNeg))]) (rest := []) ⟨hx, hb, hml, hown, hts⟩ (mt_X4_isCalled l dC dI ad cy hJ H.size I D (p1).toNatClampNeg (inB_lt h_5) r_15 g_16) (cwV 1 hts gX4_ofBatch_X4_isCalled rfl rfl rfl (by decide +kernel) ⟨Nat.le_of_ble_eq_true rfl, Nat.le_of_ble_eq_true rfl⟩) ⟨(hW.pre [.ref (ad 0), .ref (ad (18 + (p1).toNatClampNeg))] hP hK hN).1, hW.recv (C := RX4) (T := TX4) (N := 14) hP hK heH_0 rfl, (hW.pre [.ref (ad 0), .ref (ad (18 + (p1).toNatClampNeg))] hP hK hN).2⟩ rfl rfl hl.1 rfl (lv_room (Nat.le_of_ble_eq_true rfl)) dX4_ofBatch_99 ⟨Nat.le_of_ble_eq_true rfl, Nat.le_of_ble_eq_true rfl⟩) hS (fun q _ h => hA q (Nat.le_trans hS.1 h)) (fun q h => hA q (Nat.le_trans hS.1 h)) (fun r9 u t H1 locs ht hvm hw hB hz1 hk1 hS => ?_)
                subst hw
                have hP := va_Pnew hP hk1
                clear hB hz1 hk1 hvm ht
                generalize H1 = H at hP hS ⊢
                refine lv_if_eq (tgt := 109) hx hb dX4_ofBatch_102 (by decide) (fun c_17 => ?_) (fun c_17 => ?_)
                · have hf := it_t hf c_17
                  refine lv_iconst (v := 0) hx hb dX4_ofBatch_109 (by decide) ?_
                  exact (er_ne hf).elim
                · have hf := it_f hf c_17
                  refine lv_iconst (v := 1) hx hb dX4_ofBatch_105 (by decide) ?_
                  refine lv_goto (tgt := 110) hx hb dX4_ofBatch_106 (by decide) ?_
                  exact (er_ne hf).elim

set_option maxHeartbeats 4000000 in
set_option maxRecDepth 100000 in
theorem mx_X4_crystal (l : Launch) (hl0 : l.stackTraces = false) (dC : Nat → ClassId) (dI : Nat → Nat → Nat) (ad : Nat → Nat) (cy : Nat → ClassId) (hJ : J33 ad) (sa : Nat → Nat) (sz : Nat) (I : Nat → Nat → Int32) (D : Nat → Nat → UInt64) (p1 : Int32) (E0 : String) (hf : f_X4_crystal I D p1 = some (.error E0)) : vx_Met l yX4_crystal wsX4_crystal ({ frames := 7, cells := 1, slots := 6, locals := 111 }) (va_Pc [.ref (ad 0), .int p1] (fun U => U.heap.size = sz ∧ hW dC dI ad cy I D U ∧ xS sa (AW ad sz) U)) (va_Qd (fun _ (_ : Unit) => False) (fun _ _ => True) (AW ad sz)) (vx_X (fun _ : Unit => True) (fun E _ t => E0 = E ∧ va_P (dC, dI) vwCl (iwH ad cy I D) t.heap ∧ va_K (dC, dI) vwCl (tysA cy) t) (AW ad sz)) 1 6 (AW ad sz) := by
  refine vx_ofW (cc := cX4_crystal) (maxL := 2) (ret := (some .double)) (by decide) rfl ?_
  intro p e s m args below meth c s₁ B hml ht hv
  obtain ⟨rfl, hsz, ⟨hP, hK, hN⟩, hZ⟩ := hv
  have hx := B.exec
  have hb := B.bytes
  have hr := B.returns
  have hts := atoms_spec (ws := wsX4_crystal) B.pre
  have hown : s.vm.findClass RX4 = some m.cls := findClass_of_methodNamed B.named
  have hlocks := B.notSynchronized
  subst hsz
  generalize hAe : AW ad s.heap.size = A at hZ ⊢
  have hA : ∀ q : Nat, s.heap.size ≤ q → A q := fun q h => by rw [← hAe]; exact Or.inr h
  have hA33 : ∀ k, k < 33 → A (ad k) := fun k h => by rw [← hAe]; exact Or.inl ⟨k, h, rfl⟩
  have hDD : ∀ I D, va_D A (iwH ad cy I D) := fun I D => iwH_D hJ hA33 I D
  obtain ⟨H, hH⟩ : ∃ H : Heap, H = s.heap := ⟨_, rfl⟩
  have hS : va_S A s.heap H [] := by rw [hH]; exact va_S.rf
  rw [← hH]
  rw [← hH] at hP
  have hl := lv_entry ([.ref (ad 0), .int p1]) (n := 2) (Nat.le_of_ble_eq_true rfl)
  rw [lg_entry_eq]
  generalize (lg_sl ([.ref (ad 0), .int p1]) ++ List.replicate (2 - (lg_sl ([.ref (ad 0), .int p1])).length) Slot.unset).toArray = ls at hl ⊢
  have hl : lv_has ls 2 [(0, .ref (ad 0)), (1, .int p1)] := hl
  unfold f_X4_crystal at hf
  refine lv_iload_n hx hb dX4_crystal_0 rfl (lv_at hl 1 rfl) ?_
  refine lv_aload_n hx hb dX4_crystal_1 rfl (lv_at hl 0 rfl) ?_
  refine va_get (D := (dC, dI)) (ci := 5) (v := .int (I 0 7)) (C := RX4) (T := TX4) (N := 14) hx hb hts iX4_crystal_RX4 hown hK hP 0 heH_0 rfl 7 (by decide) (hts (.fieldLink RX4 44 "OverrunHouse" "batchCount" "I") (List.mem_cons_of_mem _ (List.mem_append_left _ (List.mem_append_left _ (List.mem_append_left _ (List.mem_of_getElem? (i := 0) rfl)))))) (fun _ h9 => h9) rfl dX4_crystal_2 ?_
  rcases bE_err hf with g_2 | ⟨_, g_2, hf⟩
  · skip
    refine vx_callv (vx_runS (As := [.int p1, .int (I 0 7)]) (rest := []) ⟨hx, hb, hml, hown, hts⟩ (mx_X4_checkNumber l hl0 sa H.size p1 (I 0 7) E0 g_2) (va_cwS 2 hts gX4_crystal_X4_checkNumber rfl rfl rfl (by decide +kernel) ⟨Nat.le_of_ble_eq_true rfl, Nat.le_of_ble_eq_true rfl⟩) (pre0X [.int p1, .int (I 0 7)] (xS_kept (B := fun q => H.size ≤ q) hZ hS (fun q h => hA q (Nat.le_trans hS.1 h)))) rfl rfl hl.1 rfl (lv_room (Nat.le_of_ble_eq_true rfl)) dX4_crystal_5 ⟨Nat.le_of_ble_eq_true rfl, Nat.le_of_ble_eq_true rfl⟩) hS (fun q _ h => hA q (Nat.le_trans hS.1 h)) (fun q h => hA q (Nat.le_trans hS.1 h)) (fun q _ h => hA q (Nat.le_trans hS.1 h)) (fun E9 ce q9 u t H1 locs1 ht9 hvm hpu hBX hz1 hk1 hS h1 h2 h3 => ?_) (fun u t H1 locs ht9 hvm hw hB hz1 hk1 hS => hw.elim)
    exact vx_out (fun x hx9 => (ht x hx9).elim) hlocks h1 h2 h3 (fun t9 ht8 hvm8 => ⟨(), trivial, ⟨hBX, by rw [ht8]; exact va_Pnew hP hk1, va_K.moved hvm8 hK⟩, hS.F ht8⟩) hS.2.2 (Nat.le_of_ble_eq_true rfl) (Nat.le_of_ble_eq_true rfl)
  · skip
    refine va_callv (va_runS (As := [.int p1, .int (I 0 7)]) (rest := []) ⟨hx, hb, hml, hown, hts⟩ (mt_X4_checkNumber l H.size p1 (I 0 7)  g_2) (va_cwS 2 hts gX4_crystal_X4_checkNumber rfl rfl rfl (by decide +kernel) ⟨Nat.le_of_ble_eq_true rfl, Nat.le_of_ble_eq_true rfl⟩) (pre0 [.int p1, .int (I 0 7)]) rfl rfl hl.1 rfl (lv_room (Nat.le_of_ble_eq_true rfl)) dX4_crystal_5 ⟨Nat.le_of_ble_eq_true rfl, Nat.le_of_ble_eq_true rfl⟩) hS (fun q _ h => hA q (Nat.le_trans hS.1 h)) (fun q h => hA q (Nat.le_trans hS.1 h)) (fun u t H1 locs ht hvm hw hB hz1 hk1 hS => ?_)
    have hP := va_Pnew hP hk1
    clear hB hz1 hk1 hvm ht
    generalize H1 = H at hP hS ⊢
    refine lv_aload_n hx hb dX4_crystal_8 rfl (lv_at hl 0 rfl) ?_
    refine va_get (D := (dC, dI)) (ci := 5) (v := .ref (ad 3)) (C := RX4) (T := TX4) (N := 14) hx hb hts iX4_crystal_RX4 hown hK hP 0 heH_0 rfl 2 (by decide) (hts (.fieldLink RX4 23 "OverrunHouse" "batches" "[LOverrunHouse$Batch;") (List.mem_cons_of_mem _ (List.mem_append_left _ (List.mem_append_left _ (List.mem_append_left _ (List.mem_of_getElem? (i := 1) rfl)))))) (fun _ h9 => h9) rfl dX4_crystal_9 ?_
    refine lv_iload_n hx hb dX4_crystal_12 rfl (lv_at hl 1 rfl) ?_
    obtain ⟨h_3, hf⟩ := ck_out hf
    refine wr_aald (b := 18) (n := 12) hx hb hK hP 3 3 heH_3 rfl (inB_in h_3) dX4_crystal_13 ?_
    refine va_getN (D := (dC, dI)) (ci := 1) (v := .double (D (18 + (p1).toNatClampNeg) 4)) (C := RX0) (T := TX0) (N := 5) hx hb hts iX4_crystal_RX0 hown hK hP (18 + (p1).toNatClampNeg) (heH_Batch (inB_lt h_3)) rfl 4 (by decide) (va_Nw.use (w := .fieldLinkNest "OverrunHouse" 139 "OverrunHouse$Batch" "crystal" "D" "OverrunHouse") rfl (hN _ (List.mem_of_getElem? (i := 26) rfl))) (fun _ h9 => h9) rfl dX4_crystal_14 ?_
    exact (er_ne hf).elim

set_option maxHeartbeats 4000000 in
set_option maxRecDepth 100000 in
theorem mx_X4_temp (l : Launch) (hl0 : l.stackTraces = false) (dC : Nat → ClassId) (dI : Nat → Nat → Nat) (ad : Nat → Nat) (cy : Nat → ClassId) (hJ : J33 ad) (sa : Nat → Nat) (sz : Nat) (I : Nat → Nat → Int32) (D : Nat → Nat → UInt64) (p1 : Int32) (E0 : String) (hf : f_X4_temp I D p1 = some (.error E0)) : vx_Met l yX4_temp wsX4_temp ({ frames := 7, cells := 1, slots := 6, locals := 111 }) (va_Pc [.ref (ad 0), .int p1] (fun U => U.heap.size = sz ∧ hW dC dI ad cy I D U ∧ xS sa (AW ad sz) U)) (va_Qd (fun _ (_ : Unit) => False) (fun _ _ => True) (AW ad sz)) (vx_X (fun _ : Unit => True) (fun E _ t => E0 = E ∧ va_P (dC, dI) vwCl (iwH ad cy I D) t.heap ∧ va_K (dC, dI) vwCl (tysA cy) t) (AW ad sz)) 1 6 (AW ad sz) := by
  refine vx_ofW (cc := cX4_temp) (maxL := 2) (ret := (some .double)) (by decide) rfl ?_
  intro p e s m args below meth c s₁ B hml ht hv
  obtain ⟨rfl, hsz, ⟨hP, hK, hN⟩, hZ⟩ := hv
  have hx := B.exec
  have hb := B.bytes
  have hr := B.returns
  have hts := atoms_spec (ws := wsX4_temp) B.pre
  have hown : s.vm.findClass RX4 = some m.cls := findClass_of_methodNamed B.named
  have hlocks := B.notSynchronized
  subst hsz
  generalize hAe : AW ad s.heap.size = A at hZ ⊢
  have hA : ∀ q : Nat, s.heap.size ≤ q → A q := fun q h => by rw [← hAe]; exact Or.inr h
  have hA33 : ∀ k, k < 33 → A (ad k) := fun k h => by rw [← hAe]; exact Or.inl ⟨k, h, rfl⟩
  have hDD : ∀ I D, va_D A (iwH ad cy I D) := fun I D => iwH_D hJ hA33 I D
  obtain ⟨H, hH⟩ : ∃ H : Heap, H = s.heap := ⟨_, rfl⟩
  have hS : va_S A s.heap H [] := by rw [hH]; exact va_S.rf
  rw [← hH]
  rw [← hH] at hP
  have hl := lv_entry ([.ref (ad 0), .int p1]) (n := 2) (Nat.le_of_ble_eq_true rfl)
  rw [lg_entry_eq]
  generalize (lg_sl ([.ref (ad 0), .int p1]) ++ List.replicate (2 - (lg_sl ([.ref (ad 0), .int p1])).length) Slot.unset).toArray = ls at hl ⊢
  have hl : lv_has ls 2 [(0, .ref (ad 0)), (1, .int p1)] := hl
  unfold f_X4_temp at hf
  refine lv_iload_n hx hb dX4_temp_0 rfl (lv_at hl 1 rfl) ?_
  refine lv_aload_n hx hb dX4_temp_1 rfl (lv_at hl 0 rfl) ?_
  refine va_get (D := (dC, dI)) (ci := 5) (v := .int (I 0 8)) (C := RX4) (T := TX4) (N := 14) hx hb hts iX4_temp_RX4 hown hK hP 0 heH_0 rfl 8 (by decide) (hts (.fieldLink RX4 47 "OverrunHouse" "storeCount" "I") (List.mem_cons_of_mem _ (List.mem_append_left _ (List.mem_append_left _ (List.mem_append_left _ (List.mem_of_getElem? (i := 0) rfl)))))) (fun _ h9 => h9) rfl dX4_temp_2 ?_
  rcases bE_err hf with g_2 | ⟨_, g_2, hf⟩
  · skip
    refine vx_callv (vx_runS (As := [.int p1, .int (I 0 8)]) (rest := []) ⟨hx, hb, hml, hown, hts⟩ (mx_X4_checkNumber l hl0 sa H.size p1 (I 0 8) E0 g_2) (va_cwS 2 hts gX4_temp_X4_checkNumber rfl rfl rfl (by decide +kernel) ⟨Nat.le_of_ble_eq_true rfl, Nat.le_of_ble_eq_true rfl⟩) (pre0X [.int p1, .int (I 0 8)] (xS_kept (B := fun q => H.size ≤ q) hZ hS (fun q h => hA q (Nat.le_trans hS.1 h)))) rfl rfl hl.1 rfl (lv_room (Nat.le_of_ble_eq_true rfl)) dX4_temp_5 ⟨Nat.le_of_ble_eq_true rfl, Nat.le_of_ble_eq_true rfl⟩) hS (fun q _ h => hA q (Nat.le_trans hS.1 h)) (fun q h => hA q (Nat.le_trans hS.1 h)) (fun q _ h => hA q (Nat.le_trans hS.1 h)) (fun E9 ce q9 u t H1 locs1 ht9 hvm hpu hBX hz1 hk1 hS h1 h2 h3 => ?_) (fun u t H1 locs ht9 hvm hw hB hz1 hk1 hS => hw.elim)
    exact vx_out (fun x hx9 => (ht x hx9).elim) hlocks h1 h2 h3 (fun t9 ht8 hvm8 => ⟨(), trivial, ⟨hBX, by rw [ht8]; exact va_Pnew hP hk1, va_K.moved hvm8 hK⟩, hS.F ht8⟩) hS.2.2 (Nat.le_of_ble_eq_true rfl) (Nat.le_of_ble_eq_true rfl)
  · skip
    refine va_callv (va_runS (As := [.int p1, .int (I 0 8)]) (rest := []) ⟨hx, hb, hml, hown, hts⟩ (mt_X4_checkNumber l H.size p1 (I 0 8)  g_2) (va_cwS 2 hts gX4_temp_X4_checkNumber rfl rfl rfl (by decide +kernel) ⟨Nat.le_of_ble_eq_true rfl, Nat.le_of_ble_eq_true rfl⟩) (pre0 [.int p1, .int (I 0 8)]) rfl rfl hl.1 rfl (lv_room (Nat.le_of_ble_eq_true rfl)) dX4_temp_5 ⟨Nat.le_of_ble_eq_true rfl, Nat.le_of_ble_eq_true rfl⟩) hS (fun q _ h => hA q (Nat.le_trans hS.1 h)) (fun q h => hA q (Nat.le_trans hS.1 h)) (fun u t H1 locs ht hvm hw hB hz1 hk1 hS => ?_)
    have hP := va_Pnew hP hk1
    clear hB hz1 hk1 hvm ht
    generalize H1 = H at hP hS ⊢
    refine lv_aload_n hx hb dX4_temp_8 rfl (lv_at hl 0 rfl) ?_
    refine va_get (D := (dC, dI)) (ci := 5) (v := .ref (ad 4)) (C := RX4) (T := TX4) (N := 14) hx hb hts iX4_temp_RX4 hown hK hP 0 heH_0 rfl 3 (by decide) (hts (.fieldLink RX4 29 "OverrunHouse" "stores" "[LOverrunHouse$Store;") (List.mem_cons_of_mem _ (List.mem_append_left _ (List.mem_append_left _ (List.mem_append_left _ (List.mem_of_getElem? (i := 1) rfl)))))) (fun _ h9 => h9) rfl dX4_temp_9 ?_
    refine lv_iload_n hx hb dX4_temp_12 rfl (lv_at hl 1 rfl) ?_
    obtain ⟨h_3, hf⟩ := ck_out hf
    refine wr_aald (b := 30) (n := 3) hx hb hK hP 4 4 heH_4 rfl (inB_in h_3) dX4_temp_13 ?_
    refine va_getN (D := (dC, dI)) (ci := 4) (v := .double (D (30 + (p1).toNatClampNeg) 1)) (C := RX3) (T := TX3) (N := 2) hx hb hts iX4_temp_RX3 hown hK hP (30 + (p1).toNatClampNeg) (heH_Store (inB_lt h_3)) rfl 1 (by decide) (va_Nw.use (w := .fieldLinkNest "OverrunHouse" 156 "OverrunHouse$Store" "degrees" "D" "OverrunHouse") rfl (hN _ (List.mem_of_getElem? (i := 28) rfl))) (fun _ h9 => h9) rfl dX4_temp_14 ?_
    exact (er_ne hf).elim

set_option maxHeartbeats 4000000 in
set_option maxRecDepth 100000 in
theorem mx_X4_many (l : Launch) (hl0 : l.stackTraces = false) (dC : Nat → ClassId) (dI : Nat → Nat → Nat) (ad : Nat → Nat) (cy : Nat → ClassId) (hJ : J33 ad) (sa : Nat → Nat) (sz : Nat) (I : Nat → Nat → Int32) (D : Nat → Nat → UInt64) (p1 : Int32) (E0 : String) (hf : f_X4_many I D p1 = some (.error E0)) : vx_Met l yX4_many wsX4_many ({ frames := 7, cells := 1, slots := 6, locals := 112 }) (va_Pc [.ref (ad 0), .int p1] (fun U => U.heap.size = sz ∧ hW dC dI ad cy I D U ∧ xS sa (AW ad sz) U)) (va_Qi (fun _ (_ : Unit) => False) (fun _ _ => True) (AW ad sz)) (vx_X (fun _ : Unit => True) (fun E _ t => E0 = E ∧ va_P (dC, dI) vwCl (iwH ad cy I D) t.heap ∧ va_K (dC, dI) vwCl (tysA cy) t) (AW ad sz)) 1 6 (AW ad sz) := by
  refine vx_ofW (cc := cX4_many) (maxL := 2) (ret := (some .int)) (by decide) rfl ?_
  intro p e s m args below meth c s₁ B hml ht hv
  obtain ⟨rfl, hsz, ⟨hP, hK, hN⟩, hZ⟩ := hv
  have hx := B.exec
  have hb := B.bytes
  have hr := B.returns
  have hts := atoms_spec (ws := wsX4_many) B.pre
  have hown : s.vm.findClass RX4 = some m.cls := findClass_of_methodNamed B.named
  have hlocks := B.notSynchronized
  subst hsz
  generalize hAe : AW ad s.heap.size = A at hZ ⊢
  have hA : ∀ q : Nat, s.heap.size ≤ q → A q := fun q h => by rw [← hAe]; exact Or.inr h
  have hA33 : ∀ k, k < 33 → A (ad k) := fun k h => by rw [← hAe]; exact Or.inl ⟨k, h, rfl⟩
  have hDD : ∀ I D, va_D A (iwH ad cy I D) := fun I D => iwH_D hJ hA33 I D
  obtain ⟨H, hH⟩ : ∃ H : Heap, H = s.heap := ⟨_, rfl⟩
  have hS : va_S A s.heap H [] := by rw [hH]; exact va_S.rf
  rw [← hH]
  rw [← hH] at hP
  have hl := lv_entry ([.ref (ad 0), .int p1]) (n := 2) (Nat.le_of_ble_eq_true rfl)
  rw [lg_entry_eq]
  generalize (lg_sl ([.ref (ad 0), .int p1]) ++ List.replicate (2 - (lg_sl ([.ref (ad 0), .int p1])).length) Slot.unset).toArray = ls at hl ⊢
  have hl : lv_has ls 2 [(0, .ref (ad 0)), (1, .int p1)] := hl
  unfold f_X4_many at hf
  refine lv_iload_n hx hb dX4_many_0 rfl (lv_at hl 1 rfl) ?_
  refine lv_iconst (v := 0) hx hb dX4_many_1 (by decide) ?_
  refine lv_bipush (v := 11) hx hb dX4_many_2 (by decide) ?_
  rcases bE_err hf with g_2 | ⟨_, g_2, hf⟩
  · skip
    refine vx_callv (vx_runS (As := [.int p1, .int 0, .int 11]) (rest := []) ⟨hx, hb, hml, hown, hts⟩ (mx_X4_checkRange l hl0 sa H.size p1 0 11 E0 g_2) (va_cwS 3 hts gX4_many_X4_checkRange rfl rfl rfl (by decide +kernel) ⟨Nat.le_of_ble_eq_true rfl, Nat.le_of_ble_eq_true rfl⟩) (pre0X [.int p1, .int 0, .int 11] (xS_kept (B := fun q => H.size ≤ q) hZ hS (fun q h => hA q (Nat.le_trans hS.1 h)))) rfl rfl hl.1 rfl (lv_room (Nat.le_of_ble_eq_true rfl)) dX4_many_4 ⟨Nat.le_of_ble_eq_true rfl, Nat.le_of_ble_eq_true rfl⟩) hS (fun q _ h => hA q (Nat.le_trans hS.1 h)) (fun q h => hA q (Nat.le_trans hS.1 h)) (fun q _ h => hA q (Nat.le_trans hS.1 h)) (fun E9 ce q9 u t H1 locs1 ht9 hvm hpu hBX hz1 hk1 hS h1 h2 h3 => ?_) (fun u t H1 locs ht9 hvm hw hB hz1 hk1 hS => hw.elim)
    exact vx_out (fun x hx9 => (ht x hx9).elim) hlocks h1 h2 h3 (fun t9 ht8 hvm8 => ⟨(), trivial, ⟨hBX, by rw [ht8]; exact va_Pnew hP hk1, va_K.moved hvm8 hK⟩, hS.F ht8⟩) hS.2.2 (Nat.le_of_ble_eq_true rfl) (Nat.le_of_ble_eq_true rfl)
  · skip
    refine va_callv (va_runS (As := [.int p1, .int 0, .int 11]) (rest := []) ⟨hx, hb, hml, hown, hts⟩ (mt_X4_checkRange l H.size p1 0 11  g_2) (va_cwS 3 hts gX4_many_X4_checkRange rfl rfl rfl (by decide +kernel) ⟨Nat.le_of_ble_eq_true rfl, Nat.le_of_ble_eq_true rfl⟩) (pre0 [.int p1, .int 0, .int 11]) rfl rfl hl.1 rfl (lv_room (Nat.le_of_ble_eq_true rfl)) dX4_many_4 ⟨Nat.le_of_ble_eq_true rfl, Nat.le_of_ble_eq_true rfl⟩) hS (fun q _ h => hA q (Nat.le_trans hS.1 h)) (fun q h => hA q (Nat.le_trans hS.1 h)) (fun u t H1 locs ht hvm hw hB hz1 hk1 hS => ?_)
    have hP := va_Pnew hP hk1
    clear hB hz1 hk1 hvm ht
    generalize H1 = H at hP hS ⊢
    refine lv_iload_n hx hb dX4_many_7 rfl (lv_at hl 1 rfl) ?_
    by_cases c_3 : p1 = 0
    · have hf := it_t hf c_3
      refine lv_tableIn (off := 60) (tgt := 68) hx hb dX4_many_8 (by rw [c_3]; decide) (by rw [c_3]; decide) (by rw [c_3]; decide) (by decide) ?_
      refine lv_aload_n hx hb dX4_many_68 rfl (lv_at hl 0 rfl) ?_
      refine va_get (D := (dC, dI)) (ci := 5) (v := .int (I 0 5)) (C := RX4) (T := TX4) (N := 14) hx hb hts iX4_many_RX4 hown hK hP 0 heH_0 rfl 5 (by decide) (hts (.fieldLink RX4 37 "OverrunHouse" "ingredientCount" "I") (List.mem_cons_of_mem _ (List.mem_append_left _ (List.mem_append_left _ (List.mem_append_left _ (List.mem_of_getElem? (i := 0) rfl)))))) (fun _ h9 => h9) rfl dX4_many_69 ?_
      exact (er_ne hf).elim
    · have hf := it_f hf c_3
      by_cases c_4 : p1 = 1
      · have hf := it_t hf c_4
        refine lv_tableIn (off := 65) (tgt := 73) hx hb dX4_many_8 (by rw [c_4]; decide) (by rw [c_4]; decide) (by rw [c_4]; decide) (by decide) ?_
        refine lv_aload_n hx hb dX4_many_73 rfl (lv_at hl 0 rfl) ?_
        refine va_get (D := (dC, dI)) (ci := 5) (v := .int (I 0 6)) (C := RX4) (T := TX4) (N := 14) hx hb hts iX4_many_RX4 hown hK hP 0 heH_0 rfl 6 (by decide) (hts (.fieldLink RX4 41 "OverrunHouse" "mixCount" "I") (List.mem_cons_of_mem _ (List.mem_append_left _ (List.mem_append_left _ (List.mem_append_left _ (List.mem_of_getElem? (i := 1) rfl)))))) (fun _ h9 => h9) rfl dX4_many_74 ?_
        exact (er_ne hf).elim
      · have hf := it_f hf c_4
        by_cases c_5 : p1 = 2
        · have hf := it_t hf c_5
          refine lv_tableIn (off := 70) (tgt := 78) hx hb dX4_many_8 (by rw [c_5]; decide) (by rw [c_5]; decide) (by rw [c_5]; decide) (by decide) ?_
          refine lv_aload_n hx hb dX4_many_78 rfl (lv_at hl 0 rfl) ?_
          refine va_get (D := (dC, dI)) (ci := 5) (v := .int (I 0 7)) (C := RX4) (T := TX4) (N := 14) hx hb hts iX4_many_RX4 hown hK hP 0 heH_0 rfl 7 (by decide) (hts (.fieldLink RX4 44 "OverrunHouse" "batchCount" "I") (List.mem_cons_of_mem _ (List.mem_append_left _ (List.mem_append_left _ (List.mem_append_left _ (List.mem_of_getElem? (i := 2) rfl)))))) (fun _ h9 => h9) rfl dX4_many_79 ?_
          exact (er_ne hf).elim
        · have hf := it_f hf c_5
          by_cases c_6 : p1 = 3
          · have hf := it_t hf c_6
            refine lv_tableIn (off := 75) (tgt := 83) hx hb dX4_many_8 (by rw [c_6]; decide) (by rw [c_6]; decide) (by rw [c_6]; decide) (by decide) ?_
            refine lv_aload_n hx hb dX4_many_83 rfl (lv_at hl 0 rfl) ?_
            refine lv_bipush (v := 11) hx hb dX4_many_84 (by decide) ?_
            obtain ⟨r_7, g_8, hf⟩ := bd_out hf
            refine va_calli (va_runV (As := [.int 11]) (rest := []) ⟨hx, hb, hml, hown, hts⟩ (mt_X4_countAt l dC dI ad cy hJ H.size I D 11 r_7 g_8) (cwV 1 hts gX4_many_X4_countAt rfl rfl rfl (by decide +kernel) ⟨Nat.le_of_ble_eq_true rfl, Nat.le_of_ble_eq_true rfl⟩) ⟨(hW.pre [.ref (ad 0), .int 11] hP hK hN).1, hW.recv (C := RX4) (T := TX4) (N := 14) hP hK heH_0 rfl, (hW.pre [.ref (ad 0), .int 11] hP hK hN).2⟩ rfl rfl hl.1 rfl (lv_room (Nat.le_of_ble_eq_true rfl)) dX4_many_86 ⟨Nat.le_of_ble_eq_true rfl, Nat.le_of_ble_eq_true rfl⟩) hS (fun q _ h => hA q (Nat.le_trans hS.1 h)) (fun q h => hA q (Nat.le_trans hS.1 h)) (fun r9 u t H1 locs ht hvm hw hB hz1 hk1 hS => ?_)
            subst hw
            have hP := va_Pnew hP hk1
            clear hB hz1 hk1 hvm ht
            generalize H1 = H at hP hS ⊢
            exact (er_ne hf).elim
          · have hf := it_f hf c_6
            by_cases c_9 : p1 = 4
            · have hf := it_t hf c_9
              refine lv_tableIn (off := 82) (tgt := 90) hx hb dX4_many_8 (by rw [c_9]; decide) (by rw [c_9]; decide) (by rw [c_9]; decide) (by decide) ?_
              refine lv_aload_n hx hb dX4_many_90 rfl (lv_at hl 0 rfl) ?_
              refine lv_bipush (v := 10) hx hb dX4_many_91 (by decide) ?_
              obtain ⟨r_10, g_11, hf⟩ := bd_out hf
              refine va_calli (va_runV (As := [.int 10]) (rest := []) ⟨hx, hb, hml, hown, hts⟩ (mt_X4_countAt l dC dI ad cy hJ H.size I D 10 r_10 g_11) (cwV 1 hts gX4_many_X4_countAt rfl rfl rfl (by decide +kernel) ⟨Nat.le_of_ble_eq_true rfl, Nat.le_of_ble_eq_true rfl⟩) ⟨(hW.pre [.ref (ad 0), .int 10] hP hK hN).1, hW.recv (C := RX4) (T := TX4) (N := 14) hP hK heH_0 rfl, (hW.pre [.ref (ad 0), .int 10] hP hK hN).2⟩ rfl rfl hl.1 rfl (lv_room (Nat.le_of_ble_eq_true rfl)) dX4_many_93 ⟨Nat.le_of_ble_eq_true rfl, Nat.le_of_ble_eq_true rfl⟩) hS (fun q _ h => hA q (Nat.le_trans hS.1 h)) (fun q h => hA q (Nat.le_trans hS.1 h)) (fun r9 u t H1 locs ht hvm hw hB hz1 hk1 hS => ?_)
              subst hw
              have hP := va_Pnew hP hk1
              clear hB hz1 hk1 hvm ht
              generalize H1 = H at hP hS ⊢
              exact (er_ne hf).elim
            · have hf := it_f hf c_9
              by_cases c_12 : p1 = 5
              · have hf := it_t hf c_12
                refine lv_tableIn (off := 89) (tgt := 97) hx hb dX4_many_8 (by rw [c_12]; decide) (by rw [c_12]; decide) (by rw [c_12]; decide) (by decide) ?_
                refine lv_aload_n hx hb dX4_many_97 rfl (lv_at hl 0 rfl) ?_
                refine va_get (D := (dC, dI)) (ci := 5) (v := .int (I 0 8)) (C := RX4) (T := TX4) (N := 14) hx hb hts iX4_many_RX4 hown hK hP 0 heH_0 rfl 8 (by decide) (hts (.fieldLink RX4 47 "OverrunHouse" "storeCount" "I") (List.mem_cons_of_mem _ (List.mem_append_left _ (List.mem_append_left _ (List.mem_append_left _ (List.mem_of_getElem? (i := 3) rfl)))))) (fun _ h9 => h9) rfl dX4_many_98 ?_
                exact (er_ne hf).elim
              · have hf := it_f hf c_12
                by_cases c_13 : p1 = 6
                · have hf := it_t hf c_13
                  refine lv_tableIn (off := 94) (tgt := 102) hx hb dX4_many_8 (by rw [c_13]; decide) (by rw [c_13]; decide) (by rw [c_13]; decide) (by decide) ?_
                  refine lv_aload_n hx hb dX4_many_102 rfl (lv_at hl 0 rfl) ?_
                  refine va_get (D := (dC, dI)) (ci := 5) (v := .int (I 0 9)) (C := RX4) (T := TX4) (N := 14) hx hb hts iX4_many_RX4 hown hK hP 0 heH_0 rfl 9 (by decide) (hts (.fieldLink RX4 50 "OverrunHouse" "hoursEver" "I") (List.mem_cons_of_mem _ (List.mem_append_left _ (List.mem_append_left _ (List.mem_append_left _ (List.mem_of_getElem? (i := 4) rfl)))))) (fun _ h9 => h9) rfl dX4_many_103 ?_
                  exact (er_ne hf).elim
                · have hf := it_f hf c_13
                  by_cases c_14 : p1 = 7
                  · have hf := it_t hf c_14
                    refine lv_tableIn (off := 99) (tgt := 107) hx hb dX4_many_8 (by rw [c_14]; decide) (by rw [c_14]; decide) (by rw [c_14]; decide) (by decide) ?_
                    refine lv_aload_n hx hb dX4_many_107 rfl (lv_at hl 0 rfl) ?_
                    refine va_get (D := (dC, dI)) (ci := 5) (v := .int (I 0 10)) (C := RX4) (T := TX4) (N := 14) hx hb hts iX4_many_RX4 hown hK hP 0 heH_0 rfl 10 (by decide) (hts (.fieldLink RX4 53 "OverrunHouse" "gainEver" "I") (List.mem_cons_of_mem _ (List.mem_append_left _ (List.mem_append_left _ (List.mem_append_left _ (List.mem_of_getElem? (i := 5) rfl)))))) (fun _ h9 => h9) rfl dX4_many_108 ?_
                    exact (er_ne hf).elim
                  · have hf := it_f hf c_14
                    by_cases c_15 : p1 = 8
                    · have hf := it_t hf c_15
                      refine lv_tableIn (off := 104) (tgt := 112) hx hb dX4_many_8 (by rw [c_15]; decide) (by rw [c_15]; decide) (by rw [c_15]; decide) (by decide) ?_
                      refine lv_aload_n hx hb dX4_many_112 rfl (lv_at hl 0 rfl) ?_
                      refine va_get (D := (dC, dI)) (ci := 5) (v := .ref (ad 5)) (C := RX4) (T := TX4) (N := 14) hx hb hts iX4_many_RX4 hown hK hP 0 heH_0 rfl 4 (by decide) (hts (.fieldLink RX4 33 "OverrunHouse" "rests" "[I") (List.mem_cons_of_mem _ (List.mem_append_left _ (List.mem_append_left _ (List.mem_append_left _ (List.mem_of_getElem? (i := 6) rfl)))))) (fun _ h9 => h9) rfl dX4_many_113 ?_
                      refine lv_iconst (v := 0) hx hb dX4_many_116 (by decide) ?_
                      obtain ⟨h_16, hf⟩ := ck_out hf
                      refine va_iald (n := 2) (f := I 5) hx hb hK hP 5 0 heH_5 rfl (inB_in h_16) dX4_many_117 ?_
                      exact (er_ne hf).elim
                    · have hf := it_f hf c_15
                      by_cases c_17 : p1 = 9
                      · have hf := it_t hf c_17
                        refine lv_tableIn (off := 111) (tgt := 119) hx hb dX4_many_8 (by rw [c_17]; decide) (by rw [c_17]; decide) (by rw [c_17]; decide) (by decide) ?_
                        refine lv_aload_n hx hb dX4_many_119 rfl (lv_at hl 0 rfl) ?_
                        refine va_get (D := (dC, dI)) (ci := 5) (v := .ref (ad 5)) (C := RX4) (T := TX4) (N := 14) hx hb hts iX4_many_RX4 hown hK hP 0 heH_0 rfl 4 (by decide) (hts (.fieldLink RX4 33 "OverrunHouse" "rests" "[I") (List.mem_cons_of_mem _ (List.mem_append_left _ (List.mem_append_left _ (List.mem_append_left _ (List.mem_of_getElem? (i := 6) rfl)))))) (fun _ h9 => h9) rfl dX4_many_120 ?_
                        refine lv_iconst (v := 1) hx hb dX4_many_123 (by decide) ?_
                        obtain ⟨h_18, hf⟩ := ck_out hf
                        refine va_iald (n := 2) (f := I 5) hx hb hK hP 5 0 heH_5 rfl (inB_in h_18) dX4_many_124 ?_
                        exact (er_ne hf).elim
                      · have hf := it_f hf c_17
                        by_cases c_19 : p1 = 10
                        · have hf := it_t hf c_19
                          refine lv_tableIn (off := 118) (tgt := 126) hx hb dX4_many_8 (by rw [c_19]; decide) (by rw [c_19]; decide) (by rw [c_19]; decide) (by decide) ?_
                          refine lv_aload_n hx hb dX4_many_126 rfl (lv_at hl 0 rfl) ?_
                          refine va_get (D := (dC, dI)) (ci := 5) (v := .int (I 0 11)) (C := RX4) (T := TX4) (N := 14) hx hb hts iX4_many_RX4 hown hK hP 0 heH_0 rfl 11 (by decide) (hts (.fieldLink RX4 56 "OverrunHouse" "washesEver" "I") (List.mem_cons_of_mem _ (List.mem_append_left _ (List.mem_append_left _ (List.mem_append_left _ (List.mem_of_getElem? (i := 7) rfl)))))) (fun _ h9 => h9) rfl dX4_many_127 ?_
                          exact (er_ne hf).elim
                        · have hf := it_f hf c_19
                          refine lv_tableOut (tgt := 131) hx hb dX4_many_8 (sw_out11 c_3 c_4 c_5 c_6 c_9 c_12 c_13 c_14 c_15 c_17 c_19) (by decide) ?_
                          refine lv_aload_n hx hb dX4_many_131 rfl (lv_at hl 0 rfl) ?_
                          refine va_get (D := (dC, dI)) (ci := 5) (v := .int (I 0 12)) (C := RX4) (T := TX4) (N := 14) hx hb hts iX4_many_RX4 hown hK hP 0 heH_0 rfl 12 (by decide) (hts (.fieldLink RX4 59 "OverrunHouse" "calledSet" "I") (List.mem_cons_of_mem _ (List.mem_append_left _ (List.mem_append_left _ (List.mem_append_left _ (List.mem_of_getElem? (i := 8) rfl)))))) (fun _ h9 => h9) rfl dX4_many_132 ?_
                          exact (er_ne hf).elim

set_option maxHeartbeats 4000000 in
set_option maxRecDepth 100000 in
theorem mx_X4_day (l : Launch) (hl0 : l.stackTraces = false) (dC : Nat → ClassId) (dI : Nat → Nat → Nat) (ad : Nat → Nat) (cy : Nat → ClassId) (hJ : J33 ad) (sa : Nat → Nat) (sz : Nat) (I : Nat → Nat → Int32) (D : Nat → Nat → UInt64) (p1 : Int32) (p2 : Int32) (E0 : String) (hf : f_X4_day I D p1 p2 = some (.error E0)) : vx_Met l yX4_day wsX4_day ({ frames := 7, cells := 1, slots := 6, locals := 112 }) (va_Pc [.ref (ad 0), .int p1, .int p2] (fun U => U.heap.size = sz ∧ hW dC dI ad cy I D U ∧ xS sa (AW ad sz) U)) (va_Qi (fun _ (_ : Unit) => False) (fun _ _ => True) (AW ad sz)) (vx_X (fun _ : Unit => True) (fun E _ t => E0 = E ∧ va_P (dC, dI) vwCl (iwH ad cy I D) t.heap ∧ va_K (dC, dI) vwCl (tysA cy) t) (AW ad sz)) 1 6 (AW ad sz) := by
  refine vx_ofW (cc := cX4_day) (maxL := 3) (ret := (some .int)) (by decide) rfl ?_
  intro p e s m args below meth c s₁ B hml ht hv
  obtain ⟨rfl, hsz, ⟨hP, hK, hN⟩, hZ⟩ := hv
  have hx := B.exec
  have hb := B.bytes
  have hr := B.returns
  have hts := atoms_spec (ws := wsX4_day) B.pre
  have hown : s.vm.findClass RX4 = some m.cls := findClass_of_methodNamed B.named
  have hlocks := B.notSynchronized
  subst hsz
  generalize hAe : AW ad s.heap.size = A at hZ ⊢
  have hA : ∀ q : Nat, s.heap.size ≤ q → A q := fun q h => by rw [← hAe]; exact Or.inr h
  have hA33 : ∀ k, k < 33 → A (ad k) := fun k h => by rw [← hAe]; exact Or.inl ⟨k, h, rfl⟩
  have hDD : ∀ I D, va_D A (iwH ad cy I D) := fun I D => iwH_D hJ hA33 I D
  obtain ⟨H, hH⟩ : ∃ H : Heap, H = s.heap := ⟨_, rfl⟩
  have hS : va_S A s.heap H [] := by rw [hH]; exact va_S.rf
  rw [← hH]
  rw [← hH] at hP
  have hl := lv_entry ([.ref (ad 0), .int p1, .int p2]) (n := 3) (Nat.le_of_ble_eq_true rfl)
  rw [lg_entry_eq]
  generalize (lg_sl ([.ref (ad 0), .int p1, .int p2]) ++ List.replicate (3 - (lg_sl ([.ref (ad 0), .int p1, .int p2])).length) Slot.unset).toArray = ls at hl ⊢
  have hl : lv_has ls 3 [(0, .ref (ad 0)), (1, .int p1), (2, .int p2)] := hl
  unfold f_X4_day at hf
  refine lv_iload_n hx hb dX4_day_0 rfl (lv_at hl 1 rfl) ?_
  refine lv_iconst (v := 0) hx hb dX4_day_1 (by decide) ?_
  refine lv_iconst (v := 1) hx hb dX4_day_2 (by decide) ?_
  refine lv_aload_n hx hb dX4_day_3 rfl (lv_at hl 0 rfl) ?_
  refine va_get (D := (dC, dI)) (ci := 5) (v := .int (I 0 6)) (C := RX4) (T := TX4) (N := 14) hx hb hts iX4_day_RX4 hown hK hP 0 heH_0 rfl 6 (by decide) (hts (.fieldLink RX4 41 "OverrunHouse" "mixCount" "I") (List.mem_cons_of_mem _ (List.mem_append_left _ (List.mem_append_left _ (List.mem_append_left _ (List.mem_append_left _ (List.mem_of_getElem? (i := 0) rfl))))))) (fun _ h9 => h9) rfl dX4_day_4 ?_
  refine lv_ishl hx hb dX4_day_7 ?_
  refine lv_iconst (v := 1) hx hb dX4_day_8 (by decide) ?_
  refine lv_isub hx hb dX4_day_9 ?_
  rcases bE_err hf with g_2 | ⟨_, g_2, hf⟩
  · skip
    refine vx_callv (vx_runS (As := [.int p1, .int 0, .int ((1 <<< ((I 0 6) &&& 31)) - 1)]) (rest := []) ⟨hx, hb, hml, hown, hts⟩ (mx_X4_checkRange l hl0 sa H.size p1 0 ((1 <<< ((I 0 6) &&& 31)) - 1) E0 g_2) (va_cwS 3 hts gX4_day_X4_checkRange rfl rfl rfl (by decide +kernel) ⟨Nat.le_of_ble_eq_true rfl, Nat.le_of_ble_eq_true rfl⟩) (pre0X [.int p1, .int 0, .int ((1 <<< ((I 0 6) &&& 31)) - 1)] (xS_kept (B := fun q => H.size ≤ q) hZ hS (fun q h => hA q (Nat.le_trans hS.1 h)))) rfl rfl hl.1 rfl (lv_room (Nat.le_of_ble_eq_true rfl)) dX4_day_10 ⟨Nat.le_of_ble_eq_true rfl, Nat.le_of_ble_eq_true rfl⟩) hS (fun q _ h => hA q (Nat.le_trans hS.1 h)) (fun q h => hA q (Nat.le_trans hS.1 h)) (fun q _ h => hA q (Nat.le_trans hS.1 h)) (fun E9 ce q9 u t H1 locs1 ht9 hvm hpu hBX hz1 hk1 hS h1 h2 h3 => ?_) (fun u t H1 locs ht9 hvm hw hB hz1 hk1 hS => hw.elim)
    exact vx_out (fun x hx9 => (ht x hx9).elim) hlocks h1 h2 h3 (fun t9 ht8 hvm8 => ⟨(), trivial, ⟨hBX, by rw [ht8]; exact va_Pnew hP hk1, va_K.moved hvm8 hK⟩, hS.F ht8⟩) hS.2.2 (Nat.le_of_ble_eq_true rfl) (Nat.le_of_ble_eq_true rfl)
  · skip
    refine va_callv (va_runS (As := [.int p1, .int 0, .int ((1 <<< ((I 0 6) &&& 31)) - 1)]) (rest := []) ⟨hx, hb, hml, hown, hts⟩ (mt_X4_checkRange l H.size p1 0 ((1 <<< ((I 0 6) &&& 31)) - 1)  g_2) (va_cwS 3 hts gX4_day_X4_checkRange rfl rfl rfl (by decide +kernel) ⟨Nat.le_of_ble_eq_true rfl, Nat.le_of_ble_eq_true rfl⟩) (pre0 [.int p1, .int 0, .int ((1 <<< ((I 0 6) &&& 31)) - 1)]) rfl rfl hl.1 rfl (lv_room (Nat.le_of_ble_eq_true rfl)) dX4_day_10 ⟨Nat.le_of_ble_eq_true rfl, Nat.le_of_ble_eq_true rfl⟩) hS (fun q _ h => hA q (Nat.le_trans hS.1 h)) (fun q h => hA q (Nat.le_trans hS.1 h)) (fun u t H1 locs ht hvm hw hB hz1 hk1 hS => ?_)
    have hP := va_Pnew hP hk1
    clear hB hz1 hk1 hvm ht
    generalize H1 = H at hP hS ⊢
    refine lv_aload_n hx hb dX4_day_13 rfl (lv_at hl 0 rfl) ?_
    obtain ⟨⟨I_5, D_6⟩, g_4, hf⟩ := bd_out hf
    have hAW : ∀ q, AW ad H.size q → A q := fun q h => h.elim (fun ⟨k, k1, k2⟩ => k2 ▸ hA33 k k1) (fun h => hA q (Nat.le_trans hS.1 h))
    refine va_callv (va_runV (As := []) (rest := []) ⟨hx, hb, hml, hown, hts⟩ (mt_X4_reckonWashes l dC dI ad cy hJ H.size I D  I_5 D_6 g_4) (cwV 0 hts gX4_day_X4_reckonWashes rfl rfl rfl (by decide +kernel) ⟨Nat.le_of_ble_eq_true rfl, Nat.le_of_ble_eq_true rfl⟩) ⟨(hW.pre [.ref (ad 0)] hP hK hN).1, hW.recv (C := RX4) (T := TX4) (N := 14) hP hK heH_0 rfl, (hW.pre [.ref (ad 0)] hP hK hN).2⟩ rfl rfl hl.1 rfl (lv_room (Nat.le_of_ble_eq_true rfl)) dX4_day_14 ⟨Nat.le_of_ble_eq_true rfl, Nat.le_of_ble_eq_true rfl⟩) hS (fun q _ h => hAW q h) (fun q h => hAW q h) (fun u t H1 locs ht hvm hw hB hz1 hk1 hS => ?_)
    have hP : va_P (dC, dI) vwCl (iwH ad cy I_5 D_6) H1 := by rw [← ht]; exact hB.1
    clear hB hz1 hk1 hvm ht
    generalize H1 = H at hP hS ⊢
    refine lv_iload_n hx hb dX4_day_17 rfl (lv_at hl 2 rfl) ?_
    refine lv_if_eq (tgt := 29) hx hb dX4_day_18 (by decide) (fun c_7 => ?_) (fun c_7 => ?_)
    · have hf := it_t hf c_7
      refine lv_aload_n hx hb dX4_day_29 rfl (lv_at hl 0 rfl) ?_
      refine va_get (D := (dC, dI)) (ci := 5) (v := .ref (ad 6)) (C := RX4) (T := TX4) (N := 14) hx hb hts iX4_day_RX4 hown hK hP 0 heH_0 rfl 13 (by decide) (hts (.fieldLink RX4 62 "OverrunHouse" "fewestWashes" "[I") (List.mem_cons_of_mem _ (List.mem_append_left _ (List.mem_append_left _ (List.mem_append_left _ (List.mem_append_left _ (List.mem_of_getElem? (i := 1) rfl))))))) (fun _ h9 => h9) rfl dX4_day_30 ?_
      refine lv_iconst (v := 5) hx hb dX4_day_33 (by decide) ?_
      refine lv_iload_n hx hb dX4_day_34 rfl (lv_at hl 1 rfl) ?_
      obtain ⟨r_8, g_9, hf⟩ := bd_out hf
      refine va_calli (va_runS (As := [.int 5, .int p1]) (rest := [.ref (ad 6)]) ⟨hx, hb, hml, hown, hts⟩ (mt_X4_cell l H.size 5 p1 r_8 g_9) (va_cwS 2 hts gX4_day_X4_cell rfl rfl rfl (by decide +kernel) ⟨Nat.le_of_ble_eq_true rfl, Nat.le_of_ble_eq_true rfl⟩) (pre0 [.int 5, .int p1]) rfl rfl hl.1 rfl (lv_room (Nat.le_of_ble_eq_true rfl)) dX4_day_35 ⟨Nat.le_of_ble_eq_true rfl, Nat.le_of_ble_eq_true rfl⟩) hS (fun q _ h => hA q (Nat.le_trans hS.1 h)) (fun q h => hA q (Nat.le_trans hS.1 h)) (fun r9 u t H1 locs ht hvm hw hB hz1 hk1 hS => ?_)
      subst hw
      have hP := va_Pnew hP hk1
      clear hB hz1 hk1 hvm ht
      generalize H1 = H at hP hS ⊢
      obtain ⟨h_10, hf⟩ := ck_out hf
      refine va_iald (n := 192) (f := I_5 6) hx hb hK hP 6 0 heH_6 rfl (inB_in h_10) dX4_day_38 ?_
      exact (er_ne hf).elim
    · have hf := it_f hf c_7
      refine lv_aload_n hx hb dX4_day_21 rfl (lv_at hl 0 rfl) ?_
      refine lv_iload_n hx hb dX4_day_22 rfl (lv_at hl 1 rfl) ?_
      obtain ⟨r_11, g_12, hf⟩ := bd_out hf
      refine va_calli (va_runV (As := [.int p1]) (rest := []) ⟨hx, hb, hml, hown, hts⟩ (mt_X4_bestOrder l dC dI ad cy hJ H.size I_5 D_6 p1 r_11 g_12) (cwV 1 hts gX4_day_X4_bestOrder rfl rfl rfl (by decide +kernel) ⟨Nat.le_of_ble_eq_true rfl, Nat.le_of_ble_eq_true rfl⟩) ⟨(hW.pre [.ref (ad 0), .int p1] hP hK hN).1, hW.recv (C := RX4) (T := TX4) (N := 14) hP hK heH_0 rfl, (hW.pre [.ref (ad 0), .int p1] hP hK hN).2⟩ rfl rfl hl.1 rfl (lv_room (Nat.le_of_ble_eq_true rfl)) dX4_day_23 ⟨Nat.le_of_ble_eq_true rfl, Nat.le_of_ble_eq_true rfl⟩) hS (fun q _ h => hA q (Nat.le_trans hS.1 h)) (fun q h => hA q (Nat.le_trans hS.1 h)) (fun r9 u t H1 locs ht hvm hw hB hz1 hk1 hS => ?_)
      subst hw
      have hP := va_Pnew hP hk1
      clear hB hz1 hk1 hvm ht
      generalize H1 = H at hP hS ⊢
      refine lv_goto (tgt := 39) hx hb dX4_day_26 (by decide) ?_
      exact (er_ne hf).elim

set_option maxHeartbeats 4000000 in
set_option maxRecDepth 100000 in
theorem mx_X4_wouldBe (l : Launch) (hl0 : l.stackTraces = false) (dC : Nat → ClassId) (dI : Nat → Nat → Nat) (ad : Nat → Nat) (cy : Nat → ClassId) (hJ : J33 ad) (sa : Nat → Nat) (sz : Nat) (I : Nat → Nat → Int32) (D : Nat → Nat → UInt64) (p1 : Int32) (p2 : Int32) (E0 : String) (hf : f_X4_wouldBe I D p1 p2 = some (.error E0)) : vx_Met l yX4_wouldBe wsX4_wouldBe ({ frames := 7, cells := 1, slots := 6, locals := 112 }) (va_Pc [.ref (ad 0), .int p1, .int p2] (fun U => U.heap.size = sz ∧ hW dC dI ad cy I D U ∧ xS sa (AW ad sz) U)) (va_Qd (fun _ (_ : Unit) => False) (fun _ _ => True) (AW ad sz)) (vx_X (fun _ : Unit => True) (fun E _ t => E0 = E ∧ va_P (dC, dI) vwCl (iwH ad cy I D) t.heap ∧ va_K (dC, dI) vwCl (tysA cy) t) (AW ad sz)) 1 6 (AW ad sz) := by
  refine vx_ofW (cc := cX4_wouldBe) (maxL := 4) (ret := (some .double)) (by decide) rfl ?_
  intro p e s m args below meth c s₁ B hml ht hv
  obtain ⟨rfl, hsz, ⟨hP, hK, hN⟩, hZ⟩ := hv
  have hx := B.exec
  have hb := B.bytes
  have hr := B.returns
  have hts := atoms_spec (ws := wsX4_wouldBe) B.pre
  have hown : s.vm.findClass RX4 = some m.cls := findClass_of_methodNamed B.named
  have hlocks := B.notSynchronized
  subst hsz
  generalize hAe : AW ad s.heap.size = A at hZ ⊢
  have hA : ∀ q : Nat, s.heap.size ≤ q → A q := fun q h => by rw [← hAe]; exact Or.inr h
  have hA33 : ∀ k, k < 33 → A (ad k) := fun k h => by rw [← hAe]; exact Or.inl ⟨k, h, rfl⟩
  have hDD : ∀ I D, va_D A (iwH ad cy I D) := fun I D => iwH_D hJ hA33 I D
  obtain ⟨H, hH⟩ : ∃ H : Heap, H = s.heap := ⟨_, rfl⟩
  have hS : va_S A s.heap H [] := by rw [hH]; exact va_S.rf
  rw [← hH]
  rw [← hH] at hP
  have hl := lv_entry ([.ref (ad 0), .int p1, .int p2]) (n := 4) (Nat.le_of_ble_eq_true rfl)
  rw [lg_entry_eq]
  generalize (lg_sl ([.ref (ad 0), .int p1, .int p2]) ++ List.replicate (4 - (lg_sl ([.ref (ad 0), .int p1, .int p2])).length) Slot.unset).toArray = ls at hl ⊢
  have hl : lv_has ls 4 [(0, .ref (ad 0)), (1, .int p1), (2, .int p2)] := hl
  unfold f_X4_wouldBe at hf
  refine lv_iload_n hx hb dX4_wouldBe_0 rfl (lv_at hl 1 rfl) ?_
  refine lv_aload_n hx hb dX4_wouldBe_1 rfl (lv_at hl 0 rfl) ?_
  refine va_get (D := (dC, dI)) (ci := 5) (v := .int (I 0 7)) (C := RX4) (T := TX4) (N := 14) hx hb hts iX4_wouldBe_RX4 hown hK hP 0 heH_0 rfl 7 (by decide) (hts (.fieldLink RX4 44 "OverrunHouse" "batchCount" "I") (List.mem_cons_of_mem _ (List.mem_append_left _ (List.mem_append_left _ (List.mem_append_left _ (List.mem_append_left _ (List.mem_append_left _ (List.mem_append_left _ (List.mem_append_left _ (List.mem_of_getElem? (i := 0) rfl)))))))))) (fun _ h9 => h9) rfl dX4_wouldBe_2 ?_
  rcases bE_err hf with g_2 | ⟨_, g_2, hf⟩
  · skip
    refine vx_callv (vx_runS (As := [.int p1, .int (I 0 7)]) (rest := []) ⟨hx, hb, hml, hown, hts⟩ (mx_X4_checkNumber l hl0 sa H.size p1 (I 0 7) E0 g_2) (va_cwS 2 hts gX4_wouldBe_X4_checkNumber rfl rfl rfl (by decide +kernel) ⟨Nat.le_of_ble_eq_true rfl, Nat.le_of_ble_eq_true rfl⟩) (pre0X [.int p1, .int (I 0 7)] (xS_kept (B := fun q => H.size ≤ q) hZ hS (fun q h => hA q (Nat.le_trans hS.1 h)))) rfl rfl hl.1 rfl (lv_room (Nat.le_of_ble_eq_true rfl)) dX4_wouldBe_5 ⟨Nat.le_of_ble_eq_true rfl, Nat.le_of_ble_eq_true rfl⟩) hS (fun q _ h => hA q (Nat.le_trans hS.1 h)) (fun q h => hA q (Nat.le_trans hS.1 h)) (fun q _ h => hA q (Nat.le_trans hS.1 h)) (fun E9 ce q9 u t H1 locs1 ht9 hvm hpu hBX hz1 hk1 hS h1 h2 h3 => ?_) (fun u t H1 locs ht9 hvm hw hB hz1 hk1 hS => hw.elim)
    exact vx_out (fun x hx9 => (ht x hx9).elim) hlocks h1 h2 h3 (fun t9 ht8 hvm8 => ⟨(), trivial, ⟨hBX, by rw [ht8]; exact va_Pnew hP hk1, va_K.moved hvm8 hK⟩, hS.F ht8⟩) hS.2.2 (Nat.le_of_ble_eq_true rfl) (Nat.le_of_ble_eq_true rfl)
  · skip
    refine va_callv (va_runS (As := [.int p1, .int (I 0 7)]) (rest := []) ⟨hx, hb, hml, hown, hts⟩ (mt_X4_checkNumber l H.size p1 (I 0 7)  g_2) (va_cwS 2 hts gX4_wouldBe_X4_checkNumber rfl rfl rfl (by decide +kernel) ⟨Nat.le_of_ble_eq_true rfl, Nat.le_of_ble_eq_true rfl⟩) (pre0 [.int p1, .int (I 0 7)]) rfl rfl hl.1 rfl (lv_room (Nat.le_of_ble_eq_true rfl)) dX4_wouldBe_5 ⟨Nat.le_of_ble_eq_true rfl, Nat.le_of_ble_eq_true rfl⟩) hS (fun q _ h => hA q (Nat.le_trans hS.1 h)) (fun q h => hA q (Nat.le_trans hS.1 h)) (fun u t H1 locs ht hvm hw hB hz1 hk1 hS => ?_)
    have hP := va_Pnew hP hk1
    clear hB hz1 hk1 hvm ht
    generalize H1 = H at hP hS ⊢
    refine lv_iload_n hx hb dX4_wouldBe_8 rfl (lv_at hl 2 rfl) ?_
    refine lv_iconst (v := 1) hx hb dX4_wouldBe_9 (by decide) ?_
    refine lv_bipush (v := 48) hx hb dX4_wouldBe_10 (by decide) ?_
    rcases bE_err hf with g_4 | ⟨_, g_4, hf⟩
    · skip
      refine vx_callv (vx_runS (As := [.int p2, .int 1, .int 48]) (rest := []) ⟨hx, hb, hml, hown, hts⟩ (mx_X4_checkRange l hl0 sa H.size p2 1 48 E0 g_4) (va_cwS 3 hts gX4_wouldBe_X4_checkRange rfl rfl rfl (by decide +kernel) ⟨Nat.le_of_ble_eq_true rfl, Nat.le_of_ble_eq_true rfl⟩) (pre0X [.int p2, .int 1, .int 48] (xS_kept (B := fun q => H.size ≤ q) hZ hS (fun q h => hA q (Nat.le_trans hS.1 h)))) rfl rfl hl.1 rfl (lv_room (Nat.le_of_ble_eq_true rfl)) dX4_wouldBe_12 ⟨Nat.le_of_ble_eq_true rfl, Nat.le_of_ble_eq_true rfl⟩) hS (fun q _ h => hA q (Nat.le_trans hS.1 h)) (fun q h => hA q (Nat.le_trans hS.1 h)) (fun q _ h => hA q (Nat.le_trans hS.1 h)) (fun E9 ce q9 u t H1 locs1 ht9 hvm hpu hBX hz1 hk1 hS h1 h2 h3 => ?_) (fun u t H1 locs ht9 hvm hw hB hz1 hk1 hS => hw.elim)
      exact vx_out (fun x hx9 => (ht x hx9).elim) hlocks h1 h2 h3 (fun t9 ht8 hvm8 => ⟨(), trivial, ⟨hBX, by rw [ht8]; exact va_Pnew hP hk1, va_K.moved hvm8 hK⟩, hS.F ht8⟩) hS.2.2 (Nat.le_of_ble_eq_true rfl) (Nat.le_of_ble_eq_true rfl)
    · skip
      refine va_callv (va_runS (As := [.int p2, .int 1, .int 48]) (rest := []) ⟨hx, hb, hml, hown, hts⟩ (mt_X4_checkRange l H.size p2 1 48  g_4) (va_cwS 3 hts gX4_wouldBe_X4_checkRange rfl rfl rfl (by decide +kernel) ⟨Nat.le_of_ble_eq_true rfl, Nat.le_of_ble_eq_true rfl⟩) (pre0 [.int p2, .int 1, .int 48]) rfl rfl hl.1 rfl (lv_room (Nat.le_of_ble_eq_true rfl)) dX4_wouldBe_12 ⟨Nat.le_of_ble_eq_true rfl, Nat.le_of_ble_eq_true rfl⟩) hS (fun q _ h => hA q (Nat.le_trans hS.1 h)) (fun q h => hA q (Nat.le_trans hS.1 h)) (fun u t H1 locs ht hvm hw hB hz1 hk1 hS => ?_)
      have hP := va_Pnew hP hk1
      clear hB hz1 hk1 hvm ht
      generalize H1 = H at hP hS ⊢
      refine lv_aload_n hx hb dX4_wouldBe_15 rfl (lv_at hl 0 rfl) ?_
      refine va_get (D := (dC, dI)) (ci := 5) (v := .ref (ad 3)) (C := RX4) (T := TX4) (N := 14) hx hb hts iX4_wouldBe_RX4 hown hK hP 0 heH_0 rfl 2 (by decide) (hts (.fieldLink RX4 23 "OverrunHouse" "batches" "[LOverrunHouse$Batch;") (List.mem_cons_of_mem _ (List.mem_append_left _ (List.mem_append_left _ (List.mem_append_left _ (List.mem_append_left _ (List.mem_append_left _ (List.mem_append_left _ (List.mem_append_left _ (List.mem_of_getElem? (i := 1) rfl)))))))))) (fun _ h9 => h9) rfl dX4_wouldBe_16 ?_
      refine lv_iload_n hx hb dX4_wouldBe_19 rfl (lv_at hl 1 rfl) ?_
      obtain ⟨h_5, hf⟩ := ck_out hf
      refine wr_aald (b := 18) (n := 12) hx hb hK hP 3 3 heH_3 rfl (inB_in h_5) dX4_wouldBe_20 ?_
      refine lv_astore_n (lv' := [(3, .ref (ad (18 + (p1).toNatClampNeg))), (0, .ref (ad 0)), (1, .int p1), (2, .int p2)]) hx hb dX4_wouldBe_21 rfl hl (by decide) rfl (fun ls hl => ?_)
      refine lv_aload_n hx hb dX4_wouldBe_22 rfl (lv_at hl 0 rfl) ?_
      obtain ⟨r_6, g_7, hf⟩ := bd_out hf
      refine va_calli (va_runVN (As := []) (rest := []) ⟨hx, hb, hml, hown, hts⟩ (mt_X0_isStored l dC dI ad cy hJ H.size I D (p1).toNatClampNeg (inB_lt h_5) r_6 g_7) ⟨va_cnB 0 hts gX4_wouldBe_X0_isStored_n192 rfl rfl rfl (hN (.methodLinkNest "OverrunHouse" 192 ⟨"OverrunHouse$Batch", "isStored", "()Z"⟩ "OverrunHouse") (List.mem_of_getElem? (i := 41) rfl)) (hts (.initialized RX0) (List.mem_cons_of_mem _ (List.mem_append_left _ (List.mem_append_left _ (List.mem_append_left _ (List.mem_append_left _ (List.mem_append_left _ (List.mem_append_left _ (List.mem_append_left _ (List.mem_of_getElem? (i := 16) rfl)))))))))) (by decide +kernel) ⟨Nat.le_of_ble_eq_true rfl, Nat.le_of_ble_eq_true rfl⟩, (hts (.instanceMethod yX0_isStored) (List.mem_cons_of_mem _ (List.mem_append_left _ (List.mem_append_left _ (List.mem_append_left _ (List.mem_append_left _ (List.mem_append_left _ (List.mem_append_left _ (List.mem_append_left _ (List.mem_of_getElem? (i := 15) rfl)))))))))), (hts (.selects RX0 yX0_isStored yX0_isStored) (List.mem_cons_of_mem _ (List.mem_append_left _ (List.mem_append_left _ (List.mem_append_left _ (List.mem_append_left _ (List.mem_append_left _ (List.mem_append_left _ (List.mem_append_left _ (List.mem_of_getElem? (i := 17) rfl))))))))))⟩ ⟨(hW.pre [.ref (ad (18 + (p1).toNatClampNeg))] hP hK hN).1, hW.recv (C := RX0) (T := TX0) (N := 5) hP hK (heH_Batch (inB_lt h_5)) rfl, (hW.pre [.ref (ad (18 + (p1).toNatClampNeg))] hP hK hN).2⟩ rfl rfl hl.1 rfl (lv_room (Nat.le_of_ble_eq_true rfl)) dX4_wouldBe_23 ⟨Nat.le_of_ble_eq_true rfl, Nat.le_of_ble_eq_true rfl⟩) hS (fun q _ h => hA q (Nat.le_trans hS.1 h)) (fun q h => hA q (Nat.le_trans hS.1 h)) (fun r9 u t H1 locs ht hvm hw hB hz1 hk1 hS => ?_)
      subst hw
      have hP := va_Pnew hP hk1
      clear hB hz1 hk1 hvm ht
      generalize H1 = H at hP hS ⊢
      refine lv_if_eq (tgt := 48) hx hb dX4_wouldBe_26 (by decide) (fun c_8 => ?_) (fun c_8 => ?_)
      · have hf := it_t hf c_8
        refine lv_aload_n hx hb dX4_wouldBe_48 rfl (lv_at hl 0 rfl) ?_
        refine va_getN (D := (dC, dI)) (ci := 1) (v := .int (I (18 + (p1).toNatClampNeg) 2)) (C := RX0) (T := TX0) (N := 5) hx hb hts iX4_wouldBe_RX0 hown hK hP (18 + (p1).toNatClampNeg) (heH_Batch (inB_lt h_5)) rfl 2 (by decide) (va_Nw.use (w := .fieldLinkNest "OverrunHouse" 143 "OverrunHouse$Batch" "place" "I" "OverrunHouse") rfl (hN _ (List.mem_of_getElem? (i := 24) rfl))) (fun _ h9 => h9) rfl dX4_wouldBe_49 ?_
        refine lv_iconst (v := (-1)) hx hb dX4_wouldBe_52 (by decide) ?_
        refine lv_icmp_ne (tgt := 70) hx hb dX4_wouldBe_53 (by decide) (fun c_9 => ?_) (fun c_9 => ?_)
        · have hf := it_f hf c_9
          refine lv_ldc2d (v := 13830554455654793216) hx hb hown (hts (.constantDouble RX4 262 (13830554455654793216)) (List.mem_cons_of_mem _ (List.mem_append_left _ (List.mem_append_left _ (List.mem_append_left _ (List.mem_append_left _ (List.mem_append_left _ (List.mem_append_left _ (List.mem_append_left _ (List.mem_of_getElem? (i := 3) rfl)))))))))) dX4_wouldBe_70 ?_
          exact (er_ne hf).elim
        · have hf := it_t hf c_9
          refine lv_aload_n hx hb dX4_wouldBe_56 rfl (lv_at hl 0 rfl) ?_
          refine va_getN (D := (dC, dI)) (ci := 1) (v := .int (I (18 + (p1).toNatClampNeg) 3)) (C := RX0) (T := TX0) (N := 5) hx hb hts iX4_wouldBe_RX0 hown hK hP (18 + (p1).toNatClampNeg) (heH_Batch (inB_lt h_5)) rfl 3 (by decide) (va_Nw.use (w := .fieldLinkNest "OverrunHouse" 146 "OverrunHouse$Batch" "isHard" "Z" "OverrunHouse") rfl (hN _ (List.mem_of_getElem? (i := 25) rfl))) (fun _ h9 => h9) rfl dX4_wouldBe_57 ?_
          refine lv_if_eq (tgt := 70) hx hb dX4_wouldBe_60 (by decide) (fun c_10 => ?_) (fun c_10 => ?_)
          · have hf := it_t hf c_10
            refine lv_ldc2d (v := 13830554455654793216) hx hb hown (hts (.constantDouble RX4 262 (13830554455654793216)) (List.mem_cons_of_mem _ (List.mem_append_left _ (List.mem_append_left _ (List.mem_append_left _ (List.mem_append_left _ (List.mem_append_left _ (List.mem_append_left _ (List.mem_append_left _ (List.mem_of_getElem? (i := 3) rfl)))))))))) dX4_wouldBe_70 ?_
            exact (er_ne hf).elim
          · have hf := it_f hf c_10
            refine lv_aload_n hx hb dX4_wouldBe_63 rfl (lv_at hl 0 rfl) ?_
            refine va_getN (D := (dC, dI)) (ci := 1) (v := .double (D (18 + (p1).toNatClampNeg) 4)) (C := RX0) (T := TX0) (N := 5) hx hb hts iX4_wouldBe_RX0 hown hK hP (18 + (p1).toNatClampNeg) (heH_Batch (inB_lt h_5)) rfl 4 (by decide) (va_Nw.use (w := .fieldLinkNest "OverrunHouse" 139 "OverrunHouse$Batch" "crystal" "D" "OverrunHouse") rfl (hN _ (List.mem_of_getElem? (i := 26) rfl))) (fun _ h9 => h9) rfl dX4_wouldBe_64 ?_
            refine lv_goto (tgt := 73) hx hb dX4_wouldBe_67 (by decide) ?_
            exact (er_ne hf).elim
      · have hf := it_f hf c_8
        refine lv_aload_n hx hb dX4_wouldBe_29 rfl (lv_at hl 1 rfl) ?_
        refine lv_aload_n hx hb dX4_wouldBe_30 rfl (lv_at hl 0 rfl) ?_
        refine lv_aload_n hx hb dX4_wouldBe_31 rfl (lv_at hl 1 rfl) ?_
        refine va_get (D := (dC, dI)) (ci := 5) (v := .ref (ad 4)) (C := RX4) (T := TX4) (N := 14) hx hb hts iX4_wouldBe_RX4 hown hK hP 0 heH_0 rfl 3 (by decide) (hts (.fieldLink RX4 29 "OverrunHouse" "stores" "[LOverrunHouse$Store;") (List.mem_cons_of_mem _ (List.mem_append_left _ (List.mem_append_left _ (List.mem_append_left _ (List.mem_append_left _ (List.mem_append_left _ (List.mem_append_left _ (List.mem_append_left _ (List.mem_of_getElem? (i := 2) rfl)))))))))) (fun _ h9 => h9) rfl dX4_wouldBe_32 ?_
        refine lv_aload_n hx hb dX4_wouldBe_35 rfl (lv_at hl 0 rfl) ?_
        refine va_getN (D := (dC, dI)) (ci := 1) (v := .int (I (18 + (p1).toNatClampNeg) 2)) (C := RX0) (T := TX0) (N := 5) hx hb hts iX4_wouldBe_RX0 hown hK hP (18 + (p1).toNatClampNeg) (heH_Batch (inB_lt h_5)) rfl 2 (by decide) (va_Nw.use (w := .fieldLinkNest "OverrunHouse" 143 "OverrunHouse$Batch" "place" "I" "OverrunHouse") rfl (hN _ (List.mem_of_getElem? (i := 24) rfl))) (fun _ h9 => h9) rfl dX4_wouldBe_36 ?_
        obtain ⟨h_11, hf⟩ := ck_out hf
        refine wr_aald (b := 30) (n := 3) hx hb hK hP 4 4 heH_4 rfl (inB_in h_11) dX4_wouldBe_39 ?_
        refine va_getN (D := (dC, dI)) (ci := 4) (v := .double (D (30 + ((I (18 + (p1).toNatClampNeg) 2)).toNatClampNeg) 1)) (C := RX3) (T := TX3) (N := 2) hx hb hts iX4_wouldBe_RX3 hown hK hP (30 + ((I (18 + (p1).toNatClampNeg) 2)).toNatClampNeg) (heH_Store (inB_lt h_11)) rfl 1 (by decide) (va_Nw.use (w := .fieldLinkNest "OverrunHouse" 156 "OverrunHouse$Store" "degrees" "D" "OverrunHouse") rfl (hN _ (List.mem_of_getElem? (i := 28) rfl))) (fun _ h9 => h9) rfl dX4_wouldBe_40 ?_
        refine lv_iload_n hx hb dX4_wouldBe_43 rfl (lv_at hl 3 rfl) ?_
        obtain ⟨r_12, g_13, hf⟩ := bd_out hf
        refine va_calld (va_runV (As := [.ref (ad (18 + (p1).toNatClampNeg)), .double (D (30 + ((I (18 + (p1).toNatClampNeg) 2)).toNatClampNeg) 1), .int p2]) (rest := []) ⟨hx, hb, hml, hown, hts⟩ (mt_X4_crystalLater l dC dI ad cy hJ H.size I D (p1).toNatClampNeg (inB_lt h_5) (D (30 + ((I (18 + (p1).toNatClampNeg) 2)).toNatClampNeg) 1) p2 r_12 g_13) (cwV 3 hts gX4_wouldBe_X4_crystalLater rfl rfl rfl (by decide +kernel) ⟨Nat.le_of_ble_eq_true rfl, Nat.le_of_ble_eq_true rfl⟩) ⟨(hW.pre [.ref (ad 0), .ref (ad (18 + (p1).toNatClampNeg)), .double (D (30 + ((I (18 + (p1).toNatClampNeg) 2)).toNatClampNeg) 1), .int p2] hP hK hN).1, hW.recv (C := RX4) (T := TX4) (N := 14) hP hK heH_0 rfl, (hW.pre [.ref (ad 0), .ref (ad (18 + (p1).toNatClampNeg)), .double (D (30 + ((I (18 + (p1).toNatClampNeg) 2)).toNatClampNeg) 1), .int p2] hP hK hN).2⟩ rfl rfl hl.1 rfl (lv_room (Nat.le_of_ble_eq_true rfl)) dX4_wouldBe_44 ⟨Nat.le_of_ble_eq_true rfl, Nat.le_of_ble_eq_true rfl⟩) hS (fun q _ h => hA q (Nat.le_trans hS.1 h)) (fun q h => hA q (Nat.le_trans hS.1 h)) (fun r9 u t H1 locs ht hvm hw hB hz1 hk1 hS => ?_)
        subst hw
        have hP := va_Pnew hP hk1
        clear hB hz1 hk1 hvm ht
        generalize H1 = H at hP hS ⊢
        exact (er_ne hf).elim

set_option maxHeartbeats 4000000 in
set_option maxRecDepth 100000 in
theorem mx_X4_wouldSpoil (l : Launch) (hl0 : l.stackTraces = false) (dC : Nat → ClassId) (dI : Nat → Nat → Nat) (ad : Nat → Nat) (cy : Nat → ClassId) (hJ : J33 ad) (sa : Nat → Nat) (sz : Nat) (I : Nat → Nat → Int32) (D : Nat → Nat → UInt64) (p1 : Int32) (p2 : Int32) (E0 : String) (hf : f_X4_wouldSpoil I D p1 p2 = some (.error E0)) : vx_Met l yX4_wouldSpoil wsX4_wouldSpoil ({ frames := 7, cells := 1, slots := 6, locals := 112 }) (va_Pc [.ref (ad 0), .int p1, .int p2] (fun U => U.heap.size = sz ∧ hW dC dI ad cy I D U ∧ xS sa (AW ad sz) U)) (va_Qi (fun _ (_ : Unit) => False) (fun _ _ => True) (AW ad sz)) (vx_X (fun _ : Unit => True) (fun E _ t => E0 = E ∧ va_P (dC, dI) vwCl (iwH ad cy I D) t.heap ∧ va_K (dC, dI) vwCl (tysA cy) t) (AW ad sz)) 1 6 (AW ad sz) := by
  refine vx_ofW (cc := cX4_wouldSpoil) (maxL := 9) (ret := (some .int)) (by decide) rfl ?_
  intro p e s m args below meth c s₁ B hml ht hv
  obtain ⟨rfl, hsz, ⟨hP, hK, hN⟩, hZ⟩ := hv
  have hx := B.exec
  have hb := B.bytes
  have hr := B.returns
  have hts := atoms_spec (ws := wsX4_wouldSpoil) B.pre
  have hown : s.vm.findClass RX4 = some m.cls := findClass_of_methodNamed B.named
  have hlocks := B.notSynchronized
  subst hsz
  generalize hAe : AW ad s.heap.size = A at hZ ⊢
  have hA : ∀ q : Nat, s.heap.size ≤ q → A q := fun q h => by rw [← hAe]; exact Or.inr h
  have hA33 : ∀ k, k < 33 → A (ad k) := fun k h => by rw [← hAe]; exact Or.inl ⟨k, h, rfl⟩
  have hDD : ∀ I D, va_D A (iwH ad cy I D) := fun I D => iwH_D hJ hA33 I D
  obtain ⟨H, hH⟩ : ∃ H : Heap, H = s.heap := ⟨_, rfl⟩
  have hS : va_S A s.heap H [] := by rw [hH]; exact va_S.rf
  rw [← hH]
  rw [← hH] at hP
  have hl := lv_entry ([.ref (ad 0), .int p1, .int p2]) (n := 9) (Nat.le_of_ble_eq_true rfl)
  rw [lg_entry_eq]
  generalize (lg_sl ([.ref (ad 0), .int p1, .int p2]) ++ List.replicate (9 - (lg_sl ([.ref (ad 0), .int p1, .int p2])).length) Slot.unset).toArray = ls at hl ⊢
  have hl : lv_has ls 9 [(0, .ref (ad 0)), (1, .int p1), (2, .int p2)] := hl
  unfold f_X4_wouldSpoil at hf
  refine lv_iload_n hx hb dX4_wouldSpoil_0 rfl (lv_at hl 1 rfl) ?_
  refine lv_aload_n hx hb dX4_wouldSpoil_1 rfl (lv_at hl 0 rfl) ?_
  refine va_get (D := (dC, dI)) (ci := 5) (v := .int (I 0 8)) (C := RX4) (T := TX4) (N := 14) hx hb hts iX4_wouldSpoil_RX4 hown hK hP 0 heH_0 rfl 8 (by decide) (hts (.fieldLink RX4 47 "OverrunHouse" "storeCount" "I") (List.mem_cons_of_mem _ (List.mem_append_left _ (List.mem_append_left _ (List.mem_append_left _ (List.mem_append_left _ (List.mem_append_left _ (List.mem_append_left _ (List.mem_append_left _ (List.mem_of_getElem? (i := 0) rfl)))))))))) (fun _ h9 => h9) rfl dX4_wouldSpoil_2 ?_
  rcases bE_err hf with g_2 | ⟨_, g_2, hf⟩
  · skip
    refine vx_callv (vx_runS (As := [.int p1, .int (I 0 8)]) (rest := []) ⟨hx, hb, hml, hown, hts⟩ (mx_X4_checkNumber l hl0 sa H.size p1 (I 0 8) E0 g_2) (va_cwS 2 hts gX4_wouldSpoil_X4_checkNumber rfl rfl rfl (by decide +kernel) ⟨Nat.le_of_ble_eq_true rfl, Nat.le_of_ble_eq_true rfl⟩) (pre0X [.int p1, .int (I 0 8)] (xS_kept (B := fun q => H.size ≤ q) hZ hS (fun q h => hA q (Nat.le_trans hS.1 h)))) rfl rfl hl.1 rfl (lv_room (Nat.le_of_ble_eq_true rfl)) dX4_wouldSpoil_5 ⟨Nat.le_of_ble_eq_true rfl, Nat.le_of_ble_eq_true rfl⟩) hS (fun q _ h => hA q (Nat.le_trans hS.1 h)) (fun q h => hA q (Nat.le_trans hS.1 h)) (fun q _ h => hA q (Nat.le_trans hS.1 h)) (fun E9 ce q9 u t H1 locs1 ht9 hvm hpu hBX hz1 hk1 hS h1 h2 h3 => ?_) (fun u t H1 locs ht9 hvm hw hB hz1 hk1 hS => hw.elim)
    exact vx_out (fun x hx9 => (ht x hx9).elim) hlocks h1 h2 h3 (fun t9 ht8 hvm8 => ⟨(), trivial, ⟨hBX, by rw [ht8]; exact va_Pnew hP hk1, va_K.moved hvm8 hK⟩, hS.F ht8⟩) hS.2.2 (Nat.le_of_ble_eq_true rfl) (Nat.le_of_ble_eq_true rfl)
  · skip
    refine va_callv (va_runS (As := [.int p1, .int (I 0 8)]) (rest := []) ⟨hx, hb, hml, hown, hts⟩ (mt_X4_checkNumber l H.size p1 (I 0 8)  g_2) (va_cwS 2 hts gX4_wouldSpoil_X4_checkNumber rfl rfl rfl (by decide +kernel) ⟨Nat.le_of_ble_eq_true rfl, Nat.le_of_ble_eq_true rfl⟩) (pre0 [.int p1, .int (I 0 8)]) rfl rfl hl.1 rfl (lv_room (Nat.le_of_ble_eq_true rfl)) dX4_wouldSpoil_5 ⟨Nat.le_of_ble_eq_true rfl, Nat.le_of_ble_eq_true rfl⟩) hS (fun q _ h => hA q (Nat.le_trans hS.1 h)) (fun q h => hA q (Nat.le_trans hS.1 h)) (fun u t H1 locs ht hvm hw hB hz1 hk1 hS => ?_)
    have hP := va_Pnew hP hk1
    clear hB hz1 hk1 hvm ht
    generalize H1 = H at hP hS ⊢
    refine lv_iload_n hx hb dX4_wouldSpoil_8 rfl (lv_at hl 2 rfl) ?_
    refine lv_iconst (v := 0) hx hb dX4_wouldSpoil_9 (by decide) ?_
    refine lv_bipush (v := 20) hx hb dX4_wouldSpoil_10 (by decide) ?_
    rcases bE_err hf with g_4 | ⟨_, g_4, hf⟩
    · skip
      refine vx_callv (vx_runS (As := [.int p2, .int 0, .int 20]) (rest := []) ⟨hx, hb, hml, hown, hts⟩ (mx_X4_checkRange l hl0 sa H.size p2 0 20 E0 g_4) (va_cwS 3 hts gX4_wouldSpoil_X4_checkRange rfl rfl rfl (by decide +kernel) ⟨Nat.le_of_ble_eq_true rfl, Nat.le_of_ble_eq_true rfl⟩) (pre0X [.int p2, .int 0, .int 20] (xS_kept (B := fun q => H.size ≤ q) hZ hS (fun q h => hA q (Nat.le_trans hS.1 h)))) rfl rfl hl.1 rfl (lv_room (Nat.le_of_ble_eq_true rfl)) dX4_wouldSpoil_12 ⟨Nat.le_of_ble_eq_true rfl, Nat.le_of_ble_eq_true rfl⟩) hS (fun q _ h => hA q (Nat.le_trans hS.1 h)) (fun q h => hA q (Nat.le_trans hS.1 h)) (fun q _ h => hA q (Nat.le_trans hS.1 h)) (fun E9 ce q9 u t H1 locs1 ht9 hvm hpu hBX hz1 hk1 hS h1 h2 h3 => ?_) (fun u t H1 locs ht9 hvm hw hB hz1 hk1 hS => hw.elim)
      exact vx_out (fun x hx9 => (ht x hx9).elim) hlocks h1 h2 h3 (fun t9 ht8 hvm8 => ⟨(), trivial, ⟨hBX, by rw [ht8]; exact va_Pnew hP hk1, va_K.moved hvm8 hK⟩, hS.F ht8⟩) hS.2.2 (Nat.le_of_ble_eq_true rfl) (Nat.le_of_ble_eq_true rfl)
    · skip
      refine va_callv (va_runS (As := [.int p2, .int 0, .int 20]) (rest := []) ⟨hx, hb, hml, hown, hts⟩ (mt_X4_checkRange l H.size p2 0 20  g_4) (va_cwS 3 hts gX4_wouldSpoil_X4_checkRange rfl rfl rfl (by decide +kernel) ⟨Nat.le_of_ble_eq_true rfl, Nat.le_of_ble_eq_true rfl⟩) (pre0 [.int p2, .int 0, .int 20]) rfl rfl hl.1 rfl (lv_room (Nat.le_of_ble_eq_true rfl)) dX4_wouldSpoil_12 ⟨Nat.le_of_ble_eq_true rfl, Nat.le_of_ble_eq_true rfl⟩) hS (fun q _ h => hA q (Nat.le_trans hS.1 h)) (fun q h => hA q (Nat.le_trans hS.1 h)) (fun u t H1 locs ht hvm hw hB hz1 hk1 hS => ?_)
      have hP := va_Pnew hP hk1
      clear hB hz1 hk1 hvm ht
      generalize H1 = H at hP hS ⊢
      refine lv_aload_n hx hb dX4_wouldSpoil_15 rfl (lv_at hl 0 rfl) ?_
      refine va_get (D := (dC, dI)) (ci := 5) (v := .ref (ad 4)) (C := RX4) (T := TX4) (N := 14) hx hb hts iX4_wouldSpoil_RX4 hown hK hP 0 heH_0 rfl 3 (by decide) (hts (.fieldLink RX4 29 "OverrunHouse" "stores" "[LOverrunHouse$Store;") (List.mem_cons_of_mem _ (List.mem_append_left _ (List.mem_append_left _ (List.mem_append_left _ (List.mem_append_left _ (List.mem_append_left _ (List.mem_append_left _ (List.mem_append_left _ (List.mem_of_getElem? (i := 1) rfl)))))))))) (fun _ h9 => h9) rfl dX4_wouldSpoil_16 ?_
      refine lv_iload_n hx hb dX4_wouldSpoil_19 rfl (lv_at hl 1 rfl) ?_
      obtain ⟨h_5, hf⟩ := ck_out hf
      refine wr_aald (b := 30) (n := 3) hx hb hK hP 4 4 heH_4 rfl (inB_in h_5) dX4_wouldSpoil_20 ?_
      refine va_getN (D := (dC, dI)) (ci := 4) (v := .double (D (30 + (p1).toNatClampNeg) 1)) (C := RX3) (T := TX3) (N := 2) hx hb hts iX4_wouldSpoil_RX3 hown hK hP (30 + (p1).toNatClampNeg) (heH_Store (inB_lt h_5)) rfl 1 (by decide) (va_Nw.use (w := .fieldLinkNest "OverrunHouse" 156 "OverrunHouse$Store" "degrees" "D" "OverrunHouse") rfl (hN _ (List.mem_of_getElem? (i := 28) rfl))) (fun _ h9 => h9) rfl dX4_wouldSpoil_21 ?_
      refine lv_iload_n hx hb dX4_wouldSpoil_24 rfl (lv_at hl 2 rfl) ?_
      obtain ⟨r_6, g_7, hf⟩ := bd_out hf
      refine va_calld (va_runS (As := [.double (D (30 + (p1).toNatClampNeg) 1), .int p2]) (rest := []) ⟨hx, hb, hml, hown, hts⟩ (mt_X4_opened l H.size (D (30 + (p1).toNatClampNeg) 1) p2 r_6 g_7) (va_cwS 2 hts gX4_wouldSpoil_X4_opened rfl rfl rfl (by decide +kernel) ⟨Nat.le_of_ble_eq_true rfl, Nat.le_of_ble_eq_true rfl⟩) (pre0 [.double (D (30 + (p1).toNatClampNeg) 1), .int p2]) rfl rfl hl.1 rfl (lv_room (Nat.le_of_ble_eq_true rfl)) dX4_wouldSpoil_25 ⟨Nat.le_of_ble_eq_true rfl, Nat.le_of_ble_eq_true rfl⟩) hS (fun q _ h => hA q (Nat.le_trans hS.1 h)) (fun q h => hA q (Nat.le_trans hS.1 h)) (fun r9 u t H1 locs ht hvm hw hB hz1 hk1 hS => ?_)
      subst hw
      have hP := va_Pnew hP hk1
      clear hB hz1 hk1 hvm ht
      generalize H1 = H at hP hS ⊢
      refine lv_dstore_n (lv' := [(3, .double r_6), (0, .ref (ad 0)), (1, .int p1), (2, .int p2)]) hx hb dX4_wouldSpoil_28 rfl hl (by decide) rfl (fun ls hl => ?_)
      refine lv_iconst (v := 0) hx hb dX4_wouldSpoil_29 (by decide) ?_
      refine lv_istore (lv' := [(5, .int 0), (3, .double r_6), (0, .ref (ad 0)), (1, .int p1), (2, .int p2)]) hx hb dX4_wouldSpoil_30 hl (by decide) rfl (fun ls hl => ?_)
      refine lv_iconst (v := 0) hx hb dX4_wouldSpoil_32 (by decide) ?_
      refine lv_istore (lv' := [(6, .int 0), (5, .int 0), (3, .double r_6), (0, .ref (ad 0)), (1, .int p1), (2, .int p2)]) hx hb dX4_wouldSpoil_33 hl (by decide) rfl (fun ls hl => ?_)
      have L35 : ∀ (n35 : Nat) (x6_35 : Int32) (x5_35 : Int32), f_X4_wouldSpoil_L35 I D p1 r_6 n35 x6_35 x5_35 = some (.error E0) → ∀ (H : Heap) (locs : List Loc) (ls : Array Slot), va_P (dC, dI) vwCl (iwH ad cy I D) H → va_S A s.heap H locs → lv_has ls 9 [(6, .int x6_35), (5, .int x5_35), (3, .double r_6), (0, .ref (ad 0)), (1, .int p1), (2, .int p2)] → W p l e (headSpec wsX4_wouldSpoil ({ frames := 7, cells := 1, slots := 6, locals := 112 })).room s m ([.ref (ad 0), .int p1, .int p2] : List Value).toArray below meth c H locs 0 0 (vx_MQ below (va_Qi (fun _ (_ : Unit) => False) (fun _ _ => True) A) (vx_X (fun _ : Unit => True) (fun E _ t => E0 = E ∧ va_P (dC, dI) vwCl (iwH ad cy I D) t.heap ∧ va_K (dC, dI) vwCl (tysA cy) t) A) ([.ref (ad 0), .int p1, .int p2] : List Value).toArray s 1 6 A) (F0 m 35 ls []) := by
        intro n35
        induction n35 with
        | zero => intro x6_35 x5_35 hf; exact nomatch hf
        | succ n35 ih35 =>
          intro x6_35 x5_35 hf H locs ls hP hS hl
          unfold f_X4_wouldSpoil_L35 at hf
          refine lv_iload hx hb dX4_wouldSpoil_35 (lv_at hl 0 rfl) ?_
          refine lv_aload_n hx hb dX4_wouldSpoil_37 rfl (lv_at hl 3 rfl) ?_
          refine va_get (D := (dC, dI)) (ci := 5) (v := .int (I 0 7)) (C := RX4) (T := TX4) (N := 14) hx hb hts iX4_wouldSpoil_RX4 hown hK hP 0 heH_0 rfl 7 (by decide) (hts (.fieldLink RX4 44 "OverrunHouse" "batchCount" "I") (List.mem_cons_of_mem _ (List.mem_append_left _ (List.mem_append_left _ (List.mem_append_left _ (List.mem_append_left _ (List.mem_append_left _ (List.mem_append_left _ (List.mem_append_left _ (List.mem_of_getElem? (i := 2) rfl)))))))))) (fun _ h9 => h9) rfl dX4_wouldSpoil_38 ?_
          refine lv_icmp_ge (tgt := 112) hx hb dX4_wouldSpoil_41 (by decide) (fun c_8 => ?_) (fun c_8 => ?_)
          · have hf := it_t hf c_8
            refine lv_iload hx hb dX4_wouldSpoil_112 (lv_at hl 1 rfl) ?_
            exact (er_ne hf).elim
          · have hf := it_f hf c_8
            refine lv_aload_n hx hb dX4_wouldSpoil_44 rfl (lv_at hl 3 rfl) ?_
            refine va_get (D := (dC, dI)) (ci := 5) (v := .ref (ad 3)) (C := RX4) (T := TX4) (N := 14) hx hb hts iX4_wouldSpoil_RX4 hown hK hP 0 heH_0 rfl 2 (by decide) (hts (.fieldLink RX4 23 "OverrunHouse" "batches" "[LOverrunHouse$Batch;") (List.mem_cons_of_mem _ (List.mem_append_left _ (List.mem_append_left _ (List.mem_append_left _ (List.mem_append_left _ (List.mem_append_left _ (List.mem_append_left _ (List.mem_append_left _ (List.mem_of_getElem? (i := 3) rfl)))))))))) (fun _ h9 => h9) rfl dX4_wouldSpoil_45 ?_
            refine lv_iload hx hb dX4_wouldSpoil_48 (lv_at hl 0 rfl) ?_
            obtain ⟨h_9, hf⟩ := ck_out hf
            refine wr_aald (b := 18) (n := 12) hx hb hK hP 3 3 heH_3 rfl (inB_in h_9) dX4_wouldSpoil_50 ?_
            refine va_getN (D := (dC, dI)) (ci := 1) (v := .int (I (18 + (x6_35).toNatClampNeg) 2)) (C := RX0) (T := TX0) (N := 5) hx hb hts iX4_wouldSpoil_RX0 hown hK hP (18 + (x6_35).toNatClampNeg) (heH_Batch (inB_lt h_9)) rfl 2 (by decide) (va_Nw.use (w := .fieldLinkNest "OverrunHouse" 143 "OverrunHouse$Batch" "place" "I" "OverrunHouse") rfl (hN _ (List.mem_of_getElem? (i := 24) rfl))) (fun _ h9 => h9) rfl dX4_wouldSpoil_51 ?_
            refine lv_iload_n hx hb dX4_wouldSpoil_54 rfl (lv_at hl 4 rfl) ?_
            refine lv_icmp_ne (tgt := 106) hx hb dX4_wouldSpoil_55 (by decide) (fun c_10 => ?_) (fun c_10 => ?_)
            · have hf := it_f hf c_10
              refine lv_iinc (v := (x6_35 + 1)) (lv' := [(6, .int (x6_35 + 1)), (5, .int x5_35), (3, .double r_6), (0, .ref (ad 0)), (1, .int p1), (2, .int p2)]) hx hb dX4_wouldSpoil_106 hl (k := 0) rfl rfl (by decide) rfl (fun ls hl => ?_)
              refine lv_goto (tgt := 35) hx hb dX4_wouldSpoil_109 (by decide) ?_
              exact ih35 (x6_35 + 1) x5_35 hf _ _ _ hP hS (lv_sub hl [0, 1, 2, 3, 4, 5] rfl)
            · have hf := it_t hf c_10
              refine lv_aload_n hx hb dX4_wouldSpoil_58 rfl (lv_at hl 3 rfl) ?_
              refine va_get (D := (dC, dI)) (ci := 5) (v := .ref (ad 3)) (C := RX4) (T := TX4) (N := 14) hx hb hts iX4_wouldSpoil_RX4 hown hK hP 0 heH_0 rfl 2 (by decide) (hts (.fieldLink RX4 23 "OverrunHouse" "batches" "[LOverrunHouse$Batch;") (List.mem_cons_of_mem _ (List.mem_append_left _ (List.mem_append_left _ (List.mem_append_left _ (List.mem_append_left _ (List.mem_append_left _ (List.mem_append_left _ (List.mem_append_left _ (List.mem_of_getElem? (i := 3) rfl)))))))))) (fun _ h9 => h9) rfl dX4_wouldSpoil_59 ?_
              refine lv_iload hx hb dX4_wouldSpoil_62 (lv_at hl 0 rfl) ?_
              obtain ⟨h_11, hf⟩ := ck_out hf
              refine wr_aald (b := 18) (n := 12) hx hb hK hP 3 3 heH_3 rfl (inB_in h_11) dX4_wouldSpoil_64 ?_
              obtain ⟨r_12, g_13, hf⟩ := bd_out hf
              refine va_calli (va_runVN (As := []) (rest := []) ⟨hx, hb, hml, hown, hts⟩ (mt_X0_isCoarse l dC dI ad cy hJ H.size I D (x6_35).toNatClampNeg (inB_lt h_11) r_12 g_13) ⟨va_cnB 0 hts gX4_wouldSpoil_X0_isCoarse_n196 rfl rfl rfl (hN (.methodLinkNest "OverrunHouse" 196 ⟨"OverrunHouse$Batch", "isCoarse", "()Z"⟩ "OverrunHouse") (List.mem_of_getElem? (i := 36) rfl)) (hts (.initialized RX0) (List.mem_cons_of_mem _ (List.mem_append_left _ (List.mem_append_left _ (List.mem_append_left _ (List.mem_append_left _ (List.mem_append_left _ (List.mem_append_left _ (List.mem_append_left _ (List.mem_of_getElem? (i := 22) rfl)))))))))) (by decide +kernel) ⟨Nat.le_of_ble_eq_true rfl, Nat.le_of_ble_eq_true rfl⟩, (hts (.instanceMethod yX0_isCoarse) (List.mem_cons_of_mem _ (List.mem_append_left _ (List.mem_append_left _ (List.mem_append_left _ (List.mem_append_left _ (List.mem_append_left _ (List.mem_append_left _ (List.mem_append_left _ (List.mem_of_getElem? (i := 21) rfl)))))))))), (hts (.selects RX0 yX0_isCoarse yX0_isCoarse) (List.mem_cons_of_mem _ (List.mem_append_left _ (List.mem_append_left _ (List.mem_append_left _ (List.mem_append_left _ (List.mem_append_left _ (List.mem_append_left _ (List.mem_append_left _ (List.mem_of_getElem? (i := 23) rfl))))))))))⟩ ⟨(hW.pre [.ref (ad (18 + (x6_35).toNatClampNeg))] hP hK hN).1, hW.recv (C := RX0) (T := TX0) (N := 5) hP hK (heH_Batch (inB_lt h_11)) rfl, (hW.pre [.ref (ad (18 + (x6_35).toNatClampNeg))] hP hK hN).2⟩ rfl rfl hl.1 rfl (lv_room (Nat.le_of_ble_eq_true rfl)) dX4_wouldSpoil_65 ⟨Nat.le_of_ble_eq_true rfl, Nat.le_of_ble_eq_true rfl⟩) hS (fun q _ h => hA q (Nat.le_trans hS.1 h)) (fun q h => hA q (Nat.le_trans hS.1 h)) (fun r9 u t H1 locs ht hvm hw hB hz1 hk1 hS => ?_)
              subst hw
              have hP := va_Pnew hP hk1
              clear hB hz1 hk1 hvm ht
              generalize H1 = H at hP hS ⊢
              refine lv_if_ne (tgt := 106) hx hb dX4_wouldSpoil_68 (by decide) (fun c_14 => ?_) (fun c_14 => ?_)
              · have hf := it_f hf c_14
                refine lv_iinc (v := (x6_35 + 1)) (lv' := [(6, .int (x6_35 + 1)), (5, .int x5_35), (3, .double r_6), (0, .ref (ad 0)), (1, .int p1), (2, .int p2)]) hx hb dX4_wouldSpoil_106 hl (k := 0) rfl rfl (by decide) rfl (fun ls hl => ?_)
                refine lv_goto (tgt := 35) hx hb dX4_wouldSpoil_109 (by decide) ?_
                exact ih35 (x6_35 + 1) x5_35 hf _ _ _ hP hS (lv_sub hl [0, 1, 2, 3, 4, 5] rfl)
              · have hf := it_t hf c_14
                refine lv_aload_n hx hb dX4_wouldSpoil_71 rfl (lv_at hl 3 rfl) ?_
                refine lv_aload_n hx hb dX4_wouldSpoil_72 rfl (lv_at hl 3 rfl) ?_
                refine va_get (D := (dC, dI)) (ci := 5) (v := .ref (ad 3)) (C := RX4) (T := TX4) (N := 14) hx hb hts iX4_wouldSpoil_RX4 hown hK hP 0 heH_0 rfl 2 (by decide) (hts (.fieldLink RX4 23 "OverrunHouse" "batches" "[LOverrunHouse$Batch;") (List.mem_cons_of_mem _ (List.mem_append_left _ (List.mem_append_left _ (List.mem_append_left _ (List.mem_append_left _ (List.mem_append_left _ (List.mem_append_left _ (List.mem_append_left _ (List.mem_of_getElem? (i := 3) rfl)))))))))) (fun _ h9 => h9) rfl dX4_wouldSpoil_73 ?_
                refine lv_iload hx hb dX4_wouldSpoil_76 (lv_at hl 0 rfl) ?_
                obtain ⟨h_15, hf⟩ := ck_out hf
                refine wr_aald (b := 18) (n := 12) hx hb hK hP 3 3 heH_3 rfl (inB_in h_15) dX4_wouldSpoil_78 ?_
                refine lv_dload_n hx hb dX4_wouldSpoil_79 rfl (lv_at hl 2 rfl) ?_
                refine lv_bipush (v := 24) hx hb dX4_wouldSpoil_80 (by decide) ?_
                obtain ⟨r_16, g_17, hf⟩ := bd_out hf
                refine va_calld (va_runV (As := [.ref (ad (18 + (x6_35).toNatClampNeg)), .double r_6, .int 24]) (rest := []) ⟨hx, hb, hml, hown, hts⟩ (mt_X4_crystalLater l dC dI ad cy hJ H.size I D (x6_35).toNatClampNeg (inB_lt h_15) r_6 24 r_16 g_17) (cwV 3 hts gX4_wouldSpoil_X4_crystalLater rfl rfl rfl (by decide +kernel) ⟨Nat.le_of_ble_eq_true rfl, Nat.le_of_ble_eq_true rfl⟩) ⟨(hW.pre [.ref (ad 0), .ref (ad (18 + (x6_35).toNatClampNeg)), .double r_6, .int 24] hP hK hN).1, hW.recv (C := RX4) (T := TX4) (N := 14) hP hK heH_0 rfl, (hW.pre [.ref (ad 0), .ref (ad (18 + (x6_35).toNatClampNeg)), .double r_6, .int 24] hP hK hN).2⟩ rfl rfl hl.1 rfl (lv_room (Nat.le_of_ble_eq_true rfl)) dX4_wouldSpoil_82 ⟨Nat.le_of_ble_eq_true rfl, Nat.le_of_ble_eq_true rfl⟩) hS (fun q _ h => hA q (Nat.le_trans hS.1 h)) (fun q h => hA q (Nat.le_trans hS.1 h)) (fun r9 u t H1 locs ht hvm hw hB hz1 hk1 hS => ?_)
                subst hw
                have hP := va_Pnew hP hk1
                clear hB hz1 hk1 hvm ht
                generalize H1 = H at hP hS ⊢
                refine lv_dstore (lv' := [(7, .double r_16), (6, .int x6_35), (5, .int x5_35), (3, .double r_6), (0, .ref (ad 0)), (1, .int p1), (2, .int p2)]) hx hb dX4_wouldSpoil_85 hl (by decide) rfl (fun ls hl => ?_)
                refine lv_dload hx hb dX4_wouldSpoil_87 (lv_at hl 0 rfl) ?_
                refine lv_dconst0 hx hb dX4_wouldSpoil_89 ?_
                refine lv_dcmp hx hb dX4_wouldSpoil_90 ?_
                refine lv_if_lt (tgt := 103) hx hb dX4_wouldSpoil_91 (by decide) (fun c_18 => ?_) (fun c_18 => ?_)
                · have hf := it_t hf c_18
                  refine lv_iinc (v := (x5_35 + 1)) (lv' := [(5, .int (x5_35 + 1)), (7, .double r_16), (6, .int x6_35), (3, .double r_6), (0, .ref (ad 0)), (1, .int p1), (2, .int p2)]) hx hb dX4_wouldSpoil_103 hl (k := 2) rfl rfl (by decide) rfl (fun ls hl => ?_)
                  refine lv_iinc (v := (x6_35 + 1)) (lv' := [(6, .int (x6_35 + 1)), (5, .int (x5_35 + 1)), (7, .double r_16), (3, .double r_6), (0, .ref (ad 0)), (1, .int p1), (2, .int p2)]) hx hb dX4_wouldSpoil_106 hl (k := 2) rfl rfl (by decide) rfl (fun ls hl => ?_)
                  refine lv_goto (tgt := 35) hx hb dX4_wouldSpoil_109 (by decide) ?_
                  exact ih35 (x6_35 + 1) (x5_35 + 1) hf _ _ _ hP hS (lv_sub hl [0, 1, 3, 4, 5, 6] rfl)
                · have hf := it_f hf c_18
                  refine lv_dload hx hb dX4_wouldSpoil_94 (lv_at hl 0 rfl) ?_
                  refine lv_ldc2d (v := 4632233691727265792) hx hb hown (hts (.constantDouble RX4 264 (4632233691727265792)) (List.mem_cons_of_mem _ (List.mem_append_left _ (List.mem_append_left _ (List.mem_append_left _ (List.mem_append_left _ (List.mem_append_left _ (List.mem_append_left _ (List.mem_append_left _ (List.mem_of_getElem? (i := 4) rfl)))))))))) dX4_wouldSpoil_96 ?_
                  refine lv_dcmp hx hb dX4_wouldSpoil_99 ?_
                  refine lv_if_le (tgt := 106) hx hb dX4_wouldSpoil_100 (by decide) (fun c_19 => ?_) (fun c_19 => ?_)
                  · have hf := it_t hf c_19
                    refine lv_iinc (v := (x6_35 + 1)) (lv' := [(6, .int (x6_35 + 1)), (7, .double r_16), (5, .int x5_35), (3, .double r_6), (0, .ref (ad 0)), (1, .int p1), (2, .int p2)]) hx hb dX4_wouldSpoil_106 hl (k := 1) rfl rfl (by decide) rfl (fun ls hl => ?_)
                    refine lv_goto (tgt := 35) hx hb dX4_wouldSpoil_109 (by decide) ?_
                    exact ih35 (x6_35 + 1) x5_35 hf _ _ _ hP hS (lv_sub hl [0, 2, 3, 4, 5, 6] rfl)
                  · have hf := it_f hf c_19
                    refine lv_iinc (v := (x5_35 + 1)) (lv' := [(5, .int (x5_35 + 1)), (7, .double r_16), (6, .int x6_35), (3, .double r_6), (0, .ref (ad 0)), (1, .int p1), (2, .int p2)]) hx hb dX4_wouldSpoil_103 hl (k := 2) rfl rfl (by decide) rfl (fun ls hl => ?_)
                    refine lv_iinc (v := (x6_35 + 1)) (lv' := [(6, .int (x6_35 + 1)), (5, .int (x5_35 + 1)), (7, .double r_16), (3, .double r_6), (0, .ref (ad 0)), (1, .int p1), (2, .int p2)]) hx hb dX4_wouldSpoil_106 hl (k := 2) rfl rfl (by decide) rfl (fun ls hl => ?_)
                    refine lv_goto (tgt := 35) hx hb dX4_wouldSpoil_109 (by decide) ?_
                    exact ih35 (x6_35 + 1) (x5_35 + 1) hf _ _ _ hP hS (lv_sub hl [0, 1, 3, 4, 5, 6] rfl)
      exact L35 200 0 0 hf _ _ _ hP hS (lv_sub hl [0, 1, 2, 3, 4, 5] rfl)
