def f_J3_checkIndex_8e157 (p0 : Int32) (p1 : Int32) : Option (Int32) :=
  (if p0 < 0 then none else (if p0 < p1 then some p0 else none))
set_option maxHeartbeats 4000000 in
set_option maxRecDepth 100000 in
theorem mt_J3_checkIndex_8e157 (l : Launch) (sz : Nat) (p0 : Int32) (p1 : Int32) (rr : Int32) (hf : f_J3_checkIndex_8e157 p0 p1 = some rr) : Met l yJ3_checkIndex_8e157 wsJ3_checkIndex_8e157 ({ frames := 1, cells := 0, slots := 0, locals := 70 }) (va_Pc [.int p0, .int p1, .null] (fun U => U.heap.size = sz)) (va_Qi (fun r (_ : Unit) => rr = r) (fun _ _ => True) (fun q => sz ≤ q)) 0 0 (fun q => sz ≤ q) := by
  refine Met.ofW (cc := cJ3_checkIndex_8e157) (maxL := 3) (ret := (some .int)) (by decide) rfl ?_
  intro p e s m args below meth c s₁ B hml hv
  obtain ⟨rfl, hsz⟩ := hv
  have hx := B.exec
  have hb := B.bytes
  have hr := B.returns
  have hts := atoms_spec (ws := wsJ3_checkIndex_8e157) B.pre
  have hown : s.vm.findClass RJ3 = some m.cls := findClass_of_methodNamed B.named
  have hlocks := B.notSynchronized
  subst hsz
  generalize hAe : (fun q : Nat => s.heap.size ≤ q) = A
  have hA : ∀ q : Nat, s.heap.size ≤ q → A q := fun q h => by rw [← hAe]; exact h
  obtain ⟨H, hH⟩ : ∃ H : Heap, H = s.heap := ⟨_, rfl⟩
  have hS : va_S A s.heap H [] := by rw [hH]; exact va_S.rf
  rw [← hH]
  have hl := lv_entry ([.int p0, .int p1, .null]) (n := 3) (Nat.le_of_ble_eq_true rfl)
  rw [lg_entry_eq]
  generalize (lg_sl ([.int p0, .int p1, .null]) ++ List.replicate (3 - (lg_sl ([.int p0, .int p1, .null])).length) Slot.unset).toArray = ls at hl ⊢
  have hl : lv_has ls 3 [(0, .int p0), (1, .int p1), (2, .null)] := hl
  unfold f_J3_checkIndex_8e157 at hf
  refine lv_iload_n hx hb dJ3_checkIndex_8e157_0 rfl (lv_at hl 0 rfl) ?_
  refine lv_if_lt (tgt := 9) hx hb dJ3_checkIndex_8e157_1 (by decide) (fun c_1 => ?_) (fun c_1 => ?_)
  · have hf := it_t hf c_1
    exact nomatch hf
  · have hf := it_f hf c_1
    refine lv_iload_n hx hb dJ3_checkIndex_8e157_4 rfl (lv_at hl 0 rfl) ?_
    refine lv_iload_n hx hb dJ3_checkIndex_8e157_5 rfl (lv_at hl 1 rfl) ?_
    refine lv_icmp_lt (tgt := 16) hx hb dJ3_checkIndex_8e157_6 (by decide) (fun c_2 => ?_) (fun c_2 => ?_)
    · have hf := it_t hf c_2
      refine lv_iload_n hx hb dJ3_checkIndex_8e157_16 rfl (lv_at hl 0 rfl) ?_
      have hf := Option.some.inj hf
      have q1 := hf
      exact W.iret (v := p0) hx hb hr (fun t ht hW9 => ⟨⟨p0, (), rfl, q1.symm, trivial⟩, hS.F ht⟩) hS.2.2 dJ3_checkIndex_8e157_17
    · have hf := it_f hf c_2
      exact nomatch hf

def f_J15_checkIndex_7cf53 (p0 : Int32) (p1 : Int32) : Option (Int32) :=
  bd (f_J3_checkIndex_8e157 p0 p1) (fun r_1 => some r_1)
set_option maxHeartbeats 4000000 in
set_option maxRecDepth 100000 in
theorem mt_J15_checkIndex_7cf53 (l : Launch) (sz : Nat) (p0 : Int32) (p1 : Int32) (rr : Int32) (hf : f_J15_checkIndex_7cf53 p0 p1 = some rr) : Met l yJ15_checkIndex_7cf53 wsJ15_checkIndex_7cf53 ({ frames := 2, cells := 0, slots := 0, locals := 92 }) (va_Pc [.int p0, .int p1] (fun U => U.heap.size = sz)) (va_Qi (fun r (_ : Unit) => rr = r) (fun _ _ => True) (fun q => sz ≤ q)) 0 0 (fun q => sz ≤ q) := by
  refine Met.ofW (cc := cJ15_checkIndex_7cf53) (maxL := 2) (ret := (some .int)) (by decide) rfl ?_
  intro p e s m args below meth c s₁ B hml hv
  obtain ⟨rfl, hsz⟩ := hv
  have hx := B.exec
  have hb := B.bytes
  have hr := B.returns
  have hts := atoms_spec (ws := wsJ15_checkIndex_7cf53) B.pre
  have hown : s.vm.findClass RJ15 = some m.cls := findClass_of_methodNamed B.named
  have hlocks := B.notSynchronized
  subst hsz
  generalize hAe : (fun q : Nat => s.heap.size ≤ q) = A
  have hA : ∀ q : Nat, s.heap.size ≤ q → A q := fun q h => by rw [← hAe]; exact h
  obtain ⟨H, hH⟩ : ∃ H : Heap, H = s.heap := ⟨_, rfl⟩
  have hS : va_S A s.heap H [] := by rw [hH]; exact va_S.rf
  rw [← hH]
  have hl := lv_entry ([.int p0, .int p1]) (n := 2) (Nat.le_of_ble_eq_true rfl)
  rw [lg_entry_eq]
  generalize (lg_sl ([.int p0, .int p1]) ++ List.replicate (2 - (lg_sl ([.int p0, .int p1])).length) Slot.unset).toArray = ls at hl ⊢
  have hl : lv_has ls 2 [(0, .int p0), (1, .int p1)] := hl
  unfold f_J15_checkIndex_7cf53 at hf
  refine lv_iload_n hx hb dJ15_checkIndex_7cf53_0 rfl (lv_at hl 0 rfl) ?_
  refine lv_iload_n hx hb dJ15_checkIndex_7cf53_1 rfl (lv_at hl 1 rfl) ?_
  refine lv_null hx hb dJ15_checkIndex_7cf53_2 ?_
  obtain ⟨r_1, g_2, hf⟩ := bd_out hf
  refine va_calli (va_runS (As := [.int p0, .int p1, .null]) (rest := []) ⟨hx, hb, hml, hown, hts⟩ (mt_J3_checkIndex_8e157 l H.size p0 p1 r_1 g_2) (va_cwS 3 hts gJ15_checkIndex_7cf53_J3_checkIndex_8e157 rfl rfl rfl (by decide +kernel) ⟨Nat.le_of_ble_eq_true rfl, Nat.le_of_ble_eq_true rfl⟩) (pre0 [.int p0, .int p1, .null]) rfl rfl hl.1 rfl (lv_room (Nat.le_of_ble_eq_true rfl)) dJ15_checkIndex_7cf53_3 ⟨Nat.le_of_ble_eq_true rfl, Nat.le_of_ble_eq_true rfl⟩) hS (fun q _ h => hA q (Nat.le_trans hS.1 h)) (fun q h => hA q (Nat.le_trans hS.1 h)) (fun r9 u t H1 locs ht hvm hw hB hz1 hk1 hS => ?_)
  subst hw
  clear hz1 hk1 hvm ht hB
  generalize H1 = H at hS ⊢
  have hf := Option.some.inj hf
  have q1 := hf
  exact W.iret (v := r_1) hx hb hr (fun t ht hW9 => ⟨⟨r_1, (), rfl, q1.symm, trivial⟩, hS.F ht⟩) hS.2.2 dJ15_checkIndex_7cf53_6

def f_size1 (a b : Nat) (I : Nat → Nat → Int32) (D : Nat → Nat → UInt64) : Option (Int32) :=
  some (I 1 2)
theorem isize1_RJx4a65c : ∀ w ∈ u_ws RJx4a65c TJx4a65c 3, w ∈ wsJx4a65c_size_8abf5 := fun w h => List.mem_cons_of_mem _ (List.mem_append_right _ (h))
set_option maxHeartbeats 4000000 in
set_option maxRecDepth 100000 in
theorem mt_size1 (l : Launch) (dC : Nat → ClassId) (dI : Nat → Nat → Nat) (L : List Nat) (a b : Nat) (ad : Nat → Nat) (cy : Nat → ClassId) (hM : mOK L a b ad) (sz : Nat) (I : Nat → Nat → Int32) (D : Nat → Nat → UInt64) (rr : Int32) (hf : f_size1 a b I D = some rr) : Met l yJx4a65c_size_8abf5 wsJx4a65c_size_8abf5 ({ frames := 0, cells := 0, slots := 0, locals := 0 }) (va_Pc [.ref (ad 1)] (fun U => U.heap.size = sz ∧ wM dC dI L a b ad cy I D U)) (va_Qi (fun r (_ : Unit) => rr = r) (fun _ _ => True) (fun q => sz ≤ q)) 0 0 (fun q => sz ≤ q) := by
  refine Met.ofW (cc := cJx4a65c_size_8abf5) (maxL := 1) (ret := (some .int)) (by decide) rfl ?_
  intro p e s m args below meth c s₁ B hml hv
  obtain ⟨rfl, hsz, hP, hK, hN⟩ := hv
  have hx := B.exec
  have hb := B.bytes
  have hr := B.returns
  have hts := atoms_spec (ws := wsJx4a65c_size_8abf5) B.pre
  have hown : s.vm.findClass RJx4a65c = some m.cls := findClass_of_methodNamed B.named
  have hlocks := B.notSynchronized
  subst hsz
  generalize hAe : (fun q : Nat => s.heap.size ≤ q) = A
  have hA : ∀ q : Nat, s.heap.size ≤ q → A q := fun q h => by rw [← hAe]; exact h
  obtain ⟨H, hH⟩ : ∃ H : Heap, H = s.heap := ⟨_, rfl⟩
  have hS : va_S A s.heap H [] := by rw [hH]; exact va_S.rf
  rw [← hH]
  rw [← hH] at hP
  have hl := lv_entry ([.ref (ad 1)]) (n := 1) (Nat.le_of_ble_eq_true rfl)
  rw [lg_entry_eq]
  generalize (lg_sl ([.ref (ad 1)]) ++ List.replicate (1 - (lg_sl ([.ref (ad 1)])).length) Slot.unset).toArray = ls at hl ⊢
  have hl : lv_has ls 1 [(0, .ref (ad 1))] := hl
  unfold f_size1 at hf
  refine lv_aload_n hx hb dJx4a65c_size_8abf5_0 rfl (lv_at hl 0 rfl) ?_
  obtain ⟨q_1, wq_1, heq_1⟩ := heM_1 (cy := cy) (I := I) (D := D) hM
  refine va_get (D := (dC, dI)) (ci := 0) (v := .int (I 1 2)) (C := RJx4a65c) (T := TJx4a65c) (N := 3) hx hb hts isize1_RJx4a65c hown hK hP q_1 heq_1 rfl 2 (by decide) (hts (.fieldLink RJx4a65c 48 "java/util/ArrayList" "size" "I") (List.mem_cons_of_mem _ (List.mem_append_left _ (List.mem_of_getElem? (i := 0) rfl)))) (fun _ h9 => h9) rfl dJx4a65c_size_8abf5_1 ?_
  have hf := Option.some.inj hf
  have q1 := hf
  exact W.iret (v := (I 1 2)) hx hb hr (fun t ht hW9 => ⟨⟨(I 1 2), (), rfl, q1.symm, trivial⟩, hS.F ht⟩) hS.2.2 dJx4a65c_size_8abf5_4

def f_size2 (a b : Nat) (I : Nat → Nat → Int32) (D : Nat → Nat → UInt64) : Option (Int32) :=
  some (I 2 2)
theorem isize2_RJx4a65c : ∀ w ∈ u_ws RJx4a65c TJx4a65c 3, w ∈ wsJx4a65c_size_8abf5 := fun w h => List.mem_cons_of_mem _ (List.mem_append_right _ (h))
set_option maxHeartbeats 4000000 in
set_option maxRecDepth 100000 in
theorem mt_size2 (l : Launch) (dC : Nat → ClassId) (dI : Nat → Nat → Nat) (L : List Nat) (a b : Nat) (ad : Nat → Nat) (cy : Nat → ClassId) (hM : mOK L a b ad) (sz : Nat) (I : Nat → Nat → Int32) (D : Nat → Nat → UInt64) (rr : Int32) (hf : f_size2 a b I D = some rr) : Met l yJx4a65c_size_8abf5 wsJx4a65c_size_8abf5 ({ frames := 0, cells := 0, slots := 0, locals := 0 }) (va_Pc [.ref (ad 2)] (fun U => U.heap.size = sz ∧ wM dC dI L a b ad cy I D U)) (va_Qi (fun r (_ : Unit) => rr = r) (fun _ _ => True) (fun q => sz ≤ q)) 0 0 (fun q => sz ≤ q) := by
  refine Met.ofW (cc := cJx4a65c_size_8abf5) (maxL := 1) (ret := (some .int)) (by decide) rfl ?_
  intro p e s m args below meth c s₁ B hml hv
  obtain ⟨rfl, hsz, hP, hK, hN⟩ := hv
  have hx := B.exec
  have hb := B.bytes
  have hr := B.returns
  have hts := atoms_spec (ws := wsJx4a65c_size_8abf5) B.pre
  have hown : s.vm.findClass RJx4a65c = some m.cls := findClass_of_methodNamed B.named
  have hlocks := B.notSynchronized
  subst hsz
  generalize hAe : (fun q : Nat => s.heap.size ≤ q) = A
  have hA : ∀ q : Nat, s.heap.size ≤ q → A q := fun q h => by rw [← hAe]; exact h
  obtain ⟨H, hH⟩ : ∃ H : Heap, H = s.heap := ⟨_, rfl⟩
  have hS : va_S A s.heap H [] := by rw [hH]; exact va_S.rf
  rw [← hH]
  rw [← hH] at hP
  have hl := lv_entry ([.ref (ad 2)]) (n := 1) (Nat.le_of_ble_eq_true rfl)
  rw [lg_entry_eq]
  generalize (lg_sl ([.ref (ad 2)]) ++ List.replicate (1 - (lg_sl ([.ref (ad 2)])).length) Slot.unset).toArray = ls at hl ⊢
  have hl : lv_has ls 1 [(0, .ref (ad 2))] := hl
  unfold f_size2 at hf
  refine lv_aload_n hx hb dJx4a65c_size_8abf5_0 rfl (lv_at hl 0 rfl) ?_
  obtain ⟨q_1, wq_1, heq_1⟩ := heM_2 (cy := cy) (I := I) (D := D) hM
  refine va_get (D := (dC, dI)) (ci := 0) (v := .int (I 2 2)) (C := RJx4a65c) (T := TJx4a65c) (N := 3) hx hb hts isize2_RJx4a65c hown hK hP q_1 heq_1 rfl 2 (by decide) (hts (.fieldLink RJx4a65c 48 "java/util/ArrayList" "size" "I") (List.mem_cons_of_mem _ (List.mem_append_left _ (List.mem_of_getElem? (i := 0) rfl)))) (fun _ h9 => h9) rfl dJx4a65c_size_8abf5_1 ?_
  have hf := Option.some.inj hf
  have q1 := hf
  exact W.iret (v := (I 2 2)) hx hb hr (fun t ht hW9 => ⟨⟨(I 2 2), (), rfl, q1.symm, trivial⟩, hS.F ht⟩) hS.2.2 dJx4a65c_size_8abf5_4

def f_elementData1 (a b : Nat) (I : Nat → Nat → Int32) (D : Nat → Nat → UInt64) (p1 : Int32) : Option (Nat) :=
  ck (decide (¬ I 1 1 = 0)) (ck (inB p1 10) (ck (decide ((p1).toNatClampNeg < a)) (some (p1).toNatClampNeg)))
theorem ielementData1_RJx4a65c : ∀ w ∈ u_ws RJx4a65c TJx4a65c 3, w ∈ wsJx4a65c_elementData_915e3 := fun w h => List.mem_cons_of_mem _ (List.mem_append_right _ (h))
set_option maxHeartbeats 4000000 in
set_option maxRecDepth 100000 in
theorem mt_elementData1 (l : Launch) (dC : Nat → ClassId) (dI : Nat → Nat → Nat) (L : List Nat) (a b : Nat) (ad : Nat → Nat) (cy : Nat → ClassId) (hM : mOK L a b ad) (sz : Nat) (I : Nat → Nat → Int32) (D : Nat → Nat → UInt64) (p1 : Int32) (rr : Nat) (hf : f_elementData1 a b I D p1 = some rr) : Met l yJx4a65c_elementData_915e3 wsJx4a65c_elementData_915e3 ({ frames := 0, cells := 0, slots := 0, locals := 0 }) (va_Pc [.ref (ad 1), .int p1] (fun U => U.heap.size = sz ∧ wM dC dI L a b ad cy I D U)) (va_Qr (fun (_ : Unit) => True) (fun _ r t => r = ad (14 + rr)) (fun q => sz ≤ q)) 0 0 (fun q => sz ≤ q) := by
  refine Met.ofW (cc := cJx4a65c_elementData_915e3) (maxL := 2) (ret := (some (.object "java/lang/Object"))) (by decide) rfl ?_
  intro p e s m args below meth c s₁ B hml hv
  obtain ⟨rfl, hsz, hP, hK, hN⟩ := hv
  have hx := B.exec
  have hb := B.bytes
  have hr := B.returns
  have hts := atoms_spec (ws := wsJx4a65c_elementData_915e3) B.pre
  have hown : s.vm.findClass RJx4a65c = some m.cls := findClass_of_methodNamed B.named
  have hlocks := B.notSynchronized
  subst hsz
  generalize hAe : (fun q : Nat => s.heap.size ≤ q) = A
  have hA : ∀ q : Nat, s.heap.size ≤ q → A q := fun q h => by rw [← hAe]; exact h
  obtain ⟨H, hH⟩ : ∃ H : Heap, H = s.heap := ⟨_, rfl⟩
  have hS : va_S A s.heap H [] := by rw [hH]; exact va_S.rf
  rw [← hH]
  rw [← hH] at hP
  have hl := lv_entry ([.ref (ad 1), .int p1]) (n := 2) (Nat.le_of_ble_eq_true rfl)
  rw [lg_entry_eq]
  generalize (lg_sl ([.ref (ad 1), .int p1]) ++ List.replicate (2 - (lg_sl ([.ref (ad 1), .int p1])).length) Slot.unset).toArray = ls at hl ⊢
  have hl : lv_has ls 2 [(0, .ref (ad 1)), (1, .int p1)] := hl
  unfold f_elementData1 at hf
  refine lv_aload_n hx hb dJx4a65c_elementData_915e3_0 rfl (lv_at hl 0 rfl) ?_
  obtain ⟨q_1, wq_1, heq_1⟩ := heM_1 (cy := cy) (I := I) (D := D) hM
  obtain ⟨h_2, hf⟩ := ck_out hf
  refine va_get (D := (dC, dI)) (ci := 0) (v := .ref (ad (if I 1 1 = 0 then 41 else 3))) (C := RJx4a65c) (T := TJx4a65c) (N := 3) hx hb hts ielementData1_RJx4a65c hown hK hP q_1 heq_1 rfl 1 (by decide) (hts (.fieldLink RJx4a65c 9 "java/util/ArrayList" "elementData" "[Ljava/lang/Object;") (List.mem_cons_of_mem _ (List.mem_append_left _ (List.mem_of_getElem? (i := 0) rfl)))) (fun _ h9 => h9) rfl dJx4a65c_elementData_915e3_1 ?_
  rw [if_neg (of_decide_eq_true h_2)]
  refine lv_iload_n hx hb dJx4a65c_elementData_915e3_4 rfl (lv_at hl 1 rfl) ?_
  obtain ⟨h_3, hf⟩ := ck_out hf
  obtain ⟨h_4, hf⟩ := ck_out hf
  obtain ⟨q_5, wq_5, heq_5⟩ := heM_3 (cy := cy) (I := I) (D := D) hM (of_decide_eq_true h_4)
  refine wr_aaldM (bs := 14) (a := a) (n := 10) hx hb hK hP q_5 7 heq_5 rfl (inB_in h_3) (of_decide_eq_true h_4) dJx4a65c_elementData_915e3_5 ?_
  have hf := Option.some.inj hf
  exact W.aret (v := .ref (ad (14 + (p1).toNatClampNeg))) (rt := .object "java/lang/Object") hx hb hr (Or.inl ⟨_, rfl⟩) (Or.inr ⟨_, rfl⟩) (fun t ht hW9 => ⟨⟨(), ad (14 + (p1).toNatClampNeg), rfl, trivial, by rw [hf]⟩, hS.F ht⟩) hS.2.2 dJx4a65c_elementData_915e3_6
theorem f_elementData1_lt {a b : Nat} {I : Nat → Nat → Int32} {D : Nat → Nat → UInt64} {p1 : Int32} {e : Nat} (h : f_elementData1 a b I D p1 = some e) : e < a := by
  unfold f_elementData1 at h
  obtain ⟨_, h⟩ := ck_out h
  obtain ⟨_, h⟩ := ck_out h
  obtain ⟨h2, h⟩ := ck_out h
  cases h
  exact of_decide_eq_true h2

def f_elementData2 (a b : Nat) (I : Nat → Nat → Int32) (D : Nat → Nat → UInt64) (p1 : Int32) : Option (Nat) :=
  ck (decide (¬ I 2 1 = 0)) (ck (inB p1 10) (ck (decide ((p1).toNatClampNeg < b)) (some (p1).toNatClampNeg)))
theorem ielementData2_RJx4a65c : ∀ w ∈ u_ws RJx4a65c TJx4a65c 3, w ∈ wsJx4a65c_elementData_915e3 := fun w h => List.mem_cons_of_mem _ (List.mem_append_right _ (h))
set_option maxHeartbeats 4000000 in
set_option maxRecDepth 100000 in
theorem mt_elementData2 (l : Launch) (dC : Nat → ClassId) (dI : Nat → Nat → Nat) (L : List Nat) (a b : Nat) (ad : Nat → Nat) (cy : Nat → ClassId) (hM : mOK L a b ad) (sz : Nat) (I : Nat → Nat → Int32) (D : Nat → Nat → UInt64) (p1 : Int32) (rr : Nat) (hf : f_elementData2 a b I D p1 = some rr) : Met l yJx4a65c_elementData_915e3 wsJx4a65c_elementData_915e3 ({ frames := 0, cells := 0, slots := 0, locals := 0 }) (va_Pc [.ref (ad 2), .int p1] (fun U => U.heap.size = sz ∧ wM dC dI L a b ad cy I D U)) (va_Qr (fun (_ : Unit) => True) (fun _ r t => r = ad (20 + rr)) (fun q => sz ≤ q)) 0 0 (fun q => sz ≤ q) := by
  refine Met.ofW (cc := cJx4a65c_elementData_915e3) (maxL := 2) (ret := (some (.object "java/lang/Object"))) (by decide) rfl ?_
  intro p e s m args below meth c s₁ B hml hv
  obtain ⟨rfl, hsz, hP, hK, hN⟩ := hv
  have hx := B.exec
  have hb := B.bytes
  have hr := B.returns
  have hts := atoms_spec (ws := wsJx4a65c_elementData_915e3) B.pre
  have hown : s.vm.findClass RJx4a65c = some m.cls := findClass_of_methodNamed B.named
  have hlocks := B.notSynchronized
  subst hsz
  generalize hAe : (fun q : Nat => s.heap.size ≤ q) = A
  have hA : ∀ q : Nat, s.heap.size ≤ q → A q := fun q h => by rw [← hAe]; exact h
  obtain ⟨H, hH⟩ : ∃ H : Heap, H = s.heap := ⟨_, rfl⟩
  have hS : va_S A s.heap H [] := by rw [hH]; exact va_S.rf
  rw [← hH]
  rw [← hH] at hP
  have hl := lv_entry ([.ref (ad 2), .int p1]) (n := 2) (Nat.le_of_ble_eq_true rfl)
  rw [lg_entry_eq]
  generalize (lg_sl ([.ref (ad 2), .int p1]) ++ List.replicate (2 - (lg_sl ([.ref (ad 2), .int p1])).length) Slot.unset).toArray = ls at hl ⊢
  have hl : lv_has ls 2 [(0, .ref (ad 2)), (1, .int p1)] := hl
  unfold f_elementData2 at hf
  refine lv_aload_n hx hb dJx4a65c_elementData_915e3_0 rfl (lv_at hl 0 rfl) ?_
  obtain ⟨q_1, wq_1, heq_1⟩ := heM_2 (cy := cy) (I := I) (D := D) hM
  obtain ⟨h_2, hf⟩ := ck_out hf
  refine va_get (D := (dC, dI)) (ci := 0) (v := .ref (ad (if I 2 1 = 0 then 41 else 4))) (C := RJx4a65c) (T := TJx4a65c) (N := 3) hx hb hts ielementData2_RJx4a65c hown hK hP q_1 heq_1 rfl 1 (by decide) (hts (.fieldLink RJx4a65c 9 "java/util/ArrayList" "elementData" "[Ljava/lang/Object;") (List.mem_cons_of_mem _ (List.mem_append_left _ (List.mem_of_getElem? (i := 0) rfl)))) (fun _ h9 => h9) rfl dJx4a65c_elementData_915e3_1 ?_
  rw [if_neg (of_decide_eq_true h_2)]
  refine lv_iload_n hx hb dJx4a65c_elementData_915e3_4 rfl (lv_at hl 1 rfl) ?_
  obtain ⟨h_3, hf⟩ := ck_out hf
  obtain ⟨h_4, hf⟩ := ck_out hf
  obtain ⟨q_5, wq_5, heq_5⟩ := heM_4 (cy := cy) (I := I) (D := D) hM (of_decide_eq_true h_4)
  refine wr_aaldM (bs := 20) (a := b) (n := 10) hx hb hK hP q_5 7 heq_5 rfl (inB_in h_3) (of_decide_eq_true h_4) dJx4a65c_elementData_915e3_5 ?_
  have hf := Option.some.inj hf
  exact W.aret (v := .ref (ad (20 + (p1).toNatClampNeg))) (rt := .object "java/lang/Object") hx hb hr (Or.inl ⟨_, rfl⟩) (Or.inr ⟨_, rfl⟩) (fun t ht hW9 => ⟨⟨(), ad (20 + (p1).toNatClampNeg), rfl, trivial, by rw [hf]⟩, hS.F ht⟩) hS.2.2 dJx4a65c_elementData_915e3_6
theorem f_elementData2_lt {a b : Nat} {I : Nat → Nat → Int32} {D : Nat → Nat → UInt64} {p1 : Int32} {e : Nat} (h : f_elementData2 a b I D p1 = some e) : e < b := by
  unfold f_elementData2 at h
  obtain ⟨_, h⟩ := ck_out h
  obtain ⟨_, h⟩ := ck_out h
  obtain ⟨h2, h⟩ := ck_out h
  cases h
  exact of_decide_eq_true h2

def f_get1 (a b : Nat) (I : Nat → Nat → Int32) (D : Nat → Nat → UInt64) (p1 : Int32) : Option (Nat) :=
  bd (f_J15_checkIndex_7cf53 p1 (I 1 2)) (fun r_2 => bd (f_elementData1 a b I D p1) (fun r_4 => some r_4))
theorem iget1_RJx4a65c : ∀ w ∈ u_ws RJx4a65c TJx4a65c 3, w ∈ wsJx4a65c_get_915e3 := fun w h => List.mem_cons_of_mem _ (List.mem_append_right _ (h))
set_option maxHeartbeats 4000000 in
set_option maxRecDepth 100000 in
theorem mt_get1 (l : Launch) (dC : Nat → ClassId) (dI : Nat → Nat → Nat) (L : List Nat) (a b : Nat) (ad : Nat → Nat) (cy : Nat → ClassId) (hM : mOK L a b ad) (sz : Nat) (I : Nat → Nat → Int32) (D : Nat → Nat → UInt64) (p1 : Int32) (rr : Nat) (hf : f_get1 a b I D p1 = some rr) : Met l yJx4a65c_get_915e3 wsJx4a65c_get_915e3 ({ frames := 3, cells := 0, slots := 0, locals := 113 }) (va_Pc [.ref (ad 1), .int p1] (fun U => U.heap.size = sz ∧ wM dC dI L a b ad cy I D U)) (va_Qr (fun (_ : Unit) => True) (fun _ r t => r = ad (14 + rr)) (fun q => sz ≤ q)) 0 0 (fun q => sz ≤ q) := by
  refine Met.ofW (cc := cJx4a65c_get_915e3) (maxL := 2) (ret := (some (.object "java/lang/Object"))) (by decide) rfl ?_
  intro p e s m args below meth c s₁ B hml hv
  obtain ⟨rfl, hsz, hP, hK, hN⟩ := hv
  have hx := B.exec
  have hb := B.bytes
  have hr := B.returns
  have hts := atoms_spec (ws := wsJx4a65c_get_915e3) B.pre
  have hown : s.vm.findClass RJx4a65c = some m.cls := findClass_of_methodNamed B.named
  have hlocks := B.notSynchronized
  subst hsz
  generalize hAe : (fun q : Nat => s.heap.size ≤ q) = A
  have hA : ∀ q : Nat, s.heap.size ≤ q → A q := fun q h => by rw [← hAe]; exact h
  obtain ⟨H, hH⟩ : ∃ H : Heap, H = s.heap := ⟨_, rfl⟩
  have hS : va_S A s.heap H [] := by rw [hH]; exact va_S.rf
  rw [← hH]
  rw [← hH] at hP
  have hl := lv_entry ([.ref (ad 1), .int p1]) (n := 2) (Nat.le_of_ble_eq_true rfl)
  rw [lg_entry_eq]
  generalize (lg_sl ([.ref (ad 1), .int p1]) ++ List.replicate (2 - (lg_sl ([.ref (ad 1), .int p1])).length) Slot.unset).toArray = ls at hl ⊢
  have hl : lv_has ls 2 [(0, .ref (ad 1)), (1, .int p1)] := hl
  unfold f_get1 at hf
  refine lv_iload_n hx hb dJx4a65c_get_915e3_0 rfl (lv_at hl 1 rfl) ?_
  refine lv_aload_n hx hb dJx4a65c_get_915e3_1 rfl (lv_at hl 0 rfl) ?_
  obtain ⟨q_1, wq_1, heq_1⟩ := heM_1 (cy := cy) (I := I) (D := D) hM
  refine va_get (D := (dC, dI)) (ci := 0) (v := .int (I 1 2)) (C := RJx4a65c) (T := TJx4a65c) (N := 3) hx hb hts iget1_RJx4a65c hown hK hP q_1 heq_1 rfl 2 (by decide) (hts (.fieldLink RJx4a65c 48 "java/util/ArrayList" "size" "I") (List.mem_cons_of_mem _ (List.mem_append_left _ (List.mem_of_getElem? (i := 0) rfl)))) (fun _ h9 => h9) rfl dJx4a65c_get_915e3_2 ?_
  obtain ⟨r_2, g_3, hf⟩ := bd_out hf
  refine va_calli (va_runS (As := [.int p1, .int (I 1 2)]) (rest := []) ⟨hx, hb, hml, hown, hts⟩ (mt_J15_checkIndex_7cf53 l H.size p1 (I 1 2) r_2 g_3) (va_cwS 2 hts gJx4a65c_get_915e3_J15_checkIndex_7cf53 rfl rfl rfl (by decide +kernel) ⟨Nat.le_of_ble_eq_true rfl, Nat.le_of_ble_eq_true rfl⟩) (pre0 [.int p1, .int (I 1 2)]) rfl rfl hl.1 rfl (lv_room (Nat.le_of_ble_eq_true rfl)) dJx4a65c_get_915e3_5 ⟨Nat.le_of_ble_eq_true rfl, Nat.le_of_ble_eq_true rfl⟩) hS (fun q _ h => hA q (Nat.le_trans hS.1 h)) (fun q h => hA q (Nat.le_trans hS.1 h)) (fun r9 u t H1 locs ht hvm hw hB hz1 hk1 hS => ?_)
  subst hw
  have hP := va_Pnew hP hk1
  clear hz1 hk1 hvm ht hB
  generalize H1 = H at hP hS ⊢
  refine lv_pop hx hb dJx4a65c_get_915e3_8 rfl ?_
  refine lv_aload_n hx hb dJx4a65c_get_915e3_9 rfl (lv_at hl 0 rfl) ?_
  refine lv_iload_n hx hb dJx4a65c_get_915e3_10 rfl (lv_at hl 1 rfl) ?_
  obtain ⟨r_4, g_5, hf⟩ := bd_out hf
  obtain ⟨q_6, wq_6, heq_6⟩ := heM_1 (cy := cy) (I := I) (D := D) hM
  refine va_callr (va_runV (As := [.int p1]) (rest := []) ⟨hx, hb, hml, hown, hts⟩ (mt_elementData1 l dC dI L a b ad cy hM H.size I D p1 r_4 g_5) (cwV 1 hts gJx4a65c_get_915e3_Jx4a65c_elementData_915e3 rfl rfl rfl (by decide +kernel) ⟨Nat.le_of_ble_eq_true rfl, Nat.le_of_ble_eq_true rfl⟩) ⟨(wM.pre [.ref (ad 1), .int p1] hP hK hN).1, wM.recv (C := RJx4a65c) (T := TJx4a65c) (N := 3) hP hK heq_6 rfl, (wM.pre [.ref (ad 1), .int p1] hP hK hN).2⟩ rfl rfl hl.1 rfl (lv_room (Nat.le_of_ble_eq_true rfl)) dJx4a65c_get_915e3_11 ⟨Nat.le_of_ble_eq_true rfl, Nat.le_of_ble_eq_true rfl⟩) hS (fun q _ h => hA q (Nat.le_trans hS.1 h)) (fun q h => hA q (Nat.le_trans hS.1 h)) (fun u r9 t H1 locs ht hvm hw hB hz1 hk1 hS => ?_)
  subst hB
  have hP := va_Pnew hP hk1
  clear hz1 hk1 hvm ht
  generalize H1 = H at hP hS ⊢
  have hf := Option.some.inj hf
  exact W.aret (v := .ref (ad (14 + r_4))) (rt := .object "java/lang/Object") hx hb hr (Or.inl ⟨_, rfl⟩) (Or.inr ⟨_, rfl⟩) (fun t ht hW9 => ⟨⟨(), ad (14 + r_4), rfl, trivial, by rw [hf]⟩, hS.F ht⟩) hS.2.2 dJx4a65c_get_915e3_14
theorem f_get1_lt {a b : Nat} {I : Nat → Nat → Int32} {D : Nat → Nat → UInt64} {p1 : Int32} {e : Nat} (h : f_get1 a b I D p1 = some e) : e < a := by
  unfold f_get1 at h
  obtain ⟨_, _, h⟩ := bd_out h
  obtain ⟨r, g, h⟩ := bd_out h
  cases h
  exact f_elementData1_lt g

def f_get2 (a b : Nat) (I : Nat → Nat → Int32) (D : Nat → Nat → UInt64) (p1 : Int32) : Option (Nat) :=
  bd (f_J15_checkIndex_7cf53 p1 (I 2 2)) (fun r_2 => bd (f_elementData2 a b I D p1) (fun r_4 => some r_4))
theorem iget2_RJx4a65c : ∀ w ∈ u_ws RJx4a65c TJx4a65c 3, w ∈ wsJx4a65c_get_915e3 := fun w h => List.mem_cons_of_mem _ (List.mem_append_right _ (h))
set_option maxHeartbeats 4000000 in
set_option maxRecDepth 100000 in
theorem mt_get2 (l : Launch) (dC : Nat → ClassId) (dI : Nat → Nat → Nat) (L : List Nat) (a b : Nat) (ad : Nat → Nat) (cy : Nat → ClassId) (hM : mOK L a b ad) (sz : Nat) (I : Nat → Nat → Int32) (D : Nat → Nat → UInt64) (p1 : Int32) (rr : Nat) (hf : f_get2 a b I D p1 = some rr) : Met l yJx4a65c_get_915e3 wsJx4a65c_get_915e3 ({ frames := 3, cells := 0, slots := 0, locals := 113 }) (va_Pc [.ref (ad 2), .int p1] (fun U => U.heap.size = sz ∧ wM dC dI L a b ad cy I D U)) (va_Qr (fun (_ : Unit) => True) (fun _ r t => r = ad (20 + rr)) (fun q => sz ≤ q)) 0 0 (fun q => sz ≤ q) := by
  refine Met.ofW (cc := cJx4a65c_get_915e3) (maxL := 2) (ret := (some (.object "java/lang/Object"))) (by decide) rfl ?_
  intro p e s m args below meth c s₁ B hml hv
  obtain ⟨rfl, hsz, hP, hK, hN⟩ := hv
  have hx := B.exec
  have hb := B.bytes
  have hr := B.returns
  have hts := atoms_spec (ws := wsJx4a65c_get_915e3) B.pre
  have hown : s.vm.findClass RJx4a65c = some m.cls := findClass_of_methodNamed B.named
  have hlocks := B.notSynchronized
  subst hsz
  generalize hAe : (fun q : Nat => s.heap.size ≤ q) = A
  have hA : ∀ q : Nat, s.heap.size ≤ q → A q := fun q h => by rw [← hAe]; exact h
  obtain ⟨H, hH⟩ : ∃ H : Heap, H = s.heap := ⟨_, rfl⟩
  have hS : va_S A s.heap H [] := by rw [hH]; exact va_S.rf
  rw [← hH]
  rw [← hH] at hP
  have hl := lv_entry ([.ref (ad 2), .int p1]) (n := 2) (Nat.le_of_ble_eq_true rfl)
  rw [lg_entry_eq]
  generalize (lg_sl ([.ref (ad 2), .int p1]) ++ List.replicate (2 - (lg_sl ([.ref (ad 2), .int p1])).length) Slot.unset).toArray = ls at hl ⊢
  have hl : lv_has ls 2 [(0, .ref (ad 2)), (1, .int p1)] := hl
  unfold f_get2 at hf
  refine lv_iload_n hx hb dJx4a65c_get_915e3_0 rfl (lv_at hl 1 rfl) ?_
  refine lv_aload_n hx hb dJx4a65c_get_915e3_1 rfl (lv_at hl 0 rfl) ?_
  obtain ⟨q_1, wq_1, heq_1⟩ := heM_2 (cy := cy) (I := I) (D := D) hM
  refine va_get (D := (dC, dI)) (ci := 0) (v := .int (I 2 2)) (C := RJx4a65c) (T := TJx4a65c) (N := 3) hx hb hts iget2_RJx4a65c hown hK hP q_1 heq_1 rfl 2 (by decide) (hts (.fieldLink RJx4a65c 48 "java/util/ArrayList" "size" "I") (List.mem_cons_of_mem _ (List.mem_append_left _ (List.mem_of_getElem? (i := 0) rfl)))) (fun _ h9 => h9) rfl dJx4a65c_get_915e3_2 ?_
  obtain ⟨r_2, g_3, hf⟩ := bd_out hf
  refine va_calli (va_runS (As := [.int p1, .int (I 2 2)]) (rest := []) ⟨hx, hb, hml, hown, hts⟩ (mt_J15_checkIndex_7cf53 l H.size p1 (I 2 2) r_2 g_3) (va_cwS 2 hts gJx4a65c_get_915e3_J15_checkIndex_7cf53 rfl rfl rfl (by decide +kernel) ⟨Nat.le_of_ble_eq_true rfl, Nat.le_of_ble_eq_true rfl⟩) (pre0 [.int p1, .int (I 2 2)]) rfl rfl hl.1 rfl (lv_room (Nat.le_of_ble_eq_true rfl)) dJx4a65c_get_915e3_5 ⟨Nat.le_of_ble_eq_true rfl, Nat.le_of_ble_eq_true rfl⟩) hS (fun q _ h => hA q (Nat.le_trans hS.1 h)) (fun q h => hA q (Nat.le_trans hS.1 h)) (fun r9 u t H1 locs ht hvm hw hB hz1 hk1 hS => ?_)
  subst hw
  have hP := va_Pnew hP hk1
  clear hz1 hk1 hvm ht hB
  generalize H1 = H at hP hS ⊢
  refine lv_pop hx hb dJx4a65c_get_915e3_8 rfl ?_
  refine lv_aload_n hx hb dJx4a65c_get_915e3_9 rfl (lv_at hl 0 rfl) ?_
  refine lv_iload_n hx hb dJx4a65c_get_915e3_10 rfl (lv_at hl 1 rfl) ?_
  obtain ⟨r_4, g_5, hf⟩ := bd_out hf
  obtain ⟨q_6, wq_6, heq_6⟩ := heM_2 (cy := cy) (I := I) (D := D) hM
  refine va_callr (va_runV (As := [.int p1]) (rest := []) ⟨hx, hb, hml, hown, hts⟩ (mt_elementData2 l dC dI L a b ad cy hM H.size I D p1 r_4 g_5) (cwV 1 hts gJx4a65c_get_915e3_Jx4a65c_elementData_915e3 rfl rfl rfl (by decide +kernel) ⟨Nat.le_of_ble_eq_true rfl, Nat.le_of_ble_eq_true rfl⟩) ⟨(wM.pre [.ref (ad 2), .int p1] hP hK hN).1, wM.recv (C := RJx4a65c) (T := TJx4a65c) (N := 3) hP hK heq_6 rfl, (wM.pre [.ref (ad 2), .int p1] hP hK hN).2⟩ rfl rfl hl.1 rfl (lv_room (Nat.le_of_ble_eq_true rfl)) dJx4a65c_get_915e3_11 ⟨Nat.le_of_ble_eq_true rfl, Nat.le_of_ble_eq_true rfl⟩) hS (fun q _ h => hA q (Nat.le_trans hS.1 h)) (fun q h => hA q (Nat.le_trans hS.1 h)) (fun u r9 t H1 locs ht hvm hw hB hz1 hk1 hS => ?_)
  subst hB
  have hP := va_Pnew hP hk1
  clear hz1 hk1 hvm ht
  generalize H1 = H at hP hS ⊢
  have hf := Option.some.inj hf
  exact W.aret (v := .ref (ad (20 + r_4))) (rt := .object "java/lang/Object") hx hb hr (Or.inl ⟨_, rfl⟩) (Or.inr ⟨_, rfl⟩) (fun t ht hW9 => ⟨⟨(), ad (20 + r_4), rfl, trivial, by rw [hf]⟩, hS.F ht⟩) hS.2.2 dJx4a65c_get_915e3_14
theorem f_get2_lt {a b : Nat} {I : Nat → Nat → Int32} {D : Nat → Nat → UInt64} {p1 : Int32} {e : Nat} (h : f_get2 a b I D p1 = some e) : e < b := by
  unfold f_get2 at h
  obtain ⟨_, _, h⟩ := bd_out h
  obtain ⟨r, g, h⟩ := bd_out h
  cases h
  exact f_elementData2_lt g

def f_X6_all_L13 (I : Nat → Nat → Int32) (k0 : Nat) : Nat → Int32 → Int32 → Option (Int32)
  | 0, _, _ => none
  | n13 + 1, x4_13, x1_13 => (if 6 ≤ x4_13 then some x1_13 else ck (inB x4_13 6) (f_X6_all_L13 I k0 n13 (x4_13 + 1) (x1_13 + (I (25 + k0) (x4_13).toNatClampNeg))))
def f_X6_all (a b : Nat) (I : Nat → Nat → Int32) (D : Nat → Nat → UInt64) (k0 : Nat) : Option (Int32) :=
  f_X6_all_L13 I k0 200 0 0
theorem iX6_all_RX6 : ∀ w ∈ u_ws RX6 TX6 5, w ∈ wsX6_all := fun w h => List.mem_cons_of_mem _ (List.mem_append_right _ (h))
set_option maxHeartbeats 4000000 in
set_option maxRecDepth 100000 in
theorem mt_X6_all (l : Launch) (dC : Nat → ClassId) (dI : Nat → Nat → Nat) (L : List Nat) (a b : Nat) (ad : Nat → Nat) (cy : Nat → ClassId) (hM : mOK L a b ad) (sz : Nat) (I : Nat → Nat → Int32) (D : Nat → Nat → UInt64) (k0 : Nat) (hk0 : k0 < b) (rr : Int32) (hf : f_X6_all a b I D k0 = some rr) : Met l yX6_all wsX6_all ({ frames := 0, cells := 0, slots := 0, locals := 0 }) (va_Pc [.ref (ad (20 + k0))] (fun U => U.heap.size = sz ∧ wM dC dI L a b ad cy I D U)) (va_Qi (fun r (_ : Unit) => rr = r) (fun _ _ => True) (fun q => sz ≤ q)) 0 0 (fun q => sz ≤ q) := by
  refine Met.ofW (cc := cX6_all) (maxL := 6) (ret := (some .int)) (by decide) rfl ?_
  intro p e s m args below meth c s₁ B hml hv
  obtain ⟨rfl, hsz, hP, hK, hN⟩ := hv
  have hx := B.exec
  have hb := B.bytes
  have hr := B.returns
  have hts := atoms_spec (ws := wsX6_all) B.pre
  have hown : s.vm.findClass RX6 = some m.cls := findClass_of_methodNamed B.named
  have hlocks := B.notSynchronized
  subst hsz
  generalize hAe : (fun q : Nat => s.heap.size ≤ q) = A
  have hA : ∀ q : Nat, s.heap.size ≤ q → A q := fun q h => by rw [← hAe]; exact h
  obtain ⟨H, hH⟩ : ∃ H : Heap, H = s.heap := ⟨_, rfl⟩
  have hS : va_S A s.heap H [] := by rw [hH]; exact va_S.rf
  rw [← hH]
  rw [← hH] at hP
  have hl := lv_entry ([.ref (ad (20 + k0))]) (n := 6) (Nat.le_of_ble_eq_true rfl)
  rw [lg_entry_eq]
  generalize (lg_sl ([.ref (ad (20 + k0))]) ++ List.replicate (6 - (lg_sl ([.ref (ad (20 + k0))])).length) Slot.unset).toArray = ls at hl ⊢
  have hl : lv_has ls 6 [(0, .ref (ad (20 + k0)))] := hl
  unfold f_X6_all at hf
  refine lv_iconst (v := 0) hx hb dX6_all_0 (by decide) ?_
  refine lv_istore_n (lv' := [(1, .int 0), (0, .ref (ad (20 + k0)))]) hx hb dX6_all_1 rfl hl (by decide) rfl (fun ls hl => ?_)
  refine lv_aload_n hx hb dX6_all_2 rfl (lv_at hl 1 rfl) ?_
  obtain ⟨q_1, wq_1, heq_1⟩ := heM_Mixx (cy := cy) (I := I) (D := D) hM hk0
  refine va_get (D := (dC, dI)) (ci := 7) (v := .ref (ad (25 + k0))) (C := RX6) (T := TX6) (N := 5) hx hb hts iX6_all_RX6 hown hK hP q_1 heq_1 rfl 0 (by decide) (hts (.fieldLink RX6 15 "OverrunHouseModel$Mix" "kilos" "[I") (List.mem_cons_of_mem _ (List.mem_append_left _ (List.mem_of_getElem? (i := 0) rfl)))) (fun _ h9 => h9) rfl dX6_all_3 ?_
  refine lv_astore_n (lv' := [(2, .ref (ad (25 + k0))), (1, .int 0), (0, .ref (ad (20 + k0)))]) hx hb dX6_all_6 rfl hl (by decide) rfl (fun ls hl => ?_)
  refine lv_aload_n hx hb dX6_all_7 rfl (lv_at hl 0 rfl) ?_
  obtain ⟨q_2, wq_2, heq_2⟩ := heM_Kilos (cy := cy) (I := I) (D := D) hM hk0
  refine va_alen (v := 6) hx hb hK hP q_2 0 heq_2 rfl rfl dX6_all_8 ?_
  refine lv_istore_n (lv' := [(3, .int 6), (2, .ref (ad (25 + k0))), (1, .int 0), (0, .ref (ad (20 + k0)))]) hx hb dX6_all_9 rfl hl (by decide) rfl (fun ls hl => ?_)
  refine lv_iconst (v := 0) hx hb dX6_all_10 (by decide) ?_
  refine lv_istore (lv' := [(4, .int 0), (3, .int 6), (2, .ref (ad (25 + k0))), (1, .int 0), (0, .ref (ad (20 + k0)))]) hx hb dX6_all_11 hl (by decide) rfl (fun ls hl => ?_)
  have L13 : ∀ (n13 : Nat) (x4_13 : Int32) (x1_13 : Int32), f_X6_all_L13 I k0 n13 x4_13 x1_13 = some rr → ∀ (H : Heap) (locs : List Loc) (ls : Array Slot), va_P (dC, dI) vwCl (iwM L a b ad cy I D) H → va_S A s.heap H locs → lv_has ls 6 [(4, .int x4_13), (3, .int 6), (2, .ref (ad (25 + k0))), (1, .int x1_13), (0, .ref (ad (20 + k0)))] → W p l e (headSpec wsX6_all ({ frames := 0, cells := 0, slots := 0, locals := 0 })).room s m ([.ref (ad (20 + k0))] : List Value).toArray below meth c H locs 0 0 (MQ below (va_Qi (fun r (_ : Unit) => rr = r) (fun _ _ => True) A) ([.ref (ad (20 + k0))] : List Value).toArray s 0 0 A) (F0 m 13 ls []) := by
    intro n13
    induction n13 with
    | zero => intro x4_13 x1_13 hf; exact nomatch hf
    | succ n13 ih13 =>
      intro x4_13 x1_13 hf H locs ls hP hS hl
      unfold f_X6_all_L13 at hf
      refine lv_iload hx hb dX6_all_13 (lv_at hl 0 rfl) ?_
      refine lv_iload_n hx hb dX6_all_15 rfl (lv_at hl 1 rfl) ?_
      refine lv_icmp_ge (tgt := 36) hx hb dX6_all_16 (by decide) (fun c_3 => ?_) (fun c_3 => ?_)
      · have hf := it_t hf c_3
        refine lv_iload_n hx hb dX6_all_36 rfl (lv_at hl 3 rfl) ?_
        have hf := Option.some.inj hf
        have q1 := hf
        exact W.iret (v := x1_13) hx hb hr (fun t ht hW9 => ⟨⟨x1_13, (), rfl, q1.symm, trivial⟩, hS.F ht⟩) hS.2.2 dX6_all_37
      · have hf := it_f hf c_3
        refine lv_aload_n hx hb dX6_all_19 rfl (lv_at hl 2 rfl) ?_
        refine lv_iload hx hb dX6_all_20 (lv_at hl 0 rfl) ?_
        obtain ⟨q_4, wq_4, heq_4⟩ := heM_Kilos (cy := cy) (I := I) (D := D) hM hk0
        obtain ⟨h_5, hf⟩ := ck_out hf
        refine va_iald (n := 6) (f := I (25 + k0)) hx hb hK hP q_4 0 heq_4 rfl (inB_in h_5) dX6_all_22 ?_
        refine lv_istore (lv' := [(5, .int (I (25 + k0) (x4_13).toNatClampNeg)), (4, .int x4_13), (3, .int 6), (2, .ref (ad (25 + k0))), (1, .int x1_13), (0, .ref (ad (20 + k0)))]) hx hb dX6_all_23 hl (by decide) rfl (fun ls hl => ?_)
        refine lv_iload_n hx hb dX6_all_25 rfl (lv_at hl 4 rfl) ?_
        refine lv_iload hx hb dX6_all_26 (lv_at hl 0 rfl) ?_
        refine lv_iadd hx hb dX6_all_28 ?_
        refine lv_istore_n (lv' := [(1, .int (x1_13 + (I (25 + k0) (x4_13).toNatClampNeg))), (5, .int (I (25 + k0) (x4_13).toNatClampNeg)), (4, .int x4_13), (3, .int 6), (2, .ref (ad (25 + k0))), (0, .ref (ad (20 + k0)))]) hx hb dX6_all_29 rfl hl (by decide) rfl (fun ls hl => ?_)
        refine lv_iinc (v := (x4_13 + 1)) (lv' := [(4, .int (x4_13 + 1)), (1, .int (x1_13 + (I (25 + k0) (x4_13).toNatClampNeg))), (5, .int (I (25 + k0) (x4_13).toNatClampNeg)), (3, .int 6), (2, .ref (ad (25 + k0))), (0, .ref (ad (20 + k0)))]) hx hb dX6_all_30 hl (k := 2) rfl rfl (by decide) rfl (fun ls hl => ?_)
        refine lv_goto (tgt := 13) hx hb dX6_all_33 (by decide) ?_
        exact ih13 (x4_13 + 1) (x1_13 + (I (25 + k0) (x4_13).toNatClampNeg)) hf _ _ _ hP hS (lv_sub hl [0, 3, 4, 1, 5] rfl)
  exact L13 200 0 0 hf _ _ _ hP hS (lv_sub hl [0, 1, 2, 3, 4] rfl)

def f_X6_put (a b : Nat) (I : Nat → Nat → Int32) (D : Nat → Nat → UInt64) (k0 : Nat) (p1 : Int32) (p2 : Int32) : Option (Int32 × (Nat → Nat → Int32) × (Nat → Nat → UInt64)) :=
  ck (inB p1 6) (ck (inB p1 6) (nm (up2 I (25 + k0) (p1).toNatClampNeg ((I (25 + k0) (p1).toNatClampNeg) + p2)) (fun I_6 => nm (up2 I_6 (20 + k0) 1 ((I_6 (20 + k0) 1) + p2)) (fun I_9 => nm (up2 I_9 (20 + k0) 2 0) (fun I_11 => bd (f_X6_all a b I_11 D k0) (fun r_12 => some (r_12, I_11, D)))))))
theorem iX6_put_RX6 : ∀ w ∈ u_ws RX6 TX6 5, w ∈ wsX6_put := fun w h => List.mem_cons_of_mem _ (List.mem_append_right _ (h))
set_option maxHeartbeats 4000000 in
set_option maxRecDepth 100000 in
theorem mt_X6_put (l : Launch) (dC : Nat → ClassId) (dI : Nat → Nat → Nat) (L : List Nat) (a b : Nat) (ad : Nat → Nat) (cy : Nat → ClassId) (hM : mOK L a b ad) (sz : Nat) (I : Nat → Nat → Int32) (D : Nat → Nat → UInt64) (k0 : Nat) (hk0 : k0 < b) (p1 : Int32) (p2 : Int32) (rr : Int32) (I9 : Nat → Nat → Int32) (D9 : Nat → Nat → UInt64) (hf : f_X6_put a b I D k0 p1 p2 = some (rr, I9, D9)) : Met l yX6_put wsX6_put ({ frames := 1, cells := 0, slots := 0, locals := 25 }) (va_Pc [.ref (ad (20 + k0)), .int p1, .int p2] (fun U => U.heap.size = sz ∧ wM dC dI L a b ad cy I D U)) (va_Qi (fun r (_ : Unit) => rr = r) (fun _ t => wM dC dI L a b ad cy I9 D9 t) (AM L ad sz)) 0 0 (AM L ad sz) := by
  refine Met.ofW (cc := cX6_put) (maxL := 3) (ret := (some .int)) (by decide) rfl ?_
  intro p e s m args below meth c s₁ B hml hv
  obtain ⟨rfl, hsz, hP, hK, hN⟩ := hv
  have hx := B.exec
  have hb := B.bytes
  have hr := B.returns
  have hts := atoms_spec (ws := wsX6_put) B.pre
  have hown : s.vm.findClass RX6 = some m.cls := findClass_of_methodNamed B.named
  have hlocks := B.notSynchronized
  subst hsz
  generalize hAe : AM L ad s.heap.size = A
  have hA : ∀ q : Nat, s.heap.size ≤ q → A q := fun q h => by rw [← hAe]; exact Or.inr h
  have hAL : ∀ k, k ∈ L → A (ad k) := fun k h => by rw [← hAe]; exact Or.inl ⟨k, h, rfl⟩
  have hDD : ∀ I D, va_D A (iwM L a b ad cy I D) := fun I D => iwM_D hM hAL I D
  obtain ⟨H, hH⟩ : ∃ H : Heap, H = s.heap := ⟨_, rfl⟩
  have hS : va_S A s.heap H [] := by rw [hH]; exact va_S.rf
  rw [← hH]
  rw [← hH] at hP
  have hl := lv_entry ([.ref (ad (20 + k0)), .int p1, .int p2]) (n := 3) (Nat.le_of_ble_eq_true rfl)
  rw [lg_entry_eq]
  generalize (lg_sl ([.ref (ad (20 + k0)), .int p1, .int p2]) ++ List.replicate (3 - (lg_sl ([.ref (ad (20 + k0)), .int p1, .int p2])).length) Slot.unset).toArray = ls at hl ⊢
  have hl : lv_has ls 3 [(0, .ref (ad (20 + k0))), (1, .int p1), (2, .int p2)] := hl
  unfold f_X6_put at hf
  refine lv_aload_n hx hb dX6_put_0 rfl (lv_at hl 0 rfl) ?_
  obtain ⟨q_1, wq_1, heq_1⟩ := heM_Mixx (cy := cy) (I := I) (D := D) hM hk0
  refine va_get (D := (dC, dI)) (ci := 7) (v := .ref (ad (25 + k0))) (C := RX6) (T := TX6) (N := 5) hx hb hts iX6_put_RX6 hown hK hP q_1 heq_1 rfl 0 (by decide) (hts (.fieldLink RX6 15 "OverrunHouseModel$Mix" "kilos" "[I") (List.mem_cons_of_mem _ (List.mem_append_left _ (List.mem_of_getElem? (i := 0) rfl)))) (fun _ h9 => h9) rfl dX6_put_1 ?_
  refine lv_iload_n hx hb dX6_put_4 rfl (lv_at hl 1 rfl) ?_
  refine lv_dup2_11 hx hb dX6_put_5 rfl rfl ?_
  obtain ⟨q_2, wq_2, heq_2⟩ := heM_Kilos (cy := cy) (I := I) (D := D) hM hk0
  obtain ⟨h_3, hf⟩ := ck_out hf
  refine va_iald (n := 6) (f := I (25 + k0)) hx hb hK hP q_2 0 heq_2 rfl (inB_in h_3) dX6_put_6 ?_
  refine lv_iload_n hx hb dX6_put_7 rfl (lv_at hl 2 rfl) ?_
  refine lv_iadd hx hb dX6_put_8 ?_
  obtain ⟨q_4, wq_4, heq_4⟩ := heM_Kilos (cy := cy) (I := I) (D := D) hM hk0
  obtain ⟨h_5, hf⟩ := ck_out hf
  obtain ⟨I_6, eI_6, hf⟩ := nm_out hf
  refine va_iast (n := 6) (f := I (25 + k0)) hx hb hK hP (hDD I D) hS q_4 0 heq_4 rfl (inB_in h_5) dX6_put_9 (fun H locs hP _ hS => ?_)
  have hP : va_P (dC, dI) vwCl (iwM L a b ad cy I_6 D) H := by rw [eI_6]; exact hqI hM wq_4 ((cellM_Kilos ad cy a b (by have := hM.2; have := hk0; omega) _ _).trans rfl) hP
  refine lv_aload_n hx hb dX6_put_10 rfl (lv_at hl 0 rfl) ?_
  refine lv_dup hx hb dX6_put_11 rfl ?_
  obtain ⟨q_7, wq_7, heq_7⟩ := heM_Mixx (cy := cy) (I := I_6) (D := D) hM hk0
  refine va_get (D := (dC, dI)) (ci := 7) (v := .int (I_6 (20 + k0) 1)) (C := RX6) (T := TX6) (N := 5) hx hb hts iX6_put_RX6 hown hK hP q_7 heq_7 rfl 1 (by decide) (hts (.fieldLink RX6 19 "OverrunHouseModel$Mix" "left" "I") (List.mem_cons_of_mem _ (List.mem_append_left _ (List.mem_of_getElem? (i := 1) rfl)))) (fun _ h9 => h9) rfl dX6_put_12 ?_
  refine lv_iload_n hx hb dX6_put_15 rfl (lv_at hl 2 rfl) ?_
  refine lv_iadd hx hb dX6_put_16 ?_
  obtain ⟨q_8, wq_8, heq_8⟩ := heM_Mixx (cy := cy) (I := I_6) (D := D) hM hk0
  obtain ⟨I_9, eI_9, hf⟩ := nm_out hf
  refine va_put (D := (dC, dI)) (ci := 7) (v := .int ((I_6 (20 + k0) 1) + p2)) (ty := .int) (C := RX6) (T := TX6) (N := 5) hx hb hts iX6_put_RX6 tyX6 tyX6_ok nmX6 hown hK hP (hDD I_6 D) hS q_8 heq_8 rfl 1 (by decide) (hts (.fieldLink RX6 19 "OverrunHouseModel$Mix" "left" "I") (List.mem_cons_of_mem _ (List.mem_append_left _ (List.mem_of_getElem? (i := 1) rfl)))) (fun _ h9 => h9) rfl (by decide +kernel) rfl rfl (Nat.le_of_ble_eq_true rfl) dX6_put_17 (fun H locs hP _ hS => ?_)
  have hP : va_P (dC, dI) vwCl (iwM L a b ad cy I_9 D) H := by rw [eI_9]; exact hqI hM wq_8 ((cellM_Mixx ad cy a b (by have := hM.2; have := hk0; omega) _ _).trans rfl) hP
  refine lv_aload_n hx hb dX6_put_20 rfl (lv_at hl 0 rfl) ?_
  refine lv_iconst (v := 0) hx hb dX6_put_21 (by decide) ?_
  obtain ⟨q_10, wq_10, heq_10⟩ := heM_Mixx (cy := cy) (I := I_9) (D := D) hM hk0
  obtain ⟨I_11, eI_11, hf⟩ := nm_out hf
  refine va_put (D := (dC, dI)) (ci := 7) (v := .int 0) (ty := .boolean) (C := RX6) (T := TX6) (N := 5) hx hb hts iX6_put_RX6 tyX6 tyX6_ok nmX6 hown hK hP (hDD I_9 D) hS q_10 heq_10 rfl 2 (by decide) (hts (.fieldLink RX6 23 "OverrunHouseModel$Mix" "isProved" "Z") (List.mem_cons_of_mem _ (List.mem_append_left _ (List.mem_of_getElem? (i := 2) rfl)))) (fun _ h9 => h9) rfl (by decide +kernel) rfl rfl (Nat.le_of_ble_eq_true rfl) dX6_put_22 (fun H locs hP _ hS => ?_)
  have hP : va_P (dC, dI) vwCl (iwM L a b ad cy I_11 D) H := by rw [eI_11]; exact hqI hM wq_10 ((cellM_Mixx ad cy a b (by have := hM.2; have := hk0; omega) _ _).trans rfl) hP
  refine lv_aload_n hx hb dX6_put_25 rfl (lv_at hl 0 rfl) ?_
  obtain ⟨r_12, g_13, hf⟩ := bd_out hf
  obtain ⟨q_14, wq_14, heq_14⟩ := heM_Mixx (cy := cy) (I := I_11) (D := D) hM hk0
  refine va_calli (va_runV (As := []) (rest := []) ⟨hx, hb, hml, hown, hts⟩ (mt_X6_all l dC dI L a b ad cy hM H.size I_11 D k0 hk0 r_12 g_13) (cwV 0 hts gX6_put_X6_all rfl rfl rfl (by decide +kernel) ⟨Nat.le_of_ble_eq_true rfl, Nat.le_of_ble_eq_true rfl⟩) ⟨(wM.pre [.ref (ad (20 + k0))] hP hK hN).1, wM.recv (C := RX6) (T := TX6) (N := 5) hP hK heq_14 rfl, (wM.pre [.ref (ad (20 + k0))] hP hK hN).2⟩ rfl rfl hl.1 rfl (lv_room (Nat.le_of_ble_eq_true rfl)) dX6_put_26 ⟨Nat.le_of_ble_eq_true rfl, Nat.le_of_ble_eq_true rfl⟩) hS (fun q _ h => hA q (Nat.le_trans hS.1 h)) (fun q h => hA q (Nat.le_trans hS.1 h)) (fun r9 u t H1 locs ht hvm hw hB hz1 hk1 hS => ?_)
  subst hw
  have hP := va_Pnew hP hk1
  clear hz1 hk1 hvm ht hB
  generalize H1 = H at hP hS ⊢
  have hf := Option.some.inj hf
  obtain ⟨q1, q2⟩ := Prod.mk.inj hf
  obtain ⟨q2, q3⟩ := Prod.mk.inj q2
  rw [q2, q3] at hP
  exact W.iret (v := r_12) hx hb hr (fun t ht hW9 => ⟨⟨r_12, (), rfl, q1.symm, wM.of hP hK hN ht hW9⟩, hS.F ht⟩) hS.2.2 dX6_put_29

def f_X6_sum_L4 (a : Nat) (b : Nat) (I : Nat → Nat → Int32) (D : Nat → Nat → UInt64) (k0 : Nat) (p1 : Int32) : Nat → Int32 → Int32 → Option (Int32)
  | 0, _, _ => none
  | n4 + 1, x3_4, x2_4 => bd (f_size1 a b I D ) (fun r_3 => (if r_3 ≤ x3_4 then some x2_4 else ck (inB x3_4 6) (bd (f_get1 a b I D x3_4) (fun r_12 => ck (inB p1 5) (f_X6_sum_L4 a b I D k0 p1 n4 (x3_4 + 1) (x2_4 + ((I (25 + k0) (x3_4).toNatClampNeg) * (I (14 + r_12) (p1).toNatClampNeg))))))))
def f_X6_sum (a b : Nat) (I : Nat → Nat → Int32) (D : Nat → Nat → UInt64) (k0 : Nat) (p1 : Int32) : Option (Int32) :=
  f_X6_sum_L4 a b I D k0 p1 200 0 0
theorem iX6_sum_RX7 : ∀ w ∈ u_ws RX7 TX7 9, w ∈ wsX6_sum := fun w h => List.mem_cons_of_mem _ (List.mem_append_left _ (List.mem_append_right _ (h)))
theorem iX6_sum_RX6 : ∀ w ∈ u_ws RX6 TX6 5, w ∈ wsX6_sum := fun w h => List.mem_cons_of_mem _ (List.mem_append_left _ (List.mem_append_left _ (List.mem_append_right _ (h))))
set_option maxHeartbeats 4000000 in
set_option maxRecDepth 100000 in
theorem mt_X6_sum (l : Launch) (dC : Nat → ClassId) (dI : Nat → Nat → Nat) (L : List Nat) (a b : Nat) (ad : Nat → Nat) (cy : Nat → ClassId) (hM : mOK L a b ad) (sz : Nat) (I : Nat → Nat → Int32) (D : Nat → Nat → UInt64) (k0 : Nat) (hk0 : k0 < b) (p1 : Int32) (rr : Int32) (hf : f_X6_sum a b I D k0 p1 = some rr) : Met l yX6_sum wsX6_sum ({ frames := 4, cells := 0, slots := 0, locals := 134 }) (va_Pc [.ref (ad (20 + k0)), .int p1] (fun U => U.heap.size = sz ∧ wM dC dI L a b ad cy I D U)) (va_Qi (fun r (_ : Unit) => rr = r) (fun _ _ => True) (fun q => sz ≤ q)) 0 0 (fun q => sz ≤ q) := by
  refine Met.ofW (cc := cX6_sum) (maxL := 4) (ret := (some .int)) (by decide) rfl ?_
  intro p e s m args below meth c s₁ B hml hv
  obtain ⟨rfl, hsz, hP, hK, hN⟩ := hv
  have hx := B.exec
  have hb := B.bytes
  have hr := B.returns
  have hts := atoms_spec (ws := wsX6_sum) B.pre
  have hown : s.vm.findClass RX6 = some m.cls := findClass_of_methodNamed B.named
  have hlocks := B.notSynchronized
  subst hsz
  generalize hAe : (fun q : Nat => s.heap.size ≤ q) = A
  have hA : ∀ q : Nat, s.heap.size ≤ q → A q := fun q h => by rw [← hAe]; exact h
  obtain ⟨H, hH⟩ : ∃ H : Heap, H = s.heap := ⟨_, rfl⟩
  have hS : va_S A s.heap H [] := by rw [hH]; exact va_S.rf
  rw [← hH]
  rw [← hH] at hP
  have hl := lv_entry ([.ref (ad (20 + k0)), .int p1]) (n := 4) (Nat.le_of_ble_eq_true rfl)
  rw [lg_entry_eq]
  generalize (lg_sl ([.ref (ad (20 + k0)), .int p1]) ++ List.replicate (4 - (lg_sl ([.ref (ad (20 + k0)), .int p1])).length) Slot.unset).toArray = ls at hl ⊢
  have hl : lv_has ls 4 [(0, .ref (ad (20 + k0))), (1, .int p1)] := hl
  unfold f_X6_sum at hf
  refine lv_iconst (v := 0) hx hb dX6_sum_0 (by decide) ?_
  refine lv_istore_n (lv' := [(2, .int 0), (0, .ref (ad (20 + k0))), (1, .int p1)]) hx hb dX6_sum_1 rfl hl (by decide) rfl (fun ls hl => ?_)
  refine lv_iconst (v := 0) hx hb dX6_sum_2 (by decide) ?_
  refine lv_istore_n (lv' := [(3, .int 0), (2, .int 0), (0, .ref (ad (20 + k0))), (1, .int p1)]) hx hb dX6_sum_3 rfl hl (by decide) rfl (fun ls hl => ?_)
  have L4 : ∀ (n4 : Nat) (x3_4 : Int32) (x2_4 : Int32), f_X6_sum_L4 a b I D k0 p1 n4 x3_4 x2_4 = some rr → ∀ (H : Heap) (locs : List Loc) (ls : Array Slot), va_P (dC, dI) vwCl (iwM L a b ad cy I D) H → va_S A s.heap H locs → lv_has ls 4 [(3, .int x3_4), (2, .int x2_4), (0, .ref (ad (20 + k0))), (1, .int p1)] → W p l e (headSpec wsX6_sum ({ frames := 4, cells := 0, slots := 0, locals := 134 })).room s m ([.ref (ad (20 + k0)), .int p1] : List Value).toArray below meth c H locs 0 0 (MQ below (va_Qi (fun r (_ : Unit) => rr = r) (fun _ _ => True) A) ([.ref (ad (20 + k0)), .int p1] : List Value).toArray s 0 0 A) (F0 m 4 ls []) := by
    intro n4
    induction n4 with
    | zero => intro x3_4 x2_4 hf; exact nomatch hf
    | succ n4 ih4 =>
      intro x3_4 x2_4 hf H locs ls hP hS hl
      unfold f_X6_sum_L4 at hf
      refine lv_iload_n hx hb dX6_sum_4 rfl (lv_at hl 0 rfl) ?_
      refine lv_aload_n hx hb dX6_sum_5 rfl (lv_at hl 2 rfl) ?_
      obtain ⟨q_1, wq_1, heq_1⟩ := heM_Mixx (cy := cy) (I := I) (D := D) hM hk0
      refine va_get (D := (dC, dI)) (ci := 7) (v := .ref (ad 0)) (C := RX6) (T := TX6) (N := 5) hx hb hts iX6_sum_RX6 hown hK hP q_1 heq_1 rfl 4 (by decide) (hts (.fieldLink RX6 3 "OverrunHouseModel$Mix" "this$0" "LOverrunHouseModel;") (List.mem_cons_of_mem _ (List.mem_append_left _ (List.mem_append_left _ (List.mem_append_left _ (List.mem_append_left _ (List.mem_of_getElem? (i := 0) rfl))))))) (fun _ h9 => h9) rfl dX6_sum_6 ?_
      obtain ⟨q_2, wq_2, heq_2⟩ := heM_0 (cy := cy) (I := I) (D := D) hM
      refine va_getN (D := (dC, dI)) (ci := 8) (v := .ref (ad 1)) (C := RX7) (T := TX7) (N := 9) hx hb hts iX6_sum_RX7 hown hK hP q_2 heq_2 rfl 1 (by decide) (va_Nw.use (w := .fieldLinkNest "OverrunHouseModel$Mix" 31 "OverrunHouseModel" "ingredients" "Ljava/util/List;" "OverrunHouseModel") rfl (hN.1 _ (List.mem_of_getElem? (i := 29) rfl))) (fun _ h9 => h9) rfl dX6_sum_9 ?_
      obtain ⟨r_3, g_4, hf⟩ := bd_out hf
      obtain ⟨q_5, wq_5, heq_5⟩ := heM_1 (cy := cy) (I := I) (D := D) hM
      refine va_callFi (va_runF (As := []) (rest := [.int x3_4]) (hK.1 0 _ rfl).2 ⟨hx, hb, hml, hown, hts⟩ (mt_size1 l dC dI L a b ad cy hM H.size I D  r_3 g_4) (va_cwF 0 hts gX6_sum_Jx4a65c_size_8abf5_f35Jx4a65c rfl rfl rfl hN.2.1 (by decide +kernel) ⟨Nat.le_of_ble_eq_true rfl, Nat.le_of_ble_eq_true rfl⟩) ⟨(wM.pre [.ref (ad 1)] hP hK hN).1, wM.recv (C := RJx4a65c) (T := TJx4a65c) (N := 3) hP hK heq_5 rfl, (wM.pre [.ref (ad 1)] hP hK hN).2⟩ rfl rfl hl.1 rfl (lv_room (Nat.le_of_ble_eq_true rfl)) dX6_sum_12 ⟨Nat.le_of_ble_eq_true rfl, Nat.le_of_ble_eq_true rfl⟩) hS (fun q _ h => hA q (Nat.le_trans hS.1 h)) (fun q h => hA q (Nat.le_trans hS.1 h)) (fun r9 u t H1 locs ht hvm hw hB hz1 hk1 hS => ?_)
      subst hw
      have hP := va_Pnew hP hk1
      clear hz1 hk1 hvm ht hB
      generalize H1 = H at hP hS ⊢
      refine lv_icmp_ge (tgt := 54) hx hb dX6_sum_17 (by decide) (fun c_6 => ?_) (fun c_6 => ?_)
      · have hf := it_t hf c_6
        refine lv_iload_n hx hb dX6_sum_54 rfl (lv_at hl 1 rfl) ?_
        have hf := Option.some.inj hf
        have q1 := hf
        exact W.iret (v := x2_4) hx hb hr (fun t ht hW9 => ⟨⟨x2_4, (), rfl, q1.symm, trivial⟩, hS.F ht⟩) hS.2.2 dX6_sum_55
      · have hf := it_f hf c_6
        refine lv_iload_n hx hb dX6_sum_20 rfl (lv_at hl 1 rfl) ?_
        refine lv_aload_n hx hb dX6_sum_21 rfl (lv_at hl 2 rfl) ?_
        obtain ⟨q_7, wq_7, heq_7⟩ := heM_Mixx (cy := cy) (I := I) (D := D) hM hk0
        refine va_get (D := (dC, dI)) (ci := 7) (v := .ref (ad (25 + k0))) (C := RX6) (T := TX6) (N := 5) hx hb hts iX6_sum_RX6 hown hK hP q_7 heq_7 rfl 0 (by decide) (hts (.fieldLink RX6 15 "OverrunHouseModel$Mix" "kilos" "[I") (List.mem_cons_of_mem _ (List.mem_append_left _ (List.mem_append_left _ (List.mem_append_left _ (List.mem_append_left _ (List.mem_of_getElem? (i := 1) rfl))))))) (fun _ h9 => h9) rfl dX6_sum_22 ?_
        refine lv_iload_n hx hb dX6_sum_25 rfl (lv_at hl 0 rfl) ?_
        obtain ⟨q_8, wq_8, heq_8⟩ := heM_Kilos (cy := cy) (I := I) (D := D) hM hk0
        obtain ⟨h_9, hf⟩ := ck_out hf
        refine va_iald (n := 6) (f := I (25 + k0)) hx hb hK hP q_8 0 heq_8 rfl (inB_in h_9) dX6_sum_26 ?_
        refine lv_aload_n hx hb dX6_sum_27 rfl (lv_at hl 2 rfl) ?_
        obtain ⟨q_10, wq_10, heq_10⟩ := heM_Mixx (cy := cy) (I := I) (D := D) hM hk0
        refine va_get (D := (dC, dI)) (ci := 7) (v := .ref (ad 0)) (C := RX6) (T := TX6) (N := 5) hx hb hts iX6_sum_RX6 hown hK hP q_10 heq_10 rfl 4 (by decide) (hts (.fieldLink RX6 3 "OverrunHouseModel$Mix" "this$0" "LOverrunHouseModel;") (List.mem_cons_of_mem _ (List.mem_append_left _ (List.mem_append_left _ (List.mem_append_left _ (List.mem_append_left _ (List.mem_of_getElem? (i := 0) rfl))))))) (fun _ h9 => h9) rfl dX6_sum_28 ?_
        obtain ⟨q_11, wq_11, heq_11⟩ := heM_0 (cy := cy) (I := I) (D := D) hM
        refine va_getN (D := (dC, dI)) (ci := 8) (v := .ref (ad 1)) (C := RX7) (T := TX7) (N := 9) hx hb hts iX6_sum_RX7 hown hK hP q_11 heq_11 rfl 1 (by decide) (va_Nw.use (w := .fieldLinkNest "OverrunHouseModel$Mix" 31 "OverrunHouseModel" "ingredients" "Ljava/util/List;" "OverrunHouseModel") rfl (hN.1 _ (List.mem_of_getElem? (i := 29) rfl))) (fun _ h9 => h9) rfl dX6_sum_31 ?_
        refine lv_iload_n hx hb dX6_sum_34 rfl (lv_at hl 0 rfl) ?_
        obtain ⟨r_12, g_13, hf⟩ := bd_out hf
        obtain ⟨q_14, wq_14, heq_14⟩ := heM_1 (cy := cy) (I := I) (D := D) hM
        refine va_callFr (va_runF (As := [.int x3_4]) (rest := [.int (I (25 + k0) (x3_4).toNatClampNeg), .int x2_4]) (hK.1 0 _ rfl).2 ⟨hx, hb, hml, hown, hts⟩ (mt_get1 l dC dI L a b ad cy hM H.size I D x3_4 r_12 g_13) (va_cwF 1 hts gX6_sum_Jx4a65c_get_915e3_f40Jx4a65c rfl rfl rfl hN.2.2.1 (by decide +kernel) ⟨Nat.le_of_ble_eq_true rfl, Nat.le_of_ble_eq_true rfl⟩) ⟨(wM.pre [.ref (ad 1), .int x3_4] hP hK hN).1, wM.recv (C := RJx4a65c) (T := TJx4a65c) (N := 3) hP hK heq_14 rfl, (wM.pre [.ref (ad 1), .int x3_4] hP hK hN).2⟩ rfl rfl hl.1 rfl (lv_room (Nat.le_of_ble_eq_true rfl)) dX6_sum_35 ⟨Nat.le_of_ble_eq_true rfl, Nat.le_of_ble_eq_true rfl⟩) hS (fun q _ h => hA q (Nat.le_trans hS.1 h)) (fun q h => hA q (Nat.le_trans hS.1 h)) (fun u r9 t H1 locs ht hvm hw hB hz1 hk1 hS => ?_)
        subst hB
        have hP := va_Pnew hP hk1
        clear hz1 hk1 hvm ht
        generalize H1 = H at hP hS ⊢
        obtain ⟨q_15, wq_15, heq_15⟩ := heM_Row (cy := cy) (I := I) (D := D) hM (f_get1_lt g_13)
        refine va_castA hx hb hown (hts (.classLink RX6 44 "[I") (List.mem_cons_of_mem _ (List.mem_append_left _ (List.mem_append_left _ (List.mem_append_left _ (List.mem_append_left _ (List.mem_of_getElem? (i := 2) rfl))))))) hP q_15 heq_15 (hK.2 0 _ rfl).2 dX6_sum_40 ?_
        refine lv_iload_n hx hb dX6_sum_43 rfl (lv_at hl 3 rfl) ?_
        obtain ⟨q_16, wq_16, heq_16⟩ := heM_Row (cy := cy) (I := I) (D := D) hM (f_get1_lt g_13)
        obtain ⟨h_17, hf⟩ := ck_out hf
        refine va_iald (n := 5) (f := I (14 + r_12)) hx hb hK hP q_16 0 heq_16 rfl (inB_in h_17) dX6_sum_44 ?_
        refine lv_imul hx hb dX6_sum_45 ?_
        refine lv_iadd hx hb dX6_sum_46 ?_
        refine lv_istore_n (lv' := [(2, .int (x2_4 + ((I (25 + k0) (x3_4).toNatClampNeg) * (I (14 + r_12) (p1).toNatClampNeg)))), (3, .int x3_4), (0, .ref (ad (20 + k0))), (1, .int p1)]) hx hb dX6_sum_47 rfl hl (by decide) rfl (fun ls hl => ?_)
        refine lv_iinc (v := (x3_4 + 1)) (lv' := [(3, .int (x3_4 + 1)), (2, .int (x2_4 + ((I (25 + k0) (x3_4).toNatClampNeg) * (I (14 + r_12) (p1).toNatClampNeg)))), (0, .ref (ad (20 + k0))), (1, .int p1)]) hx hb dX6_sum_48 hl (k := 1) rfl rfl (by decide) rfl (fun ls hl => ?_)
        refine lv_goto (tgt := 4) hx hb dX6_sum_51 (by decide) ?_
        exact ih4 (x3_4 + 1) (x2_4 + ((I (25 + k0) (x3_4).toNatClampNeg) * (I (14 + r_12) (p1).toNatClampNeg))) hf _ _ _ hP hS (lv_sub hl [0, 1, 2, 3] rfl)
  exact L4 200 0 0 hf _ _ _ hP hS (lv_sub hl [0, 1, 2, 3] rfl)

def f_X6_part (a b : Nat) (I : Nat → Nat → Int32) (D : Nat → Nat → UInt64) (k0 : Nat) (p1 : Int32) : Option (UInt64) :=
  bd (f_X6_sum a b I D k0 p1) (fun r_1 => bd (f_X6_all a b I D k0) (fun r_4 => ck (okD (FP.ddiv (FP.i2d r_1) (FP.i2d r_4))) (ck (okD (FP.ddiv (FP.ddiv (FP.i2d r_1) (FP.i2d r_4)) (4621819117588971520 : UInt64))) (some (FP.ddiv (FP.ddiv (FP.i2d r_1) (FP.i2d r_4)) (4621819117588971520 : UInt64))))))
set_option maxHeartbeats 4000000 in
set_option maxRecDepth 100000 in
theorem mt_X6_part (l : Launch) (dC : Nat → ClassId) (dI : Nat → Nat → Nat) (L : List Nat) (a b : Nat) (ad : Nat → Nat) (cy : Nat → ClassId) (hM : mOK L a b ad) (sz : Nat) (I : Nat → Nat → Int32) (D : Nat → Nat → UInt64) (k0 : Nat) (hk0 : k0 < b) (p1 : Int32) (rr : UInt64) (hf : f_X6_part a b I D k0 p1 = some rr) : Met l yX6_part wsX6_part ({ frames := 5, cells := 0, slots := 0, locals := 157 }) (va_Pc [.ref (ad (20 + k0)), .int p1] (fun U => U.heap.size = sz ∧ wM dC dI L a b ad cy I D U)) (va_Qd (fun r (_ : Unit) => rr = r) (fun _ _ => True) (fun q => sz ≤ q)) 0 0 (fun q => sz ≤ q) := by
  refine Met.ofW (cc := cX6_part) (maxL := 2) (ret := (some .double)) (by decide) rfl ?_
  intro p e s m args below meth c s₁ B hml hv
  obtain ⟨rfl, hsz, hP, hK, hN⟩ := hv
  have hx := B.exec
  have hb := B.bytes
  have hr := B.returns
  have hts := atoms_spec (ws := wsX6_part) B.pre
  have hown : s.vm.findClass RX6 = some m.cls := findClass_of_methodNamed B.named
  have hlocks := B.notSynchronized
  subst hsz
  generalize hAe : (fun q : Nat => s.heap.size ≤ q) = A
  have hA : ∀ q : Nat, s.heap.size ≤ q → A q := fun q h => by rw [← hAe]; exact h
  obtain ⟨H, hH⟩ : ∃ H : Heap, H = s.heap := ⟨_, rfl⟩
  have hS : va_S A s.heap H [] := by rw [hH]; exact va_S.rf
  rw [← hH]
  rw [← hH] at hP
  have hl := lv_entry ([.ref (ad (20 + k0)), .int p1]) (n := 2) (Nat.le_of_ble_eq_true rfl)
  rw [lg_entry_eq]
  generalize (lg_sl ([.ref (ad (20 + k0)), .int p1]) ++ List.replicate (2 - (lg_sl ([.ref (ad (20 + k0)), .int p1])).length) Slot.unset).toArray = ls at hl ⊢
  have hl : lv_has ls 2 [(0, .ref (ad (20 + k0))), (1, .int p1)] := hl
  unfold f_X6_part at hf
  refine lv_aload_n hx hb dX6_part_0 rfl (lv_at hl 0 rfl) ?_
  refine lv_iload_n hx hb dX6_part_1 rfl (lv_at hl 1 rfl) ?_
  obtain ⟨r_1, g_2, hf⟩ := bd_out hf
  obtain ⟨q_3, wq_3, heq_3⟩ := heM_Mixx (cy := cy) (I := I) (D := D) hM hk0
  refine va_calli (va_runV (As := [.int p1]) (rest := []) ⟨hx, hb, hml, hown, hts⟩ (mt_X6_sum l dC dI L a b ad cy hM H.size I D k0 hk0 p1 r_1 g_2) (cwV 1 hts gX6_part_X6_sum rfl rfl rfl (by decide +kernel) ⟨Nat.le_of_ble_eq_true rfl, Nat.le_of_ble_eq_true rfl⟩) ⟨(wM.pre [.ref (ad (20 + k0)), .int p1] hP hK hN).1, wM.recv (C := RX6) (T := TX6) (N := 5) hP hK heq_3 rfl, (wM.pre [.ref (ad (20 + k0)), .int p1] hP hK hN).2⟩ rfl rfl hl.1 rfl (lv_room (Nat.le_of_ble_eq_true rfl)) dX6_part_2 ⟨Nat.le_of_ble_eq_true rfl, Nat.le_of_ble_eq_true rfl⟩) hS (fun q _ h => hA q (Nat.le_trans hS.1 h)) (fun q h => hA q (Nat.le_trans hS.1 h)) (fun r9 u t H1 locs ht hvm hw hB hz1 hk1 hS => ?_)
  subst hw
  have hP := va_Pnew hP hk1
  clear hz1 hk1 hvm ht hB
  generalize H1 = H at hP hS ⊢
  refine lv_i2d hx hb dX6_part_5 ?_
  refine lv_aload_n hx hb dX6_part_6 rfl (lv_at hl 0 rfl) ?_
  obtain ⟨r_4, g_5, hf⟩ := bd_out hf
  obtain ⟨q_6, wq_6, heq_6⟩ := heM_Mixx (cy := cy) (I := I) (D := D) hM hk0
  refine va_calli (va_runV (As := []) (rest := [.double (FP.i2d r_1)]) ⟨hx, hb, hml, hown, hts⟩ (mt_X6_all l dC dI L a b ad cy hM H.size I D k0 hk0 r_4 g_5) (cwV 0 hts gX6_part_X6_all rfl rfl rfl (by decide +kernel) ⟨Nat.le_of_ble_eq_true rfl, Nat.le_of_ble_eq_true rfl⟩) ⟨(wM.pre [.ref (ad (20 + k0))] hP hK hN).1, wM.recv (C := RX6) (T := TX6) (N := 5) hP hK heq_6 rfl, (wM.pre [.ref (ad (20 + k0))] hP hK hN).2⟩ rfl rfl hl.1 rfl (lv_room (Nat.le_of_ble_eq_true rfl)) dX6_part_7 ⟨Nat.le_of_ble_eq_true rfl, Nat.le_of_ble_eq_true rfl⟩) hS (fun q _ h => hA q (Nat.le_trans hS.1 h)) (fun q h => hA q (Nat.le_trans hS.1 h)) (fun r9 u t H1 locs ht hvm hw hB hz1 hk1 hS => ?_)
  subst hw
  have hP := va_Pnew hP hk1
  clear hz1 hk1 hvm ht hB
  generalize H1 = H at hP hS ⊢
  refine lv_i2d hx hb dX6_part_10 ?_
  obtain ⟨h_7, hf⟩ := ck_out hf
  refine lv_ddiv hx hb dX6_part_11 (okD_n h_7) ?_
  refine lv_ldc2d (v := 4621819117588971520) hx hb hown (hts (.constantDouble RX6 49 (4621819117588971520)) (List.mem_cons_of_mem _ (List.mem_append_left _ (List.mem_append_left _ (List.mem_append_left _ (List.mem_append_left _ (List.mem_of_getElem? (i := 0) rfl))))))) dX6_part_12 ?_
  obtain ⟨h_8, hf⟩ := ck_out hf
  refine lv_ddiv hx hb dX6_part_15 (okD_n h_8) ?_
  have hf := Option.some.inj hf
  have q1 := hf
  exact W.dret (v := (FP.ddiv (FP.ddiv (FP.i2d r_1) (FP.i2d r_4)) (4621819117588971520 : UInt64))) hx hb hr (fun t ht hW9 => ⟨⟨(FP.ddiv (FP.ddiv (FP.i2d r_1) (FP.i2d r_4)) (4621819117588971520 : UInt64)), (), rfl, q1.symm, trivial⟩, hS.F ht⟩) hS.2.2 dX6_part_16

def f_X6_freezes (a b : Nat) (I : Nat → Nat → Int32) (D : Nat → Nat → UInt64) (k0 : Nat) : Option (UInt64) :=
  bd (f_X6_part a b I D k0 2) (fun r_1 => ck (okD (FP.dmul r_1 (4589168020290535424 : UInt64))) (bd (f_X6_part a b I D k0 1) (fun r_5 => ck (okD (FP.dmul r_5 (4584664420663164928 : UInt64))) (ck (okD (FP.dadd (FP.dmul r_1 (4589168020290535424 : UInt64)) (FP.dmul r_5 (4584664420663164928 : UInt64)))) (some (FP.dneg (FP.dadd (FP.dmul r_1 (4589168020290535424 : UInt64)) (FP.dmul r_5 (4584664420663164928 : UInt64)))))))))
set_option maxHeartbeats 4000000 in
set_option maxRecDepth 100000 in
theorem mt_X6_freezes (l : Launch) (dC : Nat → ClassId) (dI : Nat → Nat → Nat) (L : List Nat) (a b : Nat) (ad : Nat → Nat) (cy : Nat → ClassId) (hM : mOK L a b ad) (sz : Nat) (I : Nat → Nat → Int32) (D : Nat → Nat → UInt64) (k0 : Nat) (hk0 : k0 < b) (rr : UInt64) (hf : f_X6_freezes a b I D k0 = some rr) : Met l yX6_freezes wsX6_freezes ({ frames := 6, cells := 0, slots := 0, locals := 178 }) (va_Pc [.ref (ad (20 + k0))] (fun U => U.heap.size = sz ∧ wM dC dI L a b ad cy I D U)) (va_Qd (fun r (_ : Unit) => rr = r) (fun _ _ => True) (fun q => sz ≤ q)) 0 0 (fun q => sz ≤ q) := by
  refine Met.ofW (cc := cX6_freezes) (maxL := 1) (ret := (some .double)) (by decide) rfl ?_
  intro p e s m args below meth c s₁ B hml hv
  obtain ⟨rfl, hsz, hP, hK, hN⟩ := hv
  have hx := B.exec
  have hb := B.bytes
  have hr := B.returns
  have hts := atoms_spec (ws := wsX6_freezes) B.pre
  have hown : s.vm.findClass RX6 = some m.cls := findClass_of_methodNamed B.named
  have hlocks := B.notSynchronized
  subst hsz
  generalize hAe : (fun q : Nat => s.heap.size ≤ q) = A
  have hA : ∀ q : Nat, s.heap.size ≤ q → A q := fun q h => by rw [← hAe]; exact h
  obtain ⟨H, hH⟩ : ∃ H : Heap, H = s.heap := ⟨_, rfl⟩
  have hS : va_S A s.heap H [] := by rw [hH]; exact va_S.rf
  rw [← hH]
  rw [← hH] at hP
  have hl := lv_entry ([.ref (ad (20 + k0))]) (n := 1) (Nat.le_of_ble_eq_true rfl)
  rw [lg_entry_eq]
  generalize (lg_sl ([.ref (ad (20 + k0))]) ++ List.replicate (1 - (lg_sl ([.ref (ad (20 + k0))])).length) Slot.unset).toArray = ls at hl ⊢
  have hl : lv_has ls 1 [(0, .ref (ad (20 + k0)))] := hl
  unfold f_X6_freezes at hf
  refine lv_aload_n hx hb dX6_freezes_0 rfl (lv_at hl 0 rfl) ?_
  refine lv_iconst (v := 2) hx hb dX6_freezes_1 (by decide) ?_
  obtain ⟨r_1, g_2, hf⟩ := bd_out hf
  obtain ⟨q_3, wq_3, heq_3⟩ := heM_Mixx (cy := cy) (I := I) (D := D) hM hk0
  refine va_calld (va_runV (As := [.int 2]) (rest := []) ⟨hx, hb, hml, hown, hts⟩ (mt_X6_part l dC dI L a b ad cy hM H.size I D k0 hk0 2 r_1 g_2) (cwV 1 hts gX6_freezes_X6_part rfl rfl rfl (by decide +kernel) ⟨Nat.le_of_ble_eq_true rfl, Nat.le_of_ble_eq_true rfl⟩) ⟨(wM.pre [.ref (ad (20 + k0)), .int 2] hP hK hN).1, wM.recv (C := RX6) (T := TX6) (N := 5) hP hK heq_3 rfl, (wM.pre [.ref (ad (20 + k0)), .int 2] hP hK hN).2⟩ rfl rfl hl.1 rfl (lv_room (Nat.le_of_ble_eq_true rfl)) dX6_freezes_2 ⟨Nat.le_of_ble_eq_true rfl, Nat.le_of_ble_eq_true rfl⟩) hS (fun q _ h => hA q (Nat.le_trans hS.1 h)) (fun q h => hA q (Nat.le_trans hS.1 h)) (fun r9 u t H1 locs ht hvm hw hB hz1 hk1 hS => ?_)
  subst hw
  have hP := va_Pnew hP hk1
  clear hz1 hk1 hvm ht hB
  generalize H1 = H at hP hS ⊢
  refine lv_ldc2d (v := 4589168020290535424) hx hb hown (hts (.constantDouble RX6 55 (4589168020290535424)) (List.mem_cons_of_mem _ (List.mem_append_left _ (List.mem_append_left _ (List.mem_append_left _ (List.mem_append_left _ (List.mem_of_getElem? (i := 0) rfl))))))) dX6_freezes_5 ?_
  obtain ⟨h_4, hf⟩ := ck_out hf
  refine lv_dmul hx hb dX6_freezes_8 (okD_n h_4) ?_
  refine lv_aload_n hx hb dX6_freezes_9 rfl (lv_at hl 0 rfl) ?_
  refine lv_iconst (v := 1) hx hb dX6_freezes_10 (by decide) ?_
  obtain ⟨r_5, g_6, hf⟩ := bd_out hf
  obtain ⟨q_7, wq_7, heq_7⟩ := heM_Mixx (cy := cy) (I := I) (D := D) hM hk0
  refine va_calld (va_runV (As := [.int 1]) (rest := [.double (FP.dmul r_1 (4589168020290535424 : UInt64))]) ⟨hx, hb, hml, hown, hts⟩ (mt_X6_part l dC dI L a b ad cy hM H.size I D k0 hk0 1 r_5 g_6) (cwV 1 hts gX6_freezes_X6_part rfl rfl rfl (by decide +kernel) ⟨Nat.le_of_ble_eq_true rfl, Nat.le_of_ble_eq_true rfl⟩) ⟨(wM.pre [.ref (ad (20 + k0)), .int 1] hP hK hN).1, wM.recv (C := RX6) (T := TX6) (N := 5) hP hK heq_7 rfl, (wM.pre [.ref (ad (20 + k0)), .int 1] hP hK hN).2⟩ rfl rfl hl.1 rfl (lv_room (Nat.le_of_ble_eq_true rfl)) dX6_freezes_11 ⟨Nat.le_of_ble_eq_true rfl, Nat.le_of_ble_eq_true rfl⟩) hS (fun q _ h => hA q (Nat.le_trans hS.1 h)) (fun q h => hA q (Nat.le_trans hS.1 h)) (fun r9 u t H1 locs ht hvm hw hB hz1 hk1 hS => ?_)
  subst hw
  have hP := va_Pnew hP hk1
  clear hz1 hk1 hvm ht hB
  generalize H1 = H at hP hS ⊢
  refine lv_ldc2d (v := 4584664420663164928) hx hb hown (hts (.constantDouble RX6 57 (4584664420663164928)) (List.mem_cons_of_mem _ (List.mem_append_left _ (List.mem_append_left _ (List.mem_append_left _ (List.mem_append_left _ (List.mem_of_getElem? (i := 1) rfl))))))) dX6_freezes_14 ?_
  obtain ⟨h_8, hf⟩ := ck_out hf
  refine lv_dmul hx hb dX6_freezes_17 (okD_n h_8) ?_
  obtain ⟨h_9, hf⟩ := ck_out hf
  refine lv_dadd hx hb dX6_freezes_18 (okD_n h_9) ?_
  refine lv_dneg hx hb dX6_freezes_19 ?_
  have hf := Option.some.inj hf
  have q1 := hf
  exact W.dret (v := (FP.dneg (FP.dadd (FP.dmul r_1 (4589168020290535424 : UInt64)) (FP.dmul r_5 (4584664420663164928 : UInt64))))) hx hb hr (fun t ht hW9 => ⟨⟨(FP.dneg (FP.dadd (FP.dmul r_1 (4589168020290535424 : UInt64)) (FP.dmul r_5 (4584664420663164928 : UInt64)))), (), rfl, q1.symm, trivial⟩, hS.F ht⟩) hS.2.2 dX6_freezes_20

def f_X6_ice (a b : Nat) (I : Nat → Nat → Int32) (D : Nat → Nat → UInt64) (k0 : Nat) (p1 : UInt64) : Option (UInt64) :=
  bd (f_X6_freezes a b I D k0) (fun r_1 => (if 0 ≤ (Op.cmpValue (FP.dcmp p1 r_1) CmpOp.g) then some FP.dconst0 else ck (okD (FP.ddiv r_1 p1)) (ck (okD (FP.dsub FP.dconst1 (FP.ddiv r_1 p1))) (some (FP.dsub FP.dconst1 (FP.ddiv r_1 p1))))))
set_option maxHeartbeats 4000000 in
set_option maxRecDepth 100000 in
theorem mt_X6_ice (l : Launch) (dC : Nat → ClassId) (dI : Nat → Nat → Nat) (L : List Nat) (a b : Nat) (ad : Nat → Nat) (cy : Nat → ClassId) (hM : mOK L a b ad) (sz : Nat) (I : Nat → Nat → Int32) (D : Nat → Nat → UInt64) (k0 : Nat) (hk0 : k0 < b) (p1 : UInt64) (rr : UInt64) (hf : f_X6_ice a b I D k0 p1 = some rr) : Met l yX6_ice wsX6_ice ({ frames := 7, cells := 0, slots := 0, locals := 198 }) (va_Pc [.ref (ad (20 + k0)), .double p1] (fun U => U.heap.size = sz ∧ wM dC dI L a b ad cy I D U)) (va_Qd (fun r (_ : Unit) => rr = r) (fun _ _ => True) (fun q => sz ≤ q)) 0 0 (fun q => sz ≤ q) := by
  refine Met.ofW (cc := cX6_ice) (maxL := 5) (ret := (some .double)) (by decide) rfl ?_
  intro p e s m args below meth c s₁ B hml hv
  obtain ⟨rfl, hsz, hP, hK, hN⟩ := hv
  have hx := B.exec
  have hb := B.bytes
  have hr := B.returns
  have hts := atoms_spec (ws := wsX6_ice) B.pre
  have hown : s.vm.findClass RX6 = some m.cls := findClass_of_methodNamed B.named
  have hlocks := B.notSynchronized
  subst hsz
  generalize hAe : (fun q : Nat => s.heap.size ≤ q) = A
  have hA : ∀ q : Nat, s.heap.size ≤ q → A q := fun q h => by rw [← hAe]; exact h
  obtain ⟨H, hH⟩ : ∃ H : Heap, H = s.heap := ⟨_, rfl⟩
  have hS : va_S A s.heap H [] := by rw [hH]; exact va_S.rf
  rw [← hH]
  rw [← hH] at hP
  have hl := lv_entry ([.ref (ad (20 + k0)), .double p1]) (n := 5) (Nat.le_of_ble_eq_true rfl)
  rw [lg_entry_eq]
  generalize (lg_sl ([.ref (ad (20 + k0)), .double p1]) ++ List.replicate (5 - (lg_sl ([.ref (ad (20 + k0)), .double p1])).length) Slot.unset).toArray = ls at hl ⊢
  have hl : lv_has ls 5 [(0, .ref (ad (20 + k0))), (1, .double p1)] := hl
  unfold f_X6_ice at hf
  refine lv_aload_n hx hb dX6_ice_0 rfl (lv_at hl 0 rfl) ?_
  obtain ⟨r_1, g_2, hf⟩ := bd_out hf
  obtain ⟨q_3, wq_3, heq_3⟩ := heM_Mixx (cy := cy) (I := I) (D := D) hM hk0
  refine va_calld (va_runV (As := []) (rest := []) ⟨hx, hb, hml, hown, hts⟩ (mt_X6_freezes l dC dI L a b ad cy hM H.size I D k0 hk0 r_1 g_2) (cwV 0 hts gX6_ice_X6_freezes rfl rfl rfl (by decide +kernel) ⟨Nat.le_of_ble_eq_true rfl, Nat.le_of_ble_eq_true rfl⟩) ⟨(wM.pre [.ref (ad (20 + k0))] hP hK hN).1, wM.recv (C := RX6) (T := TX6) (N := 5) hP hK heq_3 rfl, (wM.pre [.ref (ad (20 + k0))] hP hK hN).2⟩ rfl rfl hl.1 rfl (lv_room (Nat.le_of_ble_eq_true rfl)) dX6_ice_1 ⟨Nat.le_of_ble_eq_true rfl, Nat.le_of_ble_eq_true rfl⟩) hS (fun q _ h => hA q (Nat.le_trans hS.1 h)) (fun q h => hA q (Nat.le_trans hS.1 h)) (fun r9 u t H1 locs ht hvm hw hB hz1 hk1 hS => ?_)
  subst hw
  have hP := va_Pnew hP hk1
  clear hz1 hk1 hvm ht hB
  generalize H1 = H at hP hS ⊢
  refine lv_dstore_n (lv' := [(3, .double r_1), (0, .ref (ad (20 + k0))), (1, .double p1)]) hx hb dX6_ice_4 rfl hl (by decide) rfl (fun ls hl => ?_)
  refine lv_dload_n hx hb dX6_ice_5 rfl (lv_at hl 2 rfl) ?_
  refine lv_dload_n hx hb dX6_ice_6 rfl (lv_at hl 0 rfl) ?_
  refine lv_dcmp hx hb dX6_ice_7 ?_
  refine lv_if_ge (tgt := 19) hx hb dX6_ice_8 (by decide) (fun c_4 => ?_) (fun c_4 => ?_)
  · have hf := it_t hf c_4
    refine lv_dconst0 hx hb dX6_ice_19 ?_
    have hf := Option.some.inj hf
    have q1 := hf
    exact W.dret (v := FP.dconst0) hx hb hr (fun t ht hW9 => ⟨⟨FP.dconst0, (), rfl, q1.symm, trivial⟩, hS.F ht⟩) hS.2.2 dX6_ice_20
  · have hf := it_f hf c_4
    refine lv_dconst1 hx hb dX6_ice_11 ?_
    refine lv_dload_n hx hb dX6_ice_12 rfl (lv_at hl 0 rfl) ?_
    refine lv_dload_n hx hb dX6_ice_13 rfl (lv_at hl 2 rfl) ?_
    obtain ⟨h_5, hf⟩ := ck_out hf
    refine lv_ddiv hx hb dX6_ice_14 (okD_n h_5) ?_
    obtain ⟨h_6, hf⟩ := ck_out hf
    refine lv_dsub hx hb dX6_ice_15 (okD_n h_6) ?_
    refine lv_goto (tgt := 20) hx hb dX6_ice_16 (by decide) ?_
    have hf := Option.some.inj hf
    have q1 := hf
    exact W.dret (v := (FP.dsub FP.dconst1 (FP.ddiv r_1 p1))) hx hb hr (fun t ht hW9 => ⟨⟨(FP.dsub FP.dconst1 (FP.ddiv r_1 p1)), (), rfl, q1.symm, trivial⟩, hS.F ht⟩) hS.2.2 dX6_ice_20

def f_X6_set_L4 (I : Nat → Nat → Int32) (k0 : Nat) : Nat → Int32 → Int32 → Option (Int32)
  | 0, _, _ => none
  | n4 + 1, x2_4, x1_4 => (if 6 ≤ x2_4 then some x1_4 else ck (inB x2_4 6) ((if (I (25 + k0) (x2_4).toNatClampNeg) ≤ 0 then f_X6_set_L4 I k0 n4 (x2_4 + 1) (x1_4 ||| 0) else f_X6_set_L4 I k0 n4 (x2_4 + 1) (x1_4 ||| (1 <<< (x2_4 &&& 31))))))
def f_X6_set (a b : Nat) (I : Nat → Nat → Int32) (D : Nat → Nat → UInt64) (k0 : Nat) : Option (Int32) :=
  f_X6_set_L4 I k0 200 0 0
theorem iX6_set_RX6 : ∀ w ∈ u_ws RX6 TX6 5, w ∈ wsX6_set := fun w h => List.mem_cons_of_mem _ (List.mem_append_right _ (h))
set_option maxHeartbeats 4000000 in
set_option maxRecDepth 100000 in
theorem mt_X6_set (l : Launch) (dC : Nat → ClassId) (dI : Nat → Nat → Nat) (L : List Nat) (a b : Nat) (ad : Nat → Nat) (cy : Nat → ClassId) (hM : mOK L a b ad) (sz : Nat) (I : Nat → Nat → Int32) (D : Nat → Nat → UInt64) (k0 : Nat) (hk0 : k0 < b) (rr : Int32) (hf : f_X6_set a b I D k0 = some rr) : Met l yX6_set wsX6_set ({ frames := 0, cells := 0, slots := 0, locals := 0 }) (va_Pc [.ref (ad (20 + k0))] (fun U => U.heap.size = sz ∧ wM dC dI L a b ad cy I D U)) (va_Qi (fun r (_ : Unit) => rr = r) (fun _ _ => True) (fun q => sz ≤ q)) 0 0 (fun q => sz ≤ q) := by
  refine Met.ofW (cc := cX6_set) (maxL := 3) (ret := (some .int)) (by decide) rfl ?_
  intro p e s m args below meth c s₁ B hml hv
  obtain ⟨rfl, hsz, hP, hK, hN⟩ := hv
  have hx := B.exec
  have hb := B.bytes
  have hr := B.returns
  have hts := atoms_spec (ws := wsX6_set) B.pre
  have hown : s.vm.findClass RX6 = some m.cls := findClass_of_methodNamed B.named
  have hlocks := B.notSynchronized
  subst hsz
  generalize hAe : (fun q : Nat => s.heap.size ≤ q) = A
  have hA : ∀ q : Nat, s.heap.size ≤ q → A q := fun q h => by rw [← hAe]; exact h
  obtain ⟨H, hH⟩ : ∃ H : Heap, H = s.heap := ⟨_, rfl⟩
  have hS : va_S A s.heap H [] := by rw [hH]; exact va_S.rf
  rw [← hH]
  rw [← hH] at hP
  have hl := lv_entry ([.ref (ad (20 + k0))]) (n := 3) (Nat.le_of_ble_eq_true rfl)
  rw [lg_entry_eq]
  generalize (lg_sl ([.ref (ad (20 + k0))]) ++ List.replicate (3 - (lg_sl ([.ref (ad (20 + k0))])).length) Slot.unset).toArray = ls at hl ⊢
  have hl : lv_has ls 3 [(0, .ref (ad (20 + k0)))] := hl
  unfold f_X6_set at hf
  refine lv_iconst (v := 0) hx hb dX6_set_0 (by decide) ?_
  refine lv_istore_n (lv' := [(1, .int 0), (0, .ref (ad (20 + k0)))]) hx hb dX6_set_1 rfl hl (by decide) rfl (fun ls hl => ?_)
  refine lv_iconst (v := 0) hx hb dX6_set_2 (by decide) ?_
  refine lv_istore_n (lv' := [(2, .int 0), (1, .int 0), (0, .ref (ad (20 + k0)))]) hx hb dX6_set_3 rfl hl (by decide) rfl (fun ls hl => ?_)
  have L4 : ∀ (n4 : Nat) (x2_4 : Int32) (x1_4 : Int32), f_X6_set_L4 I k0 n4 x2_4 x1_4 = some rr → ∀ (H : Heap) (locs : List Loc) (ls : Array Slot), va_P (dC, dI) vwCl (iwM L a b ad cy I D) H → va_S A s.heap H locs → lv_has ls 3 [(2, .int x2_4), (1, .int x1_4), (0, .ref (ad (20 + k0)))] → W p l e (headSpec wsX6_set ({ frames := 0, cells := 0, slots := 0, locals := 0 })).room s m ([.ref (ad (20 + k0))] : List Value).toArray below meth c H locs 0 0 (MQ below (va_Qi (fun r (_ : Unit) => rr = r) (fun _ _ => True) A) ([.ref (ad (20 + k0))] : List Value).toArray s 0 0 A) (F0 m 4 ls []) := by
    intro n4
    induction n4 with
    | zero => intro x2_4 x1_4 hf; exact nomatch hf
    | succ n4 ih4 =>
      intro x2_4 x1_4 hf H locs ls hP hS hl
      unfold f_X6_set_L4 at hf
      refine lv_iload_n hx hb dX6_set_4 rfl (lv_at hl 0 rfl) ?_
      refine lv_bipush (v := 6) hx hb dX6_set_5 (by decide) ?_
      refine lv_icmp_ge (tgt := 35) hx hb dX6_set_7 (by decide) (fun c_1 => ?_) (fun c_1 => ?_)
      · have hf := it_t hf c_1
        refine lv_iload_n hx hb dX6_set_35 rfl (lv_at hl 1 rfl) ?_
        have hf := Option.some.inj hf
        have q1 := hf
        exact W.iret (v := x1_4) hx hb hr (fun t ht hW9 => ⟨⟨x1_4, (), rfl, q1.symm, trivial⟩, hS.F ht⟩) hS.2.2 dX6_set_36
      · have hf := it_f hf c_1
        refine lv_iload_n hx hb dX6_set_10 rfl (lv_at hl 1 rfl) ?_
        refine lv_aload_n hx hb dX6_set_11 rfl (lv_at hl 2 rfl) ?_
        obtain ⟨q_2, wq_2, heq_2⟩ := heM_Mixx (cy := cy) (I := I) (D := D) hM hk0
        refine va_get (D := (dC, dI)) (ci := 7) (v := .ref (ad (25 + k0))) (C := RX6) (T := TX6) (N := 5) hx hb hts iX6_set_RX6 hown hK hP q_2 heq_2 rfl 0 (by decide) (hts (.fieldLink RX6 15 "OverrunHouseModel$Mix" "kilos" "[I") (List.mem_cons_of_mem _ (List.mem_append_left _ (List.mem_of_getElem? (i := 0) rfl)))) (fun _ h9 => h9) rfl dX6_set_12 ?_
        refine lv_iload_n hx hb dX6_set_15 rfl (lv_at hl 0 rfl) ?_
        obtain ⟨q_3, wq_3, heq_3⟩ := heM_Kilos (cy := cy) (I := I) (D := D) hM hk0
        obtain ⟨h_4, hf⟩ := ck_out hf
        refine va_iald (n := 6) (f := I (25 + k0)) hx hb hK hP q_3 0 heq_3 rfl (inB_in h_4) dX6_set_16 ?_
        refine lv_if_le (tgt := 26) hx hb dX6_set_17 (by decide) (fun c_5 => ?_) (fun c_5 => ?_)
        · have hf := it_t hf c_5
          refine lv_iconst (v := 0) hx hb dX6_set_26 (by decide) ?_
          refine lv_ior hx hb dX6_set_27 ?_
          refine lv_istore_n (lv' := [(1, .int (x1_4 ||| 0)), (2, .int x2_4), (0, .ref (ad (20 + k0)))]) hx hb dX6_set_28 rfl hl (by decide) rfl (fun ls hl => ?_)
          refine lv_iinc (v := (x2_4 + 1)) (lv' := [(2, .int (x2_4 + 1)), (1, .int (x1_4 ||| 0)), (0, .ref (ad (20 + k0)))]) hx hb dX6_set_29 hl (k := 1) rfl rfl (by decide) rfl (fun ls hl => ?_)
          refine lv_goto (tgt := 4) hx hb dX6_set_32 (by decide) ?_
          exact ih4 (x2_4 + 1) (x1_4 ||| 0) hf _ _ _ hP hS (lv_sub hl [0, 1, 2] rfl)
        · have hf := it_f hf c_5
          refine lv_iconst (v := 1) hx hb dX6_set_20 (by decide) ?_
          refine lv_iload_n hx hb dX6_set_21 rfl (lv_at hl 0 rfl) ?_
          refine lv_ishl hx hb dX6_set_22 ?_
          refine lv_goto (tgt := 27) hx hb dX6_set_23 (by decide) ?_
          refine lv_ior hx hb dX6_set_27 ?_
          refine lv_istore_n (lv' := [(1, .int (x1_4 ||| (1 <<< (x2_4 &&& 31)))), (2, .int x2_4), (0, .ref (ad (20 + k0)))]) hx hb dX6_set_28 rfl hl (by decide) rfl (fun ls hl => ?_)
          refine lv_iinc (v := (x2_4 + 1)) (lv' := [(2, .int (x2_4 + 1)), (1, .int (x1_4 ||| (1 <<< (x2_4 &&& 31)))), (0, .ref (ad (20 + k0)))]) hx hb dX6_set_29 hl (k := 1) rfl rfl (by decide) rfl (fun ls hl => ?_)
          refine lv_goto (tgt := 4) hx hb dX6_set_32 (by decide) ?_
          exact ih4 (x2_4 + 1) (x1_4 ||| (1 <<< (x2_4 &&& 31))) hf _ _ _ hP hS (lv_sub hl [0, 1, 2] rfl)
  exact L4 200 0 0 hf _ _ _ hP hS (lv_sub hl [0, 1, 2] rfl)

def f_X6_harms_L4 (a : Nat) (b : Nat) (I : Nat → Nat → Int32) (D : Nat → Nat → UInt64) (k0 : Nat) : Nat → Int32 → Int32 → Option (Int32)
  | 0, _, _ => none
  | n4 + 1, x2_4, x1_4 => bd (f_size1 a b I D ) (fun r_3 => (if r_3 ≤ x2_4 then some x1_4 else ck (inB x2_4 6) ((if (I (25 + k0) (x2_4).toNatClampNeg) ≤ 0 then f_X6_harms_L4 a b I D k0 n4 (x2_4 + 1) (x1_4 ||| 0) else bd (f_get1 a b I D x2_4) (fun r_13 => ck (inB 4 5) (f_X6_harms_L4 a b I D k0 n4 (x2_4 + 1) (x1_4 ||| (I (14 + r_13) (4 : Int32).toNatClampNeg))))))))
def f_X6_harms (a b : Nat) (I : Nat → Nat → Int32) (D : Nat → Nat → UInt64) (k0 : Nat) : Option (Int32) :=
  f_X6_harms_L4 a b I D k0 200 0 0
theorem iX6_harms_RX7 : ∀ w ∈ u_ws RX7 TX7 9, w ∈ wsX6_harms := fun w h => List.mem_cons_of_mem _ (List.mem_append_left _ (List.mem_append_right _ (h)))
theorem iX6_harms_RX6 : ∀ w ∈ u_ws RX6 TX6 5, w ∈ wsX6_harms := fun w h => List.mem_cons_of_mem _ (List.mem_append_left _ (List.mem_append_left _ (List.mem_append_right _ (h))))
set_option maxHeartbeats 4000000 in
set_option maxRecDepth 100000 in
theorem mt_X6_harms (l : Launch) (dC : Nat → ClassId) (dI : Nat → Nat → Nat) (L : List Nat) (a b : Nat) (ad : Nat → Nat) (cy : Nat → ClassId) (hM : mOK L a b ad) (sz : Nat) (I : Nat → Nat → Int32) (D : Nat → Nat → UInt64) (k0 : Nat) (hk0 : k0 < b) (rr : Int32) (hf : f_X6_harms a b I D k0 = some rr) : Met l yX6_harms wsX6_harms ({ frames := 4, cells := 0, slots := 0, locals := 134 }) (va_Pc [.ref (ad (20 + k0))] (fun U => U.heap.size = sz ∧ wM dC dI L a b ad cy I D U)) (va_Qi (fun r (_ : Unit) => rr = r) (fun _ _ => True) (fun q => sz ≤ q)) 0 0 (fun q => sz ≤ q) := by
  refine Met.ofW (cc := cX6_harms) (maxL := 3) (ret := (some .int)) (by decide) rfl ?_
  intro p e s m args below meth c s₁ B hml hv
  obtain ⟨rfl, hsz, hP, hK, hN⟩ := hv
  have hx := B.exec
  have hb := B.bytes
  have hr := B.returns
  have hts := atoms_spec (ws := wsX6_harms) B.pre
  have hown : s.vm.findClass RX6 = some m.cls := findClass_of_methodNamed B.named
  have hlocks := B.notSynchronized
  subst hsz
  generalize hAe : (fun q : Nat => s.heap.size ≤ q) = A
  have hA : ∀ q : Nat, s.heap.size ≤ q → A q := fun q h => by rw [← hAe]; exact h
  obtain ⟨H, hH⟩ : ∃ H : Heap, H = s.heap := ⟨_, rfl⟩
  have hS : va_S A s.heap H [] := by rw [hH]; exact va_S.rf
  rw [← hH]
  rw [← hH] at hP
  have hl := lv_entry ([.ref (ad (20 + k0))]) (n := 3) (Nat.le_of_ble_eq_true rfl)
  rw [lg_entry_eq]
  generalize (lg_sl ([.ref (ad (20 + k0))]) ++ List.replicate (3 - (lg_sl ([.ref (ad (20 + k0))])).length) Slot.unset).toArray = ls at hl ⊢
  have hl : lv_has ls 3 [(0, .ref (ad (20 + k0)))] := hl
  unfold f_X6_harms at hf
  refine lv_iconst (v := 0) hx hb dX6_harms_0 (by decide) ?_
  refine lv_istore_n (lv' := [(1, .int 0), (0, .ref (ad (20 + k0)))]) hx hb dX6_harms_1 rfl hl (by decide) rfl (fun ls hl => ?_)
  refine lv_iconst (v := 0) hx hb dX6_harms_2 (by decide) ?_
  refine lv_istore_n (lv' := [(2, .int 0), (1, .int 0), (0, .ref (ad (20 + k0)))]) hx hb dX6_harms_3 rfl hl (by decide) rfl (fun ls hl => ?_)
  have L4 : ∀ (n4 : Nat) (x2_4 : Int32) (x1_4 : Int32), f_X6_harms_L4 a b I D k0 n4 x2_4 x1_4 = some rr → ∀ (H : Heap) (locs : List Loc) (ls : Array Slot), va_P (dC, dI) vwCl (iwM L a b ad cy I D) H → va_S A s.heap H locs → lv_has ls 3 [(2, .int x2_4), (1, .int x1_4), (0, .ref (ad (20 + k0)))] → W p l e (headSpec wsX6_harms ({ frames := 4, cells := 0, slots := 0, locals := 134 })).room s m ([.ref (ad (20 + k0))] : List Value).toArray below meth c H locs 0 0 (MQ below (va_Qi (fun r (_ : Unit) => rr = r) (fun _ _ => True) A) ([.ref (ad (20 + k0))] : List Value).toArray s 0 0 A) (F0 m 4 ls []) := by
    intro n4
    induction n4 with
    | zero => intro x2_4 x1_4 hf; exact nomatch hf
    | succ n4 ih4 =>
      intro x2_4 x1_4 hf H locs ls hP hS hl
      unfold f_X6_harms_L4 at hf
      refine lv_iload_n hx hb dX6_harms_4 rfl (lv_at hl 0 rfl) ?_
      refine lv_aload_n hx hb dX6_harms_5 rfl (lv_at hl 2 rfl) ?_
      obtain ⟨q_1, wq_1, heq_1⟩ := heM_Mixx (cy := cy) (I := I) (D := D) hM hk0
      refine va_get (D := (dC, dI)) (ci := 7) (v := .ref (ad 0)) (C := RX6) (T := TX6) (N := 5) hx hb hts iX6_harms_RX6 hown hK hP q_1 heq_1 rfl 4 (by decide) (hts (.fieldLink RX6 3 "OverrunHouseModel$Mix" "this$0" "LOverrunHouseModel;") (List.mem_cons_of_mem _ (List.mem_append_left _ (List.mem_append_left _ (List.mem_append_left _ (List.mem_append_left _ (List.mem_of_getElem? (i := 0) rfl))))))) (fun _ h9 => h9) rfl dX6_harms_6 ?_
      obtain ⟨q_2, wq_2, heq_2⟩ := heM_0 (cy := cy) (I := I) (D := D) hM
      refine va_getN (D := (dC, dI)) (ci := 8) (v := .ref (ad 1)) (C := RX7) (T := TX7) (N := 9) hx hb hts iX6_harms_RX7 hown hK hP q_2 heq_2 rfl 1 (by decide) (va_Nw.use (w := .fieldLinkNest "OverrunHouseModel$Mix" 31 "OverrunHouseModel" "ingredients" "Ljava/util/List;" "OverrunHouseModel") rfl (hN.1 _ (List.mem_of_getElem? (i := 29) rfl))) (fun _ h9 => h9) rfl dX6_harms_9 ?_
      obtain ⟨r_3, g_4, hf⟩ := bd_out hf
      obtain ⟨q_5, wq_5, heq_5⟩ := heM_1 (cy := cy) (I := I) (D := D) hM
      refine va_callFi (va_runF (As := []) (rest := [.int x2_4]) (hK.1 0 _ rfl).2 ⟨hx, hb, hml, hown, hts⟩ (mt_size1 l dC dI L a b ad cy hM H.size I D  r_3 g_4) (va_cwF 0 hts gX6_harms_Jx4a65c_size_8abf5_f35Jx4a65c rfl rfl rfl hN.2.1 (by decide +kernel) ⟨Nat.le_of_ble_eq_true rfl, Nat.le_of_ble_eq_true rfl⟩) ⟨(wM.pre [.ref (ad 1)] hP hK hN).1, wM.recv (C := RJx4a65c) (T := TJx4a65c) (N := 3) hP hK heq_5 rfl, (wM.pre [.ref (ad 1)] hP hK hN).2⟩ rfl rfl hl.1 rfl (lv_room (Nat.le_of_ble_eq_true rfl)) dX6_harms_12 ⟨Nat.le_of_ble_eq_true rfl, Nat.le_of_ble_eq_true rfl⟩) hS (fun q _ h => hA q (Nat.le_trans hS.1 h)) (fun q h => hA q (Nat.le_trans hS.1 h)) (fun r9 u t H1 locs ht hvm hw hB hz1 hk1 hS => ?_)
      subst hw
      have hP := va_Pnew hP hk1
      clear hz1 hk1 hvm ht hB
      generalize H1 = H at hP hS ⊢
      refine lv_icmp_ge (tgt := 60) hx hb dX6_harms_17 (by decide) (fun c_6 => ?_) (fun c_6 => ?_)
      · have hf := it_t hf c_6
        refine lv_iload_n hx hb dX6_harms_60 rfl (lv_at hl 1 rfl) ?_
        have hf := Option.some.inj hf
        have q1 := hf
        exact W.iret (v := x1_4) hx hb hr (fun t ht hW9 => ⟨⟨x1_4, (), rfl, q1.symm, trivial⟩, hS.F ht⟩) hS.2.2 dX6_harms_61
      · have hf := it_f hf c_6
        refine lv_iload_n hx hb dX6_harms_20 rfl (lv_at hl 1 rfl) ?_
        refine lv_aload_n hx hb dX6_harms_21 rfl (lv_at hl 2 rfl) ?_
        obtain ⟨q_7, wq_7, heq_7⟩ := heM_Mixx (cy := cy) (I := I) (D := D) hM hk0
        refine va_get (D := (dC, dI)) (ci := 7) (v := .ref (ad (25 + k0))) (C := RX6) (T := TX6) (N := 5) hx hb hts iX6_harms_RX6 hown hK hP q_7 heq_7 rfl 0 (by decide) (hts (.fieldLink RX6 15 "OverrunHouseModel$Mix" "kilos" "[I") (List.mem_cons_of_mem _ (List.mem_append_left _ (List.mem_append_left _ (List.mem_append_left _ (List.mem_append_left _ (List.mem_of_getElem? (i := 1) rfl))))))) (fun _ h9 => h9) rfl dX6_harms_22 ?_
        refine lv_iload_n hx hb dX6_harms_25 rfl (lv_at hl 0 rfl) ?_
        obtain ⟨q_8, wq_8, heq_8⟩ := heM_Kilos (cy := cy) (I := I) (D := D) hM hk0
        obtain ⟨h_9, hf⟩ := ck_out hf
        refine va_iald (n := 6) (f := I (25 + k0)) hx hb hK hP q_8 0 heq_8 rfl (inB_in h_9) dX6_harms_26 ?_
        refine lv_if_le (tgt := 51) hx hb dX6_harms_27 (by decide) (fun c_10 => ?_) (fun c_10 => ?_)
        · have hf := it_t hf c_10
          refine lv_iconst (v := 0) hx hb dX6_harms_51 (by decide) ?_
          refine lv_ior hx hb dX6_harms_52 ?_
          refine lv_istore_n (lv' := [(1, .int (x1_4 ||| 0)), (2, .int x2_4), (0, .ref (ad (20 + k0)))]) hx hb dX6_harms_53 rfl hl (by decide) rfl (fun ls hl => ?_)
          refine lv_iinc (v := (x2_4 + 1)) (lv' := [(2, .int (x2_4 + 1)), (1, .int (x1_4 ||| 0)), (0, .ref (ad (20 + k0)))]) hx hb dX6_harms_54 hl (k := 1) rfl rfl (by decide) rfl (fun ls hl => ?_)
          refine lv_goto (tgt := 4) hx hb dX6_harms_57 (by decide) ?_
          exact ih4 (x2_4 + 1) (x1_4 ||| 0) hf _ _ _ hP hS (lv_sub hl [0, 1, 2] rfl)
        · have hf := it_f hf c_10
          refine lv_aload_n hx hb dX6_harms_30 rfl (lv_at hl 2 rfl) ?_
          obtain ⟨q_11, wq_11, heq_11⟩ := heM_Mixx (cy := cy) (I := I) (D := D) hM hk0
          refine va_get (D := (dC, dI)) (ci := 7) (v := .ref (ad 0)) (C := RX6) (T := TX6) (N := 5) hx hb hts iX6_harms_RX6 hown hK hP q_11 heq_11 rfl 4 (by decide) (hts (.fieldLink RX6 3 "OverrunHouseModel$Mix" "this$0" "LOverrunHouseModel;") (List.mem_cons_of_mem _ (List.mem_append_left _ (List.mem_append_left _ (List.mem_append_left _ (List.mem_append_left _ (List.mem_of_getElem? (i := 0) rfl))))))) (fun _ h9 => h9) rfl dX6_harms_31 ?_
          obtain ⟨q_12, wq_12, heq_12⟩ := heM_0 (cy := cy) (I := I) (D := D) hM
          refine va_getN (D := (dC, dI)) (ci := 8) (v := .ref (ad 1)) (C := RX7) (T := TX7) (N := 9) hx hb hts iX6_harms_RX7 hown hK hP q_12 heq_12 rfl 1 (by decide) (va_Nw.use (w := .fieldLinkNest "OverrunHouseModel$Mix" 31 "OverrunHouseModel" "ingredients" "Ljava/util/List;" "OverrunHouseModel") rfl (hN.1 _ (List.mem_of_getElem? (i := 29) rfl))) (fun _ h9 => h9) rfl dX6_harms_34 ?_
          refine lv_iload_n hx hb dX6_harms_37 rfl (lv_at hl 0 rfl) ?_
          obtain ⟨r_13, g_14, hf⟩ := bd_out hf
          obtain ⟨q_15, wq_15, heq_15⟩ := heM_1 (cy := cy) (I := I) (D := D) hM
          refine va_callFr (va_runF (As := [.int x2_4]) (rest := [.int x1_4]) (hK.1 0 _ rfl).2 ⟨hx, hb, hml, hown, hts⟩ (mt_get1 l dC dI L a b ad cy hM H.size I D x2_4 r_13 g_14) (va_cwF 1 hts gX6_harms_Jx4a65c_get_915e3_f40Jx4a65c rfl rfl rfl hN.2.2.1 (by decide +kernel) ⟨Nat.le_of_ble_eq_true rfl, Nat.le_of_ble_eq_true rfl⟩) ⟨(wM.pre [.ref (ad 1), .int x2_4] hP hK hN).1, wM.recv (C := RJx4a65c) (T := TJx4a65c) (N := 3) hP hK heq_15 rfl, (wM.pre [.ref (ad 1), .int x2_4] hP hK hN).2⟩ rfl rfl hl.1 rfl (lv_room (Nat.le_of_ble_eq_true rfl)) dX6_harms_38 ⟨Nat.le_of_ble_eq_true rfl, Nat.le_of_ble_eq_true rfl⟩) hS (fun q _ h => hA q (Nat.le_trans hS.1 h)) (fun q h => hA q (Nat.le_trans hS.1 h)) (fun u r9 t H1 locs ht hvm hw hB hz1 hk1 hS => ?_)
          subst hB
          have hP := va_Pnew hP hk1
          clear hz1 hk1 hvm ht
          generalize H1 = H at hP hS ⊢
          obtain ⟨q_16, wq_16, heq_16⟩ := heM_Row (cy := cy) (I := I) (D := D) hM (f_get1_lt g_14)
          refine va_castA hx hb hown (hts (.classLink RX6 44 "[I") (List.mem_cons_of_mem _ (List.mem_append_left _ (List.mem_append_left _ (List.mem_append_left _ (List.mem_append_left _ (List.mem_of_getElem? (i := 2) rfl))))))) hP q_16 heq_16 (hK.2 0 _ rfl).2 dX6_harms_43 ?_
          refine lv_iconst (v := 4) hx hb dX6_harms_46 (by decide) ?_
          obtain ⟨q_17, wq_17, heq_17⟩ := heM_Row (cy := cy) (I := I) (D := D) hM (f_get1_lt g_14)
          obtain ⟨h_18, hf⟩ := ck_out hf
          refine va_iald (n := 5) (f := I (14 + r_13)) hx hb hK hP q_17 0 heq_17 rfl (inB_in h_18) dX6_harms_47 ?_
          refine lv_goto (tgt := 52) hx hb dX6_harms_48 (by decide) ?_
          refine lv_ior hx hb dX6_harms_52 ?_
          refine lv_istore_n (lv' := [(1, .int (x1_4 ||| (I (14 + r_13) (4 : Int32).toNatClampNeg))), (2, .int x2_4), (0, .ref (ad (20 + k0)))]) hx hb dX6_harms_53 rfl hl (by decide) rfl (fun ls hl => ?_)
          refine lv_iinc (v := (x2_4 + 1)) (lv' := [(2, .int (x2_4 + 1)), (1, .int (x1_4 ||| (I (14 + r_13) (4 : Int32).toNatClampNeg))), (0, .ref (ad (20 + k0)))]) hx hb dX6_harms_54 hl (k := 1) rfl rfl (by decide) rfl (fun ls hl => ?_)
          refine lv_goto (tgt := 4) hx hb dX6_harms_57 (by decide) ?_
          exact ih4 (x2_4 + 1) (x1_4 ||| (I (14 + r_13) (4 : Int32).toNatClampNeg)) hf _ _ _ hP hS (lv_sub hl [0, 1, 2] rfl)
  exact L4 200 0 0 hf _ _ _ hP hS (lv_sub hl [0, 1, 2] rfl)

def f_X6_isCream (a b : Nat) (I : Nat → Nat → Int32) (D : Nat → Nat → UInt64) (k0 : Nat) : Option (Int32) :=
  bd (f_X6_part a b I D k0 0) (fun r_1 => (if (Op.cmpValue (FP.dcmp r_1 (4621819117588971520 : UInt64)) CmpOp.l) < 0 then some 0 else bd (f_X6_part a b I D k0 1) (fun r_5 => (if (Op.cmpValue (FP.dcmp r_5 (4620693217682128896 : UInt64)) CmpOp.l) < 0 then some 0 else some 1))))
set_option maxHeartbeats 4000000 in
set_option maxRecDepth 100000 in
theorem mt_X6_isCream (l : Launch) (dC : Nat → ClassId) (dI : Nat → Nat → Nat) (L : List Nat) (a b : Nat) (ad : Nat → Nat) (cy : Nat → ClassId) (hM : mOK L a b ad) (sz : Nat) (I : Nat → Nat → Int32) (D : Nat → Nat → UInt64) (k0 : Nat) (hk0 : k0 < b) (rr : Int32) (hf : f_X6_isCream a b I D k0 = some rr) : Met l yX6_isCream wsX6_isCream ({ frames := 6, cells := 0, slots := 0, locals := 178 }) (va_Pc [.ref (ad (20 + k0))] (fun U => U.heap.size = sz ∧ wM dC dI L a b ad cy I D U)) (va_Qi (fun r (_ : Unit) => rr = r) (fun _ _ => True) (fun q => sz ≤ q)) 0 0 (fun q => sz ≤ q) := by
  refine Met.ofW (cc := cX6_isCream) (maxL := 1) (ret := (some .boolean)) (by decide) rfl ?_
  intro p e s m args below meth c s₁ B hml hv
  obtain ⟨rfl, hsz, hP, hK, hN⟩ := hv
  have hx := B.exec
  have hb := B.bytes
  have hr := B.returns
  have hts := atoms_spec (ws := wsX6_isCream) B.pre
  have hown : s.vm.findClass RX6 = some m.cls := findClass_of_methodNamed B.named
  have hlocks := B.notSynchronized
  subst hsz
  generalize hAe : (fun q : Nat => s.heap.size ≤ q) = A
  have hA : ∀ q : Nat, s.heap.size ≤ q → A q := fun q h => by rw [← hAe]; exact h
  obtain ⟨H, hH⟩ : ∃ H : Heap, H = s.heap := ⟨_, rfl⟩
  have hS : va_S A s.heap H [] := by rw [hH]; exact va_S.rf
  rw [← hH]
  rw [← hH] at hP
  have hl := lv_entry ([.ref (ad (20 + k0))]) (n := 1) (Nat.le_of_ble_eq_true rfl)
  rw [lg_entry_eq]
  generalize (lg_sl ([.ref (ad (20 + k0))]) ++ List.replicate (1 - (lg_sl ([.ref (ad (20 + k0))])).length) Slot.unset).toArray = ls at hl ⊢
  have hl : lv_has ls 1 [(0, .ref (ad (20 + k0)))] := hl
  unfold f_X6_isCream at hf
  refine lv_aload_n hx hb dX6_isCream_0 rfl (lv_at hl 0 rfl) ?_
  refine lv_iconst (v := 0) hx hb dX6_isCream_1 (by decide) ?_
  obtain ⟨r_1, g_2, hf⟩ := bd_out hf
  obtain ⟨q_3, wq_3, heq_3⟩ := heM_Mixx (cy := cy) (I := I) (D := D) hM hk0
  refine va_calld (va_runV (As := [.int 0]) (rest := []) ⟨hx, hb, hml, hown, hts⟩ (mt_X6_part l dC dI L a b ad cy hM H.size I D k0 hk0 0 r_1 g_2) (cwV 1 hts gX6_isCream_X6_part rfl rfl rfl (by decide +kernel) ⟨Nat.le_of_ble_eq_true rfl, Nat.le_of_ble_eq_true rfl⟩) ⟨(wM.pre [.ref (ad (20 + k0)), .int 0] hP hK hN).1, wM.recv (C := RX6) (T := TX6) (N := 5) hP hK heq_3 rfl, (wM.pre [.ref (ad (20 + k0)), .int 0] hP hK hN).2⟩ rfl rfl hl.1 rfl (lv_room (Nat.le_of_ble_eq_true rfl)) dX6_isCream_2 ⟨Nat.le_of_ble_eq_true rfl, Nat.le_of_ble_eq_true rfl⟩) hS (fun q _ h => hA q (Nat.le_trans hS.1 h)) (fun q h => hA q (Nat.le_trans hS.1 h)) (fun r9 u t H1 locs ht hvm hw hB hz1 hk1 hS => ?_)
  subst hw
  have hP := va_Pnew hP hk1
  clear hz1 hk1 hvm ht hB
  generalize H1 = H at hP hS ⊢
  refine lv_ldc2d (v := 4621819117588971520) hx hb hown (hts (.constantDouble RX6 49 (4621819117588971520)) (List.mem_cons_of_mem _ (List.mem_append_left _ (List.mem_append_left _ (List.mem_append_left _ (List.mem_append_left _ (List.mem_of_getElem? (i := 0) rfl))))))) dX6_isCream_5 ?_
  refine lv_dcmp hx hb dX6_isCream_8 ?_
  refine lv_if_lt (tgt := 28) hx hb dX6_isCream_9 (by decide) (fun c_4 => ?_) (fun c_4 => ?_)
  · have hf := it_t hf c_4
    refine lv_iconst (v := 0) hx hb dX6_isCream_28 (by decide) ?_
    have hf := Option.some.inj hf
    have q1 := hf
    exact W.zret (ty := .boolean) (v := 0) hx hb hr rfl (fun t ht hW9 => ⟨⟨0, (), rfl, q1.symm, trivial⟩, hS.F ht⟩) hS.2.2 dX6_isCream_29
  · have hf := it_f hf c_4
    refine lv_aload_n hx hb dX6_isCream_12 rfl (lv_at hl 0 rfl) ?_
    refine lv_iconst (v := 1) hx hb dX6_isCream_13 (by decide) ?_
    obtain ⟨r_5, g_6, hf⟩ := bd_out hf
    obtain ⟨q_7, wq_7, heq_7⟩ := heM_Mixx (cy := cy) (I := I) (D := D) hM hk0
    refine va_calld (va_runV (As := [.int 1]) (rest := []) ⟨hx, hb, hml, hown, hts⟩ (mt_X6_part l dC dI L a b ad cy hM H.size I D k0 hk0 1 r_5 g_6) (cwV 1 hts gX6_isCream_X6_part rfl rfl rfl (by decide +kernel) ⟨Nat.le_of_ble_eq_true rfl, Nat.le_of_ble_eq_true rfl⟩) ⟨(wM.pre [.ref (ad (20 + k0)), .int 1] hP hK hN).1, wM.recv (C := RX6) (T := TX6) (N := 5) hP hK heq_7 rfl, (wM.pre [.ref (ad (20 + k0)), .int 1] hP hK hN).2⟩ rfl rfl hl.1 rfl (lv_room (Nat.le_of_ble_eq_true rfl)) dX6_isCream_14 ⟨Nat.le_of_ble_eq_true rfl, Nat.le_of_ble_eq_true rfl⟩) hS (fun q _ h => hA q (Nat.le_trans hS.1 h)) (fun q h => hA q (Nat.le_trans hS.1 h)) (fun r9 u t H1 locs ht hvm hw hB hz1 hk1 hS => ?_)
    subst hw
    have hP := va_Pnew hP hk1
    clear hz1 hk1 hvm ht hB
    generalize H1 = H at hP hS ⊢
    refine lv_ldc2d (v := 4620693217682128896) hx hb hown (hts (.constantDouble RX6 63 (4620693217682128896)) (List.mem_cons_of_mem _ (List.mem_append_left _ (List.mem_append_left _ (List.mem_append_left _ (List.mem_append_left _ (List.mem_of_getElem? (i := 1) rfl))))))) dX6_isCream_17 ?_
    refine lv_dcmp hx hb dX6_isCream_20 ?_
    refine lv_if_lt (tgt := 28) hx hb dX6_isCream_21 (by decide) (fun c_8 => ?_) (fun c_8 => ?_)
    · have hf := it_t hf c_8
      refine lv_iconst (v := 0) hx hb dX6_isCream_28 (by decide) ?_
      have hf := Option.some.inj hf
      have q1 := hf
      exact W.zret (ty := .boolean) (v := 0) hx hb hr rfl (fun t ht hW9 => ⟨⟨0, (), rfl, q1.symm, trivial⟩, hS.F ht⟩) hS.2.2 dX6_isCream_29
    · have hf := it_f hf c_8
      refine lv_iconst (v := 1) hx hb dX6_isCream_24 (by decide) ?_
      refine lv_goto (tgt := 29) hx hb dX6_isCream_25 (by decide) ?_
      have hf := Option.some.inj hf
      have q1 := hf
      exact W.zret (ty := .boolean) (v := 1) hx hb hr rfl (fun t ht hW9 => ⟨⟨1, (), rfl, q1.symm, trivial⟩, hS.F ht⟩) hS.2.2 dX6_isCream_29
