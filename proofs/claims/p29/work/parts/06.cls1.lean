def f_X0_isCoarse (I : Nat → Nat → Int32) (D : Nat → Nat → UInt64) (k0 : Nat) : Option (Int32) :=
  (if (Op.cmpValue (FP.dcmp (D (18 + k0) 4) (4632233691727265792 : UInt64)) CmpOp.l) ≤ 0 then some 0 else some 1)
theorem iX0_isCoarse_RX0 : ∀ w ∈ u_ws RX0 TX0 5, w ∈ wsX0_isCoarse := fun w h => List.mem_cons_of_mem _ (List.mem_append_right _ (h))
set_option maxHeartbeats 4000000 in
set_option maxRecDepth 100000 in
theorem mt_X0_isCoarse (l : Launch) (dC : Nat → ClassId) (dI : Nat → Nat → Nat) (ad : Nat → Nat) (cy : Nat → ClassId) (hJ : J33 ad) (sz : Nat) (I : Nat → Nat → Int32) (D : Nat → Nat → UInt64) (k0 : Nat) (hk0 : k0 < 12) (rr : Int32) (hf : f_X0_isCoarse I D k0 = some rr) : Met l yX0_isCoarse wsX0_isCoarse ({ frames := 0, cells := 0, slots := 0, locals := 0 }) (va_Pc [.ref (ad (18 + k0))] (fun U => U.heap.size = sz ∧ hW dC dI ad cy I D U)) (va_Qi (fun r (_ : Unit) => rr = r) (fun _ _ => True) (fun q => sz ≤ q)) 0 0 (fun q => sz ≤ q) := by
  refine Met.ofW (cc := cX0_isCoarse) (maxL := 1) (ret := (some .boolean)) (by decide) rfl ?_
  intro p e s m args below meth c s₁ B hml hv
  obtain ⟨rfl, hsz, hP, hK, hN⟩ := hv
  have hx := B.exec
  have hb := B.bytes
  have hr := B.returns
  have hts := atoms_spec (ws := wsX0_isCoarse) B.pre
  have hown : s.vm.findClass RX0 = some m.cls := findClass_of_methodNamed B.named
  have hlocks := B.notSynchronized
  subst hsz
  generalize hAe : (fun q : Nat => s.heap.size ≤ q) = A
  have hA : ∀ q : Nat, s.heap.size ≤ q → A q := fun q h => by rw [← hAe]; exact h
  obtain ⟨H, hH⟩ : ∃ H : Heap, H = s.heap := ⟨_, rfl⟩
  have hS : va_S A s.heap H [] := by rw [hH]; exact va_S.rf
  rw [← hH]
  rw [← hH] at hP
  have hl := lv_entry ([.ref (ad (18 + k0))]) (n := 1) (Nat.le_of_ble_eq_true rfl)
  rw [lg_entry_eq]
  generalize (lg_sl ([.ref (ad (18 + k0))]) ++ List.replicate (1 - (lg_sl ([.ref (ad (18 + k0))])).length) Slot.unset).toArray = ls at hl ⊢
  have hl : lv_has ls 1 [(0, .ref (ad (18 + k0)))] := hl
  unfold f_X0_isCoarse at hf
  refine lv_aload_n hx hb dX0_isCoarse_0 rfl (lv_at hl 0 rfl) ?_
  refine va_get (D := (dC, dI)) (ci := 0) (v := .double (D (18 + k0) 4)) (C := RX0) (T := TX0) (N := 5) hx hb hts iX0_isCoarse_RX0 hown hK hP (18 + k0) (heH_Batch hk0) rfl 4 (by decide) (hts (.fieldLink RX0 25 "OverrunHouse$Batch" "crystal" "D") (List.mem_cons_of_mem _ (List.mem_append_left _ (List.mem_of_getElem? (i := 0) rfl)))) (fun _ h9 => h9) rfl dX0_isCoarse_1 ?_
  refine lv_ldc2d (v := 4632233691727265792) hx hb hown (hts (.constantDouble RX0 29 (4632233691727265792)) (List.mem_cons_of_mem _ (List.mem_append_left _ (List.mem_of_getElem? (i := 1) rfl)))) dX0_isCoarse_4 ?_
  refine lv_dcmp hx hb dX0_isCoarse_7 ?_
  refine lv_if_le (tgt := 15) hx hb dX0_isCoarse_8 (by decide) (fun c_1 => ?_) (fun c_1 => ?_)
  · have hf := it_t hf c_1
    refine lv_iconst (v := 0) hx hb dX0_isCoarse_15 (by decide) ?_
    have hf := Option.some.inj hf
    have q1 := hf
    exact W.zret (ty := .boolean) (v := 0) hx hb hr rfl (fun t ht hW9 => ⟨⟨0, (), rfl, q1.symm, trivial⟩, hS.F ht⟩) hS.2.2 dX0_isCoarse_16
  · have hf := it_f hf c_1
    refine lv_iconst (v := 1) hx hb dX0_isCoarse_11 (by decide) ?_
    refine lv_goto (tgt := 16) hx hb dX0_isCoarse_12 (by decide) ?_
    have hf := Option.some.inj hf
    have q1 := hf
    exact W.zret (ty := .boolean) (v := 1) hx hb hr rfl (fun t ht hW9 => ⟨⟨1, (), rfl, q1.symm, trivial⟩, hS.F ht⟩) hS.2.2 dX0_isCoarse_16

def f_X0_isStored (I : Nat → Nat → Int32) (D : Nat → Nat → UInt64) (k0 : Nat) : Option (Int32) :=
  (if (I (18 + k0) 2) < 0 then some 0 else (if 3 ≤ (I (18 + k0) 2) then some 0 else some 1))
theorem iX0_isStored_RX0 : ∀ w ∈ u_ws RX0 TX0 5, w ∈ wsX0_isStored := fun w h => List.mem_cons_of_mem _ (List.mem_append_right _ (h))
set_option maxHeartbeats 4000000 in
set_option maxRecDepth 100000 in
theorem mt_X0_isStored (l : Launch) (dC : Nat → ClassId) (dI : Nat → Nat → Nat) (ad : Nat → Nat) (cy : Nat → ClassId) (hJ : J33 ad) (sz : Nat) (I : Nat → Nat → Int32) (D : Nat → Nat → UInt64) (k0 : Nat) (hk0 : k0 < 12) (rr : Int32) (hf : f_X0_isStored I D k0 = some rr) : Met l yX0_isStored wsX0_isStored ({ frames := 0, cells := 0, slots := 0, locals := 0 }) (va_Pc [.ref (ad (18 + k0))] (fun U => U.heap.size = sz ∧ hW dC dI ad cy I D U)) (va_Qi (fun r (_ : Unit) => rr = r) (fun _ _ => True) (fun q => sz ≤ q)) 0 0 (fun q => sz ≤ q) := by
  refine Met.ofW (cc := cX0_isStored) (maxL := 1) (ret := (some .boolean)) (by decide) rfl ?_
  intro p e s m args below meth c s₁ B hml hv
  obtain ⟨rfl, hsz, hP, hK, hN⟩ := hv
  have hx := B.exec
  have hb := B.bytes
  have hr := B.returns
  have hts := atoms_spec (ws := wsX0_isStored) B.pre
  have hown : s.vm.findClass RX0 = some m.cls := findClass_of_methodNamed B.named
  have hlocks := B.notSynchronized
  subst hsz
  generalize hAe : (fun q : Nat => s.heap.size ≤ q) = A
  have hA : ∀ q : Nat, s.heap.size ≤ q → A q := fun q h => by rw [← hAe]; exact h
  obtain ⟨H, hH⟩ : ∃ H : Heap, H = s.heap := ⟨_, rfl⟩
  have hS : va_S A s.heap H [] := by rw [hH]; exact va_S.rf
  rw [← hH]
  rw [← hH] at hP
  have hl := lv_entry ([.ref (ad (18 + k0))]) (n := 1) (Nat.le_of_ble_eq_true rfl)
  rw [lg_entry_eq]
  generalize (lg_sl ([.ref (ad (18 + k0))]) ++ List.replicate (1 - (lg_sl ([.ref (ad (18 + k0))])).length) Slot.unset).toArray = ls at hl ⊢
  have hl : lv_has ls 1 [(0, .ref (ad (18 + k0)))] := hl
  unfold f_X0_isStored at hf
  refine lv_aload_n hx hb dX0_isStored_0 rfl (lv_at hl 0 rfl) ?_
  refine va_get (D := (dC, dI)) (ci := 0) (v := .int (I (18 + k0) 2)) (C := RX0) (T := TX0) (N := 5) hx hb hts iX0_isStored_RX0 hown hK hP (18 + k0) (heH_Batch hk0) rfl 2 (by decide) (hts (.fieldLink RX0 18 "OverrunHouse$Batch" "place" "I") (List.mem_cons_of_mem _ (List.mem_append_left _ (List.mem_of_getElem? (i := 0) rfl)))) (fun _ h9 => h9) rfl dX0_isStored_1 ?_
  refine lv_if_lt (tgt := 19) hx hb dX0_isStored_4 (by decide) (fun c_1 => ?_) (fun c_1 => ?_)
  · have hf := it_t hf c_1
    refine lv_iconst (v := 0) hx hb dX0_isStored_19 (by decide) ?_
    have hf := Option.some.inj hf
    have q1 := hf
    exact W.zret (ty := .boolean) (v := 0) hx hb hr rfl (fun t ht hW9 => ⟨⟨0, (), rfl, q1.symm, trivial⟩, hS.F ht⟩) hS.2.2 dX0_isStored_20
  · have hf := it_f hf c_1
    refine lv_aload_n hx hb dX0_isStored_7 rfl (lv_at hl 0 rfl) ?_
    refine va_get (D := (dC, dI)) (ci := 0) (v := .int (I (18 + k0) 2)) (C := RX0) (T := TX0) (N := 5) hx hb hts iX0_isStored_RX0 hown hK hP (18 + k0) (heH_Batch hk0) rfl 2 (by decide) (hts (.fieldLink RX0 18 "OverrunHouse$Batch" "place" "I") (List.mem_cons_of_mem _ (List.mem_append_left _ (List.mem_of_getElem? (i := 0) rfl)))) (fun _ h9 => h9) rfl dX0_isStored_8 ?_
    refine lv_iconst (v := 3) hx hb dX0_isStored_11 (by decide) ?_
    refine lv_icmp_ge (tgt := 19) hx hb dX0_isStored_12 (by decide) (fun c_2 => ?_) (fun c_2 => ?_)
    · have hf := it_t hf c_2
      refine lv_iconst (v := 0) hx hb dX0_isStored_19 (by decide) ?_
      have hf := Option.some.inj hf
      have q1 := hf
      exact W.zret (ty := .boolean) (v := 0) hx hb hr rfl (fun t ht hW9 => ⟨⟨0, (), rfl, q1.symm, trivial⟩, hS.F ht⟩) hS.2.2 dX0_isStored_20
    · have hf := it_f hf c_2
      refine lv_iconst (v := 1) hx hb dX0_isStored_15 (by decide) ?_
      refine lv_goto (tgt := 20) hx hb dX0_isStored_16 (by decide) ?_
      have hf := Option.some.inj hf
      have q1 := hf
      exact W.zret (ty := .boolean) (v := 1) hx hb hr rfl (fun t ht hW9 => ⟨⟨1, (), rfl, q1.symm, trivial⟩, hS.F ht⟩) hS.2.2 dX0_isStored_20

def f_X2_percent (I : Nat → Nat → Int32) (D : Nat → Nat → UInt64) (k0 : Nat) (p1 : Int32) : Option (UInt64) :=
  (if (I (13 + k0) 0) ≤ 0 then some FP.dconst0 else ck (okD (FP.ddiv (FP.i2d p1) (FP.i2d (I (13 + k0) 0)))) (ck (okD (FP.ddiv (FP.ddiv (FP.i2d p1) (FP.i2d (I (13 + k0) 0))) (4621819117588971520 : UInt64))) (some (FP.ddiv (FP.ddiv (FP.i2d p1) (FP.i2d (I (13 + k0) 0))) (4621819117588971520 : UInt64)))))
theorem iX2_percent_RX2 : ∀ w ∈ u_ws RX2 TX2 12, w ∈ wsX2_percent := fun w h => List.mem_cons_of_mem _ (List.mem_append_right _ (h))
set_option maxHeartbeats 4000000 in
set_option maxRecDepth 100000 in
theorem mt_X2_percent (l : Launch) (dC : Nat → ClassId) (dI : Nat → Nat → Nat) (ad : Nat → Nat) (cy : Nat → ClassId) (hJ : J33 ad) (sz : Nat) (I : Nat → Nat → Int32) (D : Nat → Nat → UInt64) (k0 : Nat) (hk0 : k0 < 5) (p1 : Int32) (rr : UInt64) (hf : f_X2_percent I D k0 p1 = some rr) : Met l yX2_percent wsX2_percent ({ frames := 0, cells := 0, slots := 0, locals := 0 }) (va_Pc [.ref (ad (13 + k0)), .int p1] (fun U => U.heap.size = sz ∧ hW dC dI ad cy I D U)) (va_Qd (fun r (_ : Unit) => rr = r) (fun _ _ => True) (fun q => sz ≤ q)) 0 0 (fun q => sz ≤ q) := by
  refine Met.ofW (cc := cX2_percent) (maxL := 2) (ret := (some .double)) (by decide) rfl ?_
  intro p e s m args below meth c s₁ B hml hv
  obtain ⟨rfl, hsz, hP, hK, hN⟩ := hv
  have hx := B.exec
  have hb := B.bytes
  have hr := B.returns
  have hts := atoms_spec (ws := wsX2_percent) B.pre
  have hown : s.vm.findClass RX2 = some m.cls := findClass_of_methodNamed B.named
  have hlocks := B.notSynchronized
  subst hsz
  generalize hAe : (fun q : Nat => s.heap.size ≤ q) = A
  have hA : ∀ q : Nat, s.heap.size ≤ q → A q := fun q h => by rw [← hAe]; exact h
  obtain ⟨H, hH⟩ : ∃ H : Heap, H = s.heap := ⟨_, rfl⟩
  have hS : va_S A s.heap H [] := by rw [hH]; exact va_S.rf
  rw [← hH]
  rw [← hH] at hP
  have hl := lv_entry ([.ref (ad (13 + k0)), .int p1]) (n := 2) (Nat.le_of_ble_eq_true rfl)
  rw [lg_entry_eq]
  generalize (lg_sl ([.ref (ad (13 + k0)), .int p1]) ++ List.replicate (2 - (lg_sl ([.ref (ad (13 + k0)), .int p1])).length) Slot.unset).toArray = ls at hl ⊢
  have hl : lv_has ls 2 [(0, .ref (ad (13 + k0))), (1, .int p1)] := hl
  unfold f_X2_percent at hf
  refine lv_aload_n hx hb dX2_percent_0 rfl (lv_at hl 0 rfl) ?_
  refine va_get (D := (dC, dI)) (ci := 2) (v := .int (I (13 + k0) 0)) (C := RX2) (T := TX2) (N := 12) hx hb hts iX2_percent_RX2 hown hK hP (13 + k0) (heH_Mix hk0) rfl 0 (by decide) (hts (.fieldLink RX2 7 "OverrunHouse$Mix" "kilos" "I") (List.mem_cons_of_mem _ (List.mem_append_left _ (List.mem_of_getElem? (i := 0) rfl)))) (fun _ h9 => h9) rfl dX2_percent_1 ?_
  refine lv_if_le (tgt := 22) hx hb dX2_percent_4 (by decide) (fun c_1 => ?_) (fun c_1 => ?_)
  · have hf := it_t hf c_1
    refine lv_dconst0 hx hb dX2_percent_22 ?_
    have hf := Option.some.inj hf
    have q1 := hf
    exact W.dret (v := FP.dconst0) hx hb hr (fun t ht hW9 => ⟨⟨FP.dconst0, (), rfl, q1.symm, trivial⟩, hS.F ht⟩) hS.2.2 dX2_percent_23
  · have hf := it_f hf c_1
    refine lv_iload_n hx hb dX2_percent_7 rfl (lv_at hl 1 rfl) ?_
    refine lv_i2d hx hb dX2_percent_8 ?_
    refine lv_aload_n hx hb dX2_percent_9 rfl (lv_at hl 0 rfl) ?_
    refine va_get (D := (dC, dI)) (ci := 2) (v := .int (I (13 + k0) 0)) (C := RX2) (T := TX2) (N := 12) hx hb hts iX2_percent_RX2 hown hK hP (13 + k0) (heH_Mix hk0) rfl 0 (by decide) (hts (.fieldLink RX2 7 "OverrunHouse$Mix" "kilos" "I") (List.mem_cons_of_mem _ (List.mem_append_left _ (List.mem_of_getElem? (i := 0) rfl)))) (fun _ h9 => h9) rfl dX2_percent_10 ?_
    refine lv_i2d hx hb dX2_percent_13 ?_
    obtain ⟨h_2, hf⟩ := ck_out hf
    refine lv_ddiv hx hb dX2_percent_14 (okD_n h_2) ?_
    refine lv_ldc2d (v := 4621819117588971520) hx hb hown (hts (.constantDouble RX2 69 (4621819117588971520)) (List.mem_cons_of_mem _ (List.mem_append_left _ (List.mem_of_getElem? (i := 1) rfl)))) dX2_percent_15 ?_
    obtain ⟨h_3, hf⟩ := ck_out hf
    refine lv_ddiv hx hb dX2_percent_18 (okD_n h_3) ?_
    refine lv_goto (tgt := 23) hx hb dX2_percent_19 (by decide) ?_
    have hf := Option.some.inj hf
    have q1 := hf
    exact W.dret (v := (FP.ddiv (FP.ddiv (FP.i2d p1) (FP.i2d (I (13 + k0) 0))) (4621819117588971520 : UInt64))) hx hb hr (fun t ht hW9 => ⟨⟨(FP.ddiv (FP.ddiv (FP.i2d p1) (FP.i2d (I (13 + k0) 0))) (4621819117588971520 : UInt64)), (), rfl, q1.symm, trivial⟩, hS.F ht⟩) hS.2.2 dX2_percent_23

def f_X2_iceShare (I : Nat → Nat → Int32) (D : Nat → Nat → UInt64) (k0 : Nat) (p1 : UInt64) : Option (UInt64) :=
  (if 0 ≤ (Op.cmpValue (FP.dcmp p1 (D (13 + k0) 11)) CmpOp.g) then some FP.dconst0 else ck (okD (FP.ddiv (D (13 + k0) 11) p1)) (ck (okD (FP.dsub FP.dconst1 (FP.ddiv (D (13 + k0) 11) p1))) (some (FP.dsub FP.dconst1 (FP.ddiv (D (13 + k0) 11) p1)))))
theorem iX2_iceShare_RX2 : ∀ w ∈ u_ws RX2 TX2 12, w ∈ wsX2_iceShare := fun w h => List.mem_cons_of_mem _ (List.mem_append_right _ (h))
set_option maxHeartbeats 4000000 in
set_option maxRecDepth 100000 in
theorem mt_X2_iceShare (l : Launch) (dC : Nat → ClassId) (dI : Nat → Nat → Nat) (ad : Nat → Nat) (cy : Nat → ClassId) (hJ : J33 ad) (sz : Nat) (I : Nat → Nat → Int32) (D : Nat → Nat → UInt64) (k0 : Nat) (hk0 : k0 < 5) (p1 : UInt64) (rr : UInt64) (hf : f_X2_iceShare I D k0 p1 = some rr) : Met l yX2_iceShare wsX2_iceShare ({ frames := 0, cells := 0, slots := 0, locals := 0 }) (va_Pc [.ref (ad (13 + k0)), .double p1] (fun U => U.heap.size = sz ∧ hW dC dI ad cy I D U)) (va_Qd (fun r (_ : Unit) => rr = r) (fun _ _ => True) (fun q => sz ≤ q)) 0 0 (fun q => sz ≤ q) := by
  refine Met.ofW (cc := cX2_iceShare) (maxL := 3) (ret := (some .double)) (by decide) rfl ?_
  intro p e s m args below meth c s₁ B hml hv
  obtain ⟨rfl, hsz, hP, hK, hN⟩ := hv
  have hx := B.exec
  have hb := B.bytes
  have hr := B.returns
  have hts := atoms_spec (ws := wsX2_iceShare) B.pre
  have hown : s.vm.findClass RX2 = some m.cls := findClass_of_methodNamed B.named
  have hlocks := B.notSynchronized
  subst hsz
  generalize hAe : (fun q : Nat => s.heap.size ≤ q) = A
  have hA : ∀ q : Nat, s.heap.size ≤ q → A q := fun q h => by rw [← hAe]; exact h
  obtain ⟨H, hH⟩ : ∃ H : Heap, H = s.heap := ⟨_, rfl⟩
  have hS : va_S A s.heap H [] := by rw [hH]; exact va_S.rf
  rw [← hH]
  rw [← hH] at hP
  have hl := lv_entry ([.ref (ad (13 + k0)), .double p1]) (n := 3) (Nat.le_of_ble_eq_true rfl)
  rw [lg_entry_eq]
  generalize (lg_sl ([.ref (ad (13 + k0)), .double p1]) ++ List.replicate (3 - (lg_sl ([.ref (ad (13 + k0)), .double p1])).length) Slot.unset).toArray = ls at hl ⊢
  have hl : lv_has ls 3 [(0, .ref (ad (13 + k0))), (1, .double p1)] := hl
  unfold f_X2_iceShare at hf
  refine lv_dload_n hx hb dX2_iceShare_0 rfl (lv_at hl 1 rfl) ?_
  refine lv_aload_n hx hb dX2_iceShare_1 rfl (lv_at hl 0 rfl) ?_
  refine va_get (D := (dC, dI)) (ci := 2) (v := .double (D (13 + k0) 11)) (C := RX2) (T := TX2) (N := 12) hx hb hts iX2_iceShare_RX2 hown hK hP (13 + k0) (heH_Mix hk0) rfl 11 (by decide) (hts (.fieldLink RX2 44 "OverrunHouse$Mix" "freezesAt" "D") (List.mem_cons_of_mem _ (List.mem_append_left _ (List.mem_of_getElem? (i := 0) rfl)))) (fun _ h9 => h9) rfl dX2_iceShare_2 ?_
  refine lv_dcmp hx hb dX2_iceShare_5 ?_
  refine lv_if_ge (tgt := 20) hx hb dX2_iceShare_6 (by decide) (fun c_1 => ?_) (fun c_1 => ?_)
  · have hf := it_t hf c_1
    refine lv_dconst0 hx hb dX2_iceShare_20 ?_
    have hf := Option.some.inj hf
    have q1 := hf
    exact W.dret (v := FP.dconst0) hx hb hr (fun t ht hW9 => ⟨⟨FP.dconst0, (), rfl, q1.symm, trivial⟩, hS.F ht⟩) hS.2.2 dX2_iceShare_21
  · have hf := it_f hf c_1
    refine lv_dconst1 hx hb dX2_iceShare_9 ?_
    refine lv_aload_n hx hb dX2_iceShare_10 rfl (lv_at hl 0 rfl) ?_
    refine va_get (D := (dC, dI)) (ci := 2) (v := .double (D (13 + k0) 11)) (C := RX2) (T := TX2) (N := 12) hx hb hts iX2_iceShare_RX2 hown hK hP (13 + k0) (heH_Mix hk0) rfl 11 (by decide) (hts (.fieldLink RX2 44 "OverrunHouse$Mix" "freezesAt" "D") (List.mem_cons_of_mem _ (List.mem_append_left _ (List.mem_of_getElem? (i := 0) rfl)))) (fun _ h9 => h9) rfl dX2_iceShare_11 ?_
    refine lv_dload_n hx hb dX2_iceShare_14 rfl (lv_at hl 1 rfl) ?_
    obtain ⟨h_2, hf⟩ := ck_out hf
    refine lv_ddiv hx hb dX2_iceShare_15 (okD_n h_2) ?_
    obtain ⟨h_3, hf⟩ := ck_out hf
    refine lv_dsub hx hb dX2_iceShare_16 (okD_n h_3) ?_
    refine lv_goto (tgt := 21) hx hb dX2_iceShare_17 (by decide) ?_
    have hf := Option.some.inj hf
    have q1 := hf
    exact W.dret (v := (FP.dsub FP.dconst1 (FP.ddiv (D (13 + k0) 11) p1))) hx hb hr (fun t ht hW9 => ⟨⟨(FP.dsub FP.dconst1 (FP.ddiv (D (13 + k0) 11) p1)), (), rfl, q1.symm, trivial⟩, hS.F ht⟩) hS.2.2 dX2_iceShare_21

def f_X2_isCream (I : Nat → Nat → Int32) (D : Nat → Nat → UInt64) (k0 : Nat) : Option (Int32) :=
  bd (f_X2_percent I D k0 (I (13 + k0) 2)) (fun r_1 => (if (Op.cmpValue (FP.dcmp r_1 (4621819117588971520 : UInt64)) CmpOp.l) < 0 then some 0 else bd (f_X2_percent I D k0 (I (13 + k0) 3)) (fun r_4 => (if (Op.cmpValue (FP.dcmp r_4 (4620693217682128896 : UInt64)) CmpOp.l) < 0 then some 0 else some 1))))
theorem iX2_isCream_RX2 : ∀ w ∈ u_ws RX2 TX2 12, w ∈ wsX2_isCream := fun w h => List.mem_cons_of_mem _ (List.mem_append_right _ (h))
set_option maxHeartbeats 4000000 in
set_option maxRecDepth 100000 in
theorem mt_X2_isCream (l : Launch) (dC : Nat → ClassId) (dI : Nat → Nat → Nat) (ad : Nat → Nat) (cy : Nat → ClassId) (hJ : J33 ad) (sz : Nat) (I : Nat → Nat → Int32) (D : Nat → Nat → UInt64) (k0 : Nat) (hk0 : k0 < 5) (rr : Int32) (hf : f_X2_isCream I D k0 = some rr) : Met l yX2_isCream wsX2_isCream ({ frames := 1, cells := 0, slots := 0, locals := 21 }) (va_Pc [.ref (ad (13 + k0))] (fun U => U.heap.size = sz ∧ hW dC dI ad cy I D U)) (va_Qi (fun r (_ : Unit) => rr = r) (fun _ _ => True) (fun q => sz ≤ q)) 0 0 (fun q => sz ≤ q) := by
  refine Met.ofW (cc := cX2_isCream) (maxL := 1) (ret := (some .boolean)) (by decide) rfl ?_
  intro p e s m args below meth c s₁ B hml hv
  obtain ⟨rfl, hsz, hP, hK, hN⟩ := hv
  have hx := B.exec
  have hb := B.bytes
  have hr := B.returns
  have hts := atoms_spec (ws := wsX2_isCream) B.pre
  have hown : s.vm.findClass RX2 = some m.cls := findClass_of_methodNamed B.named
  have hlocks := B.notSynchronized
  subst hsz
  generalize hAe : (fun q : Nat => s.heap.size ≤ q) = A
  have hA : ∀ q : Nat, s.heap.size ≤ q → A q := fun q h => by rw [← hAe]; exact h
  obtain ⟨H, hH⟩ : ∃ H : Heap, H = s.heap := ⟨_, rfl⟩
  have hS : va_S A s.heap H [] := by rw [hH]; exact va_S.rf
  rw [← hH]
  rw [← hH] at hP
  have hl := lv_entry ([.ref (ad (13 + k0))]) (n := 1) (Nat.le_of_ble_eq_true rfl)
  rw [lg_entry_eq]
  generalize (lg_sl ([.ref (ad (13 + k0))]) ++ List.replicate (1 - (lg_sl ([.ref (ad (13 + k0))])).length) Slot.unset).toArray = ls at hl ⊢
  have hl : lv_has ls 1 [(0, .ref (ad (13 + k0)))] := hl
  unfold f_X2_isCream at hf
  refine lv_aload_n hx hb dX2_isCream_0 rfl (lv_at hl 0 rfl) ?_
  refine lv_aload_n hx hb dX2_isCream_1 rfl (lv_at hl 0 rfl) ?_
  refine va_get (D := (dC, dI)) (ci := 2) (v := .int (I (13 + k0) 2)) (C := RX2) (T := TX2) (N := 12) hx hb hts iX2_isCream_RX2 hown hK hP (13 + k0) (heH_Mix hk0) rfl 2 (by decide) (hts (.fieldLink RX2 16 "OverrunHouse$Mix" "fatSum" "I") (List.mem_cons_of_mem _ (List.mem_append_left _ (List.mem_of_getElem? (i := 0) rfl)))) (fun _ h9 => h9) rfl dX2_isCream_2 ?_
  obtain ⟨r_1, g_2, hf⟩ := bd_out hf
  refine va_calld (va_runV (As := [.int (I (13 + k0) 2)]) (rest := []) ⟨hx, hb, hml, hown, hts⟩ (mt_X2_percent l dC dI ad cy hJ H.size I D k0 hk0 (I (13 + k0) 2) r_1 g_2) (cwV 1 hts gX2_isCream_X2_percent rfl rfl rfl (by decide +kernel) ⟨Nat.le_of_ble_eq_true rfl, Nat.le_of_ble_eq_true rfl⟩) ⟨(hW.pre [.ref (ad (13 + k0)), .int (I (13 + k0) 2)] hP hK hN).1, hW.recv (C := RX2) (T := TX2) (N := 12) hP hK (heH_Mix hk0) rfl, (hW.pre [.ref (ad (13 + k0)), .int (I (13 + k0) 2)] hP hK hN).2⟩ rfl rfl hl.1 rfl (lv_room (Nat.le_of_ble_eq_true rfl)) dX2_isCream_5 ⟨Nat.le_of_ble_eq_true rfl, Nat.le_of_ble_eq_true rfl⟩) hS (fun q _ h => hA q (Nat.le_trans hS.1 h)) (fun q h => hA q (Nat.le_trans hS.1 h)) (fun r9 u t H1 locs ht hvm hw hB hz1 hk1 hS => ?_)
  subst hw
  have hP := va_Pnew hP hk1
  clear hB hz1 hk1 hvm ht
  generalize H1 = H at hP hS ⊢
  refine lv_ldc2d (v := 4621819117588971520) hx hb hown (hts (.constantDouble RX2 69 (4621819117588971520)) (List.mem_cons_of_mem _ (List.mem_append_left _ (List.mem_of_getElem? (i := 1) rfl)))) dX2_isCream_8 ?_
  refine lv_dcmp hx hb dX2_isCream_11 ?_
  refine lv_if_lt (tgt := 34) hx hb dX2_isCream_12 (by decide) (fun c_3 => ?_) (fun c_3 => ?_)
  · have hf := it_t hf c_3
    refine lv_iconst (v := 0) hx hb dX2_isCream_34 (by decide) ?_
    have hf := Option.some.inj hf
    have q1 := hf
    exact W.zret (ty := .boolean) (v := 0) hx hb hr rfl (fun t ht hW9 => ⟨⟨0, (), rfl, q1.symm, trivial⟩, hS.F ht⟩) hS.2.2 dX2_isCream_35
  · have hf := it_f hf c_3
    refine lv_aload_n hx hb dX2_isCream_15 rfl (lv_at hl 0 rfl) ?_
    refine lv_aload_n hx hb dX2_isCream_16 rfl (lv_at hl 0 rfl) ?_
    refine va_get (D := (dC, dI)) (ci := 2) (v := .int (I (13 + k0) 3)) (C := RX2) (T := TX2) (N := 12) hx hb hts iX2_isCream_RX2 hown hK hP (13 + k0) (heH_Mix hk0) rfl 3 (by decide) (hts (.fieldLink RX2 19 "OverrunHouse$Mix" "milkSum" "I") (List.mem_cons_of_mem _ (List.mem_append_left _ (List.mem_of_getElem? (i := 2) rfl)))) (fun _ h9 => h9) rfl dX2_isCream_17 ?_
    obtain ⟨r_4, g_5, hf⟩ := bd_out hf
    refine va_calld (va_runV (As := [.int (I (13 + k0) 3)]) (rest := []) ⟨hx, hb, hml, hown, hts⟩ (mt_X2_percent l dC dI ad cy hJ H.size I D k0 hk0 (I (13 + k0) 3) r_4 g_5) (cwV 1 hts gX2_isCream_X2_percent rfl rfl rfl (by decide +kernel) ⟨Nat.le_of_ble_eq_true rfl, Nat.le_of_ble_eq_true rfl⟩) ⟨(hW.pre [.ref (ad (13 + k0)), .int (I (13 + k0) 3)] hP hK hN).1, hW.recv (C := RX2) (T := TX2) (N := 12) hP hK (heH_Mix hk0) rfl, (hW.pre [.ref (ad (13 + k0)), .int (I (13 + k0) 3)] hP hK hN).2⟩ rfl rfl hl.1 rfl (lv_room (Nat.le_of_ble_eq_true rfl)) dX2_isCream_20 ⟨Nat.le_of_ble_eq_true rfl, Nat.le_of_ble_eq_true rfl⟩) hS (fun q _ h => hA q (Nat.le_trans hS.1 h)) (fun q h => hA q (Nat.le_trans hS.1 h)) (fun r9 u t H1 locs ht hvm hw hB hz1 hk1 hS => ?_)
    subst hw
    have hP := va_Pnew hP hk1
    clear hB hz1 hk1 hvm ht
    generalize H1 = H at hP hS ⊢
    refine lv_ldc2d (v := 4620693217682128896) hx hb hown (hts (.constantDouble RX2 71 (4620693217682128896)) (List.mem_cons_of_mem _ (List.mem_append_left _ (List.mem_of_getElem? (i := 3) rfl)))) dX2_isCream_23 ?_
    refine lv_dcmp hx hb dX2_isCream_26 ?_
    refine lv_if_lt (tgt := 34) hx hb dX2_isCream_27 (by decide) (fun c_6 => ?_) (fun c_6 => ?_)
    · have hf := it_t hf c_6
      refine lv_iconst (v := 0) hx hb dX2_isCream_34 (by decide) ?_
      have hf := Option.some.inj hf
      have q1 := hf
      exact W.zret (ty := .boolean) (v := 0) hx hb hr rfl (fun t ht hW9 => ⟨⟨0, (), rfl, q1.symm, trivial⟩, hS.F ht⟩) hS.2.2 dX2_isCream_35
    · have hf := it_f hf c_6
      refine lv_iconst (v := 1) hx hb dX2_isCream_30 (by decide) ?_
      refine lv_goto (tgt := 35) hx hb dX2_isCream_31 (by decide) ?_
      have hf := Option.some.inj hf
      have q1 := hf
      exact W.zret (ty := .boolean) (v := 1) hx hb hr rfl (fun t ht hW9 => ⟨⟨1, (), rfl, q1.symm, trivial⟩, hS.F ht⟩) hS.2.2 dX2_isCream_35

def f_X2_coarsening (I : Nat → Nat → Int32) (D : Nat → Nat → UInt64) (k0 : Nat) (p1 : UInt64) (p3 : UInt64) : Option (UInt64) :=
  bd (f_X2_iceShare I D k0 p1) (fun r_1 => bd (f_X2_iceShare I D k0 p3) (fun r_3 => ck (okD (FP.dsub r_1 r_3)) ((if 0 ≤ (Op.cmpValue (FP.dcmp (FP.dsub r_1 r_3) FP.dconst0) CmpOp.g) then ck (okD (FP.dmul (4627448617123184640 : UInt64) (FP.dsub r_1 r_3))) (some (FP.dmul (4627448617123184640 : UInt64) (FP.dsub r_1 r_3))) else ck (okD (FP.dmul (4627448617123184640 : UInt64) (FP.dneg (FP.dsub r_1 r_3)))) (some (FP.dmul (4627448617123184640 : UInt64) (FP.dneg (FP.dsub r_1 r_3))))))))
set_option maxHeartbeats 4000000 in
set_option maxRecDepth 100000 in
theorem mt_X2_coarsening (l : Launch) (dC : Nat → ClassId) (dI : Nat → Nat → Nat) (ad : Nat → Nat) (cy : Nat → ClassId) (hJ : J33 ad) (sz : Nat) (I : Nat → Nat → Int32) (D : Nat → Nat → UInt64) (k0 : Nat) (hk0 : k0 < 5) (p1 : UInt64) (p3 : UInt64) (rr : UInt64) (hf : f_X2_coarsening I D k0 p1 p3 = some rr) : Met l yX2_coarsening wsX2_coarsening ({ frames := 1, cells := 0, slots := 0, locals := 22 }) (va_Pc [.ref (ad (13 + k0)), .double p1, .double p3] (fun U => U.heap.size = sz ∧ hW dC dI ad cy I D U)) (va_Qd (fun r (_ : Unit) => rr = r) (fun _ _ => True) (fun q => sz ≤ q)) 0 0 (fun q => sz ≤ q) := by
  refine Met.ofW (cc := cX2_coarsening) (maxL := 7) (ret := (some .double)) (by decide) rfl ?_
  intro p e s m args below meth c s₁ B hml hv
  obtain ⟨rfl, hsz, hP, hK, hN⟩ := hv
  have hx := B.exec
  have hb := B.bytes
  have hr := B.returns
  have hts := atoms_spec (ws := wsX2_coarsening) B.pre
  have hown : s.vm.findClass RX2 = some m.cls := findClass_of_methodNamed B.named
  have hlocks := B.notSynchronized
  subst hsz
  generalize hAe : (fun q : Nat => s.heap.size ≤ q) = A
  have hA : ∀ q : Nat, s.heap.size ≤ q → A q := fun q h => by rw [← hAe]; exact h
  obtain ⟨H, hH⟩ : ∃ H : Heap, H = s.heap := ⟨_, rfl⟩
  have hS : va_S A s.heap H [] := by rw [hH]; exact va_S.rf
  rw [← hH]
  rw [← hH] at hP
  have hl := lv_entry ([.ref (ad (13 + k0)), .double p1, .double p3]) (n := 7) (Nat.le_of_ble_eq_true rfl)
  rw [lg_entry_eq]
  generalize (lg_sl ([.ref (ad (13 + k0)), .double p1, .double p3]) ++ List.replicate (7 - (lg_sl ([.ref (ad (13 + k0)), .double p1, .double p3])).length) Slot.unset).toArray = ls at hl ⊢
  have hl : lv_has ls 7 [(0, .ref (ad (13 + k0))), (1, .double p1), (3, .double p3)] := hl
  unfold f_X2_coarsening at hf
  refine lv_aload_n hx hb dX2_coarsening_0 rfl (lv_at hl 0 rfl) ?_
  refine lv_dload_n hx hb dX2_coarsening_1 rfl (lv_at hl 1 rfl) ?_
  obtain ⟨r_1, g_2, hf⟩ := bd_out hf
  refine va_calld (va_runV (As := [.double p1]) (rest := []) ⟨hx, hb, hml, hown, hts⟩ (mt_X2_iceShare l dC dI ad cy hJ H.size I D k0 hk0 p1 r_1 g_2) (cwV 1 hts gX2_coarsening_X2_iceShare rfl rfl rfl (by decide +kernel) ⟨Nat.le_of_ble_eq_true rfl, Nat.le_of_ble_eq_true rfl⟩) ⟨(hW.pre [.ref (ad (13 + k0)), .double p1] hP hK hN).1, hW.recv (C := RX2) (T := TX2) (N := 12) hP hK (heH_Mix hk0) rfl, (hW.pre [.ref (ad (13 + k0)), .double p1] hP hK hN).2⟩ rfl rfl hl.1 rfl (lv_room (Nat.le_of_ble_eq_true rfl)) dX2_coarsening_2 ⟨Nat.le_of_ble_eq_true rfl, Nat.le_of_ble_eq_true rfl⟩) hS (fun q _ h => hA q (Nat.le_trans hS.1 h)) (fun q h => hA q (Nat.le_trans hS.1 h)) (fun r9 u t H1 locs ht hvm hw hB hz1 hk1 hS => ?_)
  subst hw
  have hP := va_Pnew hP hk1
  clear hB hz1 hk1 hvm ht
  generalize H1 = H at hP hS ⊢
  refine lv_aload_n hx hb dX2_coarsening_5 rfl (lv_at hl 0 rfl) ?_
  refine lv_dload_n hx hb dX2_coarsening_6 rfl (lv_at hl 2 rfl) ?_
  obtain ⟨r_3, g_4, hf⟩ := bd_out hf
  refine va_calld (va_runV (As := [.double p3]) (rest := [.double r_1]) ⟨hx, hb, hml, hown, hts⟩ (mt_X2_iceShare l dC dI ad cy hJ H.size I D k0 hk0 p3 r_3 g_4) (cwV 1 hts gX2_coarsening_X2_iceShare rfl rfl rfl (by decide +kernel) ⟨Nat.le_of_ble_eq_true rfl, Nat.le_of_ble_eq_true rfl⟩) ⟨(hW.pre [.ref (ad (13 + k0)), .double p3] hP hK hN).1, hW.recv (C := RX2) (T := TX2) (N := 12) hP hK (heH_Mix hk0) rfl, (hW.pre [.ref (ad (13 + k0)), .double p3] hP hK hN).2⟩ rfl rfl hl.1 rfl (lv_room (Nat.le_of_ble_eq_true rfl)) dX2_coarsening_7 ⟨Nat.le_of_ble_eq_true rfl, Nat.le_of_ble_eq_true rfl⟩) hS (fun q _ h => hA q (Nat.le_trans hS.1 h)) (fun q h => hA q (Nat.le_trans hS.1 h)) (fun r9 u t H1 locs ht hvm hw hB hz1 hk1 hS => ?_)
  subst hw
  have hP := va_Pnew hP hk1
  clear hB hz1 hk1 hvm ht
  generalize H1 = H at hP hS ⊢
  obtain ⟨h_5, hf⟩ := ck_out hf
  refine lv_dsub hx hb dX2_coarsening_10 (okD_n h_5) ?_
  refine lv_dstore (lv' := [(5, .double (FP.dsub r_1 r_3)), (0, .ref (ad (13 + k0))), (1, .double p1), (3, .double p3)]) hx hb dX2_coarsening_11 hl (by decide) rfl (fun ls hl => ?_)
  refine lv_ldc2d (v := 4627448617123184640) hx hb hown (hts (.constantDouble RX2 77 (4627448617123184640)) (List.mem_cons_of_mem _ (List.mem_append_left _ (List.mem_of_getElem? (i := 0) rfl)))) dX2_coarsening_13 ?_
  refine lv_dload hx hb dX2_coarsening_16 (lv_at hl 0 rfl) ?_
  refine lv_dconst0 hx hb dX2_coarsening_18 ?_
  refine lv_dcmp hx hb dX2_coarsening_19 ?_
  refine lv_if_ge (tgt := 29) hx hb dX2_coarsening_20 (by decide) (fun c_6 => ?_) (fun c_6 => ?_)
  · have hf := it_t hf c_6
    refine lv_dload hx hb dX2_coarsening_29 (lv_at hl 0 rfl) ?_
    obtain ⟨h_7, hf⟩ := ck_out hf
    refine lv_dmul hx hb dX2_coarsening_31 (okD_n h_7) ?_
    have hf := Option.some.inj hf
    have q1 := hf
    exact W.dret (v := (FP.dmul (4627448617123184640 : UInt64) (FP.dsub r_1 r_3))) hx hb hr (fun t ht hW9 => ⟨⟨(FP.dmul (4627448617123184640 : UInt64) (FP.dsub r_1 r_3)), (), rfl, q1.symm, trivial⟩, hS.F ht⟩) hS.2.2 dX2_coarsening_32
  · have hf := it_f hf c_6
    refine lv_dload hx hb dX2_coarsening_23 (lv_at hl 0 rfl) ?_
    refine lv_dneg hx hb dX2_coarsening_25 ?_
    refine lv_goto (tgt := 31) hx hb dX2_coarsening_26 (by decide) ?_
    obtain ⟨h_8, hf⟩ := ck_out hf
    refine lv_dmul hx hb dX2_coarsening_31 (okD_n h_8) ?_
    have hf := Option.some.inj hf
    have q1 := hf
    exact W.dret (v := (FP.dmul (4627448617123184640 : UInt64) (FP.dneg (FP.dsub r_1 r_3)))) hx hb hr (fun t ht hW9 => ⟨⟨(FP.dmul (4627448617123184640 : UInt64) (FP.dneg (FP.dsub r_1 r_3))), (), rfl, q1.symm, trivial⟩, hS.F ht⟩) hS.2.2 dX2_coarsening_32

def f_X2_meltsAt (I : Nat → Nat → Int32) (D : Nat → Nat → UInt64) (k0 : Nat) (p1 : UInt64) : Option (Int32) :=
  (if (Op.cmpValue (FP.dcmp p1 (D (13 + k0) 11)) CmpOp.l) < 0 then some 0 else some 1)
theorem iX2_meltsAt_RX2 : ∀ w ∈ u_ws RX2 TX2 12, w ∈ wsX2_meltsAt := fun w h => List.mem_cons_of_mem _ (List.mem_append_right _ (h))
set_option maxHeartbeats 4000000 in
set_option maxRecDepth 100000 in
theorem mt_X2_meltsAt (l : Launch) (dC : Nat → ClassId) (dI : Nat → Nat → Nat) (ad : Nat → Nat) (cy : Nat → ClassId) (hJ : J33 ad) (sz : Nat) (I : Nat → Nat → Int32) (D : Nat → Nat → UInt64) (k0 : Nat) (hk0 : k0 < 5) (p1 : UInt64) (rr : Int32) (hf : f_X2_meltsAt I D k0 p1 = some rr) : Met l yX2_meltsAt wsX2_meltsAt ({ frames := 0, cells := 0, slots := 0, locals := 0 }) (va_Pc [.ref (ad (13 + k0)), .double p1] (fun U => U.heap.size = sz ∧ hW dC dI ad cy I D U)) (va_Qi (fun r (_ : Unit) => rr = r) (fun _ _ => True) (fun q => sz ≤ q)) 0 0 (fun q => sz ≤ q) := by
  refine Met.ofW (cc := cX2_meltsAt) (maxL := 3) (ret := (some .boolean)) (by decide) rfl ?_
  intro p e s m args below meth c s₁ B hml hv
  obtain ⟨rfl, hsz, hP, hK, hN⟩ := hv
  have hx := B.exec
  have hb := B.bytes
  have hr := B.returns
  have hts := atoms_spec (ws := wsX2_meltsAt) B.pre
  have hown : s.vm.findClass RX2 = some m.cls := findClass_of_methodNamed B.named
  have hlocks := B.notSynchronized
  subst hsz
  generalize hAe : (fun q : Nat => s.heap.size ≤ q) = A
  have hA : ∀ q : Nat, s.heap.size ≤ q → A q := fun q h => by rw [← hAe]; exact h
  obtain ⟨H, hH⟩ : ∃ H : Heap, H = s.heap := ⟨_, rfl⟩
  have hS : va_S A s.heap H [] := by rw [hH]; exact va_S.rf
  rw [← hH]
  rw [← hH] at hP
  have hl := lv_entry ([.ref (ad (13 + k0)), .double p1]) (n := 3) (Nat.le_of_ble_eq_true rfl)
  rw [lg_entry_eq]
  generalize (lg_sl ([.ref (ad (13 + k0)), .double p1]) ++ List.replicate (3 - (lg_sl ([.ref (ad (13 + k0)), .double p1])).length) Slot.unset).toArray = ls at hl ⊢
  have hl : lv_has ls 3 [(0, .ref (ad (13 + k0))), (1, .double p1)] := hl
  unfold f_X2_meltsAt at hf
  refine lv_dload_n hx hb dX2_meltsAt_0 rfl (lv_at hl 1 rfl) ?_
  refine lv_aload_n hx hb dX2_meltsAt_1 rfl (lv_at hl 0 rfl) ?_
  refine va_get (D := (dC, dI)) (ci := 2) (v := .double (D (13 + k0) 11)) (C := RX2) (T := TX2) (N := 12) hx hb hts iX2_meltsAt_RX2 hown hK hP (13 + k0) (heH_Mix hk0) rfl 11 (by decide) (hts (.fieldLink RX2 44 "OverrunHouse$Mix" "freezesAt" "D") (List.mem_cons_of_mem _ (List.mem_append_left _ (List.mem_of_getElem? (i := 0) rfl)))) (fun _ h9 => h9) rfl dX2_meltsAt_2 ?_
  refine lv_dcmp hx hb dX2_meltsAt_5 ?_
  refine lv_if_lt (tgt := 13) hx hb dX2_meltsAt_6 (by decide) (fun c_1 => ?_) (fun c_1 => ?_)
  · have hf := it_t hf c_1
    refine lv_iconst (v := 0) hx hb dX2_meltsAt_13 (by decide) ?_
    have hf := Option.some.inj hf
    have q1 := hf
    exact W.zret (ty := .boolean) (v := 0) hx hb hr rfl (fun t ht hW9 => ⟨⟨0, (), rfl, q1.symm, trivial⟩, hS.F ht⟩) hS.2.2 dX2_meltsAt_14
  · have hf := it_f hf c_1
    refine lv_iconst (v := 1) hx hb dX2_meltsAt_9 (by decide) ?_
    refine lv_goto (tgt := 14) hx hb dX2_meltsAt_10 (by decide) ?_
    have hf := Option.some.inj hf
    have q1 := hf
    exact W.zret (ty := .boolean) (v := 1) hx hb hr rfl (fun t ht hW9 => ⟨⟨1, (), rfl, q1.symm, trivial⟩, hS.F ht⟩) hS.2.2 dX2_meltsAt_14

def f_X2_add (I : Nat → Nat → Int32) (D : Nat → Nat → UInt64) (k0 : Nat) (k1 : Nat) (p2 : Int32) (p3 : Int32) : Option ((Nat → Nat → Int32) × (Nat → Nat → UInt64)) :=
  nm (up2 I (13 + k0) 0 ((I (13 + k0) 0) + p3)) (fun I_1 => nm (up2 I_1 (13 + k0) 1 ((I_1 (13 + k0) 1) + p3)) (fun I_2 => nm (up2 I_2 (13 + k0) 2 ((I_2 (13 + k0) 2) + (p3 * (I_2 (7 + k1) 0)))) (fun I_3 => nm (up2 I_3 (13 + k0) 3 ((I_3 (13 + k0) 3) + (p3 * (I_3 (7 + k1) 1)))) (fun I_4 => nm (up2 I_4 (13 + k0) 4 ((I_4 (13 + k0) 4) + (p3 * (I_4 (7 + k1) 2)))) (fun I_5 => nm (up2 I_5 (13 + k0) 5 ((I_5 (13 + k0) 5) + (p3 * (I_5 (7 + k1) 3)))) (fun I_6 => nm (up2 I_6 (13 + k0) 6 ((I_6 (13 + k0) 6) ||| (I_6 (7 + k1) 4))) (fun I_7 => nm (up2 I_7 (13 + k0) 7 ((I_7 (13 + k0) 7) ||| (1 <<< (p2 &&& 31)))) (fun I_8 => nm (up2 I_8 (13 + k0) 10 0) (fun I_9 => bd (f_X2_percent I_9 D k0 (I_9 (13 + k0) 4)) (fun r_10 => ck (okD (FP.dmul r_10 (4589168020290535424 : UInt64))) (bd (f_X2_percent I_9 D k0 (I_9 (13 + k0) 3)) (fun r_13 => ck (okD (FP.dmul r_13 (4584664420663164928 : UInt64))) (ck (okD (FP.dadd (FP.dmul r_10 (4589168020290535424 : UInt64)) (FP.dmul r_13 (4584664420663164928 : UInt64)))) (nm (up2 D (13 + k0) 11 (FP.dneg (FP.dadd (FP.dmul r_10 (4589168020290535424 : UInt64)) (FP.dmul r_13 (4584664420663164928 : UInt64))))) (fun D_17 => some (I_9, D_17))))))))))))))))
theorem iX2_add_RX1 : ∀ w ∈ u_ws RX1 TX1 5, w ∈ wsX2_add := fun w h => List.mem_cons_of_mem _ (List.mem_append_right _ (h))
theorem iX2_add_RX2 : ∀ w ∈ u_ws RX2 TX2 12, w ∈ wsX2_add := fun w h => List.mem_cons_of_mem _ (List.mem_append_left _ (List.mem_append_right _ (h)))
set_option maxHeartbeats 4000000 in
set_option maxRecDepth 100000 in
theorem mt_X2_add (l : Launch) (dC : Nat → ClassId) (dI : Nat → Nat → Nat) (ad : Nat → Nat) (cy : Nat → ClassId) (hJ : J33 ad) (sz : Nat) (I : Nat → Nat → Int32) (D : Nat → Nat → UInt64) (k0 : Nat) (hk0 : k0 < 5) (k1 : Nat) (hk1 : k1 < 6) (p2 : Int32) (p3 : Int32) (I9 : Nat → Nat → Int32) (D9 : Nat → Nat → UInt64) (hf : f_X2_add I D k0 k1 p2 p3 = some (I9, D9)) : Met l yX2_add wsX2_add ({ frames := 1, cells := 0, slots := 0, locals := 21 }) (va_Pc [.ref (ad (13 + k0)), .ref (ad (7 + k1)), .int p2, .int p3] (fun U => U.heap.size = sz ∧ hW dC dI ad cy I D U)) (va_Qv (fun (_ : Unit) => True) (fun _ t => hW dC dI ad cy I9 D9 t) (AW ad sz)) 0 0 (AW ad sz) := by
  refine Met.ofW (cc := cX2_add) (maxL := 4) (ret := none) (by decide) rfl ?_
  intro p e s m args below meth c s₁ B hml hv
  obtain ⟨rfl, hsz, hP, hK, hN⟩ := hv
  have hx := B.exec
  have hb := B.bytes
  have hr := B.returns
  have hts := atoms_spec (ws := wsX2_add) B.pre
  have hown : s.vm.findClass RX2 = some m.cls := findClass_of_methodNamed B.named
  have hlocks := B.notSynchronized
  subst hsz
  generalize hAe : AW ad s.heap.size = A
  have hA : ∀ q : Nat, s.heap.size ≤ q → A q := fun q h => by rw [← hAe]; exact Or.inr h
  have hA33 : ∀ k, k < 33 → A (ad k) := fun k h => by rw [← hAe]; exact Or.inl ⟨k, h, rfl⟩
  have hDD : ∀ I D, va_D A (iwH ad cy I D) := fun I D => iwH_D hJ hA33 I D
  obtain ⟨H, hH⟩ : ∃ H : Heap, H = s.heap := ⟨_, rfl⟩
  have hS : va_S A s.heap H [] := by rw [hH]; exact va_S.rf
  rw [← hH]
  rw [← hH] at hP
  have hl := lv_entry ([.ref (ad (13 + k0)), .ref (ad (7 + k1)), .int p2, .int p3]) (n := 4) (Nat.le_of_ble_eq_true rfl)
  rw [lg_entry_eq]
  generalize (lg_sl ([.ref (ad (13 + k0)), .ref (ad (7 + k1)), .int p2, .int p3]) ++ List.replicate (4 - (lg_sl ([.ref (ad (13 + k0)), .ref (ad (7 + k1)), .int p2, .int p3])).length) Slot.unset).toArray = ls at hl ⊢
  have hl : lv_has ls 4 [(0, .ref (ad (13 + k0))), (1, .ref (ad (7 + k1))), (2, .int p2), (3, .int p3)] := hl
  unfold f_X2_add at hf
  refine lv_aload_n hx hb dX2_add_0 rfl (lv_at hl 0 rfl) ?_
  refine lv_dup hx hb dX2_add_1 rfl ?_
  refine va_get (D := (dC, dI)) (ci := 2) (v := .int (I (13 + k0) 0)) (C := RX2) (T := TX2) (N := 12) hx hb hts iX2_add_RX2 hown hK hP (13 + k0) (heH_Mix hk0) rfl 0 (by decide) (hts (.fieldLink RX2 7 "OverrunHouse$Mix" "kilos" "I") (List.mem_cons_of_mem _ (List.mem_append_left _ (List.mem_append_left _ (List.mem_of_getElem? (i := 0) rfl))))) (fun _ h9 => h9) rfl dX2_add_2 ?_
  refine lv_iload_n hx hb dX2_add_5 rfl (lv_at hl 3 rfl) ?_
  refine lv_iadd hx hb dX2_add_6 ?_
  obtain ⟨I_1, eI_1, hf⟩ := nm_out hf
  refine va_put (D := (dC, dI)) (ci := 2) (v := .int ((I (13 + k0) 0) + p3)) (ty := .int) (C := RX2) (T := TX2) (N := 12) hx hb hts iX2_add_RX2 tyX2 tyX2_ok nmX2 hown hK hP (hDD I D) hS (13 + k0) (heH_Mix hk0) rfl 0 (by decide) (hts (.fieldLink RX2 7 "OverrunHouse$Mix" "kilos" "I") (List.mem_cons_of_mem _ (List.mem_append_left _ (List.mem_append_left _ (List.mem_of_getElem? (i := 0) rfl))))) (fun _ h9 => h9) rfl (by decide +kernel) rfl rfl (Nat.le_of_ble_eq_true rfl) dX2_add_7 (fun H locs hP _ hS => ?_)
  have hP : va_P (dC, dI) vwCl (iwH ad cy I_1 D) H := by rw [eI_1]; exact hpI (by have := hk0; omega) ((cellH_Mix ad cy hk0 _ _).trans rfl) hP
  refine lv_aload_n hx hb dX2_add_10 rfl (lv_at hl 0 rfl) ?_
  refine lv_dup hx hb dX2_add_11 rfl ?_
  refine va_get (D := (dC, dI)) (ci := 2) (v := .int (I_1 (13 + k0) 1)) (C := RX2) (T := TX2) (N := 12) hx hb hts iX2_add_RX2 hown hK hP (13 + k0) (heH_Mix hk0) rfl 1 (by decide) (hts (.fieldLink RX2 13 "OverrunHouse$Mix" "left" "I") (List.mem_cons_of_mem _ (List.mem_append_left _ (List.mem_append_left _ (List.mem_of_getElem? (i := 1) rfl))))) (fun _ h9 => h9) rfl dX2_add_12 ?_
  refine lv_iload_n hx hb dX2_add_15 rfl (lv_at hl 3 rfl) ?_
  refine lv_iadd hx hb dX2_add_16 ?_
  obtain ⟨I_2, eI_2, hf⟩ := nm_out hf
  refine va_put (D := (dC, dI)) (ci := 2) (v := .int ((I_1 (13 + k0) 1) + p3)) (ty := .int) (C := RX2) (T := TX2) (N := 12) hx hb hts iX2_add_RX2 tyX2 tyX2_ok nmX2 hown hK hP (hDD I_1 D) hS (13 + k0) (heH_Mix hk0) rfl 1 (by decide) (hts (.fieldLink RX2 13 "OverrunHouse$Mix" "left" "I") (List.mem_cons_of_mem _ (List.mem_append_left _ (List.mem_append_left _ (List.mem_of_getElem? (i := 1) rfl))))) (fun _ h9 => h9) rfl (by decide +kernel) rfl rfl (Nat.le_of_ble_eq_true rfl) dX2_add_17 (fun H locs hP _ hS => ?_)
  have hP : va_P (dC, dI) vwCl (iwH ad cy I_2 D) H := by rw [eI_2]; exact hpI (by have := hk0; omega) ((cellH_Mix ad cy hk0 _ _).trans rfl) hP
  refine lv_aload_n hx hb dX2_add_20 rfl (lv_at hl 0 rfl) ?_
  refine lv_dup hx hb dX2_add_21 rfl ?_
  refine va_get (D := (dC, dI)) (ci := 2) (v := .int (I_2 (13 + k0) 2)) (C := RX2) (T := TX2) (N := 12) hx hb hts iX2_add_RX2 hown hK hP (13 + k0) (heH_Mix hk0) rfl 2 (by decide) (hts (.fieldLink RX2 16 "OverrunHouse$Mix" "fatSum" "I") (List.mem_cons_of_mem _ (List.mem_append_left _ (List.mem_append_left _ (List.mem_of_getElem? (i := 2) rfl))))) (fun _ h9 => h9) rfl dX2_add_22 ?_
  refine lv_iload_n hx hb dX2_add_25 rfl (lv_at hl 3 rfl) ?_
  refine lv_aload_n hx hb dX2_add_26 rfl (lv_at hl 1 rfl) ?_
  refine va_getN (D := (dC, dI)) (ci := 1) (v := .int (I_2 (7 + k1) 0)) (C := RX1) (T := TX1) (N := 5) hx hb hts iX2_add_RX1 hown hK hP (7 + k1) (heH_Ingredient hk1) rfl 0 (by decide) (va_Nw.use (w := .fieldLinkNest "OverrunHouse$Mix" 48 "OverrunHouse$Ingredient" "fat" "I" "OverrunHouse") rfl (hN _ (List.mem_of_getElem? (i := 0) rfl))) (fun _ h9 => h9) rfl dX2_add_27 ?_
  refine lv_imul hx hb dX2_add_30 ?_
  refine lv_iadd hx hb dX2_add_31 ?_
  obtain ⟨I_3, eI_3, hf⟩ := nm_out hf
  refine va_put (D := (dC, dI)) (ci := 2) (v := .int ((I_2 (13 + k0) 2) + (p3 * (I_2 (7 + k1) 0)))) (ty := .int) (C := RX2) (T := TX2) (N := 12) hx hb hts iX2_add_RX2 tyX2 tyX2_ok nmX2 hown hK hP (hDD I_2 D) hS (13 + k0) (heH_Mix hk0) rfl 2 (by decide) (hts (.fieldLink RX2 16 "OverrunHouse$Mix" "fatSum" "I") (List.mem_cons_of_mem _ (List.mem_append_left _ (List.mem_append_left _ (List.mem_of_getElem? (i := 2) rfl))))) (fun _ h9 => h9) rfl (by decide +kernel) rfl rfl (Nat.le_of_ble_eq_true rfl) dX2_add_32 (fun H locs hP _ hS => ?_)
  have hP : va_P (dC, dI) vwCl (iwH ad cy I_3 D) H := by rw [eI_3]; exact hpI (by have := hk0; omega) ((cellH_Mix ad cy hk0 _ _).trans rfl) hP
  refine lv_aload_n hx hb dX2_add_35 rfl (lv_at hl 0 rfl) ?_
  refine lv_dup hx hb dX2_add_36 rfl ?_
  refine va_get (D := (dC, dI)) (ci := 2) (v := .int (I_3 (13 + k0) 3)) (C := RX2) (T := TX2) (N := 12) hx hb hts iX2_add_RX2 hown hK hP (13 + k0) (heH_Mix hk0) rfl 3 (by decide) (hts (.fieldLink RX2 19 "OverrunHouse$Mix" "milkSum" "I") (List.mem_cons_of_mem _ (List.mem_append_left _ (List.mem_append_left _ (List.mem_of_getElem? (i := 3) rfl))))) (fun _ h9 => h9) rfl dX2_add_37 ?_
  refine lv_iload_n hx hb dX2_add_40 rfl (lv_at hl 3 rfl) ?_
  refine lv_aload_n hx hb dX2_add_41 rfl (lv_at hl 1 rfl) ?_
  refine va_getN (D := (dC, dI)) (ci := 1) (v := .int (I_3 (7 + k1) 1)) (C := RX1) (T := TX1) (N := 5) hx hb hts iX2_add_RX1 hown hK hP (7 + k1) (heH_Ingredient hk1) rfl 1 (by decide) (va_Nw.use (w := .fieldLinkNest "OverrunHouse$Mix" 53 "OverrunHouse$Ingredient" "milk" "I" "OverrunHouse") rfl (hN _ (List.mem_of_getElem? (i := 2) rfl))) (fun _ h9 => h9) rfl dX2_add_42 ?_
  refine lv_imul hx hb dX2_add_45 ?_
  refine lv_iadd hx hb dX2_add_46 ?_
  obtain ⟨I_4, eI_4, hf⟩ := nm_out hf
  refine va_put (D := (dC, dI)) (ci := 2) (v := .int ((I_3 (13 + k0) 3) + (p3 * (I_3 (7 + k1) 1)))) (ty := .int) (C := RX2) (T := TX2) (N := 12) hx hb hts iX2_add_RX2 tyX2 tyX2_ok nmX2 hown hK hP (hDD I_3 D) hS (13 + k0) (heH_Mix hk0) rfl 3 (by decide) (hts (.fieldLink RX2 19 "OverrunHouse$Mix" "milkSum" "I") (List.mem_cons_of_mem _ (List.mem_append_left _ (List.mem_append_left _ (List.mem_of_getElem? (i := 3) rfl))))) (fun _ h9 => h9) rfl (by decide +kernel) rfl rfl (Nat.le_of_ble_eq_true rfl) dX2_add_47 (fun H locs hP _ hS => ?_)
  have hP : va_P (dC, dI) vwCl (iwH ad cy I_4 D) H := by rw [eI_4]; exact hpI (by have := hk0; omega) ((cellH_Mix ad cy hk0 _ _).trans rfl) hP
  refine lv_aload_n hx hb dX2_add_50 rfl (lv_at hl 0 rfl) ?_
  refine lv_dup hx hb dX2_add_51 rfl ?_
  refine va_get (D := (dC, dI)) (ci := 2) (v := .int (I_4 (13 + k0) 4)) (C := RX2) (T := TX2) (N := 12) hx hb hts iX2_add_RX2 hown hK hP (13 + k0) (heH_Mix hk0) rfl 4 (by decide) (hts (.fieldLink RX2 22 "OverrunHouse$Mix" "sugarSum" "I") (List.mem_cons_of_mem _ (List.mem_append_left _ (List.mem_append_left _ (List.mem_of_getElem? (i := 4) rfl))))) (fun _ h9 => h9) rfl dX2_add_52 ?_
  refine lv_iload_n hx hb dX2_add_55 rfl (lv_at hl 3 rfl) ?_
  refine lv_aload_n hx hb dX2_add_56 rfl (lv_at hl 1 rfl) ?_
  refine va_getN (D := (dC, dI)) (ci := 1) (v := .int (I_4 (7 + k1) 2)) (C := RX1) (T := TX1) (N := 5) hx hb hts iX2_add_RX1 hown hK hP (7 + k1) (heH_Ingredient hk1) rfl 2 (by decide) (va_Nw.use (w := .fieldLinkNest "OverrunHouse$Mix" 56 "OverrunHouse$Ingredient" "sugar" "I" "OverrunHouse") rfl (hN _ (List.mem_of_getElem? (i := 4) rfl))) (fun _ h9 => h9) rfl dX2_add_57 ?_
  refine lv_imul hx hb dX2_add_60 ?_
  refine lv_iadd hx hb dX2_add_61 ?_
  obtain ⟨I_5, eI_5, hf⟩ := nm_out hf
  refine va_put (D := (dC, dI)) (ci := 2) (v := .int ((I_4 (13 + k0) 4) + (p3 * (I_4 (7 + k1) 2)))) (ty := .int) (C := RX2) (T := TX2) (N := 12) hx hb hts iX2_add_RX2 tyX2 tyX2_ok nmX2 hown hK hP (hDD I_4 D) hS (13 + k0) (heH_Mix hk0) rfl 4 (by decide) (hts (.fieldLink RX2 22 "OverrunHouse$Mix" "sugarSum" "I") (List.mem_cons_of_mem _ (List.mem_append_left _ (List.mem_append_left _ (List.mem_of_getElem? (i := 4) rfl))))) (fun _ h9 => h9) rfl (by decide +kernel) rfl rfl (Nat.le_of_ble_eq_true rfl) dX2_add_62 (fun H locs hP _ hS => ?_)
  have hP : va_P (dC, dI) vwCl (iwH ad cy I_5 D) H := by rw [eI_5]; exact hpI (by have := hk0; omega) ((cellH_Mix ad cy hk0 _ _).trans rfl) hP
  refine lv_aload_n hx hb dX2_add_65 rfl (lv_at hl 0 rfl) ?_
  refine lv_dup hx hb dX2_add_66 rfl ?_
  refine va_get (D := (dC, dI)) (ci := 2) (v := .int (I_5 (13 + k0) 5)) (C := RX2) (T := TX2) (N := 12) hx hb hts iX2_add_RX2 hown hK hP (13 + k0) (heH_Mix hk0) rfl 5 (by decide) (hts (.fieldLink RX2 25 "OverrunHouse$Mix" "cost" "I") (List.mem_cons_of_mem _ (List.mem_append_left _ (List.mem_append_left _ (List.mem_of_getElem? (i := 5) rfl))))) (fun _ h9 => h9) rfl dX2_add_67 ?_
  refine lv_iload_n hx hb dX2_add_70 rfl (lv_at hl 3 rfl) ?_
  refine lv_aload_n hx hb dX2_add_71 rfl (lv_at hl 1 rfl) ?_
  refine va_getN (D := (dC, dI)) (ci := 1) (v := .int (I_5 (7 + k1) 3)) (C := RX1) (T := TX1) (N := 5) hx hb hts iX2_add_RX1 hown hK hP (7 + k1) (heH_Ingredient hk1) rfl 3 (by decide) (va_Nw.use (w := .fieldLinkNest "OverrunHouse$Mix" 59 "OverrunHouse$Ingredient" "cost" "I" "OverrunHouse") rfl (hN _ (List.mem_of_getElem? (i := 6) rfl))) (fun _ h9 => h9) rfl dX2_add_72 ?_
  refine lv_imul hx hb dX2_add_75 ?_
  refine lv_iadd hx hb dX2_add_76 ?_
  obtain ⟨I_6, eI_6, hf⟩ := nm_out hf
  refine va_put (D := (dC, dI)) (ci := 2) (v := .int ((I_5 (13 + k0) 5) + (p3 * (I_5 (7 + k1) 3)))) (ty := .int) (C := RX2) (T := TX2) (N := 12) hx hb hts iX2_add_RX2 tyX2 tyX2_ok nmX2 hown hK hP (hDD I_5 D) hS (13 + k0) (heH_Mix hk0) rfl 5 (by decide) (hts (.fieldLink RX2 25 "OverrunHouse$Mix" "cost" "I") (List.mem_cons_of_mem _ (List.mem_append_left _ (List.mem_append_left _ (List.mem_of_getElem? (i := 5) rfl))))) (fun _ h9 => h9) rfl (by decide +kernel) rfl rfl (Nat.le_of_ble_eq_true rfl) dX2_add_77 (fun H locs hP _ hS => ?_)
  have hP : va_P (dC, dI) vwCl (iwH ad cy I_6 D) H := by rw [eI_6]; exact hpI (by have := hk0; omega) ((cellH_Mix ad cy hk0 _ _).trans rfl) hP
  refine lv_aload_n hx hb dX2_add_80 rfl (lv_at hl 0 rfl) ?_
  refine lv_dup hx hb dX2_add_81 rfl ?_
  refine va_get (D := (dC, dI)) (ci := 2) (v := .int (I_6 (13 + k0) 6)) (C := RX2) (T := TX2) (N := 12) hx hb hts iX2_add_RX2 hown hK hP (13 + k0) (heH_Mix hk0) rfl 6 (by decide) (hts (.fieldLink RX2 28 "OverrunHouse$Mix" "harms" "I") (List.mem_cons_of_mem _ (List.mem_append_left _ (List.mem_append_left _ (List.mem_of_getElem? (i := 6) rfl))))) (fun _ h9 => h9) rfl dX2_add_82 ?_
  refine lv_aload_n hx hb dX2_add_85 rfl (lv_at hl 1 rfl) ?_
  refine va_getN (D := (dC, dI)) (ci := 1) (v := .int (I_6 (7 + k1) 4)) (C := RX1) (T := TX1) (N := 5) hx hb hts iX2_add_RX1 hown hK hP (7 + k1) (heH_Ingredient hk1) rfl 4 (by decide) (va_Nw.use (w := .fieldLinkNest "OverrunHouse$Mix" 60 "OverrunHouse$Ingredient" "harms" "I" "OverrunHouse") rfl (hN _ (List.mem_of_getElem? (i := 8) rfl))) (fun _ h9 => h9) rfl dX2_add_86 ?_
  refine lv_ior hx hb dX2_add_89 ?_
  obtain ⟨I_7, eI_7, hf⟩ := nm_out hf
  refine va_put (D := (dC, dI)) (ci := 2) (v := .int ((I_6 (13 + k0) 6) ||| (I_6 (7 + k1) 4))) (ty := .int) (C := RX2) (T := TX2) (N := 12) hx hb hts iX2_add_RX2 tyX2 tyX2_ok nmX2 hown hK hP (hDD I_6 D) hS (13 + k0) (heH_Mix hk0) rfl 6 (by decide) (hts (.fieldLink RX2 28 "OverrunHouse$Mix" "harms" "I") (List.mem_cons_of_mem _ (List.mem_append_left _ (List.mem_append_left _ (List.mem_of_getElem? (i := 6) rfl))))) (fun _ h9 => h9) rfl (by decide +kernel) rfl rfl (Nat.le_of_ble_eq_true rfl) dX2_add_90 (fun H locs hP _ hS => ?_)
  have hP : va_P (dC, dI) vwCl (iwH ad cy I_7 D) H := by rw [eI_7]; exact hpI (by have := hk0; omega) ((cellH_Mix ad cy hk0 _ _).trans rfl) hP
  refine lv_aload_n hx hb dX2_add_93 rfl (lv_at hl 0 rfl) ?_
  refine lv_dup hx hb dX2_add_94 rfl ?_
  refine va_get (D := (dC, dI)) (ci := 2) (v := .int (I_7 (13 + k0) 7)) (C := RX2) (T := TX2) (N := 12) hx hb hts iX2_add_RX2 hown hK hP (13 + k0) (heH_Mix hk0) rfl 7 (by decide) (hts (.fieldLink RX2 31 "OverrunHouse$Mix" "ingredientSet" "I") (List.mem_cons_of_mem _ (List.mem_append_left _ (List.mem_append_left _ (List.mem_of_getElem? (i := 7) rfl))))) (fun _ h9 => h9) rfl dX2_add_95 ?_
  refine lv_iconst (v := 1) hx hb dX2_add_98 (by decide) ?_
  refine lv_iload_n hx hb dX2_add_99 rfl (lv_at hl 2 rfl) ?_
  refine lv_ishl hx hb dX2_add_100 ?_
  refine lv_ior hx hb dX2_add_101 ?_
  obtain ⟨I_8, eI_8, hf⟩ := nm_out hf
  refine va_put (D := (dC, dI)) (ci := 2) (v := .int ((I_7 (13 + k0) 7) ||| (1 <<< (p2 &&& 31)))) (ty := .int) (C := RX2) (T := TX2) (N := 12) hx hb hts iX2_add_RX2 tyX2 tyX2_ok nmX2 hown hK hP (hDD I_7 D) hS (13 + k0) (heH_Mix hk0) rfl 7 (by decide) (hts (.fieldLink RX2 31 "OverrunHouse$Mix" "ingredientSet" "I") (List.mem_cons_of_mem _ (List.mem_append_left _ (List.mem_append_left _ (List.mem_of_getElem? (i := 7) rfl))))) (fun _ h9 => h9) rfl (by decide +kernel) rfl rfl (Nat.le_of_ble_eq_true rfl) dX2_add_102 (fun H locs hP _ hS => ?_)
  have hP : va_P (dC, dI) vwCl (iwH ad cy I_8 D) H := by rw [eI_8]; exact hpI (by have := hk0; omega) ((cellH_Mix ad cy hk0 _ _).trans rfl) hP
  refine lv_aload_n hx hb dX2_add_105 rfl (lv_at hl 0 rfl) ?_
  refine lv_iconst (v := 0) hx hb dX2_add_106 (by decide) ?_
  obtain ⟨I_9, eI_9, hf⟩ := nm_out hf
  refine va_put (D := (dC, dI)) (ci := 2) (v := .int 0) (ty := .boolean) (C := RX2) (T := TX2) (N := 12) hx hb hts iX2_add_RX2 tyX2 tyX2_ok nmX2 hown hK hP (hDD I_8 D) hS (13 + k0) (heH_Mix hk0) rfl 10 (by decide) (hts (.fieldLink RX2 40 "OverrunHouse$Mix" "isProved" "Z") (List.mem_cons_of_mem _ (List.mem_append_left _ (List.mem_append_left _ (List.mem_of_getElem? (i := 8) rfl))))) (fun _ h9 => h9) rfl (by decide +kernel) rfl rfl (Nat.le_of_ble_eq_true rfl) dX2_add_107 (fun H locs hP _ hS => ?_)
  have hP : va_P (dC, dI) vwCl (iwH ad cy I_9 D) H := by rw [eI_9]; exact hpI (by have := hk0; omega) ((cellH_Mix ad cy hk0 _ _).trans rfl) hP
  refine lv_aload_n hx hb dX2_add_110 rfl (lv_at hl 0 rfl) ?_
  refine lv_aload_n hx hb dX2_add_111 rfl (lv_at hl 0 rfl) ?_
  refine lv_aload_n hx hb dX2_add_112 rfl (lv_at hl 0 rfl) ?_
  refine va_get (D := (dC, dI)) (ci := 2) (v := .int (I_9 (13 + k0) 4)) (C := RX2) (T := TX2) (N := 12) hx hb hts iX2_add_RX2 hown hK hP (13 + k0) (heH_Mix hk0) rfl 4 (by decide) (hts (.fieldLink RX2 22 "OverrunHouse$Mix" "sugarSum" "I") (List.mem_cons_of_mem _ (List.mem_append_left _ (List.mem_append_left _ (List.mem_of_getElem? (i := 4) rfl))))) (fun _ h9 => h9) rfl dX2_add_113 ?_
  obtain ⟨r_10, g_11, hf⟩ := bd_out hf
  refine va_calld (va_runV (As := [.int (I_9 (13 + k0) 4)]) (rest := [.ref (ad (13 + k0))]) ⟨hx, hb, hml, hown, hts⟩ (mt_X2_percent l dC dI ad cy hJ H.size I_9 D k0 hk0 (I_9 (13 + k0) 4) r_10 g_11) (cwV 1 hts gX2_add_X2_percent rfl rfl rfl (by decide +kernel) ⟨Nat.le_of_ble_eq_true rfl, Nat.le_of_ble_eq_true rfl⟩) ⟨(hW.pre [.ref (ad (13 + k0)), .int (I_9 (13 + k0) 4)] hP hK hN).1, hW.recv (C := RX2) (T := TX2) (N := 12) hP hK (heH_Mix hk0) rfl, (hW.pre [.ref (ad (13 + k0)), .int (I_9 (13 + k0) 4)] hP hK hN).2⟩ rfl rfl hl.1 rfl (lv_room (Nat.le_of_ble_eq_true rfl)) dX2_add_116 ⟨Nat.le_of_ble_eq_true rfl, Nat.le_of_ble_eq_true rfl⟩) hS (fun q _ h => hA q (Nat.le_trans hS.1 h)) (fun q h => hA q (Nat.le_trans hS.1 h)) (fun r9 u t H1 locs ht hvm hw hB hz1 hk1 hS => ?_)
  subst hw
  have hP := va_Pnew hP hk1
  clear hB hz1 hk1 hvm ht
  generalize H1 = H at hP hS ⊢
  refine lv_ldc2d (v := 4589168020290535424) hx hb hown (hts (.constantDouble RX2 65 (4589168020290535424)) (List.mem_cons_of_mem _ (List.mem_append_left _ (List.mem_append_left _ (List.mem_of_getElem? (i := 9) rfl))))) dX2_add_119 ?_
  obtain ⟨h_12, hf⟩ := ck_out hf
  refine lv_dmul hx hb dX2_add_122 (okD_n h_12) ?_
  refine lv_aload_n hx hb dX2_add_123 rfl (lv_at hl 0 rfl) ?_
  refine lv_aload_n hx hb dX2_add_124 rfl (lv_at hl 0 rfl) ?_
  refine va_get (D := (dC, dI)) (ci := 2) (v := .int (I_9 (13 + k0) 3)) (C := RX2) (T := TX2) (N := 12) hx hb hts iX2_add_RX2 hown hK hP (13 + k0) (heH_Mix hk0) rfl 3 (by decide) (hts (.fieldLink RX2 19 "OverrunHouse$Mix" "milkSum" "I") (List.mem_cons_of_mem _ (List.mem_append_left _ (List.mem_append_left _ (List.mem_of_getElem? (i := 3) rfl))))) (fun _ h9 => h9) rfl dX2_add_125 ?_
  obtain ⟨r_13, g_14, hf⟩ := bd_out hf
  refine va_calld (va_runV (As := [.int (I_9 (13 + k0) 3)]) (rest := [.double (FP.dmul r_10 (4589168020290535424 : UInt64)), .ref (ad (13 + k0))]) ⟨hx, hb, hml, hown, hts⟩ (mt_X2_percent l dC dI ad cy hJ H.size I_9 D k0 hk0 (I_9 (13 + k0) 3) r_13 g_14) (cwV 1 hts gX2_add_X2_percent rfl rfl rfl (by decide +kernel) ⟨Nat.le_of_ble_eq_true rfl, Nat.le_of_ble_eq_true rfl⟩) ⟨(hW.pre [.ref (ad (13 + k0)), .int (I_9 (13 + k0) 3)] hP hK hN).1, hW.recv (C := RX2) (T := TX2) (N := 12) hP hK (heH_Mix hk0) rfl, (hW.pre [.ref (ad (13 + k0)), .int (I_9 (13 + k0) 3)] hP hK hN).2⟩ rfl rfl hl.1 rfl (lv_room (Nat.le_of_ble_eq_true rfl)) dX2_add_128 ⟨Nat.le_of_ble_eq_true rfl, Nat.le_of_ble_eq_true rfl⟩) hS (fun q _ h => hA q (Nat.le_trans hS.1 h)) (fun q h => hA q (Nat.le_trans hS.1 h)) (fun r9 u t H1 locs ht hvm hw hB hz1 hk1 hS => ?_)
  subst hw
  have hP := va_Pnew hP hk1
  clear hB hz1 hk1 hvm ht
  generalize H1 = H at hP hS ⊢
  refine lv_ldc2d (v := 4584664420663164928) hx hb hown (hts (.constantDouble RX2 67 (4584664420663164928)) (List.mem_cons_of_mem _ (List.mem_append_left _ (List.mem_append_left _ (List.mem_of_getElem? (i := 10) rfl))))) dX2_add_131 ?_
  obtain ⟨h_15, hf⟩ := ck_out hf
  refine lv_dmul hx hb dX2_add_134 (okD_n h_15) ?_
  obtain ⟨h_16, hf⟩ := ck_out hf
  refine lv_dadd hx hb dX2_add_135 (okD_n h_16) ?_
  refine lv_dneg hx hb dX2_add_136 ?_
  obtain ⟨D_17, eD_17, hf⟩ := nm_out hf
  refine va_put (D := (dC, dI)) (ci := 2) (v := .double (FP.dneg (FP.dadd (FP.dmul r_10 (4589168020290535424 : UInt64)) (FP.dmul r_13 (4584664420663164928 : UInt64))))) (ty := .double) (C := RX2) (T := TX2) (N := 12) hx hb hts iX2_add_RX2 tyX2 tyX2_ok nmX2 hown hK hP (hDD I_9 D) hS (13 + k0) (heH_Mix hk0) rfl 11 (by decide) (hts (.fieldLink RX2 44 "OverrunHouse$Mix" "freezesAt" "D") (List.mem_cons_of_mem _ (List.mem_append_left _ (List.mem_append_left _ (List.mem_of_getElem? (i := 11) rfl))))) (fun _ h9 => h9) rfl (by decide +kernel) rfl rfl (Nat.le_of_ble_eq_true rfl) dX2_add_137 (fun H locs hP _ hS => ?_)
  have hP : va_P (dC, dI) vwCl (iwH ad cy I_9 D_17) H := by rw [eD_17]; exact hpD (by have := hk0; omega) ((cellH_Mix ad cy hk0 _ _).trans rfl) hP
  have hf := Option.some.inj hf
  obtain ⟨q2, q3⟩ := Prod.mk.inj hf
  rw [q2, q3] at hP
  exact W.vret hx hb hr (fun t ht hW9 => ⟨⟨(), rfl, trivial, hW.of hP hK hN ht hW9⟩, hS.F ht⟩) hS.2.2 dX2_add_140

def f_X3_hourLater (I : Nat → Nat → Int32) (D : Nat → Nat → UInt64) (k0 : Nat) (p1 : UInt64) : Option (UInt64) :=
  ck (okD (FP.dsub (FP.i2d (I (30 + k0) 0)) p1)) (ck (okD (FP.dmul (FP.dsub (FP.i2d (I (30 + k0) 0)) p1) (4598175219545276416 : UInt64))) (ck (okD (FP.dadd p1 (FP.dmul (FP.dsub (FP.i2d (I (30 + k0) 0)) p1) (4598175219545276416 : UInt64)))) (some (FP.dadd p1 (FP.dmul (FP.dsub (FP.i2d (I (30 + k0) 0)) p1) (4598175219545276416 : UInt64))))))
theorem iX3_hourLater_RX3 : ∀ w ∈ u_ws RX3 TX3 2, w ∈ wsX3_hourLater := fun w h => List.mem_cons_of_mem _ (List.mem_append_right _ (h))
set_option maxHeartbeats 4000000 in
set_option maxRecDepth 100000 in
theorem mt_X3_hourLater (l : Launch) (dC : Nat → ClassId) (dI : Nat → Nat → Nat) (ad : Nat → Nat) (cy : Nat → ClassId) (hJ : J33 ad) (sz : Nat) (I : Nat → Nat → Int32) (D : Nat → Nat → UInt64) (k0 : Nat) (hk0 : k0 < 3) (p1 : UInt64) (rr : UInt64) (hf : f_X3_hourLater I D k0 p1 = some rr) : Met l yX3_hourLater wsX3_hourLater ({ frames := 0, cells := 0, slots := 0, locals := 0 }) (va_Pc [.ref (ad (30 + k0)), .double p1] (fun U => U.heap.size = sz ∧ hW dC dI ad cy I D U)) (va_Qd (fun r (_ : Unit) => rr = r) (fun _ _ => True) (fun q => sz ≤ q)) 0 0 (fun q => sz ≤ q) := by
  refine Met.ofW (cc := cX3_hourLater) (maxL := 3) (ret := (some .double)) (by decide) rfl ?_
  intro p e s m args below meth c s₁ B hml hv
  obtain ⟨rfl, hsz, hP, hK, hN⟩ := hv
  have hx := B.exec
  have hb := B.bytes
  have hr := B.returns
  have hts := atoms_spec (ws := wsX3_hourLater) B.pre
  have hown : s.vm.findClass RX3 = some m.cls := findClass_of_methodNamed B.named
  have hlocks := B.notSynchronized
  subst hsz
  generalize hAe : (fun q : Nat => s.heap.size ≤ q) = A
  have hA : ∀ q : Nat, s.heap.size ≤ q → A q := fun q h => by rw [← hAe]; exact h
  obtain ⟨H, hH⟩ : ∃ H : Heap, H = s.heap := ⟨_, rfl⟩
  have hS : va_S A s.heap H [] := by rw [hH]; exact va_S.rf
  rw [← hH]
  rw [← hH] at hP
  have hl := lv_entry ([.ref (ad (30 + k0)), .double p1]) (n := 3) (Nat.le_of_ble_eq_true rfl)
  rw [lg_entry_eq]
  generalize (lg_sl ([.ref (ad (30 + k0)), .double p1]) ++ List.replicate (3 - (lg_sl ([.ref (ad (30 + k0)), .double p1])).length) Slot.unset).toArray = ls at hl ⊢
  have hl : lv_has ls 3 [(0, .ref (ad (30 + k0))), (1, .double p1)] := hl
  unfold f_X3_hourLater at hf
  refine lv_dload_n hx hb dX3_hourLater_0 rfl (lv_at hl 1 rfl) ?_
  refine lv_aload_n hx hb dX3_hourLater_1 rfl (lv_at hl 0 rfl) ?_
  refine va_get (D := (dC, dI)) (ci := 3) (v := .int (I (30 + k0) 0)) (C := RX3) (T := TX3) (N := 2) hx hb hts iX3_hourLater_RX3 hown hK hP (30 + k0) (heH_Store hk0) rfl 0 (by decide) (hts (.fieldLink RX3 7 "OverrunHouse$Store" "wanted" "I") (List.mem_cons_of_mem _ (List.mem_append_left _ (List.mem_of_getElem? (i := 0) rfl)))) (fun _ h9 => h9) rfl dX3_hourLater_2 ?_
  refine lv_i2d hx hb dX3_hourLater_5 ?_
  refine lv_dload_n hx hb dX3_hourLater_6 rfl (lv_at hl 1 rfl) ?_
  obtain ⟨h_1, hf⟩ := ck_out hf
  refine lv_dsub hx hb dX3_hourLater_7 (okD_n h_1) ?_
  refine lv_ldc2d (v := 4598175219545276416) hx hb hown (hts (.constantDouble RX3 17 (4598175219545276416)) (List.mem_cons_of_mem _ (List.mem_append_left _ (List.mem_of_getElem? (i := 1) rfl)))) dX3_hourLater_8 ?_
  obtain ⟨h_2, hf⟩ := ck_out hf
  refine lv_dmul hx hb dX3_hourLater_11 (okD_n h_2) ?_
  obtain ⟨h_3, hf⟩ := ck_out hf
  refine lv_dadd hx hb dX3_hourLater_12 (okD_n h_3) ?_
  have hf := Option.some.inj hf
  have q1 := hf
  exact W.dret (v := (FP.dadd p1 (FP.dmul (FP.dsub (FP.i2d (I (30 + k0) 0)) p1) (4598175219545276416 : UInt64)))) hx hb hr (fun t ht hW9 => ⟨⟨(FP.dadd p1 (FP.dmul (FP.dsub (FP.i2d (I (30 + k0) 0)) p1) (4598175219545276416 : UInt64))), (), rfl, q1.symm, trivial⟩, hS.F ht⟩) hS.2.2 dX3_hourLater_13

def f_X4_proves (p0 : Int32) (p1 : Int32) : Option (Int32) :=
  (if p0 < 80 then (if p0 < 75 then (if p0 < 70 then (if p0 < 65 then some 0 else (if p1 < 1800 then some 0 else some 1)) else (if p1 < 300 then some 0 else some 1)) else (if p1 < 60 then some 0 else some 1)) else (if p1 < 15 then some 0 else some 1))
set_option maxHeartbeats 4000000 in
set_option maxRecDepth 100000 in
theorem mt_X4_proves (l : Launch) (sz : Nat) (p0 : Int32) (p1 : Int32) (rr : Int32) (hf : f_X4_proves p0 p1 = some rr) : Met l yX4_proves wsX4_proves ({ frames := 0, cells := 0, slots := 0, locals := 0 }) (va_Pc [.int p0, .int p1] (fun U => U.heap.size = sz)) (va_Qi (fun r (_ : Unit) => rr = r) (fun _ _ => True) (fun q => sz ≤ q)) 0 0 (fun q => sz ≤ q) := by
  refine Met.ofW (cc := cX4_proves) (maxL := 2) (ret := (some .boolean)) (by decide) rfl ?_
  intro p e s m args below meth c s₁ B hml hv
  obtain ⟨rfl, hsz⟩ := hv
  have hx := B.exec
  have hb := B.bytes
  have hr := B.returns
  have hts := atoms_spec (ws := wsX4_proves) B.pre
  have hown : s.vm.findClass RX4 = some m.cls := findClass_of_methodNamed B.named
  have hlocks := B.notSynchronized
  subst hsz
  generalize hAe : (fun q : Nat => s.heap.size ≤ q) = A
  have hA : ∀ q : Nat, s.heap.size ≤ q → A q := fun q h => by rw [← hAe]; exact h
  obtain ⟨H, hH⟩ : ∃ H : Heap, H = s.heap := ⟨_, rfl⟩
  have hS : va_S A s.heap H [] := by rw [hH]; exact va_S.rf
  rw [← hH]
  have hl := lv_entry ([.int p0, .int p1]) (n := 2) (Nat.le_of_ble_eq_true rfl)
  rw [lg_entry_eq]
  generalize (lg_sl ([.int p0, .int p1]) ++ List.replicate (2 - (lg_sl ([.int p0, .int p1])).length) Slot.unset).toArray = ls at hl ⊢
  have hl : lv_has ls 2 [(0, .int p0), (1, .int p1)] := hl
  unfold f_X4_proves at hf
  refine lv_iload_n hx hb dX4_proves_0 rfl (lv_at hl 0 rfl) ?_
  refine lv_bipush (v := 80) hx hb dX4_proves_1 (by decide) ?_
  refine lv_icmp_lt (tgt := 18) hx hb dX4_proves_3 (by decide) (fun c_1 => ?_) (fun c_1 => ?_)
  · have hf := it_t hf c_1
    refine lv_iload_n hx hb dX4_proves_18 rfl (lv_at hl 0 rfl) ?_
    refine lv_bipush (v := 75) hx hb dX4_proves_19 (by decide) ?_
    refine lv_icmp_lt (tgt := 36) hx hb dX4_proves_21 (by decide) (fun c_2 => ?_) (fun c_2 => ?_)
    · have hf := it_t hf c_2
      refine lv_iload_n hx hb dX4_proves_36 rfl (lv_at hl 0 rfl) ?_
      refine lv_bipush (v := 70) hx hb dX4_proves_37 (by decide) ?_
      refine lv_icmp_lt (tgt := 55) hx hb dX4_proves_39 (by decide) (fun c_3 => ?_) (fun c_3 => ?_)
      · have hf := it_t hf c_3
        refine lv_iload_n hx hb dX4_proves_55 rfl (lv_at hl 0 rfl) ?_
        refine lv_bipush (v := 65) hx hb dX4_proves_56 (by decide) ?_
        refine lv_icmp_lt (tgt := 72) hx hb dX4_proves_58 (by decide) (fun c_4 => ?_) (fun c_4 => ?_)
        · have hf := it_t hf c_4
          refine lv_iconst (v := 0) hx hb dX4_proves_72 (by decide) ?_
          have hf := Option.some.inj hf
          have q1 := hf
          exact W.zret (ty := .boolean) (v := 0) hx hb hr rfl (fun t ht hW9 => ⟨⟨0, (), rfl, q1.symm, trivial⟩, hS.F ht⟩) hS.2.2 dX4_proves_73
        · have hf := it_f hf c_4
          refine lv_iload_n hx hb dX4_proves_61 rfl (lv_at hl 1 rfl) ?_
          refine lv_sipush (v := 1800) hx hb dX4_proves_62 (by decide) ?_
          refine lv_icmp_lt (tgt := 72) hx hb dX4_proves_65 (by decide) (fun c_5 => ?_) (fun c_5 => ?_)
          · have hf := it_t hf c_5
            refine lv_iconst (v := 0) hx hb dX4_proves_72 (by decide) ?_
            have hf := Option.some.inj hf
            have q1 := hf
            exact W.zret (ty := .boolean) (v := 0) hx hb hr rfl (fun t ht hW9 => ⟨⟨0, (), rfl, q1.symm, trivial⟩, hS.F ht⟩) hS.2.2 dX4_proves_73
          · have hf := it_f hf c_5
            refine lv_iconst (v := 1) hx hb dX4_proves_68 (by decide) ?_
            refine lv_goto (tgt := 73) hx hb dX4_proves_69 (by decide) ?_
            have hf := Option.some.inj hf
            have q1 := hf
            exact W.zret (ty := .boolean) (v := 1) hx hb hr rfl (fun t ht hW9 => ⟨⟨1, (), rfl, q1.symm, trivial⟩, hS.F ht⟩) hS.2.2 dX4_proves_73
      · have hf := it_f hf c_3
        refine lv_iload_n hx hb dX4_proves_42 rfl (lv_at hl 1 rfl) ?_
        refine lv_sipush (v := 300) hx hb dX4_proves_43 (by decide) ?_
        refine lv_icmp_lt (tgt := 53) hx hb dX4_proves_46 (by decide) (fun c_6 => ?_) (fun c_6 => ?_)
        · have hf := it_t hf c_6
          refine lv_iconst (v := 0) hx hb dX4_proves_53 (by decide) ?_
          have hf := Option.some.inj hf
          have q1 := hf
          exact W.zret (ty := .boolean) (v := 0) hx hb hr rfl (fun t ht hW9 => ⟨⟨0, (), rfl, q1.symm, trivial⟩, hS.F ht⟩) hS.2.2 dX4_proves_54
        · have hf := it_f hf c_6
          refine lv_iconst (v := 1) hx hb dX4_proves_49 (by decide) ?_
          refine lv_goto (tgt := 54) hx hb dX4_proves_50 (by decide) ?_
          have hf := Option.some.inj hf
          have q1 := hf
          exact W.zret (ty := .boolean) (v := 1) hx hb hr rfl (fun t ht hW9 => ⟨⟨1, (), rfl, q1.symm, trivial⟩, hS.F ht⟩) hS.2.2 dX4_proves_54
    · have hf := it_f hf c_2
      refine lv_iload_n hx hb dX4_proves_24 rfl (lv_at hl 1 rfl) ?_
      refine lv_bipush (v := 60) hx hb dX4_proves_25 (by decide) ?_
      refine lv_icmp_lt (tgt := 34) hx hb dX4_proves_27 (by decide) (fun c_7 => ?_) (fun c_7 => ?_)
      · have hf := it_t hf c_7
        refine lv_iconst (v := 0) hx hb dX4_proves_34 (by decide) ?_
        have hf := Option.some.inj hf
        have q1 := hf
        exact W.zret (ty := .boolean) (v := 0) hx hb hr rfl (fun t ht hW9 => ⟨⟨0, (), rfl, q1.symm, trivial⟩, hS.F ht⟩) hS.2.2 dX4_proves_35
      · have hf := it_f hf c_7
        refine lv_iconst (v := 1) hx hb dX4_proves_30 (by decide) ?_
        refine lv_goto (tgt := 35) hx hb dX4_proves_31 (by decide) ?_
        have hf := Option.some.inj hf
        have q1 := hf
        exact W.zret (ty := .boolean) (v := 1) hx hb hr rfl (fun t ht hW9 => ⟨⟨1, (), rfl, q1.symm, trivial⟩, hS.F ht⟩) hS.2.2 dX4_proves_35
  · have hf := it_f hf c_1
    refine lv_iload_n hx hb dX4_proves_6 rfl (lv_at hl 1 rfl) ?_
    refine lv_bipush (v := 15) hx hb dX4_proves_7 (by decide) ?_
    refine lv_icmp_lt (tgt := 16) hx hb dX4_proves_9 (by decide) (fun c_8 => ?_) (fun c_8 => ?_)
    · have hf := it_t hf c_8
      refine lv_iconst (v := 0) hx hb dX4_proves_16 (by decide) ?_
      have hf := Option.some.inj hf
      have q1 := hf
      exact W.zret (ty := .boolean) (v := 0) hx hb hr rfl (fun t ht hW9 => ⟨⟨0, (), rfl, q1.symm, trivial⟩, hS.F ht⟩) hS.2.2 dX4_proves_17
    · have hf := it_f hf c_8
      refine lv_iconst (v := 1) hx hb dX4_proves_12 (by decide) ?_
      refine lv_goto (tgt := 17) hx hb dX4_proves_13 (by decide) ?_
      have hf := Option.some.inj hf
      have q1 := hf
      exact W.zret (ty := .boolean) (v := 1) hx hb hr rfl (fun t ht hW9 => ⟨⟨1, (), rfl, q1.symm, trivial⟩, hS.F ht⟩) hS.2.2 dX4_proves_17

def f_X4_opened_L5 (p2 : Int32) : Nat → Int32 → UInt64 → Option (UInt64)
  | 0, _, _ => none
  | n5 + 1, x5_5, x3_5 => (if p2 ≤ x5_5 then some x3_5 else ck (okD (FP.dadd x3_5 (4609434218613702656 : UInt64))) ((if 0 ≤ (Op.cmpValue (FP.dcmp (FP.dadd x3_5 (4609434218613702656 : UInt64)) (4620693217682128896 : UInt64)) CmpOp.g) then f_X4_opened_L5 p2 n5 (x5_5 + 1) (4620693217682128896 : UInt64) else f_X4_opened_L5 p2 n5 (x5_5 + 1) (FP.dadd x3_5 (4609434218613702656 : UInt64)))))
def f_X4_opened (p0 : UInt64) (p2 : Int32) : Option (UInt64) :=
  f_X4_opened_L5 p2 200 0 p0
set_option maxHeartbeats 4000000 in
set_option maxRecDepth 100000 in
theorem mt_X4_opened (l : Launch) (sz : Nat) (p0 : UInt64) (p2 : Int32) (rr : UInt64) (hf : f_X4_opened p0 p2 = some rr) : Met l yX4_opened wsX4_opened ({ frames := 0, cells := 0, slots := 0, locals := 0 }) (va_Pc [.double p0, .int p2] (fun U => U.heap.size = sz)) (va_Qd (fun r (_ : Unit) => rr = r) (fun _ _ => True) (fun q => sz ≤ q)) 0 0 (fun q => sz ≤ q) := by
  refine Met.ofW (cc := cX4_opened) (maxL := 8) (ret := (some .double)) (by decide) rfl ?_
  intro p e s m args below meth c s₁ B hml hv
  obtain ⟨rfl, hsz⟩ := hv
  have hx := B.exec
  have hb := B.bytes
  have hr := B.returns
  have hts := atoms_spec (ws := wsX4_opened) B.pre
  have hown : s.vm.findClass RX4 = some m.cls := findClass_of_methodNamed B.named
  have hlocks := B.notSynchronized
  subst hsz
  generalize hAe : (fun q : Nat => s.heap.size ≤ q) = A
  have hA : ∀ q : Nat, s.heap.size ≤ q → A q := fun q h => by rw [← hAe]; exact h
  obtain ⟨H, hH⟩ : ∃ H : Heap, H = s.heap := ⟨_, rfl⟩
  have hS : va_S A s.heap H [] := by rw [hH]; exact va_S.rf
  rw [← hH]
  have hl := lv_entry ([.double p0, .int p2]) (n := 8) (Nat.le_of_ble_eq_true rfl)
  rw [lg_entry_eq]
  generalize (lg_sl ([.double p0, .int p2]) ++ List.replicate (8 - (lg_sl ([.double p0, .int p2])).length) Slot.unset).toArray = ls at hl ⊢
  have hl : lv_has ls 8 [(0, .double p0), (2, .int p2)] := hl
  unfold f_X4_opened at hf
  refine lv_dload_n hx hb dX4_opened_0 rfl (lv_at hl 0 rfl) ?_
  refine lv_dstore_n (lv' := [(3, .double p0), (0, .double p0), (2, .int p2)]) hx hb dX4_opened_1 rfl hl (by decide) rfl (fun ls hl => ?_)
  refine lv_iconst (v := 0) hx hb dX4_opened_2 (by decide) ?_
  refine lv_istore (lv' := [(5, .int 0), (3, .double p0), (0, .double p0), (2, .int p2)]) hx hb dX4_opened_3 hl (by decide) rfl (fun ls hl => ?_)
  have L5 : ∀ (n5 : Nat) (x5_5 : Int32) (x3_5 : UInt64), f_X4_opened_L5 p2 n5 x5_5 x3_5 = some rr → ∀ (H : Heap) (locs : List Loc) (ls : Array Slot), va_S A s.heap H locs → lv_has ls 8 [(5, .int x5_5), (3, .double x3_5), (0, .double p0), (2, .int p2)] → W p l e (headSpec wsX4_opened ({ frames := 0, cells := 0, slots := 0, locals := 0 })).room s m ([.double p0, .int p2] : List Value).toArray below meth c H locs 0 0 (MQ below (va_Qd (fun r (_ : Unit) => rr = r) (fun _ _ => True) A) ([.double p0, .int p2] : List Value).toArray s 0 0 A) (F0 m 5 ls []) := by
    intro n5
    induction n5 with
    | zero => intro x5_5 x3_5 hf; exact nomatch hf
    | succ n5 ih5 =>
      intro x5_5 x3_5 hf H locs ls hS hl
      unfold f_X4_opened_L5 at hf
      refine lv_iload hx hb dX4_opened_5 (lv_at hl 0 rfl) ?_
      refine lv_iload_n hx hb dX4_opened_7 rfl (lv_at hl 3 rfl) ?_
      refine lv_icmp_ge (tgt := 42) hx hb dX4_opened_8 (by decide) (fun c_1 => ?_) (fun c_1 => ?_)
      · have hf := it_t hf c_1
        refine lv_dload_n hx hb dX4_opened_42 rfl (lv_at hl 1 rfl) ?_
        have hf := Option.some.inj hf
        have q1 := hf
        exact W.dret (v := x3_5) hx hb hr (fun t ht hW9 => ⟨⟨x3_5, (), rfl, q1.symm, trivial⟩, hS.F ht⟩) hS.2.2 dX4_opened_43
      · have hf := it_f hf c_1
        refine lv_dload_n hx hb dX4_opened_11 rfl (lv_at hl 1 rfl) ?_
        refine lv_ldc2d (v := 4609434218613702656) hx hb hown (hts (.constantDouble RX4 169 (4609434218613702656)) (List.mem_cons_of_mem _ (List.mem_of_getElem? (i := 0) rfl))) dX4_opened_12 ?_
        obtain ⟨h_2, hf⟩ := ck_out hf
        refine lv_dadd hx hb dX4_opened_15 (okD_n h_2) ?_
        refine lv_dstore (lv' := [(6, .double (FP.dadd x3_5 (4609434218613702656 : UInt64))), (5, .int x5_5), (3, .double x3_5), (0, .double p0), (2, .int p2)]) hx hb dX4_opened_16 hl (by decide) rfl (fun ls hl => ?_)
        refine lv_dload hx hb dX4_opened_18 (lv_at hl 0 rfl) ?_
        refine lv_ldc2d (v := 4620693217682128896) hx hb hown (hts (.constantDouble RX4 171 (4620693217682128896)) (List.mem_cons_of_mem _ (List.mem_of_getElem? (i := 1) rfl))) dX4_opened_20 ?_
        refine lv_dcmp hx hb dX4_opened_23 ?_
        refine lv_if_ge (tgt := 32) hx hb dX4_opened_24 (by decide) (fun c_3 => ?_) (fun c_3 => ?_)
        · have hf := it_t hf c_3
          refine lv_ldc2d (v := 4620693217682128896) hx hb hown (hts (.constantDouble RX4 171 (4620693217682128896)) (List.mem_cons_of_mem _ (List.mem_of_getElem? (i := 1) rfl))) dX4_opened_32 ?_
          refine lv_dstore_n (lv' := [(3, .double (4620693217682128896 : UInt64)), (6, .double (FP.dadd x3_5 (4609434218613702656 : UInt64))), (5, .int x5_5), (0, .double p0), (2, .int p2)]) hx hb dX4_opened_35 rfl hl (by decide) rfl (fun ls hl => ?_)
          refine lv_iinc (v := (x5_5 + 1)) (lv' := [(5, .int (x5_5 + 1)), (3, .double (4620693217682128896 : UInt64)), (6, .double (FP.dadd x3_5 (4609434218613702656 : UInt64))), (0, .double p0), (2, .int p2)]) hx hb dX4_opened_36 hl (k := 2) rfl rfl (by decide) rfl (fun ls hl => ?_)
          refine lv_goto (tgt := 5) hx hb dX4_opened_39 (by decide) ?_
          exact ih5 (x5_5 + 1) (4620693217682128896 : UInt64) hf _ _ _ hS (lv_sub hl [0, 1, 3, 4] rfl)
        · have hf := it_f hf c_3
          refine lv_dload hx hb dX4_opened_27 (lv_at hl 0 rfl) ?_
          refine lv_goto (tgt := 35) hx hb dX4_opened_29 (by decide) ?_
          refine lv_dstore_n (lv' := [(3, .double (FP.dadd x3_5 (4609434218613702656 : UInt64))), (6, .double (FP.dadd x3_5 (4609434218613702656 : UInt64))), (5, .int x5_5), (0, .double p0), (2, .int p2)]) hx hb dX4_opened_35 rfl hl (by decide) rfl (fun ls hl => ?_)
          refine lv_iinc (v := (x5_5 + 1)) (lv' := [(5, .int (x5_5 + 1)), (3, .double (FP.dadd x3_5 (4609434218613702656 : UInt64))), (6, .double (FP.dadd x3_5 (4609434218613702656 : UInt64))), (0, .double p0), (2, .int p2)]) hx hb dX4_opened_36 hl (k := 2) rfl rfl (by decide) rfl (fun ls hl => ?_)
          refine lv_goto (tgt := 5) hx hb dX4_opened_39 (by decide) ?_
          exact ih5 (x5_5 + 1) (FP.dadd x3_5 (4609434218613702656 : UInt64)) hf _ _ _ hS (lv_sub hl [0, 1, 3, 4] rfl)
  exact L5 200 0 p0 hf _ _ _ hS (lv_sub hl [0, 1, 2, 3] rfl)

def f_X4_without (p0 : Int32) (p1 : Int32) : Option (Int32) :=
  some (p1 &&& ((1 <<< (p0 &&& 31)) ^^^ (-1)))
set_option maxHeartbeats 4000000 in
set_option maxRecDepth 100000 in
theorem mt_X4_without (l : Launch) (sz : Nat) (p0 : Int32) (p1 : Int32) (rr : Int32) (hf : f_X4_without p0 p1 = some rr) : Met l yX4_without wsX4_without ({ frames := 0, cells := 0, slots := 0, locals := 0 }) (va_Pc [.int p0, .int p1] (fun U => U.heap.size = sz)) (va_Qi (fun r (_ : Unit) => rr = r) (fun _ _ => True) (fun q => sz ≤ q)) 0 0 (fun q => sz ≤ q) := by
  refine Met.ofW (cc := cX4_without) (maxL := 2) (ret := (some .int)) (by decide) rfl ?_
  intro p e s m args below meth c s₁ B hml hv
  obtain ⟨rfl, hsz⟩ := hv
  have hx := B.exec
  have hb := B.bytes
  have hr := B.returns
  have hts := atoms_spec (ws := wsX4_without) B.pre
  have hown : s.vm.findClass RX4 = some m.cls := findClass_of_methodNamed B.named
  have hlocks := B.notSynchronized
  subst hsz
  generalize hAe : (fun q : Nat => s.heap.size ≤ q) = A
  have hA : ∀ q : Nat, s.heap.size ≤ q → A q := fun q h => by rw [← hAe]; exact h
  obtain ⟨H, hH⟩ : ∃ H : Heap, H = s.heap := ⟨_, rfl⟩
  have hS : va_S A s.heap H [] := by rw [hH]; exact va_S.rf
  rw [← hH]
  have hl := lv_entry ([.int p0, .int p1]) (n := 2) (Nat.le_of_ble_eq_true rfl)
  rw [lg_entry_eq]
  generalize (lg_sl ([.int p0, .int p1]) ++ List.replicate (2 - (lg_sl ([.int p0, .int p1])).length) Slot.unset).toArray = ls at hl ⊢
  have hl : lv_has ls 2 [(0, .int p0), (1, .int p1)] := hl
  unfold f_X4_without at hf
  refine lv_iload_n hx hb dX4_without_0 rfl (lv_at hl 1 rfl) ?_
  refine lv_iconst (v := 1) hx hb dX4_without_1 (by decide) ?_
  refine lv_iload_n hx hb dX4_without_2 rfl (lv_at hl 0 rfl) ?_
  refine lv_ishl hx hb dX4_without_3 ?_
  refine lv_iconst (v := (-1)) hx hb dX4_without_4 (by decide) ?_
  refine lv_ixor hx hb dX4_without_5 ?_
  refine lv_iand hx hb dX4_without_6 ?_
  have hf := Option.some.inj hf
  have q1 := hf
  exact W.iret (v := (p1 &&& ((1 <<< (p0 &&& 31)) ^^^ (-1)))) hx hb hr (fun t ht hW9 => ⟨⟨(p1 &&& ((1 <<< (p0 &&& 31)) ^^^ (-1))), (), rfl, q1.symm, trivial⟩, hS.F ht⟩) hS.2.2 dX4_without_7

def f_X4_cell (p0 : Int32) (p1 : Int32) : Option (Int32) :=
  some ((p1 * 6) + p0)
set_option maxHeartbeats 4000000 in
set_option maxRecDepth 100000 in
theorem mt_X4_cell (l : Launch) (sz : Nat) (p0 : Int32) (p1 : Int32) (rr : Int32) (hf : f_X4_cell p0 p1 = some rr) : Met l yX4_cell wsX4_cell ({ frames := 0, cells := 0, slots := 0, locals := 0 }) (va_Pc [.int p0, .int p1] (fun U => U.heap.size = sz)) (va_Qi (fun r (_ : Unit) => rr = r) (fun _ _ => True) (fun q => sz ≤ q)) 0 0 (fun q => sz ≤ q) := by
  refine Met.ofW (cc := cX4_cell) (maxL := 2) (ret := (some .int)) (by decide) rfl ?_
  intro p e s m args below meth c s₁ B hml hv
  obtain ⟨rfl, hsz⟩ := hv
  have hx := B.exec
  have hb := B.bytes
  have hr := B.returns
  have hts := atoms_spec (ws := wsX4_cell) B.pre
  have hown : s.vm.findClass RX4 = some m.cls := findClass_of_methodNamed B.named
  have hlocks := B.notSynchronized
  subst hsz
  generalize hAe : (fun q : Nat => s.heap.size ≤ q) = A
  have hA : ∀ q : Nat, s.heap.size ≤ q → A q := fun q h => by rw [← hAe]; exact h
  obtain ⟨H, hH⟩ : ∃ H : Heap, H = s.heap := ⟨_, rfl⟩
  have hS : va_S A s.heap H [] := by rw [hH]; exact va_S.rf
  rw [← hH]
  have hl := lv_entry ([.int p0, .int p1]) (n := 2) (Nat.le_of_ble_eq_true rfl)
  rw [lg_entry_eq]
  generalize (lg_sl ([.int p0, .int p1]) ++ List.replicate (2 - (lg_sl ([.int p0, .int p1])).length) Slot.unset).toArray = ls at hl ⊢
  have hl : lv_has ls 2 [(0, .int p0), (1, .int p1)] := hl
  unfold f_X4_cell at hf
  refine lv_iload_n hx hb dX4_cell_0 rfl (lv_at hl 1 rfl) ?_
  refine lv_bipush (v := 6) hx hb dX4_cell_1 (by decide) ?_
  refine lv_imul hx hb dX4_cell_3 ?_
  refine lv_iload_n hx hb dX4_cell_4 rfl (lv_at hl 0 rfl) ?_
  refine lv_iadd hx hb dX4_cell_5 ?_
  have hf := Option.some.inj hf
  have q1 := hf
  exact W.iret (v := ((p1 * 6) + p0)) hx hb hr (fun t ht hW9 => ⟨⟨((p1 * 6) + p0), (), rfl, q1.symm, trivial⟩, hS.F ht⟩) hS.2.2 dX4_cell_6

def f_X4_checkNumber (p0 : Int32) (p1 : Int32) : Option (Except String (Unit)) :=
  (if p0 < 0 then some (Except.error "java/lang/IndexOutOfBoundsException") else (if p0 < p1 then some (Except.ok ()) else some (Except.error "java/lang/IndexOutOfBoundsException")))
set_option maxHeartbeats 4000000 in
set_option maxRecDepth 100000 in
theorem mt_X4_checkNumber (l : Launch) (sz : Nat) (p0 : Int32) (p1 : Int32) (hf : f_X4_checkNumber p0 p1 = some (Except.ok ())) : Met l yX4_checkNumber wsX4_checkNumber ({ frames := 0, cells := 0, slots := 0, locals := 0 }) (va_Pc [.int p0, .int p1] (fun U => U.heap.size = sz)) (va_Qv (fun (_ : Unit) => True) (fun _ _ => True) (fun q => sz ≤ q)) 0 0 (fun q => sz ≤ q) := by
  refine Met.ofW (cc := cX4_checkNumber) (maxL := 2) (ret := none) (by decide) rfl ?_
  intro p e s m args below meth c s₁ B hml hv
  obtain ⟨rfl, hsz⟩ := hv
  have hx := B.exec
  have hb := B.bytes
  have hr := B.returns
  have hts := atoms_spec (ws := wsX4_checkNumber) B.pre
  have hown : s.vm.findClass RX4 = some m.cls := findClass_of_methodNamed B.named
  have hlocks := B.notSynchronized
  subst hsz
  generalize hAe : (fun q : Nat => s.heap.size ≤ q) = A
  have hA : ∀ q : Nat, s.heap.size ≤ q → A q := fun q h => by rw [← hAe]; exact h
  obtain ⟨H, hH⟩ : ∃ H : Heap, H = s.heap := ⟨_, rfl⟩
  have hS : va_S A s.heap H [] := by rw [hH]; exact va_S.rf
  rw [← hH]
  have hl := lv_entry ([.int p0, .int p1]) (n := 2) (Nat.le_of_ble_eq_true rfl)
  rw [lg_entry_eq]
  generalize (lg_sl ([.int p0, .int p1]) ++ List.replicate (2 - (lg_sl ([.int p0, .int p1])).length) Slot.unset).toArray = ls at hl ⊢
  have hl : lv_has ls 2 [(0, .int p0), (1, .int p1)] := hl
  unfold f_X4_checkNumber at hf
  refine lv_iload_n hx hb dX4_checkNumber_0 rfl (lv_at hl 0 rfl) ?_
  refine lv_if_lt (tgt := 9) hx hb dX4_checkNumber_1 (by decide) (fun c_1 => ?_) (fun c_1 => ?_)
  · have hf := it_t hf c_1
    exact (ok_ne hf).elim
  · have hf := it_f hf c_1
    refine lv_iload_n hx hb dX4_checkNumber_4 rfl (lv_at hl 0 rfl) ?_
    refine lv_iload_n hx hb dX4_checkNumber_5 rfl (lv_at hl 1 rfl) ?_
    refine lv_icmp_lt (tgt := 20) hx hb dX4_checkNumber_6 (by decide) (fun c_2 => ?_) (fun c_2 => ?_)
    · have hf := it_t hf c_2
      have hf := ok_in hf
      exact W.vret hx hb hr (fun t ht hW9 => ⟨⟨(), rfl, trivial, trivial⟩, hS.F ht⟩) hS.2.2 dX4_checkNumber_20
    · have hf := it_f hf c_2
      exact (ok_ne hf).elim

def f_X4_checkRange (p0 : Int32) (p1 : Int32) (p2 : Int32) : Option (Except String (Unit)) :=
  (if p0 < p1 then some (Except.error "java/lang/IllegalArgumentException") else (if p0 ≤ p2 then some (Except.ok ()) else some (Except.error "java/lang/IllegalArgumentException")))
set_option maxHeartbeats 4000000 in
set_option maxRecDepth 100000 in
theorem mt_X4_checkRange (l : Launch) (sz : Nat) (p0 : Int32) (p1 : Int32) (p2 : Int32) (hf : f_X4_checkRange p0 p1 p2 = some (Except.ok ())) : Met l yX4_checkRange wsX4_checkRange ({ frames := 0, cells := 0, slots := 0, locals := 0 }) (va_Pc [.int p0, .int p1, .int p2] (fun U => U.heap.size = sz)) (va_Qv (fun (_ : Unit) => True) (fun _ _ => True) (fun q => sz ≤ q)) 0 0 (fun q => sz ≤ q) := by
  refine Met.ofW (cc := cX4_checkRange) (maxL := 3) (ret := none) (by decide) rfl ?_
  intro p e s m args below meth c s₁ B hml hv
  obtain ⟨rfl, hsz⟩ := hv
  have hx := B.exec
  have hb := B.bytes
  have hr := B.returns
  have hts := atoms_spec (ws := wsX4_checkRange) B.pre
  have hown : s.vm.findClass RX4 = some m.cls := findClass_of_methodNamed B.named
  have hlocks := B.notSynchronized
  subst hsz
  generalize hAe : (fun q : Nat => s.heap.size ≤ q) = A
  have hA : ∀ q : Nat, s.heap.size ≤ q → A q := fun q h => by rw [← hAe]; exact h
  obtain ⟨H, hH⟩ : ∃ H : Heap, H = s.heap := ⟨_, rfl⟩
  have hS : va_S A s.heap H [] := by rw [hH]; exact va_S.rf
  rw [← hH]
  have hl := lv_entry ([.int p0, .int p1, .int p2]) (n := 3) (Nat.le_of_ble_eq_true rfl)
  rw [lg_entry_eq]
  generalize (lg_sl ([.int p0, .int p1, .int p2]) ++ List.replicate (3 - (lg_sl ([.int p0, .int p1, .int p2])).length) Slot.unset).toArray = ls at hl ⊢
  have hl : lv_has ls 3 [(0, .int p0), (1, .int p1), (2, .int p2)] := hl
  unfold f_X4_checkRange at hf
  refine lv_iload_n hx hb dX4_checkRange_0 rfl (lv_at hl 0 rfl) ?_
  refine lv_iload_n hx hb dX4_checkRange_1 rfl (lv_at hl 1 rfl) ?_
  refine lv_icmp_lt (tgt := 10) hx hb dX4_checkRange_2 (by decide) (fun c_1 => ?_) (fun c_1 => ?_)
  · have hf := it_t hf c_1
    exact (ok_ne hf).elim
  · have hf := it_f hf c_1
    refine lv_iload_n hx hb dX4_checkRange_5 rfl (lv_at hl 0 rfl) ?_
    refine lv_iload_n hx hb dX4_checkRange_6 rfl (lv_at hl 2 rfl) ?_
    refine lv_icmp_le (tgt := 21) hx hb dX4_checkRange_7 (by decide) (fun c_2 => ?_) (fun c_2 => ?_)
    · have hf := it_t hf c_2
      have hf := ok_in hf
      exact W.vret hx hb hr (fun t ht hW9 => ⟨⟨(), rfl, trivial, trivial⟩, hS.F ht⟩) hS.2.2 dX4_checkRange_21
    · have hf := it_f hf c_2
      exact (ok_ne hf).elim

def f_X4_checkRoom (p0 : Int32) (p1 : Int32) : Option (Except String (Unit)) :=
  (if p0 < p1 then some (Except.ok ()) else some (Except.error "java/lang/IllegalStateException"))
set_option maxHeartbeats 4000000 in
set_option maxRecDepth 100000 in
theorem mt_X4_checkRoom (l : Launch) (sz : Nat) (p0 : Int32) (p1 : Int32) (hf : f_X4_checkRoom p0 p1 = some (Except.ok ())) : Met l yX4_checkRoom wsX4_checkRoom ({ frames := 0, cells := 0, slots := 0, locals := 0 }) (va_Pc [.int p0, .int p1] (fun U => U.heap.size = sz)) (va_Qv (fun (_ : Unit) => True) (fun _ _ => True) (fun q => sz ≤ q)) 0 0 (fun q => sz ≤ q) := by
  refine Met.ofW (cc := cX4_checkRoom) (maxL := 2) (ret := none) (by decide) rfl ?_
  intro p e s m args below meth c s₁ B hml hv
  obtain ⟨rfl, hsz⟩ := hv
  have hx := B.exec
  have hb := B.bytes
  have hr := B.returns
  have hts := atoms_spec (ws := wsX4_checkRoom) B.pre
  have hown : s.vm.findClass RX4 = some m.cls := findClass_of_methodNamed B.named
  have hlocks := B.notSynchronized
  subst hsz
  generalize hAe : (fun q : Nat => s.heap.size ≤ q) = A
  have hA : ∀ q : Nat, s.heap.size ≤ q → A q := fun q h => by rw [← hAe]; exact h
  obtain ⟨H, hH⟩ : ∃ H : Heap, H = s.heap := ⟨_, rfl⟩
  have hS : va_S A s.heap H [] := by rw [hH]; exact va_S.rf
  rw [← hH]
  have hl := lv_entry ([.int p0, .int p1]) (n := 2) (Nat.le_of_ble_eq_true rfl)
  rw [lg_entry_eq]
  generalize (lg_sl ([.int p0, .int p1]) ++ List.replicate (2 - (lg_sl ([.int p0, .int p1])).length) Slot.unset).toArray = ls at hl ⊢
  have hl : lv_has ls 2 [(0, .int p0), (1, .int p1)] := hl
  unfold f_X4_checkRoom at hf
  refine lv_iload_n hx hb dX4_checkRoom_0 rfl (lv_at hl 0 rfl) ?_
  refine lv_iload_n hx hb dX4_checkRoom_1 rfl (lv_at hl 1 rfl) ?_
  refine lv_icmp_lt (tgt := 16) hx hb dX4_checkRoom_2 (by decide) (fun c_1 => ?_) (fun c_1 => ?_)
  · have hf := it_t hf c_1
    have hf := ok_in hf
    exact W.vret hx hb hr (fun t ht hW9 => ⟨⟨(), rfl, trivial, trivial⟩, hS.F ht⟩) hS.2.2 dX4_checkRoom_16
  · have hf := it_f hf c_1
    exact (ok_ne hf).elim
