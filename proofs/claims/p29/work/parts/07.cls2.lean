def f_X4_countAt_L4 (I : Nat → Nat → Int32) (p1 : Int32) : Nat → Int32 → Int32 → Option (Int32)
  | 0, _, _ => none
  | n4 + 1, x3_4, x2_4 => (if (I 0 7) ≤ x3_4 then some x2_4 else ck (inB x3_4 12) ((if (I (18 + (x3_4).toNatClampNeg) 2) = p1 then f_X4_countAt_L4 I p1 n4 (x3_4 + 1) (x2_4 + 1) else f_X4_countAt_L4 I p1 n4 (x3_4 + 1) x2_4)))
def f_X4_countAt (I : Nat → Nat → Int32) (D : Nat → Nat → UInt64) (p1 : Int32) : Option (Int32) :=
  f_X4_countAt_L4 I p1 200 0 0
theorem iX4_countAt_RX0 : ∀ w ∈ u_ws RX0 TX0 5, w ∈ wsX4_countAt := fun w h => List.mem_cons_of_mem _ (List.mem_append_right _ (h))
theorem iX4_countAt_RX4 : ∀ w ∈ u_ws RX4 TX4 14, w ∈ wsX4_countAt := fun w h => List.mem_cons_of_mem _ (List.mem_append_left _ (List.mem_append_right _ (h)))
set_option maxHeartbeats 4000000 in
set_option maxRecDepth 100000 in
theorem mt_X4_countAt (l : Launch) (dC : Nat → ClassId) (dI : Nat → Nat → Nat) (ad : Nat → Nat) (cy : Nat → ClassId) (hJ : J33 ad) (sz : Nat) (I : Nat → Nat → Int32) (D : Nat → Nat → UInt64) (p1 : Int32) (rr : Int32) (hf : f_X4_countAt I D p1 = some rr) : Met l yX4_countAt wsX4_countAt ({ frames := 0, cells := 0, slots := 0, locals := 0 }) (va_Pc [.ref (ad 0), .int p1] (fun U => U.heap.size = sz ∧ hW dC dI ad cy I D U)) (va_Qi (fun r (_ : Unit) => rr = r) (fun _ _ => True) (fun q => sz ≤ q)) 0 0 (fun q => sz ≤ q) := by
  refine Met.ofW (cc := cX4_countAt) (maxL := 4) (ret := (some .int)) (by decide) rfl ?_
  intro p e s m args below meth c s₁ B hml hv
  obtain ⟨rfl, hsz, hP, hK, hN⟩ := hv
  have hx := B.exec
  have hb := B.bytes
  have hr := B.returns
  have hts := atoms_spec (ws := wsX4_countAt) B.pre
  have hown : s.vm.findClass RX4 = some m.cls := findClass_of_methodNamed B.named
  have hlocks := B.notSynchronized
  subst hsz
  generalize hAe : (fun q : Nat => s.heap.size ≤ q) = A
  have hA : ∀ q : Nat, s.heap.size ≤ q → A q := fun q h => by rw [← hAe]; exact h
  obtain ⟨H, hH⟩ : ∃ H : Heap, H = s.heap := ⟨_, rfl⟩
  have hS : va_S A s.heap H [] := by rw [hH]; exact va_S.rf
  rw [← hH]
  rw [← hH] at hP
  have hl := lv_entry ([.ref (ad 0), .int p1]) (n := 4) (Nat.le_of_ble_eq_true rfl)
  rw [lg_entry_eq]
  generalize (lg_sl ([.ref (ad 0), .int p1]) ++ List.replicate (4 - (lg_sl ([.ref (ad 0), .int p1])).length) Slot.unset).toArray = ls at hl ⊢
  have hl : lv_has ls 4 [(0, .ref (ad 0)), (1, .int p1)] := hl
  unfold f_X4_countAt at hf
  refine lv_iconst (v := 0) hx hb dX4_countAt_0 (by decide) ?_
  refine lv_istore_n (lv' := [(2, .int 0), (0, .ref (ad 0)), (1, .int p1)]) hx hb dX4_countAt_1 rfl hl (by decide) rfl (fun ls hl => ?_)
  refine lv_iconst (v := 0) hx hb dX4_countAt_2 (by decide) ?_
  refine lv_istore_n (lv' := [(3, .int 0), (2, .int 0), (0, .ref (ad 0)), (1, .int p1)]) hx hb dX4_countAt_3 rfl hl (by decide) rfl (fun ls hl => ?_)
  have L4 : ∀ (n4 : Nat) (x3_4 : Int32) (x2_4 : Int32), f_X4_countAt_L4 I p1 n4 x3_4 x2_4 = some rr → ∀ (H : Heap) (locs : List Loc) (ls : Array Slot), va_P (dC, dI) vwCl (iwH ad cy I D) H → va_S A s.heap H locs → lv_has ls 4 [(3, .int x3_4), (2, .int x2_4), (0, .ref (ad 0)), (1, .int p1)] → W p l e (headSpec wsX4_countAt ({ frames := 0, cells := 0, slots := 0, locals := 0 })).room s m ([.ref (ad 0), .int p1] : List Value).toArray below meth c H locs 0 0 (MQ below (va_Qi (fun r (_ : Unit) => rr = r) (fun _ _ => True) A) ([.ref (ad 0), .int p1] : List Value).toArray s 0 0 A) (F0 m 4 ls []) := by
    intro n4
    induction n4 with
    | zero => intro x3_4 x2_4 hf; exact nomatch hf
    | succ n4 ih4 =>
      intro x3_4 x2_4 hf H locs ls hP hS hl
      unfold f_X4_countAt_L4 at hf
      refine lv_iload_n hx hb dX4_countAt_4 rfl (lv_at hl 0 rfl) ?_
      refine lv_aload_n hx hb dX4_countAt_5 rfl (lv_at hl 2 rfl) ?_
      refine va_get (D := (dC, dI)) (ci := 4) (v := .int (I 0 7)) (C := RX4) (T := TX4) (N := 14) hx hb hts iX4_countAt_RX4 hown hK hP 0 heH_0 rfl 7 (by decide) (hts (.fieldLink RX4 44 "OverrunHouse" "batchCount" "I") (List.mem_cons_of_mem _ (List.mem_append_left _ (List.mem_append_left _ (List.mem_of_getElem? (i := 0) rfl))))) (fun _ h9 => h9) rfl dX4_countAt_6 ?_
      refine lv_icmp_ge (tgt := 34) hx hb dX4_countAt_9 (by decide) (fun c_1 => ?_) (fun c_1 => ?_)
      · have hf := it_t hf c_1
        refine lv_iload_n hx hb dX4_countAt_34 rfl (lv_at hl 1 rfl) ?_
        have hf := Option.some.inj hf
        have q1 := hf
        exact W.iret (v := x2_4) hx hb hr (fun t ht hW9 => ⟨⟨x2_4, (), rfl, q1.symm, trivial⟩, hS.F ht⟩) hS.2.2 dX4_countAt_35
      · have hf := it_f hf c_1
        refine lv_aload_n hx hb dX4_countAt_12 rfl (lv_at hl 2 rfl) ?_
        refine va_get (D := (dC, dI)) (ci := 4) (v := .ref (ad 3)) (C := RX4) (T := TX4) (N := 14) hx hb hts iX4_countAt_RX4 hown hK hP 0 heH_0 rfl 2 (by decide) (hts (.fieldLink RX4 23 "OverrunHouse" "batches" "[LOverrunHouse$Batch;") (List.mem_cons_of_mem _ (List.mem_append_left _ (List.mem_append_left _ (List.mem_of_getElem? (i := 1) rfl))))) (fun _ h9 => h9) rfl dX4_countAt_13 ?_
        refine lv_iload_n hx hb dX4_countAt_16 rfl (lv_at hl 0 rfl) ?_
        obtain ⟨h_2, hf⟩ := ck_out hf
        refine wr_aald (b := 18) (n := 12) hx hb hK hP 3 3 heH_3 rfl (inB_in h_2) dX4_countAt_17 ?_
        refine va_getN (D := (dC, dI)) (ci := 0) (v := .int (I (18 + (x3_4).toNatClampNeg) 2)) (C := RX0) (T := TX0) (N := 5) hx hb hts iX4_countAt_RX0 hown hK hP (18 + (x3_4).toNatClampNeg) (heH_Batch (inB_lt h_2)) rfl 2 (by decide) (va_Nw.use (w := .fieldLinkNest "OverrunHouse" 143 "OverrunHouse$Batch" "place" "I" "OverrunHouse") rfl (hN _ (List.mem_of_getElem? (i := 20) rfl))) (fun _ h9 => h9) rfl dX4_countAt_18 ?_
        refine lv_iload_n hx hb dX4_countAt_21 rfl (lv_at hl 3 rfl) ?_
        refine lv_icmp_ne (tgt := 28) hx hb dX4_countAt_22 (by decide) (fun c_3 => ?_) (fun c_3 => ?_)
        · have hf := it_f hf c_3
          refine lv_iinc (v := (x3_4 + 1)) (lv' := [(3, .int (x3_4 + 1)), (2, .int x2_4), (0, .ref (ad 0)), (1, .int p1)]) hx hb dX4_countAt_28 hl (k := 0) rfl rfl (by decide) rfl (fun ls hl => ?_)
          refine lv_goto (tgt := 4) hx hb dX4_countAt_31 (by decide) ?_
          exact ih4 (x3_4 + 1) x2_4 hf _ _ _ hP hS (lv_sub hl [0, 1, 2, 3] rfl)
        · have hf := it_t hf c_3
          refine lv_iinc (v := (x2_4 + 1)) (lv' := [(2, .int (x2_4 + 1)), (3, .int x3_4), (0, .ref (ad 0)), (1, .int p1)]) hx hb dX4_countAt_25 hl (k := 1) rfl rfl (by decide) rfl (fun ls hl => ?_)
          refine lv_iinc (v := (x3_4 + 1)) (lv' := [(3, .int (x3_4 + 1)), (2, .int (x2_4 + 1)), (0, .ref (ad 0)), (1, .int p1)]) hx hb dX4_countAt_28 hl (k := 1) rfl rfl (by decide) rfl (fun ls hl => ?_)
          refine lv_goto (tgt := 4) hx hb dX4_countAt_31 (by decide) ?_
          exact ih4 (x3_4 + 1) (x2_4 + 1) hf _ _ _ hP hS (lv_sub hl [0, 1, 2, 3] rfl)
  exact L4 200 0 0 hf _ _ _ hP hS (lv_sub hl [0, 1, 2, 3] rfl)

def f_X4_holdsAnyOf (I : Nat → Nat → Int32) (D : Nat → Nat → UInt64) (k1 : Nat) (p2 : Int32) : Option (Int32) :=
  ck (inB (I (18 + k1) 0) 5) ((if ((I (13 + ((I (18 + k1) 0)).toNatClampNeg) 7) &&& p2) = 0 then some 0 else some 1))
theorem iX4_holdsAnyOf_RX0 : ∀ w ∈ u_ws RX0 TX0 5, w ∈ wsX4_holdsAnyOf := fun w h => List.mem_cons_of_mem _ (List.mem_append_left _ (List.mem_append_right _ (h)))
theorem iX4_holdsAnyOf_RX4 : ∀ w ∈ u_ws RX4 TX4 14, w ∈ wsX4_holdsAnyOf := fun w h => List.mem_cons_of_mem _ (List.mem_append_left _ (List.mem_append_left _ (List.mem_append_right _ (h))))
theorem iX4_holdsAnyOf_RX2 : ∀ w ∈ u_ws RX2 TX2 12, w ∈ wsX4_holdsAnyOf := fun w h => List.mem_cons_of_mem _ (List.mem_append_right _ (h))
set_option maxHeartbeats 4000000 in
set_option maxRecDepth 100000 in
theorem mt_X4_holdsAnyOf (l : Launch) (dC : Nat → ClassId) (dI : Nat → Nat → Nat) (ad : Nat → Nat) (cy : Nat → ClassId) (hJ : J33 ad) (sz : Nat) (I : Nat → Nat → Int32) (D : Nat → Nat → UInt64) (k1 : Nat) (hk1 : k1 < 12) (p2 : Int32) (rr : Int32) (hf : f_X4_holdsAnyOf I D k1 p2 = some rr) : Met l yX4_holdsAnyOf wsX4_holdsAnyOf ({ frames := 0, cells := 0, slots := 0, locals := 0 }) (va_Pc [.ref (ad 0), .ref (ad (18 + k1)), .int p2] (fun U => U.heap.size = sz ∧ hW dC dI ad cy I D U)) (va_Qi (fun r (_ : Unit) => rr = r) (fun _ _ => True) (fun q => sz ≤ q)) 0 0 (fun q => sz ≤ q) := by
  refine Met.ofW (cc := cX4_holdsAnyOf) (maxL := 3) (ret := (some .boolean)) (by decide) rfl ?_
  intro p e s m args below meth c s₁ B hml hv
  obtain ⟨rfl, hsz, hP, hK, hN⟩ := hv
  have hx := B.exec
  have hb := B.bytes
  have hr := B.returns
  have hts := atoms_spec (ws := wsX4_holdsAnyOf) B.pre
  have hown : s.vm.findClass RX4 = some m.cls := findClass_of_methodNamed B.named
  have hlocks := B.notSynchronized
  subst hsz
  generalize hAe : (fun q : Nat => s.heap.size ≤ q) = A
  have hA : ∀ q : Nat, s.heap.size ≤ q → A q := fun q h => by rw [← hAe]; exact h
  obtain ⟨H, hH⟩ : ∃ H : Heap, H = s.heap := ⟨_, rfl⟩
  have hS : va_S A s.heap H [] := by rw [hH]; exact va_S.rf
  rw [← hH]
  rw [← hH] at hP
  have hl := lv_entry ([.ref (ad 0), .ref (ad (18 + k1)), .int p2]) (n := 3) (Nat.le_of_ble_eq_true rfl)
  rw [lg_entry_eq]
  generalize (lg_sl ([.ref (ad 0), .ref (ad (18 + k1)), .int p2]) ++ List.replicate (3 - (lg_sl ([.ref (ad 0), .ref (ad (18 + k1)), .int p2])).length) Slot.unset).toArray = ls at hl ⊢
  have hl : lv_has ls 3 [(0, .ref (ad 0)), (1, .ref (ad (18 + k1))), (2, .int p2)] := hl
  unfold f_X4_holdsAnyOf at hf
  refine lv_aload_n hx hb dX4_holdsAnyOf_0 rfl (lv_at hl 0 rfl) ?_
  refine va_get (D := (dC, dI)) (ci := 4) (v := .ref (ad 2)) (C := RX4) (T := TX4) (N := 14) hx hb hts iX4_holdsAnyOf_RX4 hown hK hP 0 heH_0 rfl 1 (by decide) (hts (.fieldLink RX4 17 "OverrunHouse" "mixes" "[LOverrunHouse$Mix;") (List.mem_cons_of_mem _ (List.mem_append_left _ (List.mem_append_left _ (List.mem_append_left _ (List.mem_of_getElem? (i := 0) rfl)))))) (fun _ h9 => h9) rfl dX4_holdsAnyOf_1 ?_
  refine lv_aload_n hx hb dX4_holdsAnyOf_4 rfl (lv_at hl 1 rfl) ?_
  refine va_getN (D := (dC, dI)) (ci := 0) (v := .int (I (18 + k1) 0)) (C := RX0) (T := TX0) (N := 5) hx hb hts iX4_holdsAnyOf_RX0 hown hK hP (18 + k1) (heH_Batch hk1) rfl 0 (by decide) (va_Nw.use (w := .fieldLinkNest "OverrunHouse" 131 "OverrunHouse$Batch" "mix" "I" "OverrunHouse") rfl (hN _ (List.mem_of_getElem? (i := 18) rfl))) (fun _ h9 => h9) rfl dX4_holdsAnyOf_5 ?_
  obtain ⟨h_1, hf⟩ := ck_out hf
  refine wr_aald (b := 13) (n := 5) hx hb hK hP 2 2 heH_2 rfl (inB_in h_1) dX4_holdsAnyOf_8 ?_
  refine va_getN (D := (dC, dI)) (ci := 2) (v := .int (I (13 + ((I (18 + k1) 0)).toNatClampNeg) 7)) (C := RX2) (T := TX2) (N := 12) hx hb hts iX4_holdsAnyOf_RX2 hown hK hP (13 + ((I (18 + k1) 0)).toNatClampNeg) (heH_Mix (inB_lt h_1)) rfl 7 (by decide) (va_Nw.use (w := .fieldLinkNest "OverrunHouse" 209 "OverrunHouse$Mix" "ingredientSet" "I" "OverrunHouse") rfl (hN _ (List.mem_of_getElem? (i := 14) rfl))) (fun _ h9 => h9) rfl dX4_holdsAnyOf_9 ?_
  refine lv_iload_n hx hb dX4_holdsAnyOf_12 rfl (lv_at hl 2 rfl) ?_
  refine lv_iand hx hb dX4_holdsAnyOf_13 ?_
  refine lv_if_eq (tgt := 21) hx hb dX4_holdsAnyOf_14 (by decide) (fun c_2 => ?_) (fun c_2 => ?_)
  · have hf := it_t hf c_2
    refine lv_iconst (v := 0) hx hb dX4_holdsAnyOf_21 (by decide) ?_
    have hf := Option.some.inj hf
    have q1 := hf
    exact W.zret (ty := .boolean) (v := 0) hx hb hr rfl (fun t ht hW9 => ⟨⟨0, (), rfl, q1.symm, trivial⟩, hS.F ht⟩) hS.2.2 dX4_holdsAnyOf_22
  · have hf := it_f hf c_2
    refine lv_iconst (v := 1) hx hb dX4_holdsAnyOf_17 (by decide) ?_
    refine lv_goto (tgt := 22) hx hb dX4_holdsAnyOf_18 (by decide) ?_
    have hf := Option.some.inj hf
    have q1 := hf
    exact W.zret (ty := .boolean) (v := 1) hx hb hr rfl (fun t ht hW9 => ⟨⟨1, (), rfl, q1.symm, trivial⟩, hS.F ht⟩) hS.2.2 dX4_holdsAnyOf_22

def f_X4_isCalled (I : Nat → Nat → Int32) (D : Nat → Nat → UInt64) (k1 : Nat) : Option (Int32) :=
  bd (f_X4_holdsAnyOf I D k1 (I 0 12)) (fun r_1 => ck (isB r_1) (some r_1))
theorem iX4_isCalled_RX4 : ∀ w ∈ u_ws RX4 TX4 14, w ∈ wsX4_isCalled := fun w h => List.mem_cons_of_mem _ (List.mem_append_left _ (List.mem_append_left _ (List.mem_append_right _ (h))))
set_option maxHeartbeats 4000000 in
set_option maxRecDepth 100000 in
theorem mt_X4_isCalled (l : Launch) (dC : Nat → ClassId) (dI : Nat → Nat → Nat) (ad : Nat → Nat) (cy : Nat → ClassId) (hJ : J33 ad) (sz : Nat) (I : Nat → Nat → Int32) (D : Nat → Nat → UInt64) (k1 : Nat) (hk1 : k1 < 12) (rr : Int32) (hf : f_X4_isCalled I D k1 = some rr) : Met l yX4_isCalled wsX4_isCalled ({ frames := 1, cells := 0, slots := 0, locals := 22 }) (va_Pc [.ref (ad 0), .ref (ad (18 + k1))] (fun U => U.heap.size = sz ∧ hW dC dI ad cy I D U)) (va_Qi (fun r (_ : Unit) => rr = r) (fun _ _ => True) (fun q => sz ≤ q)) 0 0 (fun q => sz ≤ q) := by
  refine Met.ofW (cc := cX4_isCalled) (maxL := 2) (ret := (some .boolean)) (by decide) rfl ?_
  intro p e s m args below meth c s₁ B hml hv
  obtain ⟨rfl, hsz, hP, hK, hN⟩ := hv
  have hx := B.exec
  have hb := B.bytes
  have hr := B.returns
  have hts := atoms_spec (ws := wsX4_isCalled) B.pre
  have hown : s.vm.findClass RX4 = some m.cls := findClass_of_methodNamed B.named
  have hlocks := B.notSynchronized
  subst hsz
  generalize hAe : (fun q : Nat => s.heap.size ≤ q) = A
  have hA : ∀ q : Nat, s.heap.size ≤ q → A q := fun q h => by rw [← hAe]; exact h
  obtain ⟨H, hH⟩ : ∃ H : Heap, H = s.heap := ⟨_, rfl⟩
  have hS : va_S A s.heap H [] := by rw [hH]; exact va_S.rf
  rw [← hH]
  rw [← hH] at hP
  have hl := lv_entry ([.ref (ad 0), .ref (ad (18 + k1))]) (n := 2) (Nat.le_of_ble_eq_true rfl)
  rw [lg_entry_eq]
  generalize (lg_sl ([.ref (ad 0), .ref (ad (18 + k1))]) ++ List.replicate (2 - (lg_sl ([.ref (ad 0), .ref (ad (18 + k1))])).length) Slot.unset).toArray = ls at hl ⊢
  have hl : lv_has ls 2 [(0, .ref (ad 0)), (1, .ref (ad (18 + k1)))] := hl
  unfold f_X4_isCalled at hf
  refine lv_aload_n hx hb dX4_isCalled_0 rfl (lv_at hl 0 rfl) ?_
  refine lv_aload_n hx hb dX4_isCalled_1 rfl (lv_at hl 1 rfl) ?_
  refine lv_aload_n hx hb dX4_isCalled_2 rfl (lv_at hl 0 rfl) ?_
  refine va_get (D := (dC, dI)) (ci := 4) (v := .int (I 0 12)) (C := RX4) (T := TX4) (N := 14) hx hb hts iX4_isCalled_RX4 hown hK hP 0 heH_0 rfl 12 (by decide) (hts (.fieldLink RX4 59 "OverrunHouse" "calledSet" "I") (List.mem_cons_of_mem _ (List.mem_append_left _ (List.mem_append_left _ (List.mem_append_left _ (List.mem_of_getElem? (i := 0) rfl)))))) (fun _ h9 => h9) rfl dX4_isCalled_3 ?_
  obtain ⟨r_1, g_2, hf⟩ := bd_out hf
  refine va_calli (va_runV (As := [.ref (ad (18 + k1)), .int (I 0 12)]) (rest := []) ⟨hx, hb, hml, hown, hts⟩ (mt_X4_holdsAnyOf l dC dI ad cy hJ H.size I D k1 hk1 (I 0 12) r_1 g_2) (cwV 2 hts gX4_isCalled_X4_holdsAnyOf rfl rfl rfl (by decide +kernel) ⟨Nat.le_of_ble_eq_true rfl, Nat.le_of_ble_eq_true rfl⟩) ⟨(hW.pre [.ref (ad 0), .ref (ad (18 + k1)), .int (I 0 12)] hP hK hN).1, hW.recv (C := RX4) (T := TX4) (N := 14) hP hK heH_0 rfl, (hW.pre [.ref (ad 0), .ref (ad (18 + k1)), .int (I 0 12)] hP hK hN).2⟩ rfl rfl hl.1 rfl (lv_room (Nat.le_of_ble_eq_true rfl)) dX4_isCalled_6 ⟨Nat.le_of_ble_eq_true rfl, Nat.le_of_ble_eq_true rfl⟩) hS (fun q _ h => hA q (Nat.le_trans hS.1 h)) (fun q h => hA q (Nat.le_trans hS.1 h)) (fun r9 u t H1 locs ht hvm hw hB hz1 hk1 hS => ?_)
  subst hw
  have hP := va_Pnew hP hk1
  clear hB hz1 hk1 hvm ht
  generalize H1 = H at hP hS ⊢
  obtain ⟨h_3, hf⟩ := ck_out hf
  have hf := Option.some.inj hf
  have q1 := hf
  exact W.zret (ty := .boolean) (v := r_1) hx hb hr (isB_nar h_3) (fun t ht hW9 => ⟨⟨r_1, (), rfl, q1.symm, trivial⟩, hS.F ht⟩) hS.2.2 dX4_isCalled_9

def f_X4_needsWash (I : Nat → Nat → Int32) (D : Nat → Nat → UInt64) (p1 : Int32) (p2 : Int32) : Option (Int32) :=
  (if p1 = 5 then some 0 else ck (inB p1 5) (ck (inB p2 5) ((if ((I (13 + (p1).toNatClampNeg) 6) &&& ((I (13 + (p2).toNatClampNeg) 6) ^^^ (-1))) = 0 then some 0 else some 1))))
theorem iX4_needsWash_RX4 : ∀ w ∈ u_ws RX4 TX4 14, w ∈ wsX4_needsWash := fun w h => List.mem_cons_of_mem _ (List.mem_append_left _ (List.mem_append_right _ (h)))
theorem iX4_needsWash_RX2 : ∀ w ∈ u_ws RX2 TX2 12, w ∈ wsX4_needsWash := fun w h => List.mem_cons_of_mem _ (List.mem_append_right _ (h))
set_option maxHeartbeats 4000000 in
set_option maxRecDepth 100000 in
theorem mt_X4_needsWash (l : Launch) (dC : Nat → ClassId) (dI : Nat → Nat → Nat) (ad : Nat → Nat) (cy : Nat → ClassId) (hJ : J33 ad) (sz : Nat) (I : Nat → Nat → Int32) (D : Nat → Nat → UInt64) (p1 : Int32) (p2 : Int32) (rr : Int32) (hf : f_X4_needsWash I D p1 p2 = some rr) : Met l yX4_needsWash wsX4_needsWash ({ frames := 0, cells := 0, slots := 0, locals := 0 }) (va_Pc [.ref (ad 0), .int p1, .int p2] (fun U => U.heap.size = sz ∧ hW dC dI ad cy I D U)) (va_Qi (fun r (_ : Unit) => rr = r) (fun _ _ => True) (fun q => sz ≤ q)) 0 0 (fun q => sz ≤ q) := by
  refine Met.ofW (cc := cX4_needsWash) (maxL := 3) (ret := (some .boolean)) (by decide) rfl ?_
  intro p e s m args below meth c s₁ B hml hv
  obtain ⟨rfl, hsz, hP, hK, hN⟩ := hv
  have hx := B.exec
  have hb := B.bytes
  have hr := B.returns
  have hts := atoms_spec (ws := wsX4_needsWash) B.pre
  have hown : s.vm.findClass RX4 = some m.cls := findClass_of_methodNamed B.named
  have hlocks := B.notSynchronized
  subst hsz
  generalize hAe : (fun q : Nat => s.heap.size ≤ q) = A
  have hA : ∀ q : Nat, s.heap.size ≤ q → A q := fun q h => by rw [← hAe]; exact h
  obtain ⟨H, hH⟩ : ∃ H : Heap, H = s.heap := ⟨_, rfl⟩
  have hS : va_S A s.heap H [] := by rw [hH]; exact va_S.rf
  rw [← hH]
  rw [← hH] at hP
  have hl := lv_entry ([.ref (ad 0), .int p1, .int p2]) (n := 3) (Nat.le_of_ble_eq_true rfl)
  rw [lg_entry_eq]
  generalize (lg_sl ([.ref (ad 0), .int p1, .int p2]) ++ List.replicate (3 - (lg_sl ([.ref (ad 0), .int p1, .int p2])).length) Slot.unset).toArray = ls at hl ⊢
  have hl : lv_has ls 3 [(0, .ref (ad 0)), (1, .int p1), (2, .int p2)] := hl
  unfold f_X4_needsWash at hf
  refine lv_iload_n hx hb dX4_needsWash_0 rfl (lv_at hl 1 rfl) ?_
  refine lv_iconst (v := 5) hx hb dX4_needsWash_1 (by decide) ?_
  refine lv_icmp_eq (tgt := 33) hx hb dX4_needsWash_2 (by decide) (fun c_1 => ?_) (fun c_1 => ?_)
  · have hf := it_t hf c_1
    refine lv_iconst (v := 0) hx hb dX4_needsWash_33 (by decide) ?_
    have hf := Option.some.inj hf
    have q1 := hf
    exact W.zret (ty := .boolean) (v := 0) hx hb hr rfl (fun t ht hW9 => ⟨⟨0, (), rfl, q1.symm, trivial⟩, hS.F ht⟩) hS.2.2 dX4_needsWash_34
  · have hf := it_f hf c_1
    refine lv_aload_n hx hb dX4_needsWash_5 rfl (lv_at hl 0 rfl) ?_
    refine va_get (D := (dC, dI)) (ci := 4) (v := .ref (ad 2)) (C := RX4) (T := TX4) (N := 14) hx hb hts iX4_needsWash_RX4 hown hK hP 0 heH_0 rfl 1 (by decide) (hts (.fieldLink RX4 17 "OverrunHouse" "mixes" "[LOverrunHouse$Mix;") (List.mem_cons_of_mem _ (List.mem_append_left _ (List.mem_append_left _ (List.mem_of_getElem? (i := 0) rfl))))) (fun _ h9 => h9) rfl dX4_needsWash_6 ?_
    refine lv_iload_n hx hb dX4_needsWash_9 rfl (lv_at hl 1 rfl) ?_
    obtain ⟨h_2, hf⟩ := ck_out hf
    refine wr_aald (b := 13) (n := 5) hx hb hK hP 2 2 heH_2 rfl (inB_in h_2) dX4_needsWash_10 ?_
    refine va_getN (D := (dC, dI)) (ci := 2) (v := .int (I (13 + (p1).toNatClampNeg) 6)) (C := RX2) (T := TX2) (N := 12) hx hb hts iX4_needsWash_RX2 hown hK hP (13 + (p1).toNatClampNeg) (heH_Mix (inB_lt h_2)) rfl 6 (by decide) (va_Nw.use (w := .fieldLinkNest "OverrunHouse" 130 "OverrunHouse$Mix" "harms" "I" "OverrunHouse") rfl (hN _ (List.mem_of_getElem? (i := 13) rfl))) (fun _ h9 => h9) rfl dX4_needsWash_11 ?_
    refine lv_aload_n hx hb dX4_needsWash_14 rfl (lv_at hl 0 rfl) ?_
    refine va_get (D := (dC, dI)) (ci := 4) (v := .ref (ad 2)) (C := RX4) (T := TX4) (N := 14) hx hb hts iX4_needsWash_RX4 hown hK hP 0 heH_0 rfl 1 (by decide) (hts (.fieldLink RX4 17 "OverrunHouse" "mixes" "[LOverrunHouse$Mix;") (List.mem_cons_of_mem _ (List.mem_append_left _ (List.mem_append_left _ (List.mem_of_getElem? (i := 0) rfl))))) (fun _ h9 => h9) rfl dX4_needsWash_15 ?_
    refine lv_iload_n hx hb dX4_needsWash_18 rfl (lv_at hl 2 rfl) ?_
    obtain ⟨h_3, hf⟩ := ck_out hf
    refine wr_aald (b := 13) (n := 5) hx hb hK hP 2 2 heH_2 rfl (inB_in h_3) dX4_needsWash_19 ?_
    refine va_getN (D := (dC, dI)) (ci := 2) (v := .int (I (13 + (p2).toNatClampNeg) 6)) (C := RX2) (T := TX2) (N := 12) hx hb hts iX4_needsWash_RX2 hown hK hP (13 + (p2).toNatClampNeg) (heH_Mix (inB_lt h_3)) rfl 6 (by decide) (va_Nw.use (w := .fieldLinkNest "OverrunHouse" 130 "OverrunHouse$Mix" "harms" "I" "OverrunHouse") rfl (hN _ (List.mem_of_getElem? (i := 13) rfl))) (fun _ h9 => h9) rfl dX4_needsWash_20 ?_
    refine lv_iconst (v := (-1)) hx hb dX4_needsWash_23 (by decide) ?_
    refine lv_ixor hx hb dX4_needsWash_24 ?_
    refine lv_iand hx hb dX4_needsWash_25 ?_
    refine lv_if_eq (tgt := 33) hx hb dX4_needsWash_26 (by decide) (fun c_4 => ?_) (fun c_4 => ?_)
    · have hf := it_t hf c_4
      refine lv_iconst (v := 0) hx hb dX4_needsWash_33 (by decide) ?_
      have hf := Option.some.inj hf
      have q1 := hf
      exact W.zret (ty := .boolean) (v := 0) hx hb hr rfl (fun t ht hW9 => ⟨⟨0, (), rfl, q1.symm, trivial⟩, hS.F ht⟩) hS.2.2 dX4_needsWash_34
    · have hf := it_f hf c_4
      refine lv_iconst (v := 1) hx hb dX4_needsWash_29 (by decide) ?_
      refine lv_goto (tgt := 34) hx hb dX4_needsWash_30 (by decide) ?_
      have hf := Option.some.inj hf
      have q1 := hf
      exact W.zret (ty := .boolean) (v := 1) hx hb hr rfl (fun t ht hW9 => ⟨⟨1, (), rfl, q1.symm, trivial⟩, hS.F ht⟩) hS.2.2 dX4_needsWash_34

def f_X4_washesBy (I : Nat → Nat → Int32) (D : Nat → Nat → UInt64) (p1 : Int32) (p2 : Int32) (p3 : Int32) : Option (Int32) :=
  bd (f_X4_without p2 p3) (fun r_1 => bd (f_X4_cell p2 r_1) (fun r_3 => ck (inB r_3 192) (bd (f_X4_needsWash I D p1 p2) (fun r_6 => (if r_6 = 0 then some (I 6 (r_3).toNatClampNeg) else some ((I 6 (r_3).toNatClampNeg) + 1))))))
theorem iX4_washesBy_RX4 : ∀ w ∈ u_ws RX4 TX4 14, w ∈ wsX4_washesBy := fun w h => List.mem_cons_of_mem _ (List.mem_append_left _ (List.mem_append_right _ (h)))
set_option maxHeartbeats 4000000 in
set_option maxRecDepth 100000 in
theorem mt_X4_washesBy (l : Launch) (dC : Nat → ClassId) (dI : Nat → Nat → Nat) (ad : Nat → Nat) (cy : Nat → ClassId) (hJ : J33 ad) (sz : Nat) (I : Nat → Nat → Int32) (D : Nat → Nat → UInt64) (p1 : Int32) (p2 : Int32) (p3 : Int32) (rr : Int32) (hf : f_X4_washesBy I D p1 p2 p3 = some rr) : Met l yX4_washesBy wsX4_washesBy ({ frames := 1, cells := 0, slots := 0, locals := 22 }) (va_Pc [.ref (ad 0), .int p1, .int p2, .int p3] (fun U => U.heap.size = sz ∧ hW dC dI ad cy I D U)) (va_Qi (fun r (_ : Unit) => rr = r) (fun _ _ => True) (fun q => sz ≤ q)) 0 0 (fun q => sz ≤ q) := by
  refine Met.ofW (cc := cX4_washesBy) (maxL := 5) (ret := (some .int)) (by decide) rfl ?_
  intro p e s m args below meth c s₁ B hml hv
  obtain ⟨rfl, hsz, hP, hK, hN⟩ := hv
  have hx := B.exec
  have hb := B.bytes
  have hr := B.returns
  have hts := atoms_spec (ws := wsX4_washesBy) B.pre
  have hown : s.vm.findClass RX4 = some m.cls := findClass_of_methodNamed B.named
  have hlocks := B.notSynchronized
  subst hsz
  generalize hAe : (fun q : Nat => s.heap.size ≤ q) = A
  have hA : ∀ q : Nat, s.heap.size ≤ q → A q := fun q h => by rw [← hAe]; exact h
  obtain ⟨H, hH⟩ : ∃ H : Heap, H = s.heap := ⟨_, rfl⟩
  have hS : va_S A s.heap H [] := by rw [hH]; exact va_S.rf
  rw [← hH]
  rw [← hH] at hP
  have hl := lv_entry ([.ref (ad 0), .int p1, .int p2, .int p3]) (n := 5) (Nat.le_of_ble_eq_true rfl)
  rw [lg_entry_eq]
  generalize (lg_sl ([.ref (ad 0), .int p1, .int p2, .int p3]) ++ List.replicate (5 - (lg_sl ([.ref (ad 0), .int p1, .int p2, .int p3])).length) Slot.unset).toArray = ls at hl ⊢
  have hl : lv_has ls 5 [(0, .ref (ad 0)), (1, .int p1), (2, .int p2), (3, .int p3)] := hl
  unfold f_X4_washesBy at hf
  refine lv_aload_n hx hb dX4_washesBy_0 rfl (lv_at hl 0 rfl) ?_
  refine va_get (D := (dC, dI)) (ci := 4) (v := .ref (ad 6)) (C := RX4) (T := TX4) (N := 14) hx hb hts iX4_washesBy_RX4 hown hK hP 0 heH_0 rfl 13 (by decide) (hts (.fieldLink RX4 62 "OverrunHouse" "fewestWashes" "[I") (List.mem_cons_of_mem _ (List.mem_append_left _ (List.mem_append_left _ (List.mem_of_getElem? (i := 0) rfl))))) (fun _ h9 => h9) rfl dX4_washesBy_1 ?_
  refine lv_iload_n hx hb dX4_washesBy_4 rfl (lv_at hl 2 rfl) ?_
  refine lv_iload_n hx hb dX4_washesBy_5 rfl (lv_at hl 2 rfl) ?_
  refine lv_iload_n hx hb dX4_washesBy_6 rfl (lv_at hl 3 rfl) ?_
  obtain ⟨r_1, g_2, hf⟩ := bd_out hf
  refine va_calli (va_runS (As := [.int p2, .int p3]) (rest := [.int p2, .ref (ad 6)]) ⟨hx, hb, hml, hown, hts⟩ (mt_X4_without l H.size p2 p3 r_1 g_2) (va_cwS 2 hts gX4_washesBy_X4_without rfl rfl rfl (by decide +kernel) ⟨Nat.le_of_ble_eq_true rfl, Nat.le_of_ble_eq_true rfl⟩) (pre0 [.int p2, .int p3]) rfl rfl hl.1 rfl (lv_room (Nat.le_of_ble_eq_true rfl)) dX4_washesBy_7 ⟨Nat.le_of_ble_eq_true rfl, Nat.le_of_ble_eq_true rfl⟩) hS (fun q _ h => hA q (Nat.le_trans hS.1 h)) (fun q h => hA q (Nat.le_trans hS.1 h)) (fun r9 u t H1 locs ht hvm hw hB hz1 hk1 hS => ?_)
  subst hw
  have hP := va_Pnew hP hk1
  clear hB hz1 hk1 hvm ht
  generalize H1 = H at hP hS ⊢
  obtain ⟨r_3, g_4, hf⟩ := bd_out hf
  refine va_calli (va_runS (As := [.int p2, .int r_1]) (rest := [.ref (ad 6)]) ⟨hx, hb, hml, hown, hts⟩ (mt_X4_cell l H.size p2 r_1 r_3 g_4) (va_cwS 2 hts gX4_washesBy_X4_cell rfl rfl rfl (by decide +kernel) ⟨Nat.le_of_ble_eq_true rfl, Nat.le_of_ble_eq_true rfl⟩) (pre0 [.int p2, .int r_1]) rfl rfl hl.1 rfl (lv_room (Nat.le_of_ble_eq_true rfl)) dX4_washesBy_10 ⟨Nat.le_of_ble_eq_true rfl, Nat.le_of_ble_eq_true rfl⟩) hS (fun q _ h => hA q (Nat.le_trans hS.1 h)) (fun q h => hA q (Nat.le_trans hS.1 h)) (fun r9 u t H1 locs ht hvm hw hB hz1 hk1 hS => ?_)
  subst hw
  have hP := va_Pnew hP hk1
  clear hB hz1 hk1 hvm ht
  generalize H1 = H at hP hS ⊢
  obtain ⟨h_5, hf⟩ := ck_out hf
  refine va_iald (n := 192) (f := I 6) hx hb hK hP 6 0 heH_6 rfl (inB_in h_5) dX4_washesBy_13 ?_
  refine lv_istore (lv' := [(4, .int (I 6 (r_3).toNatClampNeg)), (0, .ref (ad 0)), (1, .int p1), (2, .int p2), (3, .int p3)]) hx hb dX4_washesBy_14 hl (by decide) rfl (fun ls hl => ?_)
  refine lv_aload_n hx hb dX4_washesBy_16 rfl (lv_at hl 1 rfl) ?_
  refine lv_iload_n hx hb dX4_washesBy_17 rfl (lv_at hl 2 rfl) ?_
  refine lv_iload_n hx hb dX4_washesBy_18 rfl (lv_at hl 3 rfl) ?_
  obtain ⟨r_6, g_7, hf⟩ := bd_out hf
  refine va_calli (va_runV (As := [.int p1, .int p2]) (rest := []) ⟨hx, hb, hml, hown, hts⟩ (mt_X4_needsWash l dC dI ad cy hJ H.size I D p1 p2 r_6 g_7) (cwV 2 hts gX4_washesBy_X4_needsWash rfl rfl rfl (by decide +kernel) ⟨Nat.le_of_ble_eq_true rfl, Nat.le_of_ble_eq_true rfl⟩) ⟨(hW.pre [.ref (ad 0), .int p1, .int p2] hP hK hN).1, hW.recv (C := RX4) (T := TX4) (N := 14) hP hK heH_0 rfl, (hW.pre [.ref (ad 0), .int p1, .int p2] hP hK hN).2⟩ rfl rfl hl.1 rfl (lv_room (Nat.le_of_ble_eq_true rfl)) dX4_washesBy_19 ⟨Nat.le_of_ble_eq_true rfl, Nat.le_of_ble_eq_true rfl⟩) hS (fun q _ h => hA q (Nat.le_trans hS.1 h)) (fun q h => hA q (Nat.le_trans hS.1 h)) (fun r9 u t H1 locs ht hvm hw hB hz1 hk1 hS => ?_)
  subst hw
  have hP := va_Pnew hP hk1
  clear hB hz1 hk1 hvm ht
  generalize H1 = H at hP hS ⊢
  refine lv_if_eq (tgt := 32) hx hb dX4_washesBy_22 (by decide) (fun c_8 => ?_) (fun c_8 => ?_)
  · have hf := it_t hf c_8
    refine lv_iload hx hb dX4_washesBy_32 (lv_at hl 0 rfl) ?_
    have hf := Option.some.inj hf
    have q1 := hf
    exact W.iret (v := (I 6 (r_3).toNatClampNeg)) hx hb hr (fun t ht hW9 => ⟨⟨(I 6 (r_3).toNatClampNeg), (), rfl, q1.symm, trivial⟩, hS.F ht⟩) hS.2.2 dX4_washesBy_34
  · have hf := it_f hf c_8
    refine lv_iload hx hb dX4_washesBy_25 (lv_at hl 0 rfl) ?_
    refine lv_iconst (v := 1) hx hb dX4_washesBy_27 (by decide) ?_
    refine lv_iadd hx hb dX4_washesBy_28 ?_
    refine lv_goto (tgt := 34) hx hb dX4_washesBy_29 (by decide) ?_
    have hf := Option.some.inj hf
    have q1 := hf
    exact W.iret (v := ((I 6 (r_3).toNatClampNeg) + 1)) hx hb hr (fun t ht hW9 => ⟨⟨((I 6 (r_3).toNatClampNeg) + 1), (), rfl, q1.symm, trivial⟩, hS.F ht⟩) hS.2.2 dX4_washesBy_34

def f_X4_bestNext_L8 (I : Nat → Nat → Int32) (D : Nat → Nat → UInt64) (p1 : Int32) (p2 : Int32) : Nat → Int32 → Int32 → Int32 → Option (Int32)
  | 0, _, _, _ => none
  | n8 + 1, x5_8, x4_8, x3_8 => (if (I 0 6) ≤ x5_8 then some x3_8 else (if (p2 &&& (1 <<< (x5_8 &&& 31))) = 0 then (if x4_8 ≤ 5 then f_X4_bestNext_L8 I D p1 p2 n8 (x5_8 + 1) x4_8 x3_8 else f_X4_bestNext_L8 I D p1 p2 n8 (x5_8 + 1) 5 x5_8) else bd (f_X4_washesBy I D p1 x5_8 p2) (fun r_4 => (if x4_8 ≤ r_4 then f_X4_bestNext_L8 I D p1 p2 n8 (x5_8 + 1) x4_8 x3_8 else f_X4_bestNext_L8 I D p1 p2 n8 (x5_8 + 1) r_4 x5_8))))
def f_X4_bestNext (I : Nat → Nat → Int32) (D : Nat → Nat → UInt64) (p1 : Int32) (p2 : Int32) : Option (Int32) :=
  f_X4_bestNext_L8 I D p1 p2 200 0 5 0
theorem iX4_bestNext_RX4 : ∀ w ∈ u_ws RX4 TX4 14, w ∈ wsX4_bestNext := fun w h => List.mem_cons_of_mem _ (List.mem_append_left _ (List.mem_append_right _ (h)))
set_option maxHeartbeats 4000000 in
set_option maxRecDepth 100000 in
theorem mt_X4_bestNext (l : Launch) (dC : Nat → ClassId) (dI : Nat → Nat → Nat) (ad : Nat → Nat) (cy : Nat → ClassId) (hJ : J33 ad) (sz : Nat) (I : Nat → Nat → Int32) (D : Nat → Nat → UInt64) (p1 : Int32) (p2 : Int32) (rr : Int32) (hf : f_X4_bestNext I D p1 p2 = some rr) : Met l yX4_bestNext wsX4_bestNext ({ frames := 2, cells := 0, slots := 0, locals := 46 }) (va_Pc [.ref (ad 0), .int p1, .int p2] (fun U => U.heap.size = sz ∧ hW dC dI ad cy I D U)) (va_Qi (fun r (_ : Unit) => rr = r) (fun _ _ => True) (fun q => sz ≤ q)) 0 0 (fun q => sz ≤ q) := by
  refine Met.ofW (cc := cX4_bestNext) (maxL := 7) (ret := (some .int)) (by decide) rfl ?_
  intro p e s m args below meth c s₁ B hml hv
  obtain ⟨rfl, hsz, hP, hK, hN⟩ := hv
  have hx := B.exec
  have hb := B.bytes
  have hr := B.returns
  have hts := atoms_spec (ws := wsX4_bestNext) B.pre
  have hown : s.vm.findClass RX4 = some m.cls := findClass_of_methodNamed B.named
  have hlocks := B.notSynchronized
  subst hsz
  generalize hAe : (fun q : Nat => s.heap.size ≤ q) = A
  have hA : ∀ q : Nat, s.heap.size ≤ q → A q := fun q h => by rw [← hAe]; exact h
  obtain ⟨H, hH⟩ : ∃ H : Heap, H = s.heap := ⟨_, rfl⟩
  have hS : va_S A s.heap H [] := by rw [hH]; exact va_S.rf
  rw [← hH]
  rw [← hH] at hP
  have hl := lv_entry ([.ref (ad 0), .int p1, .int p2]) (n := 7) (Nat.le_of_ble_eq_true rfl)
  rw [lg_entry_eq]
  generalize (lg_sl ([.ref (ad 0), .int p1, .int p2]) ++ List.replicate (7 - (lg_sl ([.ref (ad 0), .int p1, .int p2])).length) Slot.unset).toArray = ls at hl ⊢
  have hl : lv_has ls 7 [(0, .ref (ad 0)), (1, .int p1), (2, .int p2)] := hl
  unfold f_X4_bestNext at hf
  refine lv_iconst (v := 0) hx hb dX4_bestNext_0 (by decide) ?_
  refine lv_istore_n (lv' := [(3, .int 0), (0, .ref (ad 0)), (1, .int p1), (2, .int p2)]) hx hb dX4_bestNext_1 rfl hl (by decide) rfl (fun ls hl => ?_)
  refine lv_iconst (v := 5) hx hb dX4_bestNext_2 (by decide) ?_
  refine lv_istore (lv' := [(4, .int 5), (3, .int 0), (0, .ref (ad 0)), (1, .int p1), (2, .int p2)]) hx hb dX4_bestNext_3 hl (by decide) rfl (fun ls hl => ?_)
  refine lv_iconst (v := 0) hx hb dX4_bestNext_5 (by decide) ?_
  refine lv_istore (lv' := [(5, .int 0), (4, .int 5), (3, .int 0), (0, .ref (ad 0)), (1, .int p1), (2, .int p2)]) hx hb dX4_bestNext_6 hl (by decide) rfl (fun ls hl => ?_)
  have L8 : ∀ (n8 : Nat) (x5_8 : Int32) (x4_8 : Int32) (x3_8 : Int32), f_X4_bestNext_L8 I D p1 p2 n8 x5_8 x4_8 x3_8 = some rr → ∀ (H : Heap) (locs : List Loc) (ls : Array Slot), va_P (dC, dI) vwCl (iwH ad cy I D) H → va_S A s.heap H locs → lv_has ls 7 [(5, .int x5_8), (4, .int x4_8), (3, .int x3_8), (0, .ref (ad 0)), (1, .int p1), (2, .int p2)] → W p l e (headSpec wsX4_bestNext ({ frames := 2, cells := 0, slots := 0, locals := 46 })).room s m ([.ref (ad 0), .int p1, .int p2] : List Value).toArray below meth c H locs 0 0 (MQ below (va_Qi (fun r (_ : Unit) => rr = r) (fun _ _ => True) A) ([.ref (ad 0), .int p1, .int p2] : List Value).toArray s 0 0 A) (F0 m 8 ls []) := by
    intro n8
    induction n8 with
    | zero => intro x5_8 x4_8 x3_8 hf; exact nomatch hf
    | succ n8 ih8 =>
      intro x5_8 x4_8 x3_8 hf H locs ls hP hS hl
      unfold f_X4_bestNext_L8 at hf
      refine lv_iload hx hb dX4_bestNext_8 (lv_at hl 0 rfl) ?_
      refine lv_aload_n hx hb dX4_bestNext_10 rfl (lv_at hl 3 rfl) ?_
      refine va_get (D := (dC, dI)) (ci := 4) (v := .int (I 0 6)) (C := RX4) (T := TX4) (N := 14) hx hb hts iX4_bestNext_RX4 hown hK hP 0 heH_0 rfl 6 (by decide) (hts (.fieldLink RX4 41 "OverrunHouse" "mixCount" "I") (List.mem_cons_of_mem _ (List.mem_append_left _ (List.mem_append_left _ (List.mem_of_getElem? (i := 0) rfl))))) (fun _ h9 => h9) rfl dX4_bestNext_11 ?_
      refine lv_icmp_ge (tgt := 60) hx hb dX4_bestNext_14 (by decide) (fun c_1 => ?_) (fun c_1 => ?_)
      · have hf := it_t hf c_1
        refine lv_iload_n hx hb dX4_bestNext_60 rfl (lv_at hl 2 rfl) ?_
        have hf := Option.some.inj hf
        have q1 := hf
        exact W.iret (v := x3_8) hx hb hr (fun t ht hW9 => ⟨⟨x3_8, (), rfl, q1.symm, trivial⟩, hS.F ht⟩) hS.2.2 dX4_bestNext_61
      · have hf := it_f hf c_1
        refine lv_iload_n hx hb dX4_bestNext_17 rfl (lv_at hl 5 rfl) ?_
        refine lv_iconst (v := 1) hx hb dX4_bestNext_18 (by decide) ?_
        refine lv_iload hx hb dX4_bestNext_19 (lv_at hl 0 rfl) ?_
        refine lv_ishl hx hb dX4_bestNext_21 ?_
        refine lv_iand hx hb dX4_bestNext_22 ?_
        refine lv_if_eq (tgt := 37) hx hb dX4_bestNext_23 (by decide) (fun c_2 => ?_) (fun c_2 => ?_)
        · have hf := it_t hf c_2
          refine lv_iconst (v := 5) hx hb dX4_bestNext_37 (by decide) ?_
          refine lv_istore (lv' := [(6, .int 5), (5, .int x5_8), (4, .int x4_8), (3, .int x3_8), (0, .ref (ad 0)), (1, .int p1), (2, .int p2)]) hx hb dX4_bestNext_38 hl (by decide) rfl (fun ls hl => ?_)
          refine lv_iload hx hb dX4_bestNext_40 (lv_at hl 0 rfl) ?_
          refine lv_iload hx hb dX4_bestNext_42 (lv_at hl 2 rfl) ?_
          refine lv_icmp_ge (tgt := 54) hx hb dX4_bestNext_44 (by decide) (fun c_3 => ?_) (fun c_3 => ?_)
          · have hf := it_t hf c_3
            refine lv_iinc (v := (x5_8 + 1)) (lv' := [(5, .int (x5_8 + 1)), (6, .int 5), (4, .int x4_8), (3, .int x3_8), (0, .ref (ad 0)), (1, .int p1), (2, .int p2)]) hx hb dX4_bestNext_54 hl (k := 1) rfl rfl (by decide) rfl (fun ls hl => ?_)
            refine lv_goto (tgt := 8) hx hb dX4_bestNext_57 (by decide) ?_
            exact ih8 (x5_8 + 1) x4_8 x3_8 hf _ _ _ hP hS (lv_sub hl [0, 2, 3, 4, 5, 6] rfl)
          · have hf := it_f hf c_3
            refine lv_iload hx hb dX4_bestNext_47 (lv_at hl 1 rfl) ?_
            refine lv_istore_n (lv' := [(3, .int x5_8), (6, .int 5), (5, .int x5_8), (4, .int x4_8), (0, .ref (ad 0)), (1, .int p1), (2, .int p2)]) hx hb dX4_bestNext_49 rfl hl (by decide) rfl (fun ls hl => ?_)
            refine lv_iload hx hb dX4_bestNext_50 (lv_at hl 1 rfl) ?_
            refine lv_istore (lv' := [(4, .int 5), (3, .int x5_8), (6, .int 5), (5, .int x5_8), (0, .ref (ad 0)), (1, .int p1), (2, .int p2)]) hx hb dX4_bestNext_52 hl (by decide) rfl (fun ls hl => ?_)
            refine lv_iinc (v := (x5_8 + 1)) (lv' := [(5, .int (x5_8 + 1)), (4, .int 5), (3, .int x5_8), (6, .int 5), (0, .ref (ad 0)), (1, .int p1), (2, .int p2)]) hx hb dX4_bestNext_54 hl (k := 3) rfl rfl (by decide) rfl (fun ls hl => ?_)
            refine lv_goto (tgt := 8) hx hb dX4_bestNext_57 (by decide) ?_
            exact ih8 (x5_8 + 1) 5 x5_8 hf _ _ _ hP hS (lv_sub hl [0, 1, 2, 4, 5, 6] rfl)
        · have hf := it_f hf c_2
          refine lv_aload_n hx hb dX4_bestNext_26 rfl (lv_at hl 3 rfl) ?_
          refine lv_iload_n hx hb dX4_bestNext_27 rfl (lv_at hl 4 rfl) ?_
          refine lv_iload hx hb dX4_bestNext_28 (lv_at hl 0 rfl) ?_
          refine lv_iload_n hx hb dX4_bestNext_30 rfl (lv_at hl 5 rfl) ?_
          obtain ⟨r_4, g_5, hf⟩ := bd_out hf
          refine va_calli (va_runV (As := [.int p1, .int x5_8, .int p2]) (rest := []) ⟨hx, hb, hml, hown, hts⟩ (mt_X4_washesBy l dC dI ad cy hJ H.size I D p1 x5_8 p2 r_4 g_5) (cwV 3 hts gX4_bestNext_X4_washesBy rfl rfl rfl (by decide +kernel) ⟨Nat.le_of_ble_eq_true rfl, Nat.le_of_ble_eq_true rfl⟩) ⟨(hW.pre [.ref (ad 0), .int p1, .int x5_8, .int p2] hP hK hN).1, hW.recv (C := RX4) (T := TX4) (N := 14) hP hK heH_0 rfl, (hW.pre [.ref (ad 0), .int p1, .int x5_8, .int p2] hP hK hN).2⟩ rfl rfl hl.1 rfl (lv_room (Nat.le_of_ble_eq_true rfl)) dX4_bestNext_31 ⟨Nat.le_of_ble_eq_true rfl, Nat.le_of_ble_eq_true rfl⟩) hS (fun q _ h => hA q (Nat.le_trans hS.1 h)) (fun q h => hA q (Nat.le_trans hS.1 h)) (fun r9 u t H1 locs ht hvm hw hB hz1 hk1 hS => ?_)
          subst hw
          have hP := va_Pnew hP hk1
          clear hB hz1 hk1 hvm ht
          generalize H1 = H at hP hS ⊢
          refine lv_goto (tgt := 38) hx hb dX4_bestNext_34 (by decide) ?_
          refine lv_istore (lv' := [(6, .int r_4), (5, .int x5_8), (4, .int x4_8), (3, .int x3_8), (0, .ref (ad 0)), (1, .int p1), (2, .int p2)]) hx hb dX4_bestNext_38 hl (by decide) rfl (fun ls hl => ?_)
          refine lv_iload hx hb dX4_bestNext_40 (lv_at hl 0 rfl) ?_
          refine lv_iload hx hb dX4_bestNext_42 (lv_at hl 2 rfl) ?_
          refine lv_icmp_ge (tgt := 54) hx hb dX4_bestNext_44 (by decide) (fun c_6 => ?_) (fun c_6 => ?_)
          · have hf := it_t hf c_6
            refine lv_iinc (v := (x5_8 + 1)) (lv' := [(5, .int (x5_8 + 1)), (6, .int r_4), (4, .int x4_8), (3, .int x3_8), (0, .ref (ad 0)), (1, .int p1), (2, .int p2)]) hx hb dX4_bestNext_54 hl (k := 1) rfl rfl (by decide) rfl (fun ls hl => ?_)
            refine lv_goto (tgt := 8) hx hb dX4_bestNext_57 (by decide) ?_
            exact ih8 (x5_8 + 1) x4_8 x3_8 hf _ _ _ hP hS (lv_sub hl [0, 2, 3, 4, 5, 6] rfl)
          · have hf := it_f hf c_6
            refine lv_iload hx hb dX4_bestNext_47 (lv_at hl 1 rfl) ?_
            refine lv_istore_n (lv' := [(3, .int x5_8), (6, .int r_4), (5, .int x5_8), (4, .int x4_8), (0, .ref (ad 0)), (1, .int p1), (2, .int p2)]) hx hb dX4_bestNext_49 rfl hl (by decide) rfl (fun ls hl => ?_)
            refine lv_iload hx hb dX4_bestNext_50 (lv_at hl 1 rfl) ?_
            refine lv_istore (lv' := [(4, .int r_4), (3, .int x5_8), (6, .int r_4), (5, .int x5_8), (0, .ref (ad 0)), (1, .int p1), (2, .int p2)]) hx hb dX4_bestNext_52 hl (by decide) rfl (fun ls hl => ?_)
            refine lv_iinc (v := (x5_8 + 1)) (lv' := [(5, .int (x5_8 + 1)), (4, .int r_4), (3, .int x5_8), (6, .int r_4), (0, .ref (ad 0)), (1, .int p1), (2, .int p2)]) hx hb dX4_bestNext_54 hl (k := 3) rfl rfl (by decide) rfl (fun ls hl => ?_)
            refine lv_goto (tgt := 8) hx hb dX4_bestNext_57 (by decide) ?_
            exact ih8 (x5_8 + 1) r_4 x5_8 hf _ _ _ hP hS (lv_sub hl [0, 1, 2, 4, 5, 6] rfl)
  exact L8 200 0 5 0 hf _ _ _ hP hS (lv_sub hl [0, 1, 2, 3, 4, 5] rfl)

def f_X4_bestOrder_L10 (I : Nat → Nat → Int32) (D : Nat → Nat → UInt64) : Nat → Int32 → Int32 → Int32 → Int32 → Option (Int32)
  | 0, _, _, _, _ => none
  | n10 + 1, x5_10, x4_10, x3_10, x2_10 => (if 5 ≤ x5_10 then some x2_10 else (if x4_10 = 0 then some x2_10 else bd (f_X4_bestNext I D x3_10 x4_10) (fun r_3 => bd (f_X4_without r_3 x4_10) (fun r_5 => f_X4_bestOrder_L10 I D n10 (x5_10 + 1) r_5 r_3 (((x2_10 * 10) + r_3) + 1)))))
def f_X4_bestOrder (I : Nat → Nat → Int32) (D : Nat → Nat → UInt64) (p1 : Int32) : Option (Int32) :=
  f_X4_bestOrder_L10 I D 200 0 p1 5 0
set_option maxHeartbeats 4000000 in
set_option maxRecDepth 100000 in
theorem mt_X4_bestOrder (l : Launch) (dC : Nat → ClassId) (dI : Nat → Nat → Nat) (ad : Nat → Nat) (cy : Nat → ClassId) (hJ : J33 ad) (sz : Nat) (I : Nat → Nat → Int32) (D : Nat → Nat → UInt64) (p1 : Int32) (rr : Int32) (hf : f_X4_bestOrder I D p1 = some rr) : Met l yX4_bestOrder wsX4_bestOrder ({ frames := 3, cells := 0, slots := 0, locals := 72 }) (va_Pc [.ref (ad 0), .int p1] (fun U => U.heap.size = sz ∧ hW dC dI ad cy I D U)) (va_Qi (fun r (_ : Unit) => rr = r) (fun _ _ => True) (fun q => sz ≤ q)) 0 0 (fun q => sz ≤ q) := by
  refine Met.ofW (cc := cX4_bestOrder) (maxL := 7) (ret := (some .int)) (by decide) rfl ?_
  intro p e s m args below meth c s₁ B hml hv
  obtain ⟨rfl, hsz, hP, hK, hN⟩ := hv
  have hx := B.exec
  have hb := B.bytes
  have hr := B.returns
  have hts := atoms_spec (ws := wsX4_bestOrder) B.pre
  have hown : s.vm.findClass RX4 = some m.cls := findClass_of_methodNamed B.named
  have hlocks := B.notSynchronized
  subst hsz
  generalize hAe : (fun q : Nat => s.heap.size ≤ q) = A
  have hA : ∀ q : Nat, s.heap.size ≤ q → A q := fun q h => by rw [← hAe]; exact h
  obtain ⟨H, hH⟩ : ∃ H : Heap, H = s.heap := ⟨_, rfl⟩
  have hS : va_S A s.heap H [] := by rw [hH]; exact va_S.rf
  rw [← hH]
  rw [← hH] at hP
  have hl := lv_entry ([.ref (ad 0), .int p1]) (n := 7) (Nat.le_of_ble_eq_true rfl)
  rw [lg_entry_eq]
  generalize (lg_sl ([.ref (ad 0), .int p1]) ++ List.replicate (7 - (lg_sl ([.ref (ad 0), .int p1])).length) Slot.unset).toArray = ls at hl ⊢
  have hl : lv_has ls 7 [(0, .ref (ad 0)), (1, .int p1)] := hl
  unfold f_X4_bestOrder at hf
  refine lv_iconst (v := 0) hx hb dX4_bestOrder_0 (by decide) ?_
  refine lv_istore_n (lv' := [(2, .int 0), (0, .ref (ad 0)), (1, .int p1)]) hx hb dX4_bestOrder_1 rfl hl (by decide) rfl (fun ls hl => ?_)
  refine lv_iconst (v := 5) hx hb dX4_bestOrder_2 (by decide) ?_
  refine lv_istore_n (lv' := [(3, .int 5), (2, .int 0), (0, .ref (ad 0)), (1, .int p1)]) hx hb dX4_bestOrder_3 rfl hl (by decide) rfl (fun ls hl => ?_)
  refine lv_iload_n hx hb dX4_bestOrder_4 rfl (lv_at hl 3 rfl) ?_
  refine lv_istore (lv' := [(4, .int p1), (3, .int 5), (2, .int 0), (0, .ref (ad 0)), (1, .int p1)]) hx hb dX4_bestOrder_5 hl (by decide) rfl (fun ls hl => ?_)
  refine lv_iconst (v := 0) hx hb dX4_bestOrder_7 (by decide) ?_
  refine lv_istore (lv' := [(5, .int 0), (4, .int p1), (3, .int 5), (2, .int 0), (0, .ref (ad 0)), (1, .int p1)]) hx hb dX4_bestOrder_8 hl (by decide) rfl (fun ls hl => ?_)
  have L10 : ∀ (n10 : Nat) (x5_10 : Int32) (x4_10 : Int32) (x3_10 : Int32) (x2_10 : Int32), f_X4_bestOrder_L10 I D n10 x5_10 x4_10 x3_10 x2_10 = some rr → ∀ (H : Heap) (locs : List Loc) (ls : Array Slot), va_P (dC, dI) vwCl (iwH ad cy I D) H → va_S A s.heap H locs → lv_has ls 7 [(5, .int x5_10), (4, .int x4_10), (3, .int x3_10), (2, .int x2_10), (0, .ref (ad 0)), (1, .int p1)] → W p l e (headSpec wsX4_bestOrder ({ frames := 3, cells := 0, slots := 0, locals := 72 })).room s m ([.ref (ad 0), .int p1] : List Value).toArray below meth c H locs 0 0 (MQ below (va_Qi (fun r (_ : Unit) => rr = r) (fun _ _ => True) A) ([.ref (ad 0), .int p1] : List Value).toArray s 0 0 A) (F0 m 10 ls []) := by
    intro n10
    induction n10 with
    | zero => intro x5_10 x4_10 x3_10 x2_10 hf; exact nomatch hf
    | succ n10 ih10 =>
      intro x5_10 x4_10 x3_10 x2_10 hf H locs ls hP hS hl
      unfold f_X4_bestOrder_L10 at hf
      refine lv_iload hx hb dX4_bestOrder_10 (lv_at hl 0 rfl) ?_
      refine lv_iconst (v := 5) hx hb dX4_bestOrder_12 (by decide) ?_
      refine lv_icmp_ge (tgt := 58) hx hb dX4_bestOrder_13 (by decide) (fun c_1 => ?_) (fun c_1 => ?_)
      · have hf := it_t hf c_1
        refine lv_iload_n hx hb dX4_bestOrder_58 rfl (lv_at hl 3 rfl) ?_
        have hf := Option.some.inj hf
        have q1 := hf
        exact W.iret (v := x2_10) hx hb hr (fun t ht hW9 => ⟨⟨x2_10, (), rfl, q1.symm, trivial⟩, hS.F ht⟩) hS.2.2 dX4_bestOrder_59
      · have hf := it_f hf c_1
        refine lv_iload hx hb dX4_bestOrder_16 (lv_at hl 1 rfl) ?_
        refine lv_if_eq (tgt := 58) hx hb dX4_bestOrder_18 (by decide) (fun c_2 => ?_) (fun c_2 => ?_)
        · have hf := it_t hf c_2
          refine lv_iload_n hx hb dX4_bestOrder_58 rfl (lv_at hl 3 rfl) ?_
          have hf := Option.some.inj hf
          have q1 := hf
          exact W.iret (v := x2_10) hx hb hr (fun t ht hW9 => ⟨⟨x2_10, (), rfl, q1.symm, trivial⟩, hS.F ht⟩) hS.2.2 dX4_bestOrder_59
        · have hf := it_f hf c_2
          refine lv_aload_n hx hb dX4_bestOrder_21 rfl (lv_at hl 4 rfl) ?_
          refine lv_iload_n hx hb dX4_bestOrder_22 rfl (lv_at hl 2 rfl) ?_
          refine lv_iload hx hb dX4_bestOrder_23 (lv_at hl 1 rfl) ?_
          obtain ⟨r_3, g_4, hf⟩ := bd_out hf
          refine va_calli (va_runV (As := [.int x3_10, .int x4_10]) (rest := []) ⟨hx, hb, hml, hown, hts⟩ (mt_X4_bestNext l dC dI ad cy hJ H.size I D x3_10 x4_10 r_3 g_4) (cwV 2 hts gX4_bestOrder_X4_bestNext rfl rfl rfl (by decide +kernel) ⟨Nat.le_of_ble_eq_true rfl, Nat.le_of_ble_eq_true rfl⟩) ⟨(hW.pre [.ref (ad 0), .int x3_10, .int x4_10] hP hK hN).1, hW.recv (C := RX4) (T := TX4) (N := 14) hP hK heH_0 rfl, (hW.pre [.ref (ad 0), .int x3_10, .int x4_10] hP hK hN).2⟩ rfl rfl hl.1 rfl (lv_room (Nat.le_of_ble_eq_true rfl)) dX4_bestOrder_25 ⟨Nat.le_of_ble_eq_true rfl, Nat.le_of_ble_eq_true rfl⟩) hS (fun q _ h => hA q (Nat.le_trans hS.1 h)) (fun q h => hA q (Nat.le_trans hS.1 h)) (fun r9 u t H1 locs ht hvm hw hB hz1 hk1 hS => ?_)
          subst hw
          have hP := va_Pnew hP hk1
          clear hB hz1 hk1 hvm ht
          generalize H1 = H at hP hS ⊢
          refine lv_istore (lv' := [(6, .int r_3), (5, .int x5_10), (4, .int x4_10), (3, .int x3_10), (2, .int x2_10), (0, .ref (ad 0)), (1, .int p1)]) hx hb dX4_bestOrder_28 hl (by decide) rfl (fun ls hl => ?_)
          refine lv_iload_n hx hb dX4_bestOrder_30 rfl (lv_at hl 4 rfl) ?_
          refine lv_bipush (v := 10) hx hb dX4_bestOrder_31 (by decide) ?_
          refine lv_imul hx hb dX4_bestOrder_33 ?_
          refine lv_iload hx hb dX4_bestOrder_34 (lv_at hl 0 rfl) ?_
          refine lv_iadd hx hb dX4_bestOrder_36 ?_
          refine lv_iconst (v := 1) hx hb dX4_bestOrder_37 (by decide) ?_
          refine lv_iadd hx hb dX4_bestOrder_38 ?_
          refine lv_istore_n (lv' := [(2, .int (((x2_10 * 10) + r_3) + 1)), (6, .int r_3), (5, .int x5_10), (4, .int x4_10), (3, .int x3_10), (0, .ref (ad 0)), (1, .int p1)]) hx hb dX4_bestOrder_39 rfl hl (by decide) rfl (fun ls hl => ?_)
          refine lv_iload hx hb dX4_bestOrder_40 (lv_at hl 1 rfl) ?_
          refine lv_iload hx hb dX4_bestOrder_42 (lv_at hl 3 rfl) ?_
          obtain ⟨r_5, g_6, hf⟩ := bd_out hf
          refine va_calli (va_runS (As := [.int r_3, .int x4_10]) (rest := []) ⟨hx, hb, hml, hown, hts⟩ (mt_X4_without l H.size r_3 x4_10 r_5 g_6) (va_cwS 2 hts gX4_bestOrder_X4_without rfl rfl rfl (by decide +kernel) ⟨Nat.le_of_ble_eq_true rfl, Nat.le_of_ble_eq_true rfl⟩) (pre0 [.int r_3, .int x4_10]) rfl rfl hl.1 rfl (lv_room (Nat.le_of_ble_eq_true rfl)) dX4_bestOrder_44 ⟨Nat.le_of_ble_eq_true rfl, Nat.le_of_ble_eq_true rfl⟩) hS (fun q _ h => hA q (Nat.le_trans hS.1 h)) (fun q h => hA q (Nat.le_trans hS.1 h)) (fun r9 u t H1 locs ht hvm hw hB hz1 hk1 hS => ?_)
          subst hw
          have hP := va_Pnew hP hk1
          clear hB hz1 hk1 hvm ht
          generalize H1 = H at hP hS ⊢
          refine lv_istore (lv' := [(4, .int r_5), (2, .int (((x2_10 * 10) + r_3) + 1)), (6, .int r_3), (5, .int x5_10), (3, .int x3_10), (0, .ref (ad 0)), (1, .int p1)]) hx hb dX4_bestOrder_47 hl (by decide) rfl (fun ls hl => ?_)
          refine lv_iload hx hb dX4_bestOrder_49 (lv_at hl 2 rfl) ?_
          refine lv_istore_n (lv' := [(3, .int r_3), (4, .int r_5), (2, .int (((x2_10 * 10) + r_3) + 1)), (6, .int r_3), (5, .int x5_10), (0, .ref (ad 0)), (1, .int p1)]) hx hb dX4_bestOrder_51 rfl hl (by decide) rfl (fun ls hl => ?_)
          refine lv_iinc (v := (x5_10 + 1)) (lv' := [(5, .int (x5_10 + 1)), (3, .int r_3), (4, .int r_5), (2, .int (((x2_10 * 10) + r_3) + 1)), (6, .int r_3), (0, .ref (ad 0)), (1, .int p1)]) hx hb dX4_bestOrder_52 hl (k := 4) rfl rfl (by decide) rfl (fun ls hl => ?_)
          refine lv_goto (tgt := 10) hx hb dX4_bestOrder_55 (by decide) ?_
          exact ih10 (x5_10 + 1) r_5 r_3 (((x2_10 * 10) + r_3) + 1) hf _ _ _ hP hS (lv_sub hl [0, 2, 1, 3, 5, 6] rfl)
  exact L10 200 0 p1 5 0 hf _ _ _ hP hS (lv_sub hl [0, 1, 2, 3, 4, 5] rfl)

def f_X4_reckonWashes_L14 (rec2 : Int32 → (Nat → Nat → Int32) → (Nat → Nat → UInt64) → Option ((Nat → Nat → Int32) × (Nat → Nat → UInt64))) (x1_2 : Int32) : Nat → Int32 → (Nat → Nat → Int32) → (Nat → Nat → UInt64) → Option ((Nat → Nat → Int32) × (Nat → Nat → UInt64))
  | 0, _, _, _ => none
  | n14 + 1, x2_14, I_L14, D_L14 => (if 6 ≤ x2_14 then rec2 (x1_2 + 1) I_L14 D_L14 else (if (x1_2 &&& (1 <<< (x2_14 &&& 31))) = 0 then bd (f_X4_bestNext I_L14 D_L14 x2_14 x1_2) (fun r_4 => bd (f_X4_cell x2_14 x1_2) (fun r_6 => bd (f_X4_washesBy I_L14 D_L14 x2_14 r_4 x1_2) (fun r_8 => ck (inB r_6 192) (nm (up2 I_L14 6 (r_6).toNatClampNeg r_8) (fun I_11 => f_X4_reckonWashes_L14 rec2 x1_2 n14 (x2_14 + 1) I_11 D_L14))))) else f_X4_reckonWashes_L14 rec2 x1_2 n14 (x2_14 + 1) I_L14 D_L14))
def f_X4_reckonWashes_L2 : Nat → Int32 → (Nat → Nat → Int32) → (Nat → Nat → UInt64) → Option ((Nat → Nat → Int32) × (Nat → Nat → UInt64))
  | 0, _, _, _ => none
  | n2 + 1, x1_2, I_L2, D_L2 => (if (1 <<< ((I_L2 0 6) &&& 31)) ≤ x1_2 then some (I_L2, D_L2) else f_X4_reckonWashes_L14 (f_X4_reckonWashes_L2  n2) x1_2 200 0 I_L2 D_L2)
def f_X4_reckonWashes (I : Nat → Nat → Int32) (D : Nat → Nat → UInt64) : Option ((Nat → Nat → Int32) × (Nat → Nat → UInt64)) :=
  f_X4_reckonWashes_L2  200 1 I D
theorem iX4_reckonWashes_RX4 : ∀ w ∈ u_ws RX4 TX4 14, w ∈ wsX4_reckonWashes := fun w h => List.mem_cons_of_mem _ (List.mem_append_left _ (List.mem_append_right _ (h)))
set_option maxHeartbeats 4000000 in
set_option maxRecDepth 100000 in
theorem mt_X4_reckonWashes (l : Launch) (dC : Nat → ClassId) (dI : Nat → Nat → Nat) (ad : Nat → Nat) (cy : Nat → ClassId) (hJ : J33 ad) (sz : Nat) (I : Nat → Nat → Int32) (D : Nat → Nat → UInt64) (I9 : Nat → Nat → Int32) (D9 : Nat → Nat → UInt64) (hf : f_X4_reckonWashes I D = some (I9, D9)) : Met l yX4_reckonWashes wsX4_reckonWashes ({ frames := 3, cells := 0, slots := 0, locals := 72 }) (va_Pc [.ref (ad 0)] (fun U => U.heap.size = sz ∧ hW dC dI ad cy I D U)) (va_Qv (fun (_ : Unit) => True) (fun _ t => hW dC dI ad cy I9 D9 t) (AW ad sz)) 0 0 (AW ad sz) := by
  refine Met.ofW (cc := cX4_reckonWashes) (maxL := 4) (ret := none) (by decide) rfl ?_
  intro p e s m args below meth c s₁ B hml hv
  obtain ⟨rfl, hsz, hP, hK, hN⟩ := hv
  have hx := B.exec
  have hb := B.bytes
  have hr := B.returns
  have hts := atoms_spec (ws := wsX4_reckonWashes) B.pre
  have hown : s.vm.findClass RX4 = some m.cls := findClass_of_methodNamed B.named
  have hlocks := B.notSynchronized
  subst hsz
  generalize hAe : AW ad s.heap.size = A
  have hA : ∀ q : Nat, s.heap.size ≤ q → A q := fun q h => by rw [← hAe]; exact Or.inr h
  have hA33 : ∀ k, k < 33 → A (ad k) := fun k h => by rw [← hAe]; exact Or.inl ⟨k, h, rfl⟩
  have hDD : ∀ I D, va_D A (iwH ad cy I D) := fun I D => iwH_D hJ hA33 I D
  obtain ⟨H, hH⟩ : ∃ H : Heap, H = s.heap := ⟨_, rfl⟩
  have hS : va_S A s.heap H [] := by rw [hH]; exact va_S.rf
  rw [← hH]
  rw [← hH] at hP
  have hl := lv_entry ([.ref (ad 0)]) (n := 4) (Nat.le_of_ble_eq_true rfl)
  rw [lg_entry_eq]
  generalize (lg_sl ([.ref (ad 0)]) ++ List.replicate (4 - (lg_sl ([.ref (ad 0)])).length) Slot.unset).toArray = ls at hl ⊢
  have hl : lv_has ls 4 [(0, .ref (ad 0))] := hl
  unfold f_X4_reckonWashes at hf
  refine lv_iconst (v := 1) hx hb dX4_reckonWashes_0 (by decide) ?_
  refine lv_istore_n (lv' := [(1, .int 1), (0, .ref (ad 0))]) hx hb dX4_reckonWashes_1 rfl hl (by decide) rfl (fun ls hl => ?_)
  have L2 : ∀ (n2 : Nat) (x1_2 : Int32) (I_L2 : Nat → Nat → Int32) (D_L2 : Nat → Nat → UInt64), f_X4_reckonWashes_L2 n2 x1_2 I_L2 D_L2 = some (I9, D9) → ∀ (H : Heap) (locs : List Loc) (ls : Array Slot), va_P (dC, dI) vwCl (iwH ad cy I_L2 D_L2) H → va_S A s.heap H locs → lv_has ls 4 [(1, .int x1_2), (0, .ref (ad 0))] → W p l e (headSpec wsX4_reckonWashes ({ frames := 3, cells := 0, slots := 0, locals := 72 })).room s m ([.ref (ad 0)] : List Value).toArray below meth c H locs 0 0 (MQ below (va_Qv (fun (_ : Unit) => True) (fun _ t => hW dC dI ad cy I9 D9 t) A) ([.ref (ad 0)] : List Value).toArray s 0 0 A) (F0 m 2 ls []) := by
    intro n2
    induction n2 with
    | zero => intro x1_2 I_L2 D_L2 hf; exact nomatch hf
    | succ n2 ih2 =>
      intro x1_2 I_L2 D_L2 hf H locs ls hP hS hl
      unfold f_X4_reckonWashes_L2 at hf
      refine lv_iload_n hx hb dX4_reckonWashes_2 rfl (lv_at hl 0 rfl) ?_
      refine lv_iconst (v := 1) hx hb dX4_reckonWashes_3 (by decide) ?_
      refine lv_aload_n hx hb dX4_reckonWashes_4 rfl (lv_at hl 1 rfl) ?_
      refine va_get (D := (dC, dI)) (ci := 4) (v := .int (I_L2 0 6)) (C := RX4) (T := TX4) (N := 14) hx hb hts iX4_reckonWashes_RX4 hown hK hP 0 heH_0 rfl 6 (by decide) (hts (.fieldLink RX4 41 "OverrunHouse" "mixCount" "I") (List.mem_cons_of_mem _ (List.mem_append_left _ (List.mem_append_left _ (List.mem_of_getElem? (i := 0) rfl))))) (fun _ h9 => h9) rfl dX4_reckonWashes_5 ?_
      refine lv_ishl hx hb dX4_reckonWashes_8 ?_
      refine lv_icmp_ge (tgt := 64) hx hb dX4_reckonWashes_9 (by decide) (fun c_1 => ?_) (fun c_1 => ?_)
      · have hf := it_t hf c_1
        have hf := Option.some.inj hf
        obtain ⟨q2, q3⟩ := Prod.mk.inj hf
        rw [q2, q3] at hP
        exact W.vret hx hb hr (fun t ht hW9 => ⟨⟨(), rfl, trivial, hW.of hP hK hN ht hW9⟩, hS.F ht⟩) hS.2.2 dX4_reckonWashes_64
      · have hf := it_f hf c_1
        refine lv_iconst (v := 0) hx hb dX4_reckonWashes_12 (by decide) ?_
        refine lv_istore_n (lv' := [(2, .int 0), (1, .int x1_2), (0, .ref (ad 0))]) hx hb dX4_reckonWashes_13 rfl hl (by decide) rfl (fun ls hl => ?_)
        have L14 : ∀ (n14 : Nat) (x2_14 : Int32) (I_L14 : Nat → Nat → Int32) (D_L14 : Nat → Nat → UInt64), f_X4_reckonWashes_L14 (f_X4_reckonWashes_L2  n2) x1_2 n14 x2_14 I_L14 D_L14 = some (I9, D9) → ∀ (H : Heap) (locs : List Loc) (ls : Array Slot), va_P (dC, dI) vwCl (iwH ad cy I_L14 D_L14) H → va_S A s.heap H locs → lv_has ls 4 [(2, .int x2_14), (1, .int x1_2), (0, .ref (ad 0))] → W p l e (headSpec wsX4_reckonWashes ({ frames := 3, cells := 0, slots := 0, locals := 72 })).room s m ([.ref (ad 0)] : List Value).toArray below meth c H locs 0 0 (MQ below (va_Qv (fun (_ : Unit) => True) (fun _ t => hW dC dI ad cy I9 D9 t) A) ([.ref (ad 0)] : List Value).toArray s 0 0 A) (F0 m 14 ls []) := by
          intro n14
          induction n14 with
          | zero => intro x2_14 I_L14 D_L14 hf; exact nomatch hf
          | succ n14 ih14 =>
            intro x2_14 I_L14 D_L14 hf H locs ls hP hS hl
            unfold f_X4_reckonWashes_L14 at hf
            refine lv_iload_n hx hb dX4_reckonWashes_14 rfl (lv_at hl 0 rfl) ?_
            refine lv_bipush (v := 6) hx hb dX4_reckonWashes_15 (by decide) ?_
            refine lv_icmp_ge (tgt := 58) hx hb dX4_reckonWashes_17 (by decide) (fun c_2 => ?_) (fun c_2 => ?_)
            · have hf := it_t hf c_2
              refine lv_iinc (v := (x1_2 + 1)) (lv' := [(1, .int (x1_2 + 1)), (2, .int x2_14), (0, .ref (ad 0))]) hx hb dX4_reckonWashes_58 hl (k := 1) rfl rfl (by decide) rfl (fun ls hl => ?_)
              refine lv_goto (tgt := 2) hx hb dX4_reckonWashes_61 (by decide) ?_
              exact ih2 (x1_2 + 1) I_L14 D_L14 hf _ _ _ hP hS (lv_sub hl [0, 2] rfl)
            · have hf := it_f hf c_2
              refine lv_iload_n hx hb dX4_reckonWashes_20 rfl (lv_at hl 1 rfl) ?_
              refine lv_iconst (v := 1) hx hb dX4_reckonWashes_21 (by decide) ?_
              refine lv_iload_n hx hb dX4_reckonWashes_22 rfl (lv_at hl 0 rfl) ?_
              refine lv_ishl hx hb dX4_reckonWashes_23 ?_
              refine lv_iand hx hb dX4_reckonWashes_24 ?_
              refine lv_if_ne (tgt := 52) hx hb dX4_reckonWashes_25 (by decide) (fun c_3 => ?_) (fun c_3 => ?_)
              · have hf := it_f hf c_3
                refine lv_iinc (v := (x2_14 + 1)) (lv' := [(2, .int (x2_14 + 1)), (1, .int x1_2), (0, .ref (ad 0))]) hx hb dX4_reckonWashes_52 hl (k := 0) rfl rfl (by decide) rfl (fun ls hl => ?_)
                refine lv_goto (tgt := 14) hx hb dX4_reckonWashes_55 (by decide) ?_
                exact ih14 (x2_14 + 1) I_L14 D_L14 hf _ _ _ hP hS (lv_sub hl [0, 1, 2] rfl)
              · have hf := it_t hf c_3
                refine lv_aload_n hx hb dX4_reckonWashes_28 rfl (lv_at hl 2 rfl) ?_
                refine lv_iload_n hx hb dX4_reckonWashes_29 rfl (lv_at hl 0 rfl) ?_
                refine lv_iload_n hx hb dX4_reckonWashes_30 rfl (lv_at hl 1 rfl) ?_
                obtain ⟨r_4, g_5, hf⟩ := bd_out hf
                refine va_calli (va_runV (As := [.int x2_14, .int x1_2]) (rest := []) ⟨hx, hb, hml, hown, hts⟩ (mt_X4_bestNext l dC dI ad cy hJ H.size I_L14 D_L14 x2_14 x1_2 r_4 g_5) (cwV 2 hts gX4_reckonWashes_X4_bestNext rfl rfl rfl (by decide +kernel) ⟨Nat.le_of_ble_eq_true rfl, Nat.le_of_ble_eq_true rfl⟩) ⟨(hW.pre [.ref (ad 0), .int x2_14, .int x1_2] hP hK hN).1, hW.recv (C := RX4) (T := TX4) (N := 14) hP hK heH_0 rfl, (hW.pre [.ref (ad 0), .int x2_14, .int x1_2] hP hK hN).2⟩ rfl rfl hl.1 rfl (lv_room (Nat.le_of_ble_eq_true rfl)) dX4_reckonWashes_31 ⟨Nat.le_of_ble_eq_true rfl, Nat.le_of_ble_eq_true rfl⟩) hS (fun q _ h => hA q (Nat.le_trans hS.1 h)) (fun q h => hA q (Nat.le_trans hS.1 h)) (fun r9 u t H1 locs ht hvm hw hB hz1 hk1 hS => ?_)
                subst hw
                have hP := va_Pnew hP hk1
                clear hB hz1 hk1 hvm ht
                generalize H1 = H at hP hS ⊢
                refine lv_istore_n (lv' := [(3, .int r_4), (2, .int x2_14), (1, .int x1_2), (0, .ref (ad 0))]) hx hb dX4_reckonWashes_34 rfl hl (by decide) rfl (fun ls hl => ?_)
                refine lv_aload_n hx hb dX4_reckonWashes_35 rfl (lv_at hl 3 rfl) ?_
                refine va_get (D := (dC, dI)) (ci := 4) (v := .ref (ad 6)) (C := RX4) (T := TX4) (N := 14) hx hb hts iX4_reckonWashes_RX4 hown hK hP 0 heH_0 rfl 13 (by decide) (hts (.fieldLink RX4 62 "OverrunHouse" "fewestWashes" "[I") (List.mem_cons_of_mem _ (List.mem_append_left _ (List.mem_append_left _ (List.mem_of_getElem? (i := 1) rfl))))) (fun _ h9 => h9) rfl dX4_reckonWashes_36 ?_
                refine lv_iload_n hx hb dX4_reckonWashes_39 rfl (lv_at hl 1 rfl) ?_
                refine lv_iload_n hx hb dX4_reckonWashes_40 rfl (lv_at hl 2 rfl) ?_
                obtain ⟨r_6, g_7, hf⟩ := bd_out hf
                refine va_calli (va_runS (As := [.int x2_14, .int x1_2]) (rest := [.ref (ad 6)]) ⟨hx, hb, hml, hown, hts⟩ (mt_X4_cell l H.size x2_14 x1_2 r_6 g_7) (va_cwS 2 hts gX4_reckonWashes_X4_cell rfl rfl rfl (by decide +kernel) ⟨Nat.le_of_ble_eq_true rfl, Nat.le_of_ble_eq_true rfl⟩) (pre0 [.int x2_14, .int x1_2]) rfl rfl hl.1 rfl (lv_room (Nat.le_of_ble_eq_true rfl)) dX4_reckonWashes_41 ⟨Nat.le_of_ble_eq_true rfl, Nat.le_of_ble_eq_true rfl⟩) hS (fun q _ h => hA q (Nat.le_trans hS.1 h)) (fun q h => hA q (Nat.le_trans hS.1 h)) (fun r9 u t H1 locs ht hvm hw hB hz1 hk1 hS => ?_)
                subst hw
                have hP := va_Pnew hP hk1
                clear hB hz1 hk1 hvm ht
                generalize H1 = H at hP hS ⊢
                refine lv_aload_n hx hb dX4_reckonWashes_44 rfl (lv_at hl 3 rfl) ?_
                refine lv_iload_n hx hb dX4_reckonWashes_45 rfl (lv_at hl 1 rfl) ?_
                refine lv_iload_n hx hb dX4_reckonWashes_46 rfl (lv_at hl 0 rfl) ?_
                refine lv_iload_n hx hb dX4_reckonWashes_47 rfl (lv_at hl 2 rfl) ?_
                obtain ⟨r_8, g_9, hf⟩ := bd_out hf
                refine va_calli (va_runV (As := [.int x2_14, .int r_4, .int x1_2]) (rest := [.int r_6, .ref (ad 6)]) ⟨hx, hb, hml, hown, hts⟩ (mt_X4_washesBy l dC dI ad cy hJ H.size I_L14 D_L14 x2_14 r_4 x1_2 r_8 g_9) (cwV 3 hts gX4_reckonWashes_X4_washesBy rfl rfl rfl (by decide +kernel) ⟨Nat.le_of_ble_eq_true rfl, Nat.le_of_ble_eq_true rfl⟩) ⟨(hW.pre [.ref (ad 0), .int x2_14, .int r_4, .int x1_2] hP hK hN).1, hW.recv (C := RX4) (T := TX4) (N := 14) hP hK heH_0 rfl, (hW.pre [.ref (ad 0), .int x2_14, .int r_4, .int x1_2] hP hK hN).2⟩ rfl rfl hl.1 rfl (lv_room (Nat.le_of_ble_eq_true rfl)) dX4_reckonWashes_48 ⟨Nat.le_of_ble_eq_true rfl, Nat.le_of_ble_eq_true rfl⟩) hS (fun q _ h => hA q (Nat.le_trans hS.1 h)) (fun q h => hA q (Nat.le_trans hS.1 h)) (fun r9 u t H1 locs ht hvm hw hB hz1 hk1 hS => ?_)
                subst hw
                have hP := va_Pnew hP hk1
                clear hB hz1 hk1 hvm ht
                generalize H1 = H at hP hS ⊢
                obtain ⟨h_10, hf⟩ := ck_out hf
                obtain ⟨I_11, eI_11, hf⟩ := nm_out hf
                refine va_iast (n := 192) (f := I_L14 6) hx hb hK hP (hDD I_L14 D_L14) hS 6 0 heH_6 rfl (inB_in h_10) dX4_reckonWashes_51 (fun H locs hP _ hS => ?_)
                have hP : va_P (dC, dI) vwCl (iwH ad cy I_11 D_L14) H := by rw [eI_11]; exact hpI (by decide) ((cellH_6 ad cy _ _).trans rfl) hP
                refine lv_iinc (v := (x2_14 + 1)) (lv' := [(2, .int (x2_14 + 1)), (3, .int r_4), (1, .int x1_2), (0, .ref (ad 0))]) hx hb dX4_reckonWashes_52 hl (k := 1) rfl rfl (by decide) rfl (fun ls hl => ?_)
                refine lv_goto (tgt := 14) hx hb dX4_reckonWashes_55 (by decide) ?_
                exact ih14 (x2_14 + 1) I_11 D_L14 hf _ _ _ hP hS (lv_sub hl [0, 2, 3] rfl)
        exact L14 200 0 I_L2 D_L2 hf _ _ _ hP hS (lv_sub hl [0, 1, 2] rfl)
  exact L2 200 1 I D hf _ _ _ hP hS (lv_sub hl [0, 1] rfl)

def f_X4_crystalLater_L34 (I : Nat → Nat → Int32) (D : Nat → Nat → UInt64) (k1 : Nat) (p4 : Int32) : Nat → Int32 → UInt64 → UInt64 → Option (UInt64)
  | 0, _, _, _ => none
  | n34 + 1, x11_34, x9_34, x7_34 => (if p4 ≤ x11_34 then some x7_34 else bd (f_X2_meltsAt I D (((I (18 + k1) 0)).toNatClampNeg) x9_34) (fun r_4 => (if r_4 = 0 then bd (f_X3_hourLater I D (((I (18 + k1) 2)).toNatClampNeg) x9_34) (fun r_7 => bd (f_X2_coarsening I D (((I (18 + k1) 0)).toNatClampNeg) x9_34 r_7) (fun r_9 => ck (okD (FP.dadd x7_34 r_9)) (f_X4_crystalLater_L34 I D k1 p4 n34 (x11_34 + 1) r_7 (FP.dadd x7_34 r_9)))) else some (13830554455654793216 : UInt64))))
def f_X4_crystalLater (I : Nat → Nat → Int32) (D : Nat → Nat → UInt64) (k1 : Nat) (p2 : UInt64) (p4 : Int32) : Option (UInt64) :=
  ck (inB (I (18 + k1) 0) 5) (ck (inB (I (18 + k1) 2) 3) (f_X4_crystalLater_L34 I D k1 p4 200 0 p2 (D (18 + k1) 4)))
theorem iX4_crystalLater_RX0 : ∀ w ∈ u_ws RX0 TX0 5, w ∈ wsX4_crystalLater := fun w h => List.mem_cons_of_mem _ (List.mem_append_left _ (List.mem_append_left _ (List.mem_append_right _ (h))))
theorem iX4_crystalLater_RX4 : ∀ w ∈ u_ws RX4 TX4 14, w ∈ wsX4_crystalLater := fun w h => List.mem_cons_of_mem _ (List.mem_append_left _ (List.mem_append_left _ (List.mem_append_left _ (List.mem_append_right _ (h)))))
set_option maxHeartbeats 4000000 in
set_option maxRecDepth 100000 in
theorem mt_X4_crystalLater (l : Launch) (dC : Nat → ClassId) (dI : Nat → Nat → Nat) (ad : Nat → Nat) (cy : Nat → ClassId) (hJ : J33 ad) (sz : Nat) (I : Nat → Nat → Int32) (D : Nat → Nat → UInt64) (k1 : Nat) (hk1 : k1 < 12) (p2 : UInt64) (p4 : Int32) (rr : UInt64) (hf : f_X4_crystalLater I D k1 p2 p4 = some rr) : Met l yX4_crystalLater wsX4_crystalLater ({ frames := 2, cells := 0, slots := 0, locals := 48 }) (va_Pc [.ref (ad 0), .ref (ad (18 + k1)), .double p2, .int p4] (fun U => U.heap.size = sz ∧ hW dC dI ad cy I D U)) (va_Qd (fun r (_ : Unit) => rr = r) (fun _ _ => True) (fun q => sz ≤ q)) 0 0 (fun q => sz ≤ q) := by
  refine Met.ofW (cc := cX4_crystalLater) (maxL := 14) (ret := (some .double)) (by decide) rfl ?_
  intro p e s m args below meth c s₁ B hml hv
  obtain ⟨rfl, hsz, hP, hK, hN⟩ := hv
  have hx := B.exec
  have hb := B.bytes
  have hr := B.returns
  have hts := atoms_spec (ws := wsX4_crystalLater) B.pre
  have hown : s.vm.findClass RX4 = some m.cls := findClass_of_methodNamed B.named
  have hlocks := B.notSynchronized
  subst hsz
  generalize hAe : (fun q : Nat => s.heap.size ≤ q) = A
  have hA : ∀ q : Nat, s.heap.size ≤ q → A q := fun q h => by rw [← hAe]; exact h
  obtain ⟨H, hH⟩ : ∃ H : Heap, H = s.heap := ⟨_, rfl⟩
  have hS : va_S A s.heap H [] := by rw [hH]; exact va_S.rf
  rw [← hH]
  rw [← hH] at hP
  have hl := lv_entry ([.ref (ad 0), .ref (ad (18 + k1)), .double p2, .int p4]) (n := 14) (Nat.le_of_ble_eq_true rfl)
  rw [lg_entry_eq]
  generalize (lg_sl ([.ref (ad 0), .ref (ad (18 + k1)), .double p2, .int p4]) ++ List.replicate (14 - (lg_sl ([.ref (ad 0), .ref (ad (18 + k1)), .double p2, .int p4])).length) Slot.unset).toArray = ls at hl ⊢
  have hl : lv_has ls 14 [(0, .ref (ad 0)), (1, .ref (ad (18 + k1))), (2, .double p2), (4, .int p4)] := hl
  unfold f_X4_crystalLater at hf
  refine lv_aload_n hx hb dX4_crystalLater_0 rfl (lv_at hl 0 rfl) ?_
  refine va_get (D := (dC, dI)) (ci := 4) (v := .ref (ad 2)) (C := RX4) (T := TX4) (N := 14) hx hb hts iX4_crystalLater_RX4 hown hK hP 0 heH_0 rfl 1 (by decide) (hts (.fieldLink RX4 17 "OverrunHouse" "mixes" "[LOverrunHouse$Mix;") (List.mem_cons_of_mem _ (List.mem_append_left _ (List.mem_append_left _ (List.mem_append_left _ (List.mem_append_left _ (List.mem_of_getElem? (i := 0) rfl))))))) (fun _ h9 => h9) rfl dX4_crystalLater_1 ?_
  refine lv_aload_n hx hb dX4_crystalLater_4 rfl (lv_at hl 1 rfl) ?_
  refine va_getN (D := (dC, dI)) (ci := 0) (v := .int (I (18 + k1) 0)) (C := RX0) (T := TX0) (N := 5) hx hb hts iX4_crystalLater_RX0 hown hK hP (18 + k1) (heH_Batch hk1) rfl 0 (by decide) (va_Nw.use (w := .fieldLinkNest "OverrunHouse" 131 "OverrunHouse$Batch" "mix" "I" "OverrunHouse") rfl (hN _ (List.mem_of_getElem? (i := 18) rfl))) (fun _ h9 => h9) rfl dX4_crystalLater_5 ?_
  obtain ⟨h_1, hf⟩ := ck_out hf
  refine wr_aald (b := 13) (n := 5) hx hb hK hP 2 2 heH_2 rfl (inB_in h_1) dX4_crystalLater_8 ?_
  refine lv_astore (lv' := [(5, .ref (ad (13 + ((I (18 + k1) 0)).toNatClampNeg))), (0, .ref (ad 0)), (1, .ref (ad (18 + k1))), (2, .double p2), (4, .int p4)]) hx hb dX4_crystalLater_9 hl (by decide) rfl (fun ls hl => ?_)
  refine lv_aload_n hx hb dX4_crystalLater_11 rfl (lv_at hl 1 rfl) ?_
  refine va_get (D := (dC, dI)) (ci := 4) (v := .ref (ad 4)) (C := RX4) (T := TX4) (N := 14) hx hb hts iX4_crystalLater_RX4 hown hK hP 0 heH_0 rfl 3 (by decide) (hts (.fieldLink RX4 29 "OverrunHouse" "stores" "[LOverrunHouse$Store;") (List.mem_cons_of_mem _ (List.mem_append_left _ (List.mem_append_left _ (List.mem_append_left _ (List.mem_append_left _ (List.mem_of_getElem? (i := 1) rfl))))))) (fun _ h9 => h9) rfl dX4_crystalLater_12 ?_
  refine lv_aload_n hx hb dX4_crystalLater_15 rfl (lv_at hl 2 rfl) ?_
  refine va_getN (D := (dC, dI)) (ci := 0) (v := .int (I (18 + k1) 2)) (C := RX0) (T := TX0) (N := 5) hx hb hts iX4_crystalLater_RX0 hown hK hP (18 + k1) (heH_Batch hk1) rfl 2 (by decide) (va_Nw.use (w := .fieldLinkNest "OverrunHouse" 143 "OverrunHouse$Batch" "place" "I" "OverrunHouse") rfl (hN _ (List.mem_of_getElem? (i := 20) rfl))) (fun _ h9 => h9) rfl dX4_crystalLater_16 ?_
  obtain ⟨h_2, hf⟩ := ck_out hf
  refine wr_aald (b := 30) (n := 3) hx hb hK hP 4 4 heH_4 rfl (inB_in h_2) dX4_crystalLater_19 ?_
  refine lv_astore (lv' := [(6, .ref (ad (30 + ((I (18 + k1) 2)).toNatClampNeg))), (5, .ref (ad (13 + ((I (18 + k1) 0)).toNatClampNeg))), (0, .ref (ad 0)), (1, .ref (ad (18 + k1))), (2, .double p2), (4, .int p4)]) hx hb dX4_crystalLater_20 hl (by decide) rfl (fun ls hl => ?_)
  refine lv_aload_n hx hb dX4_crystalLater_22 rfl (lv_at hl 3 rfl) ?_
  refine va_getN (D := (dC, dI)) (ci := 0) (v := .double (D (18 + k1) 4)) (C := RX0) (T := TX0) (N := 5) hx hb hts iX4_crystalLater_RX0 hown hK hP (18 + k1) (heH_Batch hk1) rfl 4 (by decide) (va_Nw.use (w := .fieldLinkNest "OverrunHouse" 139 "OverrunHouse$Batch" "crystal" "D" "OverrunHouse") rfl (hN _ (List.mem_of_getElem? (i := 22) rfl))) (fun _ h9 => h9) rfl dX4_crystalLater_23 ?_
  refine lv_dstore (lv' := [(7, .double (D (18 + k1) 4)), (6, .ref (ad (30 + ((I (18 + k1) 2)).toNatClampNeg))), (5, .ref (ad (13 + ((I (18 + k1) 0)).toNatClampNeg))), (0, .ref (ad 0)), (1, .ref (ad (18 + k1))), (2, .double p2), (4, .int p4)]) hx hb dX4_crystalLater_26 hl (by decide) rfl (fun ls hl => ?_)
  refine lv_dload_n hx hb dX4_crystalLater_28 rfl (lv_at hl 5 rfl) ?_
  refine lv_dstore (lv' := [(9, .double p2), (7, .double (D (18 + k1) 4)), (6, .ref (ad (30 + ((I (18 + k1) 2)).toNatClampNeg))), (5, .ref (ad (13 + ((I (18 + k1) 0)).toNatClampNeg))), (0, .ref (ad 0)), (1, .ref (ad (18 + k1))), (2, .double p2), (4, .int p4)]) hx hb dX4_crystalLater_29 hl (by decide) rfl (fun ls hl => ?_)
  refine lv_iconst (v := 0) hx hb dX4_crystalLater_31 (by decide) ?_
  refine lv_istore (lv' := [(11, .int 0), (9, .double p2), (7, .double (D (18 + k1) 4)), (6, .ref (ad (30 + ((I (18 + k1) 2)).toNatClampNeg))), (5, .ref (ad (13 + ((I (18 + k1) 0)).toNatClampNeg))), (0, .ref (ad 0)), (1, .ref (ad (18 + k1))), (2, .double p2), (4, .int p4)]) hx hb dX4_crystalLater_32 hl (by decide) rfl (fun ls hl => ?_)
  have L34 : ∀ (n34 : Nat) (x11_34 : Int32) (x9_34 : UInt64) (x7_34 : UInt64), f_X4_crystalLater_L34 I D k1 p4 n34 x11_34 x9_34 x7_34 = some rr → ∀ (H : Heap) (locs : List Loc) (ls : Array Slot), va_P (dC, dI) vwCl (iwH ad cy I D) H → va_S A s.heap H locs → lv_has ls 14 [(11, .int x11_34), (9, .double x9_34), (7, .double x7_34), (6, .ref (ad (30 + ((I (18 + k1) 2)).toNatClampNeg))), (5, .ref (ad (13 + ((I (18 + k1) 0)).toNatClampNeg))), (0, .ref (ad 0)), (1, .ref (ad (18 + k1))), (2, .double p2), (4, .int p4)] → W p l e (headSpec wsX4_crystalLater ({ frames := 2, cells := 0, slots := 0, locals := 48 })).room s m ([.ref (ad 0), .ref (ad (18 + k1)), .double p2, .int p4] : List Value).toArray below meth c H locs 0 0 (MQ below (va_Qd (fun r (_ : Unit) => rr = r) (fun _ _ => True) A) ([.ref (ad 0), .ref (ad (18 + k1)), .double p2, .int p4] : List Value).toArray s 0 0 A) (F0 m 34 ls []) := by
    intro n34
    induction n34 with
    | zero => intro x11_34 x9_34 x7_34 hf; exact nomatch hf
    | succ n34 ih34 =>
      intro x11_34 x9_34 x7_34 hf H locs ls hP hS hl
      unfold f_X4_crystalLater_L34 at hf
      refine lv_iload hx hb dX4_crystalLater_34 (lv_at hl 0 rfl) ?_
      refine lv_iload hx hb dX4_crystalLater_36 (lv_at hl 8 rfl) ?_
      refine lv_icmp_ge (tgt := 88) hx hb dX4_crystalLater_38 (by decide) (fun c_3 => ?_) (fun c_3 => ?_)
      · have hf := it_t hf c_3
        refine lv_dload hx hb dX4_crystalLater_88 (lv_at hl 2 rfl) ?_
        have hf := Option.some.inj hf
        have q1 := hf
        exact W.dret (v := x7_34) hx hb hr (fun t ht hW9 => ⟨⟨x7_34, (), rfl, q1.symm, trivial⟩, hS.F ht⟩) hS.2.2 dX4_crystalLater_90
      · have hf := it_f hf c_3
        refine lv_aload hx hb dX4_crystalLater_41 (lv_at hl 4 rfl) ?_
        refine lv_dload hx hb dX4_crystalLater_43 (lv_at hl 1 rfl) ?_
        obtain ⟨r_4, g_5, hf⟩ := bd_out hf
        refine va_calli (va_runVN (As := [.double x9_34]) (rest := []) ⟨hx, hb, hml, hown, hts⟩ (mt_X2_meltsAt l dC dI ad cy hJ H.size I D ((I (18 + k1) 0)).toNatClampNeg (inB_lt h_1) x9_34 r_4 g_5) ⟨va_cnB 1 hts gX4_crystalLater_X2_meltsAt_n188 rfl rfl rfl (hN (.methodLinkNest "OverrunHouse" 188 ⟨"OverrunHouse$Mix", "meltsAt", "(D)Z"⟩ "OverrunHouse") (List.mem_of_getElem? (i := 27) rfl)) (hts (.initialized RX2) (List.mem_cons_of_mem _ (List.mem_append_left _ (List.mem_append_left _ (List.mem_append_left _ (List.mem_append_left _ (List.mem_of_getElem? (i := 4) rfl))))))) (by decide +kernel) ⟨Nat.le_of_ble_eq_true rfl, Nat.le_of_ble_eq_true rfl⟩, (hts (.instanceMethod yX2_meltsAt) (List.mem_cons_of_mem _ (List.mem_append_left _ (List.mem_append_left _ (List.mem_append_left _ (List.mem_append_left _ (List.mem_of_getElem? (i := 3) rfl))))))), (hts (.selects RX2 yX2_meltsAt yX2_meltsAt) (List.mem_cons_of_mem _ (List.mem_append_left _ (List.mem_append_left _ (List.mem_append_left _ (List.mem_append_left _ (List.mem_of_getElem? (i := 5) rfl)))))))⟩ ⟨(hW.pre [.ref (ad (13 + ((I (18 + k1) 0)).toNatClampNeg)), .double x9_34] hP hK hN).1, hW.recv (C := RX2) (T := TX2) (N := 12) hP hK (heH_Mix (inB_lt h_1)) rfl, (hW.pre [.ref (ad (13 + ((I (18 + k1) 0)).toNatClampNeg)), .double x9_34] hP hK hN).2⟩ rfl rfl hl.1 rfl (lv_room (Nat.le_of_ble_eq_true rfl)) dX4_crystalLater_45 ⟨Nat.le_of_ble_eq_true rfl, Nat.le_of_ble_eq_true rfl⟩) hS (fun q _ h => hA q (Nat.le_trans hS.1 h)) (fun q h => hA q (Nat.le_trans hS.1 h)) (fun r9 u t H1 locs ht hvm hw hB hz1 hk1 hS => ?_)
        subst hw
        have hP := va_Pnew hP hk1
        clear hB hz1 hk1 hvm ht
        generalize H1 = H at hP hS ⊢
        refine lv_if_eq (tgt := 55) hx hb dX4_crystalLater_48 (by decide) (fun c_6 => ?_) (fun c_6 => ?_)
        · have hf := it_t hf c_6
          refine lv_aload hx hb dX4_crystalLater_55 (lv_at hl 3 rfl) ?_
          refine lv_dload hx hb dX4_crystalLater_57 (lv_at hl 1 rfl) ?_
          obtain ⟨r_7, g_8, hf⟩ := bd_out hf
          refine va_calld (va_runVN (As := [.double x9_34]) (rest := []) ⟨hx, hb, hml, hown, hts⟩ (mt_X3_hourLater l dC dI ad cy hJ H.size I D ((I (18 + k1) 2)).toNatClampNeg (inB_lt h_2) x9_34 r_7 g_8) ⟨va_cnB 1 hts gX4_crystalLater_X3_hourLater_n180 rfl rfl rfl (hN (.methodLinkNest "OverrunHouse" 180 ⟨"OverrunHouse$Store", "hourLater", "(D)D"⟩ "OverrunHouse") (List.mem_of_getElem? (i := 25) rfl)) (hts (.initialized RX3) (List.mem_cons_of_mem _ (List.mem_append_left _ (List.mem_append_left _ (List.mem_append_left _ (List.mem_append_left _ (List.mem_of_getElem? (i := 9) rfl))))))) (by decide +kernel) ⟨Nat.le_of_ble_eq_true rfl, Nat.le_of_ble_eq_true rfl⟩, (hts (.instanceMethod yX3_hourLater) (List.mem_cons_of_mem _ (List.mem_append_left _ (List.mem_append_left _ (List.mem_append_left _ (List.mem_append_left _ (List.mem_of_getElem? (i := 8) rfl))))))), (hts (.selects RX3 yX3_hourLater yX3_hourLater) (List.mem_cons_of_mem _ (List.mem_append_left _ (List.mem_append_left _ (List.mem_append_left _ (List.mem_append_left _ (List.mem_of_getElem? (i := 10) rfl)))))))⟩ ⟨(hW.pre [.ref (ad (30 + ((I (18 + k1) 2)).toNatClampNeg)), .double x9_34] hP hK hN).1, hW.recv (C := RX3) (T := TX3) (N := 2) hP hK (heH_Store (inB_lt h_2)) rfl, (hW.pre [.ref (ad (30 + ((I (18 + k1) 2)).toNatClampNeg)), .double x9_34] hP hK hN).2⟩ rfl rfl hl.1 rfl (lv_room (Nat.le_of_ble_eq_true rfl)) dX4_crystalLater_59 ⟨Nat.le_of_ble_eq_true rfl, Nat.le_of_ble_eq_true rfl⟩) hS (fun q _ h => hA q (Nat.le_trans hS.1 h)) (fun q h => hA q (Nat.le_trans hS.1 h)) (fun r9 u t H1 locs ht hvm hw hB hz1 hk1 hS => ?_)
          subst hw
          have hP := va_Pnew hP hk1
          clear hB hz1 hk1 hvm ht
          generalize H1 = H at hP hS ⊢
          refine lv_dstore (lv' := [(12, .double r_7), (11, .int x11_34), (9, .double x9_34), (7, .double x7_34), (6, .ref (ad (30 + ((I (18 + k1) 2)).toNatClampNeg))), (5, .ref (ad (13 + ((I (18 + k1) 0)).toNatClampNeg))), (0, .ref (ad 0)), (1, .ref (ad (18 + k1))), (2, .double p2), (4, .int p4)]) hx hb dX4_crystalLater_62 hl (by decide) rfl (fun ls hl => ?_)
          refine lv_dload hx hb dX4_crystalLater_64 (lv_at hl 3 rfl) ?_
          refine lv_aload hx hb dX4_crystalLater_66 (lv_at hl 5 rfl) ?_
          refine lv_dload hx hb dX4_crystalLater_68 (lv_at hl 2 rfl) ?_
          refine lv_dload hx hb dX4_crystalLater_70 (lv_at hl 0 rfl) ?_
          obtain ⟨r_9, g_10, hf⟩ := bd_out hf
          refine va_calld (va_runVN (As := [.double x9_34, .double r_7]) (rest := [.double x7_34]) ⟨hx, hb, hml, hown, hts⟩ (mt_X2_coarsening l dC dI ad cy hJ H.size I D ((I (18 + k1) 0)).toNatClampNeg (inB_lt h_1) x9_34 r_7 r_9 g_10) ⟨va_cnB 2 hts gX4_crystalLater_X2_coarsening_n184 rfl rfl rfl (hN (.methodLinkNest "OverrunHouse" 184 ⟨"OverrunHouse$Mix", "coarsening", "(DD)D"⟩ "OverrunHouse") (List.mem_of_getElem? (i := 26) rfl)) (hts (.initialized RX2) (List.mem_cons_of_mem _ (List.mem_append_left _ (List.mem_append_left _ (List.mem_append_left _ (List.mem_append_left _ (List.mem_of_getElem? (i := 4) rfl))))))) (by decide +kernel) ⟨Nat.le_of_ble_eq_true rfl, Nat.le_of_ble_eq_true rfl⟩, (hts (.instanceMethod yX2_coarsening) (List.mem_cons_of_mem _ (List.mem_append_left _ (List.mem_append_left _ (List.mem_append_left _ (List.mem_append_left _ (List.mem_of_getElem? (i := 14) rfl))))))), (hts (.selects RX2 yX2_coarsening yX2_coarsening) (List.mem_cons_of_mem _ (List.mem_append_left _ (List.mem_append_left _ (List.mem_append_left _ (List.mem_append_left _ (List.mem_of_getElem? (i := 15) rfl)))))))⟩ ⟨(hW.pre [.ref (ad (13 + ((I (18 + k1) 0)).toNatClampNeg)), .double x9_34, .double r_7] hP hK hN).1, hW.recv (C := RX2) (T := TX2) (N := 12) hP hK (heH_Mix (inB_lt h_1)) rfl, (hW.pre [.ref (ad (13 + ((I (18 + k1) 0)).toNatClampNeg)), .double x9_34, .double r_7] hP hK hN).2⟩ rfl rfl hl.1 rfl (lv_room (Nat.le_of_ble_eq_true rfl)) dX4_crystalLater_72 ⟨Nat.le_of_ble_eq_true rfl, Nat.le_of_ble_eq_true rfl⟩) hS (fun q _ h => hA q (Nat.le_trans hS.1 h)) (fun q h => hA q (Nat.le_trans hS.1 h)) (fun r9 u t H1 locs ht hvm hw hB hz1 hk1 hS => ?_)
          subst hw
          have hP := va_Pnew hP hk1
          clear hB hz1 hk1 hvm ht
          generalize H1 = H at hP hS ⊢
          obtain ⟨h_11, hf⟩ := ck_out hf
          refine lv_dadd hx hb dX4_crystalLater_75 (okD_n h_11) ?_
          refine lv_dstore (lv' := [(7, .double (FP.dadd x7_34 r_9)), (12, .double r_7), (11, .int x11_34), (9, .double x9_34), (6, .ref (ad (30 + ((I (18 + k1) 2)).toNatClampNeg))), (5, .ref (ad (13 + ((I (18 + k1) 0)).toNatClampNeg))), (0, .ref (ad 0)), (1, .ref (ad (18 + k1))), (2, .double p2), (4, .int p4)]) hx hb dX4_crystalLater_76 hl (by decide) rfl (fun ls hl => ?_)
          refine lv_dload hx hb dX4_crystalLater_78 (lv_at hl 1 rfl) ?_
          refine lv_dstore (lv' := [(9, .double r_7), (7, .double (FP.dadd x7_34 r_9)), (12, .double r_7), (11, .int x11_34), (6, .ref (ad (30 + ((I (18 + k1) 2)).toNatClampNeg))), (5, .ref (ad (13 + ((I (18 + k1) 0)).toNatClampNeg))), (0, .ref (ad 0)), (1, .ref (ad (18 + k1))), (2, .double p2), (4, .int p4)]) hx hb dX4_crystalLater_80 hl (by decide) rfl (fun ls hl => ?_)
          refine lv_iinc (v := (x11_34 + 1)) (lv' := [(11, .int (x11_34 + 1)), (9, .double r_7), (7, .double (FP.dadd x7_34 r_9)), (12, .double r_7), (6, .ref (ad (30 + ((I (18 + k1) 2)).toNatClampNeg))), (5, .ref (ad (13 + ((I (18 + k1) 0)).toNatClampNeg))), (0, .ref (ad 0)), (1, .ref (ad (18 + k1))), (2, .double p2), (4, .int p4)]) hx hb dX4_crystalLater_82 hl (k := 3) rfl rfl (by decide) rfl (fun ls hl => ?_)
          refine lv_goto (tgt := 34) hx hb dX4_crystalLater_85 (by decide) ?_
          exact ih34 (x11_34 + 1) r_7 (FP.dadd x7_34 r_9) hf _ _ _ hP hS (lv_sub hl [0, 1, 2, 4, 5, 6, 7, 8, 9] rfl)
        · have hf := it_f hf c_6
          refine lv_ldc2d (v := 13830554455654793216) hx hb hown (hts (.constantDouble RX4 262 (13830554455654793216)) (List.mem_cons_of_mem _ (List.mem_append_left _ (List.mem_append_left _ (List.mem_append_left _ (List.mem_append_left _ (List.mem_of_getElem? (i := 2) rfl))))))) dX4_crystalLater_51 ?_
          have hf := Option.some.inj hf
          have q1 := hf
          exact W.dret (v := (13830554455654793216 : UInt64)) hx hb hr (fun t ht hW9 => ⟨⟨(13830554455654793216 : UInt64), (), rfl, q1.symm, trivial⟩, hS.F ht⟩) hS.2.2 dX4_crystalLater_54
  exact L34 200 0 p2 (D (18 + k1) 4) hf _ _ _ hP hS (lv_sub hl [0, 1, 2, 3, 4, 5, 6, 7, 8] rfl)

def f_X4_passHourIn_L36 (D : Nat → Nat → UInt64) (p1 : Int32) (r_3 : UInt64) : Nat → Int32 → (Nat → Nat → Int32) → (Nat → Nat → UInt64) → Option ((Nat → Nat → Int32) × (Nat → Nat → UInt64))
  | 0, _, _, _ => none
  | n36 + 1, x6_36, I_L36, D_L36 => (if (I_L36 0 7) ≤ x6_36 then some (I_L36, D_L36) else ck (inB x6_36 12) ((if (I_L36 (18 + (x6_36).toNatClampNeg) 2) = p1 then ck (inB (I_L36 (18 + (x6_36).toNatClampNeg) 0) 5) (bd (f_X2_coarsening I_L36 D_L36 (((I_L36 (18 + (x6_36).toNatClampNeg) 0)).toNatClampNeg) (D (30 + (p1).toNatClampNeg) 1) r_3) (fun r_11 => ck (okD (FP.dadd (D_L36 (18 + (x6_36).toNatClampNeg) 4) r_11)) (nm (up2 D_L36 (18 + (x6_36).toNatClampNeg) 4 (FP.dadd (D_L36 (18 + (x6_36).toNatClampNeg) 4) r_11)) (fun D_14 => bd (f_X2_meltsAt I_L36 D_14 (((I_L36 (18 + (x6_36).toNatClampNeg) 0)).toNatClampNeg) (D (30 + (p1).toNatClampNeg) 1)) (fun r_15 => (if r_15 = 0 then f_X4_passHourIn_L36 D p1 r_3 n36 (x6_36 + 1) I_L36 D_14 else nm (up2 I_L36 (18 + (x6_36).toNatClampNeg) 2 11) (fun I_18 => f_X4_passHourIn_L36 D p1 r_3 n36 (x6_36 + 1) I_18 D_14))))))) else f_X4_passHourIn_L36 D p1 r_3 n36 (x6_36 + 1) I_L36 D_L36)))
def f_X4_passHourIn (I : Nat → Nat → Int32) (D : Nat → Nat → UInt64) (p1 : Int32) : Option ((Nat → Nat → Int32) × (Nat → Nat → UInt64)) :=
  ck (inB p1 3) (ck (inB p1 3) (bd (f_X3_hourLater I D (p1).toNatClampNeg (D (30 + (p1).toNatClampNeg) 1)) (fun r_3 => ck (inB p1 3) (nm (up2 D (30 + (p1).toNatClampNeg) 1 r_3) (fun D_6 => f_X4_passHourIn_L36 D p1 r_3 200 0 I D_6)))))
theorem iX4_passHourIn_RX0 : ∀ w ∈ u_ws RX0 TX0 5, w ∈ wsX4_passHourIn := fun w h => List.mem_cons_of_mem _ (List.mem_append_left _ (List.mem_append_right _ (h)))
theorem iX4_passHourIn_RX4 : ∀ w ∈ u_ws RX4 TX4 14, w ∈ wsX4_passHourIn := fun w h => List.mem_cons_of_mem _ (List.mem_append_left _ (List.mem_append_left _ (List.mem_append_left _ (List.mem_append_right _ (h)))))
theorem iX4_passHourIn_RX3 : ∀ w ∈ u_ws RX3 TX3 2, w ∈ wsX4_passHourIn := fun w h => List.mem_cons_of_mem _ (List.mem_append_left _ (List.mem_append_left _ (List.mem_append_right _ (h))))
set_option maxHeartbeats 4000000 in
set_option maxRecDepth 100000 in
theorem mt_X4_passHourIn (l : Launch) (dC : Nat → ClassId) (dI : Nat → Nat → Nat) (ad : Nat → Nat) (cy : Nat → ClassId) (hJ : J33 ad) (sz : Nat) (I : Nat → Nat → Int32) (D : Nat → Nat → UInt64) (p1 : Int32) (I9 : Nat → Nat → Int32) (D9 : Nat → Nat → UInt64) (hf : f_X4_passHourIn I D p1 = some (I9, D9)) : Met l yX4_passHourIn wsX4_passHourIn ({ frames := 2, cells := 0, slots := 0, locals := 48 }) (va_Pc [.ref (ad 0), .int p1] (fun U => U.heap.size = sz ∧ hW dC dI ad cy I D U)) (va_Qv (fun (_ : Unit) => True) (fun _ t => hW dC dI ad cy I9 D9 t) (AW ad sz)) 0 0 (AW ad sz) := by
  refine Met.ofW (cc := cX4_passHourIn) (maxL := 9) (ret := none) (by decide) rfl ?_
  intro p e s m args below meth c s₁ B hml hv
  obtain ⟨rfl, hsz, hP, hK, hN⟩ := hv
  have hx := B.exec
  have hb := B.bytes
  have hr := B.returns
  have hts := atoms_spec (ws := wsX4_passHourIn) B.pre
  have hown : s.vm.findClass RX4 = some m.cls := findClass_of_methodNamed B.named
  have hlocks := B.notSynchronized
  subst hsz
  generalize hAe : AW ad s.heap.size = A
  have hA : ∀ q : Nat, s.heap.size ≤ q → A q := fun q h => by rw [← hAe]; exact Or.inr h
  have hA33 : ∀ k, k < 33 → A (ad k) := fun k h => by rw [← hAe]; exact Or.inl ⟨k, h, rfl⟩
  have hDD : ∀ I D, va_D A (iwH ad cy I D) := fun I D => iwH_D hJ hA33 I D
  obtain ⟨H, hH⟩ : ∃ H : Heap, H = s.heap := ⟨_, rfl⟩
  have hS : va_S A s.heap H [] := by rw [hH]; exact va_S.rf
  rw [← hH]
  rw [← hH] at hP
  have hl := lv_entry ([.ref (ad 0), .int p1]) (n := 9) (Nat.le_of_ble_eq_true rfl)
  rw [lg_entry_eq]
  generalize (lg_sl ([.ref (ad 0), .int p1]) ++ List.replicate (9 - (lg_sl ([.ref (ad 0), .int p1])).length) Slot.unset).toArray = ls at hl ⊢
  have hl : lv_has ls 9 [(0, .ref (ad 0)), (1, .int p1)] := hl
  unfold f_X4_passHourIn at hf
  refine lv_aload_n hx hb dX4_passHourIn_0 rfl (lv_at hl 0 rfl) ?_
  refine va_get (D := (dC, dI)) (ci := 4) (v := .ref (ad 4)) (C := RX4) (T := TX4) (N := 14) hx hb hts iX4_passHourIn_RX4 hown hK hP 0 heH_0 rfl 3 (by decide) (hts (.fieldLink RX4 29 "OverrunHouse" "stores" "[LOverrunHouse$Store;") (List.mem_cons_of_mem _ (List.mem_append_left _ (List.mem_append_left _ (List.mem_append_left _ (List.mem_append_left _ (List.mem_of_getElem? (i := 0) rfl))))))) (fun _ h9 => h9) rfl dX4_passHourIn_1 ?_
  refine lv_iload_n hx hb dX4_passHourIn_4 rfl (lv_at hl 1 rfl) ?_
  obtain ⟨h_1, hf⟩ := ck_out hf
  refine wr_aald (b := 30) (n := 3) hx hb hK hP 4 4 heH_4 rfl (inB_in h_1) dX4_passHourIn_5 ?_
  refine va_getN (D := (dC, dI)) (ci := 3) (v := .double (D (30 + (p1).toNatClampNeg) 1)) (C := RX3) (T := TX3) (N := 2) hx hb hts iX4_passHourIn_RX3 hown hK hP (30 + (p1).toNatClampNeg) (heH_Store (inB_lt h_1)) rfl 1 (by decide) (va_Nw.use (w := .fieldLinkNest "OverrunHouse" 156 "OverrunHouse$Store" "degrees" "D" "OverrunHouse") rfl (hN _ (List.mem_of_getElem? (i := 24) rfl))) (fun _ h9 => h9) rfl dX4_passHourIn_6 ?_
  refine lv_dstore_n (lv' := [(2, .double (D (30 + (p1).toNatClampNeg) 1)), (0, .ref (ad 0)), (1, .int p1)]) hx hb dX4_passHourIn_9 rfl hl (by decide) rfl (fun ls hl => ?_)
  refine lv_aload_n hx hb dX4_passHourIn_10 rfl (lv_at hl 1 rfl) ?_
  refine va_get (D := (dC, dI)) (ci := 4) (v := .ref (ad 4)) (C := RX4) (T := TX4) (N := 14) hx hb hts iX4_passHourIn_RX4 hown hK hP 0 heH_0 rfl 3 (by decide) (hts (.fieldLink RX4 29 "OverrunHouse" "stores" "[LOverrunHouse$Store;") (List.mem_cons_of_mem _ (List.mem_append_left _ (List.mem_append_left _ (List.mem_append_left _ (List.mem_append_left _ (List.mem_of_getElem? (i := 0) rfl))))))) (fun _ h9 => h9) rfl dX4_passHourIn_11 ?_
  refine lv_iload_n hx hb dX4_passHourIn_14 rfl (lv_at hl 2 rfl) ?_
  obtain ⟨h_2, hf⟩ := ck_out hf
  refine wr_aald (b := 30) (n := 3) hx hb hK hP 4 4 heH_4 rfl (inB_in h_2) dX4_passHourIn_15 ?_
  refine lv_dload_n hx hb dX4_passHourIn_16 rfl (lv_at hl 0 rfl) ?_
  obtain ⟨r_3, g_4, hf⟩ := bd_out hf
  refine va_calld (va_runVN (As := [.double (D (30 + (p1).toNatClampNeg) 1)]) (rest := []) ⟨hx, hb, hml, hown, hts⟩ (mt_X3_hourLater l dC dI ad cy hJ H.size I D (p1).toNatClampNeg (inB_lt h_2) (D (30 + (p1).toNatClampNeg) 1) r_3 g_4) ⟨va_cnB 1 hts gX4_passHourIn_X3_hourLater_n180 rfl rfl rfl (hN (.methodLinkNest "OverrunHouse" 180 ⟨"OverrunHouse$Store", "hourLater", "(D)D"⟩ "OverrunHouse") (List.mem_of_getElem? (i := 25) rfl)) (hts (.initialized RX3) (List.mem_cons_of_mem _ (List.mem_append_left _ (List.mem_append_left _ (List.mem_append_left _ (List.mem_append_left _ (List.mem_of_getElem? (i := 5) rfl))))))) (by decide +kernel) ⟨Nat.le_of_ble_eq_true rfl, Nat.le_of_ble_eq_true rfl⟩, (hts (.instanceMethod yX3_hourLater) (List.mem_cons_of_mem _ (List.mem_append_left _ (List.mem_append_left _ (List.mem_append_left _ (List.mem_append_left _ (List.mem_of_getElem? (i := 4) rfl))))))), (hts (.selects RX3 yX3_hourLater yX3_hourLater) (List.mem_cons_of_mem _ (List.mem_append_left _ (List.mem_append_left _ (List.mem_append_left _ (List.mem_append_left _ (List.mem_of_getElem? (i := 6) rfl)))))))⟩ ⟨(hW.pre [.ref (ad (30 + (p1).toNatClampNeg)), .double (D (30 + (p1).toNatClampNeg) 1)] hP hK hN).1, hW.recv (C := RX3) (T := TX3) (N := 2) hP hK (heH_Store (inB_lt h_2)) rfl, (hW.pre [.ref (ad (30 + (p1).toNatClampNeg)), .double (D (30 + (p1).toNatClampNeg) 1)] hP hK hN).2⟩ rfl rfl hl.1 rfl (lv_room (Nat.le_of_ble_eq_true rfl)) dX4_passHourIn_17 ⟨Nat.le_of_ble_eq_true rfl, Nat.le_of_ble_eq_true rfl⟩) hS (fun q _ h => hA q (Nat.le_trans hS.1 h)) (fun q h => hA q (Nat.le_trans hS.1 h)) (fun r9 u t H1 locs ht hvm hw hB hz1 hk1 hS => ?_)
  subst hw
  have hP := va_Pnew hP hk1
  clear hB hz1 hk1 hvm ht
  generalize H1 = H at hP hS ⊢
  refine lv_dstore (lv' := [(4, .double r_3), (2, .double (D (30 + (p1).toNatClampNeg) 1)), (0, .ref (ad 0)), (1, .int p1)]) hx hb dX4_passHourIn_20 hl (by decide) rfl (fun ls hl => ?_)
  refine lv_aload_n hx hb dX4_passHourIn_22 rfl (lv_at hl 2 rfl) ?_
  refine va_get (D := (dC, dI)) (ci := 4) (v := .ref (ad 4)) (C := RX4) (T := TX4) (N := 14) hx hb hts iX4_passHourIn_RX4 hown hK hP 0 heH_0 rfl 3 (by decide) (hts (.fieldLink RX4 29 "OverrunHouse" "stores" "[LOverrunHouse$Store;") (List.mem_cons_of_mem _ (List.mem_append_left _ (List.mem_append_left _ (List.mem_append_left _ (List.mem_append_left _ (List.mem_of_getElem? (i := 0) rfl))))))) (fun _ h9 => h9) rfl dX4_passHourIn_23 ?_
  refine lv_iload_n hx hb dX4_passHourIn_26 rfl (lv_at hl 3 rfl) ?_
  obtain ⟨h_5, hf⟩ := ck_out hf
  refine wr_aald (b := 30) (n := 3) hx hb hK hP 4 4 heH_4 rfl (inB_in h_5) dX4_passHourIn_27 ?_
  refine lv_dload hx hb dX4_passHourIn_28 (lv_at hl 0 rfl) ?_
  obtain ⟨D_6, eD_6, hf⟩ := nm_out hf
  refine va_putN (D := (dC, dI)) (ci := 3) (v := .double r_3) (ty := .double) (C := RX3) (T := TX3) (N := 2) hx hb hts iX4_passHourIn_RX3 tyX3 tyX3_ok nmX3 hown hK hP (hDD I D) hS (30 + (p1).toNatClampNeg) (heH_Store (inB_lt h_5)) rfl 1 (by decide) (va_Nw.use (w := .fieldLinkNest "OverrunHouse" 156 "OverrunHouse$Store" "degrees" "D" "OverrunHouse") rfl (hN _ (List.mem_of_getElem? (i := 24) rfl))) (fun _ h9 => h9) rfl (by decide +kernel) rfl rfl (Nat.le_of_ble_eq_true rfl) dX4_passHourIn_30 (fun H locs hP _ hS => ?_)
  have hP : va_P (dC, dI) vwCl (iwH ad cy I D_6) H := by rw [eD_6]; exact hpD (by have := (inB_lt h_5); omega) ((cellH_Store ad cy (inB_lt h_5) _ _).trans rfl) hP
  refine lv_iconst (v := 0) hx hb dX4_passHourIn_33 (by decide) ?_
  refine lv_istore (lv' := [(6, .int 0), (4, .double r_3), (2, .double (D (30 + (p1).toNatClampNeg) 1)), (0, .ref (ad 0)), (1, .int p1)]) hx hb dX4_passHourIn_34 hl (by decide) rfl (fun ls hl => ?_)
  have L36 : ∀ (n36 : Nat) (x6_36 : Int32) (I_L36 : Nat → Nat → Int32) (D_L36 : Nat → Nat → UInt64), f_X4_passHourIn_L36 D p1 r_3 n36 x6_36 I_L36 D_L36 = some (I9, D9) → ∀ (H : Heap) (locs : List Loc) (ls : Array Slot), va_P (dC, dI) vwCl (iwH ad cy I_L36 D_L36) H → va_S A s.heap H locs → lv_has ls 9 [(6, .int x6_36), (4, .double r_3), (2, .double (D (30 + (p1).toNatClampNeg) 1)), (0, .ref (ad 0)), (1, .int p1)] → W p l e (headSpec wsX4_passHourIn ({ frames := 2, cells := 0, slots := 0, locals := 48 })).room s m ([.ref (ad 0), .int p1] : List Value).toArray below meth c H locs 0 0 (MQ below (va_Qv (fun (_ : Unit) => True) (fun _ t => hW dC dI ad cy I9 D9 t) A) ([.ref (ad 0), .int p1] : List Value).toArray s 0 0 A) (F0 m 36 ls []) := by
    intro n36
    induction n36 with
    | zero => intro x6_36 I_L36 D_L36 hf; exact nomatch hf
    | succ n36 ih36 =>
      intro x6_36 I_L36 D_L36 hf H locs ls hP hS hl
      unfold f_X4_passHourIn_L36 at hf
      refine lv_iload hx hb dX4_passHourIn_36 (lv_at hl 0 rfl) ?_
      refine lv_aload_n hx hb dX4_passHourIn_38 rfl (lv_at hl 3 rfl) ?_
      refine va_get (D := (dC, dI)) (ci := 4) (v := .int (I_L36 0 7)) (C := RX4) (T := TX4) (N := 14) hx hb hts iX4_passHourIn_RX4 hown hK hP 0 heH_0 rfl 7 (by decide) (hts (.fieldLink RX4 44 "OverrunHouse" "batchCount" "I") (List.mem_cons_of_mem _ (List.mem_append_left _ (List.mem_append_left _ (List.mem_append_left _ (List.mem_append_left _ (List.mem_of_getElem? (i := 1) rfl))))))) (fun _ h9 => h9) rfl dX4_passHourIn_39 ?_
      refine lv_icmp_ge (tgt := 116) hx hb dX4_passHourIn_42 (by decide) (fun c_7 => ?_) (fun c_7 => ?_)
      · have hf := it_t hf c_7
        have hf := Option.some.inj hf
        obtain ⟨q2, q3⟩ := Prod.mk.inj hf
        rw [q2, q3] at hP
        exact W.vret hx hb hr (fun t ht hW9 => ⟨⟨(), rfl, trivial, hW.of hP hK hN ht hW9⟩, hS.F ht⟩) hS.2.2 dX4_passHourIn_116
      · have hf := it_f hf c_7
        refine lv_aload_n hx hb dX4_passHourIn_45 rfl (lv_at hl 3 rfl) ?_
        refine va_get (D := (dC, dI)) (ci := 4) (v := .ref (ad 3)) (C := RX4) (T := TX4) (N := 14) hx hb hts iX4_passHourIn_RX4 hown hK hP 0 heH_0 rfl 2 (by decide) (hts (.fieldLink RX4 23 "OverrunHouse" "batches" "[LOverrunHouse$Batch;") (List.mem_cons_of_mem _ (List.mem_append_left _ (List.mem_append_left _ (List.mem_append_left _ (List.mem_append_left _ (List.mem_of_getElem? (i := 2) rfl))))))) (fun _ h9 => h9) rfl dX4_passHourIn_46 ?_
        refine lv_iload hx hb dX4_passHourIn_49 (lv_at hl 0 rfl) ?_
        obtain ⟨h_8, hf⟩ := ck_out hf
        refine wr_aald (b := 18) (n := 12) hx hb hK hP 3 3 heH_3 rfl (inB_in h_8) dX4_passHourIn_51 ?_
        refine lv_astore (lv' := [(7, .ref (ad (18 + (x6_36).toNatClampNeg))), (6, .int x6_36), (4, .double r_3), (2, .double (D (30 + (p1).toNatClampNeg) 1)), (0, .ref (ad 0)), (1, .int p1)]) hx hb dX4_passHourIn_52 hl (by decide) rfl (fun ls hl => ?_)
        refine lv_aload hx hb dX4_passHourIn_54 (lv_at hl 0 rfl) ?_
        refine va_getN (D := (dC, dI)) (ci := 0) (v := .int (I_L36 (18 + (x6_36).toNatClampNeg) 2)) (C := RX0) (T := TX0) (N := 5) hx hb hts iX4_passHourIn_RX0 hown hK hP (18 + (x6_36).toNatClampNeg) (heH_Batch (inB_lt h_8)) rfl 2 (by decide) (va_Nw.use (w := .fieldLinkNest "OverrunHouse" 143 "OverrunHouse$Batch" "place" "I" "OverrunHouse") rfl (hN _ (List.mem_of_getElem? (i := 20) rfl))) (fun _ h9 => h9) rfl dX4_passHourIn_56 ?_
        refine lv_iload_n hx hb dX4_passHourIn_59 rfl (lv_at hl 5 rfl) ?_
        refine lv_icmp_ne (tgt := 110) hx hb dX4_passHourIn_60 (by decide) (fun c_9 => ?_) (fun c_9 => ?_)
        · have hf := it_f hf c_9
          refine lv_iinc (v := (x6_36 + 1)) (lv' := [(6, .int (x6_36 + 1)), (7, .ref (ad (18 + (x6_36).toNatClampNeg))), (4, .double r_3), (2, .double (D (30 + (p1).toNatClampNeg) 1)), (0, .ref (ad 0)), (1, .int p1)]) hx hb dX4_passHourIn_110 hl (k := 1) rfl rfl (by decide) rfl (fun ls hl => ?_)
          refine lv_goto (tgt := 36) hx hb dX4_passHourIn_113 (by decide) ?_
          exact ih36 (x6_36 + 1) I_L36 D_L36 hf _ _ _ hP hS (lv_sub hl [0, 2, 3, 4, 5] rfl)
        · have hf := it_t hf c_9
          refine lv_aload_n hx hb dX4_passHourIn_63 rfl (lv_at hl 4 rfl) ?_
          refine va_get (D := (dC, dI)) (ci := 4) (v := .ref (ad 2)) (C := RX4) (T := TX4) (N := 14) hx hb hts iX4_passHourIn_RX4 hown hK hP 0 heH_0 rfl 1 (by decide) (hts (.fieldLink RX4 17 "OverrunHouse" "mixes" "[LOverrunHouse$Mix;") (List.mem_cons_of_mem _ (List.mem_append_left _ (List.mem_append_left _ (List.mem_append_left _ (List.mem_append_left _ (List.mem_of_getElem? (i := 3) rfl))))))) (fun _ h9 => h9) rfl dX4_passHourIn_64 ?_
          refine lv_aload hx hb dX4_passHourIn_67 (lv_at hl 0 rfl) ?_
          refine va_getN (D := (dC, dI)) (ci := 0) (v := .int (I_L36 (18 + (x6_36).toNatClampNeg) 0)) (C := RX0) (T := TX0) (N := 5) hx hb hts iX4_passHourIn_RX0 hown hK hP (18 + (x6_36).toNatClampNeg) (heH_Batch (inB_lt h_8)) rfl 0 (by decide) (va_Nw.use (w := .fieldLinkNest "OverrunHouse" 131 "OverrunHouse$Batch" "mix" "I" "OverrunHouse") rfl (hN _ (List.mem_of_getElem? (i := 18) rfl))) (fun _ h9 => h9) rfl dX4_passHourIn_69 ?_
          obtain ⟨h_10, hf⟩ := ck_out hf
          refine wr_aald (b := 13) (n := 5) hx hb hK hP 2 2 heH_2 rfl (inB_in h_10) dX4_passHourIn_72 ?_
          refine lv_astore (lv' := [(8, .ref (ad (13 + ((I_L36 (18 + (x6_36).toNatClampNeg) 0)).toNatClampNeg))), (7, .ref (ad (18 + (x6_36).toNatClampNeg))), (6, .int x6_36), (4, .double r_3), (2, .double (D (30 + (p1).toNatClampNeg) 1)), (0, .ref (ad 0)), (1, .int p1)]) hx hb dX4_passHourIn_73 hl (by decide) rfl (fun ls hl => ?_)
          refine lv_aload hx hb dX4_passHourIn_75 (lv_at hl 1 rfl) ?_
          refine lv_aload hx hb dX4_passHourIn_77 (lv_at hl 1 rfl) ?_
          refine va_getN (D := (dC, dI)) (ci := 0) (v := .double (D_L36 (18 + (x6_36).toNatClampNeg) 4)) (C := RX0) (T := TX0) (N := 5) hx hb hts iX4_passHourIn_RX0 hown hK hP (18 + (x6_36).toNatClampNeg) (heH_Batch (inB_lt h_8)) rfl 4 (by decide) (va_Nw.use (w := .fieldLinkNest "OverrunHouse" 139 "OverrunHouse$Batch" "crystal" "D" "OverrunHouse") rfl (hN _ (List.mem_of_getElem? (i := 22) rfl))) (fun _ h9 => h9) rfl dX4_passHourIn_79 ?_
          refine lv_aload hx hb dX4_passHourIn_82 (lv_at hl 0 rfl) ?_
          refine lv_dload_n hx hb dX4_passHourIn_84 rfl (lv_at hl 4 rfl) ?_
          refine lv_dload hx hb dX4_passHourIn_85 (lv_at hl 3 rfl) ?_
          obtain ⟨r_11, g_12, hf⟩ := bd_out hf
          refine va_calld (va_runVN (As := [.double (D (30 + (p1).toNatClampNeg) 1), .double r_3]) (rest := [.double (D_L36 (18 + (x6_36).toNatClampNeg) 4), .ref (ad (18 + (x6_36).toNatClampNeg))]) ⟨hx, hb, hml, hown, hts⟩ (mt_X2_coarsening l dC dI ad cy hJ H.size I_L36 D_L36 ((I_L36 (18 + (x6_36).toNatClampNeg) 0)).toNatClampNeg (inB_lt h_10) (D (30 + (p1).toNatClampNeg) 1) r_3 r_11 g_12) ⟨va_cnB 2 hts gX4_passHourIn_X2_coarsening_n184 rfl rfl rfl (hN (.methodLinkNest "OverrunHouse" 184 ⟨"OverrunHouse$Mix", "coarsening", "(DD)D"⟩ "OverrunHouse") (List.mem_of_getElem? (i := 26) rfl)) (hts (.initialized RX2) (List.mem_cons_of_mem _ (List.mem_append_left _ (List.mem_append_left _ (List.mem_append_left _ (List.mem_append_left _ (List.mem_of_getElem? (i := 11) rfl))))))) (by decide +kernel) ⟨Nat.le_of_ble_eq_true rfl, Nat.le_of_ble_eq_true rfl⟩, (hts (.instanceMethod yX2_coarsening) (List.mem_cons_of_mem _ (List.mem_append_left _ (List.mem_append_left _ (List.mem_append_left _ (List.mem_append_left _ (List.mem_of_getElem? (i := 10) rfl))))))), (hts (.selects RX2 yX2_coarsening yX2_coarsening) (List.mem_cons_of_mem _ (List.mem_append_left _ (List.mem_append_left _ (List.mem_append_left _ (List.mem_append_left _ (List.mem_of_getElem? (i := 12) rfl)))))))⟩ ⟨(hW.pre [.ref (ad (13 + ((I_L36 (18 + (x6_36).toNatClampNeg) 0)).toNatClampNeg)), .double (D (30 + (p1).toNatClampNeg) 1), .double r_3] hP hK hN).1, hW.recv (C := RX2) (T := TX2) (N := 12) hP hK (heH_Mix (inB_lt h_10)) rfl, (hW.pre [.ref (ad (13 + ((I_L36 (18 + (x6_36).toNatClampNeg) 0)).toNatClampNeg)), .double (D (30 + (p1).toNatClampNeg) 1), .double r_3] hP hK hN).2⟩ rfl rfl hl.1 rfl (lv_room (Nat.le_of_ble_eq_true rfl)) dX4_passHourIn_87 ⟨Nat.le_of_ble_eq_true rfl, Nat.le_of_ble_eq_true rfl⟩) hS (fun q _ h => hA q (Nat.le_trans hS.1 h)) (fun q h => hA q (Nat.le_trans hS.1 h)) (fun r9 u t H1 locs ht hvm hw hB hz1 hk1 hS => ?_)
          subst hw
          have hP := va_Pnew hP hk1
          clear hB hz1 hk1 hvm ht
          generalize H1 = H at hP hS ⊢
          obtain ⟨h_13, hf⟩ := ck_out hf
          refine lv_dadd hx hb dX4_passHourIn_90 (okD_n h_13) ?_
          obtain ⟨D_14, eD_14, hf⟩ := nm_out hf
          refine va_putN (D := (dC, dI)) (ci := 0) (v := .double (FP.dadd (D_L36 (18 + (x6_36).toNatClampNeg) 4) r_11)) (ty := .double) (C := RX0) (T := TX0) (N := 5) hx hb hts iX4_passHourIn_RX0 tyX0 tyX0_ok nmX0 hown hK hP (hDD I_L36 D_L36) hS (18 + (x6_36).toNatClampNeg) (heH_Batch (inB_lt h_8)) rfl 4 (by decide) (va_Nw.use (w := .fieldLinkNest "OverrunHouse" 139 "OverrunHouse$Batch" "crystal" "D" "OverrunHouse") rfl (hN _ (List.mem_of_getElem? (i := 22) rfl))) (fun _ h9 => h9) rfl (by decide +kernel) rfl rfl (Nat.le_of_ble_eq_true rfl) dX4_passHourIn_91 (fun H locs hP _ hS => ?_)
          have hP : va_P (dC, dI) vwCl (iwH ad cy I_L36 D_14) H := by rw [eD_14]; exact hpD (by have := (inB_lt h_8); omega) ((cellH_Batch ad cy (inB_lt h_8) _ _).trans rfl) hP
          refine lv_aload hx hb dX4_passHourIn_94 (lv_at hl 0 rfl) ?_
          refine lv_dload_n hx hb dX4_passHourIn_96 rfl (lv_at hl 4 rfl) ?_
          obtain ⟨r_15, g_16, hf⟩ := bd_out hf
          refine va_calli (va_runVN (As := [.double (D (30 + (p1).toNatClampNeg) 1)]) (rest := []) ⟨hx, hb, hml, hown, hts⟩ (mt_X2_meltsAt l dC dI ad cy hJ H.size I_L36 D_14 ((I_L36 (18 + (x6_36).toNatClampNeg) 0)).toNatClampNeg (inB_lt h_10) (D (30 + (p1).toNatClampNeg) 1) r_15 g_16) ⟨va_cnB 1 hts gX4_passHourIn_X2_meltsAt_n188 rfl rfl rfl (hN (.methodLinkNest "OverrunHouse" 188 ⟨"OverrunHouse$Mix", "meltsAt", "(D)Z"⟩ "OverrunHouse") (List.mem_of_getElem? (i := 27) rfl)) (hts (.initialized RX2) (List.mem_cons_of_mem _ (List.mem_append_left _ (List.mem_append_left _ (List.mem_append_left _ (List.mem_append_left _ (List.mem_of_getElem? (i := 11) rfl))))))) (by decide +kernel) ⟨Nat.le_of_ble_eq_true rfl, Nat.le_of_ble_eq_true rfl⟩, (hts (.instanceMethod yX2_meltsAt) (List.mem_cons_of_mem _ (List.mem_append_left _ (List.mem_append_left _ (List.mem_append_left _ (List.mem_append_left _ (List.mem_of_getElem? (i := 20) rfl))))))), (hts (.selects RX2 yX2_meltsAt yX2_meltsAt) (List.mem_cons_of_mem _ (List.mem_append_left _ (List.mem_append_left _ (List.mem_append_left _ (List.mem_append_left _ (List.mem_of_getElem? (i := 21) rfl)))))))⟩ ⟨(hW.pre [.ref (ad (13 + ((I_L36 (18 + (x6_36).toNatClampNeg) 0)).toNatClampNeg)), .double (D (30 + (p1).toNatClampNeg) 1)] hP hK hN).1, hW.recv (C := RX2) (T := TX2) (N := 12) hP hK (heH_Mix (inB_lt h_10)) rfl, (hW.pre [.ref (ad (13 + ((I_L36 (18 + (x6_36).toNatClampNeg) 0)).toNatClampNeg)), .double (D (30 + (p1).toNatClampNeg) 1)] hP hK hN).2⟩ rfl rfl hl.1 rfl (lv_room (Nat.le_of_ble_eq_true rfl)) dX4_passHourIn_97 ⟨Nat.le_of_ble_eq_true rfl, Nat.le_of_ble_eq_true rfl⟩) hS (fun q _ h => hA q (Nat.le_trans hS.1 h)) (fun q h => hA q (Nat.le_trans hS.1 h)) (fun r9 u t H1 locs ht hvm hw hB hz1 hk1 hS => ?_)
          subst hw
          have hP := va_Pnew hP hk1
          clear hB hz1 hk1 hvm ht
          generalize H1 = H at hP hS ⊢
          refine lv_if_eq (tgt := 110) hx hb dX4_passHourIn_100 (by decide) (fun c_17 => ?_) (fun c_17 => ?_)
          · have hf := it_t hf c_17
            refine lv_iinc (v := (x6_36 + 1)) (lv' := [(6, .int (x6_36 + 1)), (8, .ref (ad (13 + ((I_L36 (18 + (x6_36).toNatClampNeg) 0)).toNatClampNeg))), (7, .ref (ad (18 + (x6_36).toNatClampNeg))), (4, .double r_3), (2, .double (D (30 + (p1).toNatClampNeg) 1)), (0, .ref (ad 0)), (1, .int p1)]) hx hb dX4_passHourIn_110 hl (k := 2) rfl rfl (by decide) rfl (fun ls hl => ?_)
            refine lv_goto (tgt := 36) hx hb dX4_passHourIn_113 (by decide) ?_
            exact ih36 (x6_36 + 1) I_L36 D_14 hf _ _ _ hP hS (lv_sub hl [0, 3, 4, 5, 6] rfl)
          · have hf := it_f hf c_17
            refine lv_aload hx hb dX4_passHourIn_103 (lv_at hl 1 rfl) ?_
            refine lv_bipush (v := 11) hx hb dX4_passHourIn_105 (by decide) ?_
            obtain ⟨I_18, eI_18, hf⟩ := nm_out hf
            refine va_putN (D := (dC, dI)) (ci := 0) (v := .int 11) (ty := .int) (C := RX0) (T := TX0) (N := 5) hx hb hts iX4_passHourIn_RX0 tyX0 tyX0_ok nmX0 hown hK hP (hDD I_L36 D_14) hS (18 + (x6_36).toNatClampNeg) (heH_Batch (inB_lt h_8)) rfl 2 (by decide) (va_Nw.use (w := .fieldLinkNest "OverrunHouse" 143 "OverrunHouse$Batch" "place" "I" "OverrunHouse") rfl (hN _ (List.mem_of_getElem? (i := 20) rfl))) (fun _ h9 => h9) rfl (by decide +kernel) rfl rfl (Nat.le_of_ble_eq_true rfl) dX4_passHourIn_107 (fun H locs hP _ hS => ?_)
            have hP : va_P (dC, dI) vwCl (iwH ad cy I_18 D_14) H := by rw [eI_18]; exact hpI (by have := (inB_lt h_8); omega) ((cellH_Batch ad cy (inB_lt h_8) _ _).trans rfl) hP
            refine lv_iinc (v := (x6_36 + 1)) (lv' := [(6, .int (x6_36 + 1)), (8, .ref (ad (13 + ((I_L36 (18 + (x6_36).toNatClampNeg) 0)).toNatClampNeg))), (7, .ref (ad (18 + (x6_36).toNatClampNeg))), (4, .double r_3), (2, .double (D (30 + (p1).toNatClampNeg) 1)), (0, .ref (ad 0)), (1, .int p1)]) hx hb dX4_passHourIn_110 hl (k := 2) rfl rfl (by decide) rfl (fun ls hl => ?_)
            refine lv_goto (tgt := 36) hx hb dX4_passHourIn_113 (by decide) ?_
            exact ih36 (x6_36 + 1) I_18 D_14 hf _ _ _ hP hS (lv_sub hl [0, 3, 4, 5, 6] rfl)
  exact L36 200 0 I D_6 hf _ _ _ hP hS (lv_sub hl [0, 1, 2, 3, 4] rfl)

def f_X4_passHour_L85 : Nat → Int32 → (Nat → Nat → Int32) → (Nat → Nat → UInt64) → Option ((Nat → Nat → Int32) × (Nat → Nat → UInt64))
  | 0, _, _, _ => none
  | n85 + 1, x1_85, I_L85, D_L85 => (if (I_L85 0 8) ≤ x1_85 then nm (up2 I_L85 0 9 ((I_L85 0 9) + 1)) (fun I_4 => some (I_4, D_L85)) else bd (f_X4_passHourIn I_L85 D_L85 x1_85) (fun (I_7, D_8) => f_X4_passHour_L85  n85 (x1_85 + 1) I_7 D_8))
def f_X4_passHour_L33 : Nat → Int32 → (Nat → Nat → Int32) → (Nat → Nat → UInt64) → Option ((Nat → Nat → Int32) × (Nat → Nat → UInt64))
  | 0, _, _, _ => none
  | n33 + 1, x1_33, I_L33, D_L33 => (if (I_L33 0 7) ≤ x1_33 then f_X4_passHour_L85  200 0 I_L33 D_L33 else ck (inB x1_33 12) ((if (I_L33 (18 + (x1_33).toNatClampNeg) 2) = (-1) then ck (inB x1_33 12) ((if (I_L33 (18 + (x1_33).toNatClampNeg) 3) = 0 then ck (inB x1_33 12) (nm (up2 I_L33 (18 + (x1_33).toNatClampNeg) 2 11) (fun I_14 => f_X4_passHour_L33  n33 (x1_33 + 1) I_14 D_L33)) else f_X4_passHour_L33  n33 (x1_33 + 1) I_L33 D_L33)) else f_X4_passHour_L33  n33 (x1_33 + 1) I_L33 D_L33)))
def f_X4_passHour_L2 : Nat → Int32 → (Nat → Nat → Int32) → (Nat → Nat → UInt64) → Option ((Nat → Nat → Int32) × (Nat → Nat → UInt64))
  | 0, _, _, _ => none
  | n2 + 1, x1_2, I_L2, D_L2 => (if (I_L2 0 6) ≤ x1_2 then f_X4_passHour_L33  200 0 I_L2 D_L2 else ck (inB x1_2 5) (nm (up2 I_L2 (13 + (x1_2).toNatClampNeg) 8 ((I_L2 (13 + (x1_2).toNatClampNeg) 8) + 1)) (fun I_16 => f_X4_passHour_L2  n2 (x1_2 + 1) I_16 D_L2)))
def f_X4_passHour (I : Nat → Nat → Int32) (D : Nat → Nat → UInt64) : Option ((Nat → Nat → Int32) × (Nat → Nat → UInt64)) :=
  f_X4_passHour_L2  200 0 I D
theorem iX4_passHour_RX0 : ∀ w ∈ u_ws RX0 TX0 5, w ∈ wsX4_passHour := fun w h => List.mem_cons_of_mem _ (List.mem_append_left _ (List.mem_append_right _ (h)))
theorem iX4_passHour_RX4 : ∀ w ∈ u_ws RX4 TX4 14, w ∈ wsX4_passHour := fun w h => List.mem_cons_of_mem _ (List.mem_append_left _ (List.mem_append_left _ (List.mem_append_left _ (List.mem_append_right _ (h)))))
theorem iX4_passHour_RX2 : ∀ w ∈ u_ws RX2 TX2 12, w ∈ wsX4_passHour := fun w h => List.mem_cons_of_mem _ (List.mem_append_left _ (List.mem_append_left _ (List.mem_append_right _ (h))))
set_option maxHeartbeats 4000000 in
set_option maxRecDepth 100000 in
theorem mt_X4_passHour (l : Launch) (dC : Nat → ClassId) (dI : Nat → Nat → Nat) (ad : Nat → Nat) (cy : Nat → ClassId) (hJ : J33 ad) (sz : Nat) (I : Nat → Nat → Int32) (D : Nat → Nat → UInt64) (I9 : Nat → Nat → Int32) (D9 : Nat → Nat → UInt64) (hf : f_X4_passHour I D = some (I9, D9)) : Met l yX4_passHour wsX4_passHour ({ frames := 3, cells := 0, slots := 0, locals := 76 }) (va_Pc [.ref (ad 0)] (fun U => U.heap.size = sz ∧ hW dC dI ad cy I D U)) (va_Qv (fun (_ : Unit) => True) (fun _ t => hW dC dI ad cy I9 D9 t) (AW ad sz)) 0 0 (AW ad sz) := by
  refine Met.ofW (cc := cX4_passHour) (maxL := 2) (ret := none) (by decide) rfl ?_
  intro p e s m args below meth c s₁ B hml hv
  obtain ⟨rfl, hsz, hP, hK, hN⟩ := hv
  have hx := B.exec
  have hb := B.bytes
  have hr := B.returns
  have hts := atoms_spec (ws := wsX4_passHour) B.pre
  have hown : s.vm.findClass RX4 = some m.cls := findClass_of_methodNamed B.named
  have hlocks := B.notSynchronized
  subst hsz
  generalize hAe : AW ad s.heap.size = A
  have hA : ∀ q : Nat, s.heap.size ≤ q → A q := fun q h => by rw [← hAe]; exact Or.inr h
  have hA33 : ∀ k, k < 33 → A (ad k) := fun k h => by rw [← hAe]; exact Or.inl ⟨k, h, rfl⟩
  have hDD : ∀ I D, va_D A (iwH ad cy I D) := fun I D => iwH_D hJ hA33 I D
  obtain ⟨H, hH⟩ : ∃ H : Heap, H = s.heap := ⟨_, rfl⟩
  have hS : va_S A s.heap H [] := by rw [hH]; exact va_S.rf
  rw [← hH]
  rw [← hH] at hP
  have hl := lv_entry ([.ref (ad 0)]) (n := 2) (Nat.le_of_ble_eq_true rfl)
  rw [lg_entry_eq]
  generalize (lg_sl ([.ref (ad 0)]) ++ List.replicate (2 - (lg_sl ([.ref (ad 0)])).length) Slot.unset).toArray = ls at hl ⊢
  have hl : lv_has ls 2 [(0, .ref (ad 0))] := hl
  unfold f_X4_passHour at hf
  refine lv_iconst (v := 0) hx hb dX4_passHour_0 (by decide) ?_
  refine lv_istore_n (lv' := [(1, .int 0), (0, .ref (ad 0))]) hx hb dX4_passHour_1 rfl hl (by decide) rfl (fun ls hl => ?_)
  have L2 : ∀ (n2 : Nat) (x1_2 : Int32) (I_L2 : Nat → Nat → Int32) (D_L2 : Nat → Nat → UInt64), f_X4_passHour_L2 n2 x1_2 I_L2 D_L2 = some (I9, D9) → ∀ (H : Heap) (locs : List Loc) (ls : Array Slot), va_P (dC, dI) vwCl (iwH ad cy I_L2 D_L2) H → va_S A s.heap H locs → lv_has ls 2 [(1, .int x1_2), (0, .ref (ad 0))] → W p l e (headSpec wsX4_passHour ({ frames := 3, cells := 0, slots := 0, locals := 76 })).room s m ([.ref (ad 0)] : List Value).toArray below meth c H locs 0 0 (MQ below (va_Qv (fun (_ : Unit) => True) (fun _ t => hW dC dI ad cy I9 D9 t) A) ([.ref (ad 0)] : List Value).toArray s 0 0 A) (F0 m 2 ls []) := by
    intro n2
    induction n2 with
    | zero => intro x1_2 I_L2 D_L2 hf; exact nomatch hf
    | succ n2 ih2 =>
      intro x1_2 I_L2 D_L2 hf H locs ls hP hS hl
      unfold f_X4_passHour_L2 at hf
      refine lv_iload_n hx hb dX4_passHour_2 rfl (lv_at hl 0 rfl) ?_
      refine lv_aload_n hx hb dX4_passHour_3 rfl (lv_at hl 1 rfl) ?_
      refine va_get (D := (dC, dI)) (ci := 4) (v := .int (I_L2 0 6)) (C := RX4) (T := TX4) (N := 14) hx hb hts iX4_passHour_RX4 hown hK hP 0 heH_0 rfl 6 (by decide) (hts (.fieldLink RX4 41 "OverrunHouse" "mixCount" "I") (List.mem_cons_of_mem _ (List.mem_append_left _ (List.mem_append_left _ (List.mem_append_left _ (List.mem_append_left _ (List.mem_append_left _ (List.mem_of_getElem? (i := 0) rfl)))))))) (fun _ h9 => h9) rfl dX4_passHour_4 ?_
      refine lv_icmp_ge (tgt := 31) hx hb dX4_passHour_7 (by decide) (fun c_1 => ?_) (fun c_1 => ?_)
      · have hf := it_t hf c_1
        refine lv_iconst (v := 0) hx hb dX4_passHour_31 (by decide) ?_
        refine lv_istore_n (lv' := [(1, .int 0), (0, .ref (ad 0))]) hx hb dX4_passHour_32 rfl hl (by decide) rfl (fun ls hl => ?_)
        have L33 : ∀ (n33 : Nat) (x1_33 : Int32) (I_L33 : Nat → Nat → Int32) (D_L33 : Nat → Nat → UInt64), f_X4_passHour_L33 n33 x1_33 I_L33 D_L33 = some (I9, D9) → ∀ (H : Heap) (locs : List Loc) (ls : Array Slot), va_P (dC, dI) vwCl (iwH ad cy I_L33 D_L33) H → va_S A s.heap H locs → lv_has ls 2 [(1, .int x1_33), (0, .ref (ad 0))] → W p l e (headSpec wsX4_passHour ({ frames := 3, cells := 0, slots := 0, locals := 76 })).room s m ([.ref (ad 0)] : List Value).toArray below meth c H locs 0 0 (MQ below (va_Qv (fun (_ : Unit) => True) (fun _ t => hW dC dI ad cy I9 D9 t) A) ([.ref (ad 0)] : List Value).toArray s 0 0 A) (F0 m 33 ls []) := by
          intro n33
          induction n33 with
          | zero => intro x1_33 I_L33 D_L33 hf; exact nomatch hf
          | succ n33 ih33 =>
            intro x1_33 I_L33 D_L33 hf H locs ls hP hS hl
            unfold f_X4_passHour_L33 at hf
            refine lv_iload_n hx hb dX4_passHour_33 rfl (lv_at hl 0 rfl) ?_
            refine lv_aload_n hx hb dX4_passHour_34 rfl (lv_at hl 1 rfl) ?_
            refine va_get (D := (dC, dI)) (ci := 4) (v := .int (I_L33 0 7)) (C := RX4) (T := TX4) (N := 14) hx hb hts iX4_passHour_RX4 hown hK hP 0 heH_0 rfl 7 (by decide) (hts (.fieldLink RX4 44 "OverrunHouse" "batchCount" "I") (List.mem_cons_of_mem _ (List.mem_append_left _ (List.mem_append_left _ (List.mem_append_left _ (List.mem_append_left _ (List.mem_append_left _ (List.mem_of_getElem? (i := 2) rfl)))))))) (fun _ h9 => h9) rfl dX4_passHour_35 ?_
            refine lv_icmp_ge (tgt := 83) hx hb dX4_passHour_38 (by decide) (fun c_2 => ?_) (fun c_2 => ?_)
            · have hf := it_t hf c_2
              refine lv_iconst (v := 0) hx hb dX4_passHour_83 (by decide) ?_
              refine lv_istore_n (lv' := [(1, .int 0), (0, .ref (ad 0))]) hx hb dX4_passHour_84 rfl hl (by decide) rfl (fun ls hl => ?_)
              have L85 : ∀ (n85 : Nat) (x1_85 : Int32) (I_L85 : Nat → Nat → Int32) (D_L85 : Nat → Nat → UInt64), f_X4_passHour_L85 n85 x1_85 I_L85 D_L85 = some (I9, D9) → ∀ (H : Heap) (locs : List Loc) (ls : Array Slot), va_P (dC, dI) vwCl (iwH ad cy I_L85 D_L85) H → va_S A s.heap H locs → lv_has ls 2 [(1, .int x1_85), (0, .ref (ad 0))] → W p l e (headSpec wsX4_passHour ({ frames := 3, cells := 0, slots := 0, locals := 76 })).room s m ([.ref (ad 0)] : List Value).toArray below meth c H locs 0 0 (MQ below (va_Qv (fun (_ : Unit) => True) (fun _ t => hW dC dI ad cy I9 D9 t) A) ([.ref (ad 0)] : List Value).toArray s 0 0 A) (F0 m 85 ls []) := by
                intro n85
                induction n85 with
                | zero => intro x1_85 I_L85 D_L85 hf; exact nomatch hf
                | succ n85 ih85 =>
                  intro x1_85 I_L85 D_L85 hf H locs ls hP hS hl
                  unfold f_X4_passHour_L85 at hf
                  refine lv_iload_n hx hb dX4_passHour_85 rfl (lv_at hl 0 rfl) ?_
                  refine lv_aload_n hx hb dX4_passHour_86 rfl (lv_at hl 1 rfl) ?_
                  refine va_get (D := (dC, dI)) (ci := 4) (v := .int (I_L85 0 8)) (C := RX4) (T := TX4) (N := 14) hx hb hts iX4_passHour_RX4 hown hK hP 0 heH_0 rfl 8 (by decide) (hts (.fieldLink RX4 47 "OverrunHouse" "storeCount" "I") (List.mem_cons_of_mem _ (List.mem_append_left _ (List.mem_append_left _ (List.mem_append_left _ (List.mem_append_left _ (List.mem_append_left _ (List.mem_of_getElem? (i := 4) rfl)))))))) (fun _ h9 => h9) rfl dX4_passHour_87 ?_
                  refine lv_icmp_ge (tgt := 104) hx hb dX4_passHour_90 (by decide) (fun c_3 => ?_) (fun c_3 => ?_)
                  · have hf := it_t hf c_3
                    refine lv_aload_n hx hb dX4_passHour_104 rfl (lv_at hl 1 rfl) ?_
                    refine lv_dup hx hb dX4_passHour_105 rfl ?_
                    refine va_get (D := (dC, dI)) (ci := 4) (v := .int (I_L85 0 9)) (C := RX4) (T := TX4) (N := 14) hx hb hts iX4_passHour_RX4 hown hK hP 0 heH_0 rfl 9 (by decide) (hts (.fieldLink RX4 50 "OverrunHouse" "hoursEver" "I") (List.mem_cons_of_mem _ (List.mem_append_left _ (List.mem_append_left _ (List.mem_append_left _ (List.mem_append_left _ (List.mem_append_left _ (List.mem_of_getElem? (i := 5) rfl)))))))) (fun _ h9 => h9) rfl dX4_passHour_106 ?_
                    refine lv_iconst (v := 1) hx hb dX4_passHour_109 (by decide) ?_
                    refine lv_iadd hx hb dX4_passHour_110 ?_
                    obtain ⟨I_4, eI_4, hf⟩ := nm_out hf
                    refine va_put (D := (dC, dI)) (ci := 4) (v := .int ((I_L85 0 9) + 1)) (ty := .int) (C := RX4) (T := TX4) (N := 14) hx hb hts iX4_passHour_RX4 tyX4 tyX4_ok nmX4 hown hK hP (hDD I_L85 D_L85) hS 0 heH_0 rfl 9 (by decide) (hts (.fieldLink RX4 50 "OverrunHouse" "hoursEver" "I") (List.mem_cons_of_mem _ (List.mem_append_left _ (List.mem_append_left _ (List.mem_append_left _ (List.mem_append_left _ (List.mem_append_left _ (List.mem_of_getElem? (i := 5) rfl)))))))) (fun _ h9 => h9) rfl (by decide +kernel) rfl rfl (Nat.le_of_ble_eq_true rfl) dX4_passHour_111 (fun H locs hP _ hS => ?_)
                    have hP : va_P (dC, dI) vwCl (iwH ad cy I_4 D_L85) H := by rw [eI_4]; exact hpI (by decide) ((cellH_0 ad cy _ _).trans rfl) hP
                    have hf := Option.some.inj hf
                    obtain ⟨q2, q3⟩ := Prod.mk.inj hf
                    rw [q2, q3] at hP
                    exact W.vret hx hb hr (fun t ht hW9 => ⟨⟨(), rfl, trivial, hW.of hP hK hN ht hW9⟩, hS.F ht⟩) hS.2.2 dX4_passHour_114
                  · have hf := it_f hf c_3
                    refine lv_aload_n hx hb dX4_passHour_93 rfl (lv_at hl 1 rfl) ?_
                    refine lv_iload_n hx hb dX4_passHour_94 rfl (lv_at hl 0 rfl) ?_
                    obtain ⟨⟨I_7, D_8⟩, g_6, hf⟩ := bd_out hf
                    have hAW : ∀ q, AW ad H.size q → A q := fun q h => h.elim (fun ⟨k, k1, k2⟩ => k2 ▸ hA33 k k1) (fun h => hA q (Nat.le_trans hS.1 h))
                    refine va_callv (va_runV (As := [.int x1_85]) (rest := []) ⟨hx, hb, hml, hown, hts⟩ (mt_X4_passHourIn l dC dI ad cy hJ H.size I_L85 D_L85 x1_85 I_7 D_8 g_6) (cwV 1 hts gX4_passHour_X4_passHourIn rfl rfl rfl (by decide +kernel) ⟨Nat.le_of_ble_eq_true rfl, Nat.le_of_ble_eq_true rfl⟩) ⟨(hW.pre [.ref (ad 0), .int x1_85] hP hK hN).1, hW.recv (C := RX4) (T := TX4) (N := 14) hP hK heH_0 rfl, (hW.pre [.ref (ad 0), .int x1_85] hP hK hN).2⟩ rfl rfl hl.1 rfl (lv_room (Nat.le_of_ble_eq_true rfl)) dX4_passHour_95 ⟨Nat.le_of_ble_eq_true rfl, Nat.le_of_ble_eq_true rfl⟩) hS (fun q _ h => hAW q h) (fun q h => hAW q h) (fun u t H1 locs ht hvm hw hB hz1 hk1 hS => ?_)
                    have hP : va_P (dC, dI) vwCl (iwH ad cy I_7 D_8) H1 := by rw [← ht]; exact hB.1
                    clear hB hz1 hk1 hvm ht
                    generalize H1 = H at hP hS ⊢
                    refine lv_iinc (v := (x1_85 + 1)) (lv' := [(1, .int (x1_85 + 1)), (0, .ref (ad 0))]) hx hb dX4_passHour_98 hl (k := 0) rfl rfl (by decide) rfl (fun ls hl => ?_)
                    refine lv_goto (tgt := 85) hx hb dX4_passHour_101 (by decide) ?_
                    exact ih85 (x1_85 + 1) I_7 D_8 hf _ _ _ hP hS (lv_sub hl [0, 1] rfl)
              exact L85 200 0 I_L33 D_L33 hf _ _ _ hP hS (lv_sub hl [0, 1] rfl)
            · have hf := it_f hf c_2
              refine lv_aload_n hx hb dX4_passHour_41 rfl (lv_at hl 1 rfl) ?_
              refine va_get (D := (dC, dI)) (ci := 4) (v := .ref (ad 3)) (C := RX4) (T := TX4) (N := 14) hx hb hts iX4_passHour_RX4 hown hK hP 0 heH_0 rfl 2 (by decide) (hts (.fieldLink RX4 23 "OverrunHouse" "batches" "[LOverrunHouse$Batch;") (List.mem_cons_of_mem _ (List.mem_append_left _ (List.mem_append_left _ (List.mem_append_left _ (List.mem_append_left _ (List.mem_append_left _ (List.mem_of_getElem? (i := 3) rfl)))))))) (fun _ h9 => h9) rfl dX4_passHour_42 ?_
              refine lv_iload_n hx hb dX4_passHour_45 rfl (lv_at hl 0 rfl) ?_
              obtain ⟨h_9, hf⟩ := ck_out hf
              refine wr_aald (b := 18) (n := 12) hx hb hK hP 3 3 heH_3 rfl (inB_in h_9) dX4_passHour_46 ?_
              refine va_getN (D := (dC, dI)) (ci := 0) (v := .int (I_L33 (18 + (x1_33).toNatClampNeg) 2)) (C := RX0) (T := TX0) (N := 5) hx hb hts iX4_passHour_RX0 hown hK hP (18 + (x1_33).toNatClampNeg) (heH_Batch (inB_lt h_9)) rfl 2 (by decide) (va_Nw.use (w := .fieldLinkNest "OverrunHouse" 143 "OverrunHouse$Batch" "place" "I" "OverrunHouse") rfl (hN _ (List.mem_of_getElem? (i := 20) rfl))) (fun _ h9 => h9) rfl dX4_passHour_47 ?_
              refine lv_iconst (v := (-1)) hx hb dX4_passHour_50 (by decide) ?_
              refine lv_icmp_ne (tgt := 77) hx hb dX4_passHour_51 (by decide) (fun c_10 => ?_) (fun c_10 => ?_)
              · have hf := it_f hf c_10
                refine lv_iinc (v := (x1_33 + 1)) (lv' := [(1, .int (x1_33 + 1)), (0, .ref (ad 0))]) hx hb dX4_passHour_77 hl (k := 0) rfl rfl (by decide) rfl (fun ls hl => ?_)
                refine lv_goto (tgt := 33) hx hb dX4_passHour_80 (by decide) ?_
                exact ih33 (x1_33 + 1) I_L33 D_L33 hf _ _ _ hP hS (lv_sub hl [0, 1] rfl)
              · have hf := it_t hf c_10
                refine lv_aload_n hx hb dX4_passHour_54 rfl (lv_at hl 1 rfl) ?_
                refine va_get (D := (dC, dI)) (ci := 4) (v := .ref (ad 3)) (C := RX4) (T := TX4) (N := 14) hx hb hts iX4_passHour_RX4 hown hK hP 0 heH_0 rfl 2 (by decide) (hts (.fieldLink RX4 23 "OverrunHouse" "batches" "[LOverrunHouse$Batch;") (List.mem_cons_of_mem _ (List.mem_append_left _ (List.mem_append_left _ (List.mem_append_left _ (List.mem_append_left _ (List.mem_append_left _ (List.mem_of_getElem? (i := 3) rfl)))))))) (fun _ h9 => h9) rfl dX4_passHour_55 ?_
                refine lv_iload_n hx hb dX4_passHour_58 rfl (lv_at hl 0 rfl) ?_
                obtain ⟨h_11, hf⟩ := ck_out hf
                refine wr_aald (b := 18) (n := 12) hx hb hK hP 3 3 heH_3 rfl (inB_in h_11) dX4_passHour_59 ?_
                refine va_getN (D := (dC, dI)) (ci := 0) (v := .int (I_L33 (18 + (x1_33).toNatClampNeg) 3)) (C := RX0) (T := TX0) (N := 5) hx hb hts iX4_passHour_RX0 hown hK hP (18 + (x1_33).toNatClampNeg) (heH_Batch (inB_lt h_11)) rfl 3 (by decide) (va_Nw.use (w := .fieldLinkNest "OverrunHouse" 146 "OverrunHouse$Batch" "isHard" "Z" "OverrunHouse") rfl (hN _ (List.mem_of_getElem? (i := 21) rfl))) (fun _ h9 => h9) rfl dX4_passHour_60 ?_
                refine lv_if_ne (tgt := 77) hx hb dX4_passHour_63 (by decide) (fun c_12 => ?_) (fun c_12 => ?_)
                · have hf := it_f hf c_12
                  refine lv_iinc (v := (x1_33 + 1)) (lv' := [(1, .int (x1_33 + 1)), (0, .ref (ad 0))]) hx hb dX4_passHour_77 hl (k := 0) rfl rfl (by decide) rfl (fun ls hl => ?_)
                  refine lv_goto (tgt := 33) hx hb dX4_passHour_80 (by decide) ?_
                  exact ih33 (x1_33 + 1) I_L33 D_L33 hf _ _ _ hP hS (lv_sub hl [0, 1] rfl)
                · have hf := it_t hf c_12
                  refine lv_aload_n hx hb dX4_passHour_66 rfl (lv_at hl 1 rfl) ?_
                  refine va_get (D := (dC, dI)) (ci := 4) (v := .ref (ad 3)) (C := RX4) (T := TX4) (N := 14) hx hb hts iX4_passHour_RX4 hown hK hP 0 heH_0 rfl 2 (by decide) (hts (.fieldLink RX4 23 "OverrunHouse" "batches" "[LOverrunHouse$Batch;") (List.mem_cons_of_mem _ (List.mem_append_left _ (List.mem_append_left _ (List.mem_append_left _ (List.mem_append_left _ (List.mem_append_left _ (List.mem_of_getElem? (i := 3) rfl)))))))) (fun _ h9 => h9) rfl dX4_passHour_67 ?_
                  refine lv_iload_n hx hb dX4_passHour_70 rfl (lv_at hl 0 rfl) ?_
                  obtain ⟨h_13, hf⟩ := ck_out hf
                  refine wr_aald (b := 18) (n := 12) hx hb hK hP 3 3 heH_3 rfl (inB_in h_13) dX4_passHour_71 ?_
                  refine lv_bipush (v := 11) hx hb dX4_passHour_72 (by decide) ?_
                  obtain ⟨I_14, eI_14, hf⟩ := nm_out hf
                  refine va_putN (D := (dC, dI)) (ci := 0) (v := .int 11) (ty := .int) (C := RX0) (T := TX0) (N := 5) hx hb hts iX4_passHour_RX0 tyX0 tyX0_ok nmX0 hown hK hP (hDD I_L33 D_L33) hS (18 + (x1_33).toNatClampNeg) (heH_Batch (inB_lt h_13)) rfl 2 (by decide) (va_Nw.use (w := .fieldLinkNest "OverrunHouse" 143 "OverrunHouse$Batch" "place" "I" "OverrunHouse") rfl (hN _ (List.mem_of_getElem? (i := 20) rfl))) (fun _ h9 => h9) rfl (by decide +kernel) rfl rfl (Nat.le_of_ble_eq_true rfl) dX4_passHour_74 (fun H locs hP _ hS => ?_)
                  have hP : va_P (dC, dI) vwCl (iwH ad cy I_14 D_L33) H := by rw [eI_14]; exact hpI (by have := (inB_lt h_13); omega) ((cellH_Batch ad cy (inB_lt h_13) _ _).trans rfl) hP
                  refine lv_iinc (v := (x1_33 + 1)) (lv' := [(1, .int (x1_33 + 1)), (0, .ref (ad 0))]) hx hb dX4_passHour_77 hl (k := 0) rfl rfl (by decide) rfl (fun ls hl => ?_)
                  refine lv_goto (tgt := 33) hx hb dX4_passHour_80 (by decide) ?_
                  exact ih33 (x1_33 + 1) I_14 D_L33 hf _ _ _ hP hS (lv_sub hl [0, 1] rfl)
        exact L33 200 0 I_L2 D_L2 hf _ _ _ hP hS (lv_sub hl [0, 1] rfl)
      · have hf := it_f hf c_1
        refine lv_aload_n hx hb dX4_passHour_10 rfl (lv_at hl 1 rfl) ?_
        refine va_get (D := (dC, dI)) (ci := 4) (v := .ref (ad 2)) (C := RX4) (T := TX4) (N := 14) hx hb hts iX4_passHour_RX4 hown hK hP 0 heH_0 rfl 1 (by decide) (hts (.fieldLink RX4 17 "OverrunHouse" "mixes" "[LOverrunHouse$Mix;") (List.mem_cons_of_mem _ (List.mem_append_left _ (List.mem_append_left _ (List.mem_append_left _ (List.mem_append_left _ (List.mem_append_left _ (List.mem_of_getElem? (i := 1) rfl)))))))) (fun _ h9 => h9) rfl dX4_passHour_11 ?_
        refine lv_iload_n hx hb dX4_passHour_14 rfl (lv_at hl 0 rfl) ?_
        obtain ⟨h_15, hf⟩ := ck_out hf
        refine wr_aald (b := 13) (n := 5) hx hb hK hP 2 2 heH_2 rfl (inB_in h_15) dX4_passHour_15 ?_
        refine lv_dup hx hb dX4_passHour_16 rfl ?_
        refine va_getN (D := (dC, dI)) (ci := 2) (v := .int (I_L2 (13 + (x1_2).toNatClampNeg) 8)) (C := RX2) (T := TX2) (N := 12) hx hb hts iX4_passHour_RX2 hown hK hP (13 + (x1_2).toNatClampNeg) (heH_Mix (inB_lt h_15)) rfl 8 (by decide) (va_Nw.use (w := .fieldLinkNest "OverrunHouse" 120 "OverrunHouse$Mix" "age" "I" "OverrunHouse") rfl (hN _ (List.mem_of_getElem? (i := 15) rfl))) (fun _ h9 => h9) rfl dX4_passHour_17 ?_
        refine lv_iconst (v := 1) hx hb dX4_passHour_20 (by decide) ?_
        refine lv_iadd hx hb dX4_passHour_21 ?_
        obtain ⟨I_16, eI_16, hf⟩ := nm_out hf
        refine va_putN (D := (dC, dI)) (ci := 2) (v := .int ((I_L2 (13 + (x1_2).toNatClampNeg) 8) + 1)) (ty := .int) (C := RX2) (T := TX2) (N := 12) hx hb hts iX4_passHour_RX2 tyX2 tyX2_ok nmX2 hown hK hP (hDD I_L2 D_L2) hS (13 + (x1_2).toNatClampNeg) (heH_Mix (inB_lt h_15)) rfl 8 (by decide) (va_Nw.use (w := .fieldLinkNest "OverrunHouse" 120 "OverrunHouse$Mix" "age" "I" "OverrunHouse") rfl (hN _ (List.mem_of_getElem? (i := 15) rfl))) (fun _ h9 => h9) rfl (by decide +kernel) rfl rfl (Nat.le_of_ble_eq_true rfl) dX4_passHour_22 (fun H locs hP _ hS => ?_)
        have hP : va_P (dC, dI) vwCl (iwH ad cy I_16 D_L2) H := by rw [eI_16]; exact hpI (by have := (inB_lt h_15); omega) ((cellH_Mix ad cy (inB_lt h_15) _ _).trans rfl) hP
        refine lv_iinc (v := (x1_2 + 1)) (lv' := [(1, .int (x1_2 + 1)), (0, .ref (ad 0))]) hx hb dX4_passHour_25 hl (k := 0) rfl rfl (by decide) rfl (fun ls hl => ?_)
        refine lv_goto (tgt := 2) hx hb dX4_passHour_28 (by decide) ?_
        exact ih2 (x1_2 + 1) I_16 D_L2 hf _ _ _ hP hS (lv_sub hl [0, 1] rfl)
  exact L2 200 0 I D hf _ _ _ hP hS (lv_sub hl [0, 1] rfl)
