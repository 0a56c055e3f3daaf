def f_X5_hour_L84 (rec45 : Int32 → (Nat → Nat → Int32) → (Nat → Nat → UInt64) → Option ((Nat → Nat → Int32) × (Nat → Nat → UInt64))) (a : Nat) (b : Nat) (kb : Nat) (x1_45 : Int32) (D_L45 : Nat → Nat → UInt64) : Nat → Int32 → (Nat → Nat → Int32) → (Nat → Nat → UInt64) → Option ((Nat → Nat → Int32) × (Nat → Nat → UInt64))
  | 0, _, _, _ => none
  | n84 + 1, x4_84, I_L84, D_L84 => (if (I_L84 kb 0) ≤ x4_84 then rec45 (x1_45 + 1) I_L84 D_L84 else ck (inB x4_84 12) ((if (I_L84 (kb + 4) (x4_84).toNatClampNeg) = x1_45 then ck (inB x4_84 12) (bd (f_get2 a b I_L84 D_L84 (I_L84 (kb + 1) (x4_84).toNatClampNeg)) (fun r_29 => ck (inB x4_84 12) (bd (f_X6_ice a b I_L84 D_L84 r_29 (D_L45 (kb + 7) (x1_45).toNatClampNeg)) (fun r_36 => ck (inB x1_45 3) (bd (f_X6_ice a b I_L84 D_L84 r_29 (D_L84 (kb + 7) (x1_45).toNatClampNeg)) (fun r_42 => ck (okD (FP.dsub r_36 r_42)) (bd (f_J9_abs_294c1 (FP.dsub r_36 r_42)) (fun r_46 => ck (okD (FP.dmul (4627448617123184640 : UInt64) r_46)) (ck (okD (FP.dadd (D_L84 (kb + 5) (x4_84).toNatClampNeg) (FP.dmul (4627448617123184640 : UInt64) r_46))) (ck (inB x4_84 12) (nm (up2 D_L84 (kb + 5) (x4_84).toNatClampNeg (FP.dadd (D_L84 (kb + 5) (x4_84).toNatClampNeg) (FP.dmul (4627448617123184640 : UInt64) r_46))) (fun D_52 => bd (f_X6_freezes a b I_L84 D_52 r_29) (fun r_53 => (if (Op.cmpValue (FP.dcmp (D_L45 (kb + 7) (x1_45).toNatClampNeg) r_53) CmpOp.g) < 0 then f_X5_hour_L84 rec45 a b kb x1_45 D_L45 n84 (x4_84 + 1) I_L84 D_52 else ck (inB x4_84 12) (nm (up2 I_L84 (kb + 4) (x4_84).toNatClampNeg 11) (fun I_60 => f_X5_hour_L84 rec45 a b kb x1_45 D_L45 n84 (x4_84 + 1) I_60 D_52)))))))))))))))) else f_X5_hour_L84 rec45 a b kb x1_45 D_L45 n84 (x4_84 + 1) I_L84 D_L84)))
def f_X5_hour_L45 (a : Nat) (b : Nat) (kb : Nat) : Nat → Int32 → (Nat → Nat → Int32) → (Nat → Nat → UInt64) → Option ((Nat → Nat → Int32) × (Nat → Nat → UInt64))
  | 0, _, _, _ => none
  | n45 + 1, x1_45, I_L45, D_L45 => (if (I_L45 kb 6) ≤ x1_45 then some (I_L45, D_L45) else ck (inB x1_45 3) (ck (inB x1_45 3) (ck (okD (FP.dsub (FP.i2d (I_L45 (kb + 6) (x1_45).toNatClampNeg)) (D_L45 (kb + 7) (x1_45).toNatClampNeg))) (ck (okD (FP.dmul (FP.dsub (FP.i2d (I_L45 (kb + 6) (x1_45).toNatClampNeg)) (D_L45 (kb + 7) (x1_45).toNatClampNeg)) (4598175219545276416 : UInt64))) (ck (okD (FP.dadd (D_L45 (kb + 7) (x1_45).toNatClampNeg) (FP.dmul (FP.dsub (FP.i2d (I_L45 (kb + 6) (x1_45).toNatClampNeg)) (D_L45 (kb + 7) (x1_45).toNatClampNeg)) (4598175219545276416 : UInt64)))) (ck (inB x1_45 3) (nm (up2 D_L45 (kb + 7) (x1_45).toNatClampNeg (FP.dadd (D_L45 (kb + 7) (x1_45).toNatClampNeg) (FP.dmul (FP.dsub (FP.i2d (I_L45 (kb + 6) (x1_45).toNatClampNeg)) (D_L45 (kb + 7) (x1_45).toNatClampNeg)) (4598175219545276416 : UInt64)))) (fun D_17 => f_X5_hour_L84 (f_X5_hour_L45 a b kb n45) a b kb x1_45 D_L45 200 0 I_L45 D_17))))))))
def f_X5_hour_L2 (a : Nat) (b : Nat) (kb : Nat) : Nat → Int32 → (Nat → Nat → Int32) → (Nat → Nat → UInt64) → Option ((Nat → Nat → Int32) × (Nat → Nat → UInt64))
  | 0, _, _, _ => none
  | n2 + 1, x1_2, I_L2, D_L2 => (if (I_L2 kb 0) ≤ x1_2 then f_X5_hour_L45 a b kb 200 0 I_L2 D_L2 else ck (inB x1_2 12) ((if (I_L2 (kb + 4) (x1_2).toNatClampNeg) = (-1) then ck (inB x1_2 12) ((if (I_L2 (kb + 3) (x1_2).toNatClampNeg) = 0 then ck (inB x1_2 12) (nm (up2 I_L2 (kb + 4) (x1_2).toNatClampNeg 11) (fun I_72 => f_X5_hour_L2 a b kb n2 (x1_2 + 1) I_72 D_L2)) else f_X5_hour_L2 a b kb n2 (x1_2 + 1) I_L2 D_L2)) else f_X5_hour_L2 a b kb n2 (x1_2 + 1) I_L2 D_L2)))
def f_X5_hour (a b : Nat) (I : Nat → Nat → Int32) (D : Nat → Nat → UInt64) (kb : Nat) : Option ((Nat → Nat → Int32) × (Nat → Nat → UInt64)) :=
  f_X5_hour_L2 a b kb 200 0 I D
theorem iX5_hour_RX5 : ∀ w ∈ u_ws RX5 TX5 10, w ∈ wsX5_hour := fun w h => List.mem_cons_of_mem _ (List.mem_append_left _ (List.mem_append_left _ (List.mem_append_left _ (List.mem_append_right _ (h)))))
theorem iX5_hour_RX7 : ∀ w ∈ u_ws RX7 TX7 9, w ∈ wsX5_hour := fun w h => List.mem_cons_of_mem _ (List.mem_append_left _ (List.mem_append_left _ (List.mem_append_right _ (h))))
set_option maxHeartbeats 4000000 in
set_option maxRecDepth 100000 in
theorem mt_X5_hour (l : Launch) (dC : Nat → ClassId) (dI : Nat → Nat → Nat) (L : List Nat) (a b : Nat) (ad : Nat → Nat) (cy : Nat → ClassId) (hM : mOK L a b ad) (sz : Nat) (I : Nat → Nat → Int32) (D : Nat → Nat → UInt64) (kb : Nat) (hkb : cOK L kb) (I9 : Nat → Nat → Int32) (D9 : Nat → Nat → UInt64) (hf : f_X5_hour a b I D kb = some (I9, D9)) : Met l yX5_hour wsX5_hour ({ frames := 8, cells := 0, slots := 0, locals := 222 }) (va_Pc [.ref (ad kb)] (fun U => U.heap.size = sz ∧ wM dC dI L a b ad cy I D U)) (va_Qv (fun (_ : Unit) => True) (fun _ t => wM dC dI L a b ad cy I9 D9 t) (AM L ad sz)) 0 0 (AM L ad sz) := by
  refine Met.ofW (cc := cX5_hour) (maxL := 6) (ret := none) (by decide) rfl ?_
  intro p e s m args below meth c s₁ B hml hv
  obtain ⟨rfl, hsz, hP, hK, hN⟩ := hv
  have hx := B.exec
  have hb := B.bytes
  have hr := B.returns
  have hts := atoms_spec (ws := wsX5_hour) B.pre
  have hown : s.vm.findClass RX5 = some m.cls := findClass_of_methodNamed B.named
  have hlocks := B.notSynchronized
  subst hsz
  generalize hAe : AM L ad s.heap.size = A
  have hA : ∀ q : Nat, s.heap.size ≤ q → A q := fun q h => by rw [← hAe]; exact Or.inr h
  have hAL : ∀ k, k ∈ L → A (ad k) := fun k h => by rw [← hAe]; exact Or.inl ⟨k, h, rfl⟩
  have hDD : ∀ I D, va_D A (iwM L a b ad cy I D) := fun I D => iwM_D hM hAL I D
  obtain ⟨H, hH⟩ : ∃ H : Heap, H = s.heap := ⟨_, rfl⟩
  have hS : va_S A s.heap H [] := by rw [hH]; exact va_S.rf
  rw [← hH]
  rw [← hH] at hP
  have hl := lv_entry ([.ref (ad kb)]) (n := 6) (Nat.le_of_ble_eq_true rfl)
  rw [lg_entry_eq]
  generalize (lg_sl ([.ref (ad kb)]) ++ List.replicate (6 - (lg_sl ([.ref (ad kb)])).length) Slot.unset).toArray = ls at hl ⊢
  have hl : lv_has ls 6 [(0, .ref (ad kb))] := hl
  unfold f_X5_hour at hf
  refine lv_iconst (v := 0) hx hb dX5_hour_0 (by decide) ?_
  refine lv_istore_n (lv' := [(1, .int 0), (0, .ref (ad kb))]) hx hb dX5_hour_1 rfl hl (by decide) rfl (fun ls hl => ?_)
  have L2 : ∀ (n2 : Nat) (x1_2 : Int32) (I_L2 : Nat → Nat → Int32) (D_L2 : Nat → Nat → UInt64), f_X5_hour_L2 a b kb n2 x1_2 I_L2 D_L2 = some (I9, D9) → ∀ (H : Heap) (locs : List Loc) (ls : Array Slot), va_P (dC, dI) vwCl (iwM L a b ad cy I_L2 D_L2) H → va_S A s.heap H locs → lv_has ls 6 [(1, .int x1_2), (0, .ref (ad kb))] → W p l e (headSpec wsX5_hour ({ frames := 8, cells := 0, slots := 0, locals := 222 })).room s m ([.ref (ad kb)] : List Value).toArray below meth c H locs 0 0 (MQ below (va_Qv (fun (_ : Unit) => True) (fun _ t => wM dC dI L a b ad cy I9 D9 t) A) ([.ref (ad kb)] : List Value).toArray s 0 0 A) (F0 m 2 ls []) := by
    intro n2
    induction n2 with
    | zero => intro x1_2 I_L2 D_L2 hf; exact nomatch hf
    | succ n2 ih2 =>
      intro x1_2 I_L2 D_L2 hf H locs ls hP hS hl
      unfold f_X5_hour_L2 at hf
      refine lv_iload_n hx hb dX5_hour_2 rfl (lv_at hl 0 rfl) ?_
      refine lv_aload_n hx hb dX5_hour_3 rfl (lv_at hl 1 rfl) ?_
      obtain ⟨q_1, wq_1, heq_1⟩ := heM_Cold (cy := cy) (I := I_L2) (D := D_L2) (a := a) (b := b) hkb
      refine va_get (D := (dC, dI)) (ci := 6) (v := .int (I_L2 kb 0)) (C := RX5) (T := TX5) (N := 10) hx hb hts iX5_hour_RX5 hown hK hP q_1 heq_1 rfl 0 (by decide) (hts (.fieldLink RX5 42 "OverrunHouseModel$Cold" "batches" "I") (List.mem_cons_of_mem _ (List.mem_append_left _ (List.mem_append_left _ (List.mem_append_left _ (List.mem_append_left _ (List.mem_append_left _ (List.mem_of_getElem? (i := 0) rfl)))))))) (fun _ h9 => h9) rfl dX5_hour_4 ?_
      refine lv_icmp_ge (tgt := 43) hx hb dX5_hour_7 (by decide) (fun c_2 => ?_) (fun c_2 => ?_)
      · have hf := it_t hf c_2
        refine lv_iconst (v := 0) hx hb dX5_hour_43 (by decide) ?_
        refine lv_istore_n (lv' := [(1, .int 0), (0, .ref (ad kb))]) hx hb dX5_hour_44 rfl hl (by decide) rfl (fun ls hl => ?_)
        have L45 : ∀ (n45 : Nat) (x1_45 : Int32) (I_L45 : Nat → Nat → Int32) (D_L45 : Nat → Nat → UInt64), f_X5_hour_L45 a b kb n45 x1_45 I_L45 D_L45 = some (I9, D9) → ∀ (H : Heap) (locs : List Loc) (ls : Array Slot), va_P (dC, dI) vwCl (iwM L a b ad cy I_L45 D_L45) H → va_S A s.heap H locs → lv_has ls 6 [(1, .int x1_45), (0, .ref (ad kb))] → W p l e (headSpec wsX5_hour ({ frames := 8, cells := 0, slots := 0, locals := 222 })).room s m ([.ref (ad kb)] : List Value).toArray below meth c H locs 0 0 (MQ below (va_Qv (fun (_ : Unit) => True) (fun _ t => wM dC dI L a b ad cy I9 D9 t) A) ([.ref (ad kb)] : List Value).toArray s 0 0 A) (F0 m 45 ls []) := by
          intro n45
          induction n45 with
          | zero => intro x1_45 I_L45 D_L45 hf; exact nomatch hf
          | succ n45 ih45 =>
            intro x1_45 I_L45 D_L45 hf H locs ls hP hS hl
            unfold f_X5_hour_L45 at hf
            refine lv_iload_n hx hb dX5_hour_45 rfl (lv_at hl 0 rfl) ?_
            refine lv_aload_n hx hb dX5_hour_46 rfl (lv_at hl 1 rfl) ?_
            obtain ⟨q_3, wq_3, heq_3⟩ := heM_Cold (cy := cy) (I := I_L45) (D := D_L45) (a := a) (b := b) hkb
            refine va_get (D := (dC, dI)) (ci := 6) (v := .int (I_L45 kb 6)) (C := RX5) (T := TX5) (N := 10) hx hb hts iX5_hour_RX5 hown hK hP q_3 heq_3 rfl 6 (by decide) (hts (.fieldLink RX5 52 "OverrunHouseModel$Cold" "stores" "I") (List.mem_cons_of_mem _ (List.mem_append_left _ (List.mem_append_left _ (List.mem_append_left _ (List.mem_append_left _ (List.mem_append_left _ (List.mem_of_getElem? (i := 3) rfl)))))))) (fun _ h9 => h9) rfl dX5_hour_47 ?_
            refine lv_icmp_ge (tgt := 197) hx hb dX5_hour_50 (by decide) (fun c_4 => ?_) (fun c_4 => ?_)
            · have hf := it_t hf c_4
              have hf := Option.some.inj hf
              obtain ⟨q2, q3⟩ := Prod.mk.inj hf
              rw [q2, q3] at hP
              exact W.vret hx hb hr (fun t ht hW9 => ⟨⟨(), rfl, trivial, wM.of hP hK hN ht hW9⟩, hS.F ht⟩) hS.2.2 dX5_hour_197
            · have hf := it_f hf c_4
              refine lv_aload_n hx hb dX5_hour_53 rfl (lv_at hl 1 rfl) ?_
              obtain ⟨q_5, wq_5, heq_5⟩ := heM_Cold (cy := cy) (I := I_L45) (D := D_L45) (a := a) (b := b) hkb
              refine va_get (D := (dC, dI)) (ci := 6) (v := .ref (ad (kb + 7))) (C := RX5) (T := TX5) (N := 10) hx hb hts iX5_hour_RX5 hown hK hP q_5 heq_5 rfl 8 (by decide) (hts (.fieldLink RX5 36 "OverrunHouseModel$Cold" "temp" "[D") (List.mem_cons_of_mem _ (List.mem_append_left _ (List.mem_append_left _ (List.mem_append_left _ (List.mem_append_left _ (List.mem_append_left _ (List.mem_of_getElem? (i := 4) rfl)))))))) (fun _ h9 => h9) rfl dX5_hour_54 ?_
              refine lv_iload_n hx hb dX5_hour_57 rfl (lv_at hl 0 rfl) ?_
              obtain ⟨q_6, wq_6, heq_6⟩ := heM_Temp (cy := cy) (I := I_L45) (D := D_L45) (a := a) (b := b) hkb
              obtain ⟨h_7, hf⟩ := ck_out hf
              refine va_dald (n := 3) (f := D_L45 (kb + 7)) hx hb hK hP q_6 6 heq_6 rfl (inB_in h_7) dX5_hour_58 ?_
              refine lv_dstore_n (lv' := [(2, .double (D_L45 (kb + 7) (x1_45).toNatClampNeg)), (1, .int x1_45), (0, .ref (ad kb))]) hx hb dX5_hour_59 rfl hl (by decide) rfl (fun ls hl => ?_)
              refine lv_aload_n hx hb dX5_hour_60 rfl (lv_at hl 2 rfl) ?_
              obtain ⟨q_8, wq_8, heq_8⟩ := heM_Cold (cy := cy) (I := I_L45) (D := D_L45) (a := a) (b := b) hkb
              refine va_get (D := (dC, dI)) (ci := 6) (v := .ref (ad (kb + 7))) (C := RX5) (T := TX5) (N := 10) hx hb hts iX5_hour_RX5 hown hK hP q_8 heq_8 rfl 8 (by decide) (hts (.fieldLink RX5 36 "OverrunHouseModel$Cold" "temp" "[D") (List.mem_cons_of_mem _ (List.mem_append_left _ (List.mem_append_left _ (List.mem_append_left _ (List.mem_append_left _ (List.mem_append_left _ (List.mem_of_getElem? (i := 4) rfl)))))))) (fun _ h9 => h9) rfl dX5_hour_61 ?_
              refine lv_iload_n hx hb dX5_hour_64 rfl (lv_at hl 1 rfl) ?_
              refine lv_dload_n hx hb dX5_hour_65 rfl (lv_at hl 0 rfl) ?_
              refine lv_aload_n hx hb dX5_hour_66 rfl (lv_at hl 2 rfl) ?_
              obtain ⟨q_9, wq_9, heq_9⟩ := heM_Cold (cy := cy) (I := I_L45) (D := D_L45) (a := a) (b := b) hkb
              refine va_get (D := (dC, dI)) (ci := 6) (v := .ref (ad (kb + 6))) (C := RX5) (T := TX5) (N := 10) hx hb hts iX5_hour_RX5 hown hK hP q_9 heq_9 rfl 7 (by decide) (hts (.fieldLink RX5 33 "OverrunHouseModel$Cold" "set" "[I") (List.mem_cons_of_mem _ (List.mem_append_left _ (List.mem_append_left _ (List.mem_append_left _ (List.mem_append_left _ (List.mem_append_left _ (List.mem_of_getElem? (i := 5) rfl)))))))) (fun _ h9 => h9) rfl dX5_hour_67 ?_
              refine lv_iload_n hx hb dX5_hour_70 rfl (lv_at hl 1 rfl) ?_
              obtain ⟨q_10, wq_10, heq_10⟩ := heM_Set (cy := cy) (I := I_L45) (D := D_L45) (a := a) (b := b) hkb
              obtain ⟨h_11, hf⟩ := ck_out hf
              refine va_iald (n := 3) (f := I_L45 (kb + 6)) hx hb hK hP q_10 0 heq_10 rfl (inB_in h_11) dX5_hour_71 ?_
              refine lv_i2d hx hb dX5_hour_72 ?_
              refine lv_dload_n hx hb dX5_hour_73 rfl (lv_at hl 0 rfl) ?_
              obtain ⟨h_12, hf⟩ := ck_out hf
              refine lv_dsub hx hb dX5_hour_74 (okD_n h_12) ?_
              refine lv_ldc2d (v := 4598175219545276416) hx hb hown (hts (.constantDouble RX5 55 (4598175219545276416)) (List.mem_cons_of_mem _ (List.mem_append_left _ (List.mem_append_left _ (List.mem_append_left _ (List.mem_append_left _ (List.mem_append_left _ (List.mem_of_getElem? (i := 6) rfl)))))))) dX5_hour_75 ?_
              obtain ⟨h_13, hf⟩ := ck_out hf
              refine lv_dmul hx hb dX5_hour_78 (okD_n h_13) ?_
              obtain ⟨h_14, hf⟩ := ck_out hf
              refine lv_dadd hx hb dX5_hour_79 (okD_n h_14) ?_
              obtain ⟨q_15, wq_15, heq_15⟩ := heM_Temp (cy := cy) (I := I_L45) (D := D_L45) (a := a) (b := b) hkb
              obtain ⟨h_16, hf⟩ := ck_out hf
              obtain ⟨D_17, eD_17, hf⟩ := nm_out hf
              refine va_dast (n := 3) (f := D_L45 (kb + 7)) hx hb hK hP (hDD I_L45 D_L45) hS q_15 6 heq_15 rfl (inB_in h_16) dX5_hour_80 (fun H locs hP _ hS => ?_)
              have hP : va_P (dC, dI) vwCl (iwM L a b ad cy I_L45 D_17) H := by rw [eD_17]; exact hqD hM wq_15 ((cellM_Temp ad cy a b hkb.1 _ _).trans rfl) hP
              refine lv_iconst (v := 0) hx hb dX5_hour_81 (by decide) ?_
              refine lv_istore (lv' := [(4, .int 0), (2, .double (D_L45 (kb + 7) (x1_45).toNatClampNeg)), (1, .int x1_45), (0, .ref (ad kb))]) hx hb dX5_hour_82 hl (by decide) rfl (fun ls hl => ?_)
              have L84 : ∀ (n84 : Nat) (x4_84 : Int32) (I_L84 : Nat → Nat → Int32) (D_L84 : Nat → Nat → UInt64), f_X5_hour_L84 (f_X5_hour_L45 a b kb n45) a b kb x1_45 D_L45 n84 x4_84 I_L84 D_L84 = some (I9, D9) → ∀ (H : Heap) (locs : List Loc) (ls : Array Slot), va_P (dC, dI) vwCl (iwM L a b ad cy I_L84 D_L84) H → va_S A s.heap H locs → lv_has ls 6 [(4, .int x4_84), (2, .double (D_L45 (kb + 7) (x1_45).toNatClampNeg)), (1, .int x1_45), (0, .ref (ad kb))] → W p l e (headSpec wsX5_hour ({ frames := 8, cells := 0, slots := 0, locals := 222 })).room s m ([.ref (ad kb)] : List Value).toArray below meth c H locs 0 0 (MQ below (va_Qv (fun (_ : Unit) => True) (fun _ t => wM dC dI L a b ad cy I9 D9 t) A) ([.ref (ad kb)] : List Value).toArray s 0 0 A) (F0 m 84 ls []) := by
                intro n84
                induction n84 with
                | zero => intro x4_84 I_L84 D_L84 hf; exact nomatch hf
                | succ n84 ih84 =>
                  intro x4_84 I_L84 D_L84 hf H locs ls hP hS hl
                  unfold f_X5_hour_L84 at hf
                  refine lv_iload hx hb dX5_hour_84 (lv_at hl 0 rfl) ?_
                  refine lv_aload_n hx hb dX5_hour_86 rfl (lv_at hl 3 rfl) ?_
                  obtain ⟨q_18, wq_18, heq_18⟩ := heM_Cold (cy := cy) (I := I_L84) (D := D_L84) (a := a) (b := b) hkb
                  refine va_get (D := (dC, dI)) (ci := 6) (v := .int (I_L84 kb 0)) (C := RX5) (T := TX5) (N := 10) hx hb hts iX5_hour_RX5 hown hK hP q_18 heq_18 rfl 0 (by decide) (hts (.fieldLink RX5 42 "OverrunHouseModel$Cold" "batches" "I") (List.mem_cons_of_mem _ (List.mem_append_left _ (List.mem_append_left _ (List.mem_append_left _ (List.mem_append_left _ (List.mem_append_left _ (List.mem_of_getElem? (i := 0) rfl)))))))) (fun _ h9 => h9) rfl dX5_hour_87 ?_
                  refine lv_icmp_ge (tgt := 191) hx hb dX5_hour_90 (by decide) (fun c_19 => ?_) (fun c_19 => ?_)
                  · have hf := it_t hf c_19
                    refine lv_iinc (v := (x1_45 + 1)) (lv' := [(1, .int (x1_45 + 1)), (4, .int x4_84), (2, .double (D_L45 (kb + 7) (x1_45).toNatClampNeg)), (0, .ref (ad kb))]) hx hb dX5_hour_191 hl (k := 2) rfl rfl (by decide) rfl (fun ls hl => ?_)
                    refine lv_goto (tgt := 45) hx hb dX5_hour_194 (by decide) ?_
                    exact ih45 (x1_45 + 1) I_L84 D_L84 hf _ _ _ hP hS (lv_sub hl [0, 3] rfl)
                  · have hf := it_f hf c_19
                    refine lv_aload_n hx hb dX5_hour_93 rfl (lv_at hl 3 rfl) ?_
                    obtain ⟨q_20, wq_20, heq_20⟩ := heM_Cold (cy := cy) (I := I_L84) (D := D_L84) (a := a) (b := b) hkb
                    refine va_get (D := (dC, dI)) (ci := 6) (v := .ref (ad (kb + 4))) (C := RX5) (T := TX5) (N := 10) hx hb hts iX5_hour_RX5 hown hK hP q_20 heq_20 rfl 4 (by decide) (hts (.fieldLink RX5 26 "OverrunHouseModel$Cold" "where" "[I") (List.mem_cons_of_mem _ (List.mem_append_left _ (List.mem_append_left _ (List.mem_append_left _ (List.mem_append_left _ (List.mem_append_left _ (List.mem_of_getElem? (i := 1) rfl)))))))) (fun _ h9 => h9) rfl dX5_hour_94 ?_
                    refine lv_iload hx hb dX5_hour_97 (lv_at hl 0 rfl) ?_
                    obtain ⟨q_21, wq_21, heq_21⟩ := heM_Where (cy := cy) (I := I_L84) (D := D_L84) (a := a) (b := b) hkb
                    obtain ⟨h_22, hf⟩ := ck_out hf
                    refine va_iald (n := 12) (f := I_L84 (kb + 4)) hx hb hK hP q_21 0 heq_21 rfl (inB_in h_22) dX5_hour_99 ?_
                    refine lv_iload_n hx hb dX5_hour_100 rfl (lv_at hl 2 rfl) ?_
                    refine lv_icmp_eq (tgt := 107) hx hb dX5_hour_101 (by decide) (fun c_23 => ?_) (fun c_23 => ?_)
                    · have hf := it_t hf c_23
                      refine lv_aload_n hx hb dX5_hour_107 rfl (lv_at hl 3 rfl) ?_
                      obtain ⟨q_24, wq_24, heq_24⟩ := heM_Cold (cy := cy) (I := I_L84) (D := D_L84) (a := a) (b := b) hkb
                      refine va_get (D := (dC, dI)) (ci := 6) (v := .ref (ad 0)) (C := RX5) (T := TX5) (N := 10) hx hb hts iX5_hour_RX5 hown hK hP q_24 heq_24 rfl 9 (by decide) (hts (.fieldLink RX5 3 "OverrunHouseModel$Cold" "this$0" "LOverrunHouseModel;") (List.mem_cons_of_mem _ (List.mem_append_left _ (List.mem_append_left _ (List.mem_append_left _ (List.mem_append_left _ (List.mem_append_left _ (List.mem_of_getElem? (i := 7) rfl)))))))) (fun _ h9 => h9) rfl dX5_hour_108 ?_
                      obtain ⟨q_25, wq_25, heq_25⟩ := heM_0 (cy := cy) (I := I_L84) (D := D_L84) hM
                      refine va_getN (D := (dC, dI)) (ci := 8) (v := .ref (ad 2)) (C := RX7) (T := TX7) (N := 9) hx hb hts iX5_hour_RX7 hown hK hP q_25 heq_25 rfl 2 (by decide) (va_Nw.use (w := .fieldLinkNest "OverrunHouseModel$Cold" 57 "OverrunHouseModel" "mixes" "Ljava/util/List;" "OverrunHouseModel") rfl (hN.1 _ (List.mem_of_getElem? (i := 30) rfl))) (fun _ h9 => h9) rfl dX5_hour_111 ?_
                      refine lv_aload_n hx hb dX5_hour_114 rfl (lv_at hl 3 rfl) ?_
                      obtain ⟨q_26, wq_26, heq_26⟩ := heM_Cold (cy := cy) (I := I_L84) (D := D_L84) (a := a) (b := b) hkb
                      refine va_get (D := (dC, dI)) (ci := 6) (v := .ref (ad (kb + 1))) (C := RX5) (T := TX5) (N := 10) hx hb hts iX5_hour_RX5 hown hK hP q_26 heq_26 rfl 1 (by decide) (hts (.fieldLink RX5 15 "OverrunHouseModel$Cold" "of" "[I") (List.mem_cons_of_mem _ (List.mem_append_left _ (List.mem_append_left _ (List.mem_append_left _ (List.mem_append_left _ (List.mem_append_left _ (List.mem_of_getElem? (i := 8) rfl)))))))) (fun _ h9 => h9) rfl dX5_hour_115 ?_
                      refine lv_iload hx hb dX5_hour_118 (lv_at hl 0 rfl) ?_
                      obtain ⟨q_27, wq_27, heq_27⟩ := heM_Of (cy := cy) (I := I_L84) (D := D_L84) (a := a) (b := b) hkb
                      obtain ⟨h_28, hf⟩ := ck_out hf
                      refine va_iald (n := 12) (f := I_L84 (kb + 1)) hx hb hK hP q_27 0 heq_27 rfl (inB_in h_28) dX5_hour_120 ?_
                      obtain ⟨r_29, g_30, hf⟩ := bd_out hf
                      obtain ⟨q_31, wq_31, heq_31⟩ := heM_2 (cy := cy) (I := I_L84) (D := D_L84) hM
                      refine va_callFr (va_runF (As := [.int (I_L84 (kb + 1) (x4_84).toNatClampNeg)]) (rest := []) (hK.1 0 _ rfl).2 ⟨hx, hb, hml, hown, hts⟩ (mt_get2 l dC dI L a b ad cy hM H.size I_L84 D_L84 (I_L84 (kb + 1) (x4_84).toNatClampNeg) r_29 g_30) (va_cwF 1 hts gX5_hour_Jx4a65c_get_915e3_f61Jx4a65c rfl rfl rfl hN.2.2.1 (by decide +kernel) ⟨Nat.le_of_ble_eq_true rfl, Nat.le_of_ble_eq_true rfl⟩) ⟨(wM.pre [.ref (ad 2), .int (I_L84 (kb + 1) (x4_84).toNatClampNeg)] hP hK hN).1, wM.recv (C := RJx4a65c) (T := TJx4a65c) (N := 3) hP hK heq_31 rfl, (wM.pre [.ref (ad 2), .int (I_L84 (kb + 1) (x4_84).toNatClampNeg)] hP hK hN).2⟩ rfl rfl hl.1 rfl (lv_room (Nat.le_of_ble_eq_true rfl)) dX5_hour_121 ⟨Nat.le_of_ble_eq_true rfl, Nat.le_of_ble_eq_true rfl⟩) hS (fun q _ h => hA q (Nat.le_trans hS.1 h)) (fun q h => hA q (Nat.le_trans hS.1 h)) (fun u r9 t H1 locs ht hvm hw hB hz1 hk1 hS => ?_)
                      subst hB
                      have hP := va_Pnew hP hk1
                      clear hz1 hk1 hvm ht
                      generalize H1 = H at hP hS ⊢
                      obtain ⟨q_32, wq_32, heq_32⟩ := heM_Mixx (cy := cy) (I := I_L84) (D := D_L84) hM (f_get2_lt g_30)
                      refine va_castS hx hb hown (hts (.classLink RX5 67 "OverrunHouseModel$Mix") (List.mem_cons_of_mem _ (List.mem_append_left _ (List.mem_append_left _ (List.mem_append_left _ (List.mem_append_left _ (List.mem_append_left _ (List.mem_of_getElem? (i := 9) rfl)))))))) (hK.1 7 _ rfl).2 (wM.recv (C := RX6) (T := TX6) (N := 5) hP hK heq_32 rfl) dX5_hour_126 ?_
                      refine lv_astore (lv' := [(5, .ref (ad (20 + r_29))), (4, .int x4_84), (2, .double (D_L45 (kb + 7) (x1_45).toNatClampNeg)), (1, .int x1_45), (0, .ref (ad kb))]) hx hb dX5_hour_129 hl (by decide) rfl (fun ls hl => ?_)
                      refine lv_aload_n hx hb dX5_hour_131 rfl (lv_at hl 4 rfl) ?_
                      obtain ⟨q_33, wq_33, heq_33⟩ := heM_Cold (cy := cy) (I := I_L84) (D := D_L84) (a := a) (b := b) hkb
                      refine va_get (D := (dC, dI)) (ci := 6) (v := .ref (ad (kb + 5))) (C := RX5) (T := TX5) (N := 10) hx hb hts iX5_hour_RX5 hown hK hP q_33 heq_33 rfl 5 (by decide) (hts (.fieldLink RX5 29 "OverrunHouseModel$Cold" "crystal" "[D") (List.mem_cons_of_mem _ (List.mem_append_left _ (List.mem_append_left _ (List.mem_append_left _ (List.mem_append_left _ (List.mem_append_left _ (List.mem_of_getElem? (i := 10) rfl)))))))) (fun _ h9 => h9) rfl dX5_hour_132 ?_
                      refine lv_iload hx hb dX5_hour_135 (lv_at hl 1 rfl) ?_
                      refine lv_dup2_11 hx hb dX5_hour_137 rfl rfl ?_
                      obtain ⟨q_34, wq_34, heq_34⟩ := heM_Crystal (cy := cy) (I := I_L84) (D := D_L84) (a := a) (b := b) hkb
                      obtain ⟨h_35, hf⟩ := ck_out hf
                      refine va_dald (n := 12) (f := D_L84 (kb + 5)) hx hb hK hP q_34 6 heq_34 rfl (inB_in h_35) dX5_hour_138 ?_
                      refine lv_ldc2d (v := 4627448617123184640) hx hb hown (hts (.constantDouble RX5 69 (4627448617123184640)) (List.mem_cons_of_mem _ (List.mem_append_left _ (List.mem_append_left _ (List.mem_append_left _ (List.mem_append_left _ (List.mem_append_left _ (List.mem_of_getElem? (i := 11) rfl)))))))) dX5_hour_139 ?_
                      refine lv_aload hx hb dX5_hour_142 (lv_at hl 0 rfl) ?_
                      refine lv_dload_n hx hb dX5_hour_144 rfl (lv_at hl 2 rfl) ?_
                      obtain ⟨r_36, g_37, hf⟩ := bd_out hf
                      obtain ⟨q_38, wq_38, heq_38⟩ := heM_Mixx (cy := cy) (I := I_L84) (D := D_L84) hM (f_get2_lt g_30)
                      refine va_calld (va_runV (As := [.double (D_L45 (kb + 7) (x1_45).toNatClampNeg)]) (rest := [.double (4627448617123184640 : UInt64), .double (D_L84 (kb + 5) (x4_84).toNatClampNeg), .int x4_84, .ref (ad (kb + 5))]) ⟨hx, hb, hml, hown, hts⟩ (mt_X6_ice l dC dI L a b ad cy hM H.size I_L84 D_L84 r_29 (f_get2_lt g_30) (D_L45 (kb + 7) (x1_45).toNatClampNeg) r_36 g_37) (cwV 1 hts gX5_hour_X6_ice rfl rfl rfl (by decide +kernel) ⟨Nat.le_of_ble_eq_true rfl, Nat.le_of_ble_eq_true rfl⟩) ⟨(wM.pre [.ref (ad (20 + r_29)), .double (D_L45 (kb + 7) (x1_45).toNatClampNeg)] hP hK hN).1, wM.recv (C := RX6) (T := TX6) (N := 5) hP hK heq_38 rfl, (wM.pre [.ref (ad (20 + r_29)), .double (D_L45 (kb + 7) (x1_45).toNatClampNeg)] hP hK hN).2⟩ rfl rfl hl.1 rfl (lv_room (Nat.le_of_ble_eq_true rfl)) dX5_hour_145 ⟨Nat.le_of_ble_eq_true rfl, Nat.le_of_ble_eq_true rfl⟩) hS (fun q _ h => hA q (Nat.le_trans hS.1 h)) (fun q h => hA q (Nat.le_trans hS.1 h)) (fun r9 u t H1 locs ht hvm hw hB hz1 hk1 hS => ?_)
                      subst hw
                      have hP := va_Pnew hP hk1
                      clear hz1 hk1 hvm ht hB
                      generalize H1 = H at hP hS ⊢
                      refine lv_aload hx hb dX5_hour_148 (lv_at hl 0 rfl) ?_
                      refine lv_aload_n hx hb dX5_hour_150 rfl (lv_at hl 4 rfl) ?_
                      obtain ⟨q_39, wq_39, heq_39⟩ := heM_Cold (cy := cy) (I := I_L84) (D := D_L84) (a := a) (b := b) hkb
                      refine va_get (D := (dC, dI)) (ci := 6) (v := .ref (ad (kb + 7))) (C := RX5) (T := TX5) (N := 10) hx hb hts iX5_hour_RX5 hown hK hP q_39 heq_39 rfl 8 (by decide) (hts (.fieldLink RX5 36 "OverrunHouseModel$Cold" "temp" "[D") (List.mem_cons_of_mem _ (List.mem_append_left _ (List.mem_append_left _ (List.mem_append_left _ (List.mem_append_left _ (List.mem_append_left _ (List.mem_of_getElem? (i := 4) rfl)))))))) (fun _ h9 => h9) rfl dX5_hour_151 ?_
                      refine lv_iload_n hx hb dX5_hour_154 rfl (lv_at hl 3 rfl) ?_
                      obtain ⟨q_40, wq_40, heq_40⟩ := heM_Temp (cy := cy) (I := I_L84) (D := D_L84) (a := a) (b := b) hkb
                      obtain ⟨h_41, hf⟩ := ck_out hf
                      refine va_dald (n := 3) (f := D_L84 (kb + 7)) hx hb hK hP q_40 6 heq_40 rfl (inB_in h_41) dX5_hour_155 ?_
                      obtain ⟨r_42, g_43, hf⟩ := bd_out hf
                      obtain ⟨q_44, wq_44, heq_44⟩ := heM_Mixx (cy := cy) (I := I_L84) (D := D_L84) hM (f_get2_lt g_30)
                      refine va_calld (va_runV (As := [.double (D_L84 (kb + 7) (x1_45).toNatClampNeg)]) (rest := [.double r_36, .double (4627448617123184640 : UInt64), .double (D_L84 (kb + 5) (x4_84).toNatClampNeg), .int x4_84, .ref (ad (kb + 5))]) ⟨hx, hb, hml, hown, hts⟩ (mt_X6_ice l dC dI L a b ad cy hM H.size I_L84 D_L84 r_29 (f_get2_lt g_30) (D_L84 (kb + 7) (x1_45).toNatClampNeg) r_42 g_43) (cwV 1 hts gX5_hour_X6_ice rfl rfl rfl (by decide +kernel) ⟨Nat.le_of_ble_eq_true rfl, Nat.le_of_ble_eq_true rfl⟩) ⟨(wM.pre [.ref (ad (20 + r_29)), .double (D_L84 (kb + 7) (x1_45).toNatClampNeg)] hP hK hN).1, wM.recv (C := RX6) (T := TX6) (N := 5) hP hK heq_44 rfl, (wM.pre [.ref (ad (20 + r_29)), .double (D_L84 (kb + 7) (x1_45).toNatClampNeg)] hP hK hN).2⟩ rfl rfl hl.1 rfl (lv_room (Nat.le_of_ble_eq_true rfl)) dX5_hour_156 ⟨Nat.le_of_ble_eq_true rfl, Nat.le_of_ble_eq_true rfl⟩) hS (fun q _ h => hA q (Nat.le_trans hS.1 h)) (fun q h => hA q (Nat.le_trans hS.1 h)) (fun r9 u t H1 locs ht hvm hw hB hz1 hk1 hS => ?_)
                      subst hw
                      have hP := va_Pnew hP hk1
                      clear hz1 hk1 hvm ht hB
                      generalize H1 = H at hP hS ⊢
                      obtain ⟨h_45, hf⟩ := ck_out hf
                      refine lv_dsub hx hb dX5_hour_159 (okD_n h_45) ?_
                      obtain ⟨r_46, g_47, hf⟩ := bd_out hf
                      refine va_calld (vj_abs (rm := ({ frames := 1, cells := 0, slots := 0, locals := 70 })) (rest := [.double (4627448617123184640 : UInt64), .double (D_L84 (kb + 5) (x4_84).toNatClampNeg), .int x4_84, .ref (ad (kb + 5))]) g_47 ⟨hx, hb, hml, hown, hts⟩ (va_cwS 1 hts gX5_hour_J9_abs_294c1 rfl rfl rfl (by decide +kernel) ⟨Nat.le_of_ble_eq_true rfl, Nat.le_of_ble_eq_true rfl⟩) (Nat.le_of_ble_eq_true rfl) (Nat.le_of_ble_eq_true rfl) rfl hl.1 rfl (lv_room (Nat.le_of_ble_eq_true rfl)) dX5_hour_160) hS (fun q _ h => hA q (Nat.le_trans hS.1 h)) (fun q h => hA q (Nat.le_trans hS.1 h)) (fun r9 u t H1 locs ht hvm hw hB hz1 hk1 hS => ?_)
                      subst hw
                      have hP := va_Pnew hP hk1
                      clear hz1 hk1 hvm ht hB
                      generalize H1 = H at hP hS ⊢
                      obtain ⟨h_48, hf⟩ := ck_out hf
                      refine lv_dmul hx hb dX5_hour_163 (okD_n h_48) ?_
                      obtain ⟨h_49, hf⟩ := ck_out hf
                      refine lv_dadd hx hb dX5_hour_164 (okD_n h_49) ?_
                      obtain ⟨q_50, wq_50, heq_50⟩ := heM_Crystal (cy := cy) (I := I_L84) (D := D_L84) (a := a) (b := b) hkb
                      obtain ⟨h_51, hf⟩ := ck_out hf
                      obtain ⟨D_52, eD_52, hf⟩ := nm_out hf
                      refine va_dast (n := 12) (f := D_L84 (kb + 5)) hx hb hK hP (hDD I_L84 D_L84) hS q_50 6 heq_50 rfl (inB_in h_51) dX5_hour_165 (fun H locs hP _ hS => ?_)
                      have hP : va_P (dC, dI) vwCl (iwM L a b ad cy I_L84 D_52) H := by rw [eD_52]; exact hqD hM wq_50 ((cellM_Crystal ad cy a b hkb.1 _ _).trans rfl) hP
                      refine lv_dload_n hx hb dX5_hour_166 rfl (lv_at hl 2 rfl) ?_
                      refine lv_aload hx hb dX5_hour_167 (lv_at hl 0 rfl) ?_
                      obtain ⟨r_53, g_54, hf⟩ := bd_out hf
                      obtain ⟨q_55, wq_55, heq_55⟩ := heM_Mixx (cy := cy) (I := I_L84) (D := D_52) hM (f_get2_lt g_30)
                      refine va_calld (va_runV (As := []) (rest := [.double (D_L45 (kb + 7) (x1_45).toNatClampNeg)]) ⟨hx, hb, hml, hown, hts⟩ (mt_X6_freezes l dC dI L a b ad cy hM H.size I_L84 D_52 r_29 (f_get2_lt g_30) r_53 g_54) (cwV 0 hts gX5_hour_X6_freezes rfl rfl rfl (by decide +kernel) ⟨Nat.le_of_ble_eq_true rfl, Nat.le_of_ble_eq_true rfl⟩) ⟨(wM.pre [.ref (ad (20 + r_29))] hP hK hN).1, wM.recv (C := RX6) (T := TX6) (N := 5) hP hK heq_55 rfl, (wM.pre [.ref (ad (20 + r_29))] hP hK hN).2⟩ rfl rfl hl.1 rfl (lv_room (Nat.le_of_ble_eq_true rfl)) dX5_hour_169 ⟨Nat.le_of_ble_eq_true rfl, Nat.le_of_ble_eq_true rfl⟩) hS (fun q _ h => hA q (Nat.le_trans hS.1 h)) (fun q h => hA q (Nat.le_trans hS.1 h)) (fun r9 u t H1 locs ht hvm hw hB hz1 hk1 hS => ?_)
                      subst hw
                      have hP := va_Pnew hP hk1
                      clear hz1 hk1 hvm ht hB
                      generalize H1 = H at hP hS ⊢
                      refine lv_dcmp hx hb dX5_hour_172 ?_
                      refine lv_if_lt (tgt := 185) hx hb dX5_hour_173 (by decide) (fun c_56 => ?_) (fun c_56 => ?_)
                      · have hf := it_t hf c_56
                        refine lv_iinc (v := (x4_84 + 1)) (lv' := [(4, .int (x4_84 + 1)), (5, .ref (ad (20 + r_29))), (2, .double (D_L45 (kb + 7) (x1_45).toNatClampNeg)), (1, .int x1_45), (0, .ref (ad kb))]) hx hb dX5_hour_185 hl (k := 1) rfl rfl (by decide) rfl (fun ls hl => ?_)
                        refine lv_goto (tgt := 84) hx hb dX5_hour_188 (by decide) ?_
                        exact ih84 (x4_84 + 1) I_L84 D_52 hf _ _ _ hP hS (lv_sub hl [0, 2, 3, 4] rfl)
                      · have hf := it_f hf c_56
                        refine lv_aload_n hx hb dX5_hour_176 rfl (lv_at hl 4 rfl) ?_
                        obtain ⟨q_57, wq_57, heq_57⟩ := heM_Cold (cy := cy) (I := I_L84) (D := D_52) (a := a) (b := b) hkb
                        refine va_get (D := (dC, dI)) (ci := 6) (v := .ref (ad (kb + 4))) (C := RX5) (T := TX5) (N := 10) hx hb hts iX5_hour_RX5 hown hK hP q_57 heq_57 rfl 4 (by decide) (hts (.fieldLink RX5 26 "OverrunHouseModel$Cold" "where" "[I") (List.mem_cons_of_mem _ (List.mem_append_left _ (List.mem_append_left _ (List.mem_append_left _ (List.mem_append_left _ (List.mem_append_left _ (List.mem_of_getElem? (i := 1) rfl)))))))) (fun _ h9 => h9) rfl dX5_hour_177 ?_
                        refine lv_iload hx hb dX5_hour_180 (lv_at hl 1 rfl) ?_
                        refine lv_bipush (v := 11) hx hb dX5_hour_182 (by decide) ?_
                        obtain ⟨q_58, wq_58, heq_58⟩ := heM_Where (cy := cy) (I := I_L84) (D := D_52) (a := a) (b := b) hkb
                        obtain ⟨h_59, hf⟩ := ck_out hf
                        obtain ⟨I_60, eI_60, hf⟩ := nm_out hf
                        refine va_iast (n := 12) (f := I_L84 (kb + 4)) hx hb hK hP (hDD I_L84 D_52) hS q_58 0 heq_58 rfl (inB_in h_59) dX5_hour_184 (fun H locs hP _ hS => ?_)
                        have hP : va_P (dC, dI) vwCl (iwM L a b ad cy I_60 D_52) H := by rw [eI_60]; exact hqI hM wq_58 ((cellM_Where ad cy a b hkb.1 _ _).trans rfl) hP
                        refine lv_iinc (v := (x4_84 + 1)) (lv' := [(4, .int (x4_84 + 1)), (5, .ref (ad (20 + r_29))), (2, .double (D_L45 (kb + 7) (x1_45).toNatClampNeg)), (1, .int x1_45), (0, .ref (ad kb))]) hx hb dX5_hour_185 hl (k := 1) rfl rfl (by decide) rfl (fun ls hl => ?_)
                        refine lv_goto (tgt := 84) hx hb dX5_hour_188 (by decide) ?_
                        exact ih84 (x4_84 + 1) I_60 D_52 hf _ _ _ hP hS (lv_sub hl [0, 2, 3, 4] rfl)
                    · have hf := it_f hf c_23
                      refine lv_goto (tgt := 185) hx hb dX5_hour_104 (by decide) ?_
                      refine lv_iinc (v := (x4_84 + 1)) (lv' := [(4, .int (x4_84 + 1)), (2, .double (D_L45 (kb + 7) (x1_45).toNatClampNeg)), (1, .int x1_45), (0, .ref (ad kb))]) hx hb dX5_hour_185 hl (k := 0) rfl rfl (by decide) rfl (fun ls hl => ?_)
                      refine lv_goto (tgt := 84) hx hb dX5_hour_188 (by decide) ?_
                      exact ih84 (x4_84 + 1) I_L84 D_L84 hf _ _ _ hP hS (lv_sub hl [0, 1, 2, 3] rfl)
              exact L84 200 0 I_L45 D_17 hf _ _ _ hP hS (lv_sub hl [0, 1, 2, 3] rfl)
        exact L45 200 0 I_L2 D_L2 hf _ _ _ hP hS (lv_sub hl [0, 1] rfl)
      · have hf := it_f hf c_2
        refine lv_aload_n hx hb dX5_hour_10 rfl (lv_at hl 1 rfl) ?_
        obtain ⟨q_61, wq_61, heq_61⟩ := heM_Cold (cy := cy) (I := I_L2) (D := D_L2) (a := a) (b := b) hkb
        refine va_get (D := (dC, dI)) (ci := 6) (v := .ref (ad (kb + 4))) (C := RX5) (T := TX5) (N := 10) hx hb hts iX5_hour_RX5 hown hK hP q_61 heq_61 rfl 4 (by decide) (hts (.fieldLink RX5 26 "OverrunHouseModel$Cold" "where" "[I") (List.mem_cons_of_mem _ (List.mem_append_left _ (List.mem_append_left _ (List.mem_append_left _ (List.mem_append_left _ (List.mem_append_left _ (List.mem_of_getElem? (i := 1) rfl)))))))) (fun _ h9 => h9) rfl dX5_hour_11 ?_
        refine lv_iload_n hx hb dX5_hour_14 rfl (lv_at hl 0 rfl) ?_
        obtain ⟨q_62, wq_62, heq_62⟩ := heM_Where (cy := cy) (I := I_L2) (D := D_L2) (a := a) (b := b) hkb
        obtain ⟨h_63, hf⟩ := ck_out hf
        refine va_iald (n := 12) (f := I_L2 (kb + 4)) hx hb hK hP q_62 0 heq_62 rfl (inB_in h_63) dX5_hour_15 ?_
        refine lv_iconst (v := (-1)) hx hb dX5_hour_16 (by decide) ?_
        refine lv_icmp_ne (tgt := 37) hx hb dX5_hour_17 (by decide) (fun c_64 => ?_) (fun c_64 => ?_)
        · have hf := it_f hf c_64
          refine lv_iinc (v := (x1_2 + 1)) (lv' := [(1, .int (x1_2 + 1)), (0, .ref (ad kb))]) hx hb dX5_hour_37 hl (k := 0) rfl rfl (by decide) rfl (fun ls hl => ?_)
          refine lv_goto (tgt := 2) hx hb dX5_hour_40 (by decide) ?_
          exact ih2 (x1_2 + 1) I_L2 D_L2 hf _ _ _ hP hS (lv_sub hl [0, 1] rfl)
        · have hf := it_t hf c_64
          refine lv_aload_n hx hb dX5_hour_20 rfl (lv_at hl 1 rfl) ?_
          obtain ⟨q_65, wq_65, heq_65⟩ := heM_Cold (cy := cy) (I := I_L2) (D := D_L2) (a := a) (b := b) hkb
          refine va_get (D := (dC, dI)) (ci := 6) (v := .ref (ad (kb + 3))) (C := RX5) (T := TX5) (N := 10) hx hb hts iX5_hour_RX5 hown hK hP q_65 heq_65 rfl 3 (by decide) (hts (.fieldLink RX5 22 "OverrunHouseModel$Cold" "hard" "[Z") (List.mem_cons_of_mem _ (List.mem_append_left _ (List.mem_append_left _ (List.mem_append_left _ (List.mem_append_left _ (List.mem_append_left _ (List.mem_of_getElem? (i := 2) rfl)))))))) (fun _ h9 => h9) rfl dX5_hour_21 ?_
          refine lv_iload_n hx hb dX5_hour_24 rfl (lv_at hl 0 rfl) ?_
          obtain ⟨q_66, wq_66, heq_66⟩ := heM_Hard (cy := cy) (I := I_L2) (D := D_L2) (a := a) (b := b) hkb
          obtain ⟨h_67, hf⟩ := ck_out hf
          refine va_zald (n := 12) (f := I_L2 (kb + 3)) hx hb hK hP q_66 5 heq_66 rfl (inB_in h_67) dX5_hour_25 ?_
          refine lv_if_ne (tgt := 37) hx hb dX5_hour_26 (by decide) (fun c_68 => ?_) (fun c_68 => ?_)
          · have hf := it_f hf c_68
            refine lv_iinc (v := (x1_2 + 1)) (lv' := [(1, .int (x1_2 + 1)), (0, .ref (ad kb))]) hx hb dX5_hour_37 hl (k := 0) rfl rfl (by decide) rfl (fun ls hl => ?_)
            refine lv_goto (tgt := 2) hx hb dX5_hour_40 (by decide) ?_
            exact ih2 (x1_2 + 1) I_L2 D_L2 hf _ _ _ hP hS (lv_sub hl [0, 1] rfl)
          · have hf := it_t hf c_68
            refine lv_aload_n hx hb dX5_hour_29 rfl (lv_at hl 1 rfl) ?_
            obtain ⟨q_69, wq_69, heq_69⟩ := heM_Cold (cy := cy) (I := I_L2) (D := D_L2) (a := a) (b := b) hkb
            refine va_get (D := (dC, dI)) (ci := 6) (v := .ref (ad (kb + 4))) (C := RX5) (T := TX5) (N := 10) hx hb hts iX5_hour_RX5 hown hK hP q_69 heq_69 rfl 4 (by decide) (hts (.fieldLink RX5 26 "OverrunHouseModel$Cold" "where" "[I") (List.mem_cons_of_mem _ (List.mem_append_left _ (List.mem_append_left _ (List.mem_append_left _ (List.mem_append_left _ (List.mem_append_left _ (List.mem_of_getElem? (i := 1) rfl)))))))) (fun _ h9 => h9) rfl dX5_hour_30 ?_
            refine lv_iload_n hx hb dX5_hour_33 rfl (lv_at hl 0 rfl) ?_
            refine lv_bipush (v := 11) hx hb dX5_hour_34 (by decide) ?_
            obtain ⟨q_70, wq_70, heq_70⟩ := heM_Where (cy := cy) (I := I_L2) (D := D_L2) (a := a) (b := b) hkb
            obtain ⟨h_71, hf⟩ := ck_out hf
            obtain ⟨I_72, eI_72, hf⟩ := nm_out hf
            refine va_iast (n := 12) (f := I_L2 (kb + 4)) hx hb hK hP (hDD I_L2 D_L2) hS q_70 0 heq_70 rfl (inB_in h_71) dX5_hour_36 (fun H locs hP _ hS => ?_)
            have hP : va_P (dC, dI) vwCl (iwM L a b ad cy I_72 D_L2) H := by rw [eI_72]; exact hqI hM wq_70 ((cellM_Where ad cy a b hkb.1 _ _).trans rfl) hP
            refine lv_iinc (v := (x1_2 + 1)) (lv' := [(1, .int (x1_2 + 1)), (0, .ref (ad kb))]) hx hb dX5_hour_37 hl (k := 0) rfl rfl (by decide) rfl (fun ls hl => ?_)
            refine lv_goto (tgt := 2) hx hb dX5_hour_40 (by decide) ?_
            exact ih2 (x1_2 + 1) I_72 D_L2 hf _ _ _ hP hS (lv_sub hl [0, 1] rfl)
  exact L2 200 0 I D hf _ _ _ hP hS (lv_sub hl [0, 1] rfl)

def f_X5_open_L2 (kb : Nat) (p1 : Int32) (p2 : Int32) : Nat → Int32 → (Nat → Nat → Int32) → (Nat → Nat → UInt64) → Option ((Nat → Nat → Int32) × (Nat → Nat → UInt64))
  | 0, _, _, _ => none
  | n2 + 1, x3_2, I_L2, D_L2 => (if p2 ≤ x3_2 then some (I_L2, D_L2) else ck (inB p1 3) (ck (okD (FP.dadd (D_L2 (kb + 7) (p1).toNatClampNeg) (4609434218613702656 : UInt64))) (bd (f_J9_min_eb370 (4620693217682128896 : UInt64) (FP.dadd (D_L2 (kb + 7) (p1).toNatClampNeg) (4609434218613702656 : UInt64))) (fun r_7 => ck (inB p1 3) (nm (up2 D_L2 (kb + 7) (p1).toNatClampNeg r_7) (fun D_11 => f_X5_open_L2 kb p1 p2 n2 (x3_2 + 1) I_L2 D_11))))))
def f_X5_open (a b : Nat) (I : Nat → Nat → Int32) (D : Nat → Nat → UInt64) (kb : Nat) (p1 : Int32) (p2 : Int32) : Option ((Nat → Nat → Int32) × (Nat → Nat → UInt64)) :=
  f_X5_open_L2 kb p1 p2 200 0 I D
theorem iX5_open_RX5 : ∀ w ∈ u_ws RX5 TX5 10, w ∈ wsX5_open := fun w h => List.mem_cons_of_mem _ (List.mem_append_right _ (h))
set_option maxHeartbeats 4000000 in
set_option maxRecDepth 100000 in
theorem mt_X5_open (l : Launch) (dC : Nat → ClassId) (dI : Nat → Nat → Nat) (L : List Nat) (a b : Nat) (ad : Nat → Nat) (cy : Nat → ClassId) (hM : mOK L a b ad) (sz : Nat) (I : Nat → Nat → Int32) (D : Nat → Nat → UInt64) (kb : Nat) (hkb : cOK L kb) (p1 : Int32) (p2 : Int32) (I9 : Nat → Nat → Int32) (D9 : Nat → Nat → UInt64) (hf : f_X5_open a b I D kb p1 p2 = some (I9, D9)) : Met l yX5_open wsX5_open ({ frames := 2, cells := 0, slots := 0, locals := 93 }) (va_Pc [.ref (ad kb), .int p1, .int p2] (fun U => U.heap.size = sz ∧ wM dC dI L a b ad cy I D U)) (va_Qv (fun (_ : Unit) => True) (fun _ t => wM dC dI L a b ad cy I9 D9 t) (AM L ad sz)) 0 0 (AM L ad sz) := by
  refine Met.ofW (cc := cX5_open) (maxL := 4) (ret := none) (by decide) rfl ?_
  intro p e s m args below meth c s₁ B hml hv
  obtain ⟨rfl, hsz, hP, hK, hN⟩ := hv
  have hx := B.exec
  have hb := B.bytes
  have hr := B.returns
  have hts := atoms_spec (ws := wsX5_open) B.pre
  have hown : s.vm.findClass RX5 = some m.cls := findClass_of_methodNamed B.named
  have hlocks := B.notSynchronized
  subst hsz
  generalize hAe : AM L ad s.heap.size = A
  have hA : ∀ q : Nat, s.heap.size ≤ q → A q := fun q h => by rw [← hAe]; exact Or.inr h
  have hAL : ∀ k, k ∈ L → A (ad k) := fun k h => by rw [← hAe]; exact Or.inl ⟨k, h, rfl⟩
  have hDD : ∀ I D, va_D A (iwM L a b ad cy I D) := fun I D => iwM_D hM hAL I D
  obtain ⟨H, hH⟩ : ∃ H : Heap, H = s.heap := ⟨_, rfl⟩
  have hS : va_S A s.heap H [] := by rw [hH]; exact va_S.rf
  rw [← hH]
  rw [← hH] at hP
  have hl := lv_entry ([.ref (ad kb), .int p1, .int p2]) (n := 4) (Nat.le_of_ble_eq_true rfl)
  rw [lg_entry_eq]
  generalize (lg_sl ([.ref (ad kb), .int p1, .int p2]) ++ List.replicate (4 - (lg_sl ([.ref (ad kb), .int p1, .int p2])).length) Slot.unset).toArray = ls at hl ⊢
  have hl : lv_has ls 4 [(0, .ref (ad kb)), (1, .int p1), (2, .int p2)] := hl
  unfold f_X5_open at hf
  refine lv_iconst (v := 0) hx hb dX5_open_0 (by decide) ?_
  refine lv_istore_n (lv' := [(3, .int 0), (0, .ref (ad kb)), (1, .int p1), (2, .int p2)]) hx hb dX5_open_1 rfl hl (by decide) rfl (fun ls hl => ?_)
  have L2 : ∀ (n2 : Nat) (x3_2 : Int32) (I_L2 : Nat → Nat → Int32) (D_L2 : Nat → Nat → UInt64), f_X5_open_L2 kb p1 p2 n2 x3_2 I_L2 D_L2 = some (I9, D9) → ∀ (H : Heap) (locs : List Loc) (ls : Array Slot), va_P (dC, dI) vwCl (iwM L a b ad cy I_L2 D_L2) H → va_S A s.heap H locs → lv_has ls 4 [(3, .int x3_2), (0, .ref (ad kb)), (1, .int p1), (2, .int p2)] → W p l e (headSpec wsX5_open ({ frames := 2, cells := 0, slots := 0, locals := 93 })).room s m ([.ref (ad kb), .int p1, .int p2] : List Value).toArray below meth c H locs 0 0 (MQ below (va_Qv (fun (_ : Unit) => True) (fun _ t => wM dC dI L a b ad cy I9 D9 t) A) ([.ref (ad kb), .int p1, .int p2] : List Value).toArray s 0 0 A) (F0 m 2 ls []) := by
    intro n2
    induction n2 with
    | zero => intro x3_2 I_L2 D_L2 hf; exact nomatch hf
    | succ n2 ih2 =>
      intro x3_2 I_L2 D_L2 hf H locs ls hP hS hl
      unfold f_X5_open_L2 at hf
      refine lv_iload_n hx hb dX5_open_2 rfl (lv_at hl 0 rfl) ?_
      refine lv_iload_n hx hb dX5_open_3 rfl (lv_at hl 3 rfl) ?_
      refine lv_icmp_ge (tgt := 35) hx hb dX5_open_4 (by decide) (fun c_1 => ?_) (fun c_1 => ?_)
      · have hf := it_t hf c_1
        have hf := Option.some.inj hf
        obtain ⟨q2, q3⟩ := Prod.mk.inj hf
        rw [q2, q3] at hP
        exact W.vret hx hb hr (fun t ht hW9 => ⟨⟨(), rfl, trivial, wM.of hP hK hN ht hW9⟩, hS.F ht⟩) hS.2.2 dX5_open_35
      · have hf := it_f hf c_1
        refine lv_aload_n hx hb dX5_open_7 rfl (lv_at hl 1 rfl) ?_
        obtain ⟨q_2, wq_2, heq_2⟩ := heM_Cold (cy := cy) (I := I_L2) (D := D_L2) (a := a) (b := b) hkb
        refine va_get (D := (dC, dI)) (ci := 6) (v := .ref (ad (kb + 7))) (C := RX5) (T := TX5) (N := 10) hx hb hts iX5_open_RX5 hown hK hP q_2 heq_2 rfl 8 (by decide) (hts (.fieldLink RX5 36 "OverrunHouseModel$Cold" "temp" "[D") (List.mem_cons_of_mem _ (List.mem_append_left _ (List.mem_of_getElem? (i := 0) rfl)))) (fun _ h9 => h9) rfl dX5_open_8 ?_
        refine lv_iload_n hx hb dX5_open_11 rfl (lv_at hl 2 rfl) ?_
        refine lv_ldc2d (v := 4620693217682128896) hx hb hown (hts (.constantDouble RX5 84 (4620693217682128896)) (List.mem_cons_of_mem _ (List.mem_append_left _ (List.mem_of_getElem? (i := 1) rfl)))) dX5_open_12 ?_
        refine lv_aload_n hx hb dX5_open_15 rfl (lv_at hl 1 rfl) ?_
        obtain ⟨q_3, wq_3, heq_3⟩ := heM_Cold (cy := cy) (I := I_L2) (D := D_L2) (a := a) (b := b) hkb
        refine va_get (D := (dC, dI)) (ci := 6) (v := .ref (ad (kb + 7))) (C := RX5) (T := TX5) (N := 10) hx hb hts iX5_open_RX5 hown hK hP q_3 heq_3 rfl 8 (by decide) (hts (.fieldLink RX5 36 "OverrunHouseModel$Cold" "temp" "[D") (List.mem_cons_of_mem _ (List.mem_append_left _ (List.mem_of_getElem? (i := 0) rfl)))) (fun _ h9 => h9) rfl dX5_open_16 ?_
        refine lv_iload_n hx hb dX5_open_19 rfl (lv_at hl 2 rfl) ?_
        obtain ⟨q_4, wq_4, heq_4⟩ := heM_Temp (cy := cy) (I := I_L2) (D := D_L2) (a := a) (b := b) hkb
        obtain ⟨h_5, hf⟩ := ck_out hf
        refine va_dald (n := 3) (f := D_L2 (kb + 7)) hx hb hK hP q_4 6 heq_4 rfl (inB_in h_5) dX5_open_20 ?_
        refine lv_ldc2d (v := 4609434218613702656) hx hb hown (hts (.constantDouble RX5 86 (4609434218613702656)) (List.mem_cons_of_mem _ (List.mem_append_left _ (List.mem_of_getElem? (i := 2) rfl)))) dX5_open_21 ?_
        obtain ⟨h_6, hf⟩ := ck_out hf
        refine lv_dadd hx hb dX5_open_24 (okD_n h_6) ?_
        obtain ⟨r_7, g_8, hf⟩ := bd_out hf
        refine va_calld (vj_min (rm := ({ frames := 1, cells := 0, slots := 0, locals := 70 })) (rest := [.int p1, .ref (ad (kb + 7))]) g_8 ⟨hx, hb, hml, hown, hts⟩ (va_cwS 2 hts gX5_open_J9_min_eb370 rfl rfl rfl (by decide +kernel) ⟨Nat.le_of_ble_eq_true rfl, Nat.le_of_ble_eq_true rfl⟩) (Nat.le_of_ble_eq_true rfl) (Nat.le_of_ble_eq_true rfl) rfl hl.1 rfl (lv_room (Nat.le_of_ble_eq_true rfl)) dX5_open_25) hS (fun q _ h => hA q (Nat.le_trans hS.1 h)) (fun q h => hA q (Nat.le_trans hS.1 h)) (fun r9 u t H1 locs ht hvm hw hB hz1 hk1 hS => ?_)
        subst hw
        have hP := va_Pnew hP hk1
        clear hz1 hk1 hvm ht hB
        generalize H1 = H at hP hS ⊢
        obtain ⟨q_9, wq_9, heq_9⟩ := heM_Temp (cy := cy) (I := I_L2) (D := D_L2) (a := a) (b := b) hkb
        obtain ⟨h_10, hf⟩ := ck_out hf
        obtain ⟨D_11, eD_11, hf⟩ := nm_out hf
        refine va_dast (n := 3) (f := D_L2 (kb + 7)) hx hb hK hP (hDD I_L2 D_L2) hS q_9 6 heq_9 rfl (inB_in h_10) dX5_open_28 (fun H locs hP _ hS => ?_)
        have hP : va_P (dC, dI) vwCl (iwM L a b ad cy I_L2 D_11) H := by rw [eD_11]; exact hqD hM wq_9 ((cellM_Temp ad cy a b hkb.1 _ _).trans rfl) hP
        refine lv_iinc (v := (x3_2 + 1)) (lv' := [(3, .int (x3_2 + 1)), (0, .ref (ad kb)), (1, .int p1), (2, .int p2)]) hx hb dX5_open_29 hl (k := 0) rfl rfl (by decide) rfl (fun ls hl => ?_)
        refine lv_goto (tgt := 2) hx hb dX5_open_32 (by decide) ?_
        exact ih2 (x3_2 + 1) I_L2 D_11 hf _ _ _ hP hS (lv_sub hl [0, 1, 2, 3] rfl)
  exact L2 200 0 I D hf _ _ _ hP hS (lv_sub hl [0, 1, 2, 3] rfl)

def f_X5_isCoarse (a b : Nat) (I : Nat → Nat → Int32) (D : Nat → Nat → UInt64) (kb : Nat) (p1 : Int32) : Option (Int32) :=
  ck (inB p1 12) ((if (Op.cmpValue (FP.dcmp (D (kb + 5) (p1).toNatClampNeg) (4632233691727265792 : UInt64)) CmpOp.l) ≤ 0 then some 0 else some 1))
theorem iX5_isCoarse_RX5 : ∀ w ∈ u_ws RX5 TX5 10, w ∈ wsX5_isCoarse := fun w h => List.mem_cons_of_mem _ (List.mem_append_right _ (h))
set_option maxHeartbeats 4000000 in
set_option maxRecDepth 100000 in
theorem mt_X5_isCoarse (l : Launch) (dC : Nat → ClassId) (dI : Nat → Nat → Nat) (L : List Nat) (a b : Nat) (ad : Nat → Nat) (cy : Nat → ClassId) (hM : mOK L a b ad) (sz : Nat) (I : Nat → Nat → Int32) (D : Nat → Nat → UInt64) (kb : Nat) (hkb : cOK L kb) (p1 : Int32) (rr : Int32) (hf : f_X5_isCoarse a b I D kb p1 = some rr) : Met l yX5_isCoarse wsX5_isCoarse ({ frames := 0, cells := 0, slots := 0, locals := 0 }) (va_Pc [.ref (ad kb), .int p1] (fun U => U.heap.size = sz ∧ wM dC dI L a b ad cy I D U)) (va_Qi (fun r (_ : Unit) => rr = r) (fun _ _ => True) (fun q => sz ≤ q)) 0 0 (fun q => sz ≤ q) := by
  refine Met.ofW (cc := cX5_isCoarse) (maxL := 2) (ret := (some .boolean)) (by decide) rfl ?_
  intro p e s m args below meth c s₁ B hml hv
  obtain ⟨rfl, hsz, hP, hK, hN⟩ := hv
  have hx := B.exec
  have hb := B.bytes
  have hr := B.returns
  have hts := atoms_spec (ws := wsX5_isCoarse) B.pre
  have hown : s.vm.findClass RX5 = some m.cls := findClass_of_methodNamed B.named
  have hlocks := B.notSynchronized
  subst hsz
  generalize hAe : (fun q : Nat => s.heap.size ≤ q) = A
  have hA : ∀ q : Nat, s.heap.size ≤ q → A q := fun q h => by rw [← hAe]; exact h
  obtain ⟨H, hH⟩ : ∃ H : Heap, H = s.heap := ⟨_, rfl⟩
  have hS : va_S A s.heap H [] := by rw [hH]; exact va_S.rf
  rw [← hH]
  rw [← hH] at hP
  have hl := lv_entry ([.ref (ad kb), .int p1]) (n := 2) (Nat.le_of_ble_eq_true rfl)
  rw [lg_entry_eq]
  generalize (lg_sl ([.ref (ad kb), .int p1]) ++ List.replicate (2 - (lg_sl ([.ref (ad kb), .int p1])).length) Slot.unset).toArray = ls at hl ⊢
  have hl : lv_has ls 2 [(0, .ref (ad kb)), (1, .int p1)] := hl
  unfold f_X5_isCoarse at hf
  refine lv_aload_n hx hb dX5_isCoarse_0 rfl (lv_at hl 0 rfl) ?_
  obtain ⟨q_1, wq_1, heq_1⟩ := heM_Cold (cy := cy) (I := I) (D := D) (a := a) (b := b) hkb
  refine va_get (D := (dC, dI)) (ci := 6) (v := .ref (ad (kb + 5))) (C := RX5) (T := TX5) (N := 10) hx hb hts iX5_isCoarse_RX5 hown hK hP q_1 heq_1 rfl 5 (by decide) (hts (.fieldLink RX5 29 "OverrunHouseModel$Cold" "crystal" "[D") (List.mem_cons_of_mem _ (List.mem_append_left _ (List.mem_of_getElem? (i := 0) rfl)))) (fun _ h9 => h9) rfl dX5_isCoarse_1 ?_
  refine lv_iload_n hx hb dX5_isCoarse_4 rfl (lv_at hl 1 rfl) ?_
  obtain ⟨q_2, wq_2, heq_2⟩ := heM_Crystal (cy := cy) (I := I) (D := D) (a := a) (b := b) hkb
  obtain ⟨h_3, hf⟩ := ck_out hf
  refine va_dald (n := 12) (f := D (kb + 5)) hx hb hK hP q_2 6 heq_2 rfl (inB_in h_3) dX5_isCoarse_5 ?_
  refine lv_ldc2d (v := 4632233691727265792) hx hb hown (hts (.constantDouble RX5 92 (4632233691727265792)) (List.mem_cons_of_mem _ (List.mem_append_left _ (List.mem_of_getElem? (i := 1) rfl)))) dX5_isCoarse_6 ?_
  refine lv_dcmp hx hb dX5_isCoarse_9 ?_
  refine lv_if_le (tgt := 17) hx hb dX5_isCoarse_10 (by decide) (fun c_4 => ?_) (fun c_4 => ?_)
  · have hf := it_t hf c_4
    refine lv_iconst (v := 0) hx hb dX5_isCoarse_17 (by decide) ?_
    have hf := Option.some.inj hf
    have q1 := hf
    exact W.zret (ty := .boolean) (v := 0) hx hb hr rfl (fun t ht hW9 => ⟨⟨0, (), rfl, q1.symm, trivial⟩, hS.F ht⟩) hS.2.2 dX5_isCoarse_18
  · have hf := it_f hf c_4
    refine lv_iconst (v := 1) hx hb dX5_isCoarse_13 (by decide) ?_
    refine lv_goto (tgt := 18) hx hb dX5_isCoarse_14 (by decide) ?_
    have hf := Option.some.inj hf
    have q1 := hf
    exact W.zret (ty := .boolean) (v := 1) hx hb hr rfl (fun t ht hW9 => ⟨⟨1, (), rfl, q1.symm, trivial⟩, hS.F ht⟩) hS.2.2 dX5_isCoarse_18

def f_X5_count_L4 (I : Nat → Nat → Int32) (kb : Nat) (p1 : Int32) : Nat → Int32 → Int32 → Option (Int32)
  | 0, _, _ => none
  | n4 + 1, x3_4, x2_4 => (if (I kb 0) ≤ x3_4 then some x2_4 else ck (inB x3_4 12) ((if (I (kb + 4) (x3_4).toNatClampNeg) = p1 then f_X5_count_L4 I kb p1 n4 (x3_4 + 1) (x2_4 + 1) else f_X5_count_L4 I kb p1 n4 (x3_4 + 1) (x2_4 + 0))))
def f_X5_count (a b : Nat) (I : Nat → Nat → Int32) (D : Nat → Nat → UInt64) (kb : Nat) (p1 : Int32) : Option (Int32) :=
  f_X5_count_L4 I kb p1 200 0 0
theorem iX5_count_RX5 : ∀ w ∈ u_ws RX5 TX5 10, w ∈ wsX5_count := fun w h => List.mem_cons_of_mem _ (List.mem_append_right _ (h))
set_option maxHeartbeats 4000000 in
set_option maxRecDepth 100000 in
theorem mt_X5_count (l : Launch) (dC : Nat → ClassId) (dI : Nat → Nat → Nat) (L : List Nat) (a b : Nat) (ad : Nat → Nat) (cy : Nat → ClassId) (hM : mOK L a b ad) (sz : Nat) (I : Nat → Nat → Int32) (D : Nat → Nat → UInt64) (kb : Nat) (hkb : cOK L kb) (p1 : Int32) (rr : Int32) (hf : f_X5_count a b I D kb p1 = some rr) : Met l yX5_count wsX5_count ({ frames := 0, cells := 0, slots := 0, locals := 0 }) (va_Pc [.ref (ad kb), .int p1] (fun U => U.heap.size = sz ∧ wM dC dI L a b ad cy I D U)) (va_Qi (fun r (_ : Unit) => rr = r) (fun _ _ => True) (fun q => sz ≤ q)) 0 0 (fun q => sz ≤ q) := by
  refine Met.ofW (cc := cX5_count) (maxL := 4) (ret := (some .int)) (by decide) rfl ?_
  intro p e s m args below meth c s₁ B hml hv
  obtain ⟨rfl, hsz, hP, hK, hN⟩ := hv
  have hx := B.exec
  have hb := B.bytes
  have hr := B.returns
  have hts := atoms_spec (ws := wsX5_count) B.pre
  have hown : s.vm.findClass RX5 = some m.cls := findClass_of_methodNamed B.named
  have hlocks := B.notSynchronized
  subst hsz
  generalize hAe : (fun q : Nat => s.heap.size ≤ q) = A
  have hA : ∀ q : Nat, s.heap.size ≤ q → A q := fun q h => by rw [← hAe]; exact h
  obtain ⟨H, hH⟩ : ∃ H : Heap, H = s.heap := ⟨_, rfl⟩
  have hS : va_S A s.heap H [] := by rw [hH]; exact va_S.rf
  rw [← hH]
  rw [← hH] at hP
  have hl := lv_entry ([.ref (ad kb), .int p1]) (n := 4) (Nat.le_of_ble_eq_true rfl)
  rw [lg_entry_eq]
  generalize (lg_sl ([.ref (ad kb), .int p1]) ++ List.replicate (4 - (lg_sl ([.ref (ad kb), .int p1])).length) Slot.unset).toArray = ls at hl ⊢
  have hl : lv_has ls 4 [(0, .ref (ad kb)), (1, .int p1)] := hl
  unfold f_X5_count at hf
  refine lv_iconst (v := 0) hx hb dX5_count_0 (by decide) ?_
  refine lv_istore_n (lv' := [(2, .int 0), (0, .ref (ad kb)), (1, .int p1)]) hx hb dX5_count_1 rfl hl (by decide) rfl (fun ls hl => ?_)
  refine lv_iconst (v := 0) hx hb dX5_count_2 (by decide) ?_
  refine lv_istore_n (lv' := [(3, .int 0), (2, .int 0), (0, .ref (ad kb)), (1, .int p1)]) hx hb dX5_count_3 rfl hl (by decide) rfl (fun ls hl => ?_)
  have L4 : ∀ (n4 : Nat) (x3_4 : Int32) (x2_4 : Int32), f_X5_count_L4 I kb p1 n4 x3_4 x2_4 = some rr → ∀ (H : Heap) (locs : List Loc) (ls : Array Slot), va_P (dC, dI) vwCl (iwM L a b ad cy I D) H → va_S A s.heap H locs → lv_has ls 4 [(3, .int x3_4), (2, .int x2_4), (0, .ref (ad kb)), (1, .int p1)] → W p l e (headSpec wsX5_count ({ frames := 0, cells := 0, slots := 0, locals := 0 })).room s m ([.ref (ad kb), .int p1] : List Value).toArray below meth c H locs 0 0 (MQ below (va_Qi (fun r (_ : Unit) => rr = r) (fun _ _ => True) A) ([.ref (ad kb), .int p1] : List Value).toArray s 0 0 A) (F0 m 4 ls []) := by
    intro n4
    induction n4 with
    | zero => intro x3_4 x2_4 hf; exact nomatch hf
    | succ n4 ih4 =>
      intro x3_4 x2_4 hf H locs ls hP hS hl
      unfold f_X5_count_L4 at hf
      refine lv_iload_n hx hb dX5_count_4 rfl (lv_at hl 0 rfl) ?_
      refine lv_aload_n hx hb dX5_count_5 rfl (lv_at hl 2 rfl) ?_
      obtain ⟨q_1, wq_1, heq_1⟩ := heM_Cold (cy := cy) (I := I) (D := D) (a := a) (b := b) hkb
      refine va_get (D := (dC, dI)) (ci := 6) (v := .int (I kb 0)) (C := RX5) (T := TX5) (N := 10) hx hb hts iX5_count_RX5 hown hK hP q_1 heq_1 rfl 0 (by decide) (hts (.fieldLink RX5 42 "OverrunHouseModel$Cold" "batches" "I") (List.mem_cons_of_mem _ (List.mem_append_left _ (List.mem_of_getElem? (i := 0) rfl)))) (fun _ h9 => h9) rfl dX5_count_6 ?_
      refine lv_icmp_ge (tgt := 36) hx hb dX5_count_9 (by decide) (fun c_2 => ?_) (fun c_2 => ?_)
      · have hf := it_t hf c_2
        refine lv_iload_n hx hb dX5_count_36 rfl (lv_at hl 1 rfl) ?_
        have hf := Option.some.inj hf
        have q1 := hf
        exact W.iret (v := x2_4) hx hb hr (fun t ht hW9 => ⟨⟨x2_4, (), rfl, q1.symm, trivial⟩, hS.F ht⟩) hS.2.2 dX5_count_37
      · have hf := it_f hf c_2
        refine lv_iload_n hx hb dX5_count_12 rfl (lv_at hl 1 rfl) ?_
        refine lv_aload_n hx hb dX5_count_13 rfl (lv_at hl 2 rfl) ?_
        obtain ⟨q_3, wq_3, heq_3⟩ := heM_Cold (cy := cy) (I := I) (D := D) (a := a) (b := b) hkb
        refine va_get (D := (dC, dI)) (ci := 6) (v := .ref (ad (kb + 4))) (C := RX5) (T := TX5) (N := 10) hx hb hts iX5_count_RX5 hown hK hP q_3 heq_3 rfl 4 (by decide) (hts (.fieldLink RX5 26 "OverrunHouseModel$Cold" "where" "[I") (List.mem_cons_of_mem _ (List.mem_append_left _ (List.mem_of_getElem? (i := 1) rfl)))) (fun _ h9 => h9) rfl dX5_count_14 ?_
        refine lv_iload_n hx hb dX5_count_17 rfl (lv_at hl 0 rfl) ?_
        obtain ⟨q_4, wq_4, heq_4⟩ := heM_Where (cy := cy) (I := I) (D := D) (a := a) (b := b) hkb
        obtain ⟨h_5, hf⟩ := ck_out hf
        refine va_iald (n := 12) (f := I (kb + 4)) hx hb hK hP q_4 0 heq_4 rfl (inB_in h_5) dX5_count_18 ?_
        refine lv_iload_n hx hb dX5_count_19 rfl (lv_at hl 3 rfl) ?_
        refine lv_icmp_ne (tgt := 27) hx hb dX5_count_20 (by decide) (fun c_6 => ?_) (fun c_6 => ?_)
        · have hf := it_f hf c_6
          refine lv_iconst (v := 0) hx hb dX5_count_27 (by decide) ?_
          refine lv_iadd hx hb dX5_count_28 ?_
          refine lv_istore_n (lv' := [(2, .int (x2_4 + 0)), (3, .int x3_4), (0, .ref (ad kb)), (1, .int p1)]) hx hb dX5_count_29 rfl hl (by decide) rfl (fun ls hl => ?_)
          refine lv_iinc (v := (x3_4 + 1)) (lv' := [(3, .int (x3_4 + 1)), (2, .int (x2_4 + 0)), (0, .ref (ad kb)), (1, .int p1)]) hx hb dX5_count_30 hl (k := 1) rfl rfl (by decide) rfl (fun ls hl => ?_)
          refine lv_goto (tgt := 4) hx hb dX5_count_33 (by decide) ?_
          exact ih4 (x3_4 + 1) (x2_4 + 0) hf _ _ _ hP hS (lv_sub hl [0, 1, 2, 3] rfl)
        · have hf := it_t hf c_6
          refine lv_iconst (v := 1) hx hb dX5_count_23 (by decide) ?_
          refine lv_goto (tgt := 28) hx hb dX5_count_24 (by decide) ?_
          refine lv_iadd hx hb dX5_count_28 ?_
          refine lv_istore_n (lv' := [(2, .int (x2_4 + 1)), (3, .int x3_4), (0, .ref (ad kb)), (1, .int p1)]) hx hb dX5_count_29 rfl hl (by decide) rfl (fun ls hl => ?_)
          refine lv_iinc (v := (x3_4 + 1)) (lv' := [(3, .int (x3_4 + 1)), (2, .int (x2_4 + 1)), (0, .ref (ad kb)), (1, .int p1)]) hx hb dX5_count_30 hl (k := 1) rfl rfl (by decide) rfl (fun ls hl => ?_)
          refine lv_goto (tgt := 4) hx hb dX5_count_33 (by decide) ?_
          exact ih4 (x3_4 + 1) (x2_4 + 1) hf _ _ _ hP hS (lv_sub hl [0, 1, 2, 3] rfl)
  exact L4 200 0 0 hf _ _ _ hP hS (lv_sub hl [0, 1, 2, 3] rfl)

def f_X7_thrown (a b : Nat) (I : Nat → Nat → Int32) (D : Nat → Nat → UInt64) : Option (Int32) :=
  some (I 0 0)
theorem iX7_thrown_RX7 : ∀ w ∈ u_ws RX7 TX7 9, w ∈ wsX7_thrown := fun w h => List.mem_cons_of_mem _ (List.mem_append_right _ (h))
set_option maxHeartbeats 4000000 in
set_option maxRecDepth 100000 in
theorem mt_X7_thrown (l : Launch) (dC : Nat → ClassId) (dI : Nat → Nat → Nat) (L : List Nat) (a b : Nat) (ad : Nat → Nat) (cy : Nat → ClassId) (hM : mOK L a b ad) (sz : Nat) (I : Nat → Nat → Int32) (D : Nat → Nat → UInt64) (rr : Int32) (hf : f_X7_thrown a b I D = some rr) : Met l yX7_thrown wsX7_thrown ({ frames := 0, cells := 0, slots := 0, locals := 0 }) (va_Pc [.ref (ad 0)] (fun U => U.heap.size = sz ∧ wM dC dI L a b ad cy I D U)) (va_Qi (fun r (_ : Unit) => rr = r) (fun _ _ => True) (fun q => sz ≤ q)) 0 0 (fun q => sz ≤ q) := by
  refine Met.ofW (cc := cX7_thrown) (maxL := 1) (ret := (some .int)) (by decide) rfl ?_
  intro p e s m args below meth c s₁ B hml hv
  obtain ⟨rfl, hsz, hP, hK, hN⟩ := hv
  have hx := B.exec
  have hb := B.bytes
  have hr := B.returns
  have hts := atoms_spec (ws := wsX7_thrown) B.pre
  have hown : s.vm.findClass RX7 = some m.cls := findClass_of_methodNamed B.named
  have hlocks := B.notSynchronized
  subst hsz
  generalize hAe : (fun q : Nat => s.heap.size ≤ q) = A
  have hA : ∀ q : Nat, s.heap.size ≤ q → A q := fun q h => by rw [← hAe]; exact h
  obtain ⟨H, hH⟩ : ∃ H : Heap, H = s.heap := ⟨_, rfl⟩
  have hS : va_S A s.heap H [] := by rw [hH]; exact va_S.rf
  rw [← hH]
  rw [← hH] at hP
  have hl := lv_entry ([.ref (ad 0)]) (n := 1) (Nat.le_of_ble_eq_true rfl)
  rw [lg_entry_eq]
  generalize (lg_sl ([.ref (ad 0)]) ++ List.replicate (1 - (lg_sl ([.ref (ad 0)])).length) Slot.unset).toArray = ls at hl ⊢
  have hl : lv_has ls 1 [(0, .ref (ad 0))] := hl
  unfold f_X7_thrown at hf
  refine lv_aload_n hx hb dX7_thrown_0 rfl (lv_at hl 0 rfl) ?_
  obtain ⟨q_1, wq_1, heq_1⟩ := heM_0 (cy := cy) (I := I) (D := D) hM
  refine va_get (D := (dC, dI)) (ci := 8) (v := .int (I 0 0)) (C := RX7) (T := TX7) (N := 9) hx hb hts iX7_thrown_RX7 hown hK hP q_1 heq_1 rfl 0 (by decide) (hts (.fieldLink RX7 32 "OverrunHouseModel" "thrown" "I") (List.mem_cons_of_mem _ (List.mem_append_left _ (List.mem_of_getElem? (i := 0) rfl)))) (fun _ h9 => h9) rfl dX7_thrown_1 ?_
  have hf := Option.some.inj hf
  have q1 := hf
  exact W.iret (v := (I 0 0)) hx hb hr (fun t ht hW9 => ⟨⟨(I 0 0), (), rfl, q1.symm, trivial⟩, hS.F ht⟩) hS.2.2 dX7_thrown_4

def f_X7_no (a b : Nat) (I : Nat → Nat → Int32) (D : Nat → Nat → UInt64) (p1 : Int32) : Option (Int32 × (Nat → Nat → Int32) × (Nat → Nat → UInt64)) :=
  nm (up2 I 0 0 p1) (fun I_2 => some (0, I_2, D))
theorem iX7_no_RX7 : ∀ w ∈ u_ws RX7 TX7 9, w ∈ wsX7_no := fun w h => List.mem_cons_of_mem _ (List.mem_append_right _ (h))
set_option maxHeartbeats 4000000 in
set_option maxRecDepth 100000 in
theorem mt_X7_no (l : Launch) (dC : Nat → ClassId) (dI : Nat → Nat → Nat) (L : List Nat) (a b : Nat) (ad : Nat → Nat) (cy : Nat → ClassId) (hM : mOK L a b ad) (sz : Nat) (I : Nat → Nat → Int32) (D : Nat → Nat → UInt64) (p1 : Int32) (rr : Int32) (I9 : Nat → Nat → Int32) (D9 : Nat → Nat → UInt64) (hf : f_X7_no a b I D p1 = some (rr, I9, D9)) : Met l yX7_no wsX7_no ({ frames := 0, cells := 0, slots := 0, locals := 0 }) (va_Pc [.ref (ad 0), .int p1] (fun U => U.heap.size = sz ∧ wM dC dI L a b ad cy I D U)) (va_Qi (fun r (_ : Unit) => rr = r) (fun _ t => wM dC dI L a b ad cy I9 D9 t) (AM L ad sz)) 0 0 (AM L ad sz) := by
  refine Met.ofW (cc := cX7_no) (maxL := 2) (ret := (some .int)) (by decide) rfl ?_
  intro p e s m args below meth c s₁ B hml hv
  obtain ⟨rfl, hsz, hP, hK, hN⟩ := hv
  have hx := B.exec
  have hb := B.bytes
  have hr := B.returns
  have hts := atoms_spec (ws := wsX7_no) B.pre
  have hown : s.vm.findClass RX7 = some m.cls := findClass_of_methodNamed B.named
  have hlocks := B.notSynchronized
  subst hsz
  generalize hAe : AM L ad s.heap.size = A
  have hA : ∀ q : Nat, s.heap.size ≤ q → A q := fun q h => by rw [← hAe]; exact Or.inr h
  have hAL : ∀ k, k ∈ L → A (ad k) := fun k h => by rw [← hAe]; exact Or.inl ⟨k, h, rfl⟩
  have hDD : ∀ I D, va_D A (iwM L a b ad cy I D) := fun I D => iwM_D hM hAL I D
  obtain ⟨H, hH⟩ : ∃ H : Heap, H = s.heap := ⟨_, rfl⟩
  have hS : va_S A s.heap H [] := by rw [hH]; exact va_S.rf
  rw [← hH]
  rw [← hH] at hP
  have hl := lv_entry ([.ref (ad 0), .int p1]) (n := 2) (Nat.le_of_ble_eq_true rfl)
  rw [lg_entry_eq]
  generalize (lg_sl ([.ref (ad 0), .int p1]) ++ List.replicate (2 - (lg_sl ([.ref (ad 0), .int p1])).length) Slot.unset).toArray = ls at hl ⊢
  have hl : lv_has ls 2 [(0, .ref (ad 0)), (1, .int p1)] := hl
  unfold f_X7_no at hf
  refine lv_aload_n hx hb dX7_no_0 rfl (lv_at hl 0 rfl) ?_
  refine lv_iload_n hx hb dX7_no_1 rfl (lv_at hl 1 rfl) ?_
  obtain ⟨q_1, wq_1, heq_1⟩ := heM_0 (cy := cy) (I := I) (D := D) hM
  obtain ⟨I_2, eI_2, hf⟩ := nm_out hf
  refine va_put (D := (dC, dI)) (ci := 8) (v := .int p1) (ty := .int) (C := RX7) (T := TX7) (N := 9) hx hb hts iX7_no_RX7 tyX7 tyX7_ok nmX7 hown hK hP (hDD I D) hS q_1 heq_1 rfl 0 (by decide) (hts (.fieldLink RX7 32 "OverrunHouseModel" "thrown" "I") (List.mem_cons_of_mem _ (List.mem_append_left _ (List.mem_of_getElem? (i := 0) rfl)))) (fun _ h9 => h9) rfl (by decide +kernel) rfl rfl (Nat.le_of_ble_eq_true rfl) dX7_no_2 (fun H locs hP _ hS => ?_)
  have hP : va_P (dC, dI) vwCl (iwM L a b ad cy I_2 D) H := by rw [eI_2]; exact hqI hM wq_1 ((cellM_0 ad cy a b _ _).trans rfl) hP
  refine lv_iconst (v := 0) hx hb dX7_no_5 (by decide) ?_
  have hf := Option.some.inj hf
  obtain ⟨q1, q2⟩ := Prod.mk.inj hf
  obtain ⟨q2, q3⟩ := Prod.mk.inj q2
  rw [q2, q3] at hP
  exact W.iret (v := 0) hx hb hr (fun t ht hW9 => ⟨⟨0, (), rfl, q1.symm, wM.of hP hK hN ht hW9⟩, hS.F ht⟩) hS.2.2 dX7_no_6

def f_X7_in (p0 : Int32) (p1 : Int32) (p2 : Int32) : Option (Int32) :=
  (if p0 < p1 then some 0 else (if p2 < p0 then some 0 else some 1))
set_option maxHeartbeats 4000000 in
set_option maxRecDepth 100000 in
theorem mt_X7_in (l : Launch) (sz : Nat) (p0 : Int32) (p1 : Int32) (p2 : Int32) (rr : Int32) (hf : f_X7_in p0 p1 p2 = some rr) : Met l yX7_in wsX7_in ({ frames := 0, cells := 0, slots := 0, locals := 0 }) (va_Pc [.int p0, .int p1, .int p2] (fun U => U.heap.size = sz)) (va_Qi (fun r (_ : Unit) => rr = r) (fun _ _ => True) (fun q => sz ≤ q)) 0 0 (fun q => sz ≤ q) := by
  refine Met.ofW (cc := cX7_in) (maxL := 3) (ret := (some .boolean)) (by decide) rfl ?_
  intro p e s m args below meth c s₁ B hml hv
  obtain ⟨rfl, hsz⟩ := hv
  have hx := B.exec
  have hb := B.bytes
  have hr := B.returns
  have hts := atoms_spec (ws := wsX7_in) B.pre
  have hown : s.vm.findClass RX7 = some m.cls := findClass_of_methodNamed B.named
  have hlocks := B.notSynchronized
  subst hsz
  generalize hAe : (fun q : Nat => s.heap.size ≤ q) = A
  have hA : ∀ q : Nat, s.heap.size ≤ q → A q := fun q h => by rw [← hAe]; exact h
  obtain ⟨H, hH⟩ : ∃ H : Heap, H = s.heap := ⟨_, rfl⟩
  have hS : va_S A s.heap H [] := by rw [hH]; exact va_S.rf
  rw [← hH]
  have hl := lv_entry ([.int p0, .int p1, .int p2]) (n := 3) (Nat.le_of_ble_eq_true rfl)
  rw [lg_entry_eq]
  generalize (lg_sl ([.int p0, .int p1, .int p2]) ++ List.replicate (3 - (lg_sl ([.int p0, .int p1, .int p2])).length) Slot.unset).toArray = ls at hl ⊢
  have hl : lv_has ls 3 [(0, .int p0), (1, .int p1), (2, .int p2)] := hl
  unfold f_X7_in at hf
  refine lv_iload_n hx hb dX7_in_0 rfl (lv_at hl 0 rfl) ?_
  refine lv_iload_n hx hb dX7_in_1 rfl (lv_at hl 1 rfl) ?_
  refine lv_icmp_lt (tgt := 14) hx hb dX7_in_2 (by decide) (fun c_1 => ?_) (fun c_1 => ?_)
  · have hf := it_t hf c_1
    refine lv_iconst (v := 0) hx hb dX7_in_14 (by decide) ?_
    have hf := Option.some.inj hf
    have q1 := hf
    exact W.zret (ty := .boolean) (v := 0) hx hb hr rfl (fun t ht hW9 => ⟨⟨0, (), rfl, q1.symm, trivial⟩, hS.F ht⟩) hS.2.2 dX7_in_15
  · have hf := it_f hf c_1
    refine lv_iload_n hx hb dX7_in_5 rfl (lv_at hl 0 rfl) ?_
    refine lv_iload_n hx hb dX7_in_6 rfl (lv_at hl 2 rfl) ?_
    refine lv_icmp_gt (tgt := 14) hx hb dX7_in_7 (by decide) (fun c_2 => ?_) (fun c_2 => ?_)
    · have hf := it_t hf c_2
      refine lv_iconst (v := 0) hx hb dX7_in_14 (by decide) ?_
      have hf := Option.some.inj hf
      have q1 := hf
      exact W.zret (ty := .boolean) (v := 0) hx hb hr rfl (fun t ht hW9 => ⟨⟨0, (), rfl, q1.symm, trivial⟩, hS.F ht⟩) hS.2.2 dX7_in_15
    · have hf := it_f hf c_2
      refine lv_iconst (v := 1) hx hb dX7_in_10 (by decide) ?_
      refine lv_goto (tgt := 15) hx hb dX7_in_11 (by decide) ?_
      have hf := Option.some.inj hf
      have q1 := hf
      exact W.zret (ty := .boolean) (v := 1) hx hb hr rfl (fun t ht hW9 => ⟨⟨1, (), rfl, q1.symm, trivial⟩, hS.F ht⟩) hS.2.2 dX7_in_15

def f_X7_isIngredient (a b : Nat) (I : Nat → Nat → Int32) (D : Nat → Nat → UInt64) (p1 : Int32) : Option (Int32) :=
  bd (f_size1 a b I D ) (fun r_2 => bd (f_X7_in p1 0 (r_2 - 1)) (fun r_5 => ck (isB r_5) (some r_5)))
theorem iX7_isIngredient_RX7 : ∀ w ∈ u_ws RX7 TX7 9, w ∈ wsX7_isIngredient := fun w h => List.mem_cons_of_mem _ (List.mem_append_left _ (List.mem_append_right _ (h)))
set_option maxHeartbeats 4000000 in
set_option maxRecDepth 100000 in
theorem mt_X7_isIngredient (l : Launch) (dC : Nat → ClassId) (dI : Nat → Nat → Nat) (L : List Nat) (a b : Nat) (ad : Nat → Nat) (cy : Nat → ClassId) (hM : mOK L a b ad) (sz : Nat) (I : Nat → Nat → Int32) (D : Nat → Nat → UInt64) (p1 : Int32) (rr : Int32) (hf : f_X7_isIngredient a b I D p1 = some rr) : Met l yX7_isIngredient wsX7_isIngredient ({ frames := 1, cells := 0, slots := 0, locals := 22 }) (va_Pc [.ref (ad 0), .int p1] (fun U => U.heap.size = sz ∧ wM dC dI L a b ad cy I D U)) (va_Qi (fun r (_ : Unit) => rr = r) (fun _ _ => True) (fun q => sz ≤ q)) 0 0 (fun q => sz ≤ q) := by
  refine Met.ofW (cc := cX7_isIngredient) (maxL := 2) (ret := (some .boolean)) (by decide) rfl ?_
  intro p e s m args below meth c s₁ B hml hv
  obtain ⟨rfl, hsz, hP, hK, hN⟩ := hv
  have hx := B.exec
  have hb := B.bytes
  have hr := B.returns
  have hts := atoms_spec (ws := wsX7_isIngredient) B.pre
  have hown : s.vm.findClass RX7 = some m.cls := findClass_of_methodNamed B.named
  have hlocks := B.notSynchronized
  subst hsz
  generalize hAe : (fun q : Nat => s.heap.size ≤ q) = A
  have hA : ∀ q : Nat, s.heap.size ≤ q → A q := fun q h => by rw [← hAe]; exact h
  obtain ⟨H, hH⟩ : ∃ H : Heap, H = s.heap := ⟨_, rfl⟩
  have hS : va_S A s.heap H [] := by rw [hH]; exact va_S.rf
  rw [← hH]
  rw [← hH] at hP
  have hl := lv_entry ([.ref (ad 0), .int p1]) (n := 2) (Nat.le_of_ble_eq_true rfl)
  rw [lg_entry_eq]
  generalize (lg_sl ([.ref (ad 0), .int p1]) ++ List.replicate (2 - (lg_sl ([.ref (ad 0), .int p1])).length) Slot.unset).toArray = ls at hl ⊢
  have hl : lv_has ls 2 [(0, .ref (ad 0)), (1, .int p1)] := hl
  unfold f_X7_isIngredient at hf
  refine lv_iload_n hx hb dX7_isIngredient_0 rfl (lv_at hl 1 rfl) ?_
  refine lv_iconst (v := 0) hx hb dX7_isIngredient_1 (by decide) ?_
  refine lv_aload_n hx hb dX7_isIngredient_2 rfl (lv_at hl 0 rfl) ?_
  obtain ⟨q_1, wq_1, heq_1⟩ := heM_0 (cy := cy) (I := I) (D := D) hM
  refine va_get (D := (dC, dI)) (ci := 8) (v := .ref (ad 1)) (C := RX7) (T := TX7) (N := 9) hx hb hts iX7_isIngredient_RX7 hown hK hP q_1 heq_1 rfl 1 (by decide) (hts (.fieldLink RX7 10 "OverrunHouseModel" "ingredients" "Ljava/util/List;") (List.mem_cons_of_mem _ (List.mem_append_left _ (List.mem_append_left _ (List.mem_of_getElem? (i := 0) rfl))))) (fun _ h9 => h9) rfl dX7_isIngredient_3 ?_
  obtain ⟨r_2, g_3, hf⟩ := bd_out hf
  obtain ⟨q_4, wq_4, heq_4⟩ := heM_1 (cy := cy) (I := I) (D := D) hM
  refine va_callFi (va_runF (As := []) (rest := [.int 0, .int p1]) (hK.1 0 _ rfl).2 ⟨hx, hb, hml, hown, hts⟩ (mt_size1 l dC dI L a b ad cy hM H.size I D  r_2 g_3) (va_cwF 0 hts gX7_isIngredient_Jx4a65c_size_8abf5_f36Jx4a65c rfl rfl rfl hN.2.1 (by decide +kernel) ⟨Nat.le_of_ble_eq_true rfl, Nat.le_of_ble_eq_true rfl⟩) ⟨(wM.pre [.ref (ad 1)] hP hK hN).1, wM.recv (C := RJx4a65c) (T := TJx4a65c) (N := 3) hP hK heq_4 rfl, (wM.pre [.ref (ad 1)] hP hK hN).2⟩ rfl rfl hl.1 rfl (lv_room (Nat.le_of_ble_eq_true rfl)) dX7_isIngredient_6 ⟨Nat.le_of_ble_eq_true rfl, Nat.le_of_ble_eq_true rfl⟩) hS (fun q _ h => hA q (Nat.le_trans hS.1 h)) (fun q h => hA q (Nat.le_trans hS.1 h)) (fun r9 u t H1 locs ht hvm hw hB hz1 hk1 hS => ?_)
  subst hw
  have hP := va_Pnew hP hk1
  clear hz1 hk1 hvm ht hB
  generalize H1 = H at hP hS ⊢
  refine lv_iconst (v := 1) hx hb dX7_isIngredient_11 (by decide) ?_
  refine lv_isub hx hb dX7_isIngredient_12 ?_
  obtain ⟨r_5, g_6, hf⟩ := bd_out hf
  refine va_calli (va_runS (As := [.int p1, .int 0, .int (r_2 - 1)]) (rest := []) ⟨hx, hb, hml, hown, hts⟩ (mt_X7_in l H.size p1 0 (r_2 - 1) r_5 g_6) (va_cwS 3 hts gX7_isIngredient_X7_in rfl rfl rfl (by decide +kernel) ⟨Nat.le_of_ble_eq_true rfl, Nat.le_of_ble_eq_true rfl⟩) (pre0 [.int p1, .int 0, .int (r_2 - 1)]) rfl rfl hl.1 rfl (lv_room (Nat.le_of_ble_eq_true rfl)) dX7_isIngredient_13 ⟨Nat.le_of_ble_eq_true rfl, Nat.le_of_ble_eq_true rfl⟩) hS (fun q _ h => hA q (Nat.le_trans hS.1 h)) (fun q h => hA q (Nat.le_trans hS.1 h)) (fun r9 u t H1 locs ht hvm hw hB hz1 hk1 hS => ?_)
  subst hw
  have hP := va_Pnew hP hk1
  clear hz1 hk1 hvm ht hB
  generalize H1 = H at hP hS ⊢
  obtain ⟨h_7, hf⟩ := ck_out hf
  have hf := Option.some.inj hf
  have q1 := hf
  exact W.zret (ty := .boolean) (v := r_5) hx hb hr (isB_nar h_7) (fun t ht hW9 => ⟨⟨r_5, (), rfl, q1.symm, trivial⟩, hS.F ht⟩) hS.2.2 dX7_isIngredient_16

def f_X7_isMix (a b : Nat) (I : Nat → Nat → Int32) (D : Nat → Nat → UInt64) (p1 : Int32) : Option (Int32) :=
  bd (f_size2 a b I D ) (fun r_2 => bd (f_X7_in p1 0 (r_2 - 1)) (fun r_5 => ck (isB r_5) (some r_5)))
theorem iX7_isMix_RX7 : ∀ w ∈ u_ws RX7 TX7 9, w ∈ wsX7_isMix := fun w h => List.mem_cons_of_mem _ (List.mem_append_left _ (List.mem_append_right _ (h)))
set_option maxHeartbeats 4000000 in
set_option maxRecDepth 100000 in
theorem mt_X7_isMix (l : Launch) (dC : Nat → ClassId) (dI : Nat → Nat → Nat) (L : List Nat) (a b : Nat) (ad : Nat → Nat) (cy : Nat → ClassId) (hM : mOK L a b ad) (sz : Nat) (I : Nat → Nat → Int32) (D : Nat → Nat → UInt64) (p1 : Int32) (rr : Int32) (hf : f_X7_isMix a b I D p1 = some rr) : Met l yX7_isMix wsX7_isMix ({ frames := 1, cells := 0, slots := 0, locals := 22 }) (va_Pc [.ref (ad 0), .int p1] (fun U => U.heap.size = sz ∧ wM dC dI L a b ad cy I D U)) (va_Qi (fun r (_ : Unit) => rr = r) (fun _ _ => True) (fun q => sz ≤ q)) 0 0 (fun q => sz ≤ q) := by
  refine Met.ofW (cc := cX7_isMix) (maxL := 2) (ret := (some .boolean)) (by decide) rfl ?_
  intro p e s m args below meth c s₁ B hml hv
  obtain ⟨rfl, hsz, hP, hK, hN⟩ := hv
  have hx := B.exec
  have hb := B.bytes
  have hr := B.returns
  have hts := atoms_spec (ws := wsX7_isMix) B.pre
  have hown : s.vm.findClass RX7 = some m.cls := findClass_of_methodNamed B.named
  have hlocks := B.notSynchronized
  subst hsz
  generalize hAe : (fun q : Nat => s.heap.size ≤ q) = A
  have hA : ∀ q : Nat, s.heap.size ≤ q → A q := fun q h => by rw [← hAe]; exact h
  obtain ⟨H, hH⟩ : ∃ H : Heap, H = s.heap := ⟨_, rfl⟩
  have hS : va_S A s.heap H [] := by rw [hH]; exact va_S.rf
  rw [← hH]
  rw [← hH] at hP
  have hl := lv_entry ([.ref (ad 0), .int p1]) (n := 2) (Nat.le_of_ble_eq_true rfl)
  rw [lg_entry_eq]
  generalize (lg_sl ([.ref (ad 0), .int p1]) ++ List.replicate (2 - (lg_sl ([.ref (ad 0), .int p1])).length) Slot.unset).toArray = ls at hl ⊢
  have hl : lv_has ls 2 [(0, .ref (ad 0)), (1, .int p1)] := hl
  unfold f_X7_isMix at hf
  refine lv_iload_n hx hb dX7_isMix_0 rfl (lv_at hl 1 rfl) ?_
  refine lv_iconst (v := 0) hx hb dX7_isMix_1 (by decide) ?_
  refine lv_aload_n hx hb dX7_isMix_2 rfl (lv_at hl 0 rfl) ?_
  obtain ⟨q_1, wq_1, heq_1⟩ := heM_0 (cy := cy) (I := I) (D := D) hM
  refine va_get (D := (dC, dI)) (ci := 8) (v := .ref (ad 2)) (C := RX7) (T := TX7) (N := 9) hx hb hts iX7_isMix_RX7 hown hK hP q_1 heq_1 rfl 2 (by decide) (hts (.fieldLink RX7 16 "OverrunHouseModel" "mixes" "Ljava/util/List;") (List.mem_cons_of_mem _ (List.mem_append_left _ (List.mem_append_left _ (List.mem_of_getElem? (i := 0) rfl))))) (fun _ h9 => h9) rfl dX7_isMix_3 ?_
  obtain ⟨r_2, g_3, hf⟩ := bd_out hf
  obtain ⟨q_4, wq_4, heq_4⟩ := heM_2 (cy := cy) (I := I) (D := D) hM
  refine va_callFi (va_runF (As := []) (rest := [.int 0, .int p1]) (hK.1 0 _ rfl).2 ⟨hx, hb, hml, hown, hts⟩ (mt_size2 l dC dI L a b ad cy hM H.size I D  r_2 g_3) (va_cwF 0 hts gX7_isMix_Jx4a65c_size_8abf5_f36Jx4a65c rfl rfl rfl hN.2.1 (by decide +kernel) ⟨Nat.le_of_ble_eq_true rfl, Nat.le_of_ble_eq_true rfl⟩) ⟨(wM.pre [.ref (ad 2)] hP hK hN).1, wM.recv (C := RJx4a65c) (T := TJx4a65c) (N := 3) hP hK heq_4 rfl, (wM.pre [.ref (ad 2)] hP hK hN).2⟩ rfl rfl hl.1 rfl (lv_room (Nat.le_of_ble_eq_true rfl)) dX7_isMix_6 ⟨Nat.le_of_ble_eq_true rfl, Nat.le_of_ble_eq_true rfl⟩) hS (fun q _ h => hA q (Nat.le_trans hS.1 h)) (fun q h => hA q (Nat.le_trans hS.1 h)) (fun r9 u t H1 locs ht hvm hw hB hz1 hk1 hS => ?_)
  subst hw
  have hP := va_Pnew hP hk1
  clear hz1 hk1 hvm ht hB
  generalize H1 = H at hP hS ⊢
  refine lv_iconst (v := 1) hx hb dX7_isMix_11 (by decide) ?_
  refine lv_isub hx hb dX7_isMix_12 ?_
  obtain ⟨r_5, g_6, hf⟩ := bd_out hf
  refine va_calli (va_runS (As := [.int p1, .int 0, .int (r_2 - 1)]) (rest := []) ⟨hx, hb, hml, hown, hts⟩ (mt_X7_in l H.size p1 0 (r_2 - 1) r_5 g_6) (va_cwS 3 hts gX7_isMix_X7_in rfl rfl rfl (by decide +kernel) ⟨Nat.le_of_ble_eq_true rfl, Nat.le_of_ble_eq_true rfl⟩) (pre0 [.int p1, .int 0, .int (r_2 - 1)]) rfl rfl hl.1 rfl (lv_room (Nat.le_of_ble_eq_true rfl)) dX7_isMix_13 ⟨Nat.le_of_ble_eq_true rfl, Nat.le_of_ble_eq_true rfl⟩) hS (fun q _ h => hA q (Nat.le_trans hS.1 h)) (fun q h => hA q (Nat.le_trans hS.1 h)) (fun r9 u t H1 locs ht hvm hw hB hz1 hk1 hS => ?_)
  subst hw
  have hP := va_Pnew hP hk1
  clear hz1 hk1 hvm ht hB
  generalize H1 = H at hP hS ⊢
  obtain ⟨h_7, hf⟩ := ck_out hf
  have hf := Option.some.inj hf
  have q1 := hf
  exact W.zret (ty := .boolean) (v := r_5) hx hb hr (isB_nar h_7) (fun t ht hW9 => ⟨⟨r_5, (), rfl, q1.symm, trivial⟩, hS.F ht⟩) hS.2.2 dX7_isMix_16

def f_X7_isBatch (a b : Nat) (I : Nat → Nat → Int32) (D : Nat → Nat → UInt64) (p1 : Int32) : Option (Int32) :=
  bd (f_X7_in p1 0 ((I 5 0) - 1)) (fun r_3 => ck (isB r_3) (some r_3))
theorem iX7_isBatch_RX5 : ∀ w ∈ u_ws RX5 TX5 10, w ∈ wsX7_isBatch := fun w h => List.mem_cons_of_mem _ (List.mem_append_right _ (h))
theorem iX7_isBatch_RX7 : ∀ w ∈ u_ws RX7 TX7 9, w ∈ wsX7_isBatch := fun w h => List.mem_cons_of_mem _ (List.mem_append_left _ (List.mem_append_right _ (h)))
set_option maxHeartbeats 4000000 in
set_option maxRecDepth 100000 in
theorem mt_X7_isBatch (l : Launch) (dC : Nat → ClassId) (dI : Nat → Nat → Nat) (L : List Nat) (a b : Nat) (ad : Nat → Nat) (cy : Nat → ClassId) (hM : mOK L a b ad) (sz : Nat) (I : Nat → Nat → Int32) (D : Nat → Nat → UInt64) (p1 : Int32) (rr : Int32) (hf : f_X7_isBatch a b I D p1 = some rr) : Met l yX7_isBatch wsX7_isBatch ({ frames := 1, cells := 0, slots := 0, locals := 22 }) (va_Pc [.ref (ad 0), .int p1] (fun U => U.heap.size = sz ∧ wM dC dI L a b ad cy I D U)) (va_Qi (fun r (_ : Unit) => rr = r) (fun _ _ => True) (fun q => sz ≤ q)) 0 0 (fun q => sz ≤ q) := by
  refine Met.ofW (cc := cX7_isBatch) (maxL := 2) (ret := (some .boolean)) (by decide) rfl ?_
  intro p e s m args below meth c s₁ B hml hv
  obtain ⟨rfl, hsz, hP, hK, hN⟩ := hv
  have hx := B.exec
  have hb := B.bytes
  have hr := B.returns
  have hts := atoms_spec (ws := wsX7_isBatch) B.pre
  have hown : s.vm.findClass RX7 = some m.cls := findClass_of_methodNamed B.named
  have hlocks := B.notSynchronized
  subst hsz
  generalize hAe : (fun q : Nat => s.heap.size ≤ q) = A
  have hA : ∀ q : Nat, s.heap.size ≤ q → A q := fun q h => by rw [← hAe]; exact h
  obtain ⟨H, hH⟩ : ∃ H : Heap, H = s.heap := ⟨_, rfl⟩
  have hS : va_S A s.heap H [] := by rw [hH]; exact va_S.rf
  rw [← hH]
  rw [← hH] at hP
  have hl := lv_entry ([.ref (ad 0), .int p1]) (n := 2) (Nat.le_of_ble_eq_true rfl)
  rw [lg_entry_eq]
  generalize (lg_sl ([.ref (ad 0), .int p1]) ++ List.replicate (2 - (lg_sl ([.ref (ad 0), .int p1])).length) Slot.unset).toArray = ls at hl ⊢
  have hl : lv_has ls 2 [(0, .ref (ad 0)), (1, .int p1)] := hl
  unfold f_X7_isBatch at hf
  refine lv_iload_n hx hb dX7_isBatch_0 rfl (lv_at hl 1 rfl) ?_
  refine lv_iconst (v := 0) hx hb dX7_isBatch_1 (by decide) ?_
  refine lv_aload_n hx hb dX7_isBatch_2 rfl (lv_at hl 0 rfl) ?_
  obtain ⟨q_1, wq_1, heq_1⟩ := heM_0 (cy := cy) (I := I) (D := D) hM
  refine va_get (D := (dC, dI)) (ci := 8) (v := .ref (ad 5)) (C := RX7) (T := TX7) (N := 9) hx hb hts iX7_isBatch_RX7 hown hK hP q_1 heq_1 rfl 3 (by decide) (hts (.fieldLink RX7 24 "OverrunHouseModel" "cold" "LOverrunHouseModel$Cold;") (List.mem_cons_of_mem _ (List.mem_append_left _ (List.mem_append_left _ (List.mem_of_getElem? (i := 0) rfl))))) (fun _ h9 => h9) rfl dX7_isBatch_3 ?_
  obtain ⟨q_2, wq_2, heq_2⟩ := heM_Cold (cy := cy) (I := I) (D := D) (a := a) (b := b) (cOK_5 hM)
  refine va_get (D := (dC, dI)) (ci := 6) (v := .int (I 5 0)) (C := RX5) (T := TX5) (N := 10) hx hb hts iX7_isBatch_RX5 hown hK hP q_2 heq_2 rfl 0 (by decide) (hts (.fieldLink RX7 46 "OverrunHouseModel$Cold" "batches" "I") (List.mem_cons_of_mem _ (List.mem_append_left _ (List.mem_append_left _ (List.mem_of_getElem? (i := 1) rfl))))) (fun _ h9 => h9) rfl dX7_isBatch_6 ?_
  refine lv_iconst (v := 1) hx hb dX7_isBatch_9 (by decide) ?_
  refine lv_isub hx hb dX7_isBatch_10 ?_
  obtain ⟨r_3, g_4, hf⟩ := bd_out hf
  refine va_calli (va_runS (As := [.int p1, .int 0, .int ((I 5 0) - 1)]) (rest := []) ⟨hx, hb, hml, hown, hts⟩ (mt_X7_in l H.size p1 0 ((I 5 0) - 1) r_3 g_4) (va_cwS 3 hts gX7_isBatch_X7_in rfl rfl rfl (by decide +kernel) ⟨Nat.le_of_ble_eq_true rfl, Nat.le_of_ble_eq_true rfl⟩) (pre0 [.int p1, .int 0, .int ((I 5 0) - 1)]) rfl rfl hl.1 rfl (lv_room (Nat.le_of_ble_eq_true rfl)) dX7_isBatch_11 ⟨Nat.le_of_ble_eq_true rfl, Nat.le_of_ble_eq_true rfl⟩) hS (fun q _ h => hA q (Nat.le_trans hS.1 h)) (fun q h => hA q (Nat.le_trans hS.1 h)) (fun r9 u t H1 locs ht hvm hw hB hz1 hk1 hS => ?_)
  subst hw
  have hP := va_Pnew hP hk1
  clear hz1 hk1 hvm ht hB
  generalize H1 = H at hP hS ⊢
  obtain ⟨h_5, hf⟩ := ck_out hf
  have hf := Option.some.inj hf
  have q1 := hf
  exact W.zret (ty := .boolean) (v := r_3) hx hb hr (isB_nar h_5) (fun t ht hW9 => ⟨⟨r_3, (), rfl, q1.symm, trivial⟩, hS.F ht⟩) hS.2.2 dX7_isBatch_14

def f_X7_isStore (a b : Nat) (I : Nat → Nat → Int32) (D : Nat → Nat → UInt64) (p1 : Int32) : Option (Int32) :=
  bd (f_X7_in p1 0 ((I 5 6) - 1)) (fun r_3 => ck (isB r_3) (some r_3))
theorem iX7_isStore_RX5 : ∀ w ∈ u_ws RX5 TX5 10, w ∈ wsX7_isStore := fun w h => List.mem_cons_of_mem _ (List.mem_append_right _ (h))
theorem iX7_isStore_RX7 : ∀ w ∈ u_ws RX7 TX7 9, w ∈ wsX7_isStore := fun w h => List.mem_cons_of_mem _ (List.mem_append_left _ (List.mem_append_right _ (h)))
set_option maxHeartbeats 4000000 in
set_option maxRecDepth 100000 in
theorem mt_X7_isStore (l : Launch) (dC : Nat → ClassId) (dI : Nat → Nat → Nat) (L : List Nat) (a b : Nat) (ad : Nat → Nat) (cy : Nat → ClassId) (hM : mOK L a b ad) (sz : Nat) (I : Nat → Nat → Int32) (D : Nat → Nat → UInt64) (p1 : Int32) (rr : Int32) (hf : f_X7_isStore a b I D p1 = some rr) : Met l yX7_isStore wsX7_isStore ({ frames := 1, cells := 0, slots := 0, locals := 22 }) (va_Pc [.ref (ad 0), .int p1] (fun U => U.heap.size = sz ∧ wM dC dI L a b ad cy I D U)) (va_Qi (fun r (_ : Unit) => rr = r) (fun _ _ => True) (fun q => sz ≤ q)) 0 0 (fun q => sz ≤ q) := by
  refine Met.ofW (cc := cX7_isStore) (maxL := 2) (ret := (some .boolean)) (by decide) rfl ?_
  intro p e s m args below meth c s₁ B hml hv
  obtain ⟨rfl, hsz, hP, hK, hN⟩ := hv
  have hx := B.exec
  have hb := B.bytes
  have hr := B.returns
  have hts := atoms_spec (ws := wsX7_isStore) B.pre
  have hown : s.vm.findClass RX7 = some m.cls := findClass_of_methodNamed B.named
  have hlocks := B.notSynchronized
  subst hsz
  generalize hAe : (fun q : Nat => s.heap.size ≤ q) = A
  have hA : ∀ q : Nat, s.heap.size ≤ q → A q := fun q h => by rw [← hAe]; exact h
  obtain ⟨H, hH⟩ : ∃ H : Heap, H = s.heap := ⟨_, rfl⟩
  have hS : va_S A s.heap H [] := by rw [hH]; exact va_S.rf
  rw [← hH]
  rw [← hH] at hP
  have hl := lv_entry ([.ref (ad 0), .int p1]) (n := 2) (Nat.le_of_ble_eq_true rfl)
  rw [lg_entry_eq]
  generalize (lg_sl ([.ref (ad 0), .int p1]) ++ List.replicate (2 - (lg_sl ([.ref (ad 0), .int p1])).length) Slot.unset).toArray = ls at hl ⊢
  have hl : lv_has ls 2 [(0, .ref (ad 0)), (1, .int p1)] := hl
  unfold f_X7_isStore at hf
  refine lv_iload_n hx hb dX7_isStore_0 rfl (lv_at hl 1 rfl) ?_
  refine lv_iconst (v := 0) hx hb dX7_isStore_1 (by decide) ?_
  refine lv_aload_n hx hb dX7_isStore_2 rfl (lv_at hl 0 rfl) ?_
  obtain ⟨q_1, wq_1, heq_1⟩ := heM_0 (cy := cy) (I := I) (D := D) hM
  refine va_get (D := (dC, dI)) (ci := 8) (v := .ref (ad 5)) (C := RX7) (T := TX7) (N := 9) hx hb hts iX7_isStore_RX7 hown hK hP q_1 heq_1 rfl 3 (by decide) (hts (.fieldLink RX7 24 "OverrunHouseModel" "cold" "LOverrunHouseModel$Cold;") (List.mem_cons_of_mem _ (List.mem_append_left _ (List.mem_append_left _ (List.mem_of_getElem? (i := 0) rfl))))) (fun _ h9 => h9) rfl dX7_isStore_3 ?_
  obtain ⟨q_2, wq_2, heq_2⟩ := heM_Cold (cy := cy) (I := I) (D := D) (a := a) (b := b) (cOK_5 hM)
  refine va_get (D := (dC, dI)) (ci := 6) (v := .int (I 5 6)) (C := RX5) (T := TX5) (N := 10) hx hb hts iX7_isStore_RX5 hown hK hP q_2 heq_2 rfl 6 (by decide) (hts (.fieldLink RX7 49 "OverrunHouseModel$Cold" "stores" "I") (List.mem_cons_of_mem _ (List.mem_append_left _ (List.mem_append_left _ (List.mem_of_getElem? (i := 1) rfl))))) (fun _ h9 => h9) rfl dX7_isStore_6 ?_
  refine lv_iconst (v := 1) hx hb dX7_isStore_9 (by decide) ?_
  refine lv_isub hx hb dX7_isStore_10 ?_
  obtain ⟨r_3, g_4, hf⟩ := bd_out hf
  refine va_calli (va_runS (As := [.int p1, .int 0, .int ((I 5 6) - 1)]) (rest := []) ⟨hx, hb, hml, hown, hts⟩ (mt_X7_in l H.size p1 0 ((I 5 6) - 1) r_3 g_4) (va_cwS 3 hts gX7_isStore_X7_in rfl rfl rfl (by decide +kernel) ⟨Nat.le_of_ble_eq_true rfl, Nat.le_of_ble_eq_true rfl⟩) (pre0 [.int p1, .int 0, .int ((I 5 6) - 1)]) rfl rfl hl.1 rfl (lv_room (Nat.le_of_ble_eq_true rfl)) dX7_isStore_11 ⟨Nat.le_of_ble_eq_true rfl, Nat.le_of_ble_eq_true rfl⟩) hS (fun q _ h => hA q (Nat.le_trans hS.1 h)) (fun q h => hA q (Nat.le_trans hS.1 h)) (fun r9 u t H1 locs ht hvm hw hB hz1 hk1 hS => ?_)
  subst hw
  have hP := va_Pnew hP hk1
  clear hz1 hk1 hvm ht hB
  generalize H1 = H at hP hS ⊢
  obtain ⟨h_5, hf⟩ := ck_out hf
  have hf := Option.some.inj hf
  have q1 := hf
  exact W.zret (ty := .boolean) (v := r_3) hx hb hr (isB_nar h_5) (fun t ht hW9 => ⟨⟨r_3, (), rfl, q1.symm, trivial⟩, hS.F ht⟩) hS.2.2 dX7_isStore_14

def f_X7_batchesOf_L4 (I : Nat → Nat → Int32) (p1 : Int32) : Nat → Int32 → Int32 → Option (Int32)
  | 0, _, _ => none
  | n4 + 1, x3_4, x2_4 => (if (I 5 0) ≤ x3_4 then some x2_4 else ck (inB x3_4 12) ((if (I (5 + 1) (x3_4).toNatClampNeg) = p1 then f_X7_batchesOf_L4 I p1 n4 (x3_4 + 1) (x2_4 + 1) else f_X7_batchesOf_L4 I p1 n4 (x3_4 + 1) (x2_4 + 0))))
def f_X7_batchesOf (a b : Nat) (I : Nat → Nat → Int32) (D : Nat → Nat → UInt64) (p1 : Int32) : Option (Int32) :=
  f_X7_batchesOf_L4 I p1 200 0 0
theorem iX7_batchesOf_RX5 : ∀ w ∈ u_ws RX5 TX5 10, w ∈ wsX7_batchesOf := fun w h => List.mem_cons_of_mem _ (List.mem_append_right _ (h))
theorem iX7_batchesOf_RX7 : ∀ w ∈ u_ws RX7 TX7 9, w ∈ wsX7_batchesOf := fun w h => List.mem_cons_of_mem _ (List.mem_append_left _ (List.mem_append_right _ (h)))
set_option maxHeartbeats 4000000 in
set_option maxRecDepth 100000 in
theorem mt_X7_batchesOf (l : Launch) (dC : Nat → ClassId) (dI : Nat → Nat → Nat) (L : List Nat) (a b : Nat) (ad : Nat → Nat) (cy : Nat → ClassId) (hM : mOK L a b ad) (sz : Nat) (I : Nat → Nat → Int32) (D : Nat → Nat → UInt64) (p1 : Int32) (rr : Int32) (hf : f_X7_batchesOf a b I D p1 = some rr) : Met l yX7_batchesOf wsX7_batchesOf ({ frames := 0, cells := 0, slots := 0, locals := 0 }) (va_Pc [.ref (ad 0), .int p1] (fun U => U.heap.size = sz ∧ wM dC dI L a b ad cy I D U)) (va_Qi (fun r (_ : Unit) => rr = r) (fun _ _ => True) (fun q => sz ≤ q)) 0 0 (fun q => sz ≤ q) := by
  refine Met.ofW (cc := cX7_batchesOf) (maxL := 4) (ret := (some .int)) (by decide) rfl ?_
  intro p e s m args below meth c s₁ B hml hv
  obtain ⟨rfl, hsz, hP, hK, hN⟩ := hv
  have hx := B.exec
  have hb := B.bytes
  have hr := B.returns
  have hts := atoms_spec (ws := wsX7_batchesOf) B.pre
  have hown : s.vm.findClass RX7 = some m.cls := findClass_of_methodNamed B.named
  have hlocks := B.notSynchronized
  subst hsz
  generalize hAe : (fun q : Nat => s.heap.size ≤ q) = A
  have hA : ∀ q : Nat, s.heap.size ≤ q → A q := fun q h => by rw [← hAe]; exact h
  obtain ⟨H, hH⟩ : ∃ H : Heap, H = s.heap := ⟨_, rfl⟩
  have hS : va_S A s.heap H [] := by rw [hH]; exact va_S.rf
  rw [← hH]
  rw [← hH] at hP
  have hl := lv_entry ([.ref (ad 0), .int p1]) (n := 4) (Nat.le_of_ble_eq_true rfl)
  rw [lg_entry_eq]
  generalize (lg_sl ([.ref (ad 0), .int p1]) ++ List.replicate (4 - (lg_sl ([.ref (ad 0), .int p1])).length) Slot.unset).toArray = ls at hl ⊢
  have hl : lv_has ls 4 [(0, .ref (ad 0)), (1, .int p1)] := hl
  unfold f_X7_batchesOf at hf
  refine lv_iconst (v := 0) hx hb dX7_batchesOf_0 (by decide) ?_
  refine lv_istore_n (lv' := [(2, .int 0), (0, .ref (ad 0)), (1, .int p1)]) hx hb dX7_batchesOf_1 rfl hl (by decide) rfl (fun ls hl => ?_)
  refine lv_iconst (v := 0) hx hb dX7_batchesOf_2 (by decide) ?_
  refine lv_istore_n (lv' := [(3, .int 0), (2, .int 0), (0, .ref (ad 0)), (1, .int p1)]) hx hb dX7_batchesOf_3 rfl hl (by decide) rfl (fun ls hl => ?_)
  have L4 : ∀ (n4 : Nat) (x3_4 : Int32) (x2_4 : Int32), f_X7_batchesOf_L4 I p1 n4 x3_4 x2_4 = some rr → ∀ (H : Heap) (locs : List Loc) (ls : Array Slot), va_P (dC, dI) vwCl (iwM L a b ad cy I D) H → va_S A s.heap H locs → lv_has ls 4 [(3, .int x3_4), (2, .int x2_4), (0, .ref (ad 0)), (1, .int p1)] → W p l e (headSpec wsX7_batchesOf ({ frames := 0, cells := 0, slots := 0, locals := 0 })).room s m ([.ref (ad 0), .int p1] : List Value).toArray below meth c H locs 0 0 (MQ below (va_Qi (fun r (_ : Unit) => rr = r) (fun _ _ => True) A) ([.ref (ad 0), .int p1] : List Value).toArray s 0 0 A) (F0 m 4 ls []) := by
    intro n4
    induction n4 with
    | zero => intro x3_4 x2_4 hf; exact nomatch hf
    | succ n4 ih4 =>
      intro x3_4 x2_4 hf H locs ls hP hS hl
      unfold f_X7_batchesOf_L4 at hf
      refine lv_iload_n hx hb dX7_batchesOf_4 rfl (lv_at hl 0 rfl) ?_
      refine lv_aload_n hx hb dX7_batchesOf_5 rfl (lv_at hl 2 rfl) ?_
      obtain ⟨q_1, wq_1, heq_1⟩ := heM_0 (cy := cy) (I := I) (D := D) hM
      refine va_get (D := (dC, dI)) (ci := 8) (v := .ref (ad 5)) (C := RX7) (T := TX7) (N := 9) hx hb hts iX7_batchesOf_RX7 hown hK hP q_1 heq_1 rfl 3 (by decide) (hts (.fieldLink RX7 24 "OverrunHouseModel" "cold" "LOverrunHouseModel$Cold;") (List.mem_cons_of_mem _ (List.mem_append_left _ (List.mem_append_left _ (List.mem_of_getElem? (i := 0) rfl))))) (fun _ h9 => h9) rfl dX7_batchesOf_6 ?_
      obtain ⟨q_2, wq_2, heq_2⟩ := heM_Cold (cy := cy) (I := I) (D := D) (a := a) (b := b) (cOK_5 hM)
      refine va_get (D := (dC, dI)) (ci := 6) (v := .int (I 5 0)) (C := RX5) (T := TX5) (N := 10) hx hb hts iX7_batchesOf_RX5 hown hK hP q_2 heq_2 rfl 0 (by decide) (hts (.fieldLink RX7 46 "OverrunHouseModel$Cold" "batches" "I") (List.mem_cons_of_mem _ (List.mem_append_left _ (List.mem_append_left _ (List.mem_of_getElem? (i := 1) rfl))))) (fun _ h9 => h9) rfl dX7_batchesOf_9 ?_
      refine lv_icmp_ge (tgt := 42) hx hb dX7_batchesOf_12 (by decide) (fun c_3 => ?_) (fun c_3 => ?_)
      · have hf := it_t hf c_3
        refine lv_iload_n hx hb dX7_batchesOf_42 rfl (lv_at hl 1 rfl) ?_
        have hf := Option.some.inj hf
        have q1 := hf
        exact W.iret (v := x2_4) hx hb hr (fun t ht hW9 => ⟨⟨x2_4, (), rfl, q1.symm, trivial⟩, hS.F ht⟩) hS.2.2 dX7_batchesOf_43
      · have hf := it_f hf c_3
        refine lv_iload_n hx hb dX7_batchesOf_15 rfl (lv_at hl 1 rfl) ?_
        refine lv_aload_n hx hb dX7_batchesOf_16 rfl (lv_at hl 2 rfl) ?_
        obtain ⟨q_4, wq_4, heq_4⟩ := heM_0 (cy := cy) (I := I) (D := D) hM
        refine va_get (D := (dC, dI)) (ci := 8) (v := .ref (ad 5)) (C := RX7) (T := TX7) (N := 9) hx hb hts iX7_batchesOf_RX7 hown hK hP q_4 heq_4 rfl 3 (by decide) (hts (.fieldLink RX7 24 "OverrunHouseModel" "cold" "LOverrunHouseModel$Cold;") (List.mem_cons_of_mem _ (List.mem_append_left _ (List.mem_append_left _ (List.mem_of_getElem? (i := 0) rfl))))) (fun _ h9 => h9) rfl dX7_batchesOf_17 ?_
        obtain ⟨q_5, wq_5, heq_5⟩ := heM_Cold (cy := cy) (I := I) (D := D) (a := a) (b := b) (cOK_5 hM)
        refine va_get (D := (dC, dI)) (ci := 6) (v := .ref (ad (5 + 1))) (C := RX5) (T := TX5) (N := 10) hx hb hts iX7_batchesOf_RX5 hown hK hP q_5 heq_5 rfl 1 (by decide) (hts (.fieldLink RX7 52 "OverrunHouseModel$Cold" "of" "[I") (List.mem_cons_of_mem _ (List.mem_append_left _ (List.mem_append_left _ (List.mem_of_getElem? (i := 2) rfl))))) (fun _ h9 => h9) rfl dX7_batchesOf_20 ?_
        refine lv_iload_n hx hb dX7_batchesOf_23 rfl (lv_at hl 0 rfl) ?_
        obtain ⟨q_6, wq_6, heq_6⟩ := heM_Of (cy := cy) (I := I) (D := D) (a := a) (b := b) (cOK_5 hM)
        obtain ⟨h_7, hf⟩ := ck_out hf
        refine va_iald (n := 12) (f := I (5 + 1)) hx hb hK hP q_6 0 heq_6 rfl (inB_in h_7) dX7_batchesOf_24 ?_
        refine lv_iload_n hx hb dX7_batchesOf_25 rfl (lv_at hl 3 rfl) ?_
        refine lv_icmp_ne (tgt := 33) hx hb dX7_batchesOf_26 (by decide) (fun c_8 => ?_) (fun c_8 => ?_)
        · have hf := it_f hf c_8
          refine lv_iconst (v := 0) hx hb dX7_batchesOf_33 (by decide) ?_
          refine lv_iadd hx hb dX7_batchesOf_34 ?_
          refine lv_istore_n (lv' := [(2, .int (x2_4 + 0)), (3, .int x3_4), (0, .ref (ad 0)), (1, .int p1)]) hx hb dX7_batchesOf_35 rfl hl (by decide) rfl (fun ls hl => ?_)
          refine lv_iinc (v := (x3_4 + 1)) (lv' := [(3, .int (x3_4 + 1)), (2, .int (x2_4 + 0)), (0, .ref (ad 0)), (1, .int p1)]) hx hb dX7_batchesOf_36 hl (k := 1) rfl rfl (by decide) rfl (fun ls hl => ?_)
          refine lv_goto (tgt := 4) hx hb dX7_batchesOf_39 (by decide) ?_
          exact ih4 (x3_4 + 1) (x2_4 + 0) hf _ _ _ hP hS (lv_sub hl [0, 1, 2, 3] rfl)
        · have hf := it_t hf c_8
          refine lv_iconst (v := 1) hx hb dX7_batchesOf_29 (by decide) ?_
          refine lv_goto (tgt := 34) hx hb dX7_batchesOf_30 (by decide) ?_
          refine lv_iadd hx hb dX7_batchesOf_34 ?_
          refine lv_istore_n (lv' := [(2, .int (x2_4 + 1)), (3, .int x3_4), (0, .ref (ad 0)), (1, .int p1)]) hx hb dX7_batchesOf_35 rfl hl (by decide) rfl (fun ls hl => ?_)
          refine lv_iinc (v := (x3_4 + 1)) (lv' := [(3, .int (x3_4 + 1)), (2, .int (x2_4 + 1)), (0, .ref (ad 0)), (1, .int p1)]) hx hb dX7_batchesOf_36 hl (k := 1) rfl rfl (by decide) rfl (fun ls hl => ?_)
          refine lv_goto (tgt := 4) hx hb dX7_batchesOf_39 (by decide) ?_
          exact ih4 (x3_4 + 1) (x2_4 + 1) hf _ _ _ hP hS (lv_sub hl [0, 1, 2, 3] rfl)
  exact L4 200 0 0 hf _ _ _ hP hS (lv_sub hl [0, 1, 2, 3] rfl)

def f_X7_isCalled (a b : Nat) (I : Nat → Nat → Int32) (D : Nat → Nat → UInt64) (p1 : Int32) : Option (Int32) :=
  ck (inB p1 12) (bd (f_get2 a b I D (I (5 + 1) (p1).toNatClampNeg)) (fun r_6 => bd (f_X6_set a b I D r_6) (fun r_10 => (if (r_10 &&& (I 0 8)) = 0 then some 0 else some 1))))
theorem iX7_isCalled_RX5 : ∀ w ∈ u_ws RX5 TX5 10, w ∈ wsX7_isCalled := fun w h => List.mem_cons_of_mem _ (List.mem_append_left _ (List.mem_append_left _ (List.mem_append_right _ (h))))
theorem iX7_isCalled_RX7 : ∀ w ∈ u_ws RX7 TX7 9, w ∈ wsX7_isCalled := fun w h => List.mem_cons_of_mem _ (List.mem_append_left _ (List.mem_append_left _ (List.mem_append_left _ (List.mem_append_right _ (h)))))
set_option maxHeartbeats 4000000 in
set_option maxRecDepth 100000 in
theorem mt_X7_isCalled (l : Launch) (dC : Nat → ClassId) (dI : Nat → Nat → Nat) (L : List Nat) (a b : Nat) (ad : Nat → Nat) (cy : Nat → ClassId) (hM : mOK L a b ad) (sz : Nat) (I : Nat → Nat → Int32) (D : Nat → Nat → UInt64) (p1 : Int32) (rr : Int32) (hf : f_X7_isCalled a b I D p1 = some rr) : Met l yX7_isCalled wsX7_isCalled ({ frames := 4, cells := 0, slots := 0, locals := 134 }) (va_Pc [.ref (ad 0), .int p1] (fun U => U.heap.size = sz ∧ wM dC dI L a b ad cy I D U)) (va_Qi (fun r (_ : Unit) => rr = r) (fun _ _ => True) (fun q => sz ≤ q)) 0 0 (fun q => sz ≤ q) := by
  refine Met.ofW (cc := cX7_isCalled) (maxL := 2) (ret := (some .boolean)) (by decide) rfl ?_
  intro p e s m args below meth c s₁ B hml hv
  obtain ⟨rfl, hsz, hP, hK, hN⟩ := hv
  have hx := B.exec
  have hb := B.bytes
  have hr := B.returns
  have hts := atoms_spec (ws := wsX7_isCalled) B.pre
  have hown : s.vm.findClass RX7 = some m.cls := findClass_of_methodNamed B.named
  have hlocks := B.notSynchronized
  subst hsz
  generalize hAe : (fun q : Nat => s.heap.size ≤ q) = A
  have hA : ∀ q : Nat, s.heap.size ≤ q → A q := fun q h => by rw [← hAe]; exact h
  obtain ⟨H, hH⟩ : ∃ H : Heap, H = s.heap := ⟨_, rfl⟩
  have hS : va_S A s.heap H [] := by rw [hH]; exact va_S.rf
  rw [← hH]
  rw [← hH] at hP
  have hl := lv_entry ([.ref (ad 0), .int p1]) (n := 2) (Nat.le_of_ble_eq_true rfl)
  rw [lg_entry_eq]
  generalize (lg_sl ([.ref (ad 0), .int p1]) ++ List.replicate (2 - (lg_sl ([.ref (ad 0), .int p1])).length) Slot.unset).toArray = ls at hl ⊢
  have hl : lv_has ls 2 [(0, .ref (ad 0)), (1, .int p1)] := hl
  unfold f_X7_isCalled at hf
  refine lv_aload_n hx hb dX7_isCalled_0 rfl (lv_at hl 0 rfl) ?_
  obtain ⟨q_1, wq_1, heq_1⟩ := heM_0 (cy := cy) (I := I) (D := D) hM
  refine va_get (D := (dC, dI)) (ci := 8) (v := .ref (ad 2)) (C := RX7) (T := TX7) (N := 9) hx hb hts iX7_isCalled_RX7 hown hK hP q_1 heq_1 rfl 2 (by decide) (hts (.fieldLink RX7 16 "OverrunHouseModel" "mixes" "Ljava/util/List;") (List.mem_cons_of_mem _ (List.mem_append_left _ (List.mem_append_left _ (List.mem_append_left _ (List.mem_append_left _ (List.mem_append_left _ (List.mem_of_getElem? (i := 0) rfl)))))))) (fun _ h9 => h9) rfl dX7_isCalled_1 ?_
  refine lv_aload_n hx hb dX7_isCalled_4 rfl (lv_at hl 0 rfl) ?_
  obtain ⟨q_2, wq_2, heq_2⟩ := heM_0 (cy := cy) (I := I) (D := D) hM
  refine va_get (D := (dC, dI)) (ci := 8) (v := .ref (ad 5)) (C := RX7) (T := TX7) (N := 9) hx hb hts iX7_isCalled_RX7 hown hK hP q_2 heq_2 rfl 3 (by decide) (hts (.fieldLink RX7 24 "OverrunHouseModel" "cold" "LOverrunHouseModel$Cold;") (List.mem_cons_of_mem _ (List.mem_append_left _ (List.mem_append_left _ (List.mem_append_left _ (List.mem_append_left _ (List.mem_append_left _ (List.mem_of_getElem? (i := 1) rfl)))))))) (fun _ h9 => h9) rfl dX7_isCalled_5 ?_
  obtain ⟨q_3, wq_3, heq_3⟩ := heM_Cold (cy := cy) (I := I) (D := D) (a := a) (b := b) (cOK_5 hM)
  refine va_get (D := (dC, dI)) (ci := 6) (v := .ref (ad (5 + 1))) (C := RX5) (T := TX5) (N := 10) hx hb hts iX7_isCalled_RX5 hown hK hP q_3 heq_3 rfl 1 (by decide) (hts (.fieldLink RX7 52 "OverrunHouseModel$Cold" "of" "[I") (List.mem_cons_of_mem _ (List.mem_append_left _ (List.mem_append_left _ (List.mem_append_left _ (List.mem_append_left _ (List.mem_append_left _ (List.mem_of_getElem? (i := 2) rfl)))))))) (fun _ h9 => h9) rfl dX7_isCalled_8 ?_
  refine lv_iload_n hx hb dX7_isCalled_11 rfl (lv_at hl 1 rfl) ?_
  obtain ⟨q_4, wq_4, heq_4⟩ := heM_Of (cy := cy) (I := I) (D := D) (a := a) (b := b) (cOK_5 hM)
  obtain ⟨h_5, hf⟩ := ck_out hf
  refine va_iald (n := 12) (f := I (5 + 1)) hx hb hK hP q_4 0 heq_4 rfl (inB_in h_5) dX7_isCalled_12 ?_
  obtain ⟨r_6, g_7, hf⟩ := bd_out hf
  obtain ⟨q_8, wq_8, heq_8⟩ := heM_2 (cy := cy) (I := I) (D := D) hM
  refine va_callFr (va_runF (As := [.int (I (5 + 1) (p1).toNatClampNeg)]) (rest := []) (hK.1 0 _ rfl).2 ⟨hx, hb, hml, hown, hts⟩ (mt_get2 l dC dI L a b ad cy hM H.size I D (I (5 + 1) (p1).toNatClampNeg) r_6 g_7) (va_cwF 1 hts gX7_isCalled_Jx4a65c_get_915e3_f55Jx4a65c rfl rfl rfl hN.2.2.1 (by decide +kernel) ⟨Nat.le_of_ble_eq_true rfl, Nat.le_of_ble_eq_true rfl⟩) ⟨(wM.pre [.ref (ad 2), .int (I (5 + 1) (p1).toNatClampNeg)] hP hK hN).1, wM.recv (C := RJx4a65c) (T := TJx4a65c) (N := 3) hP hK heq_8 rfl, (wM.pre [.ref (ad 2), .int (I (5 + 1) (p1).toNatClampNeg)] hP hK hN).2⟩ rfl rfl hl.1 rfl (lv_room (Nat.le_of_ble_eq_true rfl)) dX7_isCalled_13 ⟨Nat.le_of_ble_eq_true rfl, Nat.le_of_ble_eq_true rfl⟩) hS (fun q _ h => hA q (Nat.le_trans hS.1 h)) (fun q h => hA q (Nat.le_trans hS.1 h)) (fun u r9 t H1 locs ht hvm hw hB hz1 hk1 hS => ?_)
  subst hB
  have hP := va_Pnew hP hk1
  clear hz1 hk1 hvm ht
  generalize H1 = H at hP hS ⊢
  obtain ⟨q_9, wq_9, heq_9⟩ := heM_Mixx (cy := cy) (I := I) (D := D) hM (f_get2_lt g_7)
  refine va_castS hx hb hown (hts (.classLink RX7 59 "OverrunHouseModel$Mix") (List.mem_cons_of_mem _ (List.mem_append_left _ (List.mem_append_left _ (List.mem_append_left _ (List.mem_append_left _ (List.mem_append_left _ (List.mem_of_getElem? (i := 3) rfl)))))))) (hK.1 7 _ rfl).2 (wM.recv (C := RX6) (T := TX6) (N := 5) hP hK heq_9 rfl) dX7_isCalled_18 ?_
  obtain ⟨r_10, g_11, hf⟩ := bd_out hf
  obtain ⟨q_12, wq_12, heq_12⟩ := heM_Mixx (cy := cy) (I := I) (D := D) hM (f_get2_lt g_7)
  refine va_calli (va_runV (As := []) (rest := []) ⟨hx, hb, hml, hown, hts⟩ (mt_X6_set l dC dI L a b ad cy hM H.size I D r_6 (f_get2_lt g_7) r_10 g_11) (cwV 0 hts gX7_isCalled_X6_set rfl rfl rfl (by decide +kernel) ⟨Nat.le_of_ble_eq_true rfl, Nat.le_of_ble_eq_true rfl⟩) ⟨(wM.pre [.ref (ad (20 + r_6))] hP hK hN).1, wM.recv (C := RX6) (T := TX6) (N := 5) hP hK heq_12 rfl, (wM.pre [.ref (ad (20 + r_6))] hP hK hN).2⟩ rfl rfl hl.1 rfl (lv_room (Nat.le_of_ble_eq_true rfl)) dX7_isCalled_21 ⟨Nat.le_of_ble_eq_true rfl, Nat.le_of_ble_eq_true rfl⟩) hS (fun q _ h => hA q (Nat.le_trans hS.1 h)) (fun q h => hA q (Nat.le_trans hS.1 h)) (fun r9 u t H1 locs ht hvm hw hB hz1 hk1 hS => ?_)
  subst hw
  have hP := va_Pnew hP hk1
  clear hz1 hk1 hvm ht hB
  generalize H1 = H at hP hS ⊢
  refine lv_aload_n hx hb dX7_isCalled_24 rfl (lv_at hl 0 rfl) ?_
  obtain ⟨q_13, wq_13, heq_13⟩ := heM_0 (cy := cy) (I := I) (D := D) hM
  refine va_get (D := (dC, dI)) (ci := 8) (v := .int (I 0 8)) (C := RX7) (T := TX7) (N := 9) hx hb hts iX7_isCalled_RX7 hown hK hP q_13 heq_13 rfl 8 (by decide) (hts (.fieldLink RX7 64 "OverrunHouseModel" "called" "I") (List.mem_cons_of_mem _ (List.mem_append_left _ (List.mem_append_left _ (List.mem_append_left _ (List.mem_append_left _ (List.mem_append_left _ (List.mem_of_getElem? (i := 4) rfl)))))))) (fun _ h9 => h9) rfl dX7_isCalled_25 ?_
  refine lv_iand hx hb dX7_isCalled_28 ?_
  refine lv_if_eq (tgt := 36) hx hb dX7_isCalled_29 (by decide) (fun c_14 => ?_) (fun c_14 => ?_)
  · have hf := it_t hf c_14
    refine lv_iconst (v := 0) hx hb dX7_isCalled_36 (by decide) ?_
    have hf := Option.some.inj hf
    have q1 := hf
    exact W.zret (ty := .boolean) (v := 0) hx hb hr rfl (fun t ht hW9 => ⟨⟨0, (), rfl, q1.symm, trivial⟩, hS.F ht⟩) hS.2.2 dX7_isCalled_37
  · have hf := it_f hf c_14
    refine lv_iconst (v := 1) hx hb dX7_isCalled_32 (by decide) ?_
    refine lv_goto (tgt := 37) hx hb dX7_isCalled_33 (by decide) ?_
    have hf := Option.some.inj hf
    have q1 := hf
    exact W.zret (ty := .boolean) (v := 1) hx hb hr rfl (fun t ht hW9 => ⟨⟨1, (), rfl, q1.symm, trivial⟩, hS.F ht⟩) hS.2.2 dX7_isCalled_37
