theorem hAL_c8 {L : List Nat} {ad q : Nat → Nat} {A : Nat → Prop} (h30 : ∀ k ∈ L, k < 30) (hAL : ∀ k, k ∈ L → A (ad k)) (hq : ∀ j, j < 8 → A (q j)) : ∀ k, k ∈ (L ++ p8) → A ((adC ad q) k) := fun k hk => by
  rcases List.mem_append.mp hk with h | h
  · rw [adC_lo (h30 k h)]; exact hAL k h
  · have h3 : 30 ≤ k ∧ k < 38 := by
      have h4 : ∀ z ∈ p8, 30 ≤ z ∧ z < 38 := by decide
      exact h4 k h
    unfold adC
    rw [if_pos h3]
    exact hq _ (by omega)
def f_X7_wouldBe_L48 (a : Nat) (b : Nat) (p1 : Int32) (p2 : Int32) : Nat → Int32 → (Nat → Nat → Int32) → (Nat → Nat → UInt64) → Option (UInt64 × (Nat → Nat → Int32) × (Nat → Nat → UInt64))
  | 0, _, _, _ => none
  | n48 + 1, x4_48, I_L48, D_L48 => (if p2 ≤ x4_48 then ck (inB p1 12) ((if (I_L48 (30 + 4) (p1).toNatClampNeg) < 10 then ck (inB p1 12) (some ((D_L48 (30 + 5) (p1).toNatClampNeg), I_L48, D_L48)) else some ((13830554455654793216 : UInt64), I_L48, D_L48))) else bd (f_X5_hour a b I_L48 D_L48 30) (fun (I_26, D_27) => f_X7_wouldBe_L48 a b p1 p2 n48 (x4_48 + 1) I_26 D_27))
def f_X7_wouldBe (a b : Nat) (I : Nat → Nat → Int32) (D : Nat → Nat → UInt64) (p1 : Int32) (p2 : Int32) : Option (UInt64 × (Nat → Nat → Int32) × (Nat → Nat → UInt64)) :=
  nm (up2 I 0 0 0) (fun I_2 => bd (f_X7_isBatch a b I_2 D p1) (fun r_3 => (if r_3 = 0 then bd (f_X7_no a b I_2 D 1) (fun (r_34, I_36, D_37) => some ((FP.i2d r_34), I_36, D_37)) else bd (f_X7_in p2 1 48) (fun r_7 => (if r_7 = 0 then bd (f_X7_no a b I_2 D 2) (fun (r_29, I_31, D_32) => some ((FP.i2d r_29), I_31, D_32)) else bd (f_X5_copy a b I_2 D ) (fun (I_13, D_14) => f_X7_wouldBe_L48 a b p1 p2 200 0 I_13 D_14))))))
theorem iX7_wouldBe_RX5 : ∀ w ∈ u_ws RX5 TX5 10, w ∈ wsX7_wouldBe := fun w h => List.mem_cons_of_mem _ (List.mem_append_left _ (List.mem_append_left _ (List.mem_append_right _ (h))))
theorem iX7_wouldBe_RX7 : ∀ w ∈ u_ws RX7 TX7 9, w ∈ wsX7_wouldBe := fun w h => List.mem_cons_of_mem _ (List.mem_append_left _ (List.mem_append_left _ (List.mem_append_left _ (List.mem_append_right _ (h)))))
set_option maxHeartbeats 4000000 in
set_option maxRecDepth 100000 in
theorem mt_X7_wouldBe (l : Launch) (dC : Nat → ClassId) (dI : Nat → Nat → Nat) (L : List Nat) (a b : Nat) (ad : Nat → Nat) (cy : Nat → ClassId) (hM : mOK L a b ad) (h30 : ∀ k ∈ L, k < 30) (sz : Nat) (I : Nat → Nat → Int32) (D : Nat → Nat → UInt64) (p1 : Int32) (p2 : Int32) (rr : UInt64) (I9 : Nat → Nat → Int32) (D9 : Nat → Nat → UInt64) (hf : f_X7_wouldBe a b I D p1 p2 = some (rr, I9, D9)) : Met l yX7_wouldBe wsX7_wouldBe ({ frames := 9, cells := 8, slots := 76, locals := 247 }) (va_Pc [.ref (ad 0), .int p1, .int p2] (fun U => U.heap.size = sz ∧ wM dC dI L a b ad cy I D U)) (va_Qd (fun r (_ : Unit) => rr = r) (fun _ t => wM dC dI L a b ad cy I9 D9 t) (AM L ad sz)) 8 76 (AM L ad sz) := by
  refine Met.ofW (cc := cX7_wouldBe) (maxL := 5) (ret := (some .double)) (by decide) rfl ?_
  intro p e s m args below meth c s₁ B hml hv
  obtain ⟨rfl, hsz, hP, hK, hN⟩ := hv
  have hx := B.exec
  have hb := B.bytes
  have hr := B.returns
  have hts := atoms_spec (ws := wsX7_wouldBe) B.pre
  have hown : s.vm.findClass RX7 = some m.cls := findClass_of_methodNamed B.named
  have hlocks := B.notSynchronized
  subst hsz
  generalize hAe : AM L ad s.heap.size = A
  have hA : ∀ q : Nat, s.heap.size ≤ q → A q := fun q h => by rw [← hAe]; exact Or.inr h
  have hAL : ∀ k, k ∈ L → A (ad k) := fun k h => by rw [← hAe]; exact Or.inl ⟨k, h, rfl⟩
  have hDD : ∀ I D, va_D A (iwM L a b ad cy I D) := fun I D => iwM_D hM hAL I D
  obtain ⟨H, hH⟩ : ∃ H : Heap, H = s.heap := ⟨_, rfl⟩
  have hS : va_S A s.heap H [] := by rw [hH]; exact va_S.rf
  rw [← hH]
  rw [← hH] at hP
  have hl := lv_entry ([.ref (ad 0), .int p1, .int p2]) (n := 5) (Nat.le_of_ble_eq_true rfl)
  rw [lg_entry_eq]
  generalize (lg_sl ([.ref (ad 0), .int p1, .int p2]) ++ List.replicate (5 - (lg_sl ([.ref (ad 0), .int p1, .int p2])).length) Slot.unset).toArray = ls at hl ⊢
  have hl : lv_has ls 5 [(0, .ref (ad 0)), (1, .int p1), (2, .int p2)] := hl
  unfold f_X7_wouldBe at hf
  refine lv_aload_n hx hb dX7_wouldBe_0 rfl (lv_at hl 0 rfl) ?_
  refine lv_iconst (v := 0) hx hb dX7_wouldBe_1 (by decide) ?_
  obtain ⟨q_1, wq_1, heq_1⟩ := heM_0 (cy := cy) (I := I) (D := D) hM
  obtain ⟨I_2, eI_2, hf⟩ := nm_out hf
  refine va_put (D := (dC, dI)) (ci := 8) (v := .int 0) (ty := .int) (C := RX7) (T := TX7) (N := 9) hx hb hts iX7_wouldBe_RX7 tyX7 tyX7_ok nmX7 hown hK hP (hDD I D) hS q_1 heq_1 rfl 0 (by decide) (hts (.fieldLink RX7 32 "OverrunHouseModel" "thrown" "I") (List.mem_cons_of_mem _ (List.mem_append_left _ (List.mem_append_left _ (List.mem_append_left _ (List.mem_append_left _ (List.mem_append_left _ (List.mem_of_getElem? (i := 0) rfl)))))))) (fun _ h9 => h9) rfl (by decide +kernel) rfl rfl (Nat.le_of_ble_eq_true rfl) dX7_wouldBe_2 (fun H locs hP _ hS => ?_)
  have hP : va_P (dC, dI) vwCl (iwM L a b ad cy I_2 D) H := by rw [eI_2]; exact hqI hM wq_1 ((cellM_0 ad cy a b _ _).trans rfl) hP
  refine lv_aload_n hx hb dX7_wouldBe_5 rfl (lv_at hl 0 rfl) ?_
  refine lv_iload_n hx hb dX7_wouldBe_6 rfl (lv_at hl 1 rfl) ?_
  obtain ⟨r_3, g_4, hf⟩ := bd_out hf
  obtain ⟨q_5, wq_5, heq_5⟩ := heM_0 (cy := cy) (I := I_2) (D := D) hM
  refine va_calli (va_runV (As := [.int p1]) (rest := []) ⟨hx, hb, hml, hown, hts⟩ (mt_X7_isBatch l dC dI L a b ad cy hM H.size I_2 D p1 r_3 g_4) (cwV 1 hts gX7_wouldBe_X7_isBatch rfl rfl rfl (by decide +kernel) ⟨Nat.le_of_ble_eq_true rfl, Nat.le_of_ble_eq_true rfl⟩) ⟨(wM.pre [.ref (ad 0), .int p1] hP hK hN).1, wM.recv (C := RX7) (T := TX7) (N := 9) hP hK heq_5 rfl, (wM.pre [.ref (ad 0), .int p1] hP hK hN).2⟩ rfl rfl hl.1 rfl (lv_room (Nat.le_of_ble_eq_true rfl)) dX7_wouldBe_7 ⟨Nat.le_of_ble_eq_true rfl, Nat.le_of_ble_eq_true rfl⟩) hS (fun q _ h => hA q (Nat.le_trans hS.1 h)) (fun q h => hA q (Nat.le_trans hS.1 h)) (fun r9 u t H1 locs ht hvm hw hB hz1 hk1 hS => ?_)
  subst hw
  have hP := va_Pnew hP hk1
  clear hz1 hk1 hvm ht hB
  generalize H1 = H at hP hS ⊢
  refine lv_if_ne (tgt := 20) hx hb dX7_wouldBe_10 (by decide) (fun c_6 => ?_) (fun c_6 => ?_)
  · have hf := it_f hf c_6
    refine lv_iload_n hx hb dX7_wouldBe_20 rfl (lv_at hl 2 rfl) ?_
    refine lv_iconst (v := 1) hx hb dX7_wouldBe_21 (by decide) ?_
    refine lv_bipush (v := 48) hx hb dX7_wouldBe_22 (by decide) ?_
    obtain ⟨r_7, g_8, hf⟩ := bd_out hf
    refine va_calli (va_runS (As := [.int p2, .int 1, .int 48]) (rest := []) ⟨hx, hb, hml, hown, hts⟩ (mt_X7_in l H.size p2 1 48 r_7 g_8) (va_cwS 3 hts gX7_wouldBe_X7_in rfl rfl rfl (by decide +kernel) ⟨Nat.le_of_ble_eq_true rfl, Nat.le_of_ble_eq_true rfl⟩) (pre0 [.int p2, .int 1, .int 48]) rfl rfl hl.1 rfl (lv_room (Nat.le_of_ble_eq_true rfl)) dX7_wouldBe_24 ⟨Nat.le_of_ble_eq_true rfl, Nat.le_of_ble_eq_true rfl⟩) hS (fun q _ h => hA q (Nat.le_trans hS.1 h)) (fun q h => hA q (Nat.le_trans hS.1 h)) (fun r9 u t H1 locs ht hvm hw hB hz1 hk1 hS => ?_)
    subst hw
    have hP := va_Pnew hP hk1
    clear hz1 hk1 hvm ht hB
    generalize H1 = H at hP hS ⊢
    refine lv_if_ne (tgt := 37) hx hb dX7_wouldBe_27 (by decide) (fun c_9 => ?_) (fun c_9 => ?_)
    · have hf := it_f hf c_9
      refine lv_aload_n hx hb dX7_wouldBe_37 rfl (lv_at hl 0 rfl) ?_
      obtain ⟨q_10, wq_10, heq_10⟩ := heM_0 (cy := cy) (I := I_2) (D := D) hM
      refine va_get (D := (dC, dI)) (ci := 8) (v := .ref (ad 5)) (C := RX7) (T := TX7) (N := 9) hx hb hts iX7_wouldBe_RX7 hown hK hP q_10 heq_10 rfl 3 (by decide) (hts (.fieldLink RX7 24 "OverrunHouseModel" "cold" "LOverrunHouseModel$Cold;") (List.mem_cons_of_mem _ (List.mem_append_left _ (List.mem_append_left _ (List.mem_append_left _ (List.mem_append_left _ (List.mem_append_left _ (List.mem_of_getElem? (i := 1) rfl)))))))) (fun _ h9 => h9) rfl dX7_wouldBe_38 ?_
      obtain ⟨⟨I_13, D_14⟩, g_12, hf⟩ := bd_out hf
      obtain ⟨q_15, wq_15, heq_15⟩ := heM_Cold (cy := cy) (I := I_2) (D := D) (a := a) (b := b) (cOK_5 hM)
      have hAW : ∀ q, AM L ad H.size q → A q := fun q h => h.elim (fun ⟨k, k1, k2⟩ => k2 ▸ hAL k k1) (fun h => hA q (Nat.le_trans hS.1 h))
      have hS0 := hS.1
      refine va_callr (va_runV (As := []) (rest := []) ⟨hx, hb, hml, hown, hts⟩ (mt_X5_copy l dC dI L a b ad cy hM h30 H.size I_2 D  I_13 D_14 g_12) (cwV 0 hts gX7_wouldBe_X5_copy rfl rfl rfl (by decide +kernel) ⟨Nat.le_of_ble_eq_true rfl, Nat.le_of_ble_eq_true rfl⟩) ⟨(wM.pre [.ref (ad 5)] hP hK hN).1, wM.recv (C := RX5) (T := TX5) (N := 10) hP hK heq_15 rfl, (wM.pre [.ref (ad 5)] hP hK hN).2⟩ rfl rfl hl.1 rfl (lv_room (Nat.le_of_ble_eq_true rfl)) dX7_wouldBe_41 ⟨Nat.le_of_ble_eq_true rfl, Nat.le_of_ble_eq_true rfl⟩) hS (fun q _ h => hAW q h) hAW (fun qk r9 t H1 locs ht hvm hw hB hz1 hk1 hS => ?_)
      obtain ⟨e9, hM2, hB, hqs⟩ := hB
      subst e9
      have hP : va_P (dC, dI) vwCl (iwM (L ++ p8) a b (adC ad qk) cy I_13 D_14) H1 := by rw [← ht]; exact hB.1
      have hAL2 : ∀ k, k ∈ (L ++ p8) → A ((adC ad qk) k) := hAL_c8 h30 hAL (fun j hj => hA _ (Nat.le_trans hS0 (hqs j hj)))
      have hDD2 : ∀ I D, va_D A (iwM (L ++ p8) a b (adC ad qk) cy I D) := fun I D => iwM_D hM2 hAL2 I D
      have hl : lv_has ls 5 [(0, .ref ((adC ad qk) 0)), (1, .int p1), (2, .int p2)] := hl
      clear hz1 hk1 hvm ht hqs hB
      generalize H1 = H at hP hS ⊢
      refine lv_astore_n (lv' := [(3, .ref ((adC ad qk) 30)), (0, .ref ((adC ad qk) 0)), (1, .int p1), (2, .int p2)]) hx hb dX7_wouldBe_44 rfl hl (by decide) rfl (fun ls hl => ?_)
      refine lv_iconst (v := 0) hx hb dX7_wouldBe_45 (by decide) ?_
      refine lv_istore (lv' := [(4, .int 0), (3, .ref ((adC ad qk) 30)), (0, .ref ((adC ad qk) 0)), (1, .int p1), (2, .int p2)]) hx hb dX7_wouldBe_46 hl (by decide) rfl (fun ls hl => ?_)
      have L48 : ∀ (n48 : Nat) (x4_48 : Int32) (I_L48 : Nat → Nat → Int32) (D_L48 : Nat → Nat → UInt64), f_X7_wouldBe_L48 a b p1 p2 n48 x4_48 I_L48 D_L48 = some (rr, I9, D9) → ∀ (H : Heap) (locs : List Loc) (ls : Array Slot), va_P (dC, dI) vwCl (iwM (L ++ p8) a b (adC ad qk) cy I_L48 D_L48) H → va_S A s.heap H locs → lv_has ls 5 [(4, .int x4_48), (3, .ref ((adC ad qk) 30)), (0, .ref ((adC ad qk) 0)), (1, .int p1), (2, .int p2)] → W p l e (headSpec wsX7_wouldBe ({ frames := 9, cells := 8, slots := 76, locals := 247 })).room s m ([.ref (ad 0), .int p1, .int p2] : List Value).toArray below meth c H locs 8 76 (MQ below (va_Qd (fun r (_ : Unit) => rr = r) (fun _ t => wM dC dI L a b ad cy I9 D9 t) A) ([.ref (ad 0), .int p1, .int p2] : List Value).toArray s 8 76 A) (F0 m 48 ls []) := by
        intro n48
        induction n48 with
        | zero => intro x4_48 I_L48 D_L48 hf; exact nomatch hf
        | succ n48 ih48 =>
          intro x4_48 I_L48 D_L48 hf H locs ls hP hS hl
          unfold f_X7_wouldBe_L48 at hf
          refine lv_iload hx hb dX7_wouldBe_48 (lv_at hl 0 rfl) ?_
          refine lv_iload_n hx hb dX7_wouldBe_50 rfl (lv_at hl 4 rfl) ?_
          refine lv_icmp_ge (tgt := 64) hx hb dX7_wouldBe_51 (by decide) (fun c_16 => ?_) (fun c_16 => ?_)
          · have hf := it_t hf c_16
            refine lv_aload_n hx hb dX7_wouldBe_64 rfl (lv_at hl 1 rfl) ?_
            obtain ⟨q_17, wq_17, heq_17⟩ := heM_Cold (cy := cy) (I := I_L48) (D := D_L48) (a := a) (b := b) cOK_30
            refine va_get (D := (dC, dI)) (ci := 6) (v := .ref ((adC ad qk) (30 + 4))) (C := RX5) (T := TX5) (N := 10) hx hb hts iX7_wouldBe_RX5 hown hK hP q_17 heq_17 rfl 4 (by decide) (hts (.fieldLink RX7 123 "OverrunHouseModel$Cold" "where" "[I") (List.mem_cons_of_mem _ (List.mem_append_left _ (List.mem_append_left _ (List.mem_append_left _ (List.mem_append_left _ (List.mem_append_left _ (List.mem_of_getElem? (i := 2) rfl)))))))) (fun _ h9 => h9) rfl dX7_wouldBe_65 ?_
            refine lv_iload_n hx hb dX7_wouldBe_68 rfl (lv_at hl 3 rfl) ?_
            obtain ⟨q_18, wq_18, heq_18⟩ := heM_Where (cy := cy) (I := I_L48) (D := D_L48) (a := a) (b := b) cOK_30
            obtain ⟨h_19, hf⟩ := ck_out hf
            refine va_iald (n := 12) (f := I_L48 (30 + 4)) hx hb hK hP q_18 0 heq_18 rfl (inB_in h_19) dX7_wouldBe_69 ?_
            refine lv_bipush (v := 10) hx hb dX7_wouldBe_70 (by decide) ?_
            refine lv_icmp_lt (tgt := 81) hx hb dX7_wouldBe_72 (by decide) (fun c_20 => ?_) (fun c_20 => ?_)
            · have hf := it_t hf c_20
              refine lv_aload_n hx hb dX7_wouldBe_81 rfl (lv_at hl 1 rfl) ?_
              obtain ⟨q_21, wq_21, heq_21⟩ := heM_Cold (cy := cy) (I := I_L48) (D := D_L48) (a := a) (b := b) cOK_30
              refine va_get (D := (dC, dI)) (ci := 6) (v := .ref ((adC ad qk) (30 + 5))) (C := RX5) (T := TX5) (N := 10) hx hb hts iX7_wouldBe_RX5 hown hK hP q_21 heq_21 rfl 5 (by decide) (hts (.fieldLink RX7 126 "OverrunHouseModel$Cold" "crystal" "[D") (List.mem_cons_of_mem _ (List.mem_append_left _ (List.mem_append_left _ (List.mem_append_left _ (List.mem_append_left _ (List.mem_append_left _ (List.mem_of_getElem? (i := 4) rfl)))))))) (fun _ h9 => h9) rfl dX7_wouldBe_82 ?_
              refine lv_iload_n hx hb dX7_wouldBe_85 rfl (lv_at hl 3 rfl) ?_
              obtain ⟨q_22, wq_22, heq_22⟩ := heM_Crystal (cy := cy) (I := I_L48) (D := D_L48) (a := a) (b := b) cOK_30
              obtain ⟨h_23, hf⟩ := ck_out hf
              refine va_dald (n := 12) (f := D_L48 (30 + 5)) hx hb hK hP q_22 6 heq_22 rfl (inB_in h_23) dX7_wouldBe_86 ?_
              have hf := Option.some.inj hf
              obtain ⟨q1, q2⟩ := Prod.mk.inj hf
              obtain ⟨q2, q3⟩ := Prod.mk.inj q2
              rw [q2, q3] at hP
              exact W.dret (v := (D_L48 (30 + 5) (p1).toNatClampNeg)) hx hb hr (fun t ht hW9 => ⟨⟨(D_L48 (30 + 5) (p1).toNatClampNeg), (), rfl, q1.symm, wM_back hM h30 (wM.of hP hK hN ht hW9)⟩, hS.F ht⟩) hS.2.2 dX7_wouldBe_87
            · have hf := it_f hf c_20
              refine lv_ldc2d (v := 13830554455654793216) hx hb hown (hts (.constantDouble RX7 220 (13830554455654793216)) (List.mem_cons_of_mem _ (List.mem_append_left _ (List.mem_append_left _ (List.mem_append_left _ (List.mem_append_left _ (List.mem_append_left _ (List.mem_of_getElem? (i := 3) rfl)))))))) dX7_wouldBe_75 ?_
              refine lv_goto (tgt := 87) hx hb dX7_wouldBe_78 (by decide) ?_
              have hf := Option.some.inj hf
              obtain ⟨q1, q2⟩ := Prod.mk.inj hf
              obtain ⟨q2, q3⟩ := Prod.mk.inj q2
              rw [q2, q3] at hP
              exact W.dret (v := (13830554455654793216 : UInt64)) hx hb hr (fun t ht hW9 => ⟨⟨(13830554455654793216 : UInt64), (), rfl, q1.symm, wM_back hM h30 (wM.of hP hK hN ht hW9)⟩, hS.F ht⟩) hS.2.2 dX7_wouldBe_87
          · have hf := it_f hf c_16
            refine lv_aload_n hx hb dX7_wouldBe_54 rfl (lv_at hl 1 rfl) ?_
            obtain ⟨⟨I_26, D_27⟩, g_25, hf⟩ := bd_out hf
            obtain ⟨q_28, wq_28, heq_28⟩ := heM_Cold (cy := cy) (I := I_L48) (D := D_L48) (a := a) (b := b) cOK_30
            have hAW : ∀ q, AM (L ++ p8) (adC ad qk) H.size q → A q := fun q h => h.elim (fun ⟨k, k1, k2⟩ => k2 ▸ hAL2 k k1) (fun h => hA q (Nat.le_trans hS.1 h))
            refine va_callv (va_runV (As := []) (rest := []) ⟨hx, hb, hml, hown, hts⟩ (mt_X5_hour l dC dI (L ++ p8) a b (adC ad qk) cy hM2 H.size I_L48 D_L48 30 cOK_30 I_26 D_27 g_25) (cwV 0 hts gX7_wouldBe_X5_hour rfl rfl rfl (by decide +kernel) ⟨Nat.le_of_ble_eq_true rfl, Nat.le_of_ble_eq_true rfl⟩) ⟨(wM.pre [.ref ((adC ad qk) 30)] hP hK hN).1, wM.recv (C := RX5) (T := TX5) (N := 10) hP hK heq_28 rfl, (wM.pre [.ref ((adC ad qk) 30)] hP hK hN).2⟩ rfl rfl hl.1 rfl (lv_room (Nat.le_of_ble_eq_true rfl)) dX7_wouldBe_55 ⟨Nat.le_of_ble_eq_true rfl, Nat.le_of_ble_eq_true rfl⟩) hS (fun q _ h => hAW q h) hAW (fun u t H1 locs ht hvm hw hB hz1 hk1 hS => ?_)
            have hP : va_P (dC, dI) vwCl (iwM (L ++ p8) a b (adC ad qk) cy I_26 D_27) H1 := by rw [← ht]; exact hB.1
            clear hz1 hk1 hvm ht hB
            generalize H1 = H at hP hS ⊢
            refine lv_iinc (v := (x4_48 + 1)) (lv' := [(4, .int (x4_48 + 1)), (3, .ref ((adC ad qk) 30)), (0, .ref ((adC ad qk) 0)), (1, .int p1), (2, .int p2)]) hx hb dX7_wouldBe_58 hl (k := 0) rfl rfl (by decide) rfl (fun ls hl => ?_)
            refine lv_goto (tgt := 48) hx hb dX7_wouldBe_61 (by decide) ?_
            exact ih48 (x4_48 + 1) I_26 D_27 hf _ _ _ hP hS (lv_sub hl [0, 1, 2, 3, 4] rfl)
      exact L48 200 0 I_13 D_14 hf _ _ _ hP hS (lv_sub hl [0, 1, 2, 3, 4] rfl)
    · have hf := it_t hf c_9
      refine lv_aload_n hx hb dX7_wouldBe_30 rfl (lv_at hl 0 rfl) ?_
      refine lv_iconst (v := 2) hx hb dX7_wouldBe_31 (by decide) ?_
      obtain ⟨⟨r_29, I_31, D_32⟩, g_30, hf⟩ := bd_out hf
      obtain ⟨q_33, wq_33, heq_33⟩ := heM_0 (cy := cy) (I := I_2) (D := D) hM
      have hAW : ∀ q, AM L ad H.size q → A q := fun q h => h.elim (fun ⟨k, k1, k2⟩ => k2 ▸ hAL k k1) (fun h => hA q (Nat.le_trans hS.1 h))
      refine va_calli (va_runV (As := [.int 2]) (rest := []) ⟨hx, hb, hml, hown, hts⟩ (mt_X7_no l dC dI L a b ad cy hM H.size I_2 D 2 r_29 I_31 D_32 g_30) (cwV 1 hts gX7_wouldBe_X7_no rfl rfl rfl (by decide +kernel) ⟨Nat.le_of_ble_eq_true rfl, Nat.le_of_ble_eq_true rfl⟩) ⟨(wM.pre [.ref (ad 0), .int 2] hP hK hN).1, wM.recv (C := RX7) (T := TX7) (N := 9) hP hK heq_33 rfl, (wM.pre [.ref (ad 0), .int 2] hP hK hN).2⟩ rfl rfl hl.1 rfl (lv_room (Nat.le_of_ble_eq_true rfl)) dX7_wouldBe_32 ⟨Nat.le_of_ble_eq_true rfl, Nat.le_of_ble_eq_true rfl⟩) hS (fun q _ h => hAW q h) hAW (fun r9 u t H1 locs ht hvm hw hB hz1 hk1 hS => ?_)
      subst hw
      have hP : va_P (dC, dI) vwCl (iwM L a b ad cy I_31 D_32) H1 := by rw [← ht]; exact hB.1
      clear hz1 hk1 hvm ht hB
      generalize H1 = H at hP hS ⊢
      refine lv_i2d hx hb dX7_wouldBe_35 ?_
      have hf := Option.some.inj hf
      obtain ⟨q1, q2⟩ := Prod.mk.inj hf
      obtain ⟨q2, q3⟩ := Prod.mk.inj q2
      rw [q2, q3] at hP
      refine W.widen (k := 8) (n := 76) (Nat.le_of_ble_eq_true rfl) (Nat.le_of_ble_eq_true rfl) ?_
      exact W.dret (v := (FP.i2d r_29)) hx hb hr (fun t ht hW9 => ⟨⟨(FP.i2d r_29), (), rfl, q1.symm, wM.of hP hK hN ht hW9⟩, hS.F ht⟩) hS.2.2 dX7_wouldBe_36
  · have hf := it_t hf c_6
    refine lv_aload_n hx hb dX7_wouldBe_13 rfl (lv_at hl 0 rfl) ?_
    refine lv_iconst (v := 1) hx hb dX7_wouldBe_14 (by decide) ?_
    obtain ⟨⟨r_34, I_36, D_37⟩, g_35, hf⟩ := bd_out hf
    obtain ⟨q_38, wq_38, heq_38⟩ := heM_0 (cy := cy) (I := I_2) (D := D) hM
    have hAW : ∀ q, AM L ad H.size q → A q := fun q h => h.elim (fun ⟨k, k1, k2⟩ => k2 ▸ hAL k k1) (fun h => hA q (Nat.le_trans hS.1 h))
    refine va_calli (va_runV (As := [.int 1]) (rest := []) ⟨hx, hb, hml, hown, hts⟩ (mt_X7_no l dC dI L a b ad cy hM H.size I_2 D 1 r_34 I_36 D_37 g_35) (cwV 1 hts gX7_wouldBe_X7_no rfl rfl rfl (by decide +kernel) ⟨Nat.le_of_ble_eq_true rfl, Nat.le_of_ble_eq_true rfl⟩) ⟨(wM.pre [.ref (ad 0), .int 1] hP hK hN).1, wM.recv (C := RX7) (T := TX7) (N := 9) hP hK heq_38 rfl, (wM.pre [.ref (ad 0), .int 1] hP hK hN).2⟩ rfl rfl hl.1 rfl (lv_room (Nat.le_of_ble_eq_true rfl)) dX7_wouldBe_15 ⟨Nat.le_of_ble_eq_true rfl, Nat.le_of_ble_eq_true rfl⟩) hS (fun q _ h => hAW q h) hAW (fun r9 u t H1 locs ht hvm hw hB hz1 hk1 hS => ?_)
    subst hw
    have hP : va_P (dC, dI) vwCl (iwM L a b ad cy I_36 D_37) H1 := by rw [← ht]; exact hB.1
    clear hz1 hk1 hvm ht hB
    generalize H1 = H at hP hS ⊢
    refine lv_i2d hx hb dX7_wouldBe_18 ?_
    have hf := Option.some.inj hf
    obtain ⟨q1, q2⟩ := Prod.mk.inj hf
    obtain ⟨q2, q3⟩ := Prod.mk.inj q2
    rw [q2, q3] at hP
    refine W.widen (k := 8) (n := 76) (Nat.le_of_ble_eq_true rfl) (Nat.le_of_ble_eq_true rfl) ?_
    exact W.dret (v := (FP.i2d r_34)) hx hb hr (fun t ht hW9 => ⟨⟨(FP.i2d r_34), (), rfl, q1.symm, wM.of hP hK hN ht hW9⟩, hS.F ht⟩) hS.2.2 dX7_wouldBe_19

def f_X7_spoilNow_L40 (a : Nat) (b : Nat) (p1 : Int32) (I_L17 : Nat → Nat → Int32) (D_L17 : Nat → Nat → UInt64) : Nat → Int32 → Int32 → Option (Int32 × (Nat → Nat → Int32) × (Nat → Nat → UInt64))
  | 0, _, _ => none
  | n40 + 1, x5_40, x4_40 => (if (I_L17 5 0) ≤ x5_40 then some (x4_40, I_L17, D_L17) else ck (inB x5_40 12) ((if (I_L17 (5 + 4) (x5_40).toNatClampNeg) = p1 then bd (f_X5_isCoarse a b I_L17 D_L17 5 x5_40) (fun r_22 => (if r_22 = 0 then ck (inB x5_40 12) ((if (I_L17 (30 + 4) (x5_40).toNatClampNeg) = 11 then f_X7_spoilNow_L40 a b p1 I_L17 D_L17 n40 (x5_40 + 1) (x4_40 + 1) else bd (f_X5_isCoarse a b I_L17 D_L17 30 x5_40) (fun r_30 => (if r_30 = 0 then f_X7_spoilNow_L40 a b p1 I_L17 D_L17 n40 (x5_40 + 1) (x4_40 + 0) else f_X7_spoilNow_L40 a b p1 I_L17 D_L17 n40 (x5_40 + 1) (x4_40 + 1))))) else f_X7_spoilNow_L40 a b p1 I_L17 D_L17 n40 (x5_40 + 1) (x4_40 + 0))) else f_X7_spoilNow_L40 a b p1 I_L17 D_L17 n40 (x5_40 + 1) (x4_40 + 0))))
def f_X7_spoilNow_L17 (a : Nat) (b : Nat) (p1 : Int32) : Nat → Int32 → (Nat → Nat → Int32) → (Nat → Nat → UInt64) → Option (Int32 × (Nat → Nat → Int32) × (Nat → Nat → UInt64))
  | 0, _, _, _ => none
  | n17 + 1, x4_17, I_L17, D_L17 => (if 24 ≤ x4_17 then f_X7_spoilNow_L40 a b p1 I_L17 D_L17 200 0 0 else bd (f_X5_hour a b I_L17 D_L17 30) (fun (I_36, D_37) => f_X7_spoilNow_L17 a b p1 n17 (x4_17 + 1) I_36 D_37))
def f_X7_spoilNow (a b : Nat) (I : Nat → Nat → Int32) (D : Nat → Nat → UInt64) (p1 : Int32) (p2 : Int32) : Option (Int32 × (Nat → Nat → Int32) × (Nat → Nat → UInt64)) :=
  bd (f_X5_copy a b I D ) (fun (I_4, D_5) => bd (f_X5_open a b I_4 D_5 30 p1 p2) (fun (I_9, D_10) => f_X7_spoilNow_L17 a b p1 200 0 I_9 D_10))
theorem iX7_spoilNow_RX5 : ∀ w ∈ u_ws RX5 TX5 10, w ∈ wsX7_spoilNow := fun w h => List.mem_cons_of_mem _ (List.mem_append_left _ (List.mem_append_left _ (List.mem_append_right _ (h))))
theorem iX7_spoilNow_RX7 : ∀ w ∈ u_ws RX7 TX7 9, w ∈ wsX7_spoilNow := fun w h => List.mem_cons_of_mem _ (List.mem_append_left _ (List.mem_append_left _ (List.mem_append_left _ (List.mem_append_right _ (h)))))
set_option maxHeartbeats 4000000 in
set_option maxRecDepth 100000 in
theorem mt_X7_spoilNow (l : Launch) (dC : Nat → ClassId) (dI : Nat → Nat → Nat) (L : List Nat) (a b : Nat) (ad : Nat → Nat) (cy : Nat → ClassId) (hM : mOK L a b ad) (h30 : ∀ k ∈ L, k < 30) (sz : Nat) (I : Nat → Nat → Int32) (D : Nat → Nat → UInt64) (p1 : Int32) (p2 : Int32) (rr : Int32) (I9 : Nat → Nat → Int32) (D9 : Nat → Nat → UInt64) (hf : f_X7_spoilNow a b I D p1 p2 = some (rr, I9, D9)) : Met l yX7_spoilNow wsX7_spoilNow ({ frames := 9, cells := 8, slots := 76, locals := 247 }) (va_Pc [.ref (ad 0), .int p1, .int p2] (fun U => U.heap.size = sz ∧ wM dC dI L a b ad cy I D U)) (va_Qi (fun r (_ : Unit) => rr = r) (fun _ t => wM dC dI L a b ad cy I9 D9 t) (AM L ad sz)) 8 76 (AM L ad sz) := by
  refine Met.ofW (cc := cX7_spoilNow) (maxL := 6) (ret := (some .int)) (by decide) rfl ?_
  intro p e s m args below meth c s₁ B hml hv
  obtain ⟨rfl, hsz, hP, hK, hN⟩ := hv
  have hx := B.exec
  have hb := B.bytes
  have hr := B.returns
  have hts := atoms_spec (ws := wsX7_spoilNow) B.pre
  have hown : s.vm.findClass RX7 = some m.cls := findClass_of_methodNamed B.named
  have hlocks := B.notSynchronized
  subst hsz
  generalize hAe : AM L ad s.heap.size = A
  have hA : ∀ q : Nat, s.heap.size ≤ q → A q := fun q h => by rw [← hAe]; exact Or.inr h
  have hAL : ∀ k, k ∈ L → A (ad k) := fun k h => by rw [← hAe]; exact Or.inl ⟨k, h, rfl⟩
  have hDD : ∀ I D, va_D A (iwM L a b ad cy I D) := fun I D => iwM_D hM hAL I D
  obtain ⟨H, hH⟩ : ∃ H : Heap, H = s.heap := ⟨_, rfl⟩
  have hS : va_S A s.heap H [] := by rw [hH]; exact va_S.rf
  rw [← hH]
  rw [← hH] at hP
  have hl := lv_entry ([.ref (ad 0), .int p1, .int p2]) (n := 6) (Nat.le_of_ble_eq_true rfl)
  rw [lg_entry_eq]
  generalize (lg_sl ([.ref (ad 0), .int p1, .int p2]) ++ List.replicate (6 - (lg_sl ([.ref (ad 0), .int p1, .int p2])).length) Slot.unset).toArray = ls at hl ⊢
  have hl : lv_has ls 6 [(0, .ref (ad 0)), (1, .int p1), (2, .int p2)] := hl
  unfold f_X7_spoilNow at hf
  refine lv_aload_n hx hb dX7_spoilNow_0 rfl (lv_at hl 0 rfl) ?_
  obtain ⟨q_1, wq_1, heq_1⟩ := heM_0 (cy := cy) (I := I) (D := D) hM
  refine va_get (D := (dC, dI)) (ci := 8) (v := .ref (ad 5)) (C := RX7) (T := TX7) (N := 9) hx hb hts iX7_spoilNow_RX7 hown hK hP q_1 heq_1 rfl 3 (by decide) (hts (.fieldLink RX7 24 "OverrunHouseModel" "cold" "LOverrunHouseModel$Cold;") (List.mem_cons_of_mem _ (List.mem_append_left _ (List.mem_append_left _ (List.mem_append_left _ (List.mem_append_left _ (List.mem_append_left _ (List.mem_of_getElem? (i := 0) rfl)))))))) (fun _ h9 => h9) rfl dX7_spoilNow_1 ?_
  obtain ⟨⟨I_4, D_5⟩, g_3, hf⟩ := bd_out hf
  obtain ⟨q_6, wq_6, heq_6⟩ := heM_Cold (cy := cy) (I := I) (D := D) (a := a) (b := b) (cOK_5 hM)
  have hAW : ∀ q, AM L ad H.size q → A q := fun q h => h.elim (fun ⟨k, k1, k2⟩ => k2 ▸ hAL k k1) (fun h => hA q (Nat.le_trans hS.1 h))
  have hS0 := hS.1
  refine va_callr (va_runV (As := []) (rest := []) ⟨hx, hb, hml, hown, hts⟩ (mt_X5_copy l dC dI L a b ad cy hM h30 H.size I D  I_4 D_5 g_3) (cwV 0 hts gX7_spoilNow_X5_copy rfl rfl rfl (by decide +kernel) ⟨Nat.le_of_ble_eq_true rfl, Nat.le_of_ble_eq_true rfl⟩) ⟨(wM.pre [.ref (ad 5)] hP hK hN).1, wM.recv (C := RX5) (T := TX5) (N := 10) hP hK heq_6 rfl, (wM.pre [.ref (ad 5)] hP hK hN).2⟩ rfl rfl hl.1 rfl (lv_room (Nat.le_of_ble_eq_true rfl)) dX7_spoilNow_4 ⟨Nat.le_of_ble_eq_true rfl, Nat.le_of_ble_eq_true rfl⟩) hS (fun q _ h => hAW q h) hAW (fun qk r9 t H1 locs ht hvm hw hB hz1 hk1 hS => ?_)
  obtain ⟨e9, hM2, hB, hqs⟩ := hB
  subst e9
  have hP : va_P (dC, dI) vwCl (iwM (L ++ p8) a b (adC ad qk) cy I_4 D_5) H1 := by rw [← ht]; exact hB.1
  have hAL2 : ∀ k, k ∈ (L ++ p8) → A ((adC ad qk) k) := hAL_c8 h30 hAL (fun j hj => hA _ (Nat.le_trans hS0 (hqs j hj)))
  have hDD2 : ∀ I D, va_D A (iwM (L ++ p8) a b (adC ad qk) cy I D) := fun I D => iwM_D hM2 hAL2 I D
  have hl : lv_has ls 6 [(0, .ref ((adC ad qk) 0)), (1, .int p1), (2, .int p2)] := hl
  clear hz1 hk1 hvm ht hqs hB
  generalize H1 = H at hP hS ⊢
  refine lv_astore_n (lv' := [(3, .ref ((adC ad qk) 30)), (0, .ref ((adC ad qk) 0)), (1, .int p1), (2, .int p2)]) hx hb dX7_spoilNow_7 rfl hl (by decide) rfl (fun ls hl => ?_)
  refine lv_aload_n hx hb dX7_spoilNow_8 rfl (lv_at hl 0 rfl) ?_
  refine lv_iload_n hx hb dX7_spoilNow_9 rfl (lv_at hl 2 rfl) ?_
  refine lv_iload_n hx hb dX7_spoilNow_10 rfl (lv_at hl 3 rfl) ?_
  obtain ⟨⟨I_9, D_10⟩, g_8, hf⟩ := bd_out hf
  obtain ⟨q_11, wq_11, heq_11⟩ := heM_Cold (cy := cy) (I := I_4) (D := D_5) (a := a) (b := b) cOK_30
  have hAW : ∀ q, AM (L ++ p8) (adC ad qk) H.size q → A q := fun q h => h.elim (fun ⟨k, k1, k2⟩ => k2 ▸ hAL2 k k1) (fun h => hA q (Nat.le_trans hS.1 h))
  refine va_callv (va_runV (As := [.int p1, .int p2]) (rest := []) ⟨hx, hb, hml, hown, hts⟩ (mt_X5_open l dC dI (L ++ p8) a b (adC ad qk) cy hM2 H.size I_4 D_5 30 cOK_30 p1 p2 I_9 D_10 g_8) (cwV 2 hts gX7_spoilNow_X5_open rfl rfl rfl (by decide +kernel) ⟨Nat.le_of_ble_eq_true rfl, Nat.le_of_ble_eq_true rfl⟩) ⟨(wM.pre [.ref ((adC ad qk) 30), .int p1, .int p2] hP hK hN).1, wM.recv (C := RX5) (T := TX5) (N := 10) hP hK heq_11 rfl, (wM.pre [.ref ((adC ad qk) 30), .int p1, .int p2] hP hK hN).2⟩ rfl rfl hl.1 rfl (lv_room (Nat.le_of_ble_eq_true rfl)) dX7_spoilNow_11 ⟨Nat.le_of_ble_eq_true rfl, Nat.le_of_ble_eq_true rfl⟩) hS (fun q _ h => hAW q h) hAW (fun u t H1 locs ht hvm hw hB hz1 hk1 hS => ?_)
  have hP : va_P (dC, dI) vwCl (iwM (L ++ p8) a b (adC ad qk) cy I_9 D_10) H1 := by rw [← ht]; exact hB.1
  clear hz1 hk1 hvm ht hB
  generalize H1 = H at hP hS ⊢
  refine lv_iconst (v := 0) hx hb dX7_spoilNow_14 (by decide) ?_
  refine lv_istore (lv' := [(4, .int 0), (3, .ref ((adC ad qk) 30)), (0, .ref ((adC ad qk) 0)), (1, .int p1), (2, .int p2)]) hx hb dX7_spoilNow_15 hl (by decide) rfl (fun ls hl => ?_)
  have L17 : ∀ (n17 : Nat) (x4_17 : Int32) (I_L17 : Nat → Nat → Int32) (D_L17 : Nat → Nat → UInt64), f_X7_spoilNow_L17 a b p1 n17 x4_17 I_L17 D_L17 = some (rr, I9, D9) → ∀ (H : Heap) (locs : List Loc) (ls : Array Slot), va_P (dC, dI) vwCl (iwM (L ++ p8) a b (adC ad qk) cy I_L17 D_L17) H → va_S A s.heap H locs → lv_has ls 6 [(4, .int x4_17), (3, .ref ((adC ad qk) 30)), (0, .ref ((adC ad qk) 0)), (1, .int p1), (2, .int p2)] → W p l e (headSpec wsX7_spoilNow ({ frames := 9, cells := 8, slots := 76, locals := 247 })).room s m ([.ref (ad 0), .int p1, .int p2] : List Value).toArray below meth c H locs 8 76 (MQ below (va_Qi (fun r (_ : Unit) => rr = r) (fun _ t => wM dC dI L a b ad cy I9 D9 t) A) ([.ref (ad 0), .int p1, .int p2] : List Value).toArray s 8 76 A) (F0 m 17 ls []) := by
    intro n17
    induction n17 with
    | zero => intro x4_17 I_L17 D_L17 hf; exact nomatch hf
    | succ n17 ih17 =>
      intro x4_17 I_L17 D_L17 hf H locs ls hP hS hl
      unfold f_X7_spoilNow_L17 at hf
      refine lv_iload hx hb dX7_spoilNow_17 (lv_at hl 0 rfl) ?_
      refine lv_bipush (v := 24) hx hb dX7_spoilNow_19 (by decide) ?_
      refine lv_icmp_ge (tgt := 34) hx hb dX7_spoilNow_21 (by decide) (fun c_12 => ?_) (fun c_12 => ?_)
      · have hf := it_t hf c_12
        refine lv_iconst (v := 0) hx hb dX7_spoilNow_34 (by decide) ?_
        refine lv_istore (lv' := [(4, .int 0), (3, .ref ((adC ad qk) 30)), (0, .ref ((adC ad qk) 0)), (1, .int p1), (2, .int p2)]) hx hb dX7_spoilNow_35 hl (by decide) rfl (fun ls hl => ?_)
        refine lv_iconst (v := 0) hx hb dX7_spoilNow_37 (by decide) ?_
        refine lv_istore (lv' := [(5, .int 0), (4, .int 0), (3, .ref ((adC ad qk) 30)), (0, .ref ((adC ad qk) 0)), (1, .int p1), (2, .int p2)]) hx hb dX7_spoilNow_38 hl (by decide) rfl (fun ls hl => ?_)
        have L40 : ∀ (n40 : Nat) (x5_40 : Int32) (x4_40 : Int32), f_X7_spoilNow_L40 a b p1 I_L17 D_L17 n40 x5_40 x4_40 = some (rr, I9, D9) → ∀ (H : Heap) (locs : List Loc) (ls : Array Slot), va_P (dC, dI) vwCl (iwM (L ++ p8) a b (adC ad qk) cy I_L17 D_L17) H → va_S A s.heap H locs → lv_has ls 6 [(5, .int x5_40), (4, .int x4_40), (3, .ref ((adC ad qk) 30)), (0, .ref ((adC ad qk) 0)), (1, .int p1), (2, .int p2)] → W p l e (headSpec wsX7_spoilNow ({ frames := 9, cells := 8, slots := 76, locals := 247 })).room s m ([.ref (ad 0), .int p1, .int p2] : List Value).toArray below meth c H locs 8 76 (MQ below (va_Qi (fun r (_ : Unit) => rr = r) (fun _ t => wM dC dI L a b ad cy I9 D9 t) A) ([.ref (ad 0), .int p1, .int p2] : List Value).toArray s 8 76 A) (F0 m 40 ls []) := by
          intro n40
          induction n40 with
          | zero => intro x5_40 x4_40 hf; exact nomatch hf
          | succ n40 ih40 =>
            intro x5_40 x4_40 hf H locs ls hP hS hl
            unfold f_X7_spoilNow_L40 at hf
            refine lv_iload hx hb dX7_spoilNow_40 (lv_at hl 0 rfl) ?_
            refine lv_aload_n hx hb dX7_spoilNow_42 rfl (lv_at hl 3 rfl) ?_
            obtain ⟨q_13, wq_13, heq_13⟩ := heM_0 (cy := cy) (I := I_L17) (D := D_L17) hM2
            refine va_get (D := (dC, dI)) (ci := 8) (v := .ref ((adC ad qk) 5)) (C := RX7) (T := TX7) (N := 9) hx hb hts iX7_spoilNow_RX7 hown hK hP q_13 heq_13 rfl 3 (by decide) (hts (.fieldLink RX7 24 "OverrunHouseModel" "cold" "LOverrunHouseModel$Cold;") (List.mem_cons_of_mem _ (List.mem_append_left _ (List.mem_append_left _ (List.mem_append_left _ (List.mem_append_left _ (List.mem_append_left _ (List.mem_of_getElem? (i := 0) rfl)))))))) (fun _ h9 => h9) rfl dX7_spoilNow_43 ?_
            obtain ⟨q_14, wq_14, heq_14⟩ := heM_Cold (cy := cy) (I := I_L17) (D := D_L17) (a := a) (b := b) (cOK_5 hM2)
            refine va_get (D := (dC, dI)) (ci := 6) (v := .int (I_L17 5 0)) (C := RX5) (T := TX5) (N := 10) hx hb hts iX7_spoilNow_RX5 hown hK hP q_14 heq_14 rfl 0 (by decide) (hts (.fieldLink RX7 46 "OverrunHouseModel$Cold" "batches" "I") (List.mem_cons_of_mem _ (List.mem_append_left _ (List.mem_append_left _ (List.mem_append_left _ (List.mem_append_left _ (List.mem_append_left _ (List.mem_of_getElem? (i := 1) rfl)))))))) (fun _ h9 => h9) rfl dX7_spoilNow_46 ?_
            refine lv_icmp_ge (tgt := 115) hx hb dX7_spoilNow_49 (by decide) (fun c_15 => ?_) (fun c_15 => ?_)
            · have hf := it_t hf c_15
              refine lv_iload hx hb dX7_spoilNow_115 (lv_at hl 1 rfl) ?_
              have hf := Option.some.inj hf
              obtain ⟨q1, q2⟩ := Prod.mk.inj hf
              obtain ⟨q2, q3⟩ := Prod.mk.inj q2
              rw [q2, q3] at hP
              exact W.iret (v := x4_40) hx hb hr (fun t ht hW9 => ⟨⟨x4_40, (), rfl, q1.symm, wM_back hM h30 (wM.of hP hK hN ht hW9)⟩, hS.F ht⟩) hS.2.2 dX7_spoilNow_117
            · have hf := it_f hf c_15
              refine lv_iload hx hb dX7_spoilNow_52 (lv_at hl 1 rfl) ?_
              refine lv_aload_n hx hb dX7_spoilNow_54 rfl (lv_at hl 3 rfl) ?_
              obtain ⟨q_16, wq_16, heq_16⟩ := heM_0 (cy := cy) (I := I_L17) (D := D_L17) hM2
              refine va_get (D := (dC, dI)) (ci := 8) (v := .ref ((adC ad qk) 5)) (C := RX7) (T := TX7) (N := 9) hx hb hts iX7_spoilNow_RX7 hown hK hP q_16 heq_16 rfl 3 (by decide) (hts (.fieldLink RX7 24 "OverrunHouseModel" "cold" "LOverrunHouseModel$Cold;") (List.mem_cons_of_mem _ (List.mem_append_left _ (List.mem_append_left _ (List.mem_append_left _ (List.mem_append_left _ (List.mem_append_left _ (List.mem_of_getElem? (i := 0) rfl)))))))) (fun _ h9 => h9) rfl dX7_spoilNow_55 ?_
              obtain ⟨q_17, wq_17, heq_17⟩ := heM_Cold (cy := cy) (I := I_L17) (D := D_L17) (a := a) (b := b) (cOK_5 hM2)
              refine va_get (D := (dC, dI)) (ci := 6) (v := .ref ((adC ad qk) (5 + 4))) (C := RX5) (T := TX5) (N := 10) hx hb hts iX7_spoilNow_RX5 hown hK hP q_17 heq_17 rfl 4 (by decide) (hts (.fieldLink RX7 123 "OverrunHouseModel$Cold" "where" "[I") (List.mem_cons_of_mem _ (List.mem_append_left _ (List.mem_append_left _ (List.mem_append_left _ (List.mem_append_left _ (List.mem_append_left _ (List.mem_of_getElem? (i := 2) rfl)))))))) (fun _ h9 => h9) rfl dX7_spoilNow_58 ?_
              refine lv_iload hx hb dX7_spoilNow_61 (lv_at hl 0 rfl) ?_
              obtain ⟨q_18, wq_18, heq_18⟩ := heM_Where (cy := cy) (I := I_L17) (D := D_L17) (a := a) (b := b) (cOK_5 hM2)
              obtain ⟨h_19, hf⟩ := ck_out hf
              refine va_iald (n := 12) (f := I_L17 (5 + 4)) hx hb hK hP q_18 0 heq_18 rfl (inB_in h_19) dX7_spoilNow_63 ?_
              refine lv_iload_n hx hb dX7_spoilNow_64 rfl (lv_at hl 4 rfl) ?_
              refine lv_icmp_ne (tgt := 105) hx hb dX7_spoilNow_65 (by decide) (fun c_20 => ?_) (fun c_20 => ?_)
              · have hf := it_f hf c_20
                refine lv_iconst (v := 0) hx hb dX7_spoilNow_105 (by decide) ?_
                refine lv_iadd hx hb dX7_spoilNow_106 ?_
                refine lv_istore (lv' := [(4, .int (x4_40 + 0)), (5, .int x5_40), (3, .ref ((adC ad qk) 30)), (0, .ref ((adC ad qk) 0)), (1, .int p1), (2, .int p2)]) hx hb dX7_spoilNow_107 hl (by decide) rfl (fun ls hl => ?_)
                refine lv_iinc (v := (x5_40 + 1)) (lv' := [(5, .int (x5_40 + 1)), (4, .int (x4_40 + 0)), (3, .ref ((adC ad qk) 30)), (0, .ref ((adC ad qk) 0)), (1, .int p1), (2, .int p2)]) hx hb dX7_spoilNow_109 hl (k := 1) rfl rfl (by decide) rfl (fun ls hl => ?_)
                refine lv_goto (tgt := 40) hx hb dX7_spoilNow_112 (by decide) ?_
                exact ih40 (x5_40 + 1) (x4_40 + 0) hf _ _ _ hP hS (lv_sub hl [0, 1, 2, 3, 4, 5] rfl)
              · have hf := it_t hf c_20
                refine lv_aload_n hx hb dX7_spoilNow_68 rfl (lv_at hl 3 rfl) ?_
                obtain ⟨q_21, wq_21, heq_21⟩ := heM_0 (cy := cy) (I := I_L17) (D := D_L17) hM2
                refine va_get (D := (dC, dI)) (ci := 8) (v := .ref ((adC ad qk) 5)) (C := RX7) (T := TX7) (N := 9) hx hb hts iX7_spoilNow_RX7 hown hK hP q_21 heq_21 rfl 3 (by decide) (hts (.fieldLink RX7 24 "OverrunHouseModel" "cold" "LOverrunHouseModel$Cold;") (List.mem_cons_of_mem _ (List.mem_append_left _ (List.mem_append_left _ (List.mem_append_left _ (List.mem_append_left _ (List.mem_append_left _ (List.mem_of_getElem? (i := 0) rfl)))))))) (fun _ h9 => h9) rfl dX7_spoilNow_69 ?_
                refine lv_iload hx hb dX7_spoilNow_72 (lv_at hl 0 rfl) ?_
                obtain ⟨r_22, g_23, hf⟩ := bd_out hf
                obtain ⟨q_24, wq_24, heq_24⟩ := heM_Cold (cy := cy) (I := I_L17) (D := D_L17) (a := a) (b := b) (cOK_5 hM2)
                refine va_calli (va_runV (As := [.int x5_40]) (rest := [.int x4_40]) ⟨hx, hb, hml, hown, hts⟩ (mt_X5_isCoarse l dC dI (L ++ p8) a b (adC ad qk) cy hM2 H.size I_L17 D_L17 5 (cOK_5 hM2) x5_40 r_22 g_23) (cwV 1 hts gX7_spoilNow_X5_isCoarse rfl rfl rfl (by decide +kernel) ⟨Nat.le_of_ble_eq_true rfl, Nat.le_of_ble_eq_true rfl⟩) ⟨(wM.pre [.ref ((adC ad qk) 5), .int x5_40] hP hK hN).1, wM.recv (C := RX5) (T := TX5) (N := 10) hP hK heq_24 rfl, (wM.pre [.ref ((adC ad qk) 5), .int x5_40] hP hK hN).2⟩ rfl rfl hl.1 rfl (lv_room (Nat.le_of_ble_eq_true rfl)) dX7_spoilNow_74 ⟨Nat.le_of_ble_eq_true rfl, Nat.le_of_ble_eq_true rfl⟩) hS (fun q _ h => hA q (Nat.le_trans hS.1 h)) (fun q h => hA q (Nat.le_trans hS.1 h)) (fun r9 u t H1 locs ht hvm hw hB hz1 hk1 hS => ?_)
                subst hw
                have hP := va_Pnew hP hk1
                clear hz1 hk1 hvm ht hB
                generalize H1 = H at hP hS ⊢
                refine lv_if_ne (tgt := 105) hx hb dX7_spoilNow_77 (by decide) (fun c_25 => ?_) (fun c_25 => ?_)
                · have hf := it_f hf c_25
                  refine lv_iconst (v := 0) hx hb dX7_spoilNow_105 (by decide) ?_
                  refine lv_iadd hx hb dX7_spoilNow_106 ?_
                  refine lv_istore (lv' := [(4, .int (x4_40 + 0)), (5, .int x5_40), (3, .ref ((adC ad qk) 30)), (0, .ref ((adC ad qk) 0)), (1, .int p1), (2, .int p2)]) hx hb dX7_spoilNow_107 hl (by decide) rfl (fun ls hl => ?_)
                  refine lv_iinc (v := (x5_40 + 1)) (lv' := [(5, .int (x5_40 + 1)), (4, .int (x4_40 + 0)), (3, .ref ((adC ad qk) 30)), (0, .ref ((adC ad qk) 0)), (1, .int p1), (2, .int p2)]) hx hb dX7_spoilNow_109 hl (k := 1) rfl rfl (by decide) rfl (fun ls hl => ?_)
                  refine lv_goto (tgt := 40) hx hb dX7_spoilNow_112 (by decide) ?_
                  exact ih40 (x5_40 + 1) (x4_40 + 0) hf _ _ _ hP hS (lv_sub hl [0, 1, 2, 3, 4, 5] rfl)
                · have hf := it_t hf c_25
                  refine lv_aload_n hx hb dX7_spoilNow_80 rfl (lv_at hl 2 rfl) ?_
                  obtain ⟨q_26, wq_26, heq_26⟩ := heM_Cold (cy := cy) (I := I_L17) (D := D_L17) (a := a) (b := b) cOK_30
                  refine va_get (D := (dC, dI)) (ci := 6) (v := .ref ((adC ad qk) (30 + 4))) (C := RX5) (T := TX5) (N := 10) hx hb hts iX7_spoilNow_RX5 hown hK hP q_26 heq_26 rfl 4 (by decide) (hts (.fieldLink RX7 123 "OverrunHouseModel$Cold" "where" "[I") (List.mem_cons_of_mem _ (List.mem_append_left _ (List.mem_append_left _ (List.mem_append_left _ (List.mem_append_left _ (List.mem_append_left _ (List.mem_of_getElem? (i := 2) rfl)))))))) (fun _ h9 => h9) rfl dX7_spoilNow_81 ?_
                  refine lv_iload hx hb dX7_spoilNow_84 (lv_at hl 0 rfl) ?_
                  obtain ⟨q_27, wq_27, heq_27⟩ := heM_Where (cy := cy) (I := I_L17) (D := D_L17) (a := a) (b := b) cOK_30
                  obtain ⟨h_28, hf⟩ := ck_out hf
                  refine va_iald (n := 12) (f := I_L17 (30 + 4)) hx hb hK hP q_27 0 heq_27 rfl (inB_in h_28) dX7_spoilNow_86 ?_
                  refine lv_bipush (v := 11) hx hb dX7_spoilNow_87 (by decide) ?_
                  refine lv_icmp_eq (tgt := 101) hx hb dX7_spoilNow_89 (by decide) (fun c_29 => ?_) (fun c_29 => ?_)
                  · have hf := it_t hf c_29
                    refine lv_iconst (v := 1) hx hb dX7_spoilNow_101 (by decide) ?_
                    refine lv_goto (tgt := 106) hx hb dX7_spoilNow_102 (by decide) ?_
                    refine lv_iadd hx hb dX7_spoilNow_106 ?_
                    refine lv_istore (lv' := [(4, .int (x4_40 + 1)), (5, .int x5_40), (3, .ref ((adC ad qk) 30)), (0, .ref ((adC ad qk) 0)), (1, .int p1), (2, .int p2)]) hx hb dX7_spoilNow_107 hl (by decide) rfl (fun ls hl => ?_)
                    refine lv_iinc (v := (x5_40 + 1)) (lv' := [(5, .int (x5_40 + 1)), (4, .int (x4_40 + 1)), (3, .ref ((adC ad qk) 30)), (0, .ref ((adC ad qk) 0)), (1, .int p1), (2, .int p2)]) hx hb dX7_spoilNow_109 hl (k := 1) rfl rfl (by decide) rfl (fun ls hl => ?_)
                    refine lv_goto (tgt := 40) hx hb dX7_spoilNow_112 (by decide) ?_
                    exact ih40 (x5_40 + 1) (x4_40 + 1) hf _ _ _ hP hS (lv_sub hl [0, 1, 2, 3, 4, 5] rfl)
                  · have hf := it_f hf c_29
                    refine lv_aload_n hx hb dX7_spoilNow_92 rfl (lv_at hl 2 rfl) ?_
                    refine lv_iload hx hb dX7_spoilNow_93 (lv_at hl 0 rfl) ?_
                    obtain ⟨r_30, g_31, hf⟩ := bd_out hf
                    obtain ⟨q_32, wq_32, heq_32⟩ := heM_Cold (cy := cy) (I := I_L17) (D := D_L17) (a := a) (b := b) cOK_30
                    refine va_calli (va_runV (As := [.int x5_40]) (rest := [.int x4_40]) ⟨hx, hb, hml, hown, hts⟩ (mt_X5_isCoarse l dC dI (L ++ p8) a b (adC ad qk) cy hM2 H.size I_L17 D_L17 30 cOK_30 x5_40 r_30 g_31) (cwV 1 hts gX7_spoilNow_X5_isCoarse rfl rfl rfl (by decide +kernel) ⟨Nat.le_of_ble_eq_true rfl, Nat.le_of_ble_eq_true rfl⟩) ⟨(wM.pre [.ref ((adC ad qk) 30), .int x5_40] hP hK hN).1, wM.recv (C := RX5) (T := TX5) (N := 10) hP hK heq_32 rfl, (wM.pre [.ref ((adC ad qk) 30), .int x5_40] hP hK hN).2⟩ rfl rfl hl.1 rfl (lv_room (Nat.le_of_ble_eq_true rfl)) dX7_spoilNow_95 ⟨Nat.le_of_ble_eq_true rfl, Nat.le_of_ble_eq_true rfl⟩) hS (fun q _ h => hA q (Nat.le_trans hS.1 h)) (fun q h => hA q (Nat.le_trans hS.1 h)) (fun r9 u t H1 locs ht hvm hw hB hz1 hk1 hS => ?_)
                    subst hw
                    have hP := va_Pnew hP hk1
                    clear hz1 hk1 hvm ht hB
                    generalize H1 = H at hP hS ⊢
                    refine lv_if_eq (tgt := 105) hx hb dX7_spoilNow_98 (by decide) (fun c_33 => ?_) (fun c_33 => ?_)
                    · have hf := it_t hf c_33
                      refine lv_iconst (v := 0) hx hb dX7_spoilNow_105 (by decide) ?_
                      refine lv_iadd hx hb dX7_spoilNow_106 ?_
                      refine lv_istore (lv' := [(4, .int (x4_40 + 0)), (5, .int x5_40), (3, .ref ((adC ad qk) 30)), (0, .ref ((adC ad qk) 0)), (1, .int p1), (2, .int p2)]) hx hb dX7_spoilNow_107 hl (by decide) rfl (fun ls hl => ?_)
                      refine lv_iinc (v := (x5_40 + 1)) (lv' := [(5, .int (x5_40 + 1)), (4, .int (x4_40 + 0)), (3, .ref ((adC ad qk) 30)), (0, .ref ((adC ad qk) 0)), (1, .int p1), (2, .int p2)]) hx hb dX7_spoilNow_109 hl (k := 1) rfl rfl (by decide) rfl (fun ls hl => ?_)
                      refine lv_goto (tgt := 40) hx hb dX7_spoilNow_112 (by decide) ?_
                      exact ih40 (x5_40 + 1) (x4_40 + 0) hf _ _ _ hP hS (lv_sub hl [0, 1, 2, 3, 4, 5] rfl)
                    · have hf := it_f hf c_33
                      refine lv_iconst (v := 1) hx hb dX7_spoilNow_101 (by decide) ?_
                      refine lv_goto (tgt := 106) hx hb dX7_spoilNow_102 (by decide) ?_
                      refine lv_iadd hx hb dX7_spoilNow_106 ?_
                      refine lv_istore (lv' := [(4, .int (x4_40 + 1)), (5, .int x5_40), (3, .ref ((adC ad qk) 30)), (0, .ref ((adC ad qk) 0)), (1, .int p1), (2, .int p2)]) hx hb dX7_spoilNow_107 hl (by decide) rfl (fun ls hl => ?_)
                      refine lv_iinc (v := (x5_40 + 1)) (lv' := [(5, .int (x5_40 + 1)), (4, .int (x4_40 + 1)), (3, .ref ((adC ad qk) 30)), (0, .ref ((adC ad qk) 0)), (1, .int p1), (2, .int p2)]) hx hb dX7_spoilNow_109 hl (k := 1) rfl rfl (by decide) rfl (fun ls hl => ?_)
                      refine lv_goto (tgt := 40) hx hb dX7_spoilNow_112 (by decide) ?_
                      exact ih40 (x5_40 + 1) (x4_40 + 1) hf _ _ _ hP hS (lv_sub hl [0, 1, 2, 3, 4, 5] rfl)
        exact L40 200 0 0 hf _ _ _ hP hS (lv_sub hl [0, 1, 2, 3, 4, 5] rfl)
      · have hf := it_f hf c_12
        refine lv_aload_n hx hb dX7_spoilNow_24 rfl (lv_at hl 1 rfl) ?_
        obtain ⟨⟨I_36, D_37⟩, g_35, hf⟩ := bd_out hf
        obtain ⟨q_38, wq_38, heq_38⟩ := heM_Cold (cy := cy) (I := I_L17) (D := D_L17) (a := a) (b := b) cOK_30
        have hAW : ∀ q, AM (L ++ p8) (adC ad qk) H.size q → A q := fun q h => h.elim (fun ⟨k, k1, k2⟩ => k2 ▸ hAL2 k k1) (fun h => hA q (Nat.le_trans hS.1 h))
        refine va_callv (va_runV (As := []) (rest := []) ⟨hx, hb, hml, hown, hts⟩ (mt_X5_hour l dC dI (L ++ p8) a b (adC ad qk) cy hM2 H.size I_L17 D_L17 30 cOK_30 I_36 D_37 g_35) (cwV 0 hts gX7_spoilNow_X5_hour rfl rfl rfl (by decide +kernel) ⟨Nat.le_of_ble_eq_true rfl, Nat.le_of_ble_eq_true rfl⟩) ⟨(wM.pre [.ref ((adC ad qk) 30)] hP hK hN).1, wM.recv (C := RX5) (T := TX5) (N := 10) hP hK heq_38 rfl, (wM.pre [.ref ((adC ad qk) 30)] hP hK hN).2⟩ rfl rfl hl.1 rfl (lv_room (Nat.le_of_ble_eq_true rfl)) dX7_spoilNow_25 ⟨Nat.le_of_ble_eq_true rfl, Nat.le_of_ble_eq_true rfl⟩) hS (fun q _ h => hAW q h) hAW (fun u t H1 locs ht hvm hw hB hz1 hk1 hS => ?_)
        have hP : va_P (dC, dI) vwCl (iwM (L ++ p8) a b (adC ad qk) cy I_36 D_37) H1 := by rw [← ht]; exact hB.1
        clear hz1 hk1 hvm ht hB
        generalize H1 = H at hP hS ⊢
        refine lv_iinc (v := (x4_17 + 1)) (lv' := [(4, .int (x4_17 + 1)), (3, .ref ((adC ad qk) 30)), (0, .ref ((adC ad qk) 0)), (1, .int p1), (2, .int p2)]) hx hb dX7_spoilNow_28 hl (k := 0) rfl rfl (by decide) rfl (fun ls hl => ?_)
        refine lv_goto (tgt := 17) hx hb dX7_spoilNow_31 (by decide) ?_
        exact ih17 (x4_17 + 1) I_36 D_37 hf _ _ _ hP hS (lv_sub hl [0, 1, 2, 3, 4] rfl)
  exact L17 200 0 I_9 D_10 hf _ _ _ hP hS (lv_sub hl [0, 1, 2, 3, 4] rfl)

def f_X7_wouldSpoil (a b : Nat) (I : Nat → Nat → Int32) (D : Nat → Nat → UInt64) (p1 : Int32) (p2 : Int32) : Option (Int32 × (Nat → Nat → Int32) × (Nat → Nat → UInt64)) :=
  nm (up2 I 0 0 0) (fun I_2 => bd (f_X7_isStore a b I_2 D p1) (fun r_3 => (if r_3 = 0 then bd (f_X7_no a b I_2 D 1) (fun (r_20, I_22, D_23) => some (r_20, I_22, D_23)) else bd (f_X7_in p2 0 20) (fun r_7 => (if r_7 = 0 then bd (f_X7_no a b I_2 D 2) (fun (r_15, I_17, D_18) => some (r_15, I_17, D_18)) else bd (f_X7_spoilNow a b I_2 D p1 p2) (fun (r_10, I_12, D_13) => some (r_10, I_12, D_13)))))))
theorem iX7_wouldSpoil_RX7 : ∀ w ∈ u_ws RX7 TX7 9, w ∈ wsX7_wouldSpoil := fun w h => List.mem_cons_of_mem _ (List.mem_append_left _ (List.mem_append_left _ (List.mem_append_left _ (List.mem_append_right _ (h)))))
set_option maxHeartbeats 4000000 in
set_option maxRecDepth 100000 in
theorem mt_X7_wouldSpoil (l : Launch) (dC : Nat → ClassId) (dI : Nat → Nat → Nat) (L : List Nat) (a b : Nat) (ad : Nat → Nat) (cy : Nat → ClassId) (hM : mOK L a b ad) (h30 : ∀ k ∈ L, k < 30) (sz : Nat) (I : Nat → Nat → Int32) (D : Nat → Nat → UInt64) (p1 : Int32) (p2 : Int32) (rr : Int32) (I9 : Nat → Nat → Int32) (D9 : Nat → Nat → UInt64) (hf : f_X7_wouldSpoil a b I D p1 p2 = some (rr, I9, D9)) : Met l yX7_wouldSpoil wsX7_wouldSpoil ({ frames := 10, cells := 8, slots := 76, locals := 272 }) (va_Pc [.ref (ad 0), .int p1, .int p2] (fun U => U.heap.size = sz ∧ wM dC dI L a b ad cy I D U)) (va_Qi (fun r (_ : Unit) => rr = r) (fun _ t => wM dC dI L a b ad cy I9 D9 t) (AM L ad sz)) 8 76 (AM L ad sz) := by
  refine Met.ofW (cc := cX7_wouldSpoil) (maxL := 3) (ret := (some .int)) (by decide) rfl ?_
  intro p e s m args below meth c s₁ B hml hv
  obtain ⟨rfl, hsz, hP, hK, hN⟩ := hv
  have hx := B.exec
  have hb := B.bytes
  have hr := B.returns
  have hts := atoms_spec (ws := wsX7_wouldSpoil) B.pre
  have hown : s.vm.findClass RX7 = some m.cls := findClass_of_methodNamed B.named
  have hlocks := B.notSynchronized
  subst hsz
  generalize hAe : AM L ad s.heap.size = A
  have hA : ∀ q : Nat, s.heap.size ≤ q → A q := fun q h => by rw [← hAe]; exact Or.inr h
  have hAL : ∀ k, k ∈ L → A (ad k) := fun k h => by rw [← hAe]; exact Or.inl ⟨k, h, rfl⟩
  have hDD : ∀ I D, va_D A (iwM L a b ad cy I D) := fun I D => iwM_D hM hAL I D
  obtain ⟨H, hH⟩ : ∃ H : Heap, H = s.heap := ⟨_, rfl⟩
  have hS : va_S A s.heap H [] := by rw [hH]; exact va_S.rf
  rw [← hH]
  rw [← hH] at hP
  have hl := lv_entry ([.ref (ad 0), .int p1, .int p2]) (n := 3) (Nat.le_of_ble_eq_true rfl)
  rw [lg_entry_eq]
  generalize (lg_sl ([.ref (ad 0), .int p1, .int p2]) ++ List.replicate (3 - (lg_sl ([.ref (ad 0), .int p1, .int p2])).length) Slot.unset).toArray = ls at hl ⊢
  have hl : lv_has ls 3 [(0, .ref (ad 0)), (1, .int p1), (2, .int p2)] := hl
  unfold f_X7_wouldSpoil at hf
  refine lv_aload_n hx hb dX7_wouldSpoil_0 rfl (lv_at hl 0 rfl) ?_
  refine lv_iconst (v := 0) hx hb dX7_wouldSpoil_1 (by decide) ?_
  obtain ⟨q_1, wq_1, heq_1⟩ := heM_0 (cy := cy) (I := I) (D := D) hM
  obtain ⟨I_2, eI_2, hf⟩ := nm_out hf
  refine va_put (D := (dC, dI)) (ci := 8) (v := .int 0) (ty := .int) (C := RX7) (T := TX7) (N := 9) hx hb hts iX7_wouldSpoil_RX7 tyX7 tyX7_ok nmX7 hown hK hP (hDD I D) hS q_1 heq_1 rfl 0 (by decide) (hts (.fieldLink RX7 32 "OverrunHouseModel" "thrown" "I") (List.mem_cons_of_mem _ (List.mem_append_left _ (List.mem_append_left _ (List.mem_append_left _ (List.mem_append_left _ (List.mem_append_left _ (List.mem_of_getElem? (i := 0) rfl)))))))) (fun _ h9 => h9) rfl (by decide +kernel) rfl rfl (Nat.le_of_ble_eq_true rfl) dX7_wouldSpoil_2 (fun H locs hP _ hS => ?_)
  have hP : va_P (dC, dI) vwCl (iwM L a b ad cy I_2 D) H := by rw [eI_2]; exact hqI hM wq_1 ((cellM_0 ad cy a b _ _).trans rfl) hP
  refine lv_aload_n hx hb dX7_wouldSpoil_5 rfl (lv_at hl 0 rfl) ?_
  refine lv_iload_n hx hb dX7_wouldSpoil_6 rfl (lv_at hl 1 rfl) ?_
  obtain ⟨r_3, g_4, hf⟩ := bd_out hf
  obtain ⟨q_5, wq_5, heq_5⟩ := heM_0 (cy := cy) (I := I_2) (D := D) hM
  refine va_calli (va_runV (As := [.int p1]) (rest := []) ⟨hx, hb, hml, hown, hts⟩ (mt_X7_isStore l dC dI L a b ad cy hM H.size I_2 D p1 r_3 g_4) (cwV 1 hts gX7_wouldSpoil_X7_isStore rfl rfl rfl (by decide +kernel) ⟨Nat.le_of_ble_eq_true rfl, Nat.le_of_ble_eq_true rfl⟩) ⟨(wM.pre [.ref (ad 0), .int p1] hP hK hN).1, wM.recv (C := RX7) (T := TX7) (N := 9) hP hK heq_5 rfl, (wM.pre [.ref (ad 0), .int p1] hP hK hN).2⟩ rfl rfl hl.1 rfl (lv_room (Nat.le_of_ble_eq_true rfl)) dX7_wouldSpoil_7 ⟨Nat.le_of_ble_eq_true rfl, Nat.le_of_ble_eq_true rfl⟩) hS (fun q _ h => hA q (Nat.le_trans hS.1 h)) (fun q h => hA q (Nat.le_trans hS.1 h)) (fun r9 u t H1 locs ht hvm hw hB hz1 hk1 hS => ?_)
  subst hw
  have hP := va_Pnew hP hk1
  clear hz1 hk1 hvm ht hB
  generalize H1 = H at hP hS ⊢
  refine lv_if_ne (tgt := 19) hx hb dX7_wouldSpoil_10 (by decide) (fun c_6 => ?_) (fun c_6 => ?_)
  · have hf := it_f hf c_6
    refine lv_iload_n hx hb dX7_wouldSpoil_19 rfl (lv_at hl 2 rfl) ?_
    refine lv_iconst (v := 0) hx hb dX7_wouldSpoil_20 (by decide) ?_
    refine lv_bipush (v := 20) hx hb dX7_wouldSpoil_21 (by decide) ?_
    obtain ⟨r_7, g_8, hf⟩ := bd_out hf
    refine va_calli (va_runS (As := [.int p2, .int 0, .int 20]) (rest := []) ⟨hx, hb, hml, hown, hts⟩ (mt_X7_in l H.size p2 0 20 r_7 g_8) (va_cwS 3 hts gX7_wouldSpoil_X7_in rfl rfl rfl (by decide +kernel) ⟨Nat.le_of_ble_eq_true rfl, Nat.le_of_ble_eq_true rfl⟩) (pre0 [.int p2, .int 0, .int 20]) rfl rfl hl.1 rfl (lv_room (Nat.le_of_ble_eq_true rfl)) dX7_wouldSpoil_23 ⟨Nat.le_of_ble_eq_true rfl, Nat.le_of_ble_eq_true rfl⟩) hS (fun q _ h => hA q (Nat.le_trans hS.1 h)) (fun q h => hA q (Nat.le_trans hS.1 h)) (fun r9 u t H1 locs ht hvm hw hB hz1 hk1 hS => ?_)
    subst hw
    have hP := va_Pnew hP hk1
    clear hz1 hk1 hvm ht hB
    generalize H1 = H at hP hS ⊢
    refine lv_if_ne (tgt := 35) hx hb dX7_wouldSpoil_26 (by decide) (fun c_9 => ?_) (fun c_9 => ?_)
    · have hf := it_f hf c_9
      refine lv_aload_n hx hb dX7_wouldSpoil_35 rfl (lv_at hl 0 rfl) ?_
      refine lv_iload_n hx hb dX7_wouldSpoil_36 rfl (lv_at hl 1 rfl) ?_
      refine lv_iload_n hx hb dX7_wouldSpoil_37 rfl (lv_at hl 2 rfl) ?_
      obtain ⟨⟨r_10, I_12, D_13⟩, g_11, hf⟩ := bd_out hf
      obtain ⟨q_14, wq_14, heq_14⟩ := heM_0 (cy := cy) (I := I_2) (D := D) hM
      have hAW : ∀ q, AM L ad H.size q → A q := fun q h => h.elim (fun ⟨k, k1, k2⟩ => k2 ▸ hAL k k1) (fun h => hA q (Nat.le_trans hS.1 h))
      refine va_calli (va_runV (As := [.int p1, .int p2]) (rest := []) ⟨hx, hb, hml, hown, hts⟩ (mt_X7_spoilNow l dC dI L a b ad cy hM h30 H.size I_2 D p1 p2 r_10 I_12 D_13 g_11) (cwV 2 hts gX7_wouldSpoil_X7_spoilNow rfl rfl rfl (by decide +kernel) ⟨Nat.le_of_ble_eq_true rfl, Nat.le_of_ble_eq_true rfl⟩) ⟨(wM.pre [.ref (ad 0), .int p1, .int p2] hP hK hN).1, wM.recv (C := RX7) (T := TX7) (N := 9) hP hK heq_14 rfl, (wM.pre [.ref (ad 0), .int p1, .int p2] hP hK hN).2⟩ rfl rfl hl.1 rfl (lv_room (Nat.le_of_ble_eq_true rfl)) dX7_wouldSpoil_38 ⟨Nat.le_of_ble_eq_true rfl, Nat.le_of_ble_eq_true rfl⟩) hS (fun q _ h => hAW q h) hAW (fun r9 u t H1 locs ht hvm hw hB hz1 hk1 hS => ?_)
      subst hw
      have hP : va_P (dC, dI) vwCl (iwM L a b ad cy I_12 D_13) H1 := by rw [← ht]; exact hB.1
      clear hz1 hk1 hvm ht hB
      generalize H1 = H at hP hS ⊢
      have hf := Option.some.inj hf
      obtain ⟨q1, q2⟩ := Prod.mk.inj hf
      obtain ⟨q2, q3⟩ := Prod.mk.inj q2
      rw [q2, q3] at hP
      exact W.iret (v := r_10) hx hb hr (fun t ht hW9 => ⟨⟨r_10, (), rfl, q1.symm, wM.of hP hK hN ht hW9⟩, hS.F ht⟩) hS.2.2 dX7_wouldSpoil_41
    · have hf := it_t hf c_9
      refine lv_aload_n hx hb dX7_wouldSpoil_29 rfl (lv_at hl 0 rfl) ?_
      refine lv_iconst (v := 2) hx hb dX7_wouldSpoil_30 (by decide) ?_
      obtain ⟨⟨r_15, I_17, D_18⟩, g_16, hf⟩ := bd_out hf
      obtain ⟨q_19, wq_19, heq_19⟩ := heM_0 (cy := cy) (I := I_2) (D := D) hM
      have hAW : ∀ q, AM L ad H.size q → A q := fun q h => h.elim (fun ⟨k, k1, k2⟩ => k2 ▸ hAL k k1) (fun h => hA q (Nat.le_trans hS.1 h))
      refine va_calli (va_runV (As := [.int 2]) (rest := []) ⟨hx, hb, hml, hown, hts⟩ (mt_X7_no l dC dI L a b ad cy hM H.size I_2 D 2 r_15 I_17 D_18 g_16) (cwV 1 hts gX7_wouldSpoil_X7_no rfl rfl rfl (by decide +kernel) ⟨Nat.le_of_ble_eq_true rfl, Nat.le_of_ble_eq_true rfl⟩) ⟨(wM.pre [.ref (ad 0), .int 2] hP hK hN).1, wM.recv (C := RX7) (T := TX7) (N := 9) hP hK heq_19 rfl, (wM.pre [.ref (ad 0), .int 2] hP hK hN).2⟩ rfl rfl hl.1 rfl (lv_room (Nat.le_of_ble_eq_true rfl)) dX7_wouldSpoil_31 ⟨Nat.le_of_ble_eq_true rfl, Nat.le_of_ble_eq_true rfl⟩) hS (fun q _ h => hAW q h) hAW (fun r9 u t H1 locs ht hvm hw hB hz1 hk1 hS => ?_)
      subst hw
      have hP : va_P (dC, dI) vwCl (iwM L a b ad cy I_17 D_18) H1 := by rw [← ht]; exact hB.1
      clear hz1 hk1 hvm ht hB
      generalize H1 = H at hP hS ⊢
      have hf := Option.some.inj hf
      obtain ⟨q1, q2⟩ := Prod.mk.inj hf
      obtain ⟨q2, q3⟩ := Prod.mk.inj q2
      rw [q2, q3] at hP
      refine W.widen (k := 8) (n := 76) (Nat.le_of_ble_eq_true rfl) (Nat.le_of_ble_eq_true rfl) ?_
      exact W.iret (v := r_15) hx hb hr (fun t ht hW9 => ⟨⟨r_15, (), rfl, q1.symm, wM.of hP hK hN ht hW9⟩, hS.F ht⟩) hS.2.2 dX7_wouldSpoil_34
  · have hf := it_t hf c_6
    refine lv_aload_n hx hb dX7_wouldSpoil_13 rfl (lv_at hl 0 rfl) ?_
    refine lv_iconst (v := 1) hx hb dX7_wouldSpoil_14 (by decide) ?_
    obtain ⟨⟨r_20, I_22, D_23⟩, g_21, hf⟩ := bd_out hf
    obtain ⟨q_24, wq_24, heq_24⟩ := heM_0 (cy := cy) (I := I_2) (D := D) hM
    have hAW : ∀ q, AM L ad H.size q → A q := fun q h => h.elim (fun ⟨k, k1, k2⟩ => k2 ▸ hAL k k1) (fun h => hA q (Nat.le_trans hS.1 h))
    refine va_calli (va_runV (As := [.int 1]) (rest := []) ⟨hx, hb, hml, hown, hts⟩ (mt_X7_no l dC dI L a b ad cy hM H.size I_2 D 1 r_20 I_22 D_23 g_21) (cwV 1 hts gX7_wouldSpoil_X7_no rfl rfl rfl (by decide +kernel) ⟨Nat.le_of_ble_eq_true rfl, Nat.le_of_ble_eq_true rfl⟩) ⟨(wM.pre [.ref (ad 0), .int 1] hP hK hN).1, wM.recv (C := RX7) (T := TX7) (N := 9) hP hK heq_24 rfl, (wM.pre [.ref (ad 0), .int 1] hP hK hN).2⟩ rfl rfl hl.1 rfl (lv_room (Nat.le_of_ble_eq_true rfl)) dX7_wouldSpoil_15 ⟨Nat.le_of_ble_eq_true rfl, Nat.le_of_ble_eq_true rfl⟩) hS (fun q _ h => hAW q h) hAW (fun r9 u t H1 locs ht hvm hw hB hz1 hk1 hS => ?_)
    subst hw
    have hP : va_P (dC, dI) vwCl (iwM L a b ad cy I_22 D_23) H1 := by rw [← ht]; exact hB.1
    clear hz1 hk1 hvm ht hB
    generalize H1 = H at hP hS ⊢
    have hf := Option.some.inj hf
    obtain ⟨q1, q2⟩ := Prod.mk.inj hf
    obtain ⟨q2, q3⟩ := Prod.mk.inj q2
    rw [q2, q3] at hP
    refine W.widen (k := 8) (n := 76) (Nat.le_of_ble_eq_true rfl) (Nat.le_of_ble_eq_true rfl) ?_
    exact W.iret (v := r_20) hx hb hr (fun t ht hW9 => ⟨⟨r_20, (), rfl, q1.symm, wM.of hP hK hN ht hW9⟩, hS.F ht⟩) hS.2.2 dX7_wouldSpoil_18
