def f_L_isBest_L152 (rec139 : Int32 → (Nat → Nat → Int32) → Option (Int32 × (Nat → Nat → Int32) × (Nat → Nat → UInt64) × (Nat → Nat → Int32))) (LS : Nat) (xs : Nat → Int32) (a : Nat) (b : Nat) (c : Nat) (d : Nat) (M : Nat → Nat → UInt64) (r_3 : Int32) (I_10 : Nat → Nat → Int32) (D_11 : Nat → Nat → UInt64) (r_8 : Int32) (x4_34 : Int32) (x7_139 : Int32) : Nat → Int32 → (Nat → Nat → Int32) → Option (Int32 × (Nat → Nat → Int32) × (Nat → Nat → UInt64) × (Nat → Nat → Int32))
  | 0, _, _ => none
  | n152 + 1, x8_152, K_L152 => (if x4_34 ≤ x8_152 then rec139 (x7_139 + 1) K_L152 else ck (inB x7_139 x4_34.toNatClampNeg) (ck (inB x8_152 x4_34.toNatClampNeg) (ck (inB x7_139 x4_34.toNatClampNeg) (nm (up2 K_L152 34 (x7_139).toNatClampNeg (K_L152 34 (x8_152).toNatClampNeg)) (fun K_38 => ck (inB x8_152 x4_34.toNatClampNeg) (nm (up2 K_38 34 (x8_152).toNatClampNeg (K_L152 34 (x7_139).toNatClampNeg)) (fun K_41 => bd (f_L_washes LS xs a b c d x4_34.toNatClampNeg I_10 D_11 K_41 M ) (fun r_42 => (if r_42 < r_8 then some (0, I_10, D_11, K_41) else (if r_42 = r_8 then bd (f_L_number LS xs a b c d x4_34.toNatClampNeg I_10 D_11 K_41 M ) (fun r_54 => (if r_3 ≤ r_54 then ck (inB x7_139 x4_34.toNatClampNeg) (ck (inB x8_152 x4_34.toNatClampNeg) (nm (up2 K_41 34 (x8_152).toNatClampNeg (K_41 34 (x7_139).toNatClampNeg)) (fun K_61 => ck (inB x7_139 x4_34.toNatClampNeg) (nm (up2 K_61 34 (x7_139).toNatClampNeg (K_L152 34 (x7_139).toNatClampNeg)) (fun K_64 => f_L_isBest_L152 rec139 LS xs a b c d M r_3 I_10 D_11 r_8 x4_34 x7_139 n152 (x8_152 + 1) K_64))))) else some (0, I_10, D_11, K_41))) else ck (inB x7_139 x4_34.toNatClampNeg) (ck (inB x8_152 x4_34.toNatClampNeg) (nm (up2 K_41 34 (x8_152).toNatClampNeg (K_41 34 (x7_139).toNatClampNeg)) (fun K_50 => ck (inB x7_139 x4_34.toNatClampNeg) (nm (up2 K_50 34 (x7_139).toNatClampNeg (K_L152 34 (x7_139).toNatClampNeg)) (fun K_53 => f_L_isBest_L152 rec139 LS xs a b c d M r_3 I_10 D_11 r_8 x4_34 x7_139 n152 (x8_152 + 1) K_53)))))))))))))))
def f_L_isBest_L139 (rec2 : Int32 → (Nat → Nat → Int32) → (Nat → Nat → UInt64) → (Nat → Nat → Int32) → Option (Int32 × (Nat → Nat → Int32) × (Nat → Nat → UInt64) × (Nat → Nat → Int32))) (LS : Nat) (xs : Nat → Int32) (a : Nat) (b : Nat) (c : Nat) (d : Nat) (M : Nat → Nat → UInt64) (x1_2 : Int32) (r_3 : Int32) (I_10 : Nat → Nat → Int32) (D_11 : Nat → Nat → UInt64) (r_8 : Int32) (x4_34 : Int32) : Nat → Int32 → (Nat → Nat → Int32) → Option (Int32 × (Nat → Nat → Int32) × (Nat → Nat → UInt64) × (Nat → Nat → Int32))
  | 0, _, _ => none
  | n139 + 1, x7_139, K_L139 => (if x4_34 ≤ x7_139 then rec2 (x1_2 + 1) I_10 D_11 K_L139 else f_L_isBest_L152 (f_L_isBest_L139 rec2 LS xs a b c d M x1_2 r_3 I_10 D_11 r_8 x4_34 n139) LS xs a b c d M r_3 I_10 D_11 r_8 x4_34 x7_139 200 (x7_139 + 1) K_L139)
def f_L_isBest_L70 (rec2 : Int32 → (Nat → Nat → Int32) → (Nat → Nat → UInt64) → (Nat → Nat → Int32) → Option (Int32 × (Nat → Nat → Int32) × (Nat → Nat → UInt64) × (Nat → Nat → Int32))) (LS : Nat) (xs : Nat → Int32) (a : Nat) (b : Nat) (c : Nat) (d : Nat) (M : Nat → Nat → UInt64) (x1_2 : Int32) (r_3 : Int32) (I_10 : Nat → Nat → Int32) (D_11 : Nat → Nat → UInt64) (r_8 : Int32) (x4_34 : Int32) : Nat → Int32 → Int32 → Int32 → (Nat → Nat → Int32) → Option (Int32 × (Nat → Nat → Int32) × (Nat → Nat → UInt64) × (Nat → Nat → Int32))
  | 0, _, _, _, _ => none
  | n70 + 1, x8_70, x7_70, x6_70, K_L70 => (if x7_70 ≤ 0 then (if x6_70 = x1_2 then bd (f_L_washes LS xs a b c d x4_34.toNatClampNeg I_10 D_11 K_L70 M ) (fun r_26 => (if r_26 = r_8 then (if r_8 < x4_34 then f_L_isBest_L139 rec2 LS xs a b c d M x1_2 r_3 I_10 D_11 r_8 x4_34 200 0 K_L70 else some (0, I_10, D_11, K_L70)) else some (0, I_10, D_11, K_L70))) else some (0, I_10, D_11, K_L70)) else ck (inB x8_70 x4_34.toNatClampNeg) (nm (up2 K_L70 34 (x8_70).toNatClampNeg ((x7_70 - x7_70 / 10 * 10) - 1)) (fun K_67 => ck (inB x8_70 x4_34.toNatClampNeg) (f_L_isBest_L70 rec2 LS xs a b c d M x1_2 r_3 I_10 D_11 r_8 x4_34 n70 (x8_70 + (-1)) (x7_70 / 10) (x6_70 + (1 <<< ((K_67 34 (x8_70).toNatClampNeg) &&& 31))) K_67))))
def f_L_isBest_L34 (rec2 : Int32 → (Nat → Nat → Int32) → (Nat → Nat → UInt64) → (Nat → Nat → Int32) → Option (Int32 × (Nat → Nat → Int32) × (Nat → Nat → UInt64) × (Nat → Nat → Int32))) (LS : Nat) (xs : Nat → Int32) (a : Nat) (b : Nat) (c : Nat) (d : Nat) (M : Nat → Nat → UInt64) (x1_2 : Int32) (K_L2 : Nat → Nat → Int32) (r_3 : Int32) (I_10 : Nat → Nat → Int32) (D_11 : Nat → Nat → UInt64) (r_8 : Int32) : Nat → Int32 → Int32 → Option (Int32 × (Nat → Nat → Int32) × (Nat → Nat → UInt64) × (Nat → Nat → Int32))
  | 0, _, _ => none
  | n34 + 1, x5_34, x4_34 => (if x5_34 ≤ 0 then ck (lenB x4_34) (nm (va_up K_L2 34 (fun _ => 0)) (fun K_22 => f_L_isBest_L70 rec2 LS xs a b c d M x1_2 r_3 I_10 D_11 r_8 x4_34 200 (x4_34 - 1) r_3 0 K_22)) else f_L_isBest_L34 rec2 LS xs a b c d M x1_2 K_L2 r_3 I_10 D_11 r_8 n34 (x5_34 / 10) (x4_34 + 1))
def f_L_isBest_L2 (LS : Nat) (xs : Nat → Int32) (a : Nat) (b : Nat) (c : Nat) (d : Nat) (M : Nat → Nat → UInt64) : Nat → Int32 → (Nat → Nat → Int32) → (Nat → Nat → UInt64) → (Nat → Nat → Int32) → Option (Int32 × (Nat → Nat → Int32) × (Nat → Nat → UInt64) × (Nat → Nat → Int32))
  | 0, _, _, _, _ => none
  | n2 + 1, x1_2, I_L2, D_L2, K_L2 => (if 16 ≤ x1_2 then some (1, I_L2, D_L2, K_L2) else bd (eO (f_X4_day I_L2 D_L2 x1_2 1)) (fun (r_3, I_5, D_6) => bd (eO (f_X4_day I_5 D_6 x1_2 0)) (fun (r_8, I_10, D_11) => f_L_isBest_L34 (f_L_isBest_L2 LS xs a b c d M n2) LS xs a b c d M x1_2 K_L2 r_3 I_10 D_11 r_8 200 r_3 0)))
def f_L_isBest (LS : Nat) (xs : Nat → Int32) (a b c d : Nat) (I : Nat → Nat → Int32) (D : Nat → Nat → UInt64) (K : Nat → Nat → Int32) (M : Nat → Nat → UInt64) : Option (Int32 × (Nat → Nat → Int32) × (Nat → Nat → UInt64) × (Nat → Nat → Int32)) :=
  f_L_isBest_L2 LS xs a b c d M 17 1 I D K
theorem iL_isBest_RX5 : ∀ w ∈ u_ws RX5 TX5 11, w ∈ wsL_isBest := fun w h => List.mem_cons_of_mem _ (List.mem_append_left _ (List.mem_append_left _ (List.mem_append_left _ (List.mem_append_left _ (List.mem_append_right _ (h))))))
set_option maxHeartbeats 4000000 in
set_option maxRecDepth 100000 in
theorem mt_L_isBest (l : Launch) (dC : Nat → ClassId) (dI : Nat → Nat → Nat) (a b c d bS : Nat) (ad : Nat → Nat) (cy : Nat → ClassId) (hM : tOK (tL a b c) a b c d bS ad) (r LS : Nat) (xs : Nat → Int32) (sz : Nat) (I : Nat → Nat → Int32) (D : Nat → Nat → UInt64) (K : Nat → Nat → Int32) (M : Nat → Nat → UInt64) (rr : Int32) (I9 : Nat → Nat → Int32) (D9 : Nat → Nat → UInt64) (K9 : Nat → Nat → Int32) (hf : f_L_isBest LS xs a b c d I D K M = some (rr, I9, D9, K9)) : Met l yL_isBest wsL_isBest ({ frames := 5, cells := 17, slots := 340, locals := 120 }) (va_Pc [.ref (ad 40)] (fun U => U.heap.size = sz ∧ tW dC dI (tL a b c) ad cy bS a b c d r LS xs I D K M U)) (va_Qi (fun r (_ : Unit) => rr = r) (fun _ t => tW dC dI (tL a b c) ad cy bS a b c d r LS xs I9 D9 K9 M t) (AT (tL a b c) ad sz)) 17 340 (AT (tL a b c) ad sz) := by
  refine Met.ofW (cc := cL_isBest) (maxL := 11) (ret := (some .boolean)) (by decide) rfl ?_
  intro p e s m args below meth cX s₁ B hml hv
  obtain ⟨rfl, hsz, hP, hK, hN, hX0⟩ := hv
  have hx := B.exec
  have hb := B.bytes
  have hr := B.returns
  have hts := atoms_spec (ws := wsL_isBest) B.pre
  have hown : s.vm.findClass RL = some m.cls := findClass_of_methodNamed B.named
  have hlocks := B.notSynchronized
  subst hsz
  have hbl : bS < s.heap.size := by obtain ⟨scr, h, -⟩ := hX0; exact (Array.getElem?_eq_some_iff.mp h).1
  generalize hAe : AT (tL a b c) ad s.heap.size = A
  have hA : ∀ q : Nat, s.heap.size ≤ q → A q := fun q h => by rw [← hAe]; exact Or.inr h
  have hAL : ∀ k, k ∈ (tL a b c) → A (ad k) := fun k h => by rw [← hAe]; exact Or.inl ⟨k, h, rfl⟩
  have hDD : ∀ r I D K M, va_D A (iwT (tL a b c) ad cy bS a b c d r I D K M) := fun r I D K M => iwT_D hM hAL I D K M
  have hbA : ¬ A bS := fun h => by rw [← hAe] at h; exact h.elim (fun ⟨k, k1, k2⟩ => hM.2.1 k k1 k2) (fun h => Nat.lt_irrefl _ (Nat.lt_of_lt_of_le hbl h))
  obtain ⟨H, hH⟩ : ∃ H : Heap, H = s.heap := ⟨_, rfl⟩
  have hS : va_S A s.heap H [] := by rw [hH]; exact va_S.rf
  have hP : va_P (dC, dI) vwCl (iwT (tL a b c) ad cy bS a b c d r I D K M) H := by rw [hH]; exact hP
  suffices hgo : ∀ locs, va_S A s.heap H locs → W p l e (headSpec wsL_isBest ({ frames := 5, cells := 17, slots := 340, locals := 120 })).room s m ([.ref (ad 40)] : List Value).toArray below meth cX H locs 0 0 (MQ below (va_Qi (fun r (_ : Unit) => rr = r) (fun _ t => tW dC dI (tL a b c) ad cy bS a b c d r LS xs I9 D9 K9 M t) A) ([.ref (ad 40)] : List Value).toArray s 17 340 A) (entryFrame m ([.ref (ad 40)] : List Value).toArray 11) by subst hH; exact hgo [] hS
  clear hS hH
  intro locs hS
  have hl := lv_entry ([.ref (ad 40)]) (n := 11) (Nat.le_of_ble_eq_true rfl)
  rw [lg_entry_eq]
  generalize (lg_sl ([.ref (ad 40)]) ++ List.replicate (11 - (lg_sl ([.ref (ad 40)])).length) Slot.unset).toArray = ls at hl ⊢
  have hl : lv_has ls 11 [(0, .ref (ad 40))] := hl
  unfold f_L_isBest at hf
  refine lv_iconst (v := 1) hx hb dL_isBest_0 (by decide) ?_
  refine lv_istore_n (lv' := [(1, .int 1), (0, .ref (ad 40))]) hx hb dL_isBest_1 rfl hl (by decide) rfl (fun ls hl => ?_)
  have L2 : ∀ (n2 : Nat) (x1_2 : Int32) (I_L2 : Nat → Nat → Int32) (D_L2 : Nat → Nat → UInt64) (K_L2 : Nat → Nat → Int32), f_L_isBest_L2 LS xs a b c d M n2 x1_2 I_L2 D_L2 K_L2 = some (rr, I9, D9, K9) → ∀ (H : Heap) (locs : List Loc) (ls : Array Slot), va_P (dC, dI) vwCl (iwT (tL a b c) ad cy bS a b c d r I_L2 D_L2 K_L2 M) H → va_S A s.heap H locs → lv_has ls 11 [(1, .int x1_2), (0, .ref (ad 40))] → ∀ (cu2 su2 : Nat), cu2 + n2 * 1 ≤ 17 → su2 + n2 * 20 ≤ 340 → W p l e (headSpec wsL_isBest ({ frames := 5, cells := 17, slots := 340, locals := 120 })).room s m ([.ref (ad 40)] : List Value).toArray below meth cX H locs cu2 su2 (MQ below (va_Qi (fun r (_ : Unit) => rr = r) (fun _ t => tW dC dI (tL a b c) ad cy bS a b c d r LS xs I9 D9 K9 M t) A) ([.ref (ad 40)] : List Value).toArray s 17 340 A) (F0 m 2 ls []) := by
    intro n2
    induction n2 with
    | zero => intro x1_2 I_L2 D_L2 K_L2 hf; exact nomatch hf
    | succ n2 ih2 =>
      intro x1_2 I_L2 D_L2 K_L2 hf H locs ls hP hS hl cu2 su2 hcu2 hsu2
      unfold f_L_isBest_L2 at hf
      refine lv_iload_n hx hb dL_isBest_2 rfl (lv_at hl 0 rfl) ?_
      refine lv_bipush (v := 16) hx hb dL_isBest_3 (by decide) ?_
      refine lv_icmp_ge (tgt := 249) hx hb dL_isBest_5 (by decide) (fun c_1 => ?_) (fun c_1 => ?_)
      · have hf := it_t hf c_1
        refine W.widen (k := 17) (n := 340) (by omega) (by omega) ?_
        refine lv_iconst (v := 1) hx hb dL_isBest_249 (by decide) ?_
        have hf := Option.some.inj hf
        obtain ⟨q1, hf⟩ := Prod.mk.inj hf
        obtain ⟨qI, hf⟩ := Prod.mk.inj hf
        obtain ⟨qD, qK⟩ := Prod.mk.inj hf
        exact W.zret (ty := .boolean) (v := 1) hx hb hr rfl (fun t ht hW9 => ⟨⟨1, (), rfl, q1.symm, (by rw [← qI, ← qD, ← qK]; exact tW.of hP hK hN (hX0.kept (hS.2.1 bS hbl hbA)) ht hW9)⟩, hS.F ht⟩) hS.2.2 dL_isBest_250
      · have hf := it_f hf c_1
        refine lv_aload_n hx hb dL_isBest_8 rfl (lv_at hl 1 rfl) ?_
        obtain ⟨q_2, wq_2, heq_2⟩ := heT_40 (L := (tL a b c)) (ad := ad) (cy := cy) (bS := bS) (a := a) (b := b) (c := c) (d := d) (r := r) (I := I_L2) (D := D_L2) (K := K_L2) (M := M) hM
        refine va_get (D := (dC, dI)) (ci := 5) (v := .ref (ad 0)) (C := RX5) (T := TX5) (N := 11) hx hb hts iL_isBest_RX5 hown hK hP q_2 heq_2 rfl 0 (by decide) (hts (.fieldLink RL 14 "OverrunHouseLaw$Told" "m" "LOverrunHouse;") (List.mem_cons_of_mem _ (List.mem_append_left _ (List.mem_append_left _ (List.mem_append_left _ (List.mem_append_left _ (List.mem_append_left _ (List.mem_append_left _ (List.mem_of_getElem? (i := 0) rfl))))))))) (fun _ h9 => h9) rfl dL_isBest_9 ?_
        refine lv_iload_n hx hb dL_isBest_12 rfl (lv_at hl 0 rfl) ?_
        refine lv_iconst (v := 1) hx hb dL_isBest_13 (by decide) ?_
        obtain ⟨⟨r_3, I_5, D_6⟩, g_4, hf⟩ := bd_out hf
        have hPH := iwT_H hM hP
        have hAW : ∀ q, AW ad H.size q → A q := fun q h => h.elim (fun ⟨k, k1, k2⟩ => k2 ▸ hAL k (hM.1.2.1 _ (tL_H k1))) (fun h => hA q (Nat.le_trans hS.1 h))
        refine va_calli (va_runV (As := [.int x1_2, .int 1]) (rest := []) ⟨hx, hb, hml, hown, hts⟩ (mt_X4_day l dC dI ad cy hM.J H.size I_L2 D_L2 x1_2 1 r_3 I_5 D_6 (eO_out g_4)) (cwV 2 hts gL_isBest_X4_day rfl rfl rfl (by decide +kernel) ⟨(Nat.le_of_ble_eq_true rfl), (Nat.le_of_ble_eq_true rfl)⟩) ⟨(hW.pre [.ref (ad 0), .int x1_2, .int 1] hPH hK hN.1).1, hW.recv (C := RX4) (T := TX4) (N := 14) hPH hK heH_0 rfl, (hW.pre [.ref (ad 0), .int x1_2, .int 1] hPH hK hN.1).2⟩ rfl rfl hl.1 rfl (lv_room (Nat.le_of_ble_eq_true rfl)) dL_isBest_14 ⟨by show cu2 + 0 ≤ 17; omega, by show su2 + 0 ≤ 340; omega⟩) hS (fun q _ h => hAW q h) (fun q h => hAW q h) (fun r9 u t H1 locs ht hvm hw hB hz1 hk1 hS9 => ?_)
        subst hw
        have hP : va_P (dC, dI) vwCl (iwT (tL a b c) ad cy bS a b c d r I_5 D_6 K_L2 M) H1 := iwT_join hM hP (by rw [← ht]; exact hB.1) hk1
        have hS := hS9
        clear hB hz1 hk1 hvm ht hS9
        generalize H1 = H at hP hS ⊢
        refine lv_istore_n (lv' := [(2, .int r_3), (1, .int x1_2), (0, .ref (ad 40))]) hx hb dL_isBest_17 rfl hl (by decide) rfl (fun ls hl => ?_)
        refine lv_aload_n hx hb dL_isBest_18 rfl (lv_at hl 2 rfl) ?_
        obtain ⟨q_7, wq_7, heq_7⟩ := heT_40 (L := (tL a b c)) (ad := ad) (cy := cy) (bS := bS) (a := a) (b := b) (c := c) (d := d) (r := r) (I := I_5) (D := D_6) (K := K_L2) (M := M) hM
        refine va_get (D := (dC, dI)) (ci := 5) (v := .ref (ad 0)) (C := RX5) (T := TX5) (N := 11) hx hb hts iL_isBest_RX5 hown hK hP q_7 heq_7 rfl 0 (by decide) (hts (.fieldLink RL 14 "OverrunHouseLaw$Told" "m" "LOverrunHouse;") (List.mem_cons_of_mem _ (List.mem_append_left _ (List.mem_append_left _ (List.mem_append_left _ (List.mem_append_left _ (List.mem_append_left _ (List.mem_append_left _ (List.mem_of_getElem? (i := 0) rfl))))))))) (fun _ h9 => h9) rfl dL_isBest_19 ?_
        refine lv_iload_n hx hb dL_isBest_22 rfl (lv_at hl 1 rfl) ?_
        refine lv_iconst (v := 0) hx hb dL_isBest_23 (by decide) ?_
        obtain ⟨⟨r_8, I_10, D_11⟩, g_9, hf⟩ := bd_out hf
        have hPH := iwT_H hM hP
        have hAW : ∀ q, AW ad H.size q → A q := fun q h => h.elim (fun ⟨k, k1, k2⟩ => k2 ▸ hAL k (hM.1.2.1 _ (tL_H k1))) (fun h => hA q (Nat.le_trans hS.1 h))
        refine va_calli (va_runV (As := [.int x1_2, .int 0]) (rest := []) ⟨hx, hb, hml, hown, hts⟩ (mt_X4_day l dC dI ad cy hM.J H.size I_5 D_6 x1_2 0 r_8 I_10 D_11 (eO_out g_9)) (cwV 2 hts gL_isBest_X4_day rfl rfl rfl (by decide +kernel) ⟨(Nat.le_of_ble_eq_true rfl), (Nat.le_of_ble_eq_true rfl)⟩) ⟨(hW.pre [.ref (ad 0), .int x1_2, .int 0] hPH hK hN.1).1, hW.recv (C := RX4) (T := TX4) (N := 14) hPH hK heH_0 rfl, (hW.pre [.ref (ad 0), .int x1_2, .int 0] hPH hK hN.1).2⟩ rfl rfl hl.1 rfl (lv_room (Nat.le_of_ble_eq_true rfl)) dL_isBest_24 ⟨by show cu2 + 0 ≤ 17; omega, by show su2 + 0 ≤ 340; omega⟩) hS (fun q _ h => hAW q h) (fun q h => hAW q h) (fun r9 u t H1 locs ht hvm hw hB hz1 hk1 hS9 => ?_)
        subst hw
        have hP : va_P (dC, dI) vwCl (iwT (tL a b c) ad cy bS a b c d r I_10 D_11 K_L2 M) H1 := iwT_join hM hP (by rw [← ht]; exact hB.1) hk1
        have hS := hS9
        clear hB hz1 hk1 hvm ht hS9
        generalize H1 = H at hP hS ⊢
        refine lv_istore_n (lv' := [(3, .int r_8), (2, .int r_3), (1, .int x1_2), (0, .ref (ad 40))]) hx hb dL_isBest_27 rfl hl (by decide) rfl (fun ls hl => ?_)
        refine lv_iconst (v := 0) hx hb dL_isBest_28 (by decide) ?_
        refine lv_istore (lv' := [(4, .int 0), (3, .int r_8), (2, .int r_3), (1, .int x1_2), (0, .ref (ad 40))]) hx hb dL_isBest_29 hl (by decide) rfl (fun ls hl => ?_)
        refine lv_iload_n hx hb dL_isBest_31 rfl (lv_at hl 2 rfl) ?_
        refine lv_istore (lv' := [(5, .int r_3), (4, .int 0), (3, .int r_8), (2, .int r_3), (1, .int x1_2), (0, .ref (ad 40))]) hx hb dL_isBest_32 hl (by decide) rfl (fun ls hl => ?_)
        have L34 : ∀ (n34 : Nat) (x5_34 : Int32) (x4_34 : Int32), f_L_isBest_L34 (f_L_isBest_L2 LS xs a b c d M n2) LS xs a b c d M x1_2 K_L2 r_3 I_10 D_11 r_8 n34 x5_34 x4_34 = some (rr, I9, D9, K9) → ∀ (H : Heap) (locs : List Loc) (ls : Array Slot), va_P (dC, dI) vwCl (iwT (tL a b c) ad cy bS a b c d r I_10 D_11 K_L2 M) H → va_S A s.heap H locs → lv_has ls 11 [(5, .int x5_34), (4, .int x4_34), (3, .int r_8), (2, .int r_3), (1, .int x1_2), (0, .ref (ad 40))] → W p l e (headSpec wsL_isBest ({ frames := 5, cells := 17, slots := 340, locals := 120 })).room s m ([.ref (ad 40)] : List Value).toArray below meth cX H locs cu2 su2 (MQ below (va_Qi (fun r (_ : Unit) => rr = r) (fun _ t => tW dC dI (tL a b c) ad cy bS a b c d r LS xs I9 D9 K9 M t) A) ([.ref (ad 40)] : List Value).toArray s 17 340 A) (F0 m 34 ls []) := by
          intro n34
          induction n34 with
          | zero => intro x5_34 x4_34 hf; exact nomatch hf
          | succ n34 ih34 =>
            intro x5_34 x4_34 hf H locs ls hP hS hl
            unfold f_L_isBest_L34 at hf
            refine lv_iload hx hb dL_isBest_34 (lv_at hl 0 rfl) ?_
            refine lv_if_le (tgt := 52) hx hb dL_isBest_36 (by decide) (fun c_12 => ?_) (fun c_12 => ?_)
            · have hf := it_t hf c_12
              refine lv_iload hx hb dL_isBest_52 (lv_at hl 1 rfl) ?_
              obtain ⟨h_21, hf⟩ := ck_out hf
              refine va_newa (atype := .int) (ty := .int) (N' := x4_34.toNatClampNeg) (a0 := (x4_34.toNatClampNeg, .inl (fun _ => 0))) (D := (dC, dI)) (cl := vwCl) hx hb (hts (.arrayClass .int) (List.mem_cons_of_mem _ (List.mem_append_left _ (List.mem_append_left _ (List.mem_append_left _ (List.mem_append_left _ (List.mem_append_left _ (List.mem_append_left _ (List.mem_of_getElem? (i := 1) rfl))))))))) rfl hK hP (hDD r I_10 D_11 K_L2 M) hS hA (fun cA => va_arr0 cA x4_34.toNatClampNeg) (lenB_1 h_21) rfl (by have := lenB_2 h_21; show x4_34.toNatClampNeg * 4 ≤ 536870912; omega) (by show cu2 + 1 ≤ 17; omega) (by have := lenB_2 h_21; show su2 + x4_34.toNatClampNeg ≤ 340; omega) dL_isBest_54 (fun q_13 cA_14 H hKt hP hD hS => ?_)
              obtain rfl : cA_14 = cy 0 := cy_same hKt 0 rfl rfl
              obtain ⟨K_22, eK_22, hf⟩ := nm_out hf
              obtain ⟨ad_17, hM_18, hP, hAL_19, hE_15, hq_16⟩ := t_new (r1 := x4_34.toNatClampNeg) (K1 := (va_up K_L2 34 (fun _ => 0))) (M1 := M) (Or.inl rfl) (fun hk => (tL_lt hM.2.2.1 hM.2.2.2.1 hM.2.2.2.2.1 hk).1 rfl) (fun k hk => Or.inl hk) hM hP hD hbA (fun hk => absurd hk (fun hk => (tL_lt hM.2.2.1 hM.2.2.2.1 hM.2.2.2.2.1 hk).1 rfl)) (fun ad1 => (cellT_34 ad1 cy bS a b c d x4_34.toNatClampNeg _ _).trans (by rw [va_up_self])) (fun k hk => va_up_ne _ _ hk) (fun _ _ => rfl)
              have hF_23 : ∀ k ∈ tL a b c, ad_17 k = ad k := fun k hk => hE_15 k hk
              rw [← eK_22] at hP
              have hDD_20 : ∀ r I D K M, va_D A (iwT (tL a b c ++ [34]) ad_17 cy bS a b c d r I D K M) := fun r I D K M => iwT_D hM_18 hAL_19 I D K M
              have hl : lv_has ls 11 [(5, .int x5_34), (4, .int x4_34), (3, .int r_8), (2, .int r_3), (1, .int x1_2), (0, .ref (ad_17 40))] := by rw [hE_15 40 (tL_c (by decide))]; exact hl
              refine W.eq (g2 := F0 m 56 ls [.ref (ad_17 34)]) (by rw [hq_16]) ?_
              refine W.widen (k := cu2 + 1) (n := su2 + 20) (Nat.le_refl _) (by have := lenB_2 h_21; omega) ?_
              refine lv_astore (lv' := [(5, .ref (ad_17 34)), (4, .int x4_34), (3, .int r_8), (2, .int r_3), (1, .int x1_2), (0, .ref (ad_17 40))]) hx hb dL_isBest_56 hl (by decide) rfl (fun ls hl => ?_)
              refine lv_iconst (v := 0) hx hb dL_isBest_58 (by decide) ?_
              refine lv_istore (lv' := [(6, .int 0), (5, .ref (ad_17 34)), (4, .int x4_34), (3, .int r_8), (2, .int r_3), (1, .int x1_2), (0, .ref (ad_17 40))]) hx hb dL_isBest_59 hl (by decide) rfl (fun ls hl => ?_)
              refine lv_iload_n hx hb dL_isBest_61 rfl (lv_at hl 4 rfl) ?_
              refine lv_istore (lv' := [(7, .int r_3), (6, .int 0), (5, .ref (ad_17 34)), (4, .int x4_34), (3, .int r_8), (2, .int r_3), (1, .int x1_2), (0, .ref (ad_17 40))]) hx hb dL_isBest_62 hl (by decide) rfl (fun ls hl => ?_)
              refine lv_iload hx hb dL_isBest_64 (lv_at hl 3 rfl) ?_
              refine lv_iconst (v := 1) hx hb dL_isBest_66 (by decide) ?_
              refine lv_isub hx hb dL_isBest_67 ?_
              refine lv_istore (lv' := [(8, .int (x4_34 - 1)), (7, .int r_3), (6, .int 0), (5, .ref (ad_17 34)), (4, .int x4_34), (3, .int r_8), (2, .int r_3), (1, .int x1_2), (0, .ref (ad_17 40))]) hx hb dL_isBest_68 hl (by decide) rfl (fun ls hl => ?_)
              have L70 : ∀ (n70 : Nat) (x8_70 : Int32) (x7_70 : Int32) (x6_70 : Int32) (K_L70 : Nat → Nat → Int32), f_L_isBest_L70 (f_L_isBest_L2 LS xs a b c d M n2) LS xs a b c d M x1_2 r_3 I_10 D_11 r_8 x4_34 n70 x8_70 x7_70 x6_70 K_L70 = some (rr, I9, D9, K9) → ∀ (H : Heap) (locs : List Loc) (ls : Array Slot), va_P (dC, dI) vwCl (iwT (tL a b c ++ [34]) ad_17 cy bS a b c d x4_34.toNatClampNeg I_10 D_11 K_L70 M) H → va_S A s.heap H locs → lv_has ls 11 [(8, .int x8_70), (7, .int x7_70), (6, .int x6_70), (5, .ref (ad_17 34)), (4, .int x4_34), (3, .int r_8), (2, .int r_3), (1, .int x1_2), (0, .ref (ad_17 40))] → W p l e (headSpec wsL_isBest ({ frames := 5, cells := 17, slots := 340, locals := 120 })).room s m ([.ref (ad 40)] : List Value).toArray below meth cX H locs (cu2 + 1) (su2 + 20) (MQ below (va_Qi (fun r (_ : Unit) => rr = r) (fun _ t => tW dC dI (tL a b c) ad cy bS a b c d r LS xs I9 D9 K9 M t) A) ([.ref (ad 40)] : List Value).toArray s 17 340 A) (F0 m 70 ls []) := by
                intro n70
                induction n70 with
                | zero => intro x8_70 x7_70 x6_70 K_L70 hf; exact nomatch hf
                | succ n70 ih70 =>
                  intro x8_70 x7_70 x6_70 K_L70 hf H locs ls hP hS hl
                  unfold f_L_isBest_L70 at hf
                  refine lv_iload hx hb dL_isBest_70 (lv_at hl 1 rfl) ?_
                  refine lv_if_le (tgt := 112) hx hb dL_isBest_72 (by decide) (fun c_24 => ?_) (fun c_24 => ?_)
                  · have hf := it_t hf c_24
                    refine lv_iload hx hb dL_isBest_112 (lv_at hl 2 rfl) ?_
                    refine lv_iload_n hx hb dL_isBest_114 rfl (lv_at hl 7 rfl) ?_
                    refine lv_icmp_ne (tgt := 134) hx hb dL_isBest_115 (by decide) (fun c_25 => ?_) (fun c_25 => ?_)
                    · have hf := it_f hf c_25
                      refine lv_iconst (v := 0) hx hb dL_isBest_134 (by decide) ?_
                      have hf := Option.some.inj hf
                      obtain ⟨q1, hf⟩ := Prod.mk.inj hf
                      obtain ⟨qI, hf⟩ := Prod.mk.inj hf
                      obtain ⟨qD, qK⟩ := Prod.mk.inj hf
                      have hP := t_drop (L1 := (tL a b c ++ [34])) hF_23 (fun k hk => List.mem_append_left _ (hk)) hP r
                      refine W.widen (k := 17) (n := 340) (by omega) (by omega) ?_
                      exact W.zret (ty := .boolean) (v := 0) hx hb hr rfl (fun t ht hW9 => ⟨⟨0, (), rfl, q1.symm, (by rw [← qI, ← qD, ← qK]; exact tW.of hP hK hN (hX0.kept (hS.2.1 bS hbl hbA)) ht hW9)⟩, hS.F ht⟩) hS.2.2 dL_isBest_135
                    · have hf := it_t hf c_25
                      refine lv_aload_n hx hb dL_isBest_118 rfl (lv_at hl 8 rfl) ?_
                      refine lv_aload hx hb dL_isBest_119 (lv_at hl 3 rfl) ?_
                      obtain ⟨r_26, g_27, hf⟩ := bd_out hf
                      refine va_calli (va_runS (As := [.ref (ad_17 40), .ref (ad_17 34)]) (rest := []) ⟨hx, hb, hml, hown, hts⟩ (mt_L_washes l dC dI (tL a b c ++ [34]) a b c d bS ad_17 cy hM_18 (List.mem_append_right _ (by decide)) x4_34.toNatClampNeg LS xs H.size I_10 D_11 K_L70 M  r_26 g_27) (va_cwS 2 hts gL_isBest_L_washes rfl rfl rfl (by decide +kernel) ⟨(Nat.le_of_ble_eq_true rfl), (Nat.le_of_ble_eq_true rfl)⟩) (tW.pre [.ref (ad_17 40), .ref (ad_17 34)] hP hK hN (hX0.kept (hS.2.1 bS hbl hbA))) rfl rfl hl.1 rfl (lv_room (Nat.le_of_ble_eq_true rfl)) dL_isBest_121 ⟨by show cu2 + 1 + 0 ≤ 17; omega, by show su2 + 20 + 0 ≤ 340; omega⟩) hS (fun q _ h => hA q (Nat.le_trans hS.1 h)) (fun q h => hA q (Nat.le_trans hS.1 h)) (fun r9 u t H1 locs ht hvm hw hB hz1 hk1 hS9 => ?_)
                      subst hw
                      have hP := va_Pnew hP hk1
                      have hS := hS9
                      clear hB hz1 hk1 hvm ht hS9
                      generalize H1 = H at hP hS ⊢
                      refine lv_iload_n hx hb dL_isBest_124 rfl (lv_at hl 5 rfl) ?_
                      refine lv_icmp_ne (tgt := 134) hx hb dL_isBest_125 (by decide) (fun c_28 => ?_) (fun c_28 => ?_)
                      · have hf := it_f hf c_28
                        refine lv_iconst (v := 0) hx hb dL_isBest_134 (by decide) ?_
                        have hf := Option.some.inj hf
                        obtain ⟨q1, hf⟩ := Prod.mk.inj hf
                        obtain ⟨qI, hf⟩ := Prod.mk.inj hf
                        obtain ⟨qD, qK⟩ := Prod.mk.inj hf
                        have hP := t_drop (L1 := (tL a b c ++ [34])) hF_23 (fun k hk => List.mem_append_left _ (hk)) hP r
                        refine W.widen (k := 17) (n := 340) (by omega) (by omega) ?_
                        exact W.zret (ty := .boolean) (v := 0) hx hb hr rfl (fun t ht hW9 => ⟨⟨0, (), rfl, q1.symm, (by rw [← qI, ← qD, ← qK]; exact tW.of hP hK hN (hX0.kept (hS.2.1 bS hbl hbA)) ht hW9)⟩, hS.F ht⟩) hS.2.2 dL_isBest_135
                      · have hf := it_t hf c_28
                        refine lv_iload_n hx hb dL_isBest_128 rfl (lv_at hl 5 rfl) ?_
                        refine lv_iload hx hb dL_isBest_129 (lv_at hl 4 rfl) ?_
                        refine lv_icmp_lt (tgt := 136) hx hb dL_isBest_131 (by decide) (fun c_29 => ?_) (fun c_29 => ?_)
                        · have hf := it_t hf c_29
                          refine lv_iconst (v := 0) hx hb dL_isBest_136 (by decide) ?_
                          refine lv_istore (lv' := [(7, .int 0), (8, .int x8_70), (6, .int x6_70), (5, .ref (ad_17 34)), (4, .int x4_34), (3, .int r_8), (2, .int r_3), (1, .int x1_2), (0, .ref (ad_17 40))]) hx hb dL_isBest_137 hl (by decide) rfl (fun ls hl => ?_)
                          have L139 : ∀ (n139 : Nat) (x7_139 : Int32) (K_L139 : Nat → Nat → Int32), f_L_isBest_L139 (f_L_isBest_L2 LS xs a b c d M n2) LS xs a b c d M x1_2 r_3 I_10 D_11 r_8 x4_34 n139 x7_139 K_L139 = some (rr, I9, D9, K9) → ∀ (H : Heap) (locs : List Loc) (ls : Array Slot), va_P (dC, dI) vwCl (iwT (tL a b c ++ [34]) ad_17 cy bS a b c d x4_34.toNatClampNeg I_10 D_11 K_L139 M) H → va_S A s.heap H locs → lv_has ls 11 [(7, .int x7_139), (6, .int x6_70), (5, .ref (ad_17 34)), (4, .int x4_34), (3, .int r_8), (2, .int r_3), (1, .int x1_2), (0, .ref (ad_17 40))] → W p l e (headSpec wsL_isBest ({ frames := 5, cells := 17, slots := 340, locals := 120 })).room s m ([.ref (ad 40)] : List Value).toArray below meth cX H locs (cu2 + 1) (su2 + 20) (MQ below (va_Qi (fun r (_ : Unit) => rr = r) (fun _ t => tW dC dI (tL a b c) ad cy bS a b c d r LS xs I9 D9 K9 M t) A) ([.ref (ad 40)] : List Value).toArray s 17 340 A) (F0 m 139 ls []) := by
                            intro n139
                            induction n139 with
                            | zero => intro x7_139 K_L139 hf; exact nomatch hf
                            | succ n139 ih139 =>
                              intro x7_139 K_L139 hf H locs ls hP hS hl
                              unfold f_L_isBest_L139 at hf
                              refine lv_iload hx hb dL_isBest_139 (lv_at hl 0 rfl) ?_
                              refine lv_iload hx hb dL_isBest_141 (lv_at hl 3 rfl) ?_
                              refine lv_icmp_ge (tgt := 243) hx hb dL_isBest_143 (by decide) (fun c_30 => ?_) (fun c_30 => ?_)
                              · have hf := it_t hf c_30
                                refine lv_iinc (v := (x1_2 + 1)) (lv' := [(1, .int (x1_2 + 1)), (7, .int x7_139), (6, .int x6_70), (5, .ref (ad_17 34)), (4, .int x4_34), (3, .int r_8), (2, .int r_3), (0, .ref (ad_17 40))]) hx hb dL_isBest_243 hl (k := 6) rfl rfl (by decide) rfl (fun ls hl => ?_)
                                refine lv_goto (tgt := 2) hx hb dL_isBest_246 (by decide) ?_
                                have hP := t_drop (L1 := (tL a b c ++ [34])) hF_23 (fun k hk => List.mem_append_left _ (hk)) hP r
                                have hl : lv_has ls 11 [(1, .int (x1_2 + 1)), (0, .ref (ad 40))] := by rw [← hF_23 40 (tL_c (by decide))]; exact lv_sub hl [0, 7] rfl
                                exact ih2 (x1_2 + 1) I_10 D_11 K_L139 hf _ _ _ hP hS (lv_sub hl [0, 1] rfl) _ _ (by omega) (by omega)
                              · have hf := it_f hf c_30
                                refine lv_iload hx hb dL_isBest_146 (lv_at hl 0 rfl) ?_
                                refine lv_iconst (v := 1) hx hb dL_isBest_148 (by decide) ?_
                                refine lv_iadd hx hb dL_isBest_149 ?_
                                refine lv_istore (lv' := [(8, .int (x7_139 + 1)), (7, .int x7_139), (6, .int x6_70), (5, .ref (ad_17 34)), (4, .int x4_34), (3, .int r_8), (2, .int r_3), (1, .int x1_2), (0, .ref (ad_17 40))]) hx hb dL_isBest_150 hl (by decide) rfl (fun ls hl => ?_)
                                have L152 : ∀ (n152 : Nat) (x8_152 : Int32) (K_L152 : Nat → Nat → Int32), f_L_isBest_L152 (f_L_isBest_L139 (f_L_isBest_L2 LS xs a b c d M n2) LS xs a b c d M x1_2 r_3 I_10 D_11 r_8 x4_34 n139) LS xs a b c d M r_3 I_10 D_11 r_8 x4_34 x7_139 n152 x8_152 K_L152 = some (rr, I9, D9, K9) → ∀ (H : Heap) (locs : List Loc) (ls : Array Slot), va_P (dC, dI) vwCl (iwT (tL a b c ++ [34]) ad_17 cy bS a b c d x4_34.toNatClampNeg I_10 D_11 K_L152 M) H → va_S A s.heap H locs → lv_has ls 11 [(8, .int x8_152), (7, .int x7_139), (6, .int x6_70), (5, .ref (ad_17 34)), (4, .int x4_34), (3, .int r_8), (2, .int r_3), (1, .int x1_2), (0, .ref (ad_17 40))] → W p l e (headSpec wsL_isBest ({ frames := 5, cells := 17, slots := 340, locals := 120 })).room s m ([.ref (ad 40)] : List Value).toArray below meth cX H locs (cu2 + 1) (su2 + 20) (MQ below (va_Qi (fun r (_ : Unit) => rr = r) (fun _ t => tW dC dI (tL a b c) ad cy bS a b c d r LS xs I9 D9 K9 M t) A) ([.ref (ad 40)] : List Value).toArray s 17 340 A) (F0 m 152 ls []) := by
                                  intro n152
                                  induction n152 with
                                  | zero => intro x8_152 K_L152 hf; exact nomatch hf
                                  | succ n152 ih152 =>
                                    intro x8_152 K_L152 hf H locs ls hP hS hl
                                    unfold f_L_isBest_L152 at hf
                                    refine lv_iload hx hb dL_isBest_152 (lv_at hl 0 rfl) ?_
                                    refine lv_iload hx hb dL_isBest_154 (lv_at hl 4 rfl) ?_
                                    refine lv_icmp_ge (tgt := 237) hx hb dL_isBest_156 (by decide) (fun c_31 => ?_) (fun c_31 => ?_)
                                    · have hf := it_t hf c_31
                                      refine lv_iinc (v := (x7_139 + 1)) (lv' := [(7, .int (x7_139 + 1)), (8, .int x8_152), (6, .int x6_70), (5, .ref (ad_17 34)), (4, .int x4_34), (3, .int r_8), (2, .int r_3), (1, .int x1_2), (0, .ref (ad_17 40))]) hx hb dL_isBest_237 hl (k := 1) rfl rfl (by decide) rfl (fun ls hl => ?_)
                                      refine lv_goto (tgt := 139) hx hb dL_isBest_240 (by decide) ?_
                                      exact ih139 (x7_139 + 1) K_L152 hf _ _ _ hP hS (lv_sub hl [0, 2, 3, 4, 5, 6, 7, 8] rfl)
                                    · have hf := it_f hf c_31
                                      refine lv_aload hx hb dL_isBest_159 (lv_at hl 3 rfl) ?_
                                      refine lv_iload hx hb dL_isBest_161 (lv_at hl 1 rfl) ?_
                                      obtain ⟨q_32, wq_32, heq_32⟩ := heT_34 (L := (tL a b c ++ [34])) (ad := ad_17) (cy := cy) (bS := bS) (a := a) (b := b) (c := c) (d := d) (r := x4_34.toNatClampNeg) (I := I_10) (D := D_11) (K := K_L152) (M := M) (List.mem_append_right _ (by decide))
                                      obtain ⟨h_33, hf⟩ := ck_out hf
                                      refine va_iald (n := x4_34.toNatClampNeg) (f := K_L152 34) hx hb hK hP q_32 0 heq_32 rfl (inB_in h_33) dL_isBest_163 ?_
                                      refine lv_istore (lv' := [(9, .int (K_L152 34 (x7_139).toNatClampNeg)), (8, .int x8_152), (7, .int x7_139), (6, .int x6_70), (5, .ref (ad_17 34)), (4, .int x4_34), (3, .int r_8), (2, .int r_3), (1, .int x1_2), (0, .ref (ad_17 40))]) hx hb dL_isBest_164 hl (by decide) rfl (fun ls hl => ?_)
                                      refine lv_aload hx hb dL_isBest_166 (lv_at hl 4 rfl) ?_
                                      refine lv_iload hx hb dL_isBest_168 (lv_at hl 2 rfl) ?_
                                      refine lv_aload hx hb dL_isBest_170 (lv_at hl 4 rfl) ?_
                                      refine lv_iload hx hb dL_isBest_172 (lv_at hl 1 rfl) ?_
                                      obtain ⟨q_34, wq_34, heq_34⟩ := heT_34 (L := (tL a b c ++ [34])) (ad := ad_17) (cy := cy) (bS := bS) (a := a) (b := b) (c := c) (d := d) (r := x4_34.toNatClampNeg) (I := I_10) (D := D_11) (K := K_L152) (M := M) (List.mem_append_right _ (by decide))
                                      obtain ⟨h_35, hf⟩ := ck_out hf
                                      refine va_iald (n := x4_34.toNatClampNeg) (f := K_L152 34) hx hb hK hP q_34 0 heq_34 rfl (inB_in h_35) dL_isBest_174 ?_
                                      obtain ⟨q_36, wq_36, heq_36⟩ := heT_34 (L := (tL a b c ++ [34])) (ad := ad_17) (cy := cy) (bS := bS) (a := a) (b := b) (c := c) (d := d) (r := x4_34.toNatClampNeg) (I := I_10) (D := D_11) (K := K_L152) (M := M) (List.mem_append_right _ (by decide))
                                      obtain ⟨h_37, hf⟩ := ck_out hf
                                      obtain ⟨K_38, eK_38, hf⟩ := nm_out hf
                                      refine va_iast (n := x4_34.toNatClampNeg) (f := K_L152 34) hx hb hK hP (hDD_20 x4_34.toNatClampNeg I_10 D_11 K_L152 M) hS q_36 0 heq_36 rfl (inB_in h_37) dL_isBest_175 (fun H locs hP _ hS => ?_)
                                      have hP : va_P (dC, dI) vwCl (iwT (tL a b c ++ [34]) ad_17 cy bS a b c d x4_34.toNatClampNeg I_10 D_11 K_38 M) H := by rw [eK_38]; exact hqK hM_18 wq_36 (by decide) ((cellT_34 ad_17 cy bS a b c d x4_34.toNatClampNeg _ _).trans rfl) hP
                                      refine lv_aload hx hb dL_isBest_176 (lv_at hl 4 rfl) ?_
                                      refine lv_iload hx hb dL_isBest_178 (lv_at hl 1 rfl) ?_
                                      refine lv_iload hx hb dL_isBest_180 (lv_at hl 0 rfl) ?_
                                      obtain ⟨q_39, wq_39, heq_39⟩ := heT_34 (L := (tL a b c ++ [34])) (ad := ad_17) (cy := cy) (bS := bS) (a := a) (b := b) (c := c) (d := d) (r := x4_34.toNatClampNeg) (I := I_10) (D := D_11) (K := K_38) (M := M) (List.mem_append_right _ (by decide))
                                      obtain ⟨h_40, hf⟩ := ck_out hf
                                      obtain ⟨K_41, eK_41, hf⟩ := nm_out hf
                                      refine va_iast (n := x4_34.toNatClampNeg) (f := K_38 34) hx hb hK hP (hDD_20 x4_34.toNatClampNeg I_10 D_11 K_38 M) hS q_39 0 heq_39 rfl (inB_in h_40) dL_isBest_182 (fun H locs hP _ hS => ?_)
                                      have hP : va_P (dC, dI) vwCl (iwT (tL a b c ++ [34]) ad_17 cy bS a b c d x4_34.toNatClampNeg I_10 D_11 K_41 M) H := by rw [eK_41]; exact hqK hM_18 wq_39 (by decide) ((cellT_34 ad_17 cy bS a b c d x4_34.toNatClampNeg _ _).trans rfl) hP
                                      refine lv_aload_n hx hb dL_isBest_183 rfl (lv_at hl 9 rfl) ?_
                                      refine lv_aload hx hb dL_isBest_184 (lv_at hl 4 rfl) ?_
                                      obtain ⟨r_42, g_43, hf⟩ := bd_out hf
                                      refine va_calli (va_runS (As := [.ref (ad_17 40), .ref (ad_17 34)]) (rest := []) ⟨hx, hb, hml, hown, hts⟩ (mt_L_washes l dC dI (tL a b c ++ [34]) a b c d bS ad_17 cy hM_18 (List.mem_append_right _ (by decide)) x4_34.toNatClampNeg LS xs H.size I_10 D_11 K_41 M  r_42 g_43) (va_cwS 2 hts gL_isBest_L_washes rfl rfl rfl (by decide +kernel) ⟨(Nat.le_of_ble_eq_true rfl), (Nat.le_of_ble_eq_true rfl)⟩) (tW.pre [.ref (ad_17 40), .ref (ad_17 34)] hP hK hN (hX0.kept (hS.2.1 bS hbl hbA))) rfl rfl hl.1 rfl (lv_room (Nat.le_of_ble_eq_true rfl)) dL_isBest_186 ⟨by show cu2 + 1 + 0 ≤ 17; omega, by show su2 + 20 + 0 ≤ 340; omega⟩) hS (fun q _ h => hA q (Nat.le_trans hS.1 h)) (fun q h => hA q (Nat.le_trans hS.1 h)) (fun r9 u t H1 locs ht hvm hw hB hz1 hk1 hS9 => ?_)
                                      subst hw
                                      have hP := va_Pnew hP hk1
                                      have hS := hS9
                                      clear hB hz1 hk1 hvm ht hS9
                                      generalize H1 = H at hP hS ⊢
                                      refine lv_istore (lv' := [(10, .int r_42), (9, .int (K_L152 34 (x7_139).toNatClampNeg)), (8, .int x8_152), (7, .int x7_139), (6, .int x6_70), (5, .ref (ad_17 34)), (4, .int x4_34), (3, .int r_8), (2, .int r_3), (1, .int x1_2), (0, .ref (ad_17 40))]) hx hb dL_isBest_189 hl (by decide) rfl (fun ls hl => ?_)
                                      refine lv_iload hx hb dL_isBest_191 (lv_at hl 0 rfl) ?_
                                      refine lv_iload_n hx hb dL_isBest_193 rfl (lv_at hl 7 rfl) ?_
                                      refine lv_icmp_lt (tgt := 212) hx hb dL_isBest_194 (by decide) (fun c_44 => ?_) (fun c_44 => ?_)
                                      · have hf := it_t hf c_44
                                        refine lv_iconst (v := 0) hx hb dL_isBest_212 (by decide) ?_
                                        have hf := Option.some.inj hf
                                        obtain ⟨q1, hf⟩ := Prod.mk.inj hf
                                        obtain ⟨qI, hf⟩ := Prod.mk.inj hf
                                        obtain ⟨qD, qK⟩ := Prod.mk.inj hf
                                        have hP := t_drop (L1 := (tL a b c ++ [34])) hF_23 (fun k hk => List.mem_append_left _ (hk)) hP r
                                        refine W.widen (k := 17) (n := 340) (by omega) (by omega) ?_
                                        exact W.zret (ty := .boolean) (v := 0) hx hb hr rfl (fun t ht hW9 => ⟨⟨0, (), rfl, q1.symm, (by rw [← qI, ← qD, ← qK]; exact tW.of hP hK hN (hX0.kept (hS.2.1 bS hbl hbA)) ht hW9)⟩, hS.F ht⟩) hS.2.2 dL_isBest_213
                                      · have hf := it_f hf c_44
                                        refine lv_iload hx hb dL_isBest_197 (lv_at hl 0 rfl) ?_
                                        refine lv_iload_n hx hb dL_isBest_199 rfl (lv_at hl 7 rfl) ?_
                                        refine lv_icmp_ne (tgt := 214) hx hb dL_isBest_200 (by decide) (fun c_45 => ?_) (fun c_45 => ?_)
                                        · have hf := it_f hf c_45
                                          refine lv_aload hx hb dL_isBest_214 (lv_at hl 5 rfl) ?_
                                          refine lv_iload hx hb dL_isBest_216 (lv_at hl 2 rfl) ?_
                                          refine lv_aload hx hb dL_isBest_218 (lv_at hl 5 rfl) ?_
                                          refine lv_iload hx hb dL_isBest_220 (lv_at hl 3 rfl) ?_
                                          obtain ⟨q_46, wq_46, heq_46⟩ := heT_34 (L := (tL a b c ++ [34])) (ad := ad_17) (cy := cy) (bS := bS) (a := a) (b := b) (c := c) (d := d) (r := x4_34.toNatClampNeg) (I := I_10) (D := D_11) (K := K_41) (M := M) (List.mem_append_right _ (by decide))
                                          obtain ⟨h_47, hf⟩ := ck_out hf
                                          refine va_iald (n := x4_34.toNatClampNeg) (f := K_41 34) hx hb hK hP q_46 0 heq_46 rfl (inB_in h_47) dL_isBest_222 ?_
                                          obtain ⟨q_48, wq_48, heq_48⟩ := heT_34 (L := (tL a b c ++ [34])) (ad := ad_17) (cy := cy) (bS := bS) (a := a) (b := b) (c := c) (d := d) (r := x4_34.toNatClampNeg) (I := I_10) (D := D_11) (K := K_41) (M := M) (List.mem_append_right _ (by decide))
                                          obtain ⟨h_49, hf⟩ := ck_out hf
                                          obtain ⟨K_50, eK_50, hf⟩ := nm_out hf
                                          refine va_iast (n := x4_34.toNatClampNeg) (f := K_41 34) hx hb hK hP (hDD_20 x4_34.toNatClampNeg I_10 D_11 K_41 M) hS q_48 0 heq_48 rfl (inB_in h_49) dL_isBest_223 (fun H locs hP _ hS => ?_)
                                          have hP : va_P (dC, dI) vwCl (iwT (tL a b c ++ [34]) ad_17 cy bS a b c d x4_34.toNatClampNeg I_10 D_11 K_50 M) H := by rw [eK_50]; exact hqK hM_18 wq_48 (by decide) ((cellT_34 ad_17 cy bS a b c d x4_34.toNatClampNeg _ _).trans rfl) hP
                                          refine lv_aload hx hb dL_isBest_224 (lv_at hl 5 rfl) ?_
                                          refine lv_iload hx hb dL_isBest_226 (lv_at hl 3 rfl) ?_
                                          refine lv_iload hx hb dL_isBest_228 (lv_at hl 1 rfl) ?_
                                          obtain ⟨q_51, wq_51, heq_51⟩ := heT_34 (L := (tL a b c ++ [34])) (ad := ad_17) (cy := cy) (bS := bS) (a := a) (b := b) (c := c) (d := d) (r := x4_34.toNatClampNeg) (I := I_10) (D := D_11) (K := K_50) (M := M) (List.mem_append_right _ (by decide))
                                          obtain ⟨h_52, hf⟩ := ck_out hf
                                          obtain ⟨K_53, eK_53, hf⟩ := nm_out hf
                                          refine va_iast (n := x4_34.toNatClampNeg) (f := K_50 34) hx hb hK hP (hDD_20 x4_34.toNatClampNeg I_10 D_11 K_50 M) hS q_51 0 heq_51 rfl (inB_in h_52) dL_isBest_230 (fun H locs hP _ hS => ?_)
                                          have hP : va_P (dC, dI) vwCl (iwT (tL a b c ++ [34]) ad_17 cy bS a b c d x4_34.toNatClampNeg I_10 D_11 K_53 M) H := by rw [eK_53]; exact hqK hM_18 wq_51 (by decide) ((cellT_34 ad_17 cy bS a b c d x4_34.toNatClampNeg _ _).trans rfl) hP
                                          refine lv_iinc (v := (x8_152 + 1)) (lv' := [(8, .int (x8_152 + 1)), (10, .int r_42), (9, .int (K_L152 34 (x7_139).toNatClampNeg)), (7, .int x7_139), (6, .int x6_70), (5, .ref (ad_17 34)), (4, .int x4_34), (3, .int r_8), (2, .int r_3), (1, .int x1_2), (0, .ref (ad_17 40))]) hx hb dL_isBest_231 hl (k := 2) rfl rfl (by decide) rfl (fun ls hl => ?_)
                                          refine lv_goto (tgt := 152) hx hb dL_isBest_234 (by decide) ?_
                                          exact ih152 (x8_152 + 1) K_53 hf _ _ _ hP hS (lv_sub hl [0, 3, 4, 5, 6, 7, 8, 9, 10] rfl)
                                        · have hf := it_t hf c_45
                                          refine lv_aload hx hb dL_isBest_203 (lv_at hl 5 rfl) ?_
                                          obtain ⟨r_54, g_55, hf⟩ := bd_out hf
                                          refine va_calli (va_runS (As := [.ref (ad_17 34)]) (rest := []) ⟨hx, hb, hml, hown, hts⟩ (mt_L_number l dC dI (tL a b c ++ [34]) a b c d bS ad_17 cy hM_18 (List.mem_append_right _ (by decide)) x4_34.toNatClampNeg LS xs H.size I_10 D_11 K_41 M  r_54 g_55) (va_cwS 1 hts gL_isBest_L_number rfl rfl rfl (by decide +kernel) ⟨(Nat.le_of_ble_eq_true rfl), (Nat.le_of_ble_eq_true rfl)⟩) (tW.pre [.ref (ad_17 34)] hP hK hN (hX0.kept (hS.2.1 bS hbl hbA))) rfl rfl hl.1 rfl (lv_room (Nat.le_of_ble_eq_true rfl)) dL_isBest_205 ⟨by show cu2 + 1 + 0 ≤ 17; omega, by show su2 + 20 + 0 ≤ 340; omega⟩) hS (fun q _ h => hA q (Nat.le_trans hS.1 h)) (fun q h => hA q (Nat.le_trans hS.1 h)) (fun r9 u t H1 locs ht hvm hw hB hz1 hk1 hS9 => ?_)
                                          subst hw
                                          have hP := va_Pnew hP hk1
                                          have hS := hS9
                                          clear hB hz1 hk1 hvm ht hS9
                                          generalize H1 = H at hP hS ⊢
                                          refine lv_iload_n hx hb dL_isBest_208 rfl (lv_at hl 8 rfl) ?_
                                          refine lv_icmp_ge (tgt := 214) hx hb dL_isBest_209 (by decide) (fun c_56 => ?_) (fun c_56 => ?_)
                                          · have hf := it_t hf c_56
                                            refine lv_aload hx hb dL_isBest_214 (lv_at hl 5 rfl) ?_
                                            refine lv_iload hx hb dL_isBest_216 (lv_at hl 2 rfl) ?_
                                            refine lv_aload hx hb dL_isBest_218 (lv_at hl 5 rfl) ?_
                                            refine lv_iload hx hb dL_isBest_220 (lv_at hl 3 rfl) ?_
                                            obtain ⟨q_57, wq_57, heq_57⟩ := heT_34 (L := (tL a b c ++ [34])) (ad := ad_17) (cy := cy) (bS := bS) (a := a) (b := b) (c := c) (d := d) (r := x4_34.toNatClampNeg) (I := I_10) (D := D_11) (K := K_41) (M := M) (List.mem_append_right _ (by decide))
                                            obtain ⟨h_58, hf⟩ := ck_out hf
                                            refine va_iald (n := x4_34.toNatClampNeg) (f := K_41 34) hx hb hK hP q_57 0 heq_57 rfl (inB_in h_58) dL_isBest_222 ?_
                                            obtain ⟨q_59, wq_59, heq_59⟩ := heT_34 (L := (tL a b c ++ [34])) (ad := ad_17) (cy := cy) (bS := bS) (a := a) (b := b) (c := c) (d := d) (r := x4_34.toNatClampNeg) (I := I_10) (D := D_11) (K := K_41) (M := M) (List.mem_append_right _ (by decide))
                                            obtain ⟨h_60, hf⟩ := ck_out hf
                                            obtain ⟨K_61, eK_61, hf⟩ := nm_out hf
                                            refine va_iast (n := x4_34.toNatClampNeg) (f := K_41 34) hx hb hK hP (hDD_20 x4_34.toNatClampNeg I_10 D_11 K_41 M) hS q_59 0 heq_59 rfl (inB_in h_60) dL_isBest_223 (fun H locs hP _ hS => ?_)
                                            have hP : va_P (dC, dI) vwCl (iwT (tL a b c ++ [34]) ad_17 cy bS a b c d x4_34.toNatClampNeg I_10 D_11 K_61 M) H := by rw [eK_61]; exact hqK hM_18 wq_59 (by decide) ((cellT_34 ad_17 cy bS a b c d x4_34.toNatClampNeg _ _).trans rfl) hP
                                            refine lv_aload hx hb dL_isBest_224 (lv_at hl 5 rfl) ?_
                                            refine lv_iload hx hb dL_isBest_226 (lv_at hl 3 rfl) ?_
                                            refine lv_iload hx hb dL_isBest_228 (lv_at hl 1 rfl) ?_
                                            obtain ⟨q_62, wq_62, heq_62⟩ := heT_34 (L := (tL a b c ++ [34])) (ad := ad_17) (cy := cy) (bS := bS) (a := a) (b := b) (c := c) (d := d) (r := x4_34.toNatClampNeg) (I := I_10) (D := D_11) (K := K_61) (M := M) (List.mem_append_right _ (by decide))
                                            obtain ⟨h_63, hf⟩ := ck_out hf
                                            obtain ⟨K_64, eK_64, hf⟩ := nm_out hf
                                            refine va_iast (n := x4_34.toNatClampNeg) (f := K_61 34) hx hb hK hP (hDD_20 x4_34.toNatClampNeg I_10 D_11 K_61 M) hS q_62 0 heq_62 rfl (inB_in h_63) dL_isBest_230 (fun H locs hP _ hS => ?_)
                                            have hP : va_P (dC, dI) vwCl (iwT (tL a b c ++ [34]) ad_17 cy bS a b c d x4_34.toNatClampNeg I_10 D_11 K_64 M) H := by rw [eK_64]; exact hqK hM_18 wq_62 (by decide) ((cellT_34 ad_17 cy bS a b c d x4_34.toNatClampNeg _ _).trans rfl) hP
                                            refine lv_iinc (v := (x8_152 + 1)) (lv' := [(8, .int (x8_152 + 1)), (10, .int r_42), (9, .int (K_L152 34 (x7_139).toNatClampNeg)), (7, .int x7_139), (6, .int x6_70), (5, .ref (ad_17 34)), (4, .int x4_34), (3, .int r_8), (2, .int r_3), (1, .int x1_2), (0, .ref (ad_17 40))]) hx hb dL_isBest_231 hl (k := 2) rfl rfl (by decide) rfl (fun ls hl => ?_)
                                            refine lv_goto (tgt := 152) hx hb dL_isBest_234 (by decide) ?_
                                            exact ih152 (x8_152 + 1) K_64 hf _ _ _ hP hS (lv_sub hl [0, 3, 4, 5, 6, 7, 8, 9, 10] rfl)
                                          · have hf := it_f hf c_56
                                            refine lv_iconst (v := 0) hx hb dL_isBest_212 (by decide) ?_
                                            have hf := Option.some.inj hf
                                            obtain ⟨q1, hf⟩ := Prod.mk.inj hf
                                            obtain ⟨qI, hf⟩ := Prod.mk.inj hf
                                            obtain ⟨qD, qK⟩ := Prod.mk.inj hf
                                            have hP := t_drop (L1 := (tL a b c ++ [34])) hF_23 (fun k hk => List.mem_append_left _ (hk)) hP r
                                            refine W.widen (k := 17) (n := 340) (by omega) (by omega) ?_
                                            exact W.zret (ty := .boolean) (v := 0) hx hb hr rfl (fun t ht hW9 => ⟨⟨0, (), rfl, q1.symm, (by rw [← qI, ← qD, ← qK]; exact tW.of hP hK hN (hX0.kept (hS.2.1 bS hbl hbA)) ht hW9)⟩, hS.F ht⟩) hS.2.2 dL_isBest_213
                                exact L152 200 (x7_139 + 1) K_L139 hf _ _ _ hP hS (lv_sub hl [0, 1, 2, 3, 4, 5, 6, 7, 8] rfl)
                          exact L139 200 0 K_L70 hf _ _ _ hP hS (lv_sub hl [0, 2, 3, 4, 5, 6, 7, 8] rfl)
                        · have hf := it_f hf c_29
                          refine lv_iconst (v := 0) hx hb dL_isBest_134 (by decide) ?_
                          have hf := Option.some.inj hf
                          obtain ⟨q1, hf⟩ := Prod.mk.inj hf
                          obtain ⟨qI, hf⟩ := Prod.mk.inj hf
                          obtain ⟨qD, qK⟩ := Prod.mk.inj hf
                          have hP := t_drop (L1 := (tL a b c ++ [34])) hF_23 (fun k hk => List.mem_append_left _ (hk)) hP r
                          refine W.widen (k := 17) (n := 340) (by omega) (by omega) ?_
                          exact W.zret (ty := .boolean) (v := 0) hx hb hr rfl (fun t ht hW9 => ⟨⟨0, (), rfl, q1.symm, (by rw [← qI, ← qD, ← qK]; exact tW.of hP hK hN (hX0.kept (hS.2.1 bS hbl hbA)) ht hW9)⟩, hS.F ht⟩) hS.2.2 dL_isBest_135
                  · have hf := it_f hf c_24
                    refine lv_aload hx hb dL_isBest_75 (lv_at hl 3 rfl) ?_
                    refine lv_iload hx hb dL_isBest_77 (lv_at hl 0 rfl) ?_
                    refine lv_iload hx hb dL_isBest_79 (lv_at hl 1 rfl) ?_
                    refine lv_bipush (v := 10) hx hb dL_isBest_81 (by decide) ?_
                    refine lv_irem hx hb dL_isBest_83 (by decide) ?_
                    refine lv_iconst (v := 1) hx hb dL_isBest_84 (by decide) ?_
                    refine lv_isub hx hb dL_isBest_85 ?_
                    obtain ⟨q_65, wq_65, heq_65⟩ := heT_34 (L := (tL a b c ++ [34])) (ad := ad_17) (cy := cy) (bS := bS) (a := a) (b := b) (c := c) (d := d) (r := x4_34.toNatClampNeg) (I := I_10) (D := D_11) (K := K_L70) (M := M) (List.mem_append_right _ (by decide))
                    obtain ⟨h_66, hf⟩ := ck_out hf
                    obtain ⟨K_67, eK_67, hf⟩ := nm_out hf
                    refine va_iast (n := x4_34.toNatClampNeg) (f := K_L70 34) hx hb hK hP (hDD_20 x4_34.toNatClampNeg I_10 D_11 K_L70 M) hS q_65 0 heq_65 rfl (inB_in h_66) dL_isBest_86 (fun H locs hP _ hS => ?_)
                    have hP : va_P (dC, dI) vwCl (iwT (tL a b c ++ [34]) ad_17 cy bS a b c d x4_34.toNatClampNeg I_10 D_11 K_67 M) H := by rw [eK_67]; exact hqK hM_18 wq_65 (by decide) ((cellT_34 ad_17 cy bS a b c d x4_34.toNatClampNeg _ _).trans rfl) hP
                    refine lv_iload hx hb dL_isBest_87 (lv_at hl 2 rfl) ?_
                    refine lv_iconst (v := 1) hx hb dL_isBest_89 (by decide) ?_
                    refine lv_aload hx hb dL_isBest_90 (lv_at hl 3 rfl) ?_
                    refine lv_iload hx hb dL_isBest_92 (lv_at hl 0 rfl) ?_
                    obtain ⟨q_68, wq_68, heq_68⟩ := heT_34 (L := (tL a b c ++ [34])) (ad := ad_17) (cy := cy) (bS := bS) (a := a) (b := b) (c := c) (d := d) (r := x4_34.toNatClampNeg) (I := I_10) (D := D_11) (K := K_67) (M := M) (List.mem_append_right _ (by decide))
                    obtain ⟨h_69, hf⟩ := ck_out hf
                    refine va_iald (n := x4_34.toNatClampNeg) (f := K_67 34) hx hb hK hP q_68 0 heq_68 rfl (inB_in h_69) dL_isBest_94 ?_
                    refine lv_ishl hx hb dL_isBest_95 ?_
                    refine lv_iadd hx hb dL_isBest_96 ?_
                    refine lv_istore (lv' := [(6, .int (x6_70 + (1 <<< ((K_67 34 (x8_70).toNatClampNeg) &&& 31)))), (8, .int x8_70), (7, .int x7_70), (5, .ref (ad_17 34)), (4, .int x4_34), (3, .int r_8), (2, .int r_3), (1, .int x1_2), (0, .ref (ad_17 40))]) hx hb dL_isBest_97 hl (by decide) rfl (fun ls hl => ?_)
                    refine lv_iload hx hb dL_isBest_99 (lv_at hl 2 rfl) ?_
                    refine lv_bipush (v := 10) hx hb dL_isBest_101 (by decide) ?_
                    refine lv_idiv hx hb dL_isBest_103 (by decide) ?_
                    refine lv_istore (lv' := [(7, .int (x7_70 / 10)), (6, .int (x6_70 + (1 <<< ((K_67 34 (x8_70).toNatClampNeg) &&& 31)))), (8, .int x8_70), (5, .ref (ad_17 34)), (4, .int x4_34), (3, .int r_8), (2, .int r_3), (1, .int x1_2), (0, .ref (ad_17 40))]) hx hb dL_isBest_104 hl (by decide) rfl (fun ls hl => ?_)
                    refine lv_iinc (v := (x8_70 + (-1))) (lv' := [(8, .int (x8_70 + (-1))), (7, .int (x7_70 / 10)), (6, .int (x6_70 + (1 <<< ((K_67 34 (x8_70).toNatClampNeg) &&& 31)))), (5, .ref (ad_17 34)), (4, .int x4_34), (3, .int r_8), (2, .int r_3), (1, .int x1_2), (0, .ref (ad_17 40))]) hx hb dL_isBest_106 hl (k := 2) rfl rfl (by decide) rfl (fun ls hl => ?_)
                    refine lv_goto (tgt := 70) hx hb dL_isBest_109 (by decide) ?_
                    exact ih70 (x8_70 + (-1)) (x7_70 / 10) (x6_70 + (1 <<< ((K_67 34 (x8_70).toNatClampNeg) &&& 31))) K_67 hf _ _ _ hP hS (lv_sub hl [0, 1, 2, 3, 4, 5, 6, 7, 8] rfl)
              exact L70 200 (x4_34 - 1) r_3 0 K_22 hf _ _ _ hP hS (lv_sub hl [0, 1, 2, 3, 4, 5, 6, 7, 8] rfl)
            · have hf := it_f hf c_12
              refine lv_iinc (v := (x4_34 + 1)) (lv' := [(4, .int (x4_34 + 1)), (5, .int x5_34), (3, .int r_8), (2, .int r_3), (1, .int x1_2), (0, .ref (ad 40))]) hx hb dL_isBest_39 hl (k := 1) rfl rfl (by decide) rfl (fun ls hl => ?_)
              refine lv_iload hx hb dL_isBest_42 (lv_at hl 1 rfl) ?_
              refine lv_bipush (v := 10) hx hb dL_isBest_44 (by decide) ?_
              refine lv_idiv hx hb dL_isBest_46 (by decide) ?_
              refine lv_istore (lv' := [(5, .int (x5_34 / 10)), (4, .int (x4_34 + 1)), (3, .int r_8), (2, .int r_3), (1, .int x1_2), (0, .ref (ad 40))]) hx hb dL_isBest_47 hl (by decide) rfl (fun ls hl => ?_)
              refine lv_goto (tgt := 34) hx hb dL_isBest_49 (by decide) ?_
              exact ih34 (x5_34 / 10) (x4_34 + 1) hf _ _ _ hP hS (lv_sub hl [0, 1, 2, 3, 4, 5] rfl)
        exact L34 200 r_3 0 hf _ _ _ hP hS (lv_sub hl [0, 1, 2, 3, 4, 5] rfl)
  exact L2 17 1 I D K hf _ _ _ hP hS (lv_sub hl [0, 1] rfl) _ _ (by omega) (by omega)
