theorem va_Djn {A : Nat → Prop} {D : va_G} {cl : List vw_C} {ws : va_W} {H H1 : Heap} {a : Nat} {x : va_E} (hD : va_D A ws) (hP : va_P D cl ws H) (_ : va_P D cl [(a, x)] H1) (hA : A a) (ha : H.size ≤ a) : va_D A (ws ++ [(a, x)]) := va_D.app hD (va_D1 hA) (fun i j p q h1 h2 => va_D1x hP ha h1 h2)
def f_T_ingredient_J19 (LS : Nat) (xs : Nat → Int32) (a : Nat) (b : Nat) (c : Nat) (d : Nat) (I : Nat → Nat → Int32) (D : Nat → Nat → UInt64) (M : Nat → Nat → UInt64) (z0_19 : Int32) (K_J19 : Nat → Nat → Int32) : Option (Int32 × Nat × Nat × Nat × Nat × (Nat → Nat → Int32) × (Nat → Nat → UInt64) × (Nat → Nat → Int32)) :=
  bd (f_T_draw LS xs a b c d I D K_J19 M 200) (fun (r_5, K_7) => bd (f_T_draw LS xs a b c d I D K_7 M 2) (fun (r_9, K_11) => bd (f_T_draw LS xs a b c d I D K_11 M 400) (fun (r_13, K_15) => bd (f_T_draw LS xs a b c d I D K_15 M 30) (fun (r_17, K_19) => bd (f_T_draw LS xs a b c d I D K_19 M 16) (fun (r_21, K_23) => nm (va_up K_23 34 (fun _ => 0)) (fun K_34 => ck (inB 0 5) (nm (up2 K_34 34 (0 : Int32).toNatClampNeg z0_19) (fun K_40 => ck (inB 1 5) (nm (up2 K_40 34 (1 : Int32).toNatClampNeg r_5) (fun K_43 => ck (inB 2 5) (nm (up2 K_43 34 (2 : Int32).toNatClampNeg (r_9 * r_13)) (fun K_46 => ck (inB 3 5) (nm (up2 K_46 34 (3 : Int32).toNatClampNeg (1 + r_17)) (fun K_49 => ck (inB 4 5) (nm (up2 K_49 34 (4 : Int32).toNatClampNeg r_21) (fun K_52 => ck (decide (a < 6)) (nm (va_up K_52 (50 + a) (K_52 34)) (fun K_55 => bd (eO (f_X4_ingredient I D z0_19 r_5 (r_9 * r_13) (1 + r_17) r_21)) (fun (r_67, I_69, D_70) => (if r_67 = ((nI (a + 1)) - 1) then some (1, (a + 1), b, c, d, I_69, D_70, K_55) else some (0, (a + 1), b, c, d, I_69, D_70, K_55)))))))))))))))))))))
def f_T_ingredient (LS : Nat) (xs : Nat → Int32) (a b c d : Nat) (I : Nat → Nat → Int32) (D : Nat → Nat → UInt64) (K : Nat → Nat → Int32) (M : Nat → Nat → UInt64) : Option (Int32 × Nat × Nat × Nat × Nat × (Nat → Nat → Int32) × (Nat → Nat → UInt64) × (Nat → Nat → Int32)) :=
  bd (f_T_draw LS xs a b c d I D K M 3) (fun (r_1, K_3) => (if r_1 = 0 then f_T_ingredient_J19 LS xs a b c d I D M 0 K_3 else bd (f_T_draw LS xs a b c d I D K_3 M 300) (fun (r_75, K_77) => f_T_ingredient_J19 LS xs a b c d I D M r_75 K_77)))
theorem iT_ingredient_RX5 : ∀ w ∈ u_ws RX5 TX5 11, w ∈ wsX5_ingredient := fun w h => List.mem_cons_of_mem _ (List.mem_append_left _ (List.mem_append_left _ (List.mem_append_left _ (List.mem_append_left _ (List.mem_append_right _ (h))))))
set_option maxHeartbeats 4000000 in
set_option maxRecDepth 100000 in
theorem mt_T_ingredient (l : Launch) (dC : Nat → ClassId) (dI : Nat → Nat → Nat) (a b c d bS : Nat) (ad : Nat → Nat) (cy : Nat → ClassId) (hM : tOK (tL a b c) a b c d bS ad) (r LS : Nat) (xs : Nat → Int32) (sz : Nat) (I : Nat → Nat → Int32) (D : Nat → Nat → UInt64) (K : Nat → Nat → Int32) (M : Nat → Nat → UInt64) (rr : Int32) (a9 : Nat) (b9 : Nat) (c9 : Nat) (d9 : Nat) (I9 : Nat → Nat → Int32) (D9 : Nat → Nat → UInt64) (K9 : Nat → Nat → Int32) (hf : f_T_ingredient LS xs a b c d I D K M = some (rr, a9, b9, c9, d9, I9, D9, K9)) : Met l yX5_ingredient wsX5_ingredient ({ frames := 2, cells := 2, slots := 21, locals := 112 }) (va_Pc [.ref (ad 40)] (fun U => U.heap.size = sz ∧ tW dC dI (tL a b c) ad cy bS a b c d r LS xs I D K M U)) (va_Qi (fun r (_ : Unit) => rr = r) (fun _ t => ∃ ad1 : Nat → Nat, tOK (tL a9 b9 c9) a9 b9 c9 d9 bS ad1 ∧ tX (tL a b c) (tL a9 b9 c9) ad ad1 sz ∧ tW dC dI (tL a9 b9 c9) ad1 cy bS a9 b9 c9 d9 r LS xs I9 D9 K9 M t) (AT (tL a b c) ad sz)) 2 21 (AT (tL a b c) ad sz) := by
  refine Met.ofW (cc := cX5_ingredient) (maxL := 6) (ret := (some .boolean)) (by decide) rfl ?_
  intro p e s m args below meth cX s₁ B hml hv
  obtain ⟨rfl, hsz, hP, hK, hN, hX0⟩ := hv
  have hx := B.exec
  have hb := B.bytes
  have hr := B.returns
  have hts := atoms_spec (ws := wsX5_ingredient) B.pre
  have hown : s.vm.findClass RX5 = some m.cls := findClass_of_methodNamed B.named
  have hlocks := B.notSynchronized
  subst hsz
  have hbl : bS < s.heap.size := by obtain ⟨scr, h, -⟩ := hX0; exact (Array.getElem?_eq_some_iff.mp h).1
  generalize hAe : AT (tL a b c) ad s.heap.size = A
  have hA : ∀ q : Nat, s.heap.size ≤ q → A q := fun q h => by rw [← hAe]; exact Or.inr h
  have hAL : ∀ k, k ∈ (tL a b c) → A (ad k) := fun k h => by rw [← hAe]; exact Or.inl ⟨k, h, rfl⟩
  have hDD : ∀ r I D K M, va_D A (iwT (tL a b c) ad cy bS a b c d r I D K M) := fun r I D K M => iwT_D hM hAL I D K M
  have hbA : ¬ A bS := fun h => by rw [← hAe] at h; exact h.elim (fun ⟨k, k1, k2⟩ => hM.2.1 k k1 k2) (fun h => Nat.lt_irrefl _ (Nat.lt_of_lt_of_le hbl h))
  have e40 : ad 40 = ad 40 := rfl
  have e00 : ad 0 = ad 0 := rfl
  obtain ⟨H, hH⟩ : ∃ H : Heap, H = s.heap := ⟨_, rfl⟩
  have hS : va_S A s.heap H [] := by rw [hH]; exact va_S.rf
  have hP : va_P (dC, dI) vwCl (iwT (tL a b c) ad cy bS a b c d r I D K M) H := by rw [hH]; exact hP
  suffices hgo : ∀ locs, va_S A s.heap H locs → W p l e (headSpec wsX5_ingredient ({ frames := 2, cells := 2, slots := 21, locals := 112 })).room s m ([.ref (ad 40)] : List Value).toArray below meth cX H locs 0 0 (MQ below (va_Qi (fun r (_ : Unit) => rr = r) (fun _ t => ∃ ad1 : Nat → Nat, tOK (tL a9 b9 c9) a9 b9 c9 d9 bS ad1 ∧ tX (tL a b c) (tL a9 b9 c9) ad ad1 s.heap.size ∧ tW dC dI (tL a9 b9 c9) ad1 cy bS a9 b9 c9 d9 r LS xs I9 D9 K9 M t) A) ([.ref (ad 40)] : List Value).toArray s 2 21 A) (entryFrame m ([.ref (ad 40)] : List Value).toArray 6) by subst hH; exact hgo [] hS
  clear hS hH
  intro locs hS
  have hl := lv_entry ([.ref (ad 40)]) (n := 6) (Nat.le_of_ble_eq_true rfl)
  rw [lg_entry_eq]
  generalize (lg_sl ([.ref (ad 40)]) ++ List.replicate (6 - (lg_sl ([.ref (ad 40)])).length) Slot.unset).toArray = ls at hl ⊢
  have hl : lv_has ls 6 [(0, .ref (ad 40))] := hl
  unfold f_T_ingredient at hf
  refine lv_aload_n hx hb dX5_ingredient_0 rfl (lv_at hl 0 rfl) ?_
  refine lv_iconst (v := 3) hx hb dX5_ingredient_1 (by decide) ?_
  obtain ⟨⟨r_1, K_3⟩, g_2, hf⟩ := bd_out hf
  have hAW : ∀ q, AT (tL a b c) ad H.size q → A q := fun q h => h.elim (fun ⟨k, k1, k2⟩ => k2 ▸ hAL k k1) (fun h => hA q (Nat.le_trans hS.1 h))
  obtain ⟨q_4, wq_4, heq_4⟩ := heT_40 (L := (tL a b c)) (ad := ad) (cy := cy) (bS := bS) (a := a) (b := b) (c := c) (d := d) (r := r) (I := I) (D := D) (K := K) (M := M) hM
  refine va_calli (va_runV (As := [.int 3]) (rest := []) ⟨hx, hb, hml, hown, hts⟩ (mt_T_draw l dC dI (tL a b c) a b c d bS ad cy hM r LS xs H.size I D K M 3 r_1 K_3 g_2) (cwV 1 hts gX5_ingredient_X5_draw rfl rfl rfl (by decide +kernel) ⟨(Nat.le_of_ble_eq_true rfl), (Nat.le_of_ble_eq_true rfl)⟩) ⟨(tW.pre [.ref (ad 40), .int 3] hP hK hN (hX0.kept (hS.2.1 bS hbl hbA))).1, tW.recv (C := RX5) (T := TX5) (N := 11) hP hK heq_4 rfl, (tW.pre [.ref (ad 40), .int 3] hP hK hN (hX0.kept (hS.2.1 bS hbl hbA))).2⟩ rfl rfl hl.1 rfl (lv_room (Nat.le_of_ble_eq_true rfl)) dX5_ingredient_2 ⟨(Nat.le_of_ble_eq_true rfl), (Nat.le_of_ble_eq_true rfl)⟩) hS (fun q _ h => hAW q h) (fun q h => hAW q h) (fun r9 u t H1 locs ht hvm hw hB hz1 hk1 hS9 => ?_)
  subst hw
  have hP : va_P (dC, dI) vwCl (iwT (tL a b c) ad cy bS a b c d r I D K_3 M) H1 := by rw [← ht]; exact hB.1
  have hS := hS9
  clear hB hz1 hk1 hvm ht hS9
  generalize H1 = H at hP hS ⊢
  have J19 : ∀ (z0_19 : Int32) (K_J19 : Nat → Nat → Int32), f_T_ingredient_J19 LS xs a b c d I D M z0_19 K_J19 = some (rr, a9, b9, c9, d9, I9, D9, K9) → ∀ (H : Heap) (locs : List Loc) (ls : Array Slot), va_P (dC, dI) vwCl (iwT (tL a b c) ad cy bS a b c d r I D K_J19 M) H → va_S A s.heap H locs → lv_has ls 6 [(0, .ref (ad 40))] → W p l e (headSpec wsX5_ingredient ({ frames := 2, cells := 2, slots := 21, locals := 112 })).room s m ([.ref (ad 40)] : List Value).toArray below meth cX H locs 0 0 (MQ below (va_Qi (fun r (_ : Unit) => rr = r) (fun _ t => ∃ ad1 : Nat → Nat, tOK (tL a9 b9 c9) a9 b9 c9 d9 bS ad1 ∧ tX (tL a b c) (tL a9 b9 c9) ad ad1 s.heap.size ∧ tW dC dI (tL a9 b9 c9) ad1 cy bS a9 b9 c9 d9 r LS xs I9 D9 K9 M t) A) ([.ref (ad 40)] : List Value).toArray s 2 21 A) (F0 m 19 ls [.int z0_19]) := by
    intro z0_19 K_J19 hf H locs ls hP hS hl
    unfold f_T_ingredient_J19 at hf
    refine lv_istore_n (lv' := [(1, .int z0_19), (0, .ref (ad 40))]) hx hb dX5_ingredient_19 rfl hl (by decide) rfl (fun ls hl => ?_)
    refine lv_aload_n hx hb dX5_ingredient_20 rfl (lv_at hl 1 rfl) ?_
    refine lv_sipush (v := 200) hx hb dX5_ingredient_21 (by decide) ?_
    obtain ⟨⟨r_5, K_7⟩, g_6, hf⟩ := bd_out hf
    have hAW : ∀ q, AT (tL a b c) ad H.size q → A q := fun q h => h.elim (fun ⟨k, k1, k2⟩ => k2 ▸ hAL k k1) (fun h => hA q (Nat.le_trans hS.1 h))
    obtain ⟨q_8, wq_8, heq_8⟩ := heT_40 (L := (tL a b c)) (ad := ad) (cy := cy) (bS := bS) (a := a) (b := b) (c := c) (d := d) (r := r) (I := I) (D := D) (K := K_J19) (M := M) hM
    refine va_calli (va_runV (As := [.int 200]) (rest := []) ⟨hx, hb, hml, hown, hts⟩ (mt_T_draw l dC dI (tL a b c) a b c d bS ad cy hM r LS xs H.size I D K_J19 M 200 r_5 K_7 g_6) (cwV 1 hts gX5_ingredient_X5_draw rfl rfl rfl (by decide +kernel) ⟨(Nat.le_of_ble_eq_true rfl), (Nat.le_of_ble_eq_true rfl)⟩) ⟨(tW.pre [.ref (ad 40), .int 200] hP hK hN (hX0.kept (hS.2.1 bS hbl hbA))).1, tW.recv (C := RX5) (T := TX5) (N := 11) hP hK heq_8 rfl, (tW.pre [.ref (ad 40), .int 200] hP hK hN (hX0.kept (hS.2.1 bS hbl hbA))).2⟩ rfl rfl hl.1 rfl (lv_room (Nat.le_of_ble_eq_true rfl)) dX5_ingredient_24 ⟨(Nat.le_of_ble_eq_true rfl), (Nat.le_of_ble_eq_true rfl)⟩) hS (fun q _ h => hAW q h) (fun q h => hAW q h) (fun r9 u t H1 locs ht hvm hw hB hz1 hk1 hS9 => ?_)
    subst hw
    have hP : va_P (dC, dI) vwCl (iwT (tL a b c) ad cy bS a b c d r I D K_7 M) H1 := by rw [← ht]; exact hB.1
    have hS := hS9
    clear hB hz1 hk1 hvm ht hS9
    generalize H1 = H at hP hS ⊢
    refine lv_istore_n (lv' := [(2, .int r_5), (1, .int z0_19), (0, .ref (ad 40))]) hx hb dX5_ingredient_27 rfl hl (by decide) rfl (fun ls hl => ?_)
    refine lv_aload_n hx hb dX5_ingredient_28 rfl (lv_at hl 2 rfl) ?_
    refine lv_iconst (v := 2) hx hb dX5_ingredient_29 (by decide) ?_
    obtain ⟨⟨r_9, K_11⟩, g_10, hf⟩ := bd_out hf
    have hAW : ∀ q, AT (tL a b c) ad H.size q → A q := fun q h => h.elim (fun ⟨k, k1, k2⟩ => k2 ▸ hAL k k1) (fun h => hA q (Nat.le_trans hS.1 h))
    obtain ⟨q_12, wq_12, heq_12⟩ := heT_40 (L := (tL a b c)) (ad := ad) (cy := cy) (bS := bS) (a := a) (b := b) (c := c) (d := d) (r := r) (I := I) (D := D) (K := K_7) (M := M) hM
    refine va_calli (va_runV (As := [.int 2]) (rest := []) ⟨hx, hb, hml, hown, hts⟩ (mt_T_draw l dC dI (tL a b c) a b c d bS ad cy hM r LS xs H.size I D K_7 M 2 r_9 K_11 g_10) (cwV 1 hts gX5_ingredient_X5_draw rfl rfl rfl (by decide +kernel) ⟨(Nat.le_of_ble_eq_true rfl), (Nat.le_of_ble_eq_true rfl)⟩) ⟨(tW.pre [.ref (ad 40), .int 2] hP hK hN (hX0.kept (hS.2.1 bS hbl hbA))).1, tW.recv (C := RX5) (T := TX5) (N := 11) hP hK heq_12 rfl, (tW.pre [.ref (ad 40), .int 2] hP hK hN (hX0.kept (hS.2.1 bS hbl hbA))).2⟩ rfl rfl hl.1 rfl (lv_room (Nat.le_of_ble_eq_true rfl)) dX5_ingredient_30 ⟨(Nat.le_of_ble_eq_true rfl), (Nat.le_of_ble_eq_true rfl)⟩) hS (fun q _ h => hAW q h) (fun q h => hAW q h) (fun r9 u t H1 locs ht hvm hw hB hz1 hk1 hS9 => ?_)
    subst hw
    have hP : va_P (dC, dI) vwCl (iwT (tL a b c) ad cy bS a b c d r I D K_11 M) H1 := by rw [← ht]; exact hB.1
    have hS := hS9
    clear hB hz1 hk1 hvm ht hS9
    generalize H1 = H at hP hS ⊢
    refine lv_aload_n hx hb dX5_ingredient_33 rfl (lv_at hl 2 rfl) ?_
    refine lv_sipush (v := 400) hx hb dX5_ingredient_34 (by decide) ?_
    obtain ⟨⟨r_13, K_15⟩, g_14, hf⟩ := bd_out hf
    have hAW : ∀ q, AT (tL a b c) ad H.size q → A q := fun q h => h.elim (fun ⟨k, k1, k2⟩ => k2 ▸ hAL k k1) (fun h => hA q (Nat.le_trans hS.1 h))
    obtain ⟨q_16, wq_16, heq_16⟩ := heT_40 (L := (tL a b c)) (ad := ad) (cy := cy) (bS := bS) (a := a) (b := b) (c := c) (d := d) (r := r) (I := I) (D := D) (K := K_11) (M := M) hM
    refine va_calli (va_runV (As := [.int 400]) (rest := [.int r_9]) ⟨hx, hb, hml, hown, hts⟩ (mt_T_draw l dC dI (tL a b c) a b c d bS ad cy hM r LS xs H.size I D K_11 M 400 r_13 K_15 g_14) (cwV 1 hts gX5_ingredient_X5_draw rfl rfl rfl (by decide +kernel) ⟨(Nat.le_of_ble_eq_true rfl), (Nat.le_of_ble_eq_true rfl)⟩) ⟨(tW.pre [.ref (ad 40), .int 400] hP hK hN (hX0.kept (hS.2.1 bS hbl hbA))).1, tW.recv (C := RX5) (T := TX5) (N := 11) hP hK heq_16 rfl, (tW.pre [.ref (ad 40), .int 400] hP hK hN (hX0.kept (hS.2.1 bS hbl hbA))).2⟩ rfl rfl hl.1 rfl (lv_room (Nat.le_of_ble_eq_true rfl)) dX5_ingredient_37 ⟨(Nat.le_of_ble_eq_true rfl), (Nat.le_of_ble_eq_true rfl)⟩) hS (fun q _ h => hAW q h) (fun q h => hAW q h) (fun r9 u t H1 locs ht hvm hw hB hz1 hk1 hS9 => ?_)
    subst hw
    have hP : va_P (dC, dI) vwCl (iwT (tL a b c) ad cy bS a b c d r I D K_15 M) H1 := by rw [← ht]; exact hB.1
    have hS := hS9
    clear hB hz1 hk1 hvm ht hS9
    generalize H1 = H at hP hS ⊢
    refine lv_imul hx hb dX5_ingredient_40 ?_
    refine lv_istore_n (lv' := [(3, .int (r_9 * r_13)), (2, .int r_5), (1, .int z0_19), (0, .ref (ad 40))]) hx hb dX5_ingredient_41 rfl hl (by decide) rfl (fun ls hl => ?_)
    refine lv_iconst (v := 1) hx hb dX5_ingredient_42 (by decide) ?_
    refine lv_aload_n hx hb dX5_ingredient_43 rfl (lv_at hl 3 rfl) ?_
    refine lv_bipush (v := 30) hx hb dX5_ingredient_44 (by decide) ?_
    obtain ⟨⟨r_17, K_19⟩, g_18, hf⟩ := bd_out hf
    have hAW : ∀ q, AT (tL a b c) ad H.size q → A q := fun q h => h.elim (fun ⟨k, k1, k2⟩ => k2 ▸ hAL k k1) (fun h => hA q (Nat.le_trans hS.1 h))
    obtain ⟨q_20, wq_20, heq_20⟩ := heT_40 (L := (tL a b c)) (ad := ad) (cy := cy) (bS := bS) (a := a) (b := b) (c := c) (d := d) (r := r) (I := I) (D := D) (K := K_15) (M := M) hM
    refine va_calli (va_runV (As := [.int 30]) (rest := [.int 1]) ⟨hx, hb, hml, hown, hts⟩ (mt_T_draw l dC dI (tL a b c) a b c d bS ad cy hM r LS xs H.size I D K_15 M 30 r_17 K_19 g_18) (cwV 1 hts gX5_ingredient_X5_draw rfl rfl rfl (by decide +kernel) ⟨(Nat.le_of_ble_eq_true rfl), (Nat.le_of_ble_eq_true rfl)⟩) ⟨(tW.pre [.ref (ad 40), .int 30] hP hK hN (hX0.kept (hS.2.1 bS hbl hbA))).1, tW.recv (C := RX5) (T := TX5) (N := 11) hP hK heq_20 rfl, (tW.pre [.ref (ad 40), .int 30] hP hK hN (hX0.kept (hS.2.1 bS hbl hbA))).2⟩ rfl rfl hl.1 rfl (lv_room (Nat.le_of_ble_eq_true rfl)) dX5_ingredient_46 ⟨(Nat.le_of_ble_eq_true rfl), (Nat.le_of_ble_eq_true rfl)⟩) hS (fun q _ h => hAW q h) (fun q h => hAW q h) (fun r9 u t H1 locs ht hvm hw hB hz1 hk1 hS9 => ?_)
    subst hw
    have hP : va_P (dC, dI) vwCl (iwT (tL a b c) ad cy bS a b c d r I D K_19 M) H1 := by rw [← ht]; exact hB.1
    have hS := hS9
    clear hB hz1 hk1 hvm ht hS9
    generalize H1 = H at hP hS ⊢
    refine lv_iadd hx hb dX5_ingredient_49 ?_
    refine lv_istore (lv' := [(4, .int (1 + r_17)), (3, .int (r_9 * r_13)), (2, .int r_5), (1, .int z0_19), (0, .ref (ad 40))]) hx hb dX5_ingredient_50 hl (by decide) rfl (fun ls hl => ?_)
    refine lv_aload_n hx hb dX5_ingredient_52 rfl (lv_at hl 4 rfl) ?_
    refine lv_bipush (v := 16) hx hb dX5_ingredient_53 (by decide) ?_
    obtain ⟨⟨r_21, K_23⟩, g_22, hf⟩ := bd_out hf
    have hAW : ∀ q, AT (tL a b c) ad H.size q → A q := fun q h => h.elim (fun ⟨k, k1, k2⟩ => k2 ▸ hAL k k1) (fun h => hA q (Nat.le_trans hS.1 h))
    obtain ⟨q_24, wq_24, heq_24⟩ := heT_40 (L := (tL a b c)) (ad := ad) (cy := cy) (bS := bS) (a := a) (b := b) (c := c) (d := d) (r := r) (I := I) (D := D) (K := K_19) (M := M) hM
    refine va_calli (va_runV (As := [.int 16]) (rest := []) ⟨hx, hb, hml, hown, hts⟩ (mt_T_draw l dC dI (tL a b c) a b c d bS ad cy hM r LS xs H.size I D K_19 M 16 r_21 K_23 g_22) (cwV 1 hts gX5_ingredient_X5_draw rfl rfl rfl (by decide +kernel) ⟨(Nat.le_of_ble_eq_true rfl), (Nat.le_of_ble_eq_true rfl)⟩) ⟨(tW.pre [.ref (ad 40), .int 16] hP hK hN (hX0.kept (hS.2.1 bS hbl hbA))).1, tW.recv (C := RX5) (T := TX5) (N := 11) hP hK heq_24 rfl, (tW.pre [.ref (ad 40), .int 16] hP hK hN (hX0.kept (hS.2.1 bS hbl hbA))).2⟩ rfl rfl hl.1 rfl (lv_room (Nat.le_of_ble_eq_true rfl)) dX5_ingredient_55 ⟨(Nat.le_of_ble_eq_true rfl), (Nat.le_of_ble_eq_true rfl)⟩) hS (fun q _ h => hAW q h) (fun q h => hAW q h) (fun r9 u t H1 locs ht hvm hw hB hz1 hk1 hS9 => ?_)
    subst hw
    have hP : va_P (dC, dI) vwCl (iwT (tL a b c) ad cy bS a b c d r I D K_23 M) H1 := by rw [← ht]; exact hB.1
    have hS := hS9
    clear hB hz1 hk1 hvm ht hS9
    generalize H1 = H at hP hS ⊢
    refine lv_istore (lv' := [(5, .int r_21), (4, .int (1 + r_17)), (3, .int (r_9 * r_13)), (2, .int r_5), (1, .int z0_19), (0, .ref (ad 40))]) hx hb dX5_ingredient_58 hl (by decide) rfl (fun ls hl => ?_)
    refine lv_aload_n hx hb dX5_ingredient_60 rfl (lv_at hl 5 rfl) ?_
    refine lv_aload_n hx hb dX5_ingredient_61 rfl (lv_at hl 5 rfl) ?_
    obtain ⟨q_25, wq_25, heq_25⟩ := heT_40 (L := (tL a b c)) (ad := ad) (cy := cy) (bS := bS) (a := a) (b := b) (c := c) (d := d) (r := r) (I := I) (D := D) (K := K_23) (M := M) hM
    refine va_get (D := (dC, dI)) (ci := 5) (v := .ref (ad 47)) (C := RX5) (T := TX5) (N := 11) hx hb hts iT_ingredient_RX5 hown hK hP q_25 heq_25 rfl 3 (by decide) (hts (.fieldLink RX5 18 "OverrunHouseLaw$Told" "ingredients" "[[I") (List.mem_cons_of_mem _ (List.mem_append_left _ (List.mem_append_left _ (List.mem_append_left _ (List.mem_append_left _ (List.mem_append_left _ (List.mem_append_left _ (List.mem_of_getElem? (i := 0) rfl))))))))) (fun _ h9 => h9) rfl dX5_ingredient_62 ?_
    refine lv_iconst (v := 5) hx hb dX5_ingredient_65 (by decide) ?_
    refine va_newa (atype := .int) (ty := .int) (N' := 5) (a0 := (5, .inl (fun _ => 0))) (D := (dC, dI)) (cl := vwCl) hx hb (hts (.arrayClass .int) (List.mem_cons_of_mem _ (List.mem_append_left _ (List.mem_append_left _ (List.mem_append_left _ (List.mem_append_left _ (List.mem_append_left _ (List.mem_append_left _ (List.mem_of_getElem? (i := 1) rfl))))))))) rfl hK hP (hDD r I D K_23 M) hS hA (fun cA => va_arr0 cA 5) (by decide) (by decide) (by decide) (Nat.le_of_ble_eq_true rfl) (Nat.le_of_ble_eq_true rfl) dX5_ingredient_66 (fun q_26 cA_27 H hKt hP hD hS => ?_)
    obtain rfl : cA_27 = cy 0 := cy_same hKt 0 rfl rfl
    obtain ⟨K_34, eK_34, hf⟩ := nm_out hf
    obtain ⟨ad_30, hM_31, hP, hAL_32, hE_28, hq_29⟩ := t_new (r1 := 5) (K1 := (va_up K_23 34 (fun _ => 0))) (M1 := M) (Or.inl rfl) (fun hk => (tL_lt hM.2.2.1 hM.2.2.2.1 hM.2.2.2.2.1 hk).1 rfl) (fun k hk => Or.inl hk) hM hP hD hbA (fun hk => absurd hk (fun hk => (tL_lt hM.2.2.1 hM.2.2.2.1 hM.2.2.2.2.1 hk).1 rfl)) (fun ad1 => (cellT_34 ad1 cy bS a b c d 5 _ _).trans (by rw [va_up_self])) (fun k hk => va_up_ne _ _ hk) (fun _ _ => rfl)
    have hF_35 : ∀ k ∈ tL a b c, ad_30 k = ad k := fun k hk => hE_28 k hk
    rw [← eK_34] at hP
    have hDD_33 : ∀ r I D K M, va_D A (iwT (tL a b c ++ [34]) ad_30 cy bS a b c d r I D K M) := fun r I D K M => iwT_D hM_31 hAL_32 I D K M
    have hl : lv_has ls 6 [(5, .int r_21), (4, .int (1 + r_17)), (3, .int (r_9 * r_13)), (2, .int r_5), (1, .int z0_19), (0, .ref (ad_30 40))] := by rw [hE_28 40 (tL_c (by decide))]; exact hl
    refine W.eq (g2 := F0 m 68 ls [.ref (ad_30 34), .ref (ad_30 47), .ref (ad_30 40)]) (by rw [hq_29, hE_28 47 (tL_c (by decide)), hE_28 40 (tL_c (by decide))]) ?_
    have e4_36 := (hE_28 40 (tL_c (by decide))).trans e40
    have e0_37 := (hE_28 0 (tL_H (by decide))).trans e00
    refine lv_dup hx hb dX5_ingredient_68 rfl ?_
    refine lv_iconst (v := 0) hx hb dX5_ingredient_69 (by decide) ?_
    refine lv_iload_n hx hb dX5_ingredient_70 rfl (lv_at hl 4 rfl) ?_
    obtain ⟨q_38, wq_38, heq_38⟩ := heT_34 (L := (tL a b c ++ [34])) (ad := ad_30) (cy := cy) (bS := bS) (a := a) (b := b) (c := c) (d := d) (r := 5) (I := I) (D := D) (K := K_34) (M := M) (List.mem_append_right _ (by decide))
    obtain ⟨h_39, hf⟩ := ck_out hf
    obtain ⟨K_40, eK_40, hf⟩ := nm_out hf
    refine va_iast (n := 5) (f := K_34 34) hx hb hK hP (hDD_33 5 I D K_34 M) hS q_38 0 heq_38 rfl (inB_in h_39) dX5_ingredient_71 (fun H locs hP _ hS => ?_)
    have hP : va_P (dC, dI) vwCl (iwT (tL a b c ++ [34]) ad_30 cy bS a b c d 5 I D K_40 M) H := by rw [eK_40]; exact hqK hM_31 wq_38 (by decide) ((cellT_34 ad_30 cy bS a b c d 5 _ _).trans rfl) hP
    refine lv_dup hx hb dX5_ingredient_72 rfl ?_
    refine lv_iconst (v := 1) hx hb dX5_ingredient_73 (by decide) ?_
    refine lv_iload_n hx hb dX5_ingredient_74 rfl (lv_at hl 3 rfl) ?_
    obtain ⟨q_41, wq_41, heq_41⟩ := heT_34 (L := (tL a b c ++ [34])) (ad := ad_30) (cy := cy) (bS := bS) (a := a) (b := b) (c := c) (d := d) (r := 5) (I := I) (D := D) (K := K_40) (M := M) (List.mem_append_right _ (by decide))
    obtain ⟨h_42, hf⟩ := ck_out hf
    obtain ⟨K_43, eK_43, hf⟩ := nm_out hf
    refine va_iast (n := 5) (f := K_40 34) hx hb hK hP (hDD_33 5 I D K_40 M) hS q_41 0 heq_41 rfl (inB_in h_42) dX5_ingredient_75 (fun H locs hP _ hS => ?_)
    have hP : va_P (dC, dI) vwCl (iwT (tL a b c ++ [34]) ad_30 cy bS a b c d 5 I D K_43 M) H := by rw [eK_43]; exact hqK hM_31 wq_41 (by decide) ((cellT_34 ad_30 cy bS a b c d 5 _ _).trans rfl) hP
    refine lv_dup hx hb dX5_ingredient_76 rfl ?_
    refine lv_iconst (v := 2) hx hb dX5_ingredient_77 (by decide) ?_
    refine lv_iload_n hx hb dX5_ingredient_78 rfl (lv_at hl 2 rfl) ?_
    obtain ⟨q_44, wq_44, heq_44⟩ := heT_34 (L := (tL a b c ++ [34])) (ad := ad_30) (cy := cy) (bS := bS) (a := a) (b := b) (c := c) (d := d) (r := 5) (I := I) (D := D) (K := K_43) (M := M) (List.mem_append_right _ (by decide))
    obtain ⟨h_45, hf⟩ := ck_out hf
    obtain ⟨K_46, eK_46, hf⟩ := nm_out hf
    refine va_iast (n := 5) (f := K_43 34) hx hb hK hP (hDD_33 5 I D K_43 M) hS q_44 0 heq_44 rfl (inB_in h_45) dX5_ingredient_79 (fun H locs hP _ hS => ?_)
    have hP : va_P (dC, dI) vwCl (iwT (tL a b c ++ [34]) ad_30 cy bS a b c d 5 I D K_46 M) H := by rw [eK_46]; exact hqK hM_31 wq_44 (by decide) ((cellT_34 ad_30 cy bS a b c d 5 _ _).trans rfl) hP
    refine lv_dup hx hb dX5_ingredient_80 rfl ?_
    refine lv_iconst (v := 3) hx hb dX5_ingredient_81 (by decide) ?_
    refine lv_iload hx hb dX5_ingredient_82 (lv_at hl 1 rfl) ?_
    obtain ⟨q_47, wq_47, heq_47⟩ := heT_34 (L := (tL a b c ++ [34])) (ad := ad_30) (cy := cy) (bS := bS) (a := a) (b := b) (c := c) (d := d) (r := 5) (I := I) (D := D) (K := K_46) (M := M) (List.mem_append_right _ (by decide))
    obtain ⟨h_48, hf⟩ := ck_out hf
    obtain ⟨K_49, eK_49, hf⟩ := nm_out hf
    refine va_iast (n := 5) (f := K_46 34) hx hb hK hP (hDD_33 5 I D K_46 M) hS q_47 0 heq_47 rfl (inB_in h_48) dX5_ingredient_84 (fun H locs hP _ hS => ?_)
    have hP : va_P (dC, dI) vwCl (iwT (tL a b c ++ [34]) ad_30 cy bS a b c d 5 I D K_49 M) H := by rw [eK_49]; exact hqK hM_31 wq_47 (by decide) ((cellT_34 ad_30 cy bS a b c d 5 _ _).trans rfl) hP
    refine lv_dup hx hb dX5_ingredient_85 rfl ?_
    refine lv_iconst (v := 4) hx hb dX5_ingredient_86 (by decide) ?_
    refine lv_iload hx hb dX5_ingredient_87 (lv_at hl 0 rfl) ?_
    obtain ⟨q_50, wq_50, heq_50⟩ := heT_34 (L := (tL a b c ++ [34])) (ad := ad_30) (cy := cy) (bS := bS) (a := a) (b := b) (c := c) (d := d) (r := 5) (I := I) (D := D) (K := K_49) (M := M) (List.mem_append_right _ (by decide))
    obtain ⟨h_51, hf⟩ := ck_out hf
    obtain ⟨K_52, eK_52, hf⟩ := nm_out hf
    refine va_iast (n := 5) (f := K_49 34) hx hb hK hP (hDD_33 5 I D K_49 M) hS q_50 0 heq_50 rfl (inB_in h_51) dX5_ingredient_89 (fun H locs hP _ hS => ?_)
    have hP : va_P (dC, dI) vwCl (iwT (tL a b c ++ [34]) ad_30 cy bS a b c d 5 I D K_52 M) H := by rw [eK_52]; exact hqK hM_31 wq_50 (by decide) ((cellT_34 ad_30 cy bS a b c d 5 _ _).trans rfl) hP
    obtain ⟨h_54, hf⟩ := ck_out hf
    obtain ⟨K_55, eK_55, hf⟩ := nm_out hf
    have hPp := plus_I hM_31 hP
    refine va_callr (va_runS (As := [.ref (ad_30 47), .ref (ad_30 34)]) (rest := [.ref (ad_30 40)]) ⟨hx, hb, hml, hown, hts⟩ (mt_X5_plus l dC dI cy (ad_30 47) (ad_30 34) a 5 _ _ H.size (by have := hM_31.2.2; omega)) (va_cwS 2 hts gX5_ingredient_X5_plus rfl rfl rfl (by decide +kernel) ⟨(Nat.le_of_ble_eq_true rfl), (Nat.le_of_ble_eq_true rfl)⟩) (pW_pre hPp.1 hPp.2 hK hN.2) rfl rfl hl.1 rfl (lv_room (Nat.le_of_ble_eq_true rfl)) dX5_ingredient_90 ⟨(Nat.le_of_ble_eq_true rfl), (Nat.le_of_ble_eq_true rfl)⟩) hS (fun q _ h => hA q (Nat.le_trans hS.1 h)) (fun q h => hA q (Nat.le_trans hS.1 h)) (fun u rp_53 t H1 locs ht hvm hw hB hz1 hk1 hS9 => ?_)
    obtain ⟨hB1, hB2⟩ := hB
    rw [ht] at hB2
    have hDj := va_Djn (hDD_33 5 I D K_52 M) hP hB2 (hA rp_53 (Nat.le_trans hS.1 hB1)) hB1
    have hP := (va_Pnew hP hk1).app hB2
    have hS := hS9
    clear hB1 hB2 hz1 hk1 hvm ht hS9 hPp
    generalize H1 = H at hP hS ⊢
    obtain ⟨q_56, wq_56, heq_56⟩ := heT_40 (L := (tL a b c ++ [34])) (ad := ad_30) (cy := cy) (bS := bS) (a := a) (b := b) (c := c) (d := d) (r := 5) (I := I) (D := D) (K := K_52) (M := M) hM_31
    have hjq_56 := va_appL (ys := [(rp_53, .inl (cy 5, a + 1, .inr (.inr (.inr (.inr (fun j => if j < a then (if j < a then some (ad_30 (50 + j)) else none) else if j = a then some (ad_30 34) else none))))))]) heq_56
    refine va_put (D := (dC, dI)) (ci := 5) (v := .ref rp_53) (ty := .array (.array .int)) (C := RX5) (T := TX5) (N := 11) hx hb hts iT_ingredient_RX5 tyX5 tyX5_ok nmX5 hown hK hP hDj hS q_56 hjq_56 rfl 3 (by decide) (hts (.fieldLink RX5 18 "OverrunHouseLaw$Told" "ingredients" "[[I") (List.mem_cons_of_mem _ (List.mem_append_left _ (List.mem_append_left _ (List.mem_append_left _ (List.mem_append_left _ (List.mem_append_left _ (List.mem_append_left _ (List.mem_of_getElem? (i := 0) rfl))))))))) (fun _ h9 => h9) rfl (by decide +kernel) rfl rfl (Nat.le_of_ble_eq_true rfl) dX5_ingredient_93 (fun H locs hP hD hS => ?_)
    obtain ⟨ad_57, hM_58, hP, hAL_59, e4_61, e0_62, eR_63, -⟩ := t_plus_I (of_decide_eq_true h_54) hM_31 wq_56 hP hD (fun j hj => plus_fn hj) hbA r
    have e4_64 := e4_61.trans e4_36
    have e0_65 := e0_62.trans e0_37
    rw [← eK_55] at hP
    have hDD_60 : ∀ r I D K M, va_D A (iwT (tL (a + 1) b c) ad_57 cy bS (a + 1) b c d r I D K M) := fun r I D K M => iwT_D hM_58 hAL_59 I D K M
    have hl : lv_has ls 6 [(5, .int r_21), (4, .int (1 + r_17)), (3, .int (r_9 * r_13)), (2, .int r_5), (1, .int z0_19), (0, .ref (ad_57 40))] := by rw [e4_61]; exact lv_sub hl [0, 1, 2, 3, 4, 5] rfl
    refine lv_aload_n hx hb dX5_ingredient_96 rfl (lv_at hl 5 rfl) ?_
    obtain ⟨q_66, wq_66, heq_66⟩ := heT_40 (L := (tL (a + 1) b c)) (ad := ad_57) (cy := cy) (bS := bS) (a := (a + 1)) (b := b) (c := c) (d := d) (r := r) (I := I) (D := D) (K := K_55) (M := M) hM_58
    refine va_get (D := (dC, dI)) (ci := 5) (v := .ref (ad_57 0)) (C := RX5) (T := TX5) (N := 11) hx hb hts iT_ingredient_RX5 hown hK hP q_66 heq_66 rfl 0 (by decide) (hts (.fieldLink RX5 10 "OverrunHouseLaw$Told" "m" "LOverrunHouse;") (List.mem_cons_of_mem _ (List.mem_append_left _ (List.mem_append_left _ (List.mem_append_left _ (List.mem_append_left _ (List.mem_append_left _ (List.mem_append_left _ (List.mem_of_getElem? (i := 2) rfl))))))))) (fun _ h9 => h9) rfl dX5_ingredient_97 ?_
    refine lv_iload_n hx hb dX5_ingredient_100 rfl (lv_at hl 4 rfl) ?_
    refine lv_iload_n hx hb dX5_ingredient_101 rfl (lv_at hl 3 rfl) ?_
    refine lv_iload_n hx hb dX5_ingredient_102 rfl (lv_at hl 2 rfl) ?_
    refine lv_iload hx hb dX5_ingredient_103 (lv_at hl 1 rfl) ?_
    refine lv_iload hx hb dX5_ingredient_105 (lv_at hl 0 rfl) ?_
    obtain ⟨⟨r_67, I_69, D_70⟩, g_68, hf⟩ := bd_out hf
    have hPH := iwT_H hM_58 hP
    have hAW : ∀ q, AW ad_57 H.size q → A q := fun q h => h.elim (fun ⟨k, k1, k2⟩ => k2 ▸ hAL_59 k (hM_58.1.2.1 _ (tL_H k1))) (fun h => hA q (Nat.le_trans hS.1 h))
    refine va_calli (va_runV (As := [.int z0_19, .int r_5, .int (r_9 * r_13), .int (1 + r_17), .int r_21]) (rest := []) ⟨hx, hb, hml, hown, hts⟩ (mt_X4_ingredient l dC dI ad_57 cy hM_58.J H.size I D z0_19 r_5 (r_9 * r_13) (1 + r_17) r_21 r_67 I_69 D_70 (eO_out g_68)) (cwV 5 hts gX5_ingredient_X4_ingredient rfl rfl rfl (by decide +kernel) ⟨(Nat.le_of_ble_eq_true rfl), (Nat.le_of_ble_eq_true rfl)⟩) ⟨(hW.pre [.ref (ad_57 0), .int z0_19, .int r_5, .int (r_9 * r_13), .int (1 + r_17), .int r_21] hPH hK hN.1).1, hW.recv (C := RX4) (T := TX4) (N := 14) hPH hK heH_0 rfl, (hW.pre [.ref (ad_57 0), .int z0_19, .int r_5, .int (r_9 * r_13), .int (1 + r_17), .int r_21] hPH hK hN.1).2⟩ rfl rfl hl.1 rfl (lv_room (Nat.le_of_ble_eq_true rfl)) dX5_ingredient_107 ⟨(Nat.le_of_ble_eq_true rfl), (Nat.le_of_ble_eq_true rfl)⟩) hS (fun q _ h => hAW q h) (fun q h => hAW q h) (fun r9 u t H1 locs ht hvm hw hB hz1 hk1 hS9 => ?_)
    subst hw
    have hP : va_P (dC, dI) vwCl (iwT (tL (a + 1) b c) ad_57 cy bS (a + 1) b c d r I_69 D_70 K_55 M) H1 := iwT_join hM_58 hP (by rw [← ht]; exact hB.1) hk1
    have hS := hS9
    clear hB hz1 hk1 hvm ht hS9
    generalize H1 = H at hP hS ⊢
    refine lv_aload_n hx hb dX5_ingredient_110 rfl (lv_at hl 5 rfl) ?_
    obtain ⟨q_71, wq_71, heq_71⟩ := heT_40 (L := (tL (a + 1) b c)) (ad := ad_57) (cy := cy) (bS := bS) (a := (a + 1)) (b := b) (c := c) (d := d) (r := r) (I := I_69) (D := D_70) (K := K_55) (M := M) hM_58
    refine va_get (D := (dC, dI)) (ci := 5) (v := .ref (ad_57 47)) (C := RX5) (T := TX5) (N := 11) hx hb hts iT_ingredient_RX5 hown hK hP q_71 heq_71 rfl 3 (by decide) (hts (.fieldLink RX5 18 "OverrunHouseLaw$Told" "ingredients" "[[I") (List.mem_cons_of_mem _ (List.mem_append_left _ (List.mem_append_left _ (List.mem_append_left _ (List.mem_append_left _ (List.mem_append_left _ (List.mem_append_left _ (List.mem_of_getElem? (i := 0) rfl))))))))) (fun _ h9 => h9) rfl dX5_ingredient_111 ?_
    obtain ⟨q_72, wq_72, heq_72⟩ := heT_47 (L := (tL (a + 1) b c)) (ad := ad_57) (cy := cy) (bS := bS) (a := (a + 1)) (b := b) (c := c) (d := d) (r := r) (I := I_69) (D := D_70) (K := K_55) (M := M) hM_58
    refine va_alen (v := nI (a + 1)) hx hb hK hP q_72 5 heq_72 rfl rfl dX5_ingredient_114 ?_
    refine lv_iconst (v := 1) hx hb dX5_ingredient_115 (by decide) ?_
    refine lv_isub hx hb dX5_ingredient_116 ?_
    refine lv_icmp_ne (tgt := 124) hx hb dX5_ingredient_117 (by decide) (fun c_73 => ?_) (fun c_73 => ?_)
    · have hf := it_f hf c_73
      refine lv_iconst (v := 0) hx hb dX5_ingredient_124 (by decide) ?_
      have hf := Option.some.inj hf
      obtain ⟨q1, hf⟩ := Prod.mk.inj hf
      obtain ⟨ga, hf⟩ := Prod.mk.inj hf
      obtain ⟨gb, hf⟩ := Prod.mk.inj hf
      obtain ⟨gc, hf⟩ := Prod.mk.inj hf
      obtain ⟨gd, hf⟩ := Prod.mk.inj hf
      obtain ⟨qI, hf⟩ := Prod.mk.inj hf
      obtain ⟨qD, qK⟩ := Prod.mk.inj hf
      exact W.zret (ty := .boolean) (v := 0) hx hb hr rfl (fun t ht hW9 => ⟨⟨0, (), rfl, q1.symm, (by rw [← ga, ← gb, ← gc, ← gd, ← qI, ← qD, ← qK]; exact ⟨ad_57, hM_58, ⟨fun k hk => by rw [hAe]; exact hAL_59 k hk, e4_64, e0_65⟩, tW.of hP hK hN (hX0.kept (hS.2.1 bS hbl hbA)) ht hW9⟩)⟩, hS.F ht⟩) hS.2.2 dX5_ingredient_125
    · have hf := it_t hf c_73
      refine lv_iconst (v := 1) hx hb dX5_ingredient_120 (by decide) ?_
      refine lv_goto (tgt := 125) hx hb dX5_ingredient_121 (by decide) ?_
      have hf := Option.some.inj hf
      obtain ⟨q1, hf⟩ := Prod.mk.inj hf
      obtain ⟨ga, hf⟩ := Prod.mk.inj hf
      obtain ⟨gb, hf⟩ := Prod.mk.inj hf
      obtain ⟨gc, hf⟩ := Prod.mk.inj hf
      obtain ⟨gd, hf⟩ := Prod.mk.inj hf
      obtain ⟨qI, hf⟩ := Prod.mk.inj hf
      obtain ⟨qD, qK⟩ := Prod.mk.inj hf
      exact W.zret (ty := .boolean) (v := 1) hx hb hr rfl (fun t ht hW9 => ⟨⟨1, (), rfl, q1.symm, (by rw [← ga, ← gb, ← gc, ← gd, ← qI, ← qD, ← qK]; exact ⟨ad_57, hM_58, ⟨fun k hk => by rw [hAe]; exact hAL_59 k hk, e4_64, e0_65⟩, tW.of hP hK hN (hX0.kept (hS.2.1 bS hbl hbA)) ht hW9⟩)⟩, hS.F ht⟩) hS.2.2 dX5_ingredient_125
  refine lv_if_ne (tgt := 12) hx hb dX5_ingredient_5 (by decide) (fun c_74 => ?_) (fun c_74 => ?_)
  · have hf := it_f hf c_74
    refine lv_aload_n hx hb dX5_ingredient_12 rfl (lv_at hl 0 rfl) ?_
    refine lv_sipush (v := 300) hx hb dX5_ingredient_13 (by decide) ?_
    obtain ⟨⟨r_75, K_77⟩, g_76, hf⟩ := bd_out hf
    have hAW : ∀ q, AT (tL a b c) ad H.size q → A q := fun q h => h.elim (fun ⟨k, k1, k2⟩ => k2 ▸ hAL k k1) (fun h => hA q (Nat.le_trans hS.1 h))
    obtain ⟨q_78, wq_78, heq_78⟩ := heT_40 (L := (tL a b c)) (ad := ad) (cy := cy) (bS := bS) (a := a) (b := b) (c := c) (d := d) (r := r) (I := I) (D := D) (K := K_3) (M := M) hM
    refine va_calli (va_runV (As := [.int 300]) (rest := []) ⟨hx, hb, hml, hown, hts⟩ (mt_T_draw l dC dI (tL a b c) a b c d bS ad cy hM r LS xs H.size I D K_3 M 300 r_75 K_77 g_76) (cwV 1 hts gX5_ingredient_X5_draw rfl rfl rfl (by decide +kernel) ⟨(Nat.le_of_ble_eq_true rfl), (Nat.le_of_ble_eq_true rfl)⟩) ⟨(tW.pre [.ref (ad 40), .int 300] hP hK hN (hX0.kept (hS.2.1 bS hbl hbA))).1, tW.recv (C := RX5) (T := TX5) (N := 11) hP hK heq_78 rfl, (tW.pre [.ref (ad 40), .int 300] hP hK hN (hX0.kept (hS.2.1 bS hbl hbA))).2⟩ rfl rfl hl.1 rfl (lv_room (Nat.le_of_ble_eq_true rfl)) dX5_ingredient_16 ⟨(Nat.le_of_ble_eq_true rfl), (Nat.le_of_ble_eq_true rfl)⟩) hS (fun q _ h => hAW q h) (fun q h => hAW q h) (fun r9 u t H1 locs ht hvm hw hB hz1 hk1 hS9 => ?_)
    subst hw
    have hP : va_P (dC, dI) vwCl (iwT (tL a b c) ad cy bS a b c d r I D K_77 M) H1 := by rw [← ht]; exact hB.1
    have hS := hS9
    clear hB hz1 hk1 hvm ht hS9
    generalize H1 = H at hP hS ⊢
    exact J19 r_75 K_77 hf _ _ _ hP hS (lv_sub hl [0] rfl)
  · have hf := it_t hf c_74
    refine lv_iconst (v := 0) hx hb dX5_ingredient_8 (by decide) ?_
    refine lv_goto (tgt := 19) hx hb dX5_ingredient_9 (by decide) ?_
    exact J19 0 K_3 hf _ _ _ hP hS (lv_sub hl [0] rfl)

def f_T_mix_L76 (LS : Nat) (xs : Nat → Int32) (a : Nat) (b : Nat) (c : Nat) (d : Nat) (M : Nat → Nat → UInt64) : Nat → Int32 → (Nat → Nat → Int32) → (Nat → Nat → UInt64) → (Nat → Nat → Int32) → Option (Int32 × Nat × Nat × Nat × Nat × (Nat → Nat → Int32) × (Nat → Nat → UInt64) × (Nat → Nat → Int32))
  | 0, _, _, _, _ => none
  | n76 + 1, x3_76, I_L76, D_L76, K_L76 => (if x3_76 ≤ 0 then some (1, a, (b + 1), c, d, I_L76, D_L76, K_L76) else bd (f_T_put LS xs a (b + 1) c d I_L76 D_L76 K_L76 M ((nI (b + 1)) - 1)) (fun (r_62, I_64, D_65, K_66) => (if r_62 = 0 then some (0, a, (b + 1), c, d, I_64, D_65, K_66) else f_T_mix_L76 LS xs a b c d M n76 (x3_76 + (-1)) I_64 D_65 K_66)))
def f_T_mix (LS : Nat) (xs : Nat → Int32) (a b c d : Nat) (I : Nat → Nat → Int32) (D : Nat → Nat → UInt64) (K : Nat → Nat → Int32) (M : Nat → Nat → UInt64) : Option (Int32 × Nat × Nat × Nat × Nat × (Nat → Nat → Int32) × (Nat → Nat → UInt64) × (Nat → Nat → Int32)) :=
  nm (va_up K 34 (fun _ => 0)) (fun K_9 => bd (f_T_draw LS xs a b c d I D K_9 M (nI a)) (fun (r_15, K_17) => bd (f_T_draw LS xs a b c d I D K_17 M 150) (fun (r_19, K_21) => ck (inB r_15 10) (nm (up2 K_21 34 (r_15).toNatClampNeg (20 + r_19)) (fun K_25 => ck (inB r_15 10) (ck (inB 6 10) (nm (up2 K_25 34 (6 : Int32).toNatClampNeg (K_25 34 (r_15).toNatClampNeg)) (fun K_30 => ck (decide (b < 5)) (nm (va_up K_30 (60 + b) (K_30 34)) (fun K_34 => ck (inB r_15 10) (bd (eO (f_X4_mix I D r_15 (K_34 (60 + b) (r_15).toNatClampNeg))) (fun (r_48, I_50, D_51) => (if r_48 = ((nI (b + 1)) - 1) then bd (f_T_draw LS xs a (b + 1) c d I_50 D_51 K_34 M 3) (fun (r_55, K_57) => f_T_mix_L76 LS xs a b c d M 200 r_55 I_50 D_51 K_57) else some (0, a, (b + 1), c, d, I_50, D_51, K_34))))))))))))))
theorem iT_mix_RX5 : ∀ w ∈ u_ws RX5 TX5 11, w ∈ wsX5_mix := fun w h => List.mem_cons_of_mem _ (List.mem_append_left _ (List.mem_append_left _ (List.mem_append_left _ (List.mem_append_left _ (List.mem_append_left _ (List.mem_append_left _ (List.mem_append_right _ (h))))))))
set_option maxHeartbeats 4000000 in
set_option maxRecDepth 100000 in
theorem mt_T_mix (l : Launch) (dC : Nat → ClassId) (dI : Nat → Nat → Nat) (a b c d bS : Nat) (ad : Nat → Nat) (cy : Nat → ClassId) (hM : tOK (tL a b c) a b c d bS ad) (r LS : Nat) (xs : Nat → Int32) (sz : Nat) (I : Nat → Nat → Int32) (D : Nat → Nat → UInt64) (K : Nat → Nat → Int32) (M : Nat → Nat → UInt64) (rr : Int32) (a9 : Nat) (b9 : Nat) (c9 : Nat) (d9 : Nat) (I9 : Nat → Nat → Int32) (D9 : Nat → Nat → UInt64) (K9 : Nat → Nat → Int32) (hf : f_T_mix LS xs a b c d I D K M = some (rr, a9, b9, c9, d9, I9, D9, K9)) : Met l yX5_mix wsX5_mix ({ frames := 4, cells := 2, slots := 26, locals := 112 }) (va_Pc [.ref (ad 40)] (fun U => U.heap.size = sz ∧ tW dC dI (tL a b c) ad cy bS a b c d r LS xs I D K M U)) (va_Qi (fun r (_ : Unit) => rr = r) (fun _ t => ∃ ad1 : Nat → Nat, tOK (tL a9 b9 c9) a9 b9 c9 d9 bS ad1 ∧ tX (tL a b c) (tL a9 b9 c9) ad ad1 sz ∧ tW dC dI (tL a9 b9 c9) ad1 cy bS a9 b9 c9 d9 r LS xs I9 D9 K9 M t) (AT (tL a b c) ad sz)) 2 26 (AT (tL a b c) ad sz) := by
  refine Met.ofW (cc := cX5_mix) (maxL := 4) (ret := (some .boolean)) (by decide) rfl ?_
  intro p e s m args below meth cX s₁ B hml hv
  obtain ⟨rfl, hsz, hP, hK, hN, hX0⟩ := hv
  have hx := B.exec
  have hb := B.bytes
  have hr := B.returns
  have hts := atoms_spec (ws := wsX5_mix) B.pre
  have hown : s.vm.findClass RX5 = some m.cls := findClass_of_methodNamed B.named
  have hlocks := B.notSynchronized
  subst hsz
  have hbl : bS < s.heap.size := by obtain ⟨scr, h, -⟩ := hX0; exact (Array.getElem?_eq_some_iff.mp h).1
  generalize hAe : AT (tL a b c) ad s.heap.size = A
  have hA : ∀ q : Nat, s.heap.size ≤ q → A q := fun q h => by rw [← hAe]; exact Or.inr h
  have hAL : ∀ k, k ∈ (tL a b c) → A (ad k) := fun k h => by rw [← hAe]; exact Or.inl ⟨k, h, rfl⟩
  have hDD : ∀ r I D K M, va_D A (iwT (tL a b c) ad cy bS a b c d r I D K M) := fun r I D K M => iwT_D hM hAL I D K M
  have hbA : ¬ A bS := fun h => by rw [← hAe] at h; exact h.elim (fun ⟨k, k1, k2⟩ => hM.2.1 k k1 k2) (fun h => Nat.lt_irrefl _ (Nat.lt_of_lt_of_le hbl h))
  have e40 : ad 40 = ad 40 := rfl
  have e00 : ad 0 = ad 0 := rfl
  obtain ⟨H, hH⟩ : ∃ H : Heap, H = s.heap := ⟨_, rfl⟩
  have hS : va_S A s.heap H [] := by rw [hH]; exact va_S.rf
  have hP : va_P (dC, dI) vwCl (iwT (tL a b c) ad cy bS a b c d r I D K M) H := by rw [hH]; exact hP
  suffices hgo : ∀ locs, va_S A s.heap H locs → W p l e (headSpec wsX5_mix ({ frames := 4, cells := 2, slots := 26, locals := 112 })).room s m ([.ref (ad 40)] : List Value).toArray below meth cX H locs 0 0 (MQ below (va_Qi (fun r (_ : Unit) => rr = r) (fun _ t => ∃ ad1 : Nat → Nat, tOK (tL a9 b9 c9) a9 b9 c9 d9 bS ad1 ∧ tX (tL a b c) (tL a9 b9 c9) ad ad1 s.heap.size ∧ tW dC dI (tL a9 b9 c9) ad1 cy bS a9 b9 c9 d9 r LS xs I9 D9 K9 M t) A) ([.ref (ad 40)] : List Value).toArray s 2 26 A) (entryFrame m ([.ref (ad 40)] : List Value).toArray 4) by subst hH; exact hgo [] hS
  clear hS hH
  intro locs hS
  have hl := lv_entry ([.ref (ad 40)]) (n := 4) (Nat.le_of_ble_eq_true rfl)
  rw [lg_entry_eq]
  generalize (lg_sl ([.ref (ad 40)]) ++ List.replicate (4 - (lg_sl ([.ref (ad 40)])).length) Slot.unset).toArray = ls at hl ⊢
  have hl : lv_has ls 4 [(0, .ref (ad 40))] := hl
  unfold f_T_mix at hf
  refine lv_bipush (v := 10) hx hb dX5_mix_0 (by decide) ?_
  refine va_newa (atype := .int) (ty := .int) (N' := 10) (a0 := (10, .inl (fun _ => 0))) (D := (dC, dI)) (cl := vwCl) hx hb (hts (.arrayClass .int) (List.mem_cons_of_mem _ (List.mem_append_left _ (List.mem_append_left _ (List.mem_append_left _ (List.mem_append_left _ (List.mem_append_left _ (List.mem_append_left _ (List.mem_append_left _ (List.mem_append_left _ (List.mem_of_getElem? (i := 0) rfl))))))))))) rfl hK hP (hDD r I D K M) hS hA (fun cA => va_arr0 cA 10) (by decide) (by decide) (by decide) (Nat.le_of_ble_eq_true rfl) (Nat.le_of_ble_eq_true rfl) dX5_mix_2 (fun q_1 cA_2 H hKt hP hD hS => ?_)
  obtain rfl : cA_2 = cy 0 := cy_same hKt 0 rfl rfl
  obtain ⟨K_9, eK_9, hf⟩ := nm_out hf
  obtain ⟨ad_5, hM_6, hP, hAL_7, hE_3, hq_4⟩ := t_new (r1 := 10) (K1 := (va_up K 34 (fun _ => 0))) (M1 := M) (Or.inl rfl) (fun hk => (tL_lt hM.2.2.1 hM.2.2.2.1 hM.2.2.2.2.1 hk).1 rfl) (fun k hk => Or.inl hk) hM hP hD hbA (fun hk => absurd hk (fun hk => (tL_lt hM.2.2.1 hM.2.2.2.1 hM.2.2.2.2.1 hk).1 rfl)) (fun ad1 => (cellT_34 ad1 cy bS a b c d 10 _ _).trans (by rw [va_up_self])) (fun k hk => va_up_ne _ _ hk) (fun _ _ => rfl)
  have hF_10 : ∀ k ∈ tL a b c, ad_5 k = ad k := fun k hk => hE_3 k hk
  rw [← eK_9] at hP
  have hDD_8 : ∀ r I D K M, va_D A (iwT (tL a b c ++ [34]) ad_5 cy bS a b c d r I D K M) := fun r I D K M => iwT_D hM_6 hAL_7 I D K M
  have hl : lv_has ls 4 [(0, .ref (ad_5 40))] := by rw [hE_3 40 (tL_c (by decide))]; exact hl
  refine W.eq (g2 := F0 m 4 ls [.ref (ad_5 34)]) (by rw [hq_4]) ?_
  have e4_11 := (hE_3 40 (tL_c (by decide))).trans e40
  have e0_12 := (hE_3 0 (tL_H (by decide))).trans e00
  refine lv_astore_n (lv' := [(1, .ref (ad_5 34)), (0, .ref (ad_5 40))]) hx hb dX5_mix_4 rfl hl (by decide) rfl (fun ls hl => ?_)
  refine lv_aload_n hx hb dX5_mix_5 rfl (lv_at hl 1 rfl) ?_
  refine lv_aload_n hx hb dX5_mix_6 rfl (lv_at hl 1 rfl) ?_
  obtain ⟨q_13, wq_13, heq_13⟩ := heT_40 (L := (tL a b c ++ [34])) (ad := ad_5) (cy := cy) (bS := bS) (a := a) (b := b) (c := c) (d := d) (r := 10) (I := I) (D := D) (K := K_9) (M := M) hM_6
  refine va_get (D := (dC, dI)) (ci := 5) (v := .ref (ad_5 47)) (C := RX5) (T := TX5) (N := 11) hx hb hts iT_mix_RX5 hown hK hP q_13 heq_13 rfl 3 (by decide) (hts (.fieldLink RX5 18 "OverrunHouseLaw$Told" "ingredients" "[[I") (List.mem_cons_of_mem _ (List.mem_append_left _ (List.mem_append_left _ (List.mem_append_left _ (List.mem_append_left _ (List.mem_append_left _ (List.mem_append_left _ (List.mem_append_left _ (List.mem_append_left _ (List.mem_of_getElem? (i := 1) rfl))))))))))) (fun _ h9 => h9) rfl dX5_mix_7 ?_
  obtain ⟨q_14, wq_14, heq_14⟩ := heT_47 (L := (tL a b c ++ [34])) (ad := ad_5) (cy := cy) (bS := bS) (a := a) (b := b) (c := c) (d := d) (r := 10) (I := I) (D := D) (K := K_9) (M := M) hM_6
  refine va_alen (v := nI a) hx hb hK hP q_14 5 heq_14 rfl rfl dX5_mix_10 ?_
  obtain ⟨⟨r_15, K_17⟩, g_16, hf⟩ := bd_out hf
  have hAW : ∀ q, AT (tL a b c ++ [34]) ad_5 H.size q → A q := fun q h => h.elim (fun ⟨k, k1, k2⟩ => k2 ▸ hAL_7 k k1) (fun h => hA q (Nat.le_trans hS.1 h))
  obtain ⟨q_18, wq_18, heq_18⟩ := heT_40 (L := (tL a b c ++ [34])) (ad := ad_5) (cy := cy) (bS := bS) (a := a) (b := b) (c := c) (d := d) (r := 10) (I := I) (D := D) (K := K_9) (M := M) hM_6
  refine va_calli (va_runV (As := [.int (nI a)]) (rest := []) ⟨hx, hb, hml, hown, hts⟩ (mt_T_draw l dC dI (tL a b c ++ [34]) a b c d bS ad_5 cy hM_6 10 LS xs H.size I D K_9 M (nI a) r_15 K_17 g_16) (cwV 1 hts gX5_mix_X5_draw rfl rfl rfl (by decide +kernel) ⟨(Nat.le_of_ble_eq_true rfl), (Nat.le_of_ble_eq_true rfl)⟩) ⟨(tW.pre [.ref (ad_5 40), .int (nI a)] hP hK hN (hX0.kept (hS.2.1 bS hbl hbA))).1, tW.recv (C := RX5) (T := TX5) (N := 11) hP hK heq_18 rfl, (tW.pre [.ref (ad_5 40), .int (nI a)] hP hK hN (hX0.kept (hS.2.1 bS hbl hbA))).2⟩ rfl rfl hl.1 rfl (lv_room (Nat.le_of_ble_eq_true rfl)) dX5_mix_11 ⟨(Nat.le_of_ble_eq_true rfl), (Nat.le_of_ble_eq_true rfl)⟩) hS (fun q _ h => hAW q h) (fun q h => hAW q h) (fun r9 u t H1 locs ht hvm hw hB hz1 hk1 hS9 => ?_)
  subst hw
  have hP : va_P (dC, dI) vwCl (iwT (tL a b c ++ [34]) ad_5 cy bS a b c d 10 I D K_17 M) H1 := by rw [← ht]; exact hB.1
  have hS := hS9
  clear hB hz1 hk1 hvm ht hS9
  generalize H1 = H at hP hS ⊢
  refine lv_istore_n (lv' := [(2, .int r_15), (1, .ref (ad_5 34)), (0, .ref (ad_5 40))]) hx hb dX5_mix_14 rfl hl (by decide) rfl (fun ls hl => ?_)
  refine lv_aload_n hx hb dX5_mix_15 rfl (lv_at hl 1 rfl) ?_
  refine lv_iload_n hx hb dX5_mix_16 rfl (lv_at hl 0 rfl) ?_
  refine lv_bipush (v := 20) hx hb dX5_mix_17 (by decide) ?_
  refine lv_aload_n hx hb dX5_mix_19 rfl (lv_at hl 2 rfl) ?_
  refine lv_sipush (v := 150) hx hb dX5_mix_20 (by decide) ?_
  obtain ⟨⟨r_19, K_21⟩, g_20, hf⟩ := bd_out hf
  have hAW : ∀ q, AT (tL a b c ++ [34]) ad_5 H.size q → A q := fun q h => h.elim (fun ⟨k, k1, k2⟩ => k2 ▸ hAL_7 k k1) (fun h => hA q (Nat.le_trans hS.1 h))
  obtain ⟨q_22, wq_22, heq_22⟩ := heT_40 (L := (tL a b c ++ [34])) (ad := ad_5) (cy := cy) (bS := bS) (a := a) (b := b) (c := c) (d := d) (r := 10) (I := I) (D := D) (K := K_17) (M := M) hM_6
  refine va_calli (va_runV (As := [.int 150]) (rest := [.int 20, .int r_15, .ref (ad_5 34)]) ⟨hx, hb, hml, hown, hts⟩ (mt_T_draw l dC dI (tL a b c ++ [34]) a b c d bS ad_5 cy hM_6 10 LS xs H.size I D K_17 M 150 r_19 K_21 g_20) (cwV 1 hts gX5_mix_X5_draw rfl rfl rfl (by decide +kernel) ⟨(Nat.le_of_ble_eq_true rfl), (Nat.le_of_ble_eq_true rfl)⟩) ⟨(tW.pre [.ref (ad_5 40), .int 150] hP hK hN (hX0.kept (hS.2.1 bS hbl hbA))).1, tW.recv (C := RX5) (T := TX5) (N := 11) hP hK heq_22 rfl, (tW.pre [.ref (ad_5 40), .int 150] hP hK hN (hX0.kept (hS.2.1 bS hbl hbA))).2⟩ rfl rfl hl.1 rfl (lv_room (Nat.le_of_ble_eq_true rfl)) dX5_mix_23 ⟨(Nat.le_of_ble_eq_true rfl), (Nat.le_of_ble_eq_true rfl)⟩) hS (fun q _ h => hAW q h) (fun q h => hAW q h) (fun r9 u t H1 locs ht hvm hw hB hz1 hk1 hS9 => ?_)
  subst hw
  have hP : va_P (dC, dI) vwCl (iwT (tL a b c ++ [34]) ad_5 cy bS a b c d 10 I D K_21 M) H1 := by rw [← ht]; exact hB.1
  have hS := hS9
  clear hB hz1 hk1 hvm ht hS9
  generalize H1 = H at hP hS ⊢
  refine lv_iadd hx hb dX5_mix_26 ?_
  obtain ⟨q_23, wq_23, heq_23⟩ := heT_34 (L := (tL a b c ++ [34])) (ad := ad_5) (cy := cy) (bS := bS) (a := a) (b := b) (c := c) (d := d) (r := 10) (I := I) (D := D) (K := K_21) (M := M) (List.mem_append_right _ (by decide))
  obtain ⟨h_24, hf⟩ := ck_out hf
  obtain ⟨K_25, eK_25, hf⟩ := nm_out hf
  refine va_iast (n := 10) (f := K_21 34) hx hb hK hP (hDD_8 10 I D K_21 M) hS q_23 0 heq_23 rfl (inB_in h_24) dX5_mix_27 (fun H locs hP _ hS => ?_)
  have hP : va_P (dC, dI) vwCl (iwT (tL a b c ++ [34]) ad_5 cy bS a b c d 10 I D K_25 M) H := by rw [eK_25]; exact hqK hM_6 wq_23 (by decide) ((cellT_34 ad_5 cy bS a b c d 10 _ _).trans rfl) hP
  refine lv_aload_n hx hb dX5_mix_28 rfl (lv_at hl 1 rfl) ?_
  refine lv_bipush (v := 6) hx hb dX5_mix_29 (by decide) ?_
  refine lv_aload_n hx hb dX5_mix_31 rfl (lv_at hl 1 rfl) ?_
  refine lv_iload_n hx hb dX5_mix_32 rfl (lv_at hl 0 rfl) ?_
  obtain ⟨q_26, wq_26, heq_26⟩ := heT_34 (L := (tL a b c ++ [34])) (ad := ad_5) (cy := cy) (bS := bS) (a := a) (b := b) (c := c) (d := d) (r := 10) (I := I) (D := D) (K := K_25) (M := M) (List.mem_append_right _ (by decide))
  obtain ⟨h_27, hf⟩ := ck_out hf
  refine va_iald (n := 10) (f := K_25 34) hx hb hK hP q_26 0 heq_26 rfl (inB_in h_27) dX5_mix_33 ?_
  obtain ⟨q_28, wq_28, heq_28⟩ := heT_34 (L := (tL a b c ++ [34])) (ad := ad_5) (cy := cy) (bS := bS) (a := a) (b := b) (c := c) (d := d) (r := 10) (I := I) (D := D) (K := K_25) (M := M) (List.mem_append_right _ (by decide))
  obtain ⟨h_29, hf⟩ := ck_out hf
  obtain ⟨K_30, eK_30, hf⟩ := nm_out hf
  refine va_iast (n := 10) (f := K_25 34) hx hb hK hP (hDD_8 10 I D K_25 M) hS q_28 0 heq_28 rfl (inB_in h_29) dX5_mix_34 (fun H locs hP _ hS => ?_)
  have hP : va_P (dC, dI) vwCl (iwT (tL a b c ++ [34]) ad_5 cy bS a b c d 10 I D K_30 M) H := by rw [eK_30]; exact hqK hM_6 wq_28 (by decide) ((cellT_34 ad_5 cy bS a b c d 10 _ _).trans rfl) hP
  refine lv_aload_n hx hb dX5_mix_35 rfl (lv_at hl 2 rfl) ?_
  refine lv_aload_n hx hb dX5_mix_36 rfl (lv_at hl 2 rfl) ?_
  obtain ⟨q_31, wq_31, heq_31⟩ := heT_40 (L := (tL a b c ++ [34])) (ad := ad_5) (cy := cy) (bS := bS) (a := a) (b := b) (c := c) (d := d) (r := 10) (I := I) (D := D) (K := K_30) (M := M) hM_6
  refine va_get (D := (dC, dI)) (ci := 5) (v := .ref (ad_5 48)) (C := RX5) (T := TX5) (N := 11) hx hb hts iT_mix_RX5 hown hK hP q_31 heq_31 rfl 4 (by decide) (hts (.fieldLink RX5 22 "OverrunHouseLaw$Told" "mixes" "[[I") (List.mem_cons_of_mem _ (List.mem_append_left _ (List.mem_append_left _ (List.mem_append_left _ (List.mem_append_left _ (List.mem_append_left _ (List.mem_append_left _ (List.mem_append_left _ (List.mem_append_left _ (List.mem_of_getElem? (i := 2) rfl))))))))))) (fun _ h9 => h9) rfl dX5_mix_37 ?_
  refine lv_aload_n hx hb dX5_mix_40 rfl (lv_at hl 1 rfl) ?_
  obtain ⟨h_33, hf⟩ := ck_out hf
  obtain ⟨K_34, eK_34, hf⟩ := nm_out hf
  have hPp := plus_M hM_6 hP
  refine va_callr (va_runS (As := [.ref (ad_5 48), .ref (ad_5 34)]) (rest := [.ref (ad_5 40)]) ⟨hx, hb, hml, hown, hts⟩ (mt_X5_plus l dC dI cy (ad_5 48) (ad_5 34) b 10 _ _ H.size (by have := hM_6.2.2; omega)) (va_cwS 2 hts gX5_mix_X5_plus rfl rfl rfl (by decide +kernel) ⟨(Nat.le_of_ble_eq_true rfl), (Nat.le_of_ble_eq_true rfl)⟩) (pW_pre hPp.1 hPp.2 hK hN.2) rfl rfl hl.1 rfl (lv_room (Nat.le_of_ble_eq_true rfl)) dX5_mix_41 ⟨(Nat.le_of_ble_eq_true rfl), (Nat.le_of_ble_eq_true rfl)⟩) hS (fun q _ h => hA q (Nat.le_trans hS.1 h)) (fun q h => hA q (Nat.le_trans hS.1 h)) (fun u rp_32 t H1 locs ht hvm hw hB hz1 hk1 hS9 => ?_)
  obtain ⟨hB1, hB2⟩ := hB
  rw [ht] at hB2
  have hDj := va_Djn (hDD_8 10 I D K_30 M) hP hB2 (hA rp_32 (Nat.le_trans hS.1 hB1)) hB1
  have hP := (va_Pnew hP hk1).app hB2
  have hS := hS9
  clear hB1 hB2 hz1 hk1 hvm ht hS9 hPp
  generalize H1 = H at hP hS ⊢
  obtain ⟨q_35, wq_35, heq_35⟩ := heT_40 (L := (tL a b c ++ [34])) (ad := ad_5) (cy := cy) (bS := bS) (a := a) (b := b) (c := c) (d := d) (r := 10) (I := I) (D := D) (K := K_30) (M := M) hM_6
  have hjq_35 := va_appL (ys := [(rp_32, .inl (cy 5, b + 1, .inr (.inr (.inr (.inr (fun j => if j < b then (if j < b then some (ad_5 (60 + j)) else none) else if j = b then some (ad_5 34) else none))))))]) heq_35
  refine va_put (D := (dC, dI)) (ci := 5) (v := .ref rp_32) (ty := .array (.array .int)) (C := RX5) (T := TX5) (N := 11) hx hb hts iT_mix_RX5 tyX5 tyX5_ok nmX5 hown hK hP hDj hS q_35 hjq_35 rfl 4 (by decide) (hts (.fieldLink RX5 22 "OverrunHouseLaw$Told" "mixes" "[[I") (List.mem_cons_of_mem _ (List.mem_append_left _ (List.mem_append_left _ (List.mem_append_left _ (List.mem_append_left _ (List.mem_append_left _ (List.mem_append_left _ (List.mem_append_left _ (List.mem_append_left _ (List.mem_of_getElem? (i := 2) rfl))))))))))) (fun _ h9 => h9) rfl (by decide +kernel) rfl rfl (Nat.le_of_ble_eq_true rfl) dX5_mix_44 (fun H locs hP hD hS => ?_)
  obtain ⟨ad_36, hM_37, hP, hAL_38, e4_40, e0_41, eR_42, -⟩ := t_plus_M (of_decide_eq_true h_33) hM_6 wq_35 hP hD (fun j hj => plus_fn hj) hbA r
  have e4_43 := e4_40.trans e4_11
  have e0_44 := e0_41.trans e0_12
  rw [← eK_34] at hP
  have hDD_39 : ∀ r I D K M, va_D A (iwT (tL a (b + 1) c) ad_36 cy bS a (b + 1) c d r I D K M) := fun r I D K M => iwT_D hM_37 hAL_38 I D K M
  have hl : lv_has ls 4 [(2, .int r_15), (1, .ref (ad_36 (60 + b))), (0, .ref (ad_36 40))] := by rw [eR_42, e4_40]; exact lv_sub hl [0, 1, 2] rfl
  refine lv_aload_n hx hb dX5_mix_47 rfl (lv_at hl 2 rfl) ?_
  obtain ⟨q_45, wq_45, heq_45⟩ := heT_40 (L := (tL a (b + 1) c)) (ad := ad_36) (cy := cy) (bS := bS) (a := a) (b := (b + 1)) (c := c) (d := d) (r := r) (I := I) (D := D) (K := K_34) (M := M) hM_37
  refine va_get (D := (dC, dI)) (ci := 5) (v := .ref (ad_36 0)) (C := RX5) (T := TX5) (N := 11) hx hb hts iT_mix_RX5 hown hK hP q_45 heq_45 rfl 0 (by decide) (hts (.fieldLink RX5 10 "OverrunHouseLaw$Told" "m" "LOverrunHouse;") (List.mem_cons_of_mem _ (List.mem_append_left _ (List.mem_append_left _ (List.mem_append_left _ (List.mem_append_left _ (List.mem_append_left _ (List.mem_append_left _ (List.mem_append_left _ (List.mem_append_left _ (List.mem_of_getElem? (i := 3) rfl))))))))))) (fun _ h9 => h9) rfl dX5_mix_48 ?_
  refine lv_iload_n hx hb dX5_mix_51 rfl (lv_at hl 0 rfl) ?_
  refine lv_aload_n hx hb dX5_mix_52 rfl (lv_at hl 1 rfl) ?_
  refine lv_iload_n hx hb dX5_mix_53 rfl (lv_at hl 0 rfl) ?_
  obtain ⟨q_46, wq_46, heq_46⟩ := heT_Mixr (L := (tL a (b + 1) c)) (ad := ad_36) (cy := cy) (bS := bS) (a := a) (b := (b + 1)) (c := c) (d := d) (r := r) (I := I) (D := D) (K := K_34) (M := M) hM_37 (Nat.lt_succ_self b)
  obtain ⟨h_47, hf⟩ := ck_out hf
  refine va_iald (n := 10) (f := K_34 (60 + b)) hx hb hK hP q_46 0 heq_46 rfl (inB_in h_47) dX5_mix_54 ?_
  obtain ⟨⟨r_48, I_50, D_51⟩, g_49, hf⟩ := bd_out hf
  have hPH := iwT_H hM_37 hP
  have hAW : ∀ q, AW ad_36 H.size q → A q := fun q h => h.elim (fun ⟨k, k1, k2⟩ => k2 ▸ hAL_38 k (hM_37.1.2.1 _ (tL_H k1))) (fun h => hA q (Nat.le_trans hS.1 h))
  refine va_calli (va_runV (As := [.int r_15, .int (K_34 (60 + b) (r_15).toNatClampNeg)]) (rest := []) ⟨hx, hb, hml, hown, hts⟩ (mt_X4_mix l dC dI ad_36 cy hM_37.J H.size I D r_15 (K_34 (60 + b) (r_15).toNatClampNeg) r_48 I_50 D_51 (eO_out g_49)) (cwV 2 hts gX5_mix_X4_mix rfl rfl rfl (by decide +kernel) ⟨(Nat.le_of_ble_eq_true rfl), (Nat.le_of_ble_eq_true rfl)⟩) ⟨(hW.pre [.ref (ad_36 0), .int r_15, .int (K_34 (60 + b) (r_15).toNatClampNeg)] hPH hK hN.1).1, hW.recv (C := RX4) (T := TX4) (N := 14) hPH hK heH_0 rfl, (hW.pre [.ref (ad_36 0), .int r_15, .int (K_34 (60 + b) (r_15).toNatClampNeg)] hPH hK hN.1).2⟩ rfl rfl hl.1 rfl (lv_room (Nat.le_of_ble_eq_true rfl)) dX5_mix_55 ⟨(Nat.le_of_ble_eq_true rfl), (Nat.le_of_ble_eq_true rfl)⟩) hS (fun q _ h => hAW q h) (fun q h => hAW q h) (fun r9 u t H1 locs ht hvm hw hB hz1 hk1 hS9 => ?_)
  subst hw
  have hP : va_P (dC, dI) vwCl (iwT (tL a (b + 1) c) ad_36 cy bS a (b + 1) c d r I_50 D_51 K_34 M) H1 := iwT_join hM_37 hP (by rw [← ht]; exact hB.1) hk1
  have hS := hS9
  clear hB hz1 hk1 hvm ht hS9
  generalize H1 = H at hP hS ⊢
  refine lv_aload_n hx hb dX5_mix_58 rfl (lv_at hl 2 rfl) ?_
  obtain ⟨q_52, wq_52, heq_52⟩ := heT_40 (L := (tL a (b + 1) c)) (ad := ad_36) (cy := cy) (bS := bS) (a := a) (b := (b + 1)) (c := c) (d := d) (r := r) (I := I_50) (D := D_51) (K := K_34) (M := M) hM_37
  refine va_get (D := (dC, dI)) (ci := 5) (v := .ref (ad_36 48)) (C := RX5) (T := TX5) (N := 11) hx hb hts iT_mix_RX5 hown hK hP q_52 heq_52 rfl 4 (by decide) (hts (.fieldLink RX5 22 "OverrunHouseLaw$Told" "mixes" "[[I") (List.mem_cons_of_mem _ (List.mem_append_left _ (List.mem_append_left _ (List.mem_append_left _ (List.mem_append_left _ (List.mem_append_left _ (List.mem_append_left _ (List.mem_append_left _ (List.mem_append_left _ (List.mem_of_getElem? (i := 2) rfl))))))))))) (fun _ h9 => h9) rfl dX5_mix_59 ?_
  obtain ⟨q_53, wq_53, heq_53⟩ := heT_48 (L := (tL a (b + 1) c)) (ad := ad_36) (cy := cy) (bS := bS) (a := a) (b := (b + 1)) (c := c) (d := d) (r := r) (I := I_50) (D := D_51) (K := K_34) (M := M) hM_37
  refine va_alen (v := nI (b + 1)) hx hb hK hP q_53 5 heq_53 rfl rfl dX5_mix_62 ?_
  refine lv_iconst (v := 1) hx hb dX5_mix_63 (by decide) ?_
  refine lv_isub hx hb dX5_mix_64 ?_
  refine lv_icmp_eq (tgt := 70) hx hb dX5_mix_65 (by decide) (fun c_54 => ?_) (fun c_54 => ?_)
  · have hf := it_t hf c_54
    refine lv_aload_n hx hb dX5_mix_70 rfl (lv_at hl 2 rfl) ?_
    refine lv_iconst (v := 3) hx hb dX5_mix_71 (by decide) ?_
    obtain ⟨⟨r_55, K_57⟩, g_56, hf⟩ := bd_out hf
    have hAW : ∀ q, AT (tL a (b + 1) c) ad_36 H.size q → A q := fun q h => h.elim (fun ⟨k, k1, k2⟩ => k2 ▸ hAL_38 k k1) (fun h => hA q (Nat.le_trans hS.1 h))
    obtain ⟨q_58, wq_58, heq_58⟩ := heT_40 (L := (tL a (b + 1) c)) (ad := ad_36) (cy := cy) (bS := bS) (a := a) (b := (b + 1)) (c := c) (d := d) (r := r) (I := I_50) (D := D_51) (K := K_34) (M := M) hM_37
    refine va_calli (va_runV (As := [.int 3]) (rest := []) ⟨hx, hb, hml, hown, hts⟩ (mt_T_draw l dC dI (tL a (b + 1) c) a (b + 1) c d bS ad_36 cy hM_37 r LS xs H.size I_50 D_51 K_34 M 3 r_55 K_57 g_56) (cwV 1 hts gX5_mix_X5_draw rfl rfl rfl (by decide +kernel) ⟨(Nat.le_of_ble_eq_true rfl), (Nat.le_of_ble_eq_true rfl)⟩) ⟨(tW.pre [.ref (ad_36 40), .int 3] hP hK hN (hX0.kept (hS.2.1 bS hbl hbA))).1, tW.recv (C := RX5) (T := TX5) (N := 11) hP hK heq_58 rfl, (tW.pre [.ref (ad_36 40), .int 3] hP hK hN (hX0.kept (hS.2.1 bS hbl hbA))).2⟩ rfl rfl hl.1 rfl (lv_room (Nat.le_of_ble_eq_true rfl)) dX5_mix_72 ⟨(Nat.le_of_ble_eq_true rfl), (Nat.le_of_ble_eq_true rfl)⟩) hS (fun q _ h => hAW q h) (fun q h => hAW q h) (fun r9 u t H1 locs ht hvm hw hB hz1 hk1 hS9 => ?_)
    subst hw
    have hP : va_P (dC, dI) vwCl (iwT (tL a (b + 1) c) ad_36 cy bS a (b + 1) c d r I_50 D_51 K_57 M) H1 := by rw [← ht]; exact hB.1
    have hS := hS9
    clear hB hz1 hk1 hvm ht hS9
    generalize H1 = H at hP hS ⊢
    refine lv_istore_n (lv' := [(3, .int r_55), (2, .int r_15), (1, .ref (ad_36 (60 + b))), (0, .ref (ad_36 40))]) hx hb dX5_mix_75 rfl hl (by decide) rfl (fun ls hl => ?_)
    have L76 : ∀ (n76 : Nat) (x3_76 : Int32) (I_L76 : Nat → Nat → Int32) (D_L76 : Nat → Nat → UInt64) (K_L76 : Nat → Nat → Int32), f_T_mix_L76 LS xs a b c d M n76 x3_76 I_L76 D_L76 K_L76 = some (rr, a9, b9, c9, d9, I9, D9, K9) → ∀ (H : Heap) (locs : List Loc) (ls : Array Slot), va_P (dC, dI) vwCl (iwT (tL a (b + 1) c) ad_36 cy bS a (b + 1) c d r I_L76 D_L76 K_L76 M) H → va_S A s.heap H locs → lv_has ls 4 [(3, .int x3_76), (2, .int r_15), (1, .ref (ad_36 (60 + b))), (0, .ref (ad_36 40))] → W p l e (headSpec wsX5_mix ({ frames := 4, cells := 2, slots := 26, locals := 112 })).room s m ([.ref (ad 40)] : List Value).toArray below meth cX H locs 2 26 (MQ below (va_Qi (fun r (_ : Unit) => rr = r) (fun _ t => ∃ ad1 : Nat → Nat, tOK (tL a9 b9 c9) a9 b9 c9 d9 bS ad1 ∧ tX (tL a b c) (tL a9 b9 c9) ad ad1 s.heap.size ∧ tW dC dI (tL a9 b9 c9) ad1 cy bS a9 b9 c9 d9 r LS xs I9 D9 K9 M t) A) ([.ref (ad 40)] : List Value).toArray s 2 26 A) (F0 m 76 ls []) := by
      intro n76
      induction n76 with
      | zero => intro x3_76 I_L76 D_L76 K_L76 hf; exact nomatch hf
      | succ n76 ih76 =>
        intro x3_76 I_L76 D_L76 K_L76 hf H locs ls hP hS hl
        unfold f_T_mix_L76 at hf
        refine lv_iload_n hx hb dX5_mix_76 rfl (lv_at hl 0 rfl) ?_
        refine lv_if_le (tgt := 102) hx hb dX5_mix_77 (by decide) (fun c_59 => ?_) (fun c_59 => ?_)
        · have hf := it_t hf c_59
          refine lv_iconst (v := 1) hx hb dX5_mix_102 (by decide) ?_
          have hf := Option.some.inj hf
          obtain ⟨q1, hf⟩ := Prod.mk.inj hf
          obtain ⟨ga, hf⟩ := Prod.mk.inj hf
          obtain ⟨gb, hf⟩ := Prod.mk.inj hf
          obtain ⟨gc, hf⟩ := Prod.mk.inj hf
          obtain ⟨gd, hf⟩ := Prod.mk.inj hf
          obtain ⟨qI, hf⟩ := Prod.mk.inj hf
          obtain ⟨qD, qK⟩ := Prod.mk.inj hf
          exact W.zret (ty := .boolean) (v := 1) hx hb hr rfl (fun t ht hW9 => ⟨⟨1, (), rfl, q1.symm, (by rw [← ga, ← gb, ← gc, ← gd, ← qI, ← qD, ← qK]; exact ⟨ad_36, hM_37, ⟨fun k hk => by rw [hAe]; exact hAL_38 k hk, e4_43, e0_44⟩, tW.of hP hK hN (hX0.kept (hS.2.1 bS hbl hbA)) ht hW9⟩)⟩, hS.F ht⟩) hS.2.2 dX5_mix_103
        · have hf := it_f hf c_59
          refine lv_aload_n hx hb dX5_mix_80 rfl (lv_at hl 3 rfl) ?_
          refine lv_aload_n hx hb dX5_mix_81 rfl (lv_at hl 3 rfl) ?_
          obtain ⟨q_60, wq_60, heq_60⟩ := heT_40 (L := (tL a (b + 1) c)) (ad := ad_36) (cy := cy) (bS := bS) (a := a) (b := (b + 1)) (c := c) (d := d) (r := r) (I := I_L76) (D := D_L76) (K := K_L76) (M := M) hM_37
          refine va_get (D := (dC, dI)) (ci := 5) (v := .ref (ad_36 48)) (C := RX5) (T := TX5) (N := 11) hx hb hts iT_mix_RX5 hown hK hP q_60 heq_60 rfl 4 (by decide) (hts (.fieldLink RX5 22 "OverrunHouseLaw$Told" "mixes" "[[I") (List.mem_cons_of_mem _ (List.mem_append_left _ (List.mem_append_left _ (List.mem_append_left _ (List.mem_append_left _ (List.mem_append_left _ (List.mem_append_left _ (List.mem_append_left _ (List.mem_append_left _ (List.mem_of_getElem? (i := 2) rfl))))))))))) (fun _ h9 => h9) rfl dX5_mix_82 ?_
          obtain ⟨q_61, wq_61, heq_61⟩ := heT_48 (L := (tL a (b + 1) c)) (ad := ad_36) (cy := cy) (bS := bS) (a := a) (b := (b + 1)) (c := c) (d := d) (r := r) (I := I_L76) (D := D_L76) (K := K_L76) (M := M) hM_37
          refine va_alen (v := nI (b + 1)) hx hb hK hP q_61 5 heq_61 rfl rfl dX5_mix_85 ?_
          refine lv_iconst (v := 1) hx hb dX5_mix_86 (by decide) ?_
          refine lv_isub hx hb dX5_mix_87 ?_
          obtain ⟨⟨r_62, I_64, D_65, K_66⟩, g_63, hf⟩ := bd_out hf
          have hAW : ∀ q, AT (tL a (b + 1) c) ad_36 H.size q → A q := fun q h => h.elim (fun ⟨k, k1, k2⟩ => k2 ▸ hAL_38 k k1) (fun h => hA q (Nat.le_trans hS.1 h))
          obtain ⟨q_67, wq_67, heq_67⟩ := heT_40 (L := (tL a (b + 1) c)) (ad := ad_36) (cy := cy) (bS := bS) (a := a) (b := (b + 1)) (c := c) (d := d) (r := r) (I := I_L76) (D := D_L76) (K := K_L76) (M := M) hM_37
          refine va_calli (va_runV (As := [.int ((nI (b + 1)) - 1)]) (rest := []) ⟨hx, hb, hml, hown, hts⟩ (mt_T_put l dC dI (tL a (b + 1) c) a (b + 1) c d bS ad_36 cy hM_37 r LS xs H.size I_L76 D_L76 K_L76 M ((nI (b + 1)) - 1) r_62 I_64 D_65 K_66 g_63) (cwV 1 hts gX5_mix_X5_put rfl rfl rfl (by decide +kernel) ⟨(Nat.le_of_ble_eq_true rfl), (Nat.le_of_ble_eq_true rfl)⟩) ⟨(tW.pre [.ref (ad_36 40), .int ((nI (b + 1)) - 1)] hP hK hN (hX0.kept (hS.2.1 bS hbl hbA))).1, tW.recv (C := RX5) (T := TX5) (N := 11) hP hK heq_67 rfl, (tW.pre [.ref (ad_36 40), .int ((nI (b + 1)) - 1)] hP hK hN (hX0.kept (hS.2.1 bS hbl hbA))).2⟩ rfl rfl hl.1 rfl (lv_room (Nat.le_of_ble_eq_true rfl)) dX5_mix_88 ⟨(Nat.le_of_ble_eq_true rfl), (Nat.le_of_ble_eq_true rfl)⟩) hS (fun q _ h => hAW q h) (fun q h => hAW q h) (fun r9 u t H1 locs ht hvm hw hB hz1 hk1 hS9 => ?_)
          subst hw
          have hP : va_P (dC, dI) vwCl (iwT (tL a (b + 1) c) ad_36 cy bS a (b + 1) c d r I_64 D_65 K_66 M) H1 := by rw [← ht]; exact hB.1
          have hS := hS9
          clear hB hz1 hk1 hvm ht hS9
          generalize H1 = H at hP hS ⊢
          refine lv_if_ne (tgt := 96) hx hb dX5_mix_91 (by decide) (fun c_68 => ?_) (fun c_68 => ?_)
          · have hf := it_f hf c_68
            refine lv_iinc (v := (x3_76 + (-1))) (lv' := [(3, .int (x3_76 + (-1))), (2, .int r_15), (1, .ref (ad_36 (60 + b))), (0, .ref (ad_36 40))]) hx hb dX5_mix_96 hl (k := 0) rfl rfl (by decide) rfl (fun ls hl => ?_)
            refine lv_goto (tgt := 76) hx hb dX5_mix_99 (by decide) ?_
            exact ih76 (x3_76 + (-1)) I_64 D_65 K_66 hf _ _ _ hP hS (lv_sub hl [0, 1, 2, 3] rfl)
          · have hf := it_t hf c_68
            refine lv_iconst (v := 0) hx hb dX5_mix_94 (by decide) ?_
            have hf := Option.some.inj hf
            obtain ⟨q1, hf⟩ := Prod.mk.inj hf
            obtain ⟨ga, hf⟩ := Prod.mk.inj hf
            obtain ⟨gb, hf⟩ := Prod.mk.inj hf
            obtain ⟨gc, hf⟩ := Prod.mk.inj hf
            obtain ⟨gd, hf⟩ := Prod.mk.inj hf
            obtain ⟨qI, hf⟩ := Prod.mk.inj hf
            obtain ⟨qD, qK⟩ := Prod.mk.inj hf
            exact W.zret (ty := .boolean) (v := 0) hx hb hr rfl (fun t ht hW9 => ⟨⟨0, (), rfl, q1.symm, (by rw [← ga, ← gb, ← gc, ← gd, ← qI, ← qD, ← qK]; exact ⟨ad_36, hM_37, ⟨fun k hk => by rw [hAe]; exact hAL_38 k hk, e4_43, e0_44⟩, tW.of hP hK hN (hX0.kept (hS.2.1 bS hbl hbA)) ht hW9⟩)⟩, hS.F ht⟩) hS.2.2 dX5_mix_95
    exact L76 200 r_55 I_50 D_51 K_57 hf _ _ _ hP hS (lv_sub hl [0, 1, 2, 3] rfl)
  · have hf := it_f hf c_54
    refine lv_iconst (v := 0) hx hb dX5_mix_68 (by decide) ?_
    have hf := Option.some.inj hf
    obtain ⟨q1, hf⟩ := Prod.mk.inj hf
    obtain ⟨ga, hf⟩ := Prod.mk.inj hf
    obtain ⟨gb, hf⟩ := Prod.mk.inj hf
    obtain ⟨gc, hf⟩ := Prod.mk.inj hf
    obtain ⟨gd, hf⟩ := Prod.mk.inj hf
    obtain ⟨qI, hf⟩ := Prod.mk.inj hf
    obtain ⟨qD, qK⟩ := Prod.mk.inj hf
    exact W.zret (ty := .boolean) (v := 0) hx hb hr rfl (fun t ht hW9 => ⟨⟨0, (), rfl, q1.symm, (by rw [← ga, ← gb, ← gc, ← gd, ← qI, ← qD, ← qK]; exact ⟨ad_36, hM_37, ⟨fun k hk => by rw [hAe]; exact hAL_38 k hk, e4_43, e0_44⟩, tW.of hP hK hN (hX0.kept (hS.2.1 bS hbl hbA)) ht hW9⟩)⟩, hS.F ht⟩) hS.2.2 dX5_mix_69

def f_T_run (LS : Nat) (xs : Nat → Int32) (a b c d : Nat) (I : Nat → Nat → Int32) (D : Nat → Nat → UInt64) (K : Nat → Nat → Int32) (M : Nat → Nat → UInt64) : Option (Int32 × Nat × Nat × Nat × Nat × (Nat → Nat → Int32) × (Nat → Nat → UInt64) × (Nat → Nat → Int32) × (Nat → Nat → UInt64)) :=
  bd (f_T_draw LS xs a b c d I D K M 2) (fun (r_1, K_3) => bd (f_T_draw LS xs a b c d I D K_3 M (nI b)) (fun (r_7, K_9) => bd (f_T_draw LS xs a b c d I D K_9 M 30) (fun (r_11, K_13) => bd (f_T_draw LS xs a b c d I D K_13 M 121) (fun (r_15, K_17) => bd (f_T_bars LS xs a b c d I D K_17 M r_1 r_7 (5 + r_11) (20 + r_15)) (fun r_19 => bd (eO (f_X4_bars I D r_1 r_7 (5 + r_11) (20 + r_15))) (fun r_23 => (if r_23 = r_19 then (if r_19 ≤ 0 then ck (inB r_7 b) (ck (inB 6 10) (ck (inB 6 10) (nm (up2 K_17 (60 + (r_7).toNatClampNeg) (6 : Int32).toNatClampNeg ((K_17 (60 + (r_7).toNatClampNeg) (6 : Int32).toNatClampNeg) - (5 + r_11))) (fun K_34 => ck (inB r_7 b) (ck (inB 9 10) (ck (inB 9 10) (nm (up2 K_34 (60 + (r_7).toNatClampNeg) (9 : Int32).toNatClampNeg ((K_34 (60 + (r_7).toNatClampNeg) (9 : Int32).toNatClampNeg) + 1)) (fun K_42 => bd (f_T_harms LS xs a b c d I D K_42 M r_7) (fun r_44 => ck (inB r_1 2) (nm (up2 K_42 44 (r_1).toNatClampNeg r_44) (fun K_49 => ck (inB (nI c) 12) (nm (up2 M 42 ((nI c)).toNatClampNeg (4626322717216342016 : UInt64)) (fun M_55 => nm (va_up K_49 34 (fun _ => 0)) (fun K_65 => ck (inB 0 4) (nm (up2 K_65 34 (0 : Int32).toNatClampNeg r_7) (fun K_71 => ck (inB 1 4) (nm (up2 K_71 34 (1 : Int32).toNatClampNeg ((((5 + r_11) - 2) * (100 + (20 + r_15))) / 100)) (fun K_74 => ck (inB 2 4) (nm (up2 K_74 34 (2 : Int32).toNatClampNeg 0) (fun K_77 => ck (inB 3 4) (nm (up2 K_77 34 (3 : Int32).toNatClampNeg (-1)) (fun K_80 => ck (decide (c < 12)) (nm (va_up K_80 (70 + c) (K_80 34)) (fun K_83 => bd (eO (f_X4_run I D r_1 r_7 (5 + r_11) (20 + r_15))) (fun (r_95, I_97, D_98) => (if r_95 = ((nI (c + 1)) - 1) then some (1, a, b, (c + 1), d, I_97, D_98, K_83, M_55) else some (0, a, b, (c + 1), d, I_97, D_98, K_83, M_55))))))))))))))))))))))))))) else bd (eO (f_X4_run I D r_1 r_7 (5 + r_11) (20 + r_15))) (fun (r_103, I_105, D_106) => (if r_103 = ((-10) - r_19) then some (1, a, b, c, d, I_105, D_106, K_17, M) else some (0, a, b, c, d, I_105, D_106, K_17, M)))) else some (0, a, b, c, d, I, D, K_17, M))))))))
theorem iT_run_RX5 : ∀ w ∈ u_ws RX5 TX5 11, w ∈ wsX5_run := fun w h => List.mem_cons_of_mem _ (List.mem_append_left _ (List.mem_append_left _ (List.mem_append_left _ (List.mem_append_left _ (List.mem_append_left _ (List.mem_append_right _ (h)))))))
set_option maxHeartbeats 4000000 in
set_option maxRecDepth 100000 in
theorem mt_T_run (l : Launch) (dC : Nat → ClassId) (dI : Nat → Nat → Nat) (a b c d bS : Nat) (ad : Nat → Nat) (cy : Nat → ClassId) (hM : tOK (tL a b c) a b c d bS ad) (r LS : Nat) (xs : Nat → Int32) (sz : Nat) (I : Nat → Nat → Int32) (D : Nat → Nat → UInt64) (K : Nat → Nat → Int32) (M : Nat → Nat → UInt64) (rr : Int32) (a9 : Nat) (b9 : Nat) (c9 : Nat) (d9 : Nat) (I9 : Nat → Nat → Int32) (D9 : Nat → Nat → UInt64) (K9 : Nat → Nat → Int32) (M9 : Nat → Nat → UInt64) (hf : f_T_run LS xs a b c d I D K M = some (rr, a9, b9, c9, d9, I9, D9, K9, M9)) : Met l yX5_run wsX5_run ({ frames := 4, cells := 2, slots := 20, locals := 112 }) (va_Pc [.ref (ad 40)] (fun U => U.heap.size = sz ∧ tW dC dI (tL a b c) ad cy bS a b c d r LS xs I D K M U)) (va_Qi (fun r (_ : Unit) => rr = r) (fun _ t => ∃ ad1 : Nat → Nat, tOK (tL a9 b9 c9) a9 b9 c9 d9 bS ad1 ∧ tX (tL a b c) (tL a9 b9 c9) ad ad1 sz ∧ tW dC dI (tL a9 b9 c9) ad1 cy bS a9 b9 c9 d9 r LS xs I9 D9 K9 M9 t) (AT (tL a b c) ad sz)) 2 20 (AT (tL a b c) ad sz) := by
  refine Met.ofW (cc := cX5_run) (maxL := 6) (ret := (some .boolean)) (by decide) rfl ?_
  intro p e s m args below meth cX s₁ B hml hv
  obtain ⟨rfl, hsz, hP, hK, hN, hX0⟩ := hv
  have hx := B.exec
  have hb := B.bytes
  have hr := B.returns
  have hts := atoms_spec (ws := wsX5_run) B.pre
  have hown : s.vm.findClass RX5 = some m.cls := findClass_of_methodNamed B.named
  have hlocks := B.notSynchronized
  subst hsz
  have hbl : bS < s.heap.size := by obtain ⟨scr, h, -⟩ := hX0; exact (Array.getElem?_eq_some_iff.mp h).1
  generalize hAe : AT (tL a b c) ad s.heap.size = A
  have hA : ∀ q : Nat, s.heap.size ≤ q → A q := fun q h => by rw [← hAe]; exact Or.inr h
  have hAL : ∀ k, k ∈ (tL a b c) → A (ad k) := fun k h => by rw [← hAe]; exact Or.inl ⟨k, h, rfl⟩
  have hDD : ∀ r I D K M, va_D A (iwT (tL a b c) ad cy bS a b c d r I D K M) := fun r I D K M => iwT_D hM hAL I D K M
  have hbA : ¬ A bS := fun h => by rw [← hAe] at h; exact h.elim (fun ⟨k, k1, k2⟩ => hM.2.1 k k1 k2) (fun h => Nat.lt_irrefl _ (Nat.lt_of_lt_of_le hbl h))
  have e40 : ad 40 = ad 40 := rfl
  have e00 : ad 0 = ad 0 := rfl
  obtain ⟨H, hH⟩ : ∃ H : Heap, H = s.heap := ⟨_, rfl⟩
  have hS : va_S A s.heap H [] := by rw [hH]; exact va_S.rf
  have hP : va_P (dC, dI) vwCl (iwT (tL a b c) ad cy bS a b c d r I D K M) H := by rw [hH]; exact hP
  suffices hgo : ∀ locs, va_S A s.heap H locs → W p l e (headSpec wsX5_run ({ frames := 4, cells := 2, slots := 20, locals := 112 })).room s m ([.ref (ad 40)] : List Value).toArray below meth cX H locs 0 0 (MQ below (va_Qi (fun r (_ : Unit) => rr = r) (fun _ t => ∃ ad1 : Nat → Nat, tOK (tL a9 b9 c9) a9 b9 c9 d9 bS ad1 ∧ tX (tL a b c) (tL a9 b9 c9) ad ad1 s.heap.size ∧ tW dC dI (tL a9 b9 c9) ad1 cy bS a9 b9 c9 d9 r LS xs I9 D9 K9 M9 t) A) ([.ref (ad 40)] : List Value).toArray s 2 20 A) (entryFrame m ([.ref (ad 40)] : List Value).toArray 6) by subst hH; exact hgo [] hS
  clear hS hH
  intro locs hS
  have hl := lv_entry ([.ref (ad 40)]) (n := 6) (Nat.le_of_ble_eq_true rfl)
  rw [lg_entry_eq]
  generalize (lg_sl ([.ref (ad 40)]) ++ List.replicate (6 - (lg_sl ([.ref (ad 40)])).length) Slot.unset).toArray = ls at hl ⊢
  have hl : lv_has ls 6 [(0, .ref (ad 40))] := hl
  unfold f_T_run at hf
  refine lv_aload_n hx hb dX5_run_0 rfl (lv_at hl 0 rfl) ?_
  refine lv_iconst (v := 2) hx hb dX5_run_1 (by decide) ?_
  obtain ⟨⟨r_1, K_3⟩, g_2, hf⟩ := bd_out hf
  have hAW : ∀ q, AT (tL a b c) ad H.size q → A q := fun q h => h.elim (fun ⟨k, k1, k2⟩ => k2 ▸ hAL k k1) (fun h => hA q (Nat.le_trans hS.1 h))
  obtain ⟨q_4, wq_4, heq_4⟩ := heT_40 (L := (tL a b c)) (ad := ad) (cy := cy) (bS := bS) (a := a) (b := b) (c := c) (d := d) (r := r) (I := I) (D := D) (K := K) (M := M) hM
  refine va_calli (va_runV (As := [.int 2]) (rest := []) ⟨hx, hb, hml, hown, hts⟩ (mt_T_draw l dC dI (tL a b c) a b c d bS ad cy hM r LS xs H.size I D K M 2 r_1 K_3 g_2) (cwV 1 hts gX5_run_X5_draw rfl rfl rfl (by decide +kernel) ⟨(Nat.le_of_ble_eq_true rfl), (Nat.le_of_ble_eq_true rfl)⟩) ⟨(tW.pre [.ref (ad 40), .int 2] hP hK hN (hX0.kept (hS.2.1 bS hbl hbA))).1, tW.recv (C := RX5) (T := TX5) (N := 11) hP hK heq_4 rfl, (tW.pre [.ref (ad 40), .int 2] hP hK hN (hX0.kept (hS.2.1 bS hbl hbA))).2⟩ rfl rfl hl.1 rfl (lv_room (Nat.le_of_ble_eq_true rfl)) dX5_run_2 ⟨(Nat.le_of_ble_eq_true rfl), (Nat.le_of_ble_eq_true rfl)⟩) hS (fun q _ h => hAW q h) (fun q h => hAW q h) (fun r9 u t H1 locs ht hvm hw hB hz1 hk1 hS9 => ?_)
  subst hw
  have hP : va_P (dC, dI) vwCl (iwT (tL a b c) ad cy bS a b c d r I D K_3 M) H1 := by rw [← ht]; exact hB.1
  have hS := hS9
  clear hB hz1 hk1 hvm ht hS9
  generalize H1 = H at hP hS ⊢
  refine lv_istore_n (lv' := [(1, .int r_1), (0, .ref (ad 40))]) hx hb dX5_run_5 rfl hl (by decide) rfl (fun ls hl => ?_)
  refine lv_aload_n hx hb dX5_run_6 rfl (lv_at hl 1 rfl) ?_
  refine lv_aload_n hx hb dX5_run_7 rfl (lv_at hl 1 rfl) ?_
  obtain ⟨q_5, wq_5, heq_5⟩ := heT_40 (L := (tL a b c)) (ad := ad) (cy := cy) (bS := bS) (a := a) (b := b) (c := c) (d := d) (r := r) (I := I) (D := D) (K := K_3) (M := M) hM
  refine va_get (D := (dC, dI)) (ci := 5) (v := .ref (ad 48)) (C := RX5) (T := TX5) (N := 11) hx hb hts iT_run_RX5 hown hK hP q_5 heq_5 rfl 4 (by decide) (hts (.fieldLink RX5 22 "OverrunHouseLaw$Told" "mixes" "[[I") (List.mem_cons_of_mem _ (List.mem_append_left _ (List.mem_append_left _ (List.mem_append_left _ (List.mem_append_left _ (List.mem_append_left _ (List.mem_append_left _ (List.mem_append_left _ (List.mem_of_getElem? (i := 0) rfl)))))))))) (fun _ h9 => h9) rfl dX5_run_8 ?_
  obtain ⟨q_6, wq_6, heq_6⟩ := heT_48 (L := (tL a b c)) (ad := ad) (cy := cy) (bS := bS) (a := a) (b := b) (c := c) (d := d) (r := r) (I := I) (D := D) (K := K_3) (M := M) hM
  refine va_alen (v := nI b) hx hb hK hP q_6 5 heq_6 rfl rfl dX5_run_11 ?_
  obtain ⟨⟨r_7, K_9⟩, g_8, hf⟩ := bd_out hf
  have hAW : ∀ q, AT (tL a b c) ad H.size q → A q := fun q h => h.elim (fun ⟨k, k1, k2⟩ => k2 ▸ hAL k k1) (fun h => hA q (Nat.le_trans hS.1 h))
  obtain ⟨q_10, wq_10, heq_10⟩ := heT_40 (L := (tL a b c)) (ad := ad) (cy := cy) (bS := bS) (a := a) (b := b) (c := c) (d := d) (r := r) (I := I) (D := D) (K := K_3) (M := M) hM
  refine va_calli (va_runV (As := [.int (nI b)]) (rest := []) ⟨hx, hb, hml, hown, hts⟩ (mt_T_draw l dC dI (tL a b c) a b c d bS ad cy hM r LS xs H.size I D K_3 M (nI b) r_7 K_9 g_8) (cwV 1 hts gX5_run_X5_draw rfl rfl rfl (by decide +kernel) ⟨(Nat.le_of_ble_eq_true rfl), (Nat.le_of_ble_eq_true rfl)⟩) ⟨(tW.pre [.ref (ad 40), .int (nI b)] hP hK hN (hX0.kept (hS.2.1 bS hbl hbA))).1, tW.recv (C := RX5) (T := TX5) (N := 11) hP hK heq_10 rfl, (tW.pre [.ref (ad 40), .int (nI b)] hP hK hN (hX0.kept (hS.2.1 bS hbl hbA))).2⟩ rfl rfl hl.1 rfl (lv_room (Nat.le_of_ble_eq_true rfl)) dX5_run_12 ⟨(Nat.le_of_ble_eq_true rfl), (Nat.le_of_ble_eq_true rfl)⟩) hS (fun q _ h => hAW q h) (fun q h => hAW q h) (fun r9 u t H1 locs ht hvm hw hB hz1 hk1 hS9 => ?_)
  subst hw
  have hP : va_P (dC, dI) vwCl (iwT (tL a b c) ad cy bS a b c d r I D K_9 M) H1 := by rw [← ht]; exact hB.1
  have hS := hS9
  clear hB hz1 hk1 hvm ht hS9
  generalize H1 = H at hP hS ⊢
  refine lv_istore_n (lv' := [(2, .int r_7), (1, .int r_1), (0, .ref (ad 40))]) hx hb dX5_run_15 rfl hl (by decide) rfl (fun ls hl => ?_)
  refine lv_iconst (v := 5) hx hb dX5_run_16 (by decide) ?_
  refine lv_aload_n hx hb dX5_run_17 rfl (lv_at hl 2 rfl) ?_
  refine lv_bipush (v := 30) hx hb dX5_run_18 (by decide) ?_
  obtain ⟨⟨r_11, K_13⟩, g_12, hf⟩ := bd_out hf
  have hAW : ∀ q, AT (tL a b c) ad H.size q → A q := fun q h => h.elim (fun ⟨k, k1, k2⟩ => k2 ▸ hAL k k1) (fun h => hA q (Nat.le_trans hS.1 h))
  obtain ⟨q_14, wq_14, heq_14⟩ := heT_40 (L := (tL a b c)) (ad := ad) (cy := cy) (bS := bS) (a := a) (b := b) (c := c) (d := d) (r := r) (I := I) (D := D) (K := K_9) (M := M) hM
  refine va_calli (va_runV (As := [.int 30]) (rest := [.int 5]) ⟨hx, hb, hml, hown, hts⟩ (mt_T_draw l dC dI (tL a b c) a b c d bS ad cy hM r LS xs H.size I D K_9 M 30 r_11 K_13 g_12) (cwV 1 hts gX5_run_X5_draw rfl rfl rfl (by decide +kernel) ⟨(Nat.le_of_ble_eq_true rfl), (Nat.le_of_ble_eq_true rfl)⟩) ⟨(tW.pre [.ref (ad 40), .int 30] hP hK hN (hX0.kept (hS.2.1 bS hbl hbA))).1, tW.recv (C := RX5) (T := TX5) (N := 11) hP hK heq_14 rfl, (tW.pre [.ref (ad 40), .int 30] hP hK hN (hX0.kept (hS.2.1 bS hbl hbA))).2⟩ rfl rfl hl.1 rfl (lv_room (Nat.le_of_ble_eq_true rfl)) dX5_run_20 ⟨(Nat.le_of_ble_eq_true rfl), (Nat.le_of_ble_eq_true rfl)⟩) hS (fun q _ h => hAW q h) (fun q h => hAW q h) (fun r9 u t H1 locs ht hvm hw hB hz1 hk1 hS9 => ?_)
  subst hw
  have hP : va_P (dC, dI) vwCl (iwT (tL a b c) ad cy bS a b c d r I D K_13 M) H1 := by rw [← ht]; exact hB.1
  have hS := hS9
  clear hB hz1 hk1 hvm ht hS9
  generalize H1 = H at hP hS ⊢
  refine lv_iadd hx hb dX5_run_23 ?_
  refine lv_istore_n (lv' := [(3, .int (5 + r_11)), (2, .int r_7), (1, .int r_1), (0, .ref (ad 40))]) hx hb dX5_run_24 rfl hl (by decide) rfl (fun ls hl => ?_)
  refine lv_bipush (v := 20) hx hb dX5_run_25 (by decide) ?_
  refine lv_aload_n hx hb dX5_run_27 rfl (lv_at hl 3 rfl) ?_
  refine lv_bipush (v := 121) hx hb dX5_run_28 (by decide) ?_
  obtain ⟨⟨r_15, K_17⟩, g_16, hf⟩ := bd_out hf
  have hAW : ∀ q, AT (tL a b c) ad H.size q → A q := fun q h => h.elim (fun ⟨k, k1, k2⟩ => k2 ▸ hAL k k1) (fun h => hA q (Nat.le_trans hS.1 h))
  obtain ⟨q_18, wq_18, heq_18⟩ := heT_40 (L := (tL a b c)) (ad := ad) (cy := cy) (bS := bS) (a := a) (b := b) (c := c) (d := d) (r := r) (I := I) (D := D) (K := K_13) (M := M) hM
  refine va_calli (va_runV (As := [.int 121]) (rest := [.int 20]) ⟨hx, hb, hml, hown, hts⟩ (mt_T_draw l dC dI (tL a b c) a b c d bS ad cy hM r LS xs H.size I D K_13 M 121 r_15 K_17 g_16) (cwV 1 hts gX5_run_X5_draw rfl rfl rfl (by decide +kernel) ⟨(Nat.le_of_ble_eq_true rfl), (Nat.le_of_ble_eq_true rfl)⟩) ⟨(tW.pre [.ref (ad 40), .int 121] hP hK hN (hX0.kept (hS.2.1 bS hbl hbA))).1, tW.recv (C := RX5) (T := TX5) (N := 11) hP hK heq_18 rfl, (tW.pre [.ref (ad 40), .int 121] hP hK hN (hX0.kept (hS.2.1 bS hbl hbA))).2⟩ rfl rfl hl.1 rfl (lv_room (Nat.le_of_ble_eq_true rfl)) dX5_run_30 ⟨(Nat.le_of_ble_eq_true rfl), (Nat.le_of_ble_eq_true rfl)⟩) hS (fun q _ h => hAW q h) (fun q h => hAW q h) (fun r9 u t H1 locs ht hvm hw hB hz1 hk1 hS9 => ?_)
  subst hw
  have hP : va_P (dC, dI) vwCl (iwT (tL a b c) ad cy bS a b c d r I D K_17 M) H1 := by rw [← ht]; exact hB.1
  have hS := hS9
  clear hB hz1 hk1 hvm ht hS9
  generalize H1 = H at hP hS ⊢
  refine lv_iadd hx hb dX5_run_33 ?_
  refine lv_istore (lv' := [(4, .int (20 + r_15)), (3, .int (5 + r_11)), (2, .int r_7), (1, .int r_1), (0, .ref (ad 40))]) hx hb dX5_run_34 hl (by decide) rfl (fun ls hl => ?_)
  refine lv_aload_n hx hb dX5_run_36 rfl (lv_at hl 4 rfl) ?_
  refine lv_iload_n hx hb dX5_run_37 rfl (lv_at hl 3 rfl) ?_
  refine lv_iload_n hx hb dX5_run_38 rfl (lv_at hl 2 rfl) ?_
  refine lv_iload_n hx hb dX5_run_39 rfl (lv_at hl 1 rfl) ?_
  refine lv_iload hx hb dX5_run_40 (lv_at hl 0 rfl) ?_
  obtain ⟨r_19, g_20, hf⟩ := bd_out hf
  obtain ⟨q_21, wq_21, heq_21⟩ := heT_40 (L := (tL a b c)) (ad := ad) (cy := cy) (bS := bS) (a := a) (b := b) (c := c) (d := d) (r := r) (I := I) (D := D) (K := K_17) (M := M) hM
  refine va_calli (va_runV (As := [.int r_1, .int r_7, .int (5 + r_11), .int (20 + r_15)]) (rest := []) ⟨hx, hb, hml, hown, hts⟩ (mt_T_bars l dC dI (tL a b c) a b c d bS ad cy hM r LS xs H.size I D K_17 M r_1 r_7 (5 + r_11) (20 + r_15) r_19 g_20) (cwV 4 hts gX5_run_X5_bars rfl rfl rfl (by decide +kernel) ⟨(Nat.le_of_ble_eq_true rfl), (Nat.le_of_ble_eq_true rfl)⟩) ⟨(tW.pre [.ref (ad 40), .int r_1, .int r_7, .int (5 + r_11), .int (20 + r_15)] hP hK hN (hX0.kept (hS.2.1 bS hbl hbA))).1, tW.recv (C := RX5) (T := TX5) (N := 11) hP hK heq_21 rfl, (tW.pre [.ref (ad 40), .int r_1, .int r_7, .int (5 + r_11), .int (20 + r_15)] hP hK hN (hX0.kept (hS.2.1 bS hbl hbA))).2⟩ rfl rfl hl.1 rfl (lv_room (Nat.le_of_ble_eq_true rfl)) dX5_run_42 ⟨(Nat.le_of_ble_eq_true rfl), (Nat.le_of_ble_eq_true rfl)⟩) hS (fun q _ h => hA q (Nat.le_trans hS.1 h)) (fun q h => hA q (Nat.le_trans hS.1 h)) (fun r9 u t H1 locs ht hvm hw hB hz1 hk1 hS9 => ?_)
  subst hw
  have hP := va_Pnew hP hk1
  have hS := hS9
  clear hB hz1 hk1 hvm ht hS9
  generalize H1 = H at hP hS ⊢
  refine lv_istore (lv' := [(5, .int r_19), (4, .int (20 + r_15)), (3, .int (5 + r_11)), (2, .int r_7), (1, .int r_1), (0, .ref (ad 40))]) hx hb dX5_run_45 hl (by decide) rfl (fun ls hl => ?_)
  refine lv_aload_n hx hb dX5_run_47 rfl (lv_at hl 5 rfl) ?_
  obtain ⟨q_22, wq_22, heq_22⟩ := heT_40 (L := (tL a b c)) (ad := ad) (cy := cy) (bS := bS) (a := a) (b := b) (c := c) (d := d) (r := r) (I := I) (D := D) (K := K_17) (M := M) hM
  refine va_get (D := (dC, dI)) (ci := 5) (v := .ref (ad 0)) (C := RX5) (T := TX5) (N := 11) hx hb hts iT_run_RX5 hown hK hP q_22 heq_22 rfl 0 (by decide) (hts (.fieldLink RX5 10 "OverrunHouseLaw$Told" "m" "LOverrunHouse;") (List.mem_cons_of_mem _ (List.mem_append_left _ (List.mem_append_left _ (List.mem_append_left _ (List.mem_append_left _ (List.mem_append_left _ (List.mem_append_left _ (List.mem_append_left _ (List.mem_of_getElem? (i := 1) rfl)))))))))) (fun _ h9 => h9) rfl dX5_run_48 ?_
  refine lv_iload_n hx hb dX5_run_51 rfl (lv_at hl 4 rfl) ?_
  refine lv_iload_n hx hb dX5_run_52 rfl (lv_at hl 3 rfl) ?_
  refine lv_iload_n hx hb dX5_run_53 rfl (lv_at hl 2 rfl) ?_
  refine lv_iload hx hb dX5_run_54 (lv_at hl 1 rfl) ?_
  obtain ⟨r_23, g_24, hf⟩ := bd_out hf
  have hPH := iwT_H hM hP
  refine va_calli (va_runV (As := [.int r_1, .int r_7, .int (5 + r_11), .int (20 + r_15)]) (rest := []) ⟨hx, hb, hml, hown, hts⟩ (mt_X4_bars l dC dI ad cy hM.J H.size I D r_1 r_7 (5 + r_11) (20 + r_15) r_23 (eO_out g_24)) (cwV 4 hts gX5_run_X4_bars rfl rfl rfl (by decide +kernel) ⟨(Nat.le_of_ble_eq_true rfl), (Nat.le_of_ble_eq_true rfl)⟩) ⟨(hW.pre [.ref (ad 0), .int r_1, .int r_7, .int (5 + r_11), .int (20 + r_15)] hPH hK hN.1).1, hW.recv (C := RX4) (T := TX4) (N := 14) hPH hK heH_0 rfl, (hW.pre [.ref (ad 0), .int r_1, .int r_7, .int (5 + r_11), .int (20 + r_15)] hPH hK hN.1).2⟩ rfl rfl hl.1 rfl (lv_room (Nat.le_of_ble_eq_true rfl)) dX5_run_56 ⟨(Nat.le_of_ble_eq_true rfl), (Nat.le_of_ble_eq_true rfl)⟩) hS (fun q _ h => hA q (Nat.le_trans hS.1 h)) (fun q h => hA q (Nat.le_trans hS.1 h)) (fun r9 u t H1 locs ht hvm hw hB hz1 hk1 hS9 => ?_)
  subst hw
  have hP := va_Pnew hP hk1
  have hS := hS9
  clear hB hz1 hk1 hvm ht hS9
  generalize H1 = H at hP hS ⊢
  refine lv_iload hx hb dX5_run_59 (lv_at hl 0 rfl) ?_
  refine lv_icmp_eq (tgt := 66) hx hb dX5_run_61 (by decide) (fun c_25 => ?_) (fun c_25 => ?_)
  · have hf := it_t hf c_25
    refine lv_iload hx hb dX5_run_66 (lv_at hl 0 rfl) ?_
    refine lv_if_le (tgt := 97) hx hb dX5_run_68 (by decide) (fun c_26 => ?_) (fun c_26 => ?_)
    · have hf := it_t hf c_26
      refine lv_aload_n hx hb dX5_run_97 rfl (lv_at hl 5 rfl) ?_
      obtain ⟨q_27, wq_27, heq_27⟩ := heT_40 (L := (tL a b c)) (ad := ad) (cy := cy) (bS := bS) (a := a) (b := b) (c := c) (d := d) (r := r) (I := I) (D := D) (K := K_17) (M := M) hM
      refine va_get (D := (dC, dI)) (ci := 5) (v := .ref (ad 48)) (C := RX5) (T := TX5) (N := 11) hx hb hts iT_run_RX5 hown hK hP q_27 heq_27 rfl 4 (by decide) (hts (.fieldLink RX5 22 "OverrunHouseLaw$Told" "mixes" "[[I") (List.mem_cons_of_mem _ (List.mem_append_left _ (List.mem_append_left _ (List.mem_append_left _ (List.mem_append_left _ (List.mem_append_left _ (List.mem_append_left _ (List.mem_append_left _ (List.mem_of_getElem? (i := 0) rfl)))))))))) (fun _ h9 => h9) rfl dX5_run_98 ?_
      refine lv_iload_n hx hb dX5_run_101 rfl (lv_at hl 3 rfl) ?_
      obtain ⟨q_28, wq_28, heq_28⟩ := heT_48 (L := (tL a b c)) (ad := ad) (cy := cy) (bS := bS) (a := a) (b := b) (c := c) (d := d) (r := r) (I := I) (D := D) (K := K_17) (M := M) hM
      obtain ⟨h_29, hf⟩ := ck_out hf
      refine ra_lda (bs := 60) (n := b) hx hb hK hP q_28 heq_28 (inB_in h_29) dX5_run_102 ?_
      refine lv_bipush (v := 6) hx hb dX5_run_103 (by decide) ?_
      refine lv_dup2_11 hx hb dX5_run_105 rfl rfl ?_
      obtain ⟨q_30, wq_30, heq_30⟩ := heT_Mixr (L := (tL a b c)) (ad := ad) (cy := cy) (bS := bS) (a := a) (b := b) (c := c) (d := d) (r := r) (I := I) (D := D) (K := K_17) (M := M) hM (inB_lt h_29)
      obtain ⟨h_31, hf⟩ := ck_out hf
      refine va_iald (n := 10) (f := K_17 (60 + (r_7).toNatClampNeg)) hx hb hK hP q_30 0 heq_30 rfl (inB_in h_31) dX5_run_106 ?_
      refine lv_iload_n hx hb dX5_run_107 rfl (lv_at hl 2 rfl) ?_
      refine lv_isub hx hb dX5_run_108 ?_
      obtain ⟨q_32, wq_32, heq_32⟩ := heT_Mixr (L := (tL a b c)) (ad := ad) (cy := cy) (bS := bS) (a := a) (b := b) (c := c) (d := d) (r := r) (I := I) (D := D) (K := K_17) (M := M) hM (inB_lt h_29)
      obtain ⟨h_33, hf⟩ := ck_out hf
      obtain ⟨K_34, eK_34, hf⟩ := nm_out hf
      refine va_iast (n := 10) (f := K_17 (60 + (r_7).toNatClampNeg)) hx hb hK hP (hDD r I D K_17 M) hS q_32 0 heq_32 rfl (inB_in h_33) dX5_run_109 (fun H locs hP _ hS => ?_)
      have hP : va_P (dC, dI) vwCl (iwT (tL a b c) ad cy bS a b c d r I D K_34 M) H := by rw [eK_34]; exact hqK hM wq_32 (by omega) ((cellT_Mixr ad cy bS a b c d r (by have := hM.2.2; have := (inB_lt h_29); omega) _ _).trans rfl) hP
      refine lv_aload_n hx hb dX5_run_110 rfl (lv_at hl 5 rfl) ?_
      obtain ⟨q_35, wq_35, heq_35⟩ := heT_40 (L := (tL a b c)) (ad := ad) (cy := cy) (bS := bS) (a := a) (b := b) (c := c) (d := d) (r := r) (I := I) (D := D) (K := K_34) (M := M) hM
      refine va_get (D := (dC, dI)) (ci := 5) (v := .ref (ad 48)) (C := RX5) (T := TX5) (N := 11) hx hb hts iT_run_RX5 hown hK hP q_35 heq_35 rfl 4 (by decide) (hts (.fieldLink RX5 22 "OverrunHouseLaw$Told" "mixes" "[[I") (List.mem_cons_of_mem _ (List.mem_append_left _ (List.mem_append_left _ (List.mem_append_left _ (List.mem_append_left _ (List.mem_append_left _ (List.mem_append_left _ (List.mem_append_left _ (List.mem_of_getElem? (i := 0) rfl)))))))))) (fun _ h9 => h9) rfl dX5_run_111 ?_
      refine lv_iload_n hx hb dX5_run_114 rfl (lv_at hl 3 rfl) ?_
      obtain ⟨q_36, wq_36, heq_36⟩ := heT_48 (L := (tL a b c)) (ad := ad) (cy := cy) (bS := bS) (a := a) (b := b) (c := c) (d := d) (r := r) (I := I) (D := D) (K := K_34) (M := M) hM
      obtain ⟨h_37, hf⟩ := ck_out hf
      refine ra_lda (bs := 60) (n := b) hx hb hK hP q_36 heq_36 (inB_in h_37) dX5_run_115 ?_
      refine lv_bipush (v := 9) hx hb dX5_run_116 (by decide) ?_
      refine lv_dup2_11 hx hb dX5_run_118 rfl rfl ?_
      obtain ⟨q_38, wq_38, heq_38⟩ := heT_Mixr (L := (tL a b c)) (ad := ad) (cy := cy) (bS := bS) (a := a) (b := b) (c := c) (d := d) (r := r) (I := I) (D := D) (K := K_34) (M := M) hM (inB_lt h_37)
      obtain ⟨h_39, hf⟩ := ck_out hf
      refine va_iald (n := 10) (f := K_34 (60 + (r_7).toNatClampNeg)) hx hb hK hP q_38 0 heq_38 rfl (inB_in h_39) dX5_run_119 ?_
      refine lv_iconst (v := 1) hx hb dX5_run_120 (by decide) ?_
      refine lv_iadd hx hb dX5_run_121 ?_
      obtain ⟨q_40, wq_40, heq_40⟩ := heT_Mixr (L := (tL a b c)) (ad := ad) (cy := cy) (bS := bS) (a := a) (b := b) (c := c) (d := d) (r := r) (I := I) (D := D) (K := K_34) (M := M) hM (inB_lt h_37)
      obtain ⟨h_41, hf⟩ := ck_out hf
      obtain ⟨K_42, eK_42, hf⟩ := nm_out hf
      refine va_iast (n := 10) (f := K_34 (60 + (r_7).toNatClampNeg)) hx hb hK hP (hDD r I D K_34 M) hS q_40 0 heq_40 rfl (inB_in h_41) dX5_run_122 (fun H locs hP _ hS => ?_)
      have hP : va_P (dC, dI) vwCl (iwT (tL a b c) ad cy bS a b c d r I D K_42 M) H := by rw [eK_42]; exact hqK hM wq_40 (by omega) ((cellT_Mixr ad cy bS a b c d r (by have := hM.2.2; have := (inB_lt h_37); omega) _ _).trans rfl) hP
      refine lv_aload_n hx hb dX5_run_123 rfl (lv_at hl 5 rfl) ?_
      obtain ⟨q_43, wq_43, heq_43⟩ := heT_40 (L := (tL a b c)) (ad := ad) (cy := cy) (bS := bS) (a := a) (b := b) (c := c) (d := d) (r := r) (I := I) (D := D) (K := K_42) (M := M) hM
      refine va_get (D := (dC, dI)) (ci := 5) (v := .ref (ad 44)) (C := RX5) (T := TX5) (N := 11) hx hb hts iT_run_RX5 hown hK hP q_43 heq_43 rfl 9 (by decide) (hts (.fieldLink RX5 38 "OverrunHouseLaw$Told" "rests" "[I") (List.mem_cons_of_mem _ (List.mem_append_left _ (List.mem_append_left _ (List.mem_append_left _ (List.mem_append_left _ (List.mem_append_left _ (List.mem_append_left _ (List.mem_append_left _ (List.mem_of_getElem? (i := 2) rfl)))))))))) (fun _ h9 => h9) rfl dX5_run_124 ?_
      refine lv_iload_n hx hb dX5_run_127 rfl (lv_at hl 4 rfl) ?_
      refine lv_aload_n hx hb dX5_run_128 rfl (lv_at hl 5 rfl) ?_
      refine lv_iload_n hx hb dX5_run_129 rfl (lv_at hl 3 rfl) ?_
      obtain ⟨r_44, g_45, hf⟩ := bd_out hf
      obtain ⟨q_46, wq_46, heq_46⟩ := heT_40 (L := (tL a b c)) (ad := ad) (cy := cy) (bS := bS) (a := a) (b := b) (c := c) (d := d) (r := r) (I := I) (D := D) (K := K_42) (M := M) hM
      refine va_calli (va_runV (As := [.int r_7]) (rest := [.int r_1, .ref (ad 44)]) ⟨hx, hb, hml, hown, hts⟩ (mt_T_harms l dC dI (tL a b c) a b c d bS ad cy hM r LS xs H.size I D K_42 M r_7 r_44 g_45) (cwV 1 hts gX5_run_X5_harms rfl rfl rfl (by decide +kernel) ⟨(Nat.le_of_ble_eq_true rfl), (Nat.le_of_ble_eq_true rfl)⟩) ⟨(tW.pre [.ref (ad 40), .int r_7] hP hK hN (hX0.kept (hS.2.1 bS hbl hbA))).1, tW.recv (C := RX5) (T := TX5) (N := 11) hP hK heq_46 rfl, (tW.pre [.ref (ad 40), .int r_7] hP hK hN (hX0.kept (hS.2.1 bS hbl hbA))).2⟩ rfl rfl hl.1 rfl (lv_room (Nat.le_of_ble_eq_true rfl)) dX5_run_130 ⟨(Nat.le_of_ble_eq_true rfl), (Nat.le_of_ble_eq_true rfl)⟩) hS (fun q _ h => hA q (Nat.le_trans hS.1 h)) (fun q h => hA q (Nat.le_trans hS.1 h)) (fun r9 u t H1 locs ht hvm hw hB hz1 hk1 hS9 => ?_)
      subst hw
      have hP := va_Pnew hP hk1
      have hS := hS9
      clear hB hz1 hk1 hvm ht hS9
      generalize H1 = H at hP hS ⊢
      obtain ⟨q_47, wq_47, heq_47⟩ := heT_44 (L := (tL a b c)) (ad := ad) (cy := cy) (bS := bS) (a := a) (b := b) (c := c) (d := d) (r := r) (I := I) (D := D) (K := K_42) (M := M) hM
      obtain ⟨h_48, hf⟩ := ck_out hf
      obtain ⟨K_49, eK_49, hf⟩ := nm_out hf
      refine va_iast (n := 2) (f := K_42 44) hx hb hK hP (hDD r I D K_42 M) hS q_47 0 heq_47 rfl (inB_in h_48) dX5_run_133 (fun H locs hP _ hS => ?_)
      have hP : va_P (dC, dI) vwCl (iwT (tL a b c) ad cy bS a b c d r I D K_49 M) H := by rw [eK_49]; exact hqK hM wq_47 (by decide) ((cellT_44 ad cy bS a b c d r _ _).trans rfl) hP
      refine lv_aload_n hx hb dX5_run_134 rfl (lv_at hl 5 rfl) ?_
      obtain ⟨q_50, wq_50, heq_50⟩ := heT_40 (L := (tL a b c)) (ad := ad) (cy := cy) (bS := bS) (a := a) (b := b) (c := c) (d := d) (r := r) (I := I) (D := D) (K := K_49) (M := M) hM
      refine va_get (D := (dC, dI)) (ci := 5) (v := .ref (ad 42)) (C := RX5) (T := TX5) (N := 11) hx hb hts iT_run_RX5 hown hK hP q_50 heq_50 rfl 6 (by decide) (hts (.fieldLink RX5 28 "OverrunHouseLaw$Told" "crystals" "[D") (List.mem_cons_of_mem _ (List.mem_append_left _ (List.mem_append_left _ (List.mem_append_left _ (List.mem_append_left _ (List.mem_append_left _ (List.mem_append_left _ (List.mem_append_left _ (List.mem_of_getElem? (i := 3) rfl)))))))))) (fun _ h9 => h9) rfl dX5_run_135 ?_
      refine lv_aload_n hx hb dX5_run_138 rfl (lv_at hl 5 rfl) ?_
      obtain ⟨q_51, wq_51, heq_51⟩ := heT_40 (L := (tL a b c)) (ad := ad) (cy := cy) (bS := bS) (a := a) (b := b) (c := c) (d := d) (r := r) (I := I) (D := D) (K := K_49) (M := M) hM
      refine va_get (D := (dC, dI)) (ci := 5) (v := .ref (ad 49)) (C := RX5) (T := TX5) (N := 11) hx hb hts iT_run_RX5 hown hK hP q_51 heq_51 rfl 5 (by decide) (hts (.fieldLink RX5 25 "OverrunHouseLaw$Told" "batches" "[[I") (List.mem_cons_of_mem _ (List.mem_append_left _ (List.mem_append_left _ (List.mem_append_left _ (List.mem_append_left _ (List.mem_append_left _ (List.mem_append_left _ (List.mem_append_left _ (List.mem_of_getElem? (i := 4) rfl)))))))))) (fun _ h9 => h9) rfl dX5_run_139 ?_
      obtain ⟨q_52, wq_52, heq_52⟩ := heT_49 (L := (tL a b c)) (ad := ad) (cy := cy) (bS := bS) (a := a) (b := b) (c := c) (d := d) (r := r) (I := I) (D := D) (K := K_49) (M := M) hM
      refine va_alen (v := nI c) hx hb hK hP q_52 5 heq_52 rfl rfl dX5_run_142 ?_
      refine lv_ldc2d (v := 4626322717216342016) hx hb hown (hts (.constantDouble RX5 127 (4626322717216342016)) (List.mem_cons_of_mem _ (List.mem_append_left _ (List.mem_append_left _ (List.mem_append_left _ (List.mem_append_left _ (List.mem_append_left _ (List.mem_append_left _ (List.mem_append_left _ (List.mem_of_getElem? (i := 5) rfl)))))))))) dX5_run_143 ?_
      obtain ⟨q_53, wq_53, heq_53⟩ := heT_42 (L := (tL a b c)) (ad := ad) (cy := cy) (bS := bS) (a := a) (b := b) (c := c) (d := d) (r := r) (I := I) (D := D) (K := K_49) (M := M) hM
      obtain ⟨h_54, hf⟩ := ck_out hf
      obtain ⟨M_55, eM_55, hf⟩ := nm_out hf
      refine va_dast (n := 12) (f := M 42) hx hb hK hP (hDD r I D K_49 M) hS q_53 6 heq_53 rfl (inB_in h_54) dX5_run_146 (fun H locs hP _ hS => ?_)
      have hP : va_P (dC, dI) vwCl (iwT (tL a b c) ad cy bS a b c d r I D K_49 M_55) H := by rw [eM_55]; exact hqM hM wq_53 (by decide) ((cellT_42 ad cy bS a b c d r _ _).trans rfl) hP
      refine lv_aload_n hx hb dX5_run_147 rfl (lv_at hl 5 rfl) ?_
      refine lv_aload_n hx hb dX5_run_148 rfl (lv_at hl 5 rfl) ?_
      obtain ⟨q_56, wq_56, heq_56⟩ := heT_40 (L := (tL a b c)) (ad := ad) (cy := cy) (bS := bS) (a := a) (b := b) (c := c) (d := d) (r := r) (I := I) (D := D) (K := K_49) (M := M_55) hM
      refine va_get (D := (dC, dI)) (ci := 5) (v := .ref (ad 49)) (C := RX5) (T := TX5) (N := 11) hx hb hts iT_run_RX5 hown hK hP q_56 heq_56 rfl 5 (by decide) (hts (.fieldLink RX5 25 "OverrunHouseLaw$Told" "batches" "[[I") (List.mem_cons_of_mem _ (List.mem_append_left _ (List.mem_append_left _ (List.mem_append_left _ (List.mem_append_left _ (List.mem_append_left _ (List.mem_append_left _ (List.mem_append_left _ (List.mem_of_getElem? (i := 4) rfl)))))))))) (fun _ h9 => h9) rfl dX5_run_149 ?_
      refine lv_iconst (v := 4) hx hb dX5_run_152 (by decide) ?_
      refine va_newa (atype := .int) (ty := .int) (N' := 4) (a0 := (4, .inl (fun _ => 0))) (D := (dC, dI)) (cl := vwCl) hx hb (hts (.arrayClass .int) (List.mem_cons_of_mem _ (List.mem_append_left _ (List.mem_append_left _ (List.mem_append_left _ (List.mem_append_left _ (List.mem_append_left _ (List.mem_append_left _ (List.mem_append_left _ (List.mem_of_getElem? (i := 6) rfl)))))))))) rfl hK hP (hDD r I D K_49 M_55) hS hA (fun cA => va_arr0 cA 4) (by decide) (by decide) (by decide) (Nat.le_of_ble_eq_true rfl) (Nat.le_of_ble_eq_true rfl) dX5_run_153 (fun q_57 cA_58 H hKt hP hD hS => ?_)
      obtain rfl : cA_58 = cy 0 := cy_same hKt 0 rfl rfl
      obtain ⟨K_65, eK_65, hf⟩ := nm_out hf
      obtain ⟨ad_61, hM_62, hP, hAL_63, hE_59, hq_60⟩ := t_new (r1 := 4) (K1 := (va_up K_49 34 (fun _ => 0))) (M1 := M_55) (Or.inl rfl) (fun hk => (tL_lt hM.2.2.1 hM.2.2.2.1 hM.2.2.2.2.1 hk).1 rfl) (fun k hk => Or.inl hk) hM hP hD hbA (fun hk => absurd hk (fun hk => (tL_lt hM.2.2.1 hM.2.2.2.1 hM.2.2.2.2.1 hk).1 rfl)) (fun ad1 => (cellT_34 ad1 cy bS a b c d 4 _ _).trans (by rw [va_up_self])) (fun k hk => va_up_ne _ _ hk) (fun _ _ => rfl)
      have hF_66 : ∀ k ∈ tL a b c, ad_61 k = ad k := fun k hk => hE_59 k hk
      rw [← eK_65] at hP
      have hDD_64 : ∀ r I D K M, va_D A (iwT (tL a b c ++ [34]) ad_61 cy bS a b c d r I D K M) := fun r I D K M => iwT_D hM_62 hAL_63 I D K M
      have hl : lv_has ls 6 [(5, .int r_19), (4, .int (20 + r_15)), (3, .int (5 + r_11)), (2, .int r_7), (1, .int r_1), (0, .ref (ad_61 40))] := by rw [hE_59 40 (tL_c (by decide))]; exact hl
      refine W.eq (g2 := F0 m 155 ls [.ref (ad_61 34), .ref (ad_61 49), .ref (ad_61 40)]) (by rw [hq_60, hE_59 49 (tL_c (by decide)), hE_59 40 (tL_c (by decide))]) ?_
      have e4_67 := (hE_59 40 (tL_c (by decide))).trans e40
      have e0_68 := (hE_59 0 (tL_H (by decide))).trans e00
      refine lv_dup hx hb dX5_run_155 rfl ?_
      refine lv_iconst (v := 0) hx hb dX5_run_156 (by decide) ?_
      refine lv_iload_n hx hb dX5_run_157 rfl (lv_at hl 3 rfl) ?_
      obtain ⟨q_69, wq_69, heq_69⟩ := heT_34 (L := (tL a b c ++ [34])) (ad := ad_61) (cy := cy) (bS := bS) (a := a) (b := b) (c := c) (d := d) (r := 4) (I := I) (D := D) (K := K_65) (M := M_55) (List.mem_append_right _ (by decide))
      obtain ⟨h_70, hf⟩ := ck_out hf
      obtain ⟨K_71, eK_71, hf⟩ := nm_out hf
      refine va_iast (n := 4) (f := K_65 34) hx hb hK hP (hDD_64 4 I D K_65 M_55) hS q_69 0 heq_69 rfl (inB_in h_70) dX5_run_158 (fun H locs hP _ hS => ?_)
      have hP : va_P (dC, dI) vwCl (iwT (tL a b c ++ [34]) ad_61 cy bS a b c d 4 I D K_71 M_55) H := by rw [eK_71]; exact hqK hM_62 wq_69 (by decide) ((cellT_34 ad_61 cy bS a b c d 4 _ _).trans rfl) hP
      refine lv_dup hx hb dX5_run_159 rfl ?_
      refine lv_iconst (v := 1) hx hb dX5_run_160 (by decide) ?_
      refine lv_iload_n hx hb dX5_run_161 rfl (lv_at hl 2 rfl) ?_
      refine lv_iconst (v := 2) hx hb dX5_run_162 (by decide) ?_
      refine lv_isub hx hb dX5_run_163 ?_
      refine lv_bipush (v := 100) hx hb dX5_run_164 (by decide) ?_
      refine lv_iload hx hb dX5_run_166 (lv_at hl 1 rfl) ?_
      refine lv_iadd hx hb dX5_run_168 ?_
      refine lv_imul hx hb dX5_run_169 ?_
      refine lv_bipush (v := 100) hx hb dX5_run_170 (by decide) ?_
      refine lv_idiv hx hb dX5_run_172 (by decide) ?_
      obtain ⟨q_72, wq_72, heq_72⟩ := heT_34 (L := (tL a b c ++ [34])) (ad := ad_61) (cy := cy) (bS := bS) (a := a) (b := b) (c := c) (d := d) (r := 4) (I := I) (D := D) (K := K_71) (M := M_55) (List.mem_append_right _ (by decide))
      obtain ⟨h_73, hf⟩ := ck_out hf
      obtain ⟨K_74, eK_74, hf⟩ := nm_out hf
      refine va_iast (n := 4) (f := K_71 34) hx hb hK hP (hDD_64 4 I D K_71 M_55) hS q_72 0 heq_72 rfl (inB_in h_73) dX5_run_173 (fun H locs hP _ hS => ?_)
      have hP : va_P (dC, dI) vwCl (iwT (tL a b c ++ [34]) ad_61 cy bS a b c d 4 I D K_74 M_55) H := by rw [eK_74]; exact hqK hM_62 wq_72 (by decide) ((cellT_34 ad_61 cy bS a b c d 4 _ _).trans rfl) hP
      refine lv_dup hx hb dX5_run_174 rfl ?_
      refine lv_iconst (v := 2) hx hb dX5_run_175 (by decide) ?_
      refine lv_iconst (v := 0) hx hb dX5_run_176 (by decide) ?_
      obtain ⟨q_75, wq_75, heq_75⟩ := heT_34 (L := (tL a b c ++ [34])) (ad := ad_61) (cy := cy) (bS := bS) (a := a) (b := b) (c := c) (d := d) (r := 4) (I := I) (D := D) (K := K_74) (M := M_55) (List.mem_append_right _ (by decide))
      obtain ⟨h_76, hf⟩ := ck_out hf
      obtain ⟨K_77, eK_77, hf⟩ := nm_out hf
      refine va_iast (n := 4) (f := K_74 34) hx hb hK hP (hDD_64 4 I D K_74 M_55) hS q_75 0 heq_75 rfl (inB_in h_76) dX5_run_177 (fun H locs hP _ hS => ?_)
      have hP : va_P (dC, dI) vwCl (iwT (tL a b c ++ [34]) ad_61 cy bS a b c d 4 I D K_77 M_55) H := by rw [eK_77]; exact hqK hM_62 wq_75 (by decide) ((cellT_34 ad_61 cy bS a b c d 4 _ _).trans rfl) hP
      refine lv_dup hx hb dX5_run_178 rfl ?_
      refine lv_iconst (v := 3) hx hb dX5_run_179 (by decide) ?_
      refine lv_iconst (v := (-1)) hx hb dX5_run_180 (by decide) ?_
      obtain ⟨q_78, wq_78, heq_78⟩ := heT_34 (L := (tL a b c ++ [34])) (ad := ad_61) (cy := cy) (bS := bS) (a := a) (b := b) (c := c) (d := d) (r := 4) (I := I) (D := D) (K := K_77) (M := M_55) (List.mem_append_right _ (by decide))
      obtain ⟨h_79, hf⟩ := ck_out hf
      obtain ⟨K_80, eK_80, hf⟩ := nm_out hf
      refine va_iast (n := 4) (f := K_77 34) hx hb hK hP (hDD_64 4 I D K_77 M_55) hS q_78 0 heq_78 rfl (inB_in h_79) dX5_run_181 (fun H locs hP _ hS => ?_)
      have hP : va_P (dC, dI) vwCl (iwT (tL a b c ++ [34]) ad_61 cy bS a b c d 4 I D K_80 M_55) H := by rw [eK_80]; exact hqK hM_62 wq_78 (by decide) ((cellT_34 ad_61 cy bS a b c d 4 _ _).trans rfl) hP
      obtain ⟨h_82, hf⟩ := ck_out hf
      obtain ⟨K_83, eK_83, hf⟩ := nm_out hf
      have hPp := plus_B hM_62 hP
      refine va_callr (va_runS (As := [.ref (ad_61 49), .ref (ad_61 34)]) (rest := [.ref (ad_61 40)]) ⟨hx, hb, hml, hown, hts⟩ (mt_X5_plus l dC dI cy (ad_61 49) (ad_61 34) c 4 _ _ H.size (by have := hM_62.2.2; omega)) (va_cwS 2 hts gX5_run_X5_plus rfl rfl rfl (by decide +kernel) ⟨(Nat.le_of_ble_eq_true rfl), (Nat.le_of_ble_eq_true rfl)⟩) (pW_pre hPp.1 hPp.2 hK hN.2) rfl rfl hl.1 rfl (lv_room (Nat.le_of_ble_eq_true rfl)) dX5_run_182 ⟨(Nat.le_of_ble_eq_true rfl), (Nat.le_of_ble_eq_true rfl)⟩) hS (fun q _ h => hA q (Nat.le_trans hS.1 h)) (fun q h => hA q (Nat.le_trans hS.1 h)) (fun u rp_81 t H1 locs ht hvm hw hB hz1 hk1 hS9 => ?_)
      obtain ⟨hB1, hB2⟩ := hB
      rw [ht] at hB2
      have hDj := va_Djn (hDD_64 4 I D K_80 M_55) hP hB2 (hA rp_81 (Nat.le_trans hS.1 hB1)) hB1
      have hP := (va_Pnew hP hk1).app hB2
      have hS := hS9
      clear hB1 hB2 hz1 hk1 hvm ht hS9 hPp
      generalize H1 = H at hP hS ⊢
      obtain ⟨q_84, wq_84, heq_84⟩ := heT_40 (L := (tL a b c ++ [34])) (ad := ad_61) (cy := cy) (bS := bS) (a := a) (b := b) (c := c) (d := d) (r := 4) (I := I) (D := D) (K := K_80) (M := M_55) hM_62
      have hjq_84 := va_appL (ys := [(rp_81, .inl (cy 5, c + 1, .inr (.inr (.inr (.inr (fun j => if j < c then (if j < c then some (ad_61 (70 + j)) else none) else if j = c then some (ad_61 34) else none))))))]) heq_84
      refine va_put (D := (dC, dI)) (ci := 5) (v := .ref rp_81) (ty := .array (.array .int)) (C := RX5) (T := TX5) (N := 11) hx hb hts iT_run_RX5 tyX5 tyX5_ok nmX5 hown hK hP hDj hS q_84 hjq_84 rfl 5 (by decide) (hts (.fieldLink RX5 25 "OverrunHouseLaw$Told" "batches" "[[I") (List.mem_cons_of_mem _ (List.mem_append_left _ (List.mem_append_left _ (List.mem_append_left _ (List.mem_append_left _ (List.mem_append_left _ (List.mem_append_left _ (List.mem_append_left _ (List.mem_of_getElem? (i := 4) rfl)))))))))) (fun _ h9 => h9) rfl (by decide +kernel) rfl rfl (Nat.le_of_ble_eq_true rfl) dX5_run_185 (fun H locs hP hD hS => ?_)
      obtain ⟨ad_85, hM_86, hP, hAL_87, e4_89, e0_90, eR_91, -⟩ := t_plus_B (of_decide_eq_true h_82) hM_62 wq_84 hP hD (fun j hj => plus_fn hj) hbA r
      have e4_92 := e4_89.trans e4_67
      have e0_93 := e0_90.trans e0_68
      rw [← eK_83] at hP
      have hDD_88 : ∀ r I D K M, va_D A (iwT (tL a b (c + 1)) ad_85 cy bS a b (c + 1) d r I D K M) := fun r I D K M => iwT_D hM_86 hAL_87 I D K M
      have hl : lv_has ls 6 [(5, .int r_19), (4, .int (20 + r_15)), (3, .int (5 + r_11)), (2, .int r_7), (1, .int r_1), (0, .ref (ad_85 40))] := by rw [e4_89]; exact lv_sub hl [0, 1, 2, 3, 4, 5] rfl
      refine lv_aload_n hx hb dX5_run_188 rfl (lv_at hl 5 rfl) ?_
      obtain ⟨q_94, wq_94, heq_94⟩ := heT_40 (L := (tL a b (c + 1))) (ad := ad_85) (cy := cy) (bS := bS) (a := a) (b := b) (c := (c + 1)) (d := d) (r := r) (I := I) (D := D) (K := K_83) (M := M_55) hM_86
      refine va_get (D := (dC, dI)) (ci := 5) (v := .ref (ad_85 0)) (C := RX5) (T := TX5) (N := 11) hx hb hts iT_run_RX5 hown hK hP q_94 heq_94 rfl 0 (by decide) (hts (.fieldLink RX5 10 "OverrunHouseLaw$Told" "m" "LOverrunHouse;") (List.mem_cons_of_mem _ (List.mem_append_left _ (List.mem_append_left _ (List.mem_append_left _ (List.mem_append_left _ (List.mem_append_left _ (List.mem_append_left _ (List.mem_append_left _ (List.mem_of_getElem? (i := 1) rfl)))))))))) (fun _ h9 => h9) rfl dX5_run_189 ?_
      refine lv_iload_n hx hb dX5_run_192 rfl (lv_at hl 4 rfl) ?_
      refine lv_iload_n hx hb dX5_run_193 rfl (lv_at hl 3 rfl) ?_
      refine lv_iload_n hx hb dX5_run_194 rfl (lv_at hl 2 rfl) ?_
      refine lv_iload hx hb dX5_run_195 (lv_at hl 1 rfl) ?_
      obtain ⟨⟨r_95, I_97, D_98⟩, g_96, hf⟩ := bd_out hf
      have hPH := iwT_H hM_86 hP
      have hAW : ∀ q, AW ad_85 H.size q → A q := fun q h => h.elim (fun ⟨k, k1, k2⟩ => k2 ▸ hAL_87 k (hM_86.1.2.1 _ (tL_H k1))) (fun h => hA q (Nat.le_trans hS.1 h))
      refine va_calli (va_runV (As := [.int r_1, .int r_7, .int (5 + r_11), .int (20 + r_15)]) (rest := []) ⟨hx, hb, hml, hown, hts⟩ (mt_X4_run l dC dI ad_85 cy hM_86.J H.size I D r_1 r_7 (5 + r_11) (20 + r_15) r_95 I_97 D_98 (eO_out g_96)) (cwV 4 hts gX5_run_X4_run rfl rfl rfl (by decide +kernel) ⟨(Nat.le_of_ble_eq_true rfl), (Nat.le_of_ble_eq_true rfl)⟩) ⟨(hW.pre [.ref (ad_85 0), .int r_1, .int r_7, .int (5 + r_11), .int (20 + r_15)] hPH hK hN.1).1, hW.recv (C := RX4) (T := TX4) (N := 14) hPH hK heH_0 rfl, (hW.pre [.ref (ad_85 0), .int r_1, .int r_7, .int (5 + r_11), .int (20 + r_15)] hPH hK hN.1).2⟩ rfl rfl hl.1 rfl (lv_room (Nat.le_of_ble_eq_true rfl)) dX5_run_197 ⟨(Nat.le_of_ble_eq_true rfl), (Nat.le_of_ble_eq_true rfl)⟩) hS (fun q _ h => hAW q h) (fun q h => hAW q h) (fun r9 u t H1 locs ht hvm hw hB hz1 hk1 hS9 => ?_)
      subst hw
      have hP : va_P (dC, dI) vwCl (iwT (tL a b (c + 1)) ad_85 cy bS a b (c + 1) d r I_97 D_98 K_83 M_55) H1 := iwT_join hM_86 hP (by rw [← ht]; exact hB.1) hk1
      have hS := hS9
      clear hB hz1 hk1 hvm ht hS9
      generalize H1 = H at hP hS ⊢
      refine lv_aload_n hx hb dX5_run_200 rfl (lv_at hl 5 rfl) ?_
      obtain ⟨q_99, wq_99, heq_99⟩ := heT_40 (L := (tL a b (c + 1))) (ad := ad_85) (cy := cy) (bS := bS) (a := a) (b := b) (c := (c + 1)) (d := d) (r := r) (I := I_97) (D := D_98) (K := K_83) (M := M_55) hM_86
      refine va_get (D := (dC, dI)) (ci := 5) (v := .ref (ad_85 49)) (C := RX5) (T := TX5) (N := 11) hx hb hts iT_run_RX5 hown hK hP q_99 heq_99 rfl 5 (by decide) (hts (.fieldLink RX5 25 "OverrunHouseLaw$Told" "batches" "[[I") (List.mem_cons_of_mem _ (List.mem_append_left _ (List.mem_append_left _ (List.mem_append_left _ (List.mem_append_left _ (List.mem_append_left _ (List.mem_append_left _ (List.mem_append_left _ (List.mem_of_getElem? (i := 4) rfl)))))))))) (fun _ h9 => h9) rfl dX5_run_201 ?_
      obtain ⟨q_100, wq_100, heq_100⟩ := heT_49 (L := (tL a b (c + 1))) (ad := ad_85) (cy := cy) (bS := bS) (a := a) (b := b) (c := (c + 1)) (d := d) (r := r) (I := I_97) (D := D_98) (K := K_83) (M := M_55) hM_86
      refine va_alen (v := nI (c + 1)) hx hb hK hP q_100 5 heq_100 rfl rfl dX5_run_204 ?_
      refine lv_iconst (v := 1) hx hb dX5_run_205 (by decide) ?_
      refine lv_isub hx hb dX5_run_206 ?_
      refine lv_icmp_ne (tgt := 214) hx hb dX5_run_207 (by decide) (fun c_101 => ?_) (fun c_101 => ?_)
      · have hf := it_f hf c_101
        refine lv_iconst (v := 0) hx hb dX5_run_214 (by decide) ?_
        have hf := Option.some.inj hf
        obtain ⟨q1, hf⟩ := Prod.mk.inj hf
        obtain ⟨ga, hf⟩ := Prod.mk.inj hf
        obtain ⟨gb, hf⟩ := Prod.mk.inj hf
        obtain ⟨gc, hf⟩ := Prod.mk.inj hf
        obtain ⟨gd, hf⟩ := Prod.mk.inj hf
        obtain ⟨qI, hf⟩ := Prod.mk.inj hf
        obtain ⟨qD, hf⟩ := Prod.mk.inj hf
        obtain ⟨qK, qM⟩ := Prod.mk.inj hf
        exact W.zret (ty := .boolean) (v := 0) hx hb hr rfl (fun t ht hW9 => ⟨⟨0, (), rfl, q1.symm, (by rw [← ga, ← gb, ← gc, ← gd, ← qI, ← qD, ← qK, ← qM]; exact ⟨ad_85, hM_86, ⟨fun k hk => by rw [hAe]; exact hAL_87 k hk, e4_92, e0_93⟩, tW.of hP hK hN (hX0.kept (hS.2.1 bS hbl hbA)) ht hW9⟩)⟩, hS.F ht⟩) hS.2.2 dX5_run_215
      · have hf := it_t hf c_101
        refine lv_iconst (v := 1) hx hb dX5_run_210 (by decide) ?_
        refine lv_goto (tgt := 215) hx hb dX5_run_211 (by decide) ?_
        have hf := Option.some.inj hf
        obtain ⟨q1, hf⟩ := Prod.mk.inj hf
        obtain ⟨ga, hf⟩ := Prod.mk.inj hf
        obtain ⟨gb, hf⟩ := Prod.mk.inj hf
        obtain ⟨gc, hf⟩ := Prod.mk.inj hf
        obtain ⟨gd, hf⟩ := Prod.mk.inj hf
        obtain ⟨qI, hf⟩ := Prod.mk.inj hf
        obtain ⟨qD, hf⟩ := Prod.mk.inj hf
        obtain ⟨qK, qM⟩ := Prod.mk.inj hf
        exact W.zret (ty := .boolean) (v := 1) hx hb hr rfl (fun t ht hW9 => ⟨⟨1, (), rfl, q1.symm, (by rw [← ga, ← gb, ← gc, ← gd, ← qI, ← qD, ← qK, ← qM]; exact ⟨ad_85, hM_86, ⟨fun k hk => by rw [hAe]; exact hAL_87 k hk, e4_92, e0_93⟩, tW.of hP hK hN (hX0.kept (hS.2.1 bS hbl hbA)) ht hW9⟩)⟩, hS.F ht⟩) hS.2.2 dX5_run_215
    · have hf := it_f hf c_26
      refine lv_aload_n hx hb dX5_run_71 rfl (lv_at hl 5 rfl) ?_
      obtain ⟨q_102, wq_102, heq_102⟩ := heT_40 (L := (tL a b c)) (ad := ad) (cy := cy) (bS := bS) (a := a) (b := b) (c := c) (d := d) (r := r) (I := I) (D := D) (K := K_17) (M := M) hM
      refine va_get (D := (dC, dI)) (ci := 5) (v := .ref (ad 0)) (C := RX5) (T := TX5) (N := 11) hx hb hts iT_run_RX5 hown hK hP q_102 heq_102 rfl 0 (by decide) (hts (.fieldLink RX5 10 "OverrunHouseLaw$Told" "m" "LOverrunHouse;") (List.mem_cons_of_mem _ (List.mem_append_left _ (List.mem_append_left _ (List.mem_append_left _ (List.mem_append_left _ (List.mem_append_left _ (List.mem_append_left _ (List.mem_append_left _ (List.mem_of_getElem? (i := 1) rfl)))))))))) (fun _ h9 => h9) rfl dX5_run_72 ?_
      refine lv_iload_n hx hb dX5_run_75 rfl (lv_at hl 4 rfl) ?_
      refine lv_iload_n hx hb dX5_run_76 rfl (lv_at hl 3 rfl) ?_
      refine lv_iload_n hx hb dX5_run_77 rfl (lv_at hl 2 rfl) ?_
      refine lv_iload hx hb dX5_run_78 (lv_at hl 1 rfl) ?_
      obtain ⟨⟨r_103, I_105, D_106⟩, g_104, hf⟩ := bd_out hf
      have hPH := iwT_H hM hP
      have hAW : ∀ q, AW ad H.size q → A q := fun q h => h.elim (fun ⟨k, k1, k2⟩ => k2 ▸ hAL k (hM.1.2.1 _ (tL_H k1))) (fun h => hA q (Nat.le_trans hS.1 h))
      refine va_calli (va_runV (As := [.int r_1, .int r_7, .int (5 + r_11), .int (20 + r_15)]) (rest := []) ⟨hx, hb, hml, hown, hts⟩ (mt_X4_run l dC dI ad cy hM.J H.size I D r_1 r_7 (5 + r_11) (20 + r_15) r_103 I_105 D_106 (eO_out g_104)) (cwV 4 hts gX5_run_X4_run rfl rfl rfl (by decide +kernel) ⟨(Nat.le_of_ble_eq_true rfl), (Nat.le_of_ble_eq_true rfl)⟩) ⟨(hW.pre [.ref (ad 0), .int r_1, .int r_7, .int (5 + r_11), .int (20 + r_15)] hPH hK hN.1).1, hW.recv (C := RX4) (T := TX4) (N := 14) hPH hK heH_0 rfl, (hW.pre [.ref (ad 0), .int r_1, .int r_7, .int (5 + r_11), .int (20 + r_15)] hPH hK hN.1).2⟩ rfl rfl hl.1 rfl (lv_room (Nat.le_of_ble_eq_true rfl)) dX5_run_80 ⟨(Nat.le_of_ble_eq_true rfl), (Nat.le_of_ble_eq_true rfl)⟩) hS (fun q _ h => hAW q h) (fun q h => hAW q h) (fun r9 u t H1 locs ht hvm hw hB hz1 hk1 hS9 => ?_)
      subst hw
      have hP : va_P (dC, dI) vwCl (iwT (tL a b c) ad cy bS a b c d r I_105 D_106 K_17 M) H1 := iwT_join hM hP (by rw [← ht]; exact hB.1) hk1
      have hS := hS9
      clear hB hz1 hk1 hvm ht hS9
      generalize H1 = H at hP hS ⊢
      refine lv_bipush (v := (-10)) hx hb dX5_run_83 (by decide) ?_
      refine lv_iload hx hb dX5_run_85 (lv_at hl 0 rfl) ?_
      refine lv_isub hx hb dX5_run_87 ?_
      refine lv_icmp_ne (tgt := 95) hx hb dX5_run_88 (by decide) (fun c_107 => ?_) (fun c_107 => ?_)
      · have hf := it_f hf c_107
        refine lv_iconst (v := 0) hx hb dX5_run_95 (by decide) ?_
        have hf := Option.some.inj hf
        obtain ⟨q1, hf⟩ := Prod.mk.inj hf
        obtain ⟨ga, hf⟩ := Prod.mk.inj hf
        obtain ⟨gb, hf⟩ := Prod.mk.inj hf
        obtain ⟨gc, hf⟩ := Prod.mk.inj hf
        obtain ⟨gd, hf⟩ := Prod.mk.inj hf
        obtain ⟨qI, hf⟩ := Prod.mk.inj hf
        obtain ⟨qD, hf⟩ := Prod.mk.inj hf
        obtain ⟨qK, qM⟩ := Prod.mk.inj hf
        refine W.widen (k := 2) (n := 20) (Nat.le_of_ble_eq_true rfl) (Nat.le_of_ble_eq_true rfl) ?_
        exact W.zret (ty := .boolean) (v := 0) hx hb hr rfl (fun t ht hW9 => ⟨⟨0, (), rfl, q1.symm, (by rw [← ga, ← gb, ← gc, ← gd, ← qI, ← qD, ← qK, ← qM]; exact ⟨ad, hM, ⟨fun k hk => by rw [hAe]; exact hAL k hk, e40, e00⟩, tW.of hP hK hN (hX0.kept (hS.2.1 bS hbl hbA)) ht hW9⟩)⟩, hS.F ht⟩) hS.2.2 dX5_run_96
      · have hf := it_t hf c_107
        refine lv_iconst (v := 1) hx hb dX5_run_91 (by decide) ?_
        refine lv_goto (tgt := 96) hx hb dX5_run_92 (by decide) ?_
        have hf := Option.some.inj hf
        obtain ⟨q1, hf⟩ := Prod.mk.inj hf
        obtain ⟨ga, hf⟩ := Prod.mk.inj hf
        obtain ⟨gb, hf⟩ := Prod.mk.inj hf
        obtain ⟨gc, hf⟩ := Prod.mk.inj hf
        obtain ⟨gd, hf⟩ := Prod.mk.inj hf
        obtain ⟨qI, hf⟩ := Prod.mk.inj hf
        obtain ⟨qD, hf⟩ := Prod.mk.inj hf
        obtain ⟨qK, qM⟩ := Prod.mk.inj hf
        refine W.widen (k := 2) (n := 20) (Nat.le_of_ble_eq_true rfl) (Nat.le_of_ble_eq_true rfl) ?_
        exact W.zret (ty := .boolean) (v := 1) hx hb hr rfl (fun t ht hW9 => ⟨⟨1, (), rfl, q1.symm, (by rw [← ga, ← gb, ← gc, ← gd, ← qI, ← qD, ← qK, ← qM]; exact ⟨ad, hM, ⟨fun k hk => by rw [hAe]; exact hAL k hk, e40, e00⟩, tW.of hP hK hN (hX0.kept (hS.2.1 bS hbl hbA)) ht hW9⟩)⟩, hS.F ht⟩) hS.2.2 dX5_run_96
  · have hf := it_f hf c_25
    refine lv_iconst (v := 0) hx hb dX5_run_64 (by decide) ?_
    have hf := Option.some.inj hf
    obtain ⟨q1, hf⟩ := Prod.mk.inj hf
    obtain ⟨ga, hf⟩ := Prod.mk.inj hf
    obtain ⟨gb, hf⟩ := Prod.mk.inj hf
    obtain ⟨gc, hf⟩ := Prod.mk.inj hf
    obtain ⟨gd, hf⟩ := Prod.mk.inj hf
    obtain ⟨qI, hf⟩ := Prod.mk.inj hf
    obtain ⟨qD, hf⟩ := Prod.mk.inj hf
    obtain ⟨qK, qM⟩ := Prod.mk.inj hf
    refine W.widen (k := 2) (n := 20) (Nat.le_of_ble_eq_true rfl) (Nat.le_of_ble_eq_true rfl) ?_
    exact W.zret (ty := .boolean) (v := 0) hx hb hr rfl (fun t ht hW9 => ⟨⟨0, (), rfl, q1.symm, (by rw [← ga, ← gb, ← gc, ← gd, ← qI, ← qD, ← qK, ← qM]; exact ⟨ad, hM, ⟨fun k hk => by rw [hAe]; exact hAL k hk, e40, e00⟩, tW.of hP hK hN (hX0.kept (hS.2.1 bS hbl hbA)) ht hW9⟩)⟩, hS.F ht⟩) hS.2.2 dX5_run_65

def f_T_store (LS : Nat) (xs : Nat → Int32) (a b c d : Nat) (I : Nat → Nat → Int32) (D : Nat → Nat → UInt64) (K : Nat → Nat → Int32) (M : Nat → Nat → UInt64) : Option (Int32 × Nat × Nat × Nat × Nat × (Nat → Nat → Int32) × (Nat → Nat → UInt64) × (Nat → Nat → Int32) × (Nat → Nat → UInt64)) :=
  bd (f_T_draw LS xs a b c d I D K M 21) (fun (r_1, K_3) => nm (va_up K_3 34 (fun _ => 0)) (fun K_15 => nm (va_up K_15 34 (va_cpy (K_15 46) (K_15 34) (0 : Int32).toNatClampNeg (0 : Int32).toNatClampNeg (nI d).toNatClampNeg)) (fun K_24 => ck (inB (nI d) (d + 1)) (nm (up2 K_24 34 ((nI d)).toNatClampNeg ((-30) + r_1)) (fun K_29 => ck (inB (nI d) 3) (nm (up2 M 43 ((nI d)).toNatClampNeg (FP.i2d ((-30) + r_1))) (fun M_35 => ck (decide (d < 3)) (nm (va_up K_29 46 (K_29 34)) (fun K_38 => bd (eO (f_X4_store I D ((-30) + r_1))) (fun (r_48, I_50, D_51) => (if r_48 = ((nI (d + 1)) - 1) then some (1, a, b, c, (d + 1), I_50, D_51, K_38, M_35) else some (0, a, b, c, (d + 1), I_50, D_51, K_38, M_35))))))))))))
theorem iT_store_RX5 : ∀ w ∈ u_ws RX5 TX5 11, w ∈ wsX5_store := fun w h => List.mem_cons_of_mem _ (List.mem_append_left _ (List.mem_append_left _ (List.mem_append_left _ (List.mem_append_left _ (List.mem_append_right _ (h))))))
set_option maxHeartbeats 4000000 in
set_option maxRecDepth 100000 in
theorem mt_T_store (l : Launch) (dC : Nat → ClassId) (dI : Nat → Nat → Nat) (a b c d bS : Nat) (ad : Nat → Nat) (cy : Nat → ClassId) (hM : tOK (tL a b c) a b c d bS ad) (r LS : Nat) (xs : Nat → Int32) (sz : Nat) (I : Nat → Nat → Int32) (D : Nat → Nat → UInt64) (K : Nat → Nat → Int32) (M : Nat → Nat → UInt64) (rr : Int32) (a9 : Nat) (b9 : Nat) (c9 : Nat) (d9 : Nat) (I9 : Nat → Nat → Int32) (D9 : Nat → Nat → UInt64) (K9 : Nat → Nat → Int32) (M9 : Nat → Nat → UInt64) (hf : f_T_store LS xs a b c d I D K M = some (rr, a9, b9, c9, d9, I9, D9, K9, M9)) : Met l yX5_store wsX5_store ({ frames := 2, cells := 1, slots := 4, locals := 90 }) (va_Pc [.ref (ad 40)] (fun U => U.heap.size = sz ∧ tW dC dI (tL a b c) ad cy bS a b c d r LS xs I D K M U)) (va_Qi (fun r (_ : Unit) => rr = r) (fun _ t => ∃ ad1 : Nat → Nat, tOK (tL a9 b9 c9) a9 b9 c9 d9 bS ad1 ∧ tX (tL a b c) (tL a9 b9 c9) ad ad1 sz ∧ tW dC dI (tL a9 b9 c9) ad1 cy bS a9 b9 c9 d9 r LS xs I9 D9 K9 M9 t) (AT (tL a b c) ad sz)) 1 4 (AT (tL a b c) ad sz) := by
  refine Met.ofW (cc := cX5_store) (maxL := 3) (ret := (some .boolean)) (by decide) rfl ?_
  intro p e s m args below meth cX s₁ B hml hv
  obtain ⟨rfl, hsz, hP, hK, hN, hX0⟩ := hv
  have hx := B.exec
  have hb := B.bytes
  have hr := B.returns
  have hts := atoms_spec (ws := wsX5_store) B.pre
  have hown : s.vm.findClass RX5 = some m.cls := findClass_of_methodNamed B.named
  have hlocks := B.notSynchronized
  subst hsz
  have hbl : bS < s.heap.size := by obtain ⟨scr, h, -⟩ := hX0; exact (Array.getElem?_eq_some_iff.mp h).1
  generalize hAe : AT (tL a b c) ad s.heap.size = A
  have hA : ∀ q : Nat, s.heap.size ≤ q → A q := fun q h => by rw [← hAe]; exact Or.inr h
  have hAL : ∀ k, k ∈ (tL a b c) → A (ad k) := fun k h => by rw [← hAe]; exact Or.inl ⟨k, h, rfl⟩
  have hDD : ∀ r I D K M, va_D A (iwT (tL a b c) ad cy bS a b c d r I D K M) := fun r I D K M => iwT_D hM hAL I D K M
  have hbA : ¬ A bS := fun h => by rw [← hAe] at h; exact h.elim (fun ⟨k, k1, k2⟩ => hM.2.1 k k1 k2) (fun h => Nat.lt_irrefl _ (Nat.lt_of_lt_of_le hbl h))
  have e40 : ad 40 = ad 40 := rfl
  have e00 : ad 0 = ad 0 := rfl
  obtain ⟨H, hH⟩ : ∃ H : Heap, H = s.heap := ⟨_, rfl⟩
  have hS : va_S A s.heap H [] := by rw [hH]; exact va_S.rf
  have hP : va_P (dC, dI) vwCl (iwT (tL a b c) ad cy bS a b c d r I D K M) H := by rw [hH]; exact hP
  suffices hgo : ∀ locs, va_S A s.heap H locs → W p l e (headSpec wsX5_store ({ frames := 2, cells := 1, slots := 4, locals := 90 })).room s m ([.ref (ad 40)] : List Value).toArray below meth cX H locs 0 0 (MQ below (va_Qi (fun r (_ : Unit) => rr = r) (fun _ t => ∃ ad1 : Nat → Nat, tOK (tL a9 b9 c9) a9 b9 c9 d9 bS ad1 ∧ tX (tL a b c) (tL a9 b9 c9) ad ad1 s.heap.size ∧ tW dC dI (tL a9 b9 c9) ad1 cy bS a9 b9 c9 d9 r LS xs I9 D9 K9 M9 t) A) ([.ref (ad 40)] : List Value).toArray s 1 4 A) (entryFrame m ([.ref (ad 40)] : List Value).toArray 3) by subst hH; exact hgo [] hS
  clear hS hH
  intro locs hS
  have hl := lv_entry ([.ref (ad 40)]) (n := 3) (Nat.le_of_ble_eq_true rfl)
  rw [lg_entry_eq]
  generalize (lg_sl ([.ref (ad 40)]) ++ List.replicate (3 - (lg_sl ([.ref (ad 40)])).length) Slot.unset).toArray = ls at hl ⊢
  have hl : lv_has ls 3 [(0, .ref (ad 40))] := hl
  unfold f_T_store at hf
  refine lv_bipush (v := (-30)) hx hb dX5_store_0 (by decide) ?_
  refine lv_aload_n hx hb dX5_store_2 rfl (lv_at hl 0 rfl) ?_
  refine lv_bipush (v := 21) hx hb dX5_store_3 (by decide) ?_
  obtain ⟨⟨r_1, K_3⟩, g_2, hf⟩ := bd_out hf
  have hAW : ∀ q, AT (tL a b c) ad H.size q → A q := fun q h => h.elim (fun ⟨k, k1, k2⟩ => k2 ▸ hAL k k1) (fun h => hA q (Nat.le_trans hS.1 h))
  obtain ⟨q_4, wq_4, heq_4⟩ := heT_40 (L := (tL a b c)) (ad := ad) (cy := cy) (bS := bS) (a := a) (b := b) (c := c) (d := d) (r := r) (I := I) (D := D) (K := K) (M := M) hM
  refine va_calli (va_runV (As := [.int 21]) (rest := [.int (-30)]) ⟨hx, hb, hml, hown, hts⟩ (mt_T_draw l dC dI (tL a b c) a b c d bS ad cy hM r LS xs H.size I D K M 21 r_1 K_3 g_2) (cwV 1 hts gX5_store_X5_draw rfl rfl rfl (by decide +kernel) ⟨(Nat.le_of_ble_eq_true rfl), (Nat.le_of_ble_eq_true rfl)⟩) ⟨(tW.pre [.ref (ad 40), .int 21] hP hK hN (hX0.kept (hS.2.1 bS hbl hbA))).1, tW.recv (C := RX5) (T := TX5) (N := 11) hP hK heq_4 rfl, (tW.pre [.ref (ad 40), .int 21] hP hK hN (hX0.kept (hS.2.1 bS hbl hbA))).2⟩ rfl rfl hl.1 rfl (lv_room (Nat.le_of_ble_eq_true rfl)) dX5_store_5 ⟨(Nat.le_of_ble_eq_true rfl), (Nat.le_of_ble_eq_true rfl)⟩) hS (fun q _ h => hAW q h) (fun q h => hAW q h) (fun r9 u t H1 locs ht hvm hw hB hz1 hk1 hS9 => ?_)
  subst hw
  have hP : va_P (dC, dI) vwCl (iwT (tL a b c) ad cy bS a b c d r I D K_3 M) H1 := by rw [← ht]; exact hB.1
  have hS := hS9
  clear hB hz1 hk1 hvm ht hS9
  generalize H1 = H at hP hS ⊢
  refine lv_iadd hx hb dX5_store_8 ?_
  refine lv_istore_n (lv' := [(1, .int ((-30) + r_1)), (0, .ref (ad 40))]) hx hb dX5_store_9 rfl hl (by decide) rfl (fun ls hl => ?_)
  refine lv_aload_n hx hb dX5_store_10 rfl (lv_at hl 1 rfl) ?_
  obtain ⟨q_5, wq_5, heq_5⟩ := heT_40 (L := (tL a b c)) (ad := ad) (cy := cy) (bS := bS) (a := a) (b := b) (c := c) (d := d) (r := r) (I := I) (D := D) (K := K_3) (M := M) hM
  refine va_get (D := (dC, dI)) (ci := 5) (v := .ref (ad 46)) (C := RX5) (T := TX5) (N := 11) hx hb hts iT_store_RX5 hown hK hP q_5 heq_5 rfl 7 (by decide) (hts (.fieldLink RX5 32 "OverrunHouseLaw$Told" "sets" "[I") (List.mem_cons_of_mem _ (List.mem_append_left _ (List.mem_append_left _ (List.mem_append_left _ (List.mem_append_left _ (List.mem_append_left _ (List.mem_append_left _ (List.mem_of_getElem? (i := 0) rfl))))))))) (fun _ h9 => h9) rfl dX5_store_11 ?_
  obtain ⟨q_6, wq_6, heq_6⟩ := heT_46 (L := (tL a b c)) (ad := ad) (cy := cy) (bS := bS) (a := a) (b := b) (c := c) (d := d) (r := r) (I := I) (D := D) (K := K_3) (M := M) hM
  refine va_alen (v := nI d) hx hb hK hP q_6 0 heq_6 rfl rfl dX5_store_14 ?_
  refine lv_iconst (v := 1) hx hb dX5_store_15 (by decide) ?_
  refine lv_iadd hx hb dX5_store_16 ?_
  refine va_newa (atype := .int) (ty := .int) (N' := (d + 1)) (a0 := ((d + 1), .inl (fun _ => 0))) (D := (dC, dI)) (cl := vwCl) hx hb (hts (.arrayClass .int) (List.mem_cons_of_mem _ (List.mem_append_left _ (List.mem_append_left _ (List.mem_append_left _ (List.mem_append_left _ (List.mem_append_left _ (List.mem_append_left _ (List.mem_of_getElem? (i := 1) rfl))))))))) rfl hK hP (hDD r I D K_3 M) hS hA (fun cA => va_arr0 cA (d + 1)) (by rw [nI_1]; exact nI_pos (by have := hM.2.2; omega)) (by rw [nI_1]; exact nI_clamp (by have := hM.2.2; omega)) (by have := hM.2.2; show (d + 1) * 4 ≤ 536870912; omega) (by show 0 + 1 ≤ 1; omega) (by have := hM.2.2; show 0 + (d + 1) ≤ 4; omega) dX5_store_17 (fun q_7 cA_8 H hKt hP hD hS => ?_)
  obtain rfl : cA_8 = cy 0 := cy_same hKt 0 rfl rfl
  obtain ⟨K_15, eK_15, hf⟩ := nm_out hf
  obtain ⟨ad_11, hM_12, hP, hAL_13, hE_9, hq_10⟩ := t_new (r1 := (d + 1)) (K1 := (va_up K_3 34 (fun _ => 0))) (M1 := M) (Or.inl rfl) (fun hk => (tL_lt hM.2.2.1 hM.2.2.2.1 hM.2.2.2.2.1 hk).1 rfl) (fun k hk => Or.inl hk) hM hP hD hbA (fun hk => absurd hk (fun hk => (tL_lt hM.2.2.1 hM.2.2.2.1 hM.2.2.2.2.1 hk).1 rfl)) (fun ad1 => (cellT_34 ad1 cy bS a b c d (d + 1) _ _).trans (by rw [va_up_self])) (fun k hk => va_up_ne _ _ hk) (fun _ _ => rfl)
  have hF_16 : ∀ k ∈ tL a b c, ad_11 k = ad k := fun k hk => hE_9 k hk
  rw [← eK_15] at hP
  have hDD_14 : ∀ r I D K M, va_D A (iwT (tL a b c ++ [34]) ad_11 cy bS a b c d r I D K M) := fun r I D K M => iwT_D hM_12 hAL_13 I D K M
  have hl : lv_has ls 3 [(1, .int ((-30) + r_1)), (0, .ref (ad_11 40))] := by rw [hE_9 40 (tL_c (by decide))]; exact hl
  refine W.eq (g2 := F0 m 19 ls [.ref (ad_11 34)]) (by rw [hq_10]) ?_
  have e4_17 := (hE_9 40 (tL_c (by decide))).trans e40
  have e0_18 := (hE_9 0 (tL_H (by decide))).trans e00
  refine W.widen (k := 1) (n := 4) (Nat.le_refl _) (by have := hM_12.2.2; omega) ?_
  refine lv_astore_n (lv' := [(2, .ref (ad_11 34)), (1, .int ((-30) + r_1)), (0, .ref (ad_11 40))]) hx hb dX5_store_19 rfl hl (by decide) rfl (fun ls hl => ?_)
  refine lv_aload_n hx hb dX5_store_20 rfl (lv_at hl 2 rfl) ?_
  obtain ⟨q_19, wq_19, heq_19⟩ := heT_40 (L := (tL a b c ++ [34])) (ad := ad_11) (cy := cy) (bS := bS) (a := a) (b := b) (c := c) (d := d) (r := (d + 1)) (I := I) (D := D) (K := K_15) (M := M) hM_12
  refine va_get (D := (dC, dI)) (ci := 5) (v := .ref (ad_11 46)) (C := RX5) (T := TX5) (N := 11) hx hb hts iT_store_RX5 hown hK hP q_19 heq_19 rfl 7 (by decide) (hts (.fieldLink RX5 32 "OverrunHouseLaw$Told" "sets" "[I") (List.mem_cons_of_mem _ (List.mem_append_left _ (List.mem_append_left _ (List.mem_append_left _ (List.mem_append_left _ (List.mem_append_left _ (List.mem_append_left _ (List.mem_of_getElem? (i := 0) rfl))))))))) (fun _ h9 => h9) rfl dX5_store_21 ?_
  refine lv_iconst (v := 0) hx hb dX5_store_24 (by decide) ?_
  refine lv_aload_n hx hb dX5_store_25 rfl (lv_at hl 0 rfl) ?_
  refine lv_iconst (v := 0) hx hb dX5_store_26 (by decide) ?_
  refine lv_aload_n hx hb dX5_store_27 rfl (lv_at hl 2 rfl) ?_
  obtain ⟨q_20, wq_20, heq_20⟩ := heT_40 (L := (tL a b c ++ [34])) (ad := ad_11) (cy := cy) (bS := bS) (a := a) (b := b) (c := c) (d := d) (r := (d + 1)) (I := I) (D := D) (K := K_15) (M := M) hM_12
  refine va_get (D := (dC, dI)) (ci := 5) (v := .ref (ad_11 46)) (C := RX5) (T := TX5) (N := 11) hx hb hts iT_store_RX5 hown hK hP q_20 heq_20 rfl 7 (by decide) (hts (.fieldLink RX5 32 "OverrunHouseLaw$Told" "sets" "[I") (List.mem_cons_of_mem _ (List.mem_append_left _ (List.mem_append_left _ (List.mem_append_left _ (List.mem_append_left _ (List.mem_append_left _ (List.mem_append_left _ (List.mem_of_getElem? (i := 0) rfl))))))))) (fun _ h9 => h9) rfl dX5_store_28 ?_
  obtain ⟨q_21, wq_21, heq_21⟩ := heT_46 (L := (tL a b c ++ [34])) (ad := ad_11) (cy := cy) (bS := bS) (a := a) (b := b) (c := c) (d := d) (r := (d + 1)) (I := I) (D := D) (K := K_15) (M := M) hM_12
  refine va_alen (v := nI d) hx hb hK hP q_21 0 heq_21 rfl rfl dX5_store_31 ?_
  obtain ⟨q_22, wq_22, heq_22⟩ := heT_46 (L := (tL a b c ++ [34])) (ad := ad_11) (cy := cy) (bS := bS) (a := a) (b := b) (c := c) (d := d) (r := (d + 1)) (I := I) (D := D) (K := K_15) (M := M) hM_12
  obtain ⟨q_23, wq_23, heq_23⟩ := heT_34 (L := (tL a b c ++ [34])) (ad := ad_11) (cy := cy) (bS := bS) (a := a) (b := b) (c := c) (d := d) (r := (d + 1)) (I := I) (D := D) (K := K_15) (M := M) (List.mem_append_right _ (by decide))
  obtain ⟨K_24, eK_24, hf⟩ := nm_out hf
  refine va_copyi (n := (nI d)) (sp := 0) (dp := 0) hx hb (by rw [hml]; exact hl.1.symm) hown (hts (.methodLink RX5 61 arraycopyName) (List.mem_cons_of_mem _ (List.mem_append_left _ (List.mem_append_left _ (List.mem_append_left _ (List.mem_append_left _ (List.mem_append_left _ (List.mem_append_left _ (List.mem_of_getElem? (i := 2) rfl))))))))) (hts (.native arraycopyName) (List.mem_cons_of_mem _ (List.mem_append_left _ (List.mem_append_left _ (List.mem_append_left _ (List.mem_append_left _ (List.mem_append_left _ (List.mem_append_left _ (List.mem_of_getElem? (i := 3) rfl))))))))) (hts (.static arraycopyName) (List.mem_cons_of_mem _ (List.mem_append_left _ (List.mem_append_left _ (List.mem_append_left _ (List.mem_append_left _ (List.mem_append_left _ (List.mem_append_left _ (List.mem_of_getElem? (i := 4) rfl))))))))) (hts (.initialized "java/lang/System") (List.mem_cons_of_mem _ (List.mem_append_left _ (List.mem_append_left _ (List.mem_append_left _ (List.mem_append_left _ (List.mem_append_left _ (List.mem_append_left _ (List.mem_of_getElem? (i := 5) rfl))))))))) hK hP (hDD_14 (d + 1) I D K_15 M) hS q_22 q_23 0 0 heq_22 heq_23 rfl rfl rfl (by decide) (by decide) (nI_pos (by have := hM_12.2.2; omega)) (by rw [nI_clamp (by have := hM_12.2.2; omega)]; show 0 + d ≤ d; omega) (by rw [nI_clamp (by have := hM_12.2.2; omega)]; show 0 + d ≤ d + 1; omega) (fun _ _ => rfl) (Nat.le_of_ble_eq_true rfl) (Nat.le_of_ble_eq_true rfl) dX5_store_32 (fun H locs hP _ hS => ?_)
  have hP : va_P (dC, dI) vwCl (iwT (tL a b c ++ [34]) ad_11 cy bS a b c d (d + 1) I D K_24 M) H := by rw [eK_24]; exact hqR hM_12 wq_23 (by decide) (cellT_34 ad_11 cy bS a b c d (d + 1) _ _) hP
  refine lv_aload_n hx hb dX5_store_35 rfl (lv_at hl 0 rfl) ?_
  refine lv_aload_n hx hb dX5_store_36 rfl (lv_at hl 2 rfl) ?_
  obtain ⟨q_25, wq_25, heq_25⟩ := heT_40 (L := (tL a b c ++ [34])) (ad := ad_11) (cy := cy) (bS := bS) (a := a) (b := b) (c := c) (d := d) (r := (d + 1)) (I := I) (D := D) (K := K_24) (M := M) hM_12
  refine va_get (D := (dC, dI)) (ci := 5) (v := .ref (ad_11 46)) (C := RX5) (T := TX5) (N := 11) hx hb hts iT_store_RX5 hown hK hP q_25 heq_25 rfl 7 (by decide) (hts (.fieldLink RX5 32 "OverrunHouseLaw$Told" "sets" "[I") (List.mem_cons_of_mem _ (List.mem_append_left _ (List.mem_append_left _ (List.mem_append_left _ (List.mem_append_left _ (List.mem_append_left _ (List.mem_append_left _ (List.mem_of_getElem? (i := 0) rfl))))))))) (fun _ h9 => h9) rfl dX5_store_37 ?_
  obtain ⟨q_26, wq_26, heq_26⟩ := heT_46 (L := (tL a b c ++ [34])) (ad := ad_11) (cy := cy) (bS := bS) (a := a) (b := b) (c := c) (d := d) (r := (d + 1)) (I := I) (D := D) (K := K_24) (M := M) hM_12
  refine va_alen (v := nI d) hx hb hK hP q_26 0 heq_26 rfl rfl dX5_store_40 ?_
  refine lv_iload_n hx hb dX5_store_41 rfl (lv_at hl 1 rfl) ?_
  obtain ⟨q_27, wq_27, heq_27⟩ := heT_34 (L := (tL a b c ++ [34])) (ad := ad_11) (cy := cy) (bS := bS) (a := a) (b := b) (c := c) (d := d) (r := (d + 1)) (I := I) (D := D) (K := K_24) (M := M) (List.mem_append_right _ (by decide))
  obtain ⟨h_28, hf⟩ := ck_out hf
  obtain ⟨K_29, eK_29, hf⟩ := nm_out hf
  refine va_iast (n := (d + 1)) (f := K_24 34) hx hb hK hP (hDD_14 (d + 1) I D K_24 M) hS q_27 0 heq_27 rfl (inB_in h_28) dX5_store_42 (fun H locs hP _ hS => ?_)
  have hP : va_P (dC, dI) vwCl (iwT (tL a b c ++ [34]) ad_11 cy bS a b c d (d + 1) I D K_29 M) H := by rw [eK_29]; exact hqK hM_12 wq_27 (by decide) ((cellT_34 ad_11 cy bS a b c d (d + 1) _ _).trans rfl) hP
  refine lv_aload_n hx hb dX5_store_43 rfl (lv_at hl 2 rfl) ?_
  obtain ⟨q_30, wq_30, heq_30⟩ := heT_40 (L := (tL a b c ++ [34])) (ad := ad_11) (cy := cy) (bS := bS) (a := a) (b := b) (c := c) (d := d) (r := (d + 1)) (I := I) (D := D) (K := K_29) (M := M) hM_12
  refine va_get (D := (dC, dI)) (ci := 5) (v := .ref (ad_11 43)) (C := RX5) (T := TX5) (N := 11) hx hb hts iT_store_RX5 hown hK hP q_30 heq_30 rfl 8 (by decide) (hts (.fieldLink RX5 35 "OverrunHouseLaw$Told" "temps" "[D") (List.mem_cons_of_mem _ (List.mem_append_left _ (List.mem_append_left _ (List.mem_append_left _ (List.mem_append_left _ (List.mem_append_left _ (List.mem_append_left _ (List.mem_of_getElem? (i := 6) rfl))))))))) (fun _ h9 => h9) rfl dX5_store_44 ?_
  refine lv_aload_n hx hb dX5_store_47 rfl (lv_at hl 2 rfl) ?_
  obtain ⟨q_31, wq_31, heq_31⟩ := heT_40 (L := (tL a b c ++ [34])) (ad := ad_11) (cy := cy) (bS := bS) (a := a) (b := b) (c := c) (d := d) (r := (d + 1)) (I := I) (D := D) (K := K_29) (M := M) hM_12
  refine va_get (D := (dC, dI)) (ci := 5) (v := .ref (ad_11 46)) (C := RX5) (T := TX5) (N := 11) hx hb hts iT_store_RX5 hown hK hP q_31 heq_31 rfl 7 (by decide) (hts (.fieldLink RX5 32 "OverrunHouseLaw$Told" "sets" "[I") (List.mem_cons_of_mem _ (List.mem_append_left _ (List.mem_append_left _ (List.mem_append_left _ (List.mem_append_left _ (List.mem_append_left _ (List.mem_append_left _ (List.mem_of_getElem? (i := 0) rfl))))))))) (fun _ h9 => h9) rfl dX5_store_48 ?_
  obtain ⟨q_32, wq_32, heq_32⟩ := heT_46 (L := (tL a b c ++ [34])) (ad := ad_11) (cy := cy) (bS := bS) (a := a) (b := b) (c := c) (d := d) (r := (d + 1)) (I := I) (D := D) (K := K_29) (M := M) hM_12
  refine va_alen (v := nI d) hx hb hK hP q_32 0 heq_32 rfl rfl dX5_store_51 ?_
  refine lv_iload_n hx hb dX5_store_52 rfl (lv_at hl 1 rfl) ?_
  refine lv_i2d hx hb dX5_store_53 ?_
  obtain ⟨q_33, wq_33, heq_33⟩ := heT_43 (L := (tL a b c ++ [34])) (ad := ad_11) (cy := cy) (bS := bS) (a := a) (b := b) (c := c) (d := d) (r := (d + 1)) (I := I) (D := D) (K := K_29) (M := M) hM_12
  obtain ⟨h_34, hf⟩ := ck_out hf
  obtain ⟨M_35, eM_35, hf⟩ := nm_out hf
  refine va_dast (n := 3) (f := M 43) hx hb hK hP (hDD_14 (d + 1) I D K_29 M) hS q_33 6 heq_33 rfl (inB_in h_34) dX5_store_54 (fun H locs hP _ hS => ?_)
  have hP : va_P (dC, dI) vwCl (iwT (tL a b c ++ [34]) ad_11 cy bS a b c d (d + 1) I D K_29 M_35) H := by rw [eM_35]; exact hqM hM_12 wq_33 (by decide) ((cellT_43 ad_11 cy bS a b c d (d + 1) _ _).trans rfl) hP
  refine lv_aload_n hx hb dX5_store_55 rfl (lv_at hl 2 rfl) ?_
  refine lv_aload_n hx hb dX5_store_56 rfl (lv_at hl 0 rfl) ?_
  obtain ⟨q_36, wq_36, heq_36⟩ := heT_40 (L := (tL a b c ++ [34])) (ad := ad_11) (cy := cy) (bS := bS) (a := a) (b := b) (c := c) (d := d) (r := (d + 1)) (I := I) (D := D) (K := K_29) (M := M_35) hM_12
  obtain ⟨h_37, hf⟩ := ck_out hf
  obtain ⟨K_38, eK_38, hf⟩ := nm_out hf
  refine va_put (D := (dC, dI)) (ci := 5) (v := .ref (ad_11 34)) (ty := .array .int) (C := RX5) (T := TX5) (N := 11) hx hb hts iT_store_RX5 tyX5 tyX5_ok nmX5 hown hK hP (hDD_14 (d + 1) I D K_29 M_35) hS q_36 heq_36 rfl 7 (by decide) (hts (.fieldLink RX5 32 "OverrunHouseLaw$Told" "sets" "[I") (List.mem_cons_of_mem _ (List.mem_append_left _ (List.mem_append_left _ (List.mem_append_left _ (List.mem_append_left _ (List.mem_append_left _ (List.mem_append_left _ (List.mem_of_getElem? (i := 0) rfl))))))))) (fun _ h9 => h9) rfl (by decide +kernel) rfl rfl (Nat.le_of_ble_eq_true rfl) dX5_store_57 (fun H locs hP hD hS => ?_)
  obtain ⟨ad_39, hM_40, hP, hAL_41, e4_43, e0_44, -⟩ := t_sets (of_decide_eq_true h_37) hM_12 wq_36 hP hD r
  have e4_45 := e4_43.trans e4_17
  have e0_46 := e0_44.trans e0_18
  rw [← eK_38] at hP
  have hDD_42 : ∀ r I D K M, va_D A (iwT (tL a b c) ad_39 cy bS a b c (d + 1) r I D K M) := fun r I D K M => iwT_D hM_40 hAL_41 I D K M
  have hl : lv_has ls 3 [(1, .int ((-30) + r_1)), (0, .ref (ad_39 40))] := by rw [e4_43]; exact lv_sub hl [1, 2] rfl
  refine lv_aload_n hx hb dX5_store_60 rfl (lv_at hl 1 rfl) ?_
  obtain ⟨q_47, wq_47, heq_47⟩ := heT_40 (L := (tL a b c)) (ad := ad_39) (cy := cy) (bS := bS) (a := a) (b := b) (c := c) (d := (d + 1)) (r := r) (I := I) (D := D) (K := K_38) (M := M_35) hM_40
  refine va_get (D := (dC, dI)) (ci := 5) (v := .ref (ad_39 0)) (C := RX5) (T := TX5) (N := 11) hx hb hts iT_store_RX5 hown hK hP q_47 heq_47 rfl 0 (by decide) (hts (.fieldLink RX5 10 "OverrunHouseLaw$Told" "m" "LOverrunHouse;") (List.mem_cons_of_mem _ (List.mem_append_left _ (List.mem_append_left _ (List.mem_append_left _ (List.mem_append_left _ (List.mem_append_left _ (List.mem_append_left _ (List.mem_of_getElem? (i := 7) rfl))))))))) (fun _ h9 => h9) rfl dX5_store_61 ?_
  refine lv_iload_n hx hb dX5_store_64 rfl (lv_at hl 0 rfl) ?_
  obtain ⟨⟨r_48, I_50, D_51⟩, g_49, hf⟩ := bd_out hf
  have hPH := iwT_H hM_40 hP
  have hAW : ∀ q, AW ad_39 H.size q → A q := fun q h => h.elim (fun ⟨k, k1, k2⟩ => k2 ▸ hAL_41 k (hM_40.1.2.1 _ (tL_H k1))) (fun h => hA q (Nat.le_trans hS.1 h))
  refine va_calli (va_runV (As := [.int ((-30) + r_1)]) (rest := []) ⟨hx, hb, hml, hown, hts⟩ (mt_X4_store l dC dI ad_39 cy hM_40.J H.size I D ((-30) + r_1) r_48 I_50 D_51 (eO_out g_49)) (cwV 1 hts gX5_store_X4_store rfl rfl rfl (by decide +kernel) ⟨(Nat.le_of_ble_eq_true rfl), (Nat.le_of_ble_eq_true rfl)⟩) ⟨(hW.pre [.ref (ad_39 0), .int ((-30) + r_1)] hPH hK hN.1).1, hW.recv (C := RX4) (T := TX4) (N := 14) hPH hK heH_0 rfl, (hW.pre [.ref (ad_39 0), .int ((-30) + r_1)] hPH hK hN.1).2⟩ rfl rfl hl.1 rfl (lv_room (Nat.le_of_ble_eq_true rfl)) dX5_store_65 ⟨(Nat.le_of_ble_eq_true rfl), (Nat.le_of_ble_eq_true rfl)⟩) hS (fun q _ h => hAW q h) (fun q h => hAW q h) (fun r9 u t H1 locs ht hvm hw hB hz1 hk1 hS9 => ?_)
  subst hw
  have hP : va_P (dC, dI) vwCl (iwT (tL a b c) ad_39 cy bS a b c (d + 1) r I_50 D_51 K_38 M_35) H1 := iwT_join hM_40 hP (by rw [← ht]; exact hB.1) hk1
  have hS := hS9
  clear hB hz1 hk1 hvm ht hS9
  generalize H1 = H at hP hS ⊢
  refine lv_aload_n hx hb dX5_store_68 rfl (lv_at hl 1 rfl) ?_
  obtain ⟨q_52, wq_52, heq_52⟩ := heT_40 (L := (tL a b c)) (ad := ad_39) (cy := cy) (bS := bS) (a := a) (b := b) (c := c) (d := (d + 1)) (r := r) (I := I_50) (D := D_51) (K := K_38) (M := M_35) hM_40
  refine va_get (D := (dC, dI)) (ci := 5) (v := .ref (ad_39 46)) (C := RX5) (T := TX5) (N := 11) hx hb hts iT_store_RX5 hown hK hP q_52 heq_52 rfl 7 (by decide) (hts (.fieldLink RX5 32 "OverrunHouseLaw$Told" "sets" "[I") (List.mem_cons_of_mem _ (List.mem_append_left _ (List.mem_append_left _ (List.mem_append_left _ (List.mem_append_left _ (List.mem_append_left _ (List.mem_append_left _ (List.mem_of_getElem? (i := 0) rfl))))))))) (fun _ h9 => h9) rfl dX5_store_69 ?_
  obtain ⟨q_53, wq_53, heq_53⟩ := heT_46 (L := (tL a b c)) (ad := ad_39) (cy := cy) (bS := bS) (a := a) (b := b) (c := c) (d := (d + 1)) (r := r) (I := I_50) (D := D_51) (K := K_38) (M := M_35) hM_40
  refine va_alen (v := nI (d + 1)) hx hb hK hP q_53 0 heq_53 rfl rfl dX5_store_72 ?_
  refine lv_iconst (v := 1) hx hb dX5_store_73 (by decide) ?_
  refine lv_isub hx hb dX5_store_74 ?_
  refine lv_icmp_ne (tgt := 82) hx hb dX5_store_75 (by decide) (fun c_54 => ?_) (fun c_54 => ?_)
  · have hf := it_f hf c_54
    refine lv_iconst (v := 0) hx hb dX5_store_82 (by decide) ?_
    have hf := Option.some.inj hf
    obtain ⟨q1, hf⟩ := Prod.mk.inj hf
    obtain ⟨ga, hf⟩ := Prod.mk.inj hf
    obtain ⟨gb, hf⟩ := Prod.mk.inj hf
    obtain ⟨gc, hf⟩ := Prod.mk.inj hf
    obtain ⟨gd, hf⟩ := Prod.mk.inj hf
    obtain ⟨qI, hf⟩ := Prod.mk.inj hf
    obtain ⟨qD, hf⟩ := Prod.mk.inj hf
    obtain ⟨qK, qM⟩ := Prod.mk.inj hf
    exact W.zret (ty := .boolean) (v := 0) hx hb hr rfl (fun t ht hW9 => ⟨⟨0, (), rfl, q1.symm, (by rw [← ga, ← gb, ← gc, ← gd, ← qI, ← qD, ← qK, ← qM]; exact ⟨ad_39, hM_40, ⟨fun k hk => by rw [hAe]; exact hAL_41 k hk, e4_45, e0_46⟩, tW.of hP hK hN (hX0.kept (hS.2.1 bS hbl hbA)) ht hW9⟩)⟩, hS.F ht⟩) hS.2.2 dX5_store_83
  · have hf := it_t hf c_54
    refine lv_iconst (v := 1) hx hb dX5_store_78 (by decide) ?_
    refine lv_goto (tgt := 83) hx hb dX5_store_79 (by decide) ?_
    have hf := Option.some.inj hf
    obtain ⟨q1, hf⟩ := Prod.mk.inj hf
    obtain ⟨ga, hf⟩ := Prod.mk.inj hf
    obtain ⟨gb, hf⟩ := Prod.mk.inj hf
    obtain ⟨gc, hf⟩ := Prod.mk.inj hf
    obtain ⟨gd, hf⟩ := Prod.mk.inj hf
    obtain ⟨qI, hf⟩ := Prod.mk.inj hf
    obtain ⟨qD, hf⟩ := Prod.mk.inj hf
    obtain ⟨qK, qM⟩ := Prod.mk.inj hf
    exact W.zret (ty := .boolean) (v := 1) hx hb hr rfl (fun t ht hW9 => ⟨⟨1, (), rfl, q1.symm, (by rw [← ga, ← gb, ← gc, ← gd, ← qI, ← qD, ← qK, ← qM]; exact ⟨ad_39, hM_40, ⟨fun k hk => by rw [hAe]; exact hAL_41 k hk, e4_45, e0_46⟩, tW.of hP hK hN (hX0.kept (hS.2.1 bS hbl hbA)) ht hW9⟩)⟩, hS.F ht⟩) hS.2.2 dX5_store_83

def f_T_founded_L24 (LS : Nat) (xs : Nat → Int32) (M : Nat → Nat → UInt64) : Nat → Int32 → Nat → Nat → Nat → Nat → (Nat → Nat → Int32) → (Nat → Nat → UInt64) → (Nat → Nat → Int32) → Option (Int32 × Nat × Nat × Nat × Nat × (Nat → Nat → Int32) × (Nat → Nat → UInt64) × (Nat → Nat → Int32) × (Nat → Nat → UInt64))
  | 0, _, _, _, _, _, _, _, _ => none
  | n24 + 1, x1_24, a_24, b_24, c_24, d_24, I_L24, D_L24, K_L24 => (if 3 ≤ x1_24 then bd (f_T_store LS xs a_24 b_24 c_24 d_24 I_L24 D_L24 K_L24 M ) (fun (r_3, a_5, b_6, c_7, d_8, I_9, D_10, K_11, M_12) => (if r_3 = 0 then some (0, a_5, b_6, c_7, d_8, I_9, D_10, K_11, M_12) else bd (f_T_store LS xs a_5 b_6 c_7 d_8 I_9 D_10 K_11 M_12 ) (fun (r_22, a_24, b_25, c_26, d_27, I_28, D_29, K_30, M_31) => (if r_22 = 0 then some (0, a_24, b_25, c_26, d_27, I_28, D_29, K_30, M_31) else some (1, a_24, b_25, c_26, d_27, I_28, D_29, K_30, M_31))))) else bd (f_T_mix LS xs a_24 b_24 c_24 d_24 I_L24 D_L24 K_L24 M ) (fun (r_41, a_43, b_44, c_45, d_46, I_47, D_48, K_49) => (if r_41 = 0 then some (0, a_43, b_44, c_45, d_46, I_47, D_48, K_49, M) else bd (f_T_heat LS xs a_43 b_44 c_45 d_46 I_47 D_48 K_49 M x1_24) (fun (r_59, I_61, D_62, K_63) => (if r_59 = 0 then some (0, a_43, b_44, c_45, d_46, I_61, D_62, K_63, M) else f_T_founded_L24 LS xs M n24 (x1_24 + 1) a_43 b_44 c_45 d_46 I_61 D_62 K_63)))))
def f_T_founded_L2 (LS : Nat) (xs : Nat → Int32) (M : Nat → Nat → UInt64) : Nat → Int32 → Nat → Nat → Nat → Nat → (Nat → Nat → Int32) → (Nat → Nat → UInt64) → (Nat → Nat → Int32) → Option (Int32 × Nat × Nat × Nat × Nat × (Nat → Nat → Int32) × (Nat → Nat → UInt64) × (Nat → Nat → Int32) × (Nat → Nat → UInt64))
  | 0, _, _, _, _, _, _, _, _ => none
  | n2 + 1, x1_2, a_2, b_2, c_2, d_2, I_L2, D_L2, K_L2 => (if 4 ≤ x1_2 then f_T_founded_L24 LS xs M 4 0 a_2 b_2 c_2 d_2 I_L2 D_L2 K_L2 else bd (f_T_ingredient LS xs a_2 b_2 c_2 d_2 I_L2 D_L2 K_L2 M ) (fun (r_66, a_68, b_69, c_70, d_71, I_72, D_73, K_74) => (if r_66 = 0 then some (0, a_68, b_69, c_70, d_71, I_72, D_73, K_74, M) else f_T_founded_L2 LS xs M n2 (x1_2 + 1) a_68 b_69 c_70 d_71 I_72 D_73 K_74)))
def f_T_founded (LS : Nat) (xs : Nat → Int32) (a b c d : Nat) (I : Nat → Nat → Int32) (D : Nat → Nat → UInt64) (K : Nat → Nat → Int32) (M : Nat → Nat → UInt64) : Option (Int32 × Nat × Nat × Nat × Nat × (Nat → Nat → Int32) × (Nat → Nat → UInt64) × (Nat → Nat → Int32) × (Nat → Nat → UInt64)) :=
  f_T_founded_L2 LS xs M 5 0 a b c d I D K
set_option maxHeartbeats 4000000 in
set_option maxRecDepth 100000 in
theorem mt_T_founded (l : Launch) (dC : Nat → ClassId) (dI : Nat → Nat → Nat) (a b c d bS : Nat) (ad : Nat → Nat) (cy : Nat → ClassId) (hM : tOK (tL a b c) a b c d bS ad) (r LS : Nat) (xs : Nat → Int32) (sz : Nat) (I : Nat → Nat → Int32) (D : Nat → Nat → UInt64) (K : Nat → Nat → Int32) (M : Nat → Nat → UInt64) (rr : Int32) (a9 : Nat) (b9 : Nat) (c9 : Nat) (d9 : Nat) (I9 : Nat → Nat → Int32) (D9 : Nat → Nat → UInt64) (K9 : Nat → Nat → Int32) (M9 : Nat → Nat → UInt64) (hf : f_T_founded LS xs a b c d I D K M = some (rr, a9, b9, c9, d9, I9, D9, K9, M9)) : Met l yX5_founded wsX5_founded ({ frames := 5, cells := 20, slots := 240, locals := 137 }) (va_Pc [.ref (ad 40)] (fun U => U.heap.size = sz ∧ tW dC dI (tL a b c) ad cy bS a b c d r LS xs I D K M U)) (va_Qi (fun r (_ : Unit) => rr = r) (fun _ t => ∃ ad1 : Nat → Nat, tOK (tL a9 b9 c9) a9 b9 c9 d9 bS ad1 ∧ tX (tL a b c) (tL a9 b9 c9) ad ad1 sz ∧ tW dC dI (tL a9 b9 c9) ad1 cy bS a9 b9 c9 d9 r LS xs I9 D9 K9 M9 t) (AT (tL a b c) ad sz)) 20 240 (AT (tL a b c) ad sz) := by
  refine Met.ofW (cc := cX5_founded) (maxL := 2) (ret := (some .boolean)) (by decide) rfl ?_
  intro p e s m args below meth cX s₁ B hml hv
  obtain ⟨rfl, hsz, hP, hK, hN, hX0⟩ := hv
  have hx := B.exec
  have hb := B.bytes
  have hr := B.returns
  have hts := atoms_spec (ws := wsX5_founded) B.pre
  have hown : s.vm.findClass RX5 = some m.cls := findClass_of_methodNamed B.named
  have hlocks := B.notSynchronized
  subst hsz
  have hbl : bS < s.heap.size := by obtain ⟨scr, h, -⟩ := hX0; exact (Array.getElem?_eq_some_iff.mp h).1
  generalize hAe : AT (tL a b c) ad s.heap.size = A
  have hA : ∀ q : Nat, s.heap.size ≤ q → A q := fun q h => by rw [← hAe]; exact Or.inr h
  have hAL : ∀ k, k ∈ (tL a b c) → A (ad k) := fun k h => by rw [← hAe]; exact Or.inl ⟨k, h, rfl⟩
  have hDD : ∀ r I D K M, va_D A (iwT (tL a b c) ad cy bS a b c d r I D K M) := fun r I D K M => iwT_D hM hAL I D K M
  have hbA : ¬ A bS := fun h => by rw [← hAe] at h; exact h.elim (fun ⟨k, k1, k2⟩ => hM.2.1 k k1 k2) (fun h => Nat.lt_irrefl _ (Nat.lt_of_lt_of_le hbl h))
  have e40 : ad 40 = ad 40 := rfl
  have e00 : ad 0 = ad 0 := rfl
  obtain ⟨H, hH⟩ : ∃ H : Heap, H = s.heap := ⟨_, rfl⟩
  have hS : va_S A s.heap H [] := by rw [hH]; exact va_S.rf
  have hP : va_P (dC, dI) vwCl (iwT (tL a b c) ad cy bS a b c d r I D K M) H := by rw [hH]; exact hP
  suffices hgo : ∀ locs, va_S A s.heap H locs → W p l e (headSpec wsX5_founded ({ frames := 5, cells := 20, slots := 240, locals := 137 })).room s m ([.ref (ad 40)] : List Value).toArray below meth cX H locs 0 0 (MQ below (va_Qi (fun r (_ : Unit) => rr = r) (fun _ t => ∃ ad1 : Nat → Nat, tOK (tL a9 b9 c9) a9 b9 c9 d9 bS ad1 ∧ tX (tL a b c) (tL a9 b9 c9) ad ad1 s.heap.size ∧ tW dC dI (tL a9 b9 c9) ad1 cy bS a9 b9 c9 d9 r LS xs I9 D9 K9 M9 t) A) ([.ref (ad 40)] : List Value).toArray s 20 240 A) (entryFrame m ([.ref (ad 40)] : List Value).toArray 2) by subst hH; exact hgo [] hS
  clear hS hH
  intro locs hS
  have hl := lv_entry ([.ref (ad 40)]) (n := 2) (Nat.le_of_ble_eq_true rfl)
  rw [lg_entry_eq]
  generalize (lg_sl ([.ref (ad 40)]) ++ List.replicate (2 - (lg_sl ([.ref (ad 40)])).length) Slot.unset).toArray = ls at hl ⊢
  have hl : lv_has ls 2 [(0, .ref (ad 40))] := hl
  unfold f_T_founded at hf
  refine lv_iconst (v := 0) hx hb dX5_founded_0 (by decide) ?_
  refine lv_istore_n (lv' := [(1, .int 0), (0, .ref (ad 40))]) hx hb dX5_founded_1 rfl hl (by decide) rfl (fun ls hl => ?_)
  have L2 : ∀ (n2 : Nat) (x1_2 : Int32) (a_2 : Nat) (b_2 : Nat) (c_2 : Nat) (d_2 : Nat) (I_L2 : Nat → Nat → Int32) (D_L2 : Nat → Nat → UInt64) (K_L2 : Nat → Nat → Int32), f_T_founded_L2 LS xs M n2 x1_2 a_2 b_2 c_2 d_2 I_L2 D_L2 K_L2 = some (rr, a9, b9, c9, d9, I9, D9, K9, M9) → ∀ (ad_2 : Nat → Nat) (hM_2 : tOK (tL a_2 b_2 c_2) a_2 b_2 c_2 d_2 bS ad_2) (hALx_2 : ∀ k, k ∈ (tL a_2 b_2 c_2) → A (ad_2 k)) (e40_2 : ad_2 40 = ad 40) (e00_2 : ad_2 0 = ad 0), ∀ (H : Heap) (locs : List Loc) (ls : Array Slot), va_P (dC, dI) vwCl (iwT (tL a_2 b_2 c_2) ad_2 cy bS a_2 b_2 c_2 d_2 r I_L2 D_L2 K_L2 M) H → va_S A s.heap H locs → lv_has ls 2 [(1, .int x1_2), (0, .ref (ad_2 40))] → ∀ (cu2 su2 : Nat), cu2 + n2 * 2 ≤ 10 → su2 + n2 * 21 ≤ 105 → W p l e (headSpec wsX5_founded ({ frames := 5, cells := 20, slots := 240, locals := 137 })).room s m ([.ref (ad 40)] : List Value).toArray below meth cX H locs cu2 su2 (MQ below (va_Qi (fun r (_ : Unit) => rr = r) (fun _ t => ∃ ad1 : Nat → Nat, tOK (tL a9 b9 c9) a9 b9 c9 d9 bS ad1 ∧ tX (tL a b c) (tL a9 b9 c9) ad ad1 s.heap.size ∧ tW dC dI (tL a9 b9 c9) ad1 cy bS a9 b9 c9 d9 r LS xs I9 D9 K9 M9 t) A) ([.ref (ad 40)] : List Value).toArray s 20 240 A) (F0 m 2 ls []) := by
    intro n2
    induction n2 with
    | zero => intro x1_2 a_2 b_2 c_2 d_2 I_L2 D_L2 K_L2 hf; exact nomatch hf
    | succ n2 ih2 =>
      intro x1_2 a_2 b_2 c_2 d_2 I_L2 D_L2 K_L2 hf ad_2 hM_2 hALx_2 e40_2 e00_2 H locs ls hP hS hl cu2 su2 hcu2 hsu2
      unfold f_T_founded_L2 at hf
      have hAL_2 := hALx_2
      have hDD_2 : ∀ r I D K M, va_D A (iwT (tL a_2 b_2 c_2) ad_2 cy bS a_2 b_2 c_2 d_2 r I D K M) := fun r I D K M => iwT_D hM_2 hAL_2 I D K M
      refine lv_iload_n hx hb dX5_founded_2 rfl (lv_at hl 0 rfl) ?_
      refine lv_iconst (v := 4) hx hb dX5_founded_3 (by decide) ?_
      refine lv_icmp_ge (tgt := 22) hx hb dX5_founded_4 (by decide) (fun c_1 => ?_) (fun c_1 => ?_)
      · have hf := it_t hf c_1
        refine W.widen (k := 10) (n := 105) (by omega) (by omega) ?_
        refine lv_iconst (v := 0) hx hb dX5_founded_22 (by decide) ?_
        refine lv_istore_n (lv' := [(1, .int 0), (0, .ref (ad_2 40))]) hx hb dX5_founded_23 rfl hl (by decide) rfl (fun ls hl => ?_)
        have L24 : ∀ (n24 : Nat) (x1_24 : Int32) (a_24 : Nat) (b_24 : Nat) (c_24 : Nat) (d_24 : Nat) (I_L24 : Nat → Nat → Int32) (D_L24 : Nat → Nat → UInt64) (K_L24 : Nat → Nat → Int32), f_T_founded_L24 LS xs M n24 x1_24 a_24 b_24 c_24 d_24 I_L24 D_L24 K_L24 = some (rr, a9, b9, c9, d9, I9, D9, K9, M9) → ∀ (ad_24 : Nat → Nat) (hM_24 : tOK (tL a_24 b_24 c_24) a_24 b_24 c_24 d_24 bS ad_24) (hALx_24 : ∀ k, k ∈ (tL a_24 b_24 c_24) → A (ad_24 k)) (e40_24 : ad_24 40 = ad 40) (e00_24 : ad_24 0 = ad 0), ∀ (H : Heap) (locs : List Loc) (ls : Array Slot), va_P (dC, dI) vwCl (iwT (tL a_24 b_24 c_24) ad_24 cy bS a_24 b_24 c_24 d_24 r I_L24 D_L24 K_L24 M) H → va_S A s.heap H locs → lv_has ls 2 [(1, .int x1_24), (0, .ref (ad_24 40))] → ∀ (cu24 su24 : Nat), cu24 + n24 * 2 ≤ 18 → su24 + n24 * 26 ≤ 209 → W p l e (headSpec wsX5_founded ({ frames := 5, cells := 20, slots := 240, locals := 137 })).room s m ([.ref (ad 40)] : List Value).toArray below meth cX H locs cu24 su24 (MQ below (va_Qi (fun r (_ : Unit) => rr = r) (fun _ t => ∃ ad1 : Nat → Nat, tOK (tL a9 b9 c9) a9 b9 c9 d9 bS ad1 ∧ tX (tL a b c) (tL a9 b9 c9) ad ad1 s.heap.size ∧ tW dC dI (tL a9 b9 c9) ad1 cy bS a9 b9 c9 d9 r LS xs I9 D9 K9 M9 t) A) ([.ref (ad 40)] : List Value).toArray s 20 240 A) (F0 m 24 ls []) := by
          intro n24
          induction n24 with
          | zero => intro x1_24 a_24 b_24 c_24 d_24 I_L24 D_L24 K_L24 hf; exact nomatch hf
          | succ n24 ih24 =>
            intro x1_24 a_24 b_24 c_24 d_24 I_L24 D_L24 K_L24 hf ad_24 hM_24 hALx_24 e40_24 e00_24 H locs ls hP hS hl cu24 su24 hcu24 hsu24
            unfold f_T_founded_L24 at hf
            have hAL_24 := hALx_24
            have hDD_24 : ∀ r I D K M, va_D A (iwT (tL a_24 b_24 c_24) ad_24 cy bS a_24 b_24 c_24 d_24 r I D K M) := fun r I D K M => iwT_D hM_24 hAL_24 I D K M
            refine lv_iload_n hx hb dX5_founded_24 rfl (lv_at hl 0 rfl) ?_
            refine lv_iconst (v := 3) hx hb dX5_founded_25 (by decide) ?_
            refine lv_icmp_ge (tgt := 52) hx hb dX5_founded_26 (by decide) (fun c_2 => ?_) (fun c_2 => ?_)
            · have hf := it_t hf c_2
              refine W.widen (k := 18) (n := 209) (by omega) (by omega) ?_
              refine lv_aload_n hx hb dX5_founded_52 rfl (lv_at hl 1 rfl) ?_
              obtain ⟨⟨r_3, a_5, b_6, c_7, d_8, I_9, D_10, K_11, M_12⟩, g_4, hf⟩ := bd_out hf
              have hAW : ∀ q, AT (tL a_24 b_24 c_24) ad_24 H.size q → A q := fun q h => h.elim (fun ⟨k, k1, k2⟩ => k2 ▸ hAL_24 k k1) (fun h => hA q (Nat.le_trans hS.1 h))
              obtain ⟨q_13, wq_13, heq_13⟩ := heT_40 (L := (tL a_24 b_24 c_24)) (ad := ad_24) (cy := cy) (bS := bS) (a := a_24) (b := b_24) (c := c_24) (d := d_24) (r := r) (I := I_L24) (D := D_L24) (K := K_L24) (M := M) hM_24
              refine va_calli (va_runV (As := []) (rest := []) ⟨hx, hb, hml, hown, hts⟩ (mt_T_store l dC dI a_24 b_24 c_24 d_24 bS ad_24 cy hM_24 r LS xs H.size I_L24 D_L24 K_L24 M  r_3 a_5 b_6 c_7 d_8 I_9 D_10 K_11 M_12 g_4) (cwV 0 hts gX5_founded_X5_store rfl rfl rfl (by decide +kernel) ⟨(Nat.le_of_ble_eq_true rfl), (Nat.le_of_ble_eq_true rfl)⟩) ⟨(tW.pre [.ref (ad_24 40)] hP hK hN (hX0.kept (hS.2.1 bS hbl hbA))).1, tW.recv (C := RX5) (T := TX5) (N := 11) hP hK heq_13 rfl, (tW.pre [.ref (ad_24 40)] hP hK hN (hX0.kept (hS.2.1 bS hbl hbA))).2⟩ rfl rfl hl.1 rfl (lv_room (Nat.le_of_ble_eq_true rfl)) dX5_founded_53 ⟨(Nat.le_of_ble_eq_true rfl), (Nat.le_of_ble_eq_true rfl)⟩) hS (fun q _ h => hAW q h) (fun q h => hAW q h) (fun r9 u t H1 locs ht hvm hw hB hz1 hk1 hS9 => ?_)
              subst hw
              obtain ⟨ad_14, hM_15, hX_20, hB⟩ := hB
              have hP : va_P (dC, dI) vwCl (iwT (tL a_5 b_6 c_7) ad_14 cy bS a_5 b_6 c_7 d_8 r I_9 D_10 K_11 M_12) H1 := by rw [← ht]; exact hB.1
              have hAL_16 : ∀ k, k ∈ (tL a_5 b_6 c_7) → A (ad_14 k) := fun k hk => hAW _ (hX_20.1 k hk)
              have e4_18 := hX_20.2.1.trans e40_24
              have e0_19 := hX_20.2.2.trans e00_24
              have hDD_17 : ∀ r I D K M, va_D A (iwT (tL a_5 b_6 c_7) ad_14 cy bS a_5 b_6 c_7 d_8 r I D K M) := fun r I D K M => iwT_D hM_15 hAL_16 I D K M
              have hl : lv_has ls 2 [(1, .int x1_24), (0, .ref (ad_14 40))] := by rw [hX_20.2.1]; exact lv_sub hl [0, 1] rfl
              have hS := hS9
              clear hB hz1 hk1 hvm ht hS9
              generalize H1 = H at hP hS ⊢
              refine lv_if_eq (tgt := 70) hx hb dX5_founded_56 (by decide) (fun c_21 => ?_) (fun c_21 => ?_)
              · have hf := it_t hf c_21
                refine lv_iconst (v := 0) hx hb dX5_founded_70 (by decide) ?_
                have hf := Option.some.inj hf
                obtain ⟨q1, hf⟩ := Prod.mk.inj hf
                obtain ⟨ga, hf⟩ := Prod.mk.inj hf
                obtain ⟨gb, hf⟩ := Prod.mk.inj hf
                obtain ⟨gc, hf⟩ := Prod.mk.inj hf
                obtain ⟨gd, hf⟩ := Prod.mk.inj hf
                obtain ⟨qI, hf⟩ := Prod.mk.inj hf
                obtain ⟨qD, hf⟩ := Prod.mk.inj hf
                obtain ⟨qK, qM⟩ := Prod.mk.inj hf
                refine W.widen (k := 20) (n := 240) (Nat.le_of_ble_eq_true rfl) (Nat.le_of_ble_eq_true rfl) ?_
                exact W.zret (ty := .boolean) (v := 0) hx hb hr rfl (fun t ht hW9 => ⟨⟨0, (), rfl, q1.symm, (by rw [← ga, ← gb, ← gc, ← gd, ← qI, ← qD, ← qK, ← qM]; exact ⟨ad_14, hM_15, ⟨fun k hk => by rw [hAe]; exact hAL_16 k hk, e4_18, e0_19⟩, tW.of hP hK hN (hX0.kept (hS.2.1 bS hbl hbA)) ht hW9⟩)⟩, hS.F ht⟩) hS.2.2 dX5_founded_71
              · have hf := it_f hf c_21
                refine lv_aload_n hx hb dX5_founded_59 rfl (lv_at hl 1 rfl) ?_
                obtain ⟨⟨r_22, a_24, b_25, c_26, d_27, I_28, D_29, K_30, M_31⟩, g_23, hf⟩ := bd_out hf
                have hAW : ∀ q, AT (tL a_5 b_6 c_7) ad_14 H.size q → A q := fun q h => h.elim (fun ⟨k, k1, k2⟩ => k2 ▸ hAL_16 k k1) (fun h => hA q (Nat.le_trans hS.1 h))
                obtain ⟨q_32, wq_32, heq_32⟩ := heT_40 (L := (tL a_5 b_6 c_7)) (ad := ad_14) (cy := cy) (bS := bS) (a := a_5) (b := b_6) (c := c_7) (d := d_8) (r := r) (I := I_9) (D := D_10) (K := K_11) (M := M_12) hM_15
                refine va_calli (va_runV (As := []) (rest := []) ⟨hx, hb, hml, hown, hts⟩ (mt_T_store l dC dI a_5 b_6 c_7 d_8 bS ad_14 cy hM_15 r LS xs H.size I_9 D_10 K_11 M_12  r_22 a_24 b_25 c_26 d_27 I_28 D_29 K_30 M_31 g_23) (cwV 0 hts gX5_founded_X5_store rfl rfl rfl (by decide +kernel) ⟨(Nat.le_of_ble_eq_true rfl), (Nat.le_of_ble_eq_true rfl)⟩) ⟨(tW.pre [.ref (ad_14 40)] hP hK hN (hX0.kept (hS.2.1 bS hbl hbA))).1, tW.recv (C := RX5) (T := TX5) (N := 11) hP hK heq_32 rfl, (tW.pre [.ref (ad_14 40)] hP hK hN (hX0.kept (hS.2.1 bS hbl hbA))).2⟩ rfl rfl hl.1 rfl (lv_room (Nat.le_of_ble_eq_true rfl)) dX5_founded_60 ⟨(Nat.le_of_ble_eq_true rfl), (Nat.le_of_ble_eq_true rfl)⟩) hS (fun q _ h => hAW q h) (fun q h => hAW q h) (fun r9 u t H1 locs ht hvm hw hB hz1 hk1 hS9 => ?_)
                subst hw
                obtain ⟨ad_33, hM_34, hX_39, hB⟩ := hB
                have hP : va_P (dC, dI) vwCl (iwT (tL a_24 b_25 c_26) ad_33 cy bS a_24 b_25 c_26 d_27 r I_28 D_29 K_30 M_31) H1 := by rw [← ht]; exact hB.1
                have hAL_35 : ∀ k, k ∈ (tL a_24 b_25 c_26) → A (ad_33 k) := fun k hk => hAW _ (hX_39.1 k hk)
                have e4_37 := hX_39.2.1.trans e4_18
                have e0_38 := hX_39.2.2.trans e0_19
                have hDD_36 : ∀ r I D K M, va_D A (iwT (tL a_24 b_25 c_26) ad_33 cy bS a_24 b_25 c_26 d_27 r I D K M) := fun r I D K M => iwT_D hM_34 hAL_35 I D K M
                have hl : lv_has ls 2 [(1, .int x1_24), (0, .ref (ad_33 40))] := by rw [hX_39.2.1]; exact lv_sub hl [0, 1] rfl
                have hS := hS9
                clear hB hz1 hk1 hvm ht hS9
                generalize H1 = H at hP hS ⊢
                refine lv_if_eq (tgt := 70) hx hb dX5_founded_63 (by decide) (fun c_40 => ?_) (fun c_40 => ?_)
                · have hf := it_t hf c_40
                  refine lv_iconst (v := 0) hx hb dX5_founded_70 (by decide) ?_
                  have hf := Option.some.inj hf
                  obtain ⟨q1, hf⟩ := Prod.mk.inj hf
                  obtain ⟨ga, hf⟩ := Prod.mk.inj hf
                  obtain ⟨gb, hf⟩ := Prod.mk.inj hf
                  obtain ⟨gc, hf⟩ := Prod.mk.inj hf
                  obtain ⟨gd, hf⟩ := Prod.mk.inj hf
                  obtain ⟨qI, hf⟩ := Prod.mk.inj hf
                  obtain ⟨qD, hf⟩ := Prod.mk.inj hf
                  obtain ⟨qK, qM⟩ := Prod.mk.inj hf
                  refine W.widen (k := 20) (n := 240) (Nat.le_of_ble_eq_true rfl) (Nat.le_of_ble_eq_true rfl) ?_
                  exact W.zret (ty := .boolean) (v := 0) hx hb hr rfl (fun t ht hW9 => ⟨⟨0, (), rfl, q1.symm, (by rw [← ga, ← gb, ← gc, ← gd, ← qI, ← qD, ← qK, ← qM]; exact ⟨ad_33, hM_34, ⟨fun k hk => by rw [hAe]; exact hAL_35 k hk, e4_37, e0_38⟩, tW.of hP hK hN (hX0.kept (hS.2.1 bS hbl hbA)) ht hW9⟩)⟩, hS.F ht⟩) hS.2.2 dX5_founded_71
                · have hf := it_f hf c_40
                  refine lv_iconst (v := 1) hx hb dX5_founded_66 (by decide) ?_
                  refine lv_goto (tgt := 71) hx hb dX5_founded_67 (by decide) ?_
                  have hf := Option.some.inj hf
                  obtain ⟨q1, hf⟩ := Prod.mk.inj hf
                  obtain ⟨ga, hf⟩ := Prod.mk.inj hf
                  obtain ⟨gb, hf⟩ := Prod.mk.inj hf
                  obtain ⟨gc, hf⟩ := Prod.mk.inj hf
                  obtain ⟨gd, hf⟩ := Prod.mk.inj hf
                  obtain ⟨qI, hf⟩ := Prod.mk.inj hf
                  obtain ⟨qD, hf⟩ := Prod.mk.inj hf
                  obtain ⟨qK, qM⟩ := Prod.mk.inj hf
                  refine W.widen (k := 20) (n := 240) (Nat.le_of_ble_eq_true rfl) (Nat.le_of_ble_eq_true rfl) ?_
                  exact W.zret (ty := .boolean) (v := 1) hx hb hr rfl (fun t ht hW9 => ⟨⟨1, (), rfl, q1.symm, (by rw [← ga, ← gb, ← gc, ← gd, ← qI, ← qD, ← qK, ← qM]; exact ⟨ad_33, hM_34, ⟨fun k hk => by rw [hAe]; exact hAL_35 k hk, e4_37, e0_38⟩, tW.of hP hK hN (hX0.kept (hS.2.1 bS hbl hbA)) ht hW9⟩)⟩, hS.F ht⟩) hS.2.2 dX5_founded_71
            · have hf := it_f hf c_2
              refine lv_aload_n hx hb dX5_founded_29 rfl (lv_at hl 1 rfl) ?_
              obtain ⟨⟨r_41, a_43, b_44, c_45, d_46, I_47, D_48, K_49⟩, g_42, hf⟩ := bd_out hf
              have hAW : ∀ q, AT (tL a_24 b_24 c_24) ad_24 H.size q → A q := fun q h => h.elim (fun ⟨k, k1, k2⟩ => k2 ▸ hAL_24 k k1) (fun h => hA q (Nat.le_trans hS.1 h))
              obtain ⟨q_50, wq_50, heq_50⟩ := heT_40 (L := (tL a_24 b_24 c_24)) (ad := ad_24) (cy := cy) (bS := bS) (a := a_24) (b := b_24) (c := c_24) (d := d_24) (r := r) (I := I_L24) (D := D_L24) (K := K_L24) (M := M) hM_24
              refine va_calli (va_runV (As := []) (rest := []) ⟨hx, hb, hml, hown, hts⟩ (mt_T_mix l dC dI a_24 b_24 c_24 d_24 bS ad_24 cy hM_24 r LS xs H.size I_L24 D_L24 K_L24 M  r_41 a_43 b_44 c_45 d_46 I_47 D_48 K_49 g_42) (cwV 0 hts gX5_founded_X5_mix rfl rfl rfl (by decide +kernel) ⟨(Nat.le_of_ble_eq_true rfl), (Nat.le_of_ble_eq_true rfl)⟩) ⟨(tW.pre [.ref (ad_24 40)] hP hK hN (hX0.kept (hS.2.1 bS hbl hbA))).1, tW.recv (C := RX5) (T := TX5) (N := 11) hP hK heq_50 rfl, (tW.pre [.ref (ad_24 40)] hP hK hN (hX0.kept (hS.2.1 bS hbl hbA))).2⟩ rfl rfl hl.1 rfl (lv_room (Nat.le_of_ble_eq_true rfl)) dX5_founded_30 ⟨by show cu24 + 2 ≤ 20; omega, by show su24 + 26 ≤ 240; omega⟩) hS (fun q _ h => hAW q h) (fun q h => hAW q h) (fun r9 u t H1 locs ht hvm hw hB hz1 hk1 hS9 => ?_)
              subst hw
              obtain ⟨ad_51, hM_52, hX_57, hB⟩ := hB
              have hP : va_P (dC, dI) vwCl (iwT (tL a_43 b_44 c_45) ad_51 cy bS a_43 b_44 c_45 d_46 r I_47 D_48 K_49 M) H1 := by rw [← ht]; exact hB.1
              have hAL_53 : ∀ k, k ∈ (tL a_43 b_44 c_45) → A (ad_51 k) := fun k hk => hAW _ (hX_57.1 k hk)
              have e4_55 := hX_57.2.1.trans e40_24
              have e0_56 := hX_57.2.2.trans e00_24
              have hDD_54 : ∀ r I D K M, va_D A (iwT (tL a_43 b_44 c_45) ad_51 cy bS a_43 b_44 c_45 d_46 r I D K M) := fun r I D K M => iwT_D hM_52 hAL_53 I D K M
              have hl : lv_has ls 2 [(1, .int x1_24), (0, .ref (ad_51 40))] := by rw [hX_57.2.1]; exact lv_sub hl [0, 1] rfl
              have hS := hS9
              clear hB hz1 hk1 hvm ht hS9
              generalize H1 = H at hP hS ⊢
              refine lv_if_eq (tgt := 44) hx hb dX5_founded_33 (by decide) (fun c_58 => ?_) (fun c_58 => ?_)
              · have hf := it_t hf c_58
                refine lv_iconst (v := 0) hx hb dX5_founded_44 (by decide) ?_
                have hf := Option.some.inj hf
                obtain ⟨q1, hf⟩ := Prod.mk.inj hf
                obtain ⟨ga, hf⟩ := Prod.mk.inj hf
                obtain ⟨gb, hf⟩ := Prod.mk.inj hf
                obtain ⟨gc, hf⟩ := Prod.mk.inj hf
                obtain ⟨gd, hf⟩ := Prod.mk.inj hf
                obtain ⟨qI, hf⟩ := Prod.mk.inj hf
                obtain ⟨qD, hf⟩ := Prod.mk.inj hf
                obtain ⟨qK, qM⟩ := Prod.mk.inj hf
                refine W.widen (k := 20) (n := 240) (by omega) (by omega) ?_
                exact W.zret (ty := .boolean) (v := 0) hx hb hr rfl (fun t ht hW9 => ⟨⟨0, (), rfl, q1.symm, (by rw [← ga, ← gb, ← gc, ← gd, ← qI, ← qD, ← qK, ← qM]; exact ⟨ad_51, hM_52, ⟨fun k hk => by rw [hAe]; exact hAL_53 k hk, e4_55, e0_56⟩, tW.of hP hK hN (hX0.kept (hS.2.1 bS hbl hbA)) ht hW9⟩)⟩, hS.F ht⟩) hS.2.2 dX5_founded_45
              · have hf := it_f hf c_58
                refine lv_aload_n hx hb dX5_founded_36 rfl (lv_at hl 1 rfl) ?_
                refine lv_iload_n hx hb dX5_founded_37 rfl (lv_at hl 0 rfl) ?_
                obtain ⟨⟨r_59, I_61, D_62, K_63⟩, g_60, hf⟩ := bd_out hf
                have hAW : ∀ q, AT (tL a_43 b_44 c_45) ad_51 H.size q → A q := fun q h => h.elim (fun ⟨k, k1, k2⟩ => k2 ▸ hAL_53 k k1) (fun h => hA q (Nat.le_trans hS.1 h))
                obtain ⟨q_64, wq_64, heq_64⟩ := heT_40 (L := (tL a_43 b_44 c_45)) (ad := ad_51) (cy := cy) (bS := bS) (a := a_43) (b := b_44) (c := c_45) (d := d_46) (r := r) (I := I_47) (D := D_48) (K := K_49) (M := M) hM_52
                refine va_calli (va_runV (As := [.int x1_24]) (rest := []) ⟨hx, hb, hml, hown, hts⟩ (mt_T_heat l dC dI (tL a_43 b_44 c_45) a_43 b_44 c_45 d_46 bS ad_51 cy hM_52 r LS xs H.size I_47 D_48 K_49 M x1_24 r_59 I_61 D_62 K_63 g_60) (cwV 1 hts gX5_founded_X5_heat rfl rfl rfl (by decide +kernel) ⟨(Nat.le_of_ble_eq_true rfl), (Nat.le_of_ble_eq_true rfl)⟩) ⟨(tW.pre [.ref (ad_51 40), .int x1_24] hP hK hN (hX0.kept (hS.2.1 bS hbl hbA))).1, tW.recv (C := RX5) (T := TX5) (N := 11) hP hK heq_64 rfl, (tW.pre [.ref (ad_51 40), .int x1_24] hP hK hN (hX0.kept (hS.2.1 bS hbl hbA))).2⟩ rfl rfl hl.1 rfl (lv_room (Nat.le_of_ble_eq_true rfl)) dX5_founded_38 ⟨by show cu24 + 2 + 0 ≤ 20; omega, by show su24 + 26 + 0 ≤ 240; omega⟩) hS (fun q _ h => hAW q h) (fun q h => hAW q h) (fun r9 u t H1 locs ht hvm hw hB hz1 hk1 hS9 => ?_)
                subst hw
                have hP : va_P (dC, dI) vwCl (iwT (tL a_43 b_44 c_45) ad_51 cy bS a_43 b_44 c_45 d_46 r I_61 D_62 K_63 M) H1 := by rw [← ht]; exact hB.1
                have hS := hS9
                clear hB hz1 hk1 hvm ht hS9
                generalize H1 = H at hP hS ⊢
                refine lv_if_ne (tgt := 46) hx hb dX5_founded_41 (by decide) (fun c_65 => ?_) (fun c_65 => ?_)
                · have hf := it_f hf c_65
                  refine lv_iinc (v := (x1_24 + 1)) (lv' := [(1, .int (x1_24 + 1)), (0, .ref (ad_51 40))]) hx hb dX5_founded_46 hl (k := 0) rfl rfl (by decide) rfl (fun ls hl => ?_)
                  refine lv_goto (tgt := 24) hx hb dX5_founded_49 (by decide) ?_
                  exact ih24 (x1_24 + 1) a_43 b_44 c_45 d_46 I_61 D_62 K_63 hf ad_51 hM_52 hAL_53 e4_55 e0_56 _ _ _ hP hS (lv_sub hl [0, 1] rfl) _ _ (by omega) (by omega)
                · have hf := it_t hf c_65
                  refine lv_iconst (v := 0) hx hb dX5_founded_44 (by decide) ?_
                  have hf := Option.some.inj hf
                  obtain ⟨q1, hf⟩ := Prod.mk.inj hf
                  obtain ⟨ga, hf⟩ := Prod.mk.inj hf
                  obtain ⟨gb, hf⟩ := Prod.mk.inj hf
                  obtain ⟨gc, hf⟩ := Prod.mk.inj hf
                  obtain ⟨gd, hf⟩ := Prod.mk.inj hf
                  obtain ⟨qI, hf⟩ := Prod.mk.inj hf
                  obtain ⟨qD, hf⟩ := Prod.mk.inj hf
                  obtain ⟨qK, qM⟩ := Prod.mk.inj hf
                  refine W.widen (k := 20) (n := 240) (by omega) (by omega) ?_
                  exact W.zret (ty := .boolean) (v := 0) hx hb hr rfl (fun t ht hW9 => ⟨⟨0, (), rfl, q1.symm, (by rw [← ga, ← gb, ← gc, ← gd, ← qI, ← qD, ← qK, ← qM]; exact ⟨ad_51, hM_52, ⟨fun k hk => by rw [hAe]; exact hAL_53 k hk, e4_55, e0_56⟩, tW.of hP hK hN (hX0.kept (hS.2.1 bS hbl hbA)) ht hW9⟩)⟩, hS.F ht⟩) hS.2.2 dX5_founded_45
        exact L24 4 0 a_2 b_2 c_2 d_2 I_L2 D_L2 K_L2 hf ad_2 hM_2 hAL_2 e40_2 e00_2 _ _ _ hP hS (lv_sub hl [0, 1] rfl) _ _ (by omega) (by omega)
      · have hf := it_f hf c_1
        refine lv_aload_n hx hb dX5_founded_7 rfl (lv_at hl 1 rfl) ?_
        obtain ⟨⟨r_66, a_68, b_69, c_70, d_71, I_72, D_73, K_74⟩, g_67, hf⟩ := bd_out hf
        have hAW : ∀ q, AT (tL a_2 b_2 c_2) ad_2 H.size q → A q := fun q h => h.elim (fun ⟨k, k1, k2⟩ => k2 ▸ hAL_2 k k1) (fun h => hA q (Nat.le_trans hS.1 h))
        obtain ⟨q_75, wq_75, heq_75⟩ := heT_40 (L := (tL a_2 b_2 c_2)) (ad := ad_2) (cy := cy) (bS := bS) (a := a_2) (b := b_2) (c := c_2) (d := d_2) (r := r) (I := I_L2) (D := D_L2) (K := K_L2) (M := M) hM_2
        refine va_calli (va_runV (As := []) (rest := []) ⟨hx, hb, hml, hown, hts⟩ (mt_T_ingredient l dC dI a_2 b_2 c_2 d_2 bS ad_2 cy hM_2 r LS xs H.size I_L2 D_L2 K_L2 M  r_66 a_68 b_69 c_70 d_71 I_72 D_73 K_74 g_67) (cwV 0 hts gX5_founded_X5_ingredient rfl rfl rfl (by decide +kernel) ⟨(Nat.le_of_ble_eq_true rfl), (Nat.le_of_ble_eq_true rfl)⟩) ⟨(tW.pre [.ref (ad_2 40)] hP hK hN (hX0.kept (hS.2.1 bS hbl hbA))).1, tW.recv (C := RX5) (T := TX5) (N := 11) hP hK heq_75 rfl, (tW.pre [.ref (ad_2 40)] hP hK hN (hX0.kept (hS.2.1 bS hbl hbA))).2⟩ rfl rfl hl.1 rfl (lv_room (Nat.le_of_ble_eq_true rfl)) dX5_founded_8 ⟨by show cu2 + 2 ≤ 20; omega, by show su2 + 21 ≤ 240; omega⟩) hS (fun q _ h => hAW q h) (fun q h => hAW q h) (fun r9 u t H1 locs ht hvm hw hB hz1 hk1 hS9 => ?_)
        subst hw
        obtain ⟨ad_76, hM_77, hX_82, hB⟩ := hB
        have hP : va_P (dC, dI) vwCl (iwT (tL a_68 b_69 c_70) ad_76 cy bS a_68 b_69 c_70 d_71 r I_72 D_73 K_74 M) H1 := by rw [← ht]; exact hB.1
        have hAL_78 : ∀ k, k ∈ (tL a_68 b_69 c_70) → A (ad_76 k) := fun k hk => hAW _ (hX_82.1 k hk)
        have e4_80 := hX_82.2.1.trans e40_2
        have e0_81 := hX_82.2.2.trans e00_2
        have hDD_79 : ∀ r I D K M, va_D A (iwT (tL a_68 b_69 c_70) ad_76 cy bS a_68 b_69 c_70 d_71 r I D K M) := fun r I D K M => iwT_D hM_77 hAL_78 I D K M
        have hl : lv_has ls 2 [(1, .int x1_2), (0, .ref (ad_76 40))] := by rw [hX_82.2.1]; exact lv_sub hl [0, 1] rfl
        have hS := hS9
        clear hB hz1 hk1 hvm ht hS9
        generalize H1 = H at hP hS ⊢
        refine lv_if_ne (tgt := 16) hx hb dX5_founded_11 (by decide) (fun c_83 => ?_) (fun c_83 => ?_)
        · have hf := it_f hf c_83
          refine lv_iinc (v := (x1_2 + 1)) (lv' := [(1, .int (x1_2 + 1)), (0, .ref (ad_76 40))]) hx hb dX5_founded_16 hl (k := 0) rfl rfl (by decide) rfl (fun ls hl => ?_)
          refine lv_goto (tgt := 2) hx hb dX5_founded_19 (by decide) ?_
          exact ih2 (x1_2 + 1) a_68 b_69 c_70 d_71 I_72 D_73 K_74 hf ad_76 hM_77 hAL_78 e4_80 e0_81 _ _ _ hP hS (lv_sub hl [0, 1] rfl) _ _ (by omega) (by omega)
        · have hf := it_t hf c_83
          refine lv_iconst (v := 0) hx hb dX5_founded_14 (by decide) ?_
          have hf := Option.some.inj hf
          obtain ⟨q1, hf⟩ := Prod.mk.inj hf
          obtain ⟨ga, hf⟩ := Prod.mk.inj hf
          obtain ⟨gb, hf⟩ := Prod.mk.inj hf
          obtain ⟨gc, hf⟩ := Prod.mk.inj hf
          obtain ⟨gd, hf⟩ := Prod.mk.inj hf
          obtain ⟨qI, hf⟩ := Prod.mk.inj hf
          obtain ⟨qD, hf⟩ := Prod.mk.inj hf
          obtain ⟨qK, qM⟩ := Prod.mk.inj hf
          refine W.widen (k := 20) (n := 240) (by omega) (by omega) ?_
          exact W.zret (ty := .boolean) (v := 0) hx hb hr rfl (fun t ht hW9 => ⟨⟨0, (), rfl, q1.symm, (by rw [← ga, ← gb, ← gc, ← gd, ← qI, ← qD, ← qK, ← qM]; exact ⟨ad_76, hM_77, ⟨fun k hk => by rw [hAe]; exact hAL_78 k hk, e4_80, e0_81⟩, tW.of hP hK hN (hX0.kept (hS.2.1 bS hbl hbA)) ht hW9⟩)⟩, hS.F ht⟩) hS.2.2 dX5_founded_15
  exact L2 5 0 a b c d I D K hf ad hM hAL e40 e00 _ _ _ hP hS (lv_sub hl [0, 1] rfl) _ _ (by omega) (by omega)
