set_option maxHeartbeats 4000000 in
set_option maxRecDepth 100000 in
theorem wL_ingredient (l : Launch) (hl0 : l.stackTraces = false) (dC : Nat → ClassId) (dI : Nat → Nat → Nat) (ad : Nat → Nat) (cy : Nat → ClassId) (cL : ClassId) (hJ : J33 ad) (sa : Nat → Nat) (o : Nat) (ho : ∀ k, k < 33 → ad k ≠ o) (sz : Nat) (I : Nat → Nat → Int32) (D : Nat → Nat → UInt64) (f : Nat → Int64) (p1 p2 p3 p4 p5 : Int32) (r0 : Int32) (w : Int32) (I9 : Nat → Nat → Int32) (D9 : Nat → Nat → UInt64) (hf : (r0 = 0 ∧ f_X4_ingredient I D p1 p2 p3 p4 p5 = some (Except.ok (w, I9, D9))) ∨ ∃ (n : Nat) (e9 : String), ([IAE, ISE] : List String)[n]? = some e9 ∧ r0 = nI (n + 1) ∧ f_X4_ingredient I D p1 p2 p3 p4 p5 = some (.error e9) ∧ I9 = I ∧ D9 = D) : vx_Met l yL_ingredient wsL_ingredient ({ frames := 20, cells := 1, slots := 6, locals := 400 }) (va_Pc [.ref (ad 0), .int p1, .int p2, .int p3, .int p4, .int p5, .ref o] (fun U => U.heap.size = sz ∧ hO dC dI ad cy cL I D o (.inl (cL, 1, .inr (.inl f))) U ∧ xS sa (AO o ad sz) U ∧ xT U)) (va_Qi (fun r (g : Nat → Int64) => r = r0 ∧ (r0 = 0 → g 0 = w.toInt64)) (fun g t => va_P (dC, dI) vwCl ((o, .inl (cL, 1, .inr (.inl g))) :: iwH ad cy I9 D9) t.heap) (AO o ad sz)) (vx_X (fun _ : Unit => False) (fun _ _ _ => True) (AO o ad sz)) 1 6 (AO o ad sz) := by
  refine vx_ofWH (cc := cL_ingredient) (maxL := 8) (ret := (some .int)) (by decide) rfl ?_
  intro p e s m args below meth c s₁ B hml hv
  obtain ⟨rfl, hsz, ⟨hP, hK, hN⟩, hZ, hT⟩ := hv
  have hx := B.exec
  have hb := B.bytes
  have hr := B.returns
  have hts := atoms_spec (ws := wsL_ingredient) B.pre
  have hown : s.vm.findClass RL = some m.cls := findClass_of_methodNamed B.named
  have hlocks := B.notSynchronized
  have htab := vx_table (x := yL_ingredient) B (hts _ List.mem_cons_self)
  subst hsz
  generalize hAe : AO o ad s.heap.size = A at hZ ⊢
  have hA : ∀ q : Nat, s.heap.size ≤ q → A q := fun q h => by rw [← hAe]; exact Or.inr (Or.inr h)
  have hA33 : ∀ k, k < 33 → A (ad k) := fun k h => by rw [← hAe]; exact Or.inr (Or.inl ⟨k, h, rfl⟩)
  have hAo : A o := by rw [← hAe]; exact Or.inl rfl
  obtain ⟨H, hH⟩ : ∃ H : Heap, H = s.heap := ⟨_, rfl⟩
  have hS : va_S A s.heap H [] := by rw [hH]; exact va_S.rf
  have hAW : ∀ q, AW ad H.size q → A q := fun q h => h.elim (fun ⟨k, hk, e1⟩ => e1 ▸ hA33 k hk) (fun h => hA q (Nat.le_trans hS.1 h))
  rw [← hH]
  rw [← hH] at hP
  have hl := lv_entry ([.ref (ad 0), .int p1, .int p2, .int p3, .int p4, .int p5, .ref o]) (n := 8) (Nat.le_of_ble_eq_true rfl)
  rw [lg_entry_eq]
  generalize (lg_sl ([.ref (ad 0), .int p1, .int p2, .int p3, .int p4, .int p5, .ref o]) ++ List.replicate (8 - (lg_sl ([.ref (ad 0), .int p1, .int p2, .int p3, .int p4, .int p5, .ref o])).length) Slot.unset).toArray = ls at hl ⊢
  have hl : lv_has ls 8 [(0, .ref (ad 0)), (1, .int p1), (2, .int p2), (3, .int p3), (4, .int p4), (5, .int p5), (6, .ref o)] := hl
  have hPh := va_Pt hP
  have hKh : va_K (dC, dI) vwCl (tysA cy) s := hK.sub [0, 1, 2, 3, 4, 5, 6, 7] rfl
  refine lv_aload hx hb dL_ingredient_0 (lv_at hl 6 rfl) ?_
  refine lv_iconst (v := 0) hx hb dL_ingredient_2 (by decide) ?_
  refine lv_aload_n hx hb dL_ingredient_3 rfl (lv_at hl 0 rfl) ?_
  refine lv_iload_n hx hb dL_ingredient_4 rfl (lv_at hl 1 rfl) ?_
  refine lv_iload_n hx hb dL_ingredient_5 rfl (lv_at hl 2 rfl) ?_
  refine lv_iload_n hx hb dL_ingredient_6 rfl (lv_at hl 3 rfl) ?_
  refine lv_iload hx hb dL_ingredient_7 (lv_at hl 4 rfl) ?_
  refine lv_iload hx hb dL_ingredient_9 (lv_at hl 5 rfl) ?_
  rcases hf with ⟨h0, hf⟩ | ⟨n, e9, hn, h0, hf, e1, e2⟩
  · refine va_calli (va_runV (As := [.int p1, .int p2, .int p3, .int p4, .int p5]) (rest := [.int 0, .ref o]) ⟨hx, hb, hml, hown, hts⟩ (mt_X4_ingredient l dC dI ad cy hJ H.size I D p1 p2 p3 p4 p5 w I9 D9 hf) (cwV 5 hts gL_ingredient_X4_ingredient rfl rfl rfl (by decide +kernel) ⟨Nat.le_of_ble_eq_true rfl, Nat.le_of_ble_eq_true rfl⟩) ⟨(hW.pre [.ref (ad 0), .int p1, .int p2, .int p3, .int p4, .int p5] hPh hKh hN).1, hW.recv (C := RX4) (T := TX4) (N := 14) hPh hKh heH_0 rfl, (hW.pre [.ref (ad 0), .int p1, .int p2, .int p3, .int p4, .int p5] hPh hKh hN).2⟩ rfl rfl hl.1 rfl (lv_room (Nat.le_of_ble_eq_true rfl)) dL_ingredient_11 ⟨Nat.le_of_ble_eq_true rfl, Nat.le_of_ble_eq_true rfl⟩) hS (fun q _ h => hAW q h) hAW (fun r9 u t H1 locs ht hvm hw hB hz1 hk1 hS => ?_)
    subst hw
    have hP := va_Ocall hP ho hk1 (by rw [← ht]; exact hB.1)
    clear hB hz1 hk1 hvm ht
    generalize H1 = H at hP hS ⊢
    refine lv_i2l hx hb dL_ingredient_14 rfl ?_
    refine va_last hx hb hK hP (hOD hJ hA33 hAo ho I9 D9) hS 0 8 rfl rfl vin0 dL_ingredient_15 (fun H locs hP _ hS => ?_)
    have hP : va_P (dC, dI) vwCl ((o, .inl (cL, 1, .inr (.inl (vp_updL f (0 : Int32).toNatClampNeg (w.toInt64))))) :: iwH ad cy I9 D9) H := hP
    refine lv_goto (tgt := 27) hx hb dL_ingredient_16 (by decide) ?_
    refine lv_iconst (v := 0) hx hb dL_ingredient_27 (by decide) ?_
    refine W.widen (k := 1) (n := 6) (by omega) (by omega) ?_
    exact vx_ret (W.iret (v := 0) hx hb hr (fun t ht hW => ⟨⟨0, (vp_updL f (0 : Int32).toNatClampNeg (w.toInt64)), rfl, ⟨h0.symm, fun _ => rfl⟩, by show va_P (dC, dI) vwCl _ t.heap; rw [ht]; exact hP⟩, hS.F ht⟩) hS.2.2 dL_ingredient_28)
  · have e1 := e1.symm
    have e2 := e2.symm
    subst e1
    subst e2
    refine vx_calli (vx_runV (As := [.int p1, .int p2, .int p3, .int p4, .int p5]) (rest := [.int 0, .ref o]) ⟨hx, hb, hml, hown, hts⟩ (mx_X4_ingredient l hl0 dC dI ad cy hJ sa H.size I D p1 p2 p3 p4 p5 e9 hf) (cwV 5 hts gL_ingredient_X4_ingredient rfl rfl rfl (by decide +kernel) ⟨Nat.le_of_ble_eq_true rfl, Nat.le_of_ble_eq_true rfl⟩) ⟨(hW.preX [.ref (ad 0), .int p1, .int p2, .int p3, .int p4, .int p5] hPh hKh hN (xS_kept (B := AW ad H.size) hZ hS hAW)).1, hW.recv (C := RX4) (T := TX4) (N := 14) hPh hKh heH_0 rfl, (hW.preX [.ref (ad 0), .int p1, .int p2, .int p3, .int p4, .int p5] hPh hKh hN (xS_kept (B := AW ad H.size) hZ hS hAW)).2⟩ rfl rfl hl.1 rfl (lv_room (Nat.le_of_ble_eq_true rfl)) dL_ingredient_11 ⟨Nat.le_of_ble_eq_true rfl, Nat.le_of_ble_eq_true rfl⟩) hS (fun q _ h => hAW q h) hAW (fun q _ h => hAW q h) (fun E9 ce q9 u t H1 locs1 ht9 hvm hpu hBX hz1 hk1 hS h1 h2 h3 => ?_) (fun r9 u t H1 locs ht9 hvm hw hB hz1 hk1 hS => hw.elim)
    obtain ⟨hE, hPx, -⟩ := hBX
    subst hE
    have hP := va_Ocall hP ho hk1 (by rw [← ht9]; exact hPx)
    clear hz1 hk1 hvm ht9 hPx hpu hf hPh
    generalize H1 = H at hP hS h1 ⊢
    match n, hn, h0 with
    | 0, hn, h0 =>
      have hn : (some IAE : Option String) = some e9 := hn
      obtain rfl := Option.some.inj hn
      refine vx_catch hown [] ⟨0, 16, 19, 13⟩ [⟨0, 16, 23, 15⟩] (htab.trans rfl) (fun z hz => absurd hz List.not_mem_nil) rfl (by decide) (hts (.classLink RL 13 "java/lang/IllegalArgumentException") (List.mem_cons_of_mem _ (List.mem_append_left _ (List.mem_append_left _ (List.mem_append_left _ (List.mem_append_left _ (List.mem_of_getElem? (i := 0) rfl))))))) (va_Nw.use (w := .castable IAE IAE) rfl hT.2.1) h1 h2 h3 ?_
      refine W.eq (g2 := F0 m 19 ls [.ref q9]) rfl ?_
      refine lv_astore (lv' := [(7, .ref q9), (0, .ref (ad 0)), (1, .int p1), (2, .int p2), (3, .int p3), (4, .int p4), (5, .int p5), (6, .ref o)]) hx hb dL_ingredient_19 hl (by decide) rfl (fun ls hl => ?_)
      refine lv_iconst (v := 1) hx hb dL_ingredient_21 (by decide) ?_
      subst h0
      exact vx_ret (W.iret (v := 1) hx hb hr (fun t ht hW => ⟨⟨1, f, rfl, ⟨rfl, fun z => absurd z (by decide)⟩, by show va_P (dC, dI) vwCl _ t.heap; rw [ht]; exact hP⟩, hS.F ht⟩) hS.2.2 dL_ingredient_22)
    | 1, hn, h0 =>
      have hn : (some ISE : Option String) = some e9 := hn
      obtain rfl := Option.some.inj hn
      refine vx_catch hown [⟨0, 16, 19, 13⟩] ⟨0, 16, 23, 15⟩ [] (htab.trans rfl) (fun z hz => by rw [List.mem_singleton.mp hz]; exact Or.inr ⟨by decide, IAE, hts (.classLink RL 13 "java/lang/IllegalArgumentException") (List.mem_cons_of_mem _ (List.mem_append_left _ (List.mem_append_left _ (List.mem_append_left _ (List.mem_append_left _ (List.mem_of_getElem? (i := 0) rfl)))))), hT.2.2.2.2.2⟩) rfl (by decide) (hts (.classLink RL 15 "java/lang/IllegalStateException") (List.mem_cons_of_mem _ (List.mem_append_left _ (List.mem_append_left _ (List.mem_append_left _ (List.mem_append_left _ (List.mem_of_getElem? (i := 1) rfl))))))) (va_Nw.use (w := .castable ISE ISE) rfl hT.2.2.1) h1 h2 h3 ?_
      refine W.eq (g2 := F0 m 23 ls [.ref q9]) rfl ?_
      refine lv_astore (lv' := [(7, .ref q9), (0, .ref (ad 0)), (1, .int p1), (2, .int p2), (3, .int p3), (4, .int p4), (5, .int p5), (6, .ref o)]) hx hb dL_ingredient_23 hl (by decide) rfl (fun ls hl => ?_)
      refine lv_iconst (v := 2) hx hb dL_ingredient_25 (by decide) ?_
      subst h0
      exact vx_ret (W.iret (v := 2) hx hb hr (fun t ht hW => ⟨⟨2, f, rfl, ⟨rfl, fun z => absurd z (by decide)⟩, by show va_P (dC, dI) vwCl _ t.heap; rw [ht]; exact hP⟩, hS.F ht⟩) hS.2.2 dL_ingredient_26)
    | k + 2, hn, h0 =>
      simp at hn

set_option maxHeartbeats 4000000 in
set_option maxRecDepth 100000 in
theorem wL_mix (l : Launch) (hl0 : l.stackTraces = false) (dC : Nat → ClassId) (dI : Nat → Nat → Nat) (ad : Nat → Nat) (cy : Nat → ClassId) (cL : ClassId) (hJ : J33 ad) (sa : Nat → Nat) (o : Nat) (ho : ∀ k, k < 33 → ad k ≠ o) (sz : Nat) (I : Nat → Nat → Int32) (D : Nat → Nat → UInt64) (f : Nat → Int64) (p1 p2 : Int32) (r0 : Int32) (w : Int32) (I9 : Nat → Nat → Int32) (D9 : Nat → Nat → UInt64) (hf : (r0 = 0 ∧ f_X4_mix I D p1 p2 = some (Except.ok (w, I9, D9))) ∨ ∃ (n : Nat) (e9 : String), ([IOB, IAE, ISE] : List String)[n]? = some e9 ∧ r0 = nI (n + 1) ∧ f_X4_mix I D p1 p2 = some (.error e9) ∧ I9 = I ∧ D9 = D) : vx_Met l yL_mix wsL_mix ({ frames := 20, cells := 1, slots := 6, locals := 400 }) (va_Pc [.ref (ad 0), .int p1, .int p2, .ref o] (fun U => U.heap.size = sz ∧ hO dC dI ad cy cL I D o (.inl (cL, 1, .inr (.inl f))) U ∧ xS sa (AO o ad sz) U ∧ xT U)) (va_Qi (fun r (g : Nat → Int64) => r = r0 ∧ (r0 = 0 → g 0 = w.toInt64)) (fun g t => va_P (dC, dI) vwCl ((o, .inl (cL, 1, .inr (.inl g))) :: iwH ad cy I9 D9) t.heap) (AO o ad sz)) (vx_X (fun _ : Unit => False) (fun _ _ _ => True) (AO o ad sz)) 1 6 (AO o ad sz) := by
  refine vx_ofWH (cc := cL_mix) (maxL := 5) (ret := (some .int)) (by decide) rfl ?_
  intro p e s m args below meth c s₁ B hml hv
  obtain ⟨rfl, hsz, ⟨hP, hK, hN⟩, hZ, hT⟩ := hv
  have hx := B.exec
  have hb := B.bytes
  have hr := B.returns
  have hts := atoms_spec (ws := wsL_mix) B.pre
  have hown : s.vm.findClass RL = some m.cls := findClass_of_methodNamed B.named
  have hlocks := B.notSynchronized
  have htab := vx_table (x := yL_mix) B (hts _ List.mem_cons_self)
  subst hsz
  generalize hAe : AO o ad s.heap.size = A at hZ ⊢
  have hA : ∀ q : Nat, s.heap.size ≤ q → A q := fun q h => by rw [← hAe]; exact Or.inr (Or.inr h)
  have hA33 : ∀ k, k < 33 → A (ad k) := fun k h => by rw [← hAe]; exact Or.inr (Or.inl ⟨k, h, rfl⟩)
  have hAo : A o := by rw [← hAe]; exact Or.inl rfl
  obtain ⟨H, hH⟩ : ∃ H : Heap, H = s.heap := ⟨_, rfl⟩
  have hS : va_S A s.heap H [] := by rw [hH]; exact va_S.rf
  have hAW : ∀ q, AW ad H.size q → A q := fun q h => h.elim (fun ⟨k, hk, e1⟩ => e1 ▸ hA33 k hk) (fun h => hA q (Nat.le_trans hS.1 h))
  rw [← hH]
  rw [← hH] at hP
  have hl := lv_entry ([.ref (ad 0), .int p1, .int p2, .ref o]) (n := 5) (Nat.le_of_ble_eq_true rfl)
  rw [lg_entry_eq]
  generalize (lg_sl ([.ref (ad 0), .int p1, .int p2, .ref o]) ++ List.replicate (5 - (lg_sl ([.ref (ad 0), .int p1, .int p2, .ref o])).length) Slot.unset).toArray = ls at hl ⊢
  have hl : lv_has ls 5 [(0, .ref (ad 0)), (1, .int p1), (2, .int p2), (3, .ref o)] := hl
  have hPh := va_Pt hP
  have hKh : va_K (dC, dI) vwCl (tysA cy) s := hK.sub [0, 1, 2, 3, 4, 5, 6, 7] rfl
  refine lv_aload_n hx hb dL_mix_0 rfl (lv_at hl 3 rfl) ?_
  refine lv_iconst (v := 0) hx hb dL_mix_1 (by decide) ?_
  refine lv_aload_n hx hb dL_mix_2 rfl (lv_at hl 0 rfl) ?_
  refine lv_iload_n hx hb dL_mix_3 rfl (lv_at hl 1 rfl) ?_
  refine lv_iload_n hx hb dL_mix_4 rfl (lv_at hl 2 rfl) ?_
  rcases hf with ⟨h0, hf⟩ | ⟨n, e9, hn, h0, hf, e1, e2⟩
  · refine va_calli (va_runV (As := [.int p1, .int p2]) (rest := [.int 0, .ref o]) ⟨hx, hb, hml, hown, hts⟩ (mt_X4_mix l dC dI ad cy hJ H.size I D p1 p2 w I9 D9 hf) (cwV 2 hts gL_mix_X4_mix rfl rfl rfl (by decide +kernel) ⟨Nat.le_of_ble_eq_true rfl, Nat.le_of_ble_eq_true rfl⟩) ⟨(hW.pre [.ref (ad 0), .int p1, .int p2] hPh hKh hN).1, hW.recv (C := RX4) (T := TX4) (N := 14) hPh hKh heH_0 rfl, (hW.pre [.ref (ad 0), .int p1, .int p2] hPh hKh hN).2⟩ rfl rfl hl.1 rfl (lv_room (Nat.le_of_ble_eq_true rfl)) dL_mix_5 ⟨Nat.le_of_ble_eq_true rfl, Nat.le_of_ble_eq_true rfl⟩) hS (fun q _ h => hAW q h) hAW (fun r9 u t H1 locs ht hvm hw hB hz1 hk1 hS => ?_)
    subst hw
    have hP := va_Ocall hP ho hk1 (by rw [← ht]; exact hB.1)
    clear hB hz1 hk1 hvm ht
    generalize H1 = H at hP hS ⊢
    refine lv_i2l hx hb dL_mix_8 rfl ?_
    refine va_last hx hb hK hP (hOD hJ hA33 hAo ho I9 D9) hS 0 8 rfl rfl vin0 dL_mix_9 (fun H locs hP _ hS => ?_)
    have hP : va_P (dC, dI) vwCl ((o, .inl (cL, 1, .inr (.inl (vp_updL f (0 : Int32).toNatClampNeg (w.toInt64))))) :: iwH ad cy I9 D9) H := hP
    refine lv_goto (tgt := 25) hx hb dL_mix_10 (by decide) ?_
    refine lv_iconst (v := 0) hx hb dL_mix_25 (by decide) ?_
    refine W.widen (k := 1) (n := 6) (by omega) (by omega) ?_
    exact vx_ret (W.iret (v := 0) hx hb hr (fun t ht hW => ⟨⟨0, (vp_updL f (0 : Int32).toNatClampNeg (w.toInt64)), rfl, ⟨h0.symm, fun _ => rfl⟩, by show va_P (dC, dI) vwCl _ t.heap; rw [ht]; exact hP⟩, hS.F ht⟩) hS.2.2 dL_mix_26)
  · have e1 := e1.symm
    have e2 := e2.symm
    subst e1
    subst e2
    refine vx_calli (vx_runV (As := [.int p1, .int p2]) (rest := [.int 0, .ref o]) ⟨hx, hb, hml, hown, hts⟩ (mx_X4_mix l hl0 dC dI ad cy hJ sa H.size I D p1 p2 e9 hf) (cwV 2 hts gL_mix_X4_mix rfl rfl rfl (by decide +kernel) ⟨Nat.le_of_ble_eq_true rfl, Nat.le_of_ble_eq_true rfl⟩) ⟨(hW.preX [.ref (ad 0), .int p1, .int p2] hPh hKh hN (xS_kept (B := AW ad H.size) hZ hS hAW)).1, hW.recv (C := RX4) (T := TX4) (N := 14) hPh hKh heH_0 rfl, (hW.preX [.ref (ad 0), .int p1, .int p2] hPh hKh hN (xS_kept (B := AW ad H.size) hZ hS hAW)).2⟩ rfl rfl hl.1 rfl (lv_room (Nat.le_of_ble_eq_true rfl)) dL_mix_5 ⟨Nat.le_of_ble_eq_true rfl, Nat.le_of_ble_eq_true rfl⟩) hS (fun q _ h => hAW q h) hAW (fun q _ h => hAW q h) (fun E9 ce q9 u t H1 locs1 ht9 hvm hpu hBX hz1 hk1 hS h1 h2 h3 => ?_) (fun r9 u t H1 locs ht9 hvm hw hB hz1 hk1 hS => hw.elim)
    obtain ⟨hE, hPx, -⟩ := hBX
    subst hE
    have hP := va_Ocall hP ho hk1 (by rw [← ht9]; exact hPx)
    clear hz1 hk1 hvm ht9 hPx hpu hf hPh
    generalize H1 = H at hP hS h1 ⊢
    match n, hn, h0 with
    | 0, hn, h0 =>
      have hn : (some IOB : Option String) = some e9 := hn
      obtain rfl := Option.some.inj hn
      refine vx_catch hown [] ⟨0, 10, 13, 21⟩ [⟨0, 10, 17, 13⟩, ⟨0, 10, 21, 15⟩] (htab.trans rfl) (fun z hz => absurd hz List.not_mem_nil) rfl (by decide) (hts (.classLink RL 21 "java/lang/IndexOutOfBoundsException") (List.mem_cons_of_mem _ (List.mem_append_left _ (List.mem_append_left _ (List.mem_append_left _ (List.mem_append_left _ (List.mem_append_left _ (List.mem_append_left _ (List.mem_append_left _ (List.mem_of_getElem? (i := 0) rfl)))))))))) (va_Nw.use (w := .castable IOB IOB) rfl hT.1) h1 h2 h3 ?_
      refine W.eq (g2 := F0 m 13 ls [.ref q9]) rfl ?_
      refine lv_astore (lv' := [(4, .ref q9), (0, .ref (ad 0)), (1, .int p1), (2, .int p2), (3, .ref o)]) hx hb dL_mix_13 hl (by decide) rfl (fun ls hl => ?_)
      refine lv_iconst (v := 1) hx hb dL_mix_15 (by decide) ?_
      subst h0
      exact vx_ret (W.iret (v := 1) hx hb hr (fun t ht hW => ⟨⟨1, f, rfl, ⟨rfl, fun z => absurd z (by decide)⟩, by show va_P (dC, dI) vwCl _ t.heap; rw [ht]; exact hP⟩, hS.F ht⟩) hS.2.2 dL_mix_16)
    | 1, hn, h0 =>
      have hn : (some IAE : Option String) = some e9 := hn
      obtain rfl := Option.some.inj hn
      refine vx_catch hown [⟨0, 10, 13, 21⟩] ⟨0, 10, 17, 13⟩ [⟨0, 10, 21, 15⟩] (htab.trans rfl) (fun z hz => by rw [List.mem_singleton.mp hz]; exact Or.inr ⟨by decide, IOB, hts (.classLink RL 21 "java/lang/IndexOutOfBoundsException") (List.mem_cons_of_mem _ (List.mem_append_left _ (List.mem_append_left _ (List.mem_append_left _ (List.mem_append_left _ (List.mem_append_left _ (List.mem_append_left _ (List.mem_append_left _ (List.mem_of_getElem? (i := 0) rfl))))))))), hT.2.2.2.1⟩) rfl (by decide) (hts (.classLink RL 13 "java/lang/IllegalArgumentException") (List.mem_cons_of_mem _ (List.mem_append_left _ (List.mem_append_left _ (List.mem_append_left _ (List.mem_append_left _ (List.mem_append_left _ (List.mem_append_left _ (List.mem_append_left _ (List.mem_of_getElem? (i := 1) rfl)))))))))) (va_Nw.use (w := .castable IAE IAE) rfl hT.2.1) h1 h2 h3 ?_
      refine W.eq (g2 := F0 m 17 ls [.ref q9]) rfl ?_
      refine lv_astore (lv' := [(4, .ref q9), (0, .ref (ad 0)), (1, .int p1), (2, .int p2), (3, .ref o)]) hx hb dL_mix_17 hl (by decide) rfl (fun ls hl => ?_)
      refine lv_iconst (v := 2) hx hb dL_mix_19 (by decide) ?_
      subst h0
      exact vx_ret (W.iret (v := 2) hx hb hr (fun t ht hW => ⟨⟨2, f, rfl, ⟨rfl, fun z => absurd z (by decide)⟩, by show va_P (dC, dI) vwCl _ t.heap; rw [ht]; exact hP⟩, hS.F ht⟩) hS.2.2 dL_mix_20)
    | 2, hn, h0 =>
      have hn : (some ISE : Option String) = some e9 := hn
      obtain rfl := Option.some.inj hn
      refine vx_catch hown [⟨0, 10, 13, 21⟩, ⟨0, 10, 17, 13⟩] ⟨0, 10, 21, 15⟩ [] (htab.trans rfl) (fun z hz => (List.mem_cons.mp hz).elim (fun hz => by rw [hz]; exact Or.inr ⟨by decide, IOB, hts (.classLink RL 21 "java/lang/IndexOutOfBoundsException") (List.mem_cons_of_mem _ (List.mem_append_left _ (List.mem_append_left _ (List.mem_append_left _ (List.mem_append_left _ (List.mem_append_left _ (List.mem_append_left _ (List.mem_append_left _ (List.mem_of_getElem? (i := 0) rfl))))))))), hT.2.2.2.2.1⟩) (fun hz => by rw [List.mem_singleton.mp hz]; exact Or.inr ⟨by decide, IAE, hts (.classLink RL 13 "java/lang/IllegalArgumentException") (List.mem_cons_of_mem _ (List.mem_append_left _ (List.mem_append_left _ (List.mem_append_left _ (List.mem_append_left _ (List.mem_append_left _ (List.mem_append_left _ (List.mem_append_left _ (List.mem_of_getElem? (i := 1) rfl))))))))), hT.2.2.2.2.2⟩)) rfl (by decide) (hts (.classLink RL 15 "java/lang/IllegalStateException") (List.mem_cons_of_mem _ (List.mem_append_left _ (List.mem_append_left _ (List.mem_append_left _ (List.mem_append_left _ (List.mem_append_left _ (List.mem_append_left _ (List.mem_append_left _ (List.mem_of_getElem? (i := 2) rfl)))))))))) (va_Nw.use (w := .castable ISE ISE) rfl hT.2.2.1) h1 h2 h3 ?_
      refine W.eq (g2 := F0 m 21 ls [.ref q9]) rfl ?_
      refine lv_astore (lv' := [(4, .ref q9), (0, .ref (ad 0)), (1, .int p1), (2, .int p2), (3, .ref o)]) hx hb dL_mix_21 hl (by decide) rfl (fun ls hl => ?_)
      refine lv_iconst (v := 3) hx hb dL_mix_23 (by decide) ?_
      subst h0
      exact vx_ret (W.iret (v := 3) hx hb hr (fun t ht hW => ⟨⟨3, f, rfl, ⟨rfl, fun z => absurd z (by decide)⟩, by show va_P (dC, dI) vwCl _ t.heap; rw [ht]; exact hP⟩, hS.F ht⟩) hS.2.2 dL_mix_24)
    | k + 3, hn, h0 =>
      simp at hn

set_option maxHeartbeats 4000000 in
set_option maxRecDepth 100000 in
theorem wL_put (l : Launch) (hl0 : l.stackTraces = false) (dC : Nat → ClassId) (dI : Nat → Nat → Nat) (ad : Nat → Nat) (cy : Nat → ClassId) (cL : ClassId) (hJ : J33 ad) (sa : Nat → Nat) (o : Nat) (ho : ∀ k, k < 33 → ad k ≠ o) (sz : Nat) (I : Nat → Nat → Int32) (D : Nat → Nat → UInt64) (f : Nat → Int64) (p1 p2 p3 : Int32) (r0 : Int32) (w : Int32) (I9 : Nat → Nat → Int32) (D9 : Nat → Nat → UInt64) (hf : (r0 = 0 ∧ f_X4_put I D p1 p2 p3 = some (Except.ok (w, I9, D9))) ∨ ∃ (n : Nat) (e9 : String), ([IOB, IAE, ISE] : List String)[n]? = some e9 ∧ r0 = nI (n + 1) ∧ f_X4_put I D p1 p2 p3 = some (.error e9) ∧ I9 = I ∧ D9 = D) : vx_Met l yL_put wsL_put ({ frames := 20, cells := 1, slots := 6, locals := 400 }) (va_Pc [.ref (ad 0), .int p1, .int p2, .int p3, .ref o] (fun U => U.heap.size = sz ∧ hO dC dI ad cy cL I D o (.inl (cL, 1, .inr (.inl f))) U ∧ xS sa (AO o ad sz) U ∧ xT U)) (va_Qi (fun r (g : Nat → Int64) => r = r0 ∧ (r0 = 0 → g 0 = w.toInt64)) (fun g t => va_P (dC, dI) vwCl ((o, .inl (cL, 1, .inr (.inl g))) :: iwH ad cy I9 D9) t.heap) (AO o ad sz)) (vx_X (fun _ : Unit => False) (fun _ _ _ => True) (AO o ad sz)) 1 6 (AO o ad sz) := by
  refine vx_ofWH (cc := cL_put) (maxL := 6) (ret := (some .int)) (by decide) rfl ?_
  intro p e s m args below meth c s₁ B hml hv
  obtain ⟨rfl, hsz, ⟨hP, hK, hN⟩, hZ, hT⟩ := hv
  have hx := B.exec
  have hb := B.bytes
  have hr := B.returns
  have hts := atoms_spec (ws := wsL_put) B.pre
  have hown : s.vm.findClass RL = some m.cls := findClass_of_methodNamed B.named
  have hlocks := B.notSynchronized
  have htab := vx_table (x := yL_put) B (hts _ List.mem_cons_self)
  subst hsz
  generalize hAe : AO o ad s.heap.size = A at hZ ⊢
  have hA : ∀ q : Nat, s.heap.size ≤ q → A q := fun q h => by rw [← hAe]; exact Or.inr (Or.inr h)
  have hA33 : ∀ k, k < 33 → A (ad k) := fun k h => by rw [← hAe]; exact Or.inr (Or.inl ⟨k, h, rfl⟩)
  have hAo : A o := by rw [← hAe]; exact Or.inl rfl
  obtain ⟨H, hH⟩ : ∃ H : Heap, H = s.heap := ⟨_, rfl⟩
  have hS : va_S A s.heap H [] := by rw [hH]; exact va_S.rf
  have hAW : ∀ q, AW ad H.size q → A q := fun q h => h.elim (fun ⟨k, hk, e1⟩ => e1 ▸ hA33 k hk) (fun h => hA q (Nat.le_trans hS.1 h))
  rw [← hH]
  rw [← hH] at hP
  have hl := lv_entry ([.ref (ad 0), .int p1, .int p2, .int p3, .ref o]) (n := 6) (Nat.le_of_ble_eq_true rfl)
  rw [lg_entry_eq]
  generalize (lg_sl ([.ref (ad 0), .int p1, .int p2, .int p3, .ref o]) ++ List.replicate (6 - (lg_sl ([.ref (ad 0), .int p1, .int p2, .int p3, .ref o])).length) Slot.unset).toArray = ls at hl ⊢
  have hl : lv_has ls 6 [(0, .ref (ad 0)), (1, .int p1), (2, .int p2), (3, .int p3), (4, .ref o)] := hl
  have hPh := va_Pt hP
  have hKh : va_K (dC, dI) vwCl (tysA cy) s := hK.sub [0, 1, 2, 3, 4, 5, 6, 7] rfl
  refine lv_aload hx hb dL_put_0 (lv_at hl 4 rfl) ?_
  refine lv_iconst (v := 0) hx hb dL_put_2 (by decide) ?_
  refine lv_aload_n hx hb dL_put_3 rfl (lv_at hl 0 rfl) ?_
  refine lv_iload_n hx hb dL_put_4 rfl (lv_at hl 1 rfl) ?_
  refine lv_iload_n hx hb dL_put_5 rfl (lv_at hl 2 rfl) ?_
  refine lv_iload_n hx hb dL_put_6 rfl (lv_at hl 3 rfl) ?_
  rcases hf with ⟨h0, hf⟩ | ⟨n, e9, hn, h0, hf, e1, e2⟩
  · refine va_calli (va_runV (As := [.int p1, .int p2, .int p3]) (rest := [.int 0, .ref o]) ⟨hx, hb, hml, hown, hts⟩ (mt_X4_put l dC dI ad cy hJ H.size I D p1 p2 p3 w I9 D9 hf) (cwV 3 hts gL_put_X4_put rfl rfl rfl (by decide +kernel) ⟨Nat.le_of_ble_eq_true rfl, Nat.le_of_ble_eq_true rfl⟩) ⟨(hW.pre [.ref (ad 0), .int p1, .int p2, .int p3] hPh hKh hN).1, hW.recv (C := RX4) (T := TX4) (N := 14) hPh hKh heH_0 rfl, (hW.pre [.ref (ad 0), .int p1, .int p2, .int p3] hPh hKh hN).2⟩ rfl rfl hl.1 rfl (lv_room (Nat.le_of_ble_eq_true rfl)) dL_put_7 ⟨Nat.le_of_ble_eq_true rfl, Nat.le_of_ble_eq_true rfl⟩) hS (fun q _ h => hAW q h) hAW (fun r9 u t H1 locs ht hvm hw hB hz1 hk1 hS => ?_)
    subst hw
    have hP := va_Ocall hP ho hk1 (by rw [← ht]; exact hB.1)
    clear hB hz1 hk1 hvm ht
    generalize H1 = H at hP hS ⊢
    refine lv_i2l hx hb dL_put_10 rfl ?_
    refine va_last hx hb hK hP (hOD hJ hA33 hAo ho I9 D9) hS 0 8 rfl rfl vin0 dL_put_11 (fun H locs hP _ hS => ?_)
    have hP : va_P (dC, dI) vwCl ((o, .inl (cL, 1, .inr (.inl (vp_updL f (0 : Int32).toNatClampNeg (w.toInt64))))) :: iwH ad cy I9 D9) H := hP
    refine lv_goto (tgt := 27) hx hb dL_put_12 (by decide) ?_
    refine lv_iconst (v := 0) hx hb dL_put_27 (by decide) ?_
    refine W.widen (k := 1) (n := 6) (by omega) (by omega) ?_
    exact vx_ret (W.iret (v := 0) hx hb hr (fun t ht hW => ⟨⟨0, (vp_updL f (0 : Int32).toNatClampNeg (w.toInt64)), rfl, ⟨h0.symm, fun _ => rfl⟩, by show va_P (dC, dI) vwCl _ t.heap; rw [ht]; exact hP⟩, hS.F ht⟩) hS.2.2 dL_put_28)
  · have e1 := e1.symm
    have e2 := e2.symm
    subst e1
    subst e2
    refine vx_calli (vx_runV (As := [.int p1, .int p2, .int p3]) (rest := [.int 0, .ref o]) ⟨hx, hb, hml, hown, hts⟩ (mx_X4_put l hl0 dC dI ad cy hJ sa H.size I D p1 p2 p3 e9 hf) (cwV 3 hts gL_put_X4_put rfl rfl rfl (by decide +kernel) ⟨Nat.le_of_ble_eq_true rfl, Nat.le_of_ble_eq_true rfl⟩) ⟨(hW.preX [.ref (ad 0), .int p1, .int p2, .int p3] hPh hKh hN (xS_kept (B := AW ad H.size) hZ hS hAW)).1, hW.recv (C := RX4) (T := TX4) (N := 14) hPh hKh heH_0 rfl, (hW.preX [.ref (ad 0), .int p1, .int p2, .int p3] hPh hKh hN (xS_kept (B := AW ad H.size) hZ hS hAW)).2⟩ rfl rfl hl.1 rfl (lv_room (Nat.le_of_ble_eq_true rfl)) dL_put_7 ⟨Nat.le_of_ble_eq_true rfl, Nat.le_of_ble_eq_true rfl⟩) hS (fun q _ h => hAW q h) hAW (fun q _ h => hAW q h) (fun E9 ce q9 u t H1 locs1 ht9 hvm hpu hBX hz1 hk1 hS h1 h2 h3 => ?_) (fun r9 u t H1 locs ht9 hvm hw hB hz1 hk1 hS => hw.elim)
    obtain ⟨hE, hPx, -⟩ := hBX
    subst hE
    have hP := va_Ocall hP ho hk1 (by rw [← ht9]; exact hPx)
    clear hz1 hk1 hvm ht9 hPx hpu hf hPh
    generalize H1 = H at hP hS h1 ⊢
    match n, hn, h0 with
    | 0, hn, h0 =>
      have hn : (some IOB : Option String) = some e9 := hn
      obtain rfl := Option.some.inj hn
      refine vx_catch hown [] ⟨0, 12, 15, 21⟩ [⟨0, 12, 19, 13⟩, ⟨0, 12, 23, 15⟩] (htab.trans rfl) (fun z hz => absurd hz List.not_mem_nil) rfl (by decide) (hts (.classLink RL 21 "java/lang/IndexOutOfBoundsException") (List.mem_cons_of_mem _ (List.mem_append_left _ (List.mem_append_left _ (List.mem_append_left _ (List.mem_append_left _ (List.mem_append_left _ (List.mem_append_left _ (List.mem_append_left _ (List.mem_of_getElem? (i := 0) rfl)))))))))) (va_Nw.use (w := .castable IOB IOB) rfl hT.1) h1 h2 h3 ?_
      refine W.eq (g2 := F0 m 15 ls [.ref q9]) rfl ?_
      refine lv_astore (lv' := [(5, .ref q9), (0, .ref (ad 0)), (1, .int p1), (2, .int p2), (3, .int p3), (4, .ref o)]) hx hb dL_put_15 hl (by decide) rfl (fun ls hl => ?_)
      refine lv_iconst (v := 1) hx hb dL_put_17 (by decide) ?_
      subst h0
      exact vx_ret (W.iret (v := 1) hx hb hr (fun t ht hW => ⟨⟨1, f, rfl, ⟨rfl, fun z => absurd z (by decide)⟩, by show va_P (dC, dI) vwCl _ t.heap; rw [ht]; exact hP⟩, hS.F ht⟩) hS.2.2 dL_put_18)
    | 1, hn, h0 =>
      have hn : (some IAE : Option String) = some e9 := hn
      obtain rfl := Option.some.inj hn
      refine vx_catch hown [⟨0, 12, 15, 21⟩] ⟨0, 12, 19, 13⟩ [⟨0, 12, 23, 15⟩] (htab.trans rfl) (fun z hz => by rw [List.mem_singleton.mp hz]; exact Or.inr ⟨by decide, IOB, hts (.classLink RL 21 "java/lang/IndexOutOfBoundsException") (List.mem_cons_of_mem _ (List.mem_append_left _ (List.mem_append_left _ (List.mem_append_left _ (List.mem_append_left _ (List.mem_append_left _ (List.mem_append_left _ (List.mem_append_left _ (List.mem_of_getElem? (i := 0) rfl))))))))), hT.2.2.2.1⟩) rfl (by decide) (hts (.classLink RL 13 "java/lang/IllegalArgumentException") (List.mem_cons_of_mem _ (List.mem_append_left _ (List.mem_append_left _ (List.mem_append_left _ (List.mem_append_left _ (List.mem_append_left _ (List.mem_append_left _ (List.mem_append_left _ (List.mem_of_getElem? (i := 1) rfl)))))))))) (va_Nw.use (w := .castable IAE IAE) rfl hT.2.1) h1 h2 h3 ?_
      refine W.eq (g2 := F0 m 19 ls [.ref q9]) rfl ?_
      refine lv_astore (lv' := [(5, .ref q9), (0, .ref (ad 0)), (1, .int p1), (2, .int p2), (3, .int p3), (4, .ref o)]) hx hb dL_put_19 hl (by decide) rfl (fun ls hl => ?_)
      refine lv_iconst (v := 2) hx hb dL_put_21 (by decide) ?_
      subst h0
      exact vx_ret (W.iret (v := 2) hx hb hr (fun t ht hW => ⟨⟨2, f, rfl, ⟨rfl, fun z => absurd z (by decide)⟩, by show va_P (dC, dI) vwCl _ t.heap; rw [ht]; exact hP⟩, hS.F ht⟩) hS.2.2 dL_put_22)
    | 2, hn, h0 =>
      have hn : (some ISE : Option String) = some e9 := hn
      obtain rfl := Option.some.inj hn
      refine vx_catch hown [⟨0, 12, 15, 21⟩, ⟨0, 12, 19, 13⟩] ⟨0, 12, 23, 15⟩ [] (htab.trans rfl) (fun z hz => (List.mem_cons.mp hz).elim (fun hz => by rw [hz]; exact Or.inr ⟨by decide, IOB, hts (.classLink RL 21 "java/lang/IndexOutOfBoundsException") (List.mem_cons_of_mem _ (List.mem_append_left _ (List.mem_append_left _ (List.mem_append_left _ (List.mem_append_left _ (List.mem_append_left _ (List.mem_append_left _ (List.mem_append_left _ (List.mem_of_getElem? (i := 0) rfl))))))))), hT.2.2.2.2.1⟩) (fun hz => by rw [List.mem_singleton.mp hz]; exact Or.inr ⟨by decide, IAE, hts (.classLink RL 13 "java/lang/IllegalArgumentException") (List.mem_cons_of_mem _ (List.mem_append_left _ (List.mem_append_left _ (List.mem_append_left _ (List.mem_append_left _ (List.mem_append_left _ (List.mem_append_left _ (List.mem_append_left _ (List.mem_of_getElem? (i := 1) rfl))))))))), hT.2.2.2.2.2⟩)) rfl (by decide) (hts (.classLink RL 15 "java/lang/IllegalStateException") (List.mem_cons_of_mem _ (List.mem_append_left _ (List.mem_append_left _ (List.mem_append_left _ (List.mem_append_left _ (List.mem_append_left _ (List.mem_append_left _ (List.mem_append_left _ (List.mem_of_getElem? (i := 2) rfl)))))))))) (va_Nw.use (w := .castable ISE ISE) rfl hT.2.2.1) h1 h2 h3 ?_
      refine W.eq (g2 := F0 m 23 ls [.ref q9]) rfl ?_
      refine lv_astore (lv' := [(5, .ref q9), (0, .ref (ad 0)), (1, .int p1), (2, .int p2), (3, .int p3), (4, .ref o)]) hx hb dL_put_23 hl (by decide) rfl (fun ls hl => ?_)
      refine lv_iconst (v := 3) hx hb dL_put_25 (by decide) ?_
      subst h0
      exact vx_ret (W.iret (v := 3) hx hb hr (fun t ht hW => ⟨⟨3, f, rfl, ⟨rfl, fun z => absurd z (by decide)⟩, by show va_P (dC, dI) vwCl _ t.heap; rw [ht]; exact hP⟩, hS.F ht⟩) hS.2.2 dL_put_26)
    | k + 3, hn, h0 =>
      simp at hn

set_option maxHeartbeats 4000000 in
set_option maxRecDepth 100000 in
theorem wL_heat (l : Launch) (hl0 : l.stackTraces = false) (dC : Nat → ClassId) (dI : Nat → Nat → Nat) (ad : Nat → Nat) (cy : Nat → ClassId) (cL : ClassId) (hJ : J33 ad) (sa : Nat → Nat) (o : Nat) (ho : ∀ k, k < 33 → ad k ≠ o) (sz : Nat) (I : Nat → Nat → Int32) (D : Nat → Nat → UInt64) (f : Nat → Int64) (p1 p2 p3 : Int32) (r0 : Int32) (w : Int32) (I9 : Nat → Nat → Int32) (D9 : Nat → Nat → UInt64) (hf : (r0 = 0 ∧ f_X4_heat I D p1 p2 p3 = some (Except.ok (w, I9, D9))) ∨ ∃ (n : Nat) (e9 : String), ([IOB, IAE] : List String)[n]? = some e9 ∧ r0 = nI (n + 1) ∧ f_X4_heat I D p1 p2 p3 = some (.error e9) ∧ I9 = I ∧ D9 = D) : vx_Met l yL_heat wsL_heat ({ frames := 20, cells := 1, slots := 6, locals := 400 }) (va_Pc [.ref (ad 0), .int p1, .int p2, .int p3, .ref o] (fun U => U.heap.size = sz ∧ hO dC dI ad cy cL I D o (.inl (cL, 1, .inr (.inl f))) U ∧ xS sa (AO o ad sz) U ∧ xT U)) (va_Qi (fun r (g : Nat → Int64) => r = r0 ∧ (r0 = 0 → g 0 = (if w = 0 then 0 else 1))) (fun g t => va_P (dC, dI) vwCl ((o, .inl (cL, 1, .inr (.inl g))) :: iwH ad cy I9 D9) t.heap) (AO o ad sz)) (vx_X (fun _ : Unit => False) (fun _ _ _ => True) (AO o ad sz)) 1 6 (AO o ad sz) := by
  refine vx_ofWH (cc := cL_heat) (maxL := 6) (ret := (some .int)) (by decide) rfl ?_
  intro p e s m args below meth c s₁ B hml hv
  obtain ⟨rfl, hsz, ⟨hP, hK, hN⟩, hZ, hT⟩ := hv
  have hx := B.exec
  have hb := B.bytes
  have hr := B.returns
  have hts := atoms_spec (ws := wsL_heat) B.pre
  have hown : s.vm.findClass RL = some m.cls := findClass_of_methodNamed B.named
  have hlocks := B.notSynchronized
  have htab := vx_table (x := yL_heat) B (hts _ List.mem_cons_self)
  subst hsz
  generalize hAe : AO o ad s.heap.size = A at hZ ⊢
  have hA : ∀ q : Nat, s.heap.size ≤ q → A q := fun q h => by rw [← hAe]; exact Or.inr (Or.inr h)
  have hA33 : ∀ k, k < 33 → A (ad k) := fun k h => by rw [← hAe]; exact Or.inr (Or.inl ⟨k, h, rfl⟩)
  have hAo : A o := by rw [← hAe]; exact Or.inl rfl
  obtain ⟨H, hH⟩ : ∃ H : Heap, H = s.heap := ⟨_, rfl⟩
  have hS : va_S A s.heap H [] := by rw [hH]; exact va_S.rf
  have hAW : ∀ q, AW ad H.size q → A q := fun q h => h.elim (fun ⟨k, hk, e1⟩ => e1 ▸ hA33 k hk) (fun h => hA q (Nat.le_trans hS.1 h))
  rw [← hH]
  rw [← hH] at hP
  have hl := lv_entry ([.ref (ad 0), .int p1, .int p2, .int p3, .ref o]) (n := 6) (Nat.le_of_ble_eq_true rfl)
  rw [lg_entry_eq]
  generalize (lg_sl ([.ref (ad 0), .int p1, .int p2, .int p3, .ref o]) ++ List.replicate (6 - (lg_sl ([.ref (ad 0), .int p1, .int p2, .int p3, .ref o])).length) Slot.unset).toArray = ls at hl ⊢
  have hl : lv_has ls 6 [(0, .ref (ad 0)), (1, .int p1), (2, .int p2), (3, .int p3), (4, .ref o)] := hl
  have hPh := va_Pt hP
  have hKh : va_K (dC, dI) vwCl (tysA cy) s := hK.sub [0, 1, 2, 3, 4, 5, 6, 7] rfl
  refine lv_aload hx hb dL_heat_0 (lv_at hl 4 rfl) ?_
  refine lv_iconst (v := 0) hx hb dL_heat_2 (by decide) ?_
  refine lv_aload_n hx hb dL_heat_3 rfl (lv_at hl 0 rfl) ?_
  refine lv_iload_n hx hb dL_heat_4 rfl (lv_at hl 1 rfl) ?_
  refine lv_iload_n hx hb dL_heat_5 rfl (lv_at hl 2 rfl) ?_
  refine lv_iload_n hx hb dL_heat_6 rfl (lv_at hl 3 rfl) ?_
  rcases hf with ⟨h0, hf⟩ | ⟨n, e9, hn, h0, hf, e1, e2⟩
  · refine va_calli (va_runV (As := [.int p1, .int p2, .int p3]) (rest := [.int 0, .ref o]) ⟨hx, hb, hml, hown, hts⟩ (mt_X4_heat l dC dI ad cy hJ H.size I D p1 p2 p3 w I9 D9 hf) (cwV 3 hts gL_heat_X4_heat rfl rfl rfl (by decide +kernel) ⟨Nat.le_of_ble_eq_true rfl, Nat.le_of_ble_eq_true rfl⟩) ⟨(hW.pre [.ref (ad 0), .int p1, .int p2, .int p3] hPh hKh hN).1, hW.recv (C := RX4) (T := TX4) (N := 14) hPh hKh heH_0 rfl, (hW.pre [.ref (ad 0), .int p1, .int p2, .int p3] hPh hKh hN).2⟩ rfl rfl hl.1 rfl (lv_room (Nat.le_of_ble_eq_true rfl)) dL_heat_7 ⟨Nat.le_of_ble_eq_true rfl, Nat.le_of_ble_eq_true rfl⟩) hS (fun q _ h => hAW q h) hAW (fun r9 u t H1 locs ht hvm hw hB hz1 hk1 hS => ?_)
    subst hw
    have hP := va_Ocall hP ho hk1 (by rw [← ht]; exact hB.1)
    clear hB hz1 hk1 hvm ht
    generalize H1 = H at hP hS ⊢
    refine lv_if_eq (tgt := 17) hx hb dL_heat_10 (by decide) (fun c1 => ?_) (fun c1 => ?_)
    · refine lv_lconst (v := 0) hx hb dL_heat_17 (by decide) ?_
      refine va_last hx hb hK hP (hOD hJ hA33 hAo ho I9 D9) hS 0 8 rfl rfl vin0 dL_heat_18 (fun H locs hP _ hS => ?_)
      have hP : va_P (dC, dI) vwCl ((o, .inl (cL, 1, .inr (.inl (vp_updL f (0 : Int32).toNatClampNeg (0))))) :: iwH ad cy I9 D9) H := hP
      refine lv_goto (tgt := 30) hx hb dL_heat_19 (by decide) ?_
      refine lv_iconst (v := 0) hx hb dL_heat_30 (by decide) ?_
      refine W.widen (k := 1) (n := 6) (by omega) (by omega) ?_
      exact vx_ret (W.iret (v := 0) hx hb hr (fun t ht hW => ⟨⟨0, (vp_updL f (0 : Int32).toNatClampNeg (0)), rfl, ⟨h0.symm, fun _ => by rw [if_pos c1]; rfl⟩, by show va_P (dC, dI) vwCl _ t.heap; rw [ht]; exact hP⟩, hS.F ht⟩) hS.2.2 dL_heat_31)
    · refine lv_lconst (v := 1) hx hb dL_heat_13 (by decide) ?_
      refine lv_goto (tgt := 18) hx hb dL_heat_14 (by decide) ?_
      refine va_last hx hb hK hP (hOD hJ hA33 hAo ho I9 D9) hS 0 8 rfl rfl vin0 dL_heat_18 (fun H locs hP _ hS => ?_)
      have hP : va_P (dC, dI) vwCl ((o, .inl (cL, 1, .inr (.inl (vp_updL f (0 : Int32).toNatClampNeg (1))))) :: iwH ad cy I9 D9) H := hP
      refine lv_goto (tgt := 30) hx hb dL_heat_19 (by decide) ?_
      refine lv_iconst (v := 0) hx hb dL_heat_30 (by decide) ?_
      refine W.widen (k := 1) (n := 6) (by omega) (by omega) ?_
      exact vx_ret (W.iret (v := 0) hx hb hr (fun t ht hW => ⟨⟨0, (vp_updL f (0 : Int32).toNatClampNeg (1)), rfl, ⟨h0.symm, fun _ => by rw [if_neg c1]; rfl⟩, by show va_P (dC, dI) vwCl _ t.heap; rw [ht]; exact hP⟩, hS.F ht⟩) hS.2.2 dL_heat_31)
  · have e1 := e1.symm
    have e2 := e2.symm
    subst e1
    subst e2
    refine vx_calli (vx_runV (As := [.int p1, .int p2, .int p3]) (rest := [.int 0, .ref o]) ⟨hx, hb, hml, hown, hts⟩ (mx_X4_heat l hl0 dC dI ad cy hJ sa H.size I D p1 p2 p3 e9 hf) (cwV 3 hts gL_heat_X4_heat rfl rfl rfl (by decide +kernel) ⟨Nat.le_of_ble_eq_true rfl, Nat.le_of_ble_eq_true rfl⟩) ⟨(hW.preX [.ref (ad 0), .int p1, .int p2, .int p3] hPh hKh hN (xS_kept (B := AW ad H.size) hZ hS hAW)).1, hW.recv (C := RX4) (T := TX4) (N := 14) hPh hKh heH_0 rfl, (hW.preX [.ref (ad 0), .int p1, .int p2, .int p3] hPh hKh hN (xS_kept (B := AW ad H.size) hZ hS hAW)).2⟩ rfl rfl hl.1 rfl (lv_room (Nat.le_of_ble_eq_true rfl)) dL_heat_7 ⟨Nat.le_of_ble_eq_true rfl, Nat.le_of_ble_eq_true rfl⟩) hS (fun q _ h => hAW q h) hAW (fun q _ h => hAW q h) (fun E9 ce q9 u t H1 locs1 ht9 hvm hpu hBX hz1 hk1 hS h1 h2 h3 => ?_) (fun r9 u t H1 locs ht9 hvm hw hB hz1 hk1 hS => hw.elim)
    obtain ⟨hE, hPx, -⟩ := hBX
    subst hE
    have hP := va_Ocall hP ho hk1 (by rw [← ht9]; exact hPx)
    clear hz1 hk1 hvm ht9 hPx hpu hf hPh
    generalize H1 = H at hP hS h1 ⊢
    match n, hn, h0 with
    | 0, hn, h0 =>
      have hn : (some IOB : Option String) = some e9 := hn
      obtain rfl := Option.some.inj hn
      refine vx_catch hown [] ⟨0, 19, 22, 21⟩ [⟨0, 19, 26, 13⟩] (htab.trans rfl) (fun z hz => absurd hz List.not_mem_nil) rfl (by decide) (hts (.classLink RL 21 "java/lang/IndexOutOfBoundsException") (List.mem_cons_of_mem _ (List.mem_append_left _ (List.mem_append_left _ (List.mem_append_left _ (List.mem_append_left _ (List.mem_of_getElem? (i := 0) rfl))))))) (va_Nw.use (w := .castable IOB IOB) rfl hT.1) h1 h2 h3 ?_
      refine W.eq (g2 := F0 m 22 ls [.ref q9]) rfl ?_
      refine lv_astore (lv' := [(5, .ref q9), (0, .ref (ad 0)), (1, .int p1), (2, .int p2), (3, .int p3), (4, .ref o)]) hx hb dL_heat_22 hl (by decide) rfl (fun ls hl => ?_)
      refine lv_iconst (v := 1) hx hb dL_heat_24 (by decide) ?_
      subst h0
      exact vx_ret (W.iret (v := 1) hx hb hr (fun t ht hW => ⟨⟨1, f, rfl, ⟨rfl, fun z => absurd z (by decide)⟩, by show va_P (dC, dI) vwCl _ t.heap; rw [ht]; exact hP⟩, hS.F ht⟩) hS.2.2 dL_heat_25)
    | 1, hn, h0 =>
      have hn : (some IAE : Option String) = some e9 := hn
      obtain rfl := Option.some.inj hn
      refine vx_catch hown [⟨0, 19, 22, 21⟩] ⟨0, 19, 26, 13⟩ [] (htab.trans rfl) (fun z hz => by rw [List.mem_singleton.mp hz]; exact Or.inr ⟨by decide, IOB, hts (.classLink RL 21 "java/lang/IndexOutOfBoundsException") (List.mem_cons_of_mem _ (List.mem_append_left _ (List.mem_append_left _ (List.mem_append_left _ (List.mem_append_left _ (List.mem_of_getElem? (i := 0) rfl)))))), hT.2.2.2.1⟩) rfl (by decide) (hts (.classLink RL 13 "java/lang/IllegalArgumentException") (List.mem_cons_of_mem _ (List.mem_append_left _ (List.mem_append_left _ (List.mem_append_left _ (List.mem_append_left _ (List.mem_of_getElem? (i := 1) rfl))))))) (va_Nw.use (w := .castable IAE IAE) rfl hT.2.1) h1 h2 h3 ?_
      refine W.eq (g2 := F0 m 26 ls [.ref q9]) rfl ?_
      refine lv_astore (lv' := [(5, .ref q9), (0, .ref (ad 0)), (1, .int p1), (2, .int p2), (3, .int p3), (4, .ref o)]) hx hb dL_heat_26 hl (by decide) rfl (fun ls hl => ?_)
      refine lv_iconst (v := 2) hx hb dL_heat_28 (by decide) ?_
      subst h0
      exact vx_ret (W.iret (v := 2) hx hb hr (fun t ht hW => ⟨⟨2, f, rfl, ⟨rfl, fun z => absurd z (by decide)⟩, by show va_P (dC, dI) vwCl _ t.heap; rw [ht]; exact hP⟩, hS.F ht⟩) hS.2.2 dL_heat_29)
    | k + 2, hn, h0 =>
      simp at hn

set_option maxHeartbeats 4000000 in
set_option maxRecDepth 100000 in
theorem wL_run (l : Launch) (hl0 : l.stackTraces = false) (dC : Nat → ClassId) (dI : Nat → Nat → Nat) (ad : Nat → Nat) (cy : Nat → ClassId) (cL : ClassId) (hJ : J33 ad) (sa : Nat → Nat) (o : Nat) (ho : ∀ k, k < 33 → ad k ≠ o) (sz : Nat) (I : Nat → Nat → Int32) (D : Nat → Nat → UInt64) (f : Nat → Int64) (p1 p2 p3 p4 : Int32) (r0 : Int32) (w : Int32) (I9 : Nat → Nat → Int32) (D9 : Nat → Nat → UInt64) (hf : (r0 = 0 ∧ f_X4_run I D p1 p2 p3 p4 = some (Except.ok (w, I9, D9))) ∨ ∃ (n : Nat) (e9 : String), ([IOB, IAE] : List String)[n]? = some e9 ∧ r0 = nI (n + 1) ∧ f_X4_run I D p1 p2 p3 p4 = some (.error e9) ∧ I9 = I ∧ D9 = D) : vx_Met l yL_run wsL_run ({ frames := 20, cells := 1, slots := 6, locals := 400 }) (va_Pc [.ref (ad 0), .int p1, .int p2, .int p3, .int p4, .ref o] (fun U => U.heap.size = sz ∧ hO dC dI ad cy cL I D o (.inl (cL, 1, .inr (.inl f))) U ∧ xS sa (AO o ad sz) U ∧ xT U)) (va_Qi (fun r (g : Nat → Int64) => r = r0 ∧ (r0 = 0 → g 0 = w.toInt64)) (fun g t => va_P (dC, dI) vwCl ((o, .inl (cL, 1, .inr (.inl g))) :: iwH ad cy I9 D9) t.heap) (AO o ad sz)) (vx_X (fun _ : Unit => False) (fun _ _ _ => True) (AO o ad sz)) 1 6 (AO o ad sz) := by
  refine vx_ofWH (cc := cL_run) (maxL := 7) (ret := (some .int)) (by decide) rfl ?_
  intro p e s m args below meth c s₁ B hml hv
  obtain ⟨rfl, hsz, ⟨hP, hK, hN⟩, hZ, hT⟩ := hv
  have hx := B.exec
  have hb := B.bytes
  have hr := B.returns
  have hts := atoms_spec (ws := wsL_run) B.pre
  have hown : s.vm.findClass RL = some m.cls := findClass_of_methodNamed B.named
  have hlocks := B.notSynchronized
  have htab := vx_table (x := yL_run) B (hts _ List.mem_cons_self)
  subst hsz
  generalize hAe : AO o ad s.heap.size = A at hZ ⊢
  have hA : ∀ q : Nat, s.heap.size ≤ q → A q := fun q h => by rw [← hAe]; exact Or.inr (Or.inr h)
  have hA33 : ∀ k, k < 33 → A (ad k) := fun k h => by rw [← hAe]; exact Or.inr (Or.inl ⟨k, h, rfl⟩)
  have hAo : A o := by rw [← hAe]; exact Or.inl rfl
  obtain ⟨H, hH⟩ : ∃ H : Heap, H = s.heap := ⟨_, rfl⟩
  have hS : va_S A s.heap H [] := by rw [hH]; exact va_S.rf
  have hAW : ∀ q, AW ad H.size q → A q := fun q h => h.elim (fun ⟨k, hk, e1⟩ => e1 ▸ hA33 k hk) (fun h => hA q (Nat.le_trans hS.1 h))
  rw [← hH]
  rw [← hH] at hP
  have hl := lv_entry ([.ref (ad 0), .int p1, .int p2, .int p3, .int p4, .ref o]) (n := 7) (Nat.le_of_ble_eq_true rfl)
  rw [lg_entry_eq]
  generalize (lg_sl ([.ref (ad 0), .int p1, .int p2, .int p3, .int p4, .ref o]) ++ List.replicate (7 - (lg_sl ([.ref (ad 0), .int p1, .int p2, .int p3, .int p4, .ref o])).length) Slot.unset).toArray = ls at hl ⊢
  have hl : lv_has ls 7 [(0, .ref (ad 0)), (1, .int p1), (2, .int p2), (3, .int p3), (4, .int p4), (5, .ref o)] := hl
  have hPh := va_Pt hP
  have hKh : va_K (dC, dI) vwCl (tysA cy) s := hK.sub [0, 1, 2, 3, 4, 5, 6, 7] rfl
  refine lv_aload hx hb dL_run_0 (lv_at hl 5 rfl) ?_
  refine lv_iconst (v := 0) hx hb dL_run_2 (by decide) ?_
  refine lv_aload_n hx hb dL_run_3 rfl (lv_at hl 0 rfl) ?_
  refine lv_iload_n hx hb dL_run_4 rfl (lv_at hl 1 rfl) ?_
  refine lv_iload_n hx hb dL_run_5 rfl (lv_at hl 2 rfl) ?_
  refine lv_iload_n hx hb dL_run_6 rfl (lv_at hl 3 rfl) ?_
  refine lv_iload hx hb dL_run_7 (lv_at hl 4 rfl) ?_
  rcases hf with ⟨h0, hf⟩ | ⟨n, e9, hn, h0, hf, e1, e2⟩
  · refine va_calli (va_runV (As := [.int p1, .int p2, .int p3, .int p4]) (rest := [.int 0, .ref o]) ⟨hx, hb, hml, hown, hts⟩ (mt_X4_run l dC dI ad cy hJ H.size I D p1 p2 p3 p4 w I9 D9 hf) (cwV 4 hts gL_run_X4_run rfl rfl rfl (by decide +kernel) ⟨Nat.le_of_ble_eq_true rfl, Nat.le_of_ble_eq_true rfl⟩) ⟨(hW.pre [.ref (ad 0), .int p1, .int p2, .int p3, .int p4] hPh hKh hN).1, hW.recv (C := RX4) (T := TX4) (N := 14) hPh hKh heH_0 rfl, (hW.pre [.ref (ad 0), .int p1, .int p2, .int p3, .int p4] hPh hKh hN).2⟩ rfl rfl hl.1 rfl (lv_room (Nat.le_of_ble_eq_true rfl)) dL_run_9 ⟨Nat.le_of_ble_eq_true rfl, Nat.le_of_ble_eq_true rfl⟩) hS (fun q _ h => hAW q h) hAW (fun r9 u t H1 locs ht hvm hw hB hz1 hk1 hS => ?_)
    subst hw
    have hP := va_Ocall hP ho hk1 (by rw [← ht]; exact hB.1)
    clear hB hz1 hk1 hvm ht
    generalize H1 = H at hP hS ⊢
    refine lv_i2l hx hb dL_run_12 rfl ?_
    refine va_last hx hb hK hP (hOD hJ hA33 hAo ho I9 D9) hS 0 8 rfl rfl vin0 dL_run_13 (fun H locs hP _ hS => ?_)
    have hP : va_P (dC, dI) vwCl ((o, .inl (cL, 1, .inr (.inl (vp_updL f (0 : Int32).toNatClampNeg (w.toInt64))))) :: iwH ad cy I9 D9) H := hP
    refine lv_goto (tgt := 25) hx hb dL_run_14 (by decide) ?_
    refine lv_iconst (v := 0) hx hb dL_run_25 (by decide) ?_
    refine W.widen (k := 1) (n := 6) (by omega) (by omega) ?_
    exact vx_ret (W.iret (v := 0) hx hb hr (fun t ht hW => ⟨⟨0, (vp_updL f (0 : Int32).toNatClampNeg (w.toInt64)), rfl, ⟨h0.symm, fun _ => rfl⟩, by show va_P (dC, dI) vwCl _ t.heap; rw [ht]; exact hP⟩, hS.F ht⟩) hS.2.2 dL_run_26)
  · have e1 := e1.symm
    have e2 := e2.symm
    subst e1
    subst e2
    refine vx_calli (vx_runV (As := [.int p1, .int p2, .int p3, .int p4]) (rest := [.int 0, .ref o]) ⟨hx, hb, hml, hown, hts⟩ (mx_X4_run l hl0 dC dI ad cy hJ sa H.size I D p1 p2 p3 p4 e9 hf) (cwV 4 hts gL_run_X4_run rfl rfl rfl (by decide +kernel) ⟨Nat.le_of_ble_eq_true rfl, Nat.le_of_ble_eq_true rfl⟩) ⟨(hW.preX [.ref (ad 0), .int p1, .int p2, .int p3, .int p4] hPh hKh hN (xS_kept (B := AW ad H.size) hZ hS hAW)).1, hW.recv (C := RX4) (T := TX4) (N := 14) hPh hKh heH_0 rfl, (hW.preX [.ref (ad 0), .int p1, .int p2, .int p3, .int p4] hPh hKh hN (xS_kept (B := AW ad H.size) hZ hS hAW)).2⟩ rfl rfl hl.1 rfl (lv_room (Nat.le_of_ble_eq_true rfl)) dL_run_9 ⟨Nat.le_of_ble_eq_true rfl, Nat.le_of_ble_eq_true rfl⟩) hS (fun q _ h => hAW q h) hAW (fun q _ h => hAW q h) (fun E9 ce q9 u t H1 locs1 ht9 hvm hpu hBX hz1 hk1 hS h1 h2 h3 => ?_) (fun r9 u t H1 locs ht9 hvm hw hB hz1 hk1 hS => hw.elim)
    obtain ⟨hE, hPx, -⟩ := hBX
    subst hE
    have hP := va_Ocall hP ho hk1 (by rw [← ht9]; exact hPx)
    clear hz1 hk1 hvm ht9 hPx hpu hf hPh
    generalize H1 = H at hP hS h1 ⊢
    match n, hn, h0 with
    | 0, hn, h0 =>
      have hn : (some IOB : Option String) = some e9 := hn
      obtain rfl := Option.some.inj hn
      refine vx_catch hown [] ⟨0, 14, 17, 21⟩ [⟨0, 14, 21, 13⟩] (htab.trans rfl) (fun z hz => absurd hz List.not_mem_nil) rfl (by decide) (hts (.classLink RL 21 "java/lang/IndexOutOfBoundsException") (List.mem_cons_of_mem _ (List.mem_append_left _ (List.mem_append_left _ (List.mem_append_left _ (List.mem_append_left _ (List.mem_append_left _ (List.mem_append_left _ (List.mem_of_getElem? (i := 0) rfl))))))))) (va_Nw.use (w := .castable IOB IOB) rfl hT.1) h1 h2 h3 ?_
      refine W.eq (g2 := F0 m 17 ls [.ref q9]) rfl ?_
      refine lv_astore (lv' := [(6, .ref q9), (0, .ref (ad 0)), (1, .int p1), (2, .int p2), (3, .int p3), (4, .int p4), (5, .ref o)]) hx hb dL_run_17 hl (by decide) rfl (fun ls hl => ?_)
      refine lv_iconst (v := 1) hx hb dL_run_19 (by decide) ?_
      subst h0
      exact vx_ret (W.iret (v := 1) hx hb hr (fun t ht hW => ⟨⟨1, f, rfl, ⟨rfl, fun z => absurd z (by decide)⟩, by show va_P (dC, dI) vwCl _ t.heap; rw [ht]; exact hP⟩, hS.F ht⟩) hS.2.2 dL_run_20)
    | 1, hn, h0 =>
      have hn : (some IAE : Option String) = some e9 := hn
      obtain rfl := Option.some.inj hn
      refine vx_catch hown [⟨0, 14, 17, 21⟩] ⟨0, 14, 21, 13⟩ [] (htab.trans rfl) (fun z hz => by rw [List.mem_singleton.mp hz]; exact Or.inr ⟨by decide, IOB, hts (.classLink RL 21 "java/lang/IndexOutOfBoundsException") (List.mem_cons_of_mem _ (List.mem_append_left _ (List.mem_append_left _ (List.mem_append_left _ (List.mem_append_left _ (List.mem_append_left _ (List.mem_append_left _ (List.mem_of_getElem? (i := 0) rfl)))))))), hT.2.2.2.1⟩) rfl (by decide) (hts (.classLink RL 13 "java/lang/IllegalArgumentException") (List.mem_cons_of_mem _ (List.mem_append_left _ (List.mem_append_left _ (List.mem_append_left _ (List.mem_append_left _ (List.mem_append_left _ (List.mem_append_left _ (List.mem_of_getElem? (i := 1) rfl))))))))) (va_Nw.use (w := .castable IAE IAE) rfl hT.2.1) h1 h2 h3 ?_
      refine W.eq (g2 := F0 m 21 ls [.ref q9]) rfl ?_
      refine lv_astore (lv' := [(6, .ref q9), (0, .ref (ad 0)), (1, .int p1), (2, .int p2), (3, .int p3), (4, .int p4), (5, .ref o)]) hx hb dL_run_21 hl (by decide) rfl (fun ls hl => ?_)
      refine lv_iconst (v := 2) hx hb dL_run_23 (by decide) ?_
      subst h0
      exact vx_ret (W.iret (v := 2) hx hb hr (fun t ht hW => ⟨⟨2, f, rfl, ⟨rfl, fun z => absurd z (by decide)⟩, by show va_P (dC, dI) vwCl _ t.heap; rw [ht]; exact hP⟩, hS.F ht⟩) hS.2.2 dL_run_24)
    | k + 2, hn, h0 =>
      simp at hn
