set_option maxHeartbeats 4000000 in
set_option maxRecDepth 100000 in
theorem wL_door (l : Launch) (hl0 : l.stackTraces = false) (dC : Nat → ClassId) (dI : Nat → Nat → Nat) (ad : Nat → Nat) (cy : Nat → ClassId) (cL : ClassId) (hJ : J33 ad) (sa : Nat → Nat) (o : Nat) (ho : ∀ k, k < 33 → ad k ≠ o) (sz : Nat) (I : Nat → Nat → Int32) (D : Nat → Nat → UInt64) (f : Nat → UInt64) (p1 p2 : Int32) (r0 : Int32) (w : UInt64) (I9 : Nat → Nat → Int32) (D9 : Nat → Nat → UInt64) (hf : (r0 = 0 ∧ f_X4_door I D p1 p2 = some (Except.ok (w, I9, D9))) ∨ ∃ (n : Nat) (e9 : String), ([IOB, IAE] : List String)[n]? = some e9 ∧ r0 = nI (n + 1) ∧ f_X4_door I D p1 p2 = some (.error e9) ∧ I9 = I ∧ D9 = D) : vx_Met l yL_door wsL_door ({ frames := 20, cells := 1, slots := 6, locals := 400 }) (va_Pc [.ref (ad 0), .int p1, .int p2, .ref o] (fun U => U.heap.size = sz ∧ hO dC dI ad cy cL I D o (.inl (cy 6, 1, .inr (.inr (.inr (.inl f))))) U ∧ xS sa (AO o ad sz) U ∧ xT U)) (va_Qi (fun r (g : Nat → UInt64) => r = r0 ∧ (r0 = 0 → g 0 = w)) (fun g t => va_P (dC, dI) vwCl ((o, .inl (cy 6, 1, .inr (.inr (.inr (.inl g))))) :: iwH ad cy I9 D9) t.heap) (AO o ad sz)) (vx_X (fun _ : Unit => False) (fun _ _ _ => True) (AO o ad sz)) 1 6 (AO o ad sz) := by
  refine vx_ofWH (cc := cL_door) (maxL := 5) (ret := (some .int)) (by decide) rfl ?_
  intro p e s m args below meth c s₁ B hml hv
  obtain ⟨rfl, hsz, ⟨hP, hK, hN⟩, hZ, hT⟩ := hv
  have hx := B.exec
  have hb := B.bytes
  have hr := B.returns
  have hts := atoms_spec (ws := wsL_door) B.pre
  have hown : s.vm.findClass RL = some m.cls := findClass_of_methodNamed B.named
  have hlocks := B.notSynchronized
  have htab := vx_table (x := yL_door) B (hts _ List.mem_cons_self)
  subst hsz
  generalize hAe : AO o ad s.heap.size = A at hZ ⊢
  have hA : ∀ q : Nat, s.heap.size ≤ q → A q := fun q h => by rw [← hAe]; exact Or.inr (Or.inr h)
  have hA33 : ∀ k, k < 33 → A (ad k) := fun k h => by rw [← hAe]; exact Or.inr (Or.inl ⟨k, h, rfl⟩)
  have hAo : A o := by rw [← hAe]; exact Or.inl rfl
  obtain ⟨H, hH⟩ : ∃ H : Heap, H = s.heap := ⟨_, rfl⟩
  have hS : va_S A s.heap H [] := by rw [hH]; exact va_S.rf
  have hAW : ∀ q, AW ad H.size q → A q := fun q h => h.elim (fun ⟨k, hk, e1⟩ => e1 ▸ hA33 k hk) (fun h => hA q (Nat.le_trans hS.1 h))
  rw [← hH]
  rw [← hH] at hP
  have hl := lv_entry ([.ref (ad 0), .int p1, .int p2, .ref o]) (n := 5) (Nat.le_of_ble_eq_true rfl)
  rw [lg_entry_eq]
  generalize (lg_sl ([.ref (ad 0), .int p1, .int p2, .ref o]) ++ List.replicate (5 - (lg_sl ([.ref (ad 0), .int p1, .int p2, .ref o])).length) Slot.unset).toArray = ls at hl ⊢
  have hl : lv_has ls 5 [(0, .ref (ad 0)), (1, .int p1), (2, .int p2), (3, .ref o)] := hl
  have hPh := va_Pt hP
  have hKh : va_K (dC, dI) vwCl (tysA cy) s := hK.sub [0, 1, 2, 3, 4, 5, 6, 7] rfl
  refine lv_aload_n hx hb dL_door_0 rfl (lv_at hl 3 rfl) ?_
  refine lv_iconst (v := 0) hx hb dL_door_1 (by decide) ?_
  refine lv_aload_n hx hb dL_door_2 rfl (lv_at hl 0 rfl) ?_
  refine lv_iload_n hx hb dL_door_3 rfl (lv_at hl 1 rfl) ?_
  refine lv_iload_n hx hb dL_door_4 rfl (lv_at hl 2 rfl) ?_
  rcases hf with ⟨h0, hf⟩ | ⟨n, e9, hn, h0, hf, e1, e2⟩
  · refine va_calld (va_runV (As := [.int p1, .int p2]) (rest := [.int 0, .ref o]) ⟨hx, hb, hml, hown, hts⟩ (mt_X4_door l dC dI ad cy hJ H.size I D p1 p2 w I9 D9 hf) (cwV 2 hts gL_door_X4_door rfl rfl rfl (by decide +kernel) ⟨Nat.le_of_ble_eq_true rfl, Nat.le_of_ble_eq_true rfl⟩) ⟨(hW.pre [.ref (ad 0), .int p1, .int p2] hPh hKh hN).1, hW.recv (C := RX4) (T := TX4) (N := 14) hPh hKh heH_0 rfl, (hW.pre [.ref (ad 0), .int p1, .int p2] hPh hKh hN).2⟩ rfl rfl hl.1 rfl (lv_room (Nat.le_of_ble_eq_true rfl)) dL_door_5 ⟨Nat.le_of_ble_eq_true rfl, Nat.le_of_ble_eq_true rfl⟩) hS (fun q _ h => hAW q h) hAW (fun r9 u t H1 locs ht hvm hw hB hz1 hk1 hS => ?_)
    subst hw
    have hP := va_Ocall hP ho hk1 (by rw [← ht]; exact hB.1)
    clear hB hz1 hk1 hvm ht
    generalize H1 = H at hP hS ⊢
    refine va_dast hx hb hK hP (hOD hJ hA33 hAo ho I9 D9) hS 0 6 rfl rfl vin0 dL_door_8 (fun H locs hP _ hS => ?_)
    have hP : va_P (dC, dI) vwCl ((o, .inl (cy 6, 1, .inr (.inr (.inr (.inl (vf_upd f (0 : Int32).toNatClampNeg w)))))) :: iwH ad cy I9 D9) H := hP
    refine lv_goto (tgt := 20) hx hb dL_door_9 (by decide) ?_
    refine lv_iconst (v := 0) hx hb dL_door_20 (by decide) ?_
    refine W.widen (k := 1) (n := 6) (by omega) (by omega) ?_
    exact vx_ret (W.iret (v := 0) hx hb hr (fun t ht hW => ⟨⟨0, (vf_upd f (0 : Int32).toNatClampNeg w), rfl, ⟨h0.symm, fun _ => rfl⟩, by show va_P (dC, dI) vwCl _ t.heap; rw [ht]; exact hP⟩, hS.F ht⟩) hS.2.2 dL_door_21)
  · have e1 := e1.symm
    have e2 := e2.symm
    subst e1
    subst e2
    refine vx_calld (vx_runV (As := [.int p1, .int p2]) (rest := [.int 0, .ref o]) ⟨hx, hb, hml, hown, hts⟩ (mx_X4_door l hl0 dC dI ad cy hJ sa H.size I D p1 p2 e9 hf) (cwV 2 hts gL_door_X4_door rfl rfl rfl (by decide +kernel) ⟨Nat.le_of_ble_eq_true rfl, Nat.le_of_ble_eq_true rfl⟩) ⟨(hW.preX [.ref (ad 0), .int p1, .int p2] hPh hKh hN (xS_kept (B := AW ad H.size) hZ hS hAW)).1, hW.recv (C := RX4) (T := TX4) (N := 14) hPh hKh heH_0 rfl, (hW.preX [.ref (ad 0), .int p1, .int p2] hPh hKh hN (xS_kept (B := AW ad H.size) hZ hS hAW)).2⟩ rfl rfl hl.1 rfl (lv_room (Nat.le_of_ble_eq_true rfl)) dL_door_5 ⟨Nat.le_of_ble_eq_true rfl, Nat.le_of_ble_eq_true rfl⟩) hS (fun q _ h => hAW q h) hAW (fun q _ h => hAW q h) (fun E9 ce q9 u t H1 locs1 ht9 hvm hpu hBX hz1 hk1 hS h1 h2 h3 => ?_) (fun r9 u t H1 locs ht9 hvm hw hB hz1 hk1 hS => hw.elim)
    obtain ⟨hE, hPx, -⟩ := hBX
    subst hE
    have hP := va_Ocall hP ho hk1 (by rw [← ht9]; exact hPx)
    clear hz1 hk1 hvm ht9 hPx hpu hf hPh
    generalize H1 = H at hP hS h1 ⊢
    match n, hn, h0 with
    | 0, hn, h0 =>
      have hn : (some IOB : Option String) = some e9 := hn
      obtain rfl := Option.some.inj hn
      refine vx_catch hown [] ⟨0, 9, 12, 21⟩ [⟨0, 9, 16, 13⟩] (htab.trans rfl) (fun z hz => absurd hz List.not_mem_nil) rfl (by decide) (hts (.classLink RL 21 "java/lang/IndexOutOfBoundsException") (List.mem_cons_of_mem _ (List.mem_append_left _ (List.mem_append_left _ (List.mem_append_left _ (List.mem_append_left _ (List.mem_of_getElem? (i := 0) rfl))))))) (va_Nw.use (w := .castable IOB IOB) rfl hT.1) h1 h2 h3 ?_
      refine W.eq (g2 := F0 m 12 ls [.ref q9]) rfl ?_
      refine lv_astore (lv' := [(4, .ref q9), (0, .ref (ad 0)), (1, .int p1), (2, .int p2), (3, .ref o)]) hx hb dL_door_12 hl (by decide) rfl (fun ls hl => ?_)
      refine lv_iconst (v := 1) hx hb dL_door_14 (by decide) ?_
      subst h0
      exact vx_ret (W.iret (v := 1) hx hb hr (fun t ht hW => ⟨⟨1, f, rfl, ⟨rfl, fun z => absurd z (by decide)⟩, by show va_P (dC, dI) vwCl _ t.heap; rw [ht]; exact hP⟩, hS.F ht⟩) hS.2.2 dL_door_15)
    | 1, hn, h0 =>
      have hn : (some IAE : Option String) = some e9 := hn
      obtain rfl := Option.some.inj hn
      refine vx_catch hown [⟨0, 9, 12, 21⟩] ⟨0, 9, 16, 13⟩ [] (htab.trans rfl) (fun z hz => by rw [List.mem_singleton.mp hz]; exact Or.inr ⟨by decide, IOB, hts (.classLink RL 21 "java/lang/IndexOutOfBoundsException") (List.mem_cons_of_mem _ (List.mem_append_left _ (List.mem_append_left _ (List.mem_append_left _ (List.mem_append_left _ (List.mem_of_getElem? (i := 0) rfl)))))), hT.2.2.2.1⟩) rfl (by decide) (hts (.classLink RL 13 "java/lang/IllegalArgumentException") (List.mem_cons_of_mem _ (List.mem_append_left _ (List.mem_append_left _ (List.mem_append_left _ (List.mem_append_left _ (List.mem_of_getElem? (i := 1) rfl))))))) (va_Nw.use (w := .castable IAE IAE) rfl hT.2.1) h1 h2 h3 ?_
      refine W.eq (g2 := F0 m 16 ls [.ref q9]) rfl ?_
      refine lv_astore (lv' := [(4, .ref q9), (0, .ref (ad 0)), (1, .int p1), (2, .int p2), (3, .ref o)]) hx hb dL_door_16 hl (by decide) rfl (fun ls hl => ?_)
      refine lv_iconst (v := 2) hx hb dL_door_18 (by decide) ?_
      subst h0
      exact vx_ret (W.iret (v := 2) hx hb hr (fun t ht hW => ⟨⟨2, f, rfl, ⟨rfl, fun z => absurd z (by decide)⟩, by show va_P (dC, dI) vwCl _ t.heap; rw [ht]; exact hP⟩, hS.F ht⟩) hS.2.2 dL_door_19)
    | k + 2, hn, h0 =>
      simp at hn

set_option maxHeartbeats 4000000 in
set_option maxRecDepth 100000 in
theorem wL_pass (l : Launch) (hl0 : l.stackTraces = false) (dC : Nat → ClassId) (dI : Nat → Nat → Nat) (ad : Nat → Nat) (cy : Nat → ClassId) (cL : ClassId) (hJ : J33 ad) (sa : Nat → Nat) (o : Nat) (ho : ∀ k, k < 33 → ad k ≠ o) (sz : Nat) (I : Nat → Nat → Int32) (D : Nat → Nat → UInt64) (f : Nat → Int64) (p1 : Int32) (r0 : Int32) (w : Int32) (I9 : Nat → Nat → Int32) (D9 : Nat → Nat → UInt64) (hf : (r0 = 0 ∧ f_X4_pass I D p1 = some (Except.ok (w, I9, D9))) ∨ ∃ (n : Nat) (e9 : String), ([IAE] : List String)[n]? = some e9 ∧ r0 = nI (n + 1) ∧ f_X4_pass I D p1 = some (.error e9) ∧ I9 = I ∧ D9 = D) : vx_Met l yL_pass wsL_pass ({ frames := 20, cells := 1, slots := 6, locals := 400 }) (va_Pc [.ref (ad 0), .int p1, .ref o] (fun U => U.heap.size = sz ∧ hO dC dI ad cy cL I D o (.inl (cL, 1, .inr (.inl f))) U ∧ xS sa (AO o ad sz) U ∧ xT U)) (va_Qi (fun r (g : Nat → Int64) => r = r0 ∧ (r0 = 0 → g 0 = w.toInt64)) (fun g t => va_P (dC, dI) vwCl ((o, .inl (cL, 1, .inr (.inl g))) :: iwH ad cy I9 D9) t.heap) (AO o ad sz)) (vx_X (fun _ : Unit => False) (fun _ _ _ => True) (AO o ad sz)) 1 6 (AO o ad sz) := by
  refine vx_ofWH (cc := cL_pass) (maxL := 4) (ret := (some .int)) (by decide) rfl ?_
  intro p e s m args below meth c s₁ B hml hv
  obtain ⟨rfl, hsz, ⟨hP, hK, hN⟩, hZ, hT⟩ := hv
  have hx := B.exec
  have hb := B.bytes
  have hr := B.returns
  have hts := atoms_spec (ws := wsL_pass) B.pre
  have hown : s.vm.findClass RL = some m.cls := findClass_of_methodNamed B.named
  have hlocks := B.notSynchronized
  have htab := vx_table (x := yL_pass) B (hts _ List.mem_cons_self)
  subst hsz
  generalize hAe : AO o ad s.heap.size = A at hZ ⊢
  have hA : ∀ q : Nat, s.heap.size ≤ q → A q := fun q h => by rw [← hAe]; exact Or.inr (Or.inr h)
  have hA33 : ∀ k, k < 33 → A (ad k) := fun k h => by rw [← hAe]; exact Or.inr (Or.inl ⟨k, h, rfl⟩)
  have hAo : A o := by rw [← hAe]; exact Or.inl rfl
  obtain ⟨H, hH⟩ : ∃ H : Heap, H = s.heap := ⟨_, rfl⟩
  have hS : va_S A s.heap H [] := by rw [hH]; exact va_S.rf
  have hAW : ∀ q, AW ad H.size q → A q := fun q h => h.elim (fun ⟨k, hk, e1⟩ => e1 ▸ hA33 k hk) (fun h => hA q (Nat.le_trans hS.1 h))
  rw [← hH]
  rw [← hH] at hP
  have hl := lv_entry ([.ref (ad 0), .int p1, .ref o]) (n := 4) (Nat.le_of_ble_eq_true rfl)
  rw [lg_entry_eq]
  generalize (lg_sl ([.ref (ad 0), .int p1, .ref o]) ++ List.replicate (4 - (lg_sl ([.ref (ad 0), .int p1, .ref o])).length) Slot.unset).toArray = ls at hl ⊢
  have hl : lv_has ls 4 [(0, .ref (ad 0)), (1, .int p1), (2, .ref o)] := hl
  have hPh := va_Pt hP
  have hKh : va_K (dC, dI) vwCl (tysA cy) s := hK.sub [0, 1, 2, 3, 4, 5, 6, 7] rfl
  refine lv_aload_n hx hb dL_pass_0 rfl (lv_at hl 2 rfl) ?_
  refine lv_iconst (v := 0) hx hb dL_pass_1 (by decide) ?_
  refine lv_aload_n hx hb dL_pass_2 rfl (lv_at hl 0 rfl) ?_
  refine lv_iload_n hx hb dL_pass_3 rfl (lv_at hl 1 rfl) ?_
  rcases hf with ⟨h0, hf⟩ | ⟨n, e9, hn, h0, hf, e1, e2⟩
  · refine va_calli (va_runV (As := [.int p1]) (rest := [.int 0, .ref o]) ⟨hx, hb, hml, hown, hts⟩ (mt_X4_pass l dC dI ad cy hJ H.size I D p1 w I9 D9 hf) (cwV 1 hts gL_pass_X4_pass rfl rfl rfl (by decide +kernel) ⟨Nat.le_of_ble_eq_true rfl, Nat.le_of_ble_eq_true rfl⟩) ⟨(hW.pre [.ref (ad 0), .int p1] hPh hKh hN).1, hW.recv (C := RX4) (T := TX4) (N := 14) hPh hKh heH_0 rfl, (hW.pre [.ref (ad 0), .int p1] hPh hKh hN).2⟩ rfl rfl hl.1 rfl (lv_room (Nat.le_of_ble_eq_true rfl)) dL_pass_4 ⟨Nat.le_of_ble_eq_true rfl, Nat.le_of_ble_eq_true rfl⟩) hS (fun q _ h => hAW q h) hAW (fun r9 u t H1 locs ht hvm hw hB hz1 hk1 hS => ?_)
    subst hw
    have hP := va_Ocall hP ho hk1 (by rw [← ht]; exact hB.1)
    clear hB hz1 hk1 hvm ht
    generalize H1 = H at hP hS ⊢
    refine lv_i2l hx hb dL_pass_7 rfl ?_
    refine va_last hx hb hK hP (hOD hJ hA33 hAo ho I9 D9) hS 0 8 rfl rfl vin0 dL_pass_8 (fun H locs hP _ hS => ?_)
    have hP : va_P (dC, dI) vwCl ((o, .inl (cL, 1, .inr (.inl (vp_updL f (0 : Int32).toNatClampNeg (w.toInt64))))) :: iwH ad cy I9 D9) H := hP
    refine lv_goto (tgt := 15) hx hb dL_pass_9 (by decide) ?_
    refine lv_iconst (v := 0) hx hb dL_pass_15 (by decide) ?_
    refine W.widen (k := 1) (n := 6) (by omega) (by omega) ?_
    exact vx_ret (W.iret (v := 0) hx hb hr (fun t ht hW => ⟨⟨0, (vp_updL f (0 : Int32).toNatClampNeg (w.toInt64)), rfl, ⟨h0.symm, fun _ => rfl⟩, by show va_P (dC, dI) vwCl _ t.heap; rw [ht]; exact hP⟩, hS.F ht⟩) hS.2.2 dL_pass_16)
  · have e1 := e1.symm
    have e2 := e2.symm
    subst e1
    subst e2
    refine vx_calli (vx_runV (As := [.int p1]) (rest := [.int 0, .ref o]) ⟨hx, hb, hml, hown, hts⟩ (mx_X4_pass l hl0 dC dI ad cy hJ sa H.size I D p1 e9 hf) (cwV 1 hts gL_pass_X4_pass rfl rfl rfl (by decide +kernel) ⟨Nat.le_of_ble_eq_true rfl, Nat.le_of_ble_eq_true rfl⟩) ⟨(hW.preX [.ref (ad 0), .int p1] hPh hKh hN (xS_kept (B := AW ad H.size) hZ hS hAW)).1, hW.recv (C := RX4) (T := TX4) (N := 14) hPh hKh heH_0 rfl, (hW.preX [.ref (ad 0), .int p1] hPh hKh hN (xS_kept (B := AW ad H.size) hZ hS hAW)).2⟩ rfl rfl hl.1 rfl (lv_room (Nat.le_of_ble_eq_true rfl)) dL_pass_4 ⟨Nat.le_of_ble_eq_true rfl, Nat.le_of_ble_eq_true rfl⟩) hS (fun q _ h => hAW q h) hAW (fun q _ h => hAW q h) (fun E9 ce q9 u t H1 locs1 ht9 hvm hpu hBX hz1 hk1 hS h1 h2 h3 => ?_) (fun r9 u t H1 locs ht9 hvm hw hB hz1 hk1 hS => hw.elim)
    obtain ⟨hE, hPx, -⟩ := hBX
    subst hE
    have hP := va_Ocall hP ho hk1 (by rw [← ht9]; exact hPx)
    clear hz1 hk1 hvm ht9 hPx hpu hf hPh
    generalize H1 = H at hP hS h1 ⊢
    match n, hn, h0 with
    | 0, hn, h0 =>
      have hn : (some IAE : Option String) = some e9 := hn
      obtain rfl := Option.some.inj hn
      refine vx_catch hown [] ⟨0, 9, 12, 13⟩ [] (htab.trans rfl) (fun z hz => absurd hz List.not_mem_nil) rfl (by decide) (hts (.classLink RL 13 "java/lang/IllegalArgumentException") (List.mem_cons_of_mem _ (List.mem_append_left _ (List.mem_append_left _ (List.mem_append_left _ (List.mem_append_left _ (List.mem_append_left _ (List.mem_append_left _ (List.mem_of_getElem? (i := 0) rfl))))))))) (va_Nw.use (w := .castable IAE IAE) rfl hT.2.1) h1 h2 h3 ?_
      refine W.eq (g2 := F0 m 12 ls [.ref q9]) rfl ?_
      refine lv_astore_n (lv' := [(3, .ref q9), (0, .ref (ad 0)), (1, .int p1), (2, .ref o)]) hx hb dL_pass_12 rfl hl (by decide) rfl (fun ls hl => ?_)
      refine lv_iconst (v := 1) hx hb dL_pass_13 (by decide) ?_
      subst h0
      exact vx_ret (W.iret (v := 1) hx hb hr (fun t ht hW => ⟨⟨1, f, rfl, ⟨rfl, fun z => absurd z (by decide)⟩, by show va_P (dC, dI) vwCl _ t.heap; rw [ht]; exact hP⟩, hS.F ht⟩) hS.2.2 dL_pass_14)
    | k + 1, hn, h0 =>
      simp at hn

set_option maxHeartbeats 4000000 in
set_option maxRecDepth 100000 in
theorem wL_sell (l : Launch) (hl0 : l.stackTraces = false) (dC : Nat → ClassId) (dI : Nat → Nat → Nat) (ad : Nat → Nat) (cy : Nat → ClassId) (cL : ClassId) (hJ : J33 ad) (sa : Nat → Nat) (o : Nat) (ho : ∀ k, k < 33 → ad k ≠ o) (sz : Nat) (I : Nat → Nat → Int32) (D : Nat → Nat → UInt64) (f : Nat → Int64) (p1 p2 : Int32) (r0 : Int32) (w : Int32) (I9 : Nat → Nat → Int32) (D9 : Nat → Nat → UInt64) (hf : (r0 = 0 ∧ f_X4_sell I D p1 p2 = some (Except.ok (w, I9, D9))) ∨ ∃ (n : Nat) (e9 : String), ([IOB, IAE, ISE] : List String)[n]? = some e9 ∧ r0 = nI (n + 1) ∧ f_X4_sell I D p1 p2 = some (.error e9) ∧ I9 = I ∧ D9 = D) : vx_Met l yL_sell wsL_sell ({ frames := 20, cells := 1, slots := 6, locals := 400 }) (va_Pc [.ref (ad 0), .int p1, .int p2, .ref o] (fun U => U.heap.size = sz ∧ hO dC dI ad cy cL I D o (.inl (cL, 1, .inr (.inl f))) U ∧ xS sa (AO o ad sz) U ∧ xT U)) (va_Qi (fun r (g : Nat → Int64) => r = r0 ∧ (r0 = 0 → g 0 = w.toInt64)) (fun g t => va_P (dC, dI) vwCl ((o, .inl (cL, 1, .inr (.inl g))) :: iwH ad cy I9 D9) t.heap) (AO o ad sz)) (vx_X (fun _ : Unit => False) (fun _ _ _ => True) (AO o ad sz)) 1 6 (AO o ad sz) := by
  refine vx_ofWH (cc := cL_sell) (maxL := 5) (ret := (some .int)) (by decide) rfl ?_
  intro p e s m args below meth c s₁ B hml hv
  obtain ⟨rfl, hsz, ⟨hP, hK, hN⟩, hZ, hT⟩ := hv
  have hx := B.exec
  have hb := B.bytes
  have hr := B.returns
  have hts := atoms_spec (ws := wsL_sell) B.pre
  have hown : s.vm.findClass RL = some m.cls := findClass_of_methodNamed B.named
  have hlocks := B.notSynchronized
  have htab := vx_table (x := yL_sell) B (hts _ List.mem_cons_self)
  subst hsz
  generalize hAe : AO o ad s.heap.size = A at hZ ⊢
  have hA : ∀ q : Nat, s.heap.size ≤ q → A q := fun q h => by rw [← hAe]; exact Or.inr (Or.inr h)
  have hA33 : ∀ k, k < 33 → A (ad k) := fun k h => by rw [← hAe]; exact Or.inr (Or.inl ⟨k, h, rfl⟩)
  have hAo : A o := by rw [← hAe]; exact Or.inl rfl
  obtain ⟨H, hH⟩ : ∃ H : Heap, H = s.heap := ⟨_, rfl⟩
  have hS : va_S A s.heap H [] := by rw [hH]; exact va_S.rf
  have hAW : ∀ q, AW ad H.size q → A q := fun q h => h.elim (fun ⟨k, hk, e1⟩ => e1 ▸ hA33 k hk) (fun h => hA q (Nat.le_trans hS.1 h))
  rw [← hH]
  rw [← hH] at hP
  have hl := lv_entry ([.ref (ad 0), .int p1, .int p2, .ref o]) (n := 5) (Nat.le_of_ble_eq_true rfl)
  rw [lg_entry_eq]
  generalize (lg_sl ([.ref (ad 0), .int p1, .int p2, .ref o]) ++ List.replicate (5 - (lg_sl ([.ref (ad 0), .int p1, .int p2, .ref o])).length) Slot.unset).toArray = ls at hl ⊢
  have hl : lv_has ls 5 [(0, .ref (ad 0)), (1, .int p1), (2, .int p2), (3, .ref o)] := hl
  have hPh := va_Pt hP
  have hKh : va_K (dC, dI) vwCl (tysA cy) s := hK.sub [0, 1, 2, 3, 4, 5, 6, 7] rfl
  refine lv_aload_n hx hb dL_sell_0 rfl (lv_at hl 3 rfl) ?_
  refine lv_iconst (v := 0) hx hb dL_sell_1 (by decide) ?_
  refine lv_aload_n hx hb dL_sell_2 rfl (lv_at hl 0 rfl) ?_
  refine lv_iload_n hx hb dL_sell_3 rfl (lv_at hl 1 rfl) ?_
  refine lv_iload_n hx hb dL_sell_4 rfl (lv_at hl 2 rfl) ?_
  rcases hf with ⟨h0, hf⟩ | ⟨n, e9, hn, h0, hf, e1, e2⟩
  · refine va_calli (va_runV (As := [.int p1, .int p2]) (rest := [.int 0, .ref o]) ⟨hx, hb, hml, hown, hts⟩ (mt_X4_sell l dC dI ad cy hJ H.size I D p1 p2 w I9 D9 hf) (cwV 2 hts gL_sell_X4_sell rfl rfl rfl (by decide +kernel) ⟨Nat.le_of_ble_eq_true rfl, Nat.le_of_ble_eq_true rfl⟩) ⟨(hW.pre [.ref (ad 0), .int p1, .int p2] hPh hKh hN).1, hW.recv (C := RX4) (T := TX4) (N := 14) hPh hKh heH_0 rfl, (hW.pre [.ref (ad 0), .int p1, .int p2] hPh hKh hN).2⟩ rfl rfl hl.1 rfl (lv_room (Nat.le_of_ble_eq_true rfl)) dL_sell_5 ⟨Nat.le_of_ble_eq_true rfl, Nat.le_of_ble_eq_true rfl⟩) hS (fun q _ h => hAW q h) hAW (fun r9 u t H1 locs ht hvm hw hB hz1 hk1 hS => ?_)
    subst hw
    have hP := va_Ocall hP ho hk1 (by rw [← ht]; exact hB.1)
    clear hB hz1 hk1 hvm ht
    generalize H1 = H at hP hS ⊢
    refine lv_i2l hx hb dL_sell_8 rfl ?_
    refine va_last hx hb hK hP (hOD hJ hA33 hAo ho I9 D9) hS 0 8 rfl rfl vin0 dL_sell_9 (fun H locs hP _ hS => ?_)
    have hP : va_P (dC, dI) vwCl ((o, .inl (cL, 1, .inr (.inl (vp_updL f (0 : Int32).toNatClampNeg (w.toInt64))))) :: iwH ad cy I9 D9) H := hP
    refine lv_goto (tgt := 25) hx hb dL_sell_10 (by decide) ?_
    refine lv_iconst (v := 0) hx hb dL_sell_25 (by decide) ?_
    refine W.widen (k := 1) (n := 6) (by omega) (by omega) ?_
    exact vx_ret (W.iret (v := 0) hx hb hr (fun t ht hW => ⟨⟨0, (vp_updL f (0 : Int32).toNatClampNeg (w.toInt64)), rfl, ⟨h0.symm, fun _ => rfl⟩, by show va_P (dC, dI) vwCl _ t.heap; rw [ht]; exact hP⟩, hS.F ht⟩) hS.2.2 dL_sell_26)
  · have e1 := e1.symm
    have e2 := e2.symm
    subst e1
    subst e2
    refine vx_calli (vx_runV (As := [.int p1, .int p2]) (rest := [.int 0, .ref o]) ⟨hx, hb, hml, hown, hts⟩ (mx_X4_sell l hl0 dC dI ad cy hJ sa H.size I D p1 p2 e9 hf) (cwV 2 hts gL_sell_X4_sell rfl rfl rfl (by decide +kernel) ⟨Nat.le_of_ble_eq_true rfl, Nat.le_of_ble_eq_true rfl⟩) ⟨(hW.preX [.ref (ad 0), .int p1, .int p2] hPh hKh hN (xS_kept (B := AW ad H.size) hZ hS hAW)).1, hW.recv (C := RX4) (T := TX4) (N := 14) hPh hKh heH_0 rfl, (hW.preX [.ref (ad 0), .int p1, .int p2] hPh hKh hN (xS_kept (B := AW ad H.size) hZ hS hAW)).2⟩ rfl rfl hl.1 rfl (lv_room (Nat.le_of_ble_eq_true rfl)) dL_sell_5 ⟨Nat.le_of_ble_eq_true rfl, Nat.le_of_ble_eq_true rfl⟩) hS (fun q _ h => hAW q h) hAW (fun q _ h => hAW q h) (fun E9 ce q9 u t H1 locs1 ht9 hvm hpu hBX hz1 hk1 hS h1 h2 h3 => ?_) (fun r9 u t H1 locs ht9 hvm hw hB hz1 hk1 hS => hw.elim)
    obtain ⟨hE, hPx, -⟩ := hBX
    subst hE
    have hP := va_Ocall hP ho hk1 (by rw [← ht9]; exact hPx)
    clear hz1 hk1 hvm ht9 hPx hpu hf hPh
    generalize H1 = H at hP hS h1 ⊢
    match n, hn, h0 with
    | 0, hn, h0 =>
      have hn : (some IOB : Option String) = some e9 := hn
      obtain rfl := Option.some.inj hn
      refine vx_catch hown [] ⟨0, 10, 13, 21⟩ [⟨0, 10, 17, 13⟩, ⟨0, 10, 21, 15⟩] (htab.trans rfl) (fun z hz => absurd hz List.not_mem_nil) rfl (by decide) (hts (.classLink RL 21 "java/lang/IndexOutOfBoundsException") (List.mem_cons_of_mem _ (List.mem_append_left _ (List.mem_append_left _ (List.mem_append_left _ (List.mem_append_left _ (List.mem_append_left _ (List.mem_append_left _ (List.mem_append_left _ (List.mem_of_getElem? (i := 0) rfl)))))))))) (va_Nw.use (w := .castable IOB IOB) rfl hT.1) h1 h2 h3 ?_
      refine W.eq (g2 := F0 m 13 ls [.ref q9]) rfl ?_
      refine lv_astore (lv' := [(4, .ref q9), (0, .ref (ad 0)), (1, .int p1), (2, .int p2), (3, .ref o)]) hx hb dL_sell_13 hl (by decide) rfl (fun ls hl => ?_)
      refine lv_iconst (v := 1) hx hb dL_sell_15 (by decide) ?_
      subst h0
      exact vx_ret (W.iret (v := 1) hx hb hr (fun t ht hW => ⟨⟨1, f, rfl, ⟨rfl, fun z => absurd z (by decide)⟩, by show va_P (dC, dI) vwCl _ t.heap; rw [ht]; exact hP⟩, hS.F ht⟩) hS.2.2 dL_sell_16)
    | 1, hn, h0 =>
      have hn : (some IAE : Option String) = some e9 := hn
      obtain rfl := Option.some.inj hn
      refine vx_catch hown [⟨0, 10, 13, 21⟩] ⟨0, 10, 17, 13⟩ [⟨0, 10, 21, 15⟩] (htab.trans rfl) (fun z hz => by rw [List.mem_singleton.mp hz]; exact Or.inr ⟨by decide, IOB, hts (.classLink RL 21 "java/lang/IndexOutOfBoundsException") (List.mem_cons_of_mem _ (List.mem_append_left _ (List.mem_append_left _ (List.mem_append_left _ (List.mem_append_left _ (List.mem_append_left _ (List.mem_append_left _ (List.mem_append_left _ (List.mem_of_getElem? (i := 0) rfl))))))))), hT.2.2.2.1⟩) rfl (by decide) (hts (.classLink RL 13 "java/lang/IllegalArgumentException") (List.mem_cons_of_mem _ (List.mem_append_left _ (List.mem_append_left _ (List.mem_append_left _ (List.mem_append_left _ (List.mem_append_left _ (List.mem_append_left _ (List.mem_append_left _ (List.mem_of_getElem? (i := 1) rfl)))))))))) (va_Nw.use (w := .castable IAE IAE) rfl hT.2.1) h1 h2 h3 ?_
      refine W.eq (g2 := F0 m 17 ls [.ref q9]) rfl ?_
      refine lv_astore (lv' := [(4, .ref q9), (0, .ref (ad 0)), (1, .int p1), (2, .int p2), (3, .ref o)]) hx hb dL_sell_17 hl (by decide) rfl (fun ls hl => ?_)
      refine lv_iconst (v := 2) hx hb dL_sell_19 (by decide) ?_
      subst h0
      exact vx_ret (W.iret (v := 2) hx hb hr (fun t ht hW => ⟨⟨2, f, rfl, ⟨rfl, fun z => absurd z (by decide)⟩, by show va_P (dC, dI) vwCl _ t.heap; rw [ht]; exact hP⟩, hS.F ht⟩) hS.2.2 dL_sell_20)
    | 2, hn, h0 =>
      have hn : (some ISE : Option String) = some e9 := hn
      obtain rfl := Option.some.inj hn
      refine vx_catch hown [⟨0, 10, 13, 21⟩, ⟨0, 10, 17, 13⟩] ⟨0, 10, 21, 15⟩ [] (htab.trans rfl) (fun z hz => (List.mem_cons.mp hz).elim (fun hz => by rw [hz]; exact Or.inr ⟨by decide, IOB, hts (.classLink RL 21 "java/lang/IndexOutOfBoundsException") (List.mem_cons_of_mem _ (List.mem_append_left _ (List.mem_append_left _ (List.mem_append_left _ (List.mem_append_left _ (List.mem_append_left _ (List.mem_append_left _ (List.mem_append_left _ (List.mem_of_getElem? (i := 0) rfl))))))))), hT.2.2.2.2.1⟩) (fun hz => by rw [List.mem_singleton.mp hz]; exact Or.inr ⟨by decide, IAE, hts (.classLink RL 13 "java/lang/IllegalArgumentException") (List.mem_cons_of_mem _ (List.mem_append_left _ (List.mem_append_left _ (List.mem_append_left _ (List.mem_append_left _ (List.mem_append_left _ (List.mem_append_left _ (List.mem_append_left _ (List.mem_of_getElem? (i := 1) rfl))))))))), hT.2.2.2.2.2⟩)) rfl (by decide) (hts (.classLink RL 15 "java/lang/IllegalStateException") (List.mem_cons_of_mem _ (List.mem_append_left _ (List.mem_append_left _ (List.mem_append_left _ (List.mem_append_left _ (List.mem_append_left _ (List.mem_append_left _ (List.mem_append_left _ (List.mem_of_getElem? (i := 2) rfl)))))))))) (va_Nw.use (w := .castable ISE ISE) rfl hT.2.2.1) h1 h2 h3 ?_
      refine W.eq (g2 := F0 m 21 ls [.ref q9]) rfl ?_
      refine lv_astore (lv' := [(4, .ref q9), (0, .ref (ad 0)), (1, .int p1), (2, .int p2), (3, .ref o)]) hx hb dL_sell_21 hl (by decide) rfl (fun ls hl => ?_)
      refine lv_iconst (v := 3) hx hb dL_sell_23 (by decide) ?_
      subst h0
      exact vx_ret (W.iret (v := 3) hx hb hr (fun t ht hW => ⟨⟨3, f, rfl, ⟨rfl, fun z => absurd z (by decide)⟩, by show va_P (dC, dI) vwCl _ t.heap; rw [ht]; exact hP⟩, hS.F ht⟩) hS.2.2 dL_sell_24)
    | k + 3, hn, h0 =>
      simp at hn

set_option maxHeartbeats 4000000 in
set_option maxRecDepth 100000 in
theorem wL_call (l : Launch) (hl0 : l.stackTraces = false) (dC : Nat → ClassId) (dI : Nat → Nat → Nat) (ad : Nat → Nat) (cy : Nat → ClassId) (cL : ClassId) (hJ : J33 ad) (sa : Nat → Nat) (o : Nat) (ho : ∀ k, k < 33 → ad k ≠ o) (sz : Nat) (I : Nat → Nat → Int32) (D : Nat → Nat → UInt64) (f : Nat → Int64) (p1 : Int32) (r0 : Int32) (w : Int32) (I9 : Nat → Nat → Int32) (D9 : Nat → Nat → UInt64) (hf : (r0 = 0 ∧ f_X4_call I D p1 = some (Except.ok (w, I9, D9))) ∨ ∃ (n : Nat) (e9 : String), ([IOB] : List String)[n]? = some e9 ∧ r0 = nI (n + 1) ∧ f_X4_call I D p1 = some (.error e9) ∧ I9 = I ∧ D9 = D) : vx_Met l yL_call wsL_call ({ frames := 20, cells := 1, slots := 6, locals := 400 }) (va_Pc [.ref (ad 0), .int p1, .ref o] (fun U => U.heap.size = sz ∧ hO dC dI ad cy cL I D o (.inl (cL, 1, .inr (.inl f))) U ∧ xS sa (AO o ad sz) U ∧ xT U)) (va_Qi (fun r (g : Nat → Int64) => r = r0 ∧ (r0 = 0 → g 0 = w.toInt64)) (fun g t => va_P (dC, dI) vwCl ((o, .inl (cL, 1, .inr (.inl g))) :: iwH ad cy I9 D9) t.heap) (AO o ad sz)) (vx_X (fun _ : Unit => False) (fun _ _ _ => True) (AO o ad sz)) 1 6 (AO o ad sz) := by
  refine vx_ofWH (cc := cL_call) (maxL := 4) (ret := (some .int)) (by decide) rfl ?_
  intro p e s m args below meth c s₁ B hml hv
  obtain ⟨rfl, hsz, ⟨hP, hK, hN⟩, hZ, hT⟩ := hv
  have hx := B.exec
  have hb := B.bytes
  have hr := B.returns
  have hts := atoms_spec (ws := wsL_call) B.pre
  have hown : s.vm.findClass RL = some m.cls := findClass_of_methodNamed B.named
  have hlocks := B.notSynchronized
  have htab := vx_table (x := yL_call) B (hts _ List.mem_cons_self)
  subst hsz
  generalize hAe : AO o ad s.heap.size = A at hZ ⊢
  have hA : ∀ q : Nat, s.heap.size ≤ q → A q := fun q h => by rw [← hAe]; exact Or.inr (Or.inr h)
  have hA33 : ∀ k, k < 33 → A (ad k) := fun k h => by rw [← hAe]; exact Or.inr (Or.inl ⟨k, h, rfl⟩)
  have hAo : A o := by rw [← hAe]; exact Or.inl rfl
  obtain ⟨H, hH⟩ : ∃ H : Heap, H = s.heap := ⟨_, rfl⟩
  have hS : va_S A s.heap H [] := by rw [hH]; exact va_S.rf
  have hAW : ∀ q, AW ad H.size q → A q := fun q h => h.elim (fun ⟨k, hk, e1⟩ => e1 ▸ hA33 k hk) (fun h => hA q (Nat.le_trans hS.1 h))
  rw [← hH]
  rw [← hH] at hP
  have hl := lv_entry ([.ref (ad 0), .int p1, .ref o]) (n := 4) (Nat.le_of_ble_eq_true rfl)
  rw [lg_entry_eq]
  generalize (lg_sl ([.ref (ad 0), .int p1, .ref o]) ++ List.replicate (4 - (lg_sl ([.ref (ad 0), .int p1, .ref o])).length) Slot.unset).toArray = ls at hl ⊢
  have hl : lv_has ls 4 [(0, .ref (ad 0)), (1, .int p1), (2, .ref o)] := hl
  have hPh := va_Pt hP
  have hKh : va_K (dC, dI) vwCl (tysA cy) s := hK.sub [0, 1, 2, 3, 4, 5, 6, 7] rfl
  refine lv_aload_n hx hb dL_call_0 rfl (lv_at hl 2 rfl) ?_
  refine lv_iconst (v := 0) hx hb dL_call_1 (by decide) ?_
  refine lv_aload_n hx hb dL_call_2 rfl (lv_at hl 0 rfl) ?_
  refine lv_iload_n hx hb dL_call_3 rfl (lv_at hl 1 rfl) ?_
  rcases hf with ⟨h0, hf⟩ | ⟨n, e9, hn, h0, hf, e1, e2⟩
  · refine va_calli (va_runV (As := [.int p1]) (rest := [.int 0, .ref o]) ⟨hx, hb, hml, hown, hts⟩ (mt_X4_call l dC dI ad cy hJ H.size I D p1 w I9 D9 hf) (cwV 1 hts gL_call_X4_call rfl rfl rfl (by decide +kernel) ⟨Nat.le_of_ble_eq_true rfl, Nat.le_of_ble_eq_true rfl⟩) ⟨(hW.pre [.ref (ad 0), .int p1] hPh hKh hN).1, hW.recv (C := RX4) (T := TX4) (N := 14) hPh hKh heH_0 rfl, (hW.pre [.ref (ad 0), .int p1] hPh hKh hN).2⟩ rfl rfl hl.1 rfl (lv_room (Nat.le_of_ble_eq_true rfl)) dL_call_4 ⟨Nat.le_of_ble_eq_true rfl, Nat.le_of_ble_eq_true rfl⟩) hS (fun q _ h => hAW q h) hAW (fun r9 u t H1 locs ht hvm hw hB hz1 hk1 hS => ?_)
    subst hw
    have hP := va_Ocall hP ho hk1 (by rw [← ht]; exact hB.1)
    clear hB hz1 hk1 hvm ht
    generalize H1 = H at hP hS ⊢
    refine lv_i2l hx hb dL_call_7 rfl ?_
    refine va_last hx hb hK hP (hOD hJ hA33 hAo ho I9 D9) hS 0 8 rfl rfl vin0 dL_call_8 (fun H locs hP _ hS => ?_)
    have hP : va_P (dC, dI) vwCl ((o, .inl (cL, 1, .inr (.inl (vp_updL f (0 : Int32).toNatClampNeg (w.toInt64))))) :: iwH ad cy I9 D9) H := hP
    refine lv_goto (tgt := 15) hx hb dL_call_9 (by decide) ?_
    refine lv_iconst (v := 0) hx hb dL_call_15 (by decide) ?_
    refine W.widen (k := 1) (n := 6) (by omega) (by omega) ?_
    exact vx_ret (W.iret (v := 0) hx hb hr (fun t ht hW => ⟨⟨0, (vp_updL f (0 : Int32).toNatClampNeg (w.toInt64)), rfl, ⟨h0.symm, fun _ => rfl⟩, by show va_P (dC, dI) vwCl _ t.heap; rw [ht]; exact hP⟩, hS.F ht⟩) hS.2.2 dL_call_16)
  · have e1 := e1.symm
    have e2 := e2.symm
    subst e1
    subst e2
    refine vx_calli (vx_runV (As := [.int p1]) (rest := [.int 0, .ref o]) ⟨hx, hb, hml, hown, hts⟩ (mx_X4_call l hl0 dC dI ad cy hJ sa H.size I D p1 e9 hf) (cwV 1 hts gL_call_X4_call rfl rfl rfl (by decide +kernel) ⟨Nat.le_of_ble_eq_true rfl, Nat.le_of_ble_eq_true rfl⟩) ⟨(hW.preX [.ref (ad 0), .int p1] hPh hKh hN (xS_kept (B := AW ad H.size) hZ hS hAW)).1, hW.recv (C := RX4) (T := TX4) (N := 14) hPh hKh heH_0 rfl, (hW.preX [.ref (ad 0), .int p1] hPh hKh hN (xS_kept (B := AW ad H.size) hZ hS hAW)).2⟩ rfl rfl hl.1 rfl (lv_room (Nat.le_of_ble_eq_true rfl)) dL_call_4 ⟨Nat.le_of_ble_eq_true rfl, Nat.le_of_ble_eq_true rfl⟩) hS (fun q _ h => hAW q h) hAW (fun q _ h => hAW q h) (fun E9 ce q9 u t H1 locs1 ht9 hvm hpu hBX hz1 hk1 hS h1 h2 h3 => ?_) (fun r9 u t H1 locs ht9 hvm hw hB hz1 hk1 hS => hw.elim)
    obtain ⟨hE, hPx, -⟩ := hBX
    subst hE
    have hP := va_Ocall hP ho hk1 (by rw [← ht9]; exact hPx)
    clear hz1 hk1 hvm ht9 hPx hpu hf hPh
    generalize H1 = H at hP hS h1 ⊢
    match n, hn, h0 with
    | 0, hn, h0 =>
      have hn : (some IOB : Option String) = some e9 := hn
      obtain rfl := Option.some.inj hn
      refine vx_catch hown [] ⟨0, 9, 12, 21⟩ [] (htab.trans rfl) (fun z hz => absurd hz List.not_mem_nil) rfl (by decide) (hts (.classLink RL 21 "java/lang/IndexOutOfBoundsException") (List.mem_cons_of_mem _ (List.mem_append_left _ (List.mem_append_left _ (List.mem_append_left _ (List.mem_append_left _ (List.mem_of_getElem? (i := 0) rfl))))))) (va_Nw.use (w := .castable IOB IOB) rfl hT.1) h1 h2 h3 ?_
      refine W.eq (g2 := F0 m 12 ls [.ref q9]) rfl ?_
      refine lv_astore_n (lv' := [(3, .ref q9), (0, .ref (ad 0)), (1, .int p1), (2, .ref o)]) hx hb dL_call_12 rfl hl (by decide) rfl (fun ls hl => ?_)
      refine lv_iconst (v := 1) hx hb dL_call_13 (by decide) ?_
      subst h0
      exact vx_ret (W.iret (v := 1) hx hb hr (fun t ht hW => ⟨⟨1, f, rfl, ⟨rfl, fun z => absurd z (by decide)⟩, by show va_P (dC, dI) vwCl _ t.heap; rw [ht]; exact hP⟩, hS.F ht⟩) hS.2.2 dL_call_14)
    | k + 1, hn, h0 =>
      simp at hn

set_option maxHeartbeats 4000000 in
set_option maxRecDepth 100000 in
theorem wL_ofMix (l : Launch) (hl0 : l.stackTraces = false) (dC : Nat → ClassId) (dI : Nat → Nat → Nat) (ad : Nat → Nat) (cy : Nat → ClassId) (cL : ClassId) (hJ : J33 ad) (sa : Nat → Nat) (o : Nat) (ho : ∀ k, k < 33 → ad k ≠ o) (sz : Nat) (I : Nat → Nat → Int32) (D : Nat → Nat → UInt64) (f : Nat → Int64) (p1 p2 : Int32) (r0 : Int32) (w : Int32) (hf : (r0 = 0 ∧ f_X4_ofMix I D p1 p2 = some (Except.ok w)) ∨ ∃ (n : Nat) (e9 : String), ([IOB, IAE] : List String)[n]? = some e9 ∧ r0 = nI (n + 1) ∧ f_X4_ofMix I D p1 p2 = some (.error e9)) : vx_Met l yL_ofMix wsL_ofMix ({ frames := 20, cells := 1, slots := 6, locals := 400 }) (va_Pc [.ref (ad 0), .int p1, .int p2, .ref o] (fun U => U.heap.size = sz ∧ hO dC dI ad cy cL I D o (.inl (cL, 1, .inr (.inl f))) U ∧ xS sa (AO o ad sz) U ∧ xT U)) (va_Qi (fun r (g : Nat → Int64) => r = r0 ∧ (r0 = 0 → g 0 = w.toInt64)) (fun g t => va_P (dC, dI) vwCl ((o, .inl (cL, 1, .inr (.inl g))) :: iwH ad cy I D) t.heap) (AO o ad sz)) (vx_X (fun _ : Unit => False) (fun _ _ _ => True) (AO o ad sz)) 1 6 (AO o ad sz) := by
  refine vx_ofWH (cc := cL_ofMix) (maxL := 5) (ret := (some .int)) (by decide) rfl ?_
  intro p e s m args below meth c s₁ B hml hv
  obtain ⟨rfl, hsz, ⟨hP, hK, hN⟩, hZ, hT⟩ := hv
  have hx := B.exec
  have hb := B.bytes
  have hr := B.returns
  have hts := atoms_spec (ws := wsL_ofMix) B.pre
  have hown : s.vm.findClass RL = some m.cls := findClass_of_methodNamed B.named
  have hlocks := B.notSynchronized
  have htab := vx_table (x := yL_ofMix) B (hts _ List.mem_cons_self)
  subst hsz
  generalize hAe : AO o ad s.heap.size = A at hZ ⊢
  have hA : ∀ q : Nat, s.heap.size ≤ q → A q := fun q h => by rw [← hAe]; exact Or.inr (Or.inr h)
  have hA33 : ∀ k, k < 33 → A (ad k) := fun k h => by rw [← hAe]; exact Or.inr (Or.inl ⟨k, h, rfl⟩)
  have hAo : A o := by rw [← hAe]; exact Or.inl rfl
  obtain ⟨H, hH⟩ : ∃ H : Heap, H = s.heap := ⟨_, rfl⟩
  have hS : va_S A s.heap H [] := by rw [hH]; exact va_S.rf
  have hAW : ∀ q, AW ad H.size q → A q := fun q h => h.elim (fun ⟨k, hk, e1⟩ => e1 ▸ hA33 k hk) (fun h => hA q (Nat.le_trans hS.1 h))
  rw [← hH]
  rw [← hH] at hP
  have hl := lv_entry ([.ref (ad 0), .int p1, .int p2, .ref o]) (n := 5) (Nat.le_of_ble_eq_true rfl)
  rw [lg_entry_eq]
  generalize (lg_sl ([.ref (ad 0), .int p1, .int p2, .ref o]) ++ List.replicate (5 - (lg_sl ([.ref (ad 0), .int p1, .int p2, .ref o])).length) Slot.unset).toArray = ls at hl ⊢
  have hl : lv_has ls 5 [(0, .ref (ad 0)), (1, .int p1), (2, .int p2), (3, .ref o)] := hl
  have hPh := va_Pt hP
  have hKh : va_K (dC, dI) vwCl (tysA cy) s := hK.sub [0, 1, 2, 3, 4, 5, 6, 7] rfl
  refine lv_aload_n hx hb dL_ofMix_0 rfl (lv_at hl 3 rfl) ?_
  refine lv_iconst (v := 0) hx hb dL_ofMix_1 (by decide) ?_
  refine lv_aload_n hx hb dL_ofMix_2 rfl (lv_at hl 0 rfl) ?_
  refine lv_iload_n hx hb dL_ofMix_3 rfl (lv_at hl 1 rfl) ?_
  refine lv_iload_n hx hb dL_ofMix_4 rfl (lv_at hl 2 rfl) ?_
  rcases hf with ⟨h0, hf⟩ | ⟨n, e9, hn, h0, hf⟩
  · refine va_calli (va_runV (As := [.int p1, .int p2]) (rest := [.int 0, .ref o]) ⟨hx, hb, hml, hown, hts⟩ (mt_X4_ofMix l dC dI ad cy hJ H.size I D p1 p2 w hf) (cwV 2 hts gL_ofMix_X4_ofMix rfl rfl rfl (by decide +kernel) ⟨Nat.le_of_ble_eq_true rfl, Nat.le_of_ble_eq_true rfl⟩) ⟨(hW.pre [.ref (ad 0), .int p1, .int p2] hPh hKh hN).1, hW.recv (C := RX4) (T := TX4) (N := 14) hPh hKh heH_0 rfl, (hW.pre [.ref (ad 0), .int p1, .int p2] hPh hKh hN).2⟩ rfl rfl hl.1 rfl (lv_room (Nat.le_of_ble_eq_true rfl)) dL_ofMix_5 ⟨Nat.le_of_ble_eq_true rfl, Nat.le_of_ble_eq_true rfl⟩) hS (fun q _ h => hA q (Nat.le_trans hS.1 h)) (fun q h => hA q (Nat.le_trans hS.1 h)) (fun r9 u t H1 locs ht hvm hw hB hz1 hk1 hS => ?_)
    subst hw
    have hP := va_Pnew hP hk1
    clear hB hz1 hk1 hvm ht
    generalize H1 = H at hP hS ⊢
    refine lv_i2l hx hb dL_ofMix_8 rfl ?_
    refine va_last hx hb hK hP (hOD hJ hA33 hAo ho I D) hS 0 8 rfl rfl vin0 dL_ofMix_9 (fun H locs hP _ hS => ?_)
    have hP : va_P (dC, dI) vwCl ((o, .inl (cL, 1, .inr (.inl (vp_updL f (0 : Int32).toNatClampNeg (w.toInt64))))) :: iwH ad cy I D) H := hP
    refine lv_goto (tgt := 21) hx hb dL_ofMix_10 (by decide) ?_
    refine lv_iconst (v := 0) hx hb dL_ofMix_21 (by decide) ?_
    refine W.widen (k := 1) (n := 6) (by omega) (by omega) ?_
    exact vx_ret (W.iret (v := 0) hx hb hr (fun t ht hW => ⟨⟨0, (vp_updL f (0 : Int32).toNatClampNeg (w.toInt64)), rfl, ⟨h0.symm, fun _ => rfl⟩, by show va_P (dC, dI) vwCl _ t.heap; rw [ht]; exact hP⟩, hS.F ht⟩) hS.2.2 dL_ofMix_22)
  · refine vx_calli (vx_runV (As := [.int p1, .int p2]) (rest := [.int 0, .ref o]) ⟨hx, hb, hml, hown, hts⟩ (mx_X4_ofMix l hl0 dC dI ad cy hJ sa H.size I D p1 p2 e9 hf) (cwV 2 hts gL_ofMix_X4_ofMix rfl rfl rfl (by decide +kernel) ⟨Nat.le_of_ble_eq_true rfl, Nat.le_of_ble_eq_true rfl⟩) ⟨(hW.preX [.ref (ad 0), .int p1, .int p2] hPh hKh hN (xS_kept (B := AW ad H.size) hZ hS hAW)).1, hW.recv (C := RX4) (T := TX4) (N := 14) hPh hKh heH_0 rfl, (hW.preX [.ref (ad 0), .int p1, .int p2] hPh hKh hN (xS_kept (B := AW ad H.size) hZ hS hAW)).2⟩ rfl rfl hl.1 rfl (lv_room (Nat.le_of_ble_eq_true rfl)) dL_ofMix_5 ⟨Nat.le_of_ble_eq_true rfl, Nat.le_of_ble_eq_true rfl⟩) hS (fun q _ h => hAW q h) hAW (fun q _ h => hAW q h) (fun E9 ce q9 u t H1 locs1 ht9 hvm hpu hBX hz1 hk1 hS h1 h2 h3 => ?_) (fun r9 u t H1 locs ht9 hvm hw hB hz1 hk1 hS => hw.elim)
    obtain ⟨hE, hPx, -⟩ := hBX
    subst hE
    have hP := va_Ocall hP ho hk1 (by rw [← ht9]; exact hPx)
    clear hz1 hk1 hvm ht9 hPx hpu hf hPh
    generalize H1 = H at hP hS h1 ⊢
    match n, hn, h0 with
    | 0, hn, h0 =>
      have hn : (some IOB : Option String) = some e9 := hn
      obtain rfl := Option.some.inj hn
      refine vx_catch hown [] ⟨0, 10, 13, 21⟩ [⟨0, 10, 17, 13⟩] (htab.trans rfl) (fun z hz => absurd hz List.not_mem_nil) rfl (by decide) (hts (.classLink RL 21 "java/lang/IndexOutOfBoundsException") (List.mem_cons_of_mem _ (List.mem_append_left _ (List.mem_append_left _ (List.mem_append_left _ (List.mem_append_left _ (List.mem_append_left _ (List.mem_of_getElem? (i := 0) rfl)))))))) (va_Nw.use (w := .castable IOB IOB) rfl hT.1) h1 h2 h3 ?_
      refine W.eq (g2 := F0 m 13 ls [.ref q9]) rfl ?_
      refine lv_astore (lv' := [(4, .ref q9), (0, .ref (ad 0)), (1, .int p1), (2, .int p2), (3, .ref o)]) hx hb dL_ofMix_13 hl (by decide) rfl (fun ls hl => ?_)
      refine lv_iconst (v := 1) hx hb dL_ofMix_15 (by decide) ?_
      subst h0
      exact vx_ret (W.iret (v := 1) hx hb hr (fun t ht hW => ⟨⟨1, f, rfl, ⟨rfl, fun z => absurd z (by decide)⟩, by show va_P (dC, dI) vwCl _ t.heap; rw [ht]; exact hP⟩, hS.F ht⟩) hS.2.2 dL_ofMix_16)
    | 1, hn, h0 =>
      have hn : (some IAE : Option String) = some e9 := hn
      obtain rfl := Option.some.inj hn
      refine vx_catch hown [⟨0, 10, 13, 21⟩] ⟨0, 10, 17, 13⟩ [] (htab.trans rfl) (fun z hz => by rw [List.mem_singleton.mp hz]; exact Or.inr ⟨by decide, IOB, hts (.classLink RL 21 "java/lang/IndexOutOfBoundsException") (List.mem_cons_of_mem _ (List.mem_append_left _ (List.mem_append_left _ (List.mem_append_left _ (List.mem_append_left _ (List.mem_append_left _ (List.mem_of_getElem? (i := 0) rfl))))))), hT.2.2.2.1⟩) rfl (by decide) (hts (.classLink RL 13 "java/lang/IllegalArgumentException") (List.mem_cons_of_mem _ (List.mem_append_left _ (List.mem_append_left _ (List.mem_append_left _ (List.mem_append_left _ (List.mem_append_left _ (List.mem_of_getElem? (i := 1) rfl)))))))) (va_Nw.use (w := .castable IAE IAE) rfl hT.2.1) h1 h2 h3 ?_
      refine W.eq (g2 := F0 m 17 ls [.ref q9]) rfl ?_
      refine lv_astore (lv' := [(4, .ref q9), (0, .ref (ad 0)), (1, .int p1), (2, .int p2), (3, .ref o)]) hx hb dL_ofMix_17 hl (by decide) rfl (fun ls hl => ?_)
      refine lv_iconst (v := 2) hx hb dL_ofMix_19 (by decide) ?_
      subst h0
      exact vx_ret (W.iret (v := 2) hx hb hr (fun t ht hW => ⟨⟨2, f, rfl, ⟨rfl, fun z => absurd z (by decide)⟩, by show va_P (dC, dI) vwCl _ t.heap; rw [ht]; exact hP⟩, hS.F ht⟩) hS.2.2 dL_ofMix_20)
    | k + 2, hn, h0 =>
      simp at hn
