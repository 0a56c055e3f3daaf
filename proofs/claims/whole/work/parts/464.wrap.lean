set_option maxHeartbeats 4000000 in
set_option maxRecDepth 100000 in
theorem wL_part (l : Launch) (hl0 : l.stackTraces = false) (dC : Nat → ClassId) (dI : Nat → Nat → Nat) (ad : Nat → Nat) (cy : Nat → ClassId) (cL : ClassId) (hJ : J33 ad) (sa : Nat → Nat) (o : Nat) (ho : ∀ k, k < 33 → ad k ≠ o) (sz : Nat) (I : Nat → Nat → Int32) (D : Nat → Nat → UInt64) (f : Nat → UInt64) (p1 p2 : Int32) (r0 : Int32) (w : UInt64) (hf : (r0 = 0 ∧ f_X4_part I D p1 p2 = some (Except.ok w)) ∨ ∃ (n : Nat) (e9 : String), ([IOB, IAE] : List String)[n]? = some e9 ∧ r0 = nI (n + 1) ∧ f_X4_part I D p1 p2 = some (.error e9)) : vx_Met l yL_part wsL_part ({ frames := 20, cells := 1, slots := 6, locals := 400 }) (va_Pc [.ref (ad 0), .int p1, .int p2, .ref o] (fun U => U.heap.size = sz ∧ hO dC dI ad cy cL I D o (.inl (cy 6, 1, .inr (.inr (.inr (.inl f))))) U ∧ xS sa (AO o ad sz) U ∧ xT U)) (va_Qi (fun r (g : Nat → UInt64) => r = r0 ∧ (r0 = 0 → g 0 = w)) (fun g t => va_P (dC, dI) vwCl ((o, .inl (cy 6, 1, .inr (.inr (.inr (.inl g))))) :: iwH ad cy I D) t.heap) (AO o ad sz)) (vx_X (fun _ : Unit => False) (fun _ _ _ => True) (AO o ad sz)) 1 6 (AO o ad sz) := by
  refine vx_ofWH (cc := cL_part) (maxL := 5) (ret := (some .int)) (by decide) rfl ?_
  intro p e s m args below meth c s₁ B hml hv
  obtain ⟨rfl, hsz, ⟨hP, hK, hN⟩, hZ, hT⟩ := hv
  have hx := B.exec
  have hb := B.bytes
  have hr := B.returns
  have hts := atoms_spec (ws := wsL_part) B.pre
  have hown : s.vm.findClass RL = some m.cls := findClass_of_methodNamed B.named
  have hlocks := B.notSynchronized
  have htab := vx_table (x := yL_part) B (hts _ List.mem_cons_self)
  subst hsz
  generalize hAe : AO o ad s.heap.size = A at hZ ⊢
  have hA : ∀ q : Nat, s.heap.size ≤ q → A q := fun q h => by rw [← hAe]; exact Or.inr (Or.inr h)
  have hA33 : ∀ k, k < 33 → A (ad k) := fun k h => by rw [← hAe]; exact Or.inr (Or.inl ⟨k, h, rfl⟩)
  have hAo : A o := by rw [← hAe]; exact Or.inl rfl
  obtain ⟨H, hH⟩ : ∃ H : Heap, H = s.heap := ⟨_, rfl⟩
  have hS : va_S A s.heap H [] := by rw [hH]; exact va_S.rf
  have hAW : ∀ q, AW ad H.size q → A q := fun q h => h.elim (fun ⟨k, hk, e1⟩ => e1 ▸ hA33 k hk) (fun h => hA q (Nat.le_trans hS.1 h))
  rw [← hH]
  rw [← hH] at hP
  have hl := lv_entry ([.ref (ad 0), .int p1, .int p2, .ref o]) (n := 5) (Nat.le_of_ble_eq_true rfl)
  rw [lg_entry_eq]
  generalize (lg_sl ([.ref (ad 0), .int p1, .int p2, .ref o]) ++ List.replicate (5 - (lg_sl ([.ref (ad 0), .int p1, .int p2, .ref o])).length) Slot.unset).toArray = ls at hl ⊢
  have hl : lv_has ls 5 [(0, .ref (ad 0)), (1, .int p1), (2, .int p2), (3, .ref o)] := hl
  have hPh := va_Pt hP
  have hKh : va_K (dC, dI) vwCl (tysA cy) s := hK.sub [0, 1, 2, 3, 4, 5, 6, 7] rfl
  refine lv_aload_n hx hb dL_part_0 rfl (lv_at hl 3 rfl) ?_
  refine lv_iconst (v := 0) hx hb dL_part_1 (by decide) ?_
  refine lv_aload_n hx hb dL_part_2 rfl (lv_at hl 0 rfl) ?_
  refine lv_iload_n hx hb dL_part_3 rfl (lv_at hl 1 rfl) ?_
  refine lv_iload_n hx hb dL_part_4 rfl (lv_at hl 2 rfl) ?_
  rcases hf with ⟨h0, hf⟩ | ⟨n, e9, hn, h0, hf⟩
  · refine va_calld (va_runV (As := [.int p1, .int p2]) (rest := [.int 0, .ref o]) ⟨hx, hb, hml, hown, hts⟩ (mt_X4_part l dC dI ad cy hJ H.size I D p1 p2 w hf) (cwV 2 hts gL_part_X4_part rfl rfl rfl (by decide +kernel) ⟨Nat.le_of_ble_eq_true rfl, Nat.le_of_ble_eq_true rfl⟩) ⟨(hW.pre [.ref (ad 0), .int p1, .int p2] hPh hKh hN).1, hW.recv (C := RX4) (T := TX4) (N := 14) hPh hKh heH_0 rfl, (hW.pre [.ref (ad 0), .int p1, .int p2] hPh hKh hN).2⟩ rfl rfl hl.1 rfl (lv_room (Nat.le_of_ble_eq_true rfl)) dL_part_5 ⟨Nat.le_of_ble_eq_true rfl, Nat.le_of_ble_eq_true rfl⟩) hS (fun q _ h => hA q (Nat.le_trans hS.1 h)) (fun q h => hA q (Nat.le_trans hS.1 h)) (fun r9 u t H1 locs ht hvm hw hB hz1 hk1 hS => ?_)
    subst hw
    have hP := va_Pnew hP hk1
    clear hB hz1 hk1 hvm ht
    generalize H1 = H at hP hS ⊢
    refine va_dast hx hb hK hP (hOD hJ hA33 hAo ho I D) hS 0 6 rfl rfl vin0 dL_part_8 (fun H locs hP _ hS => ?_)
    have hP : va_P (dC, dI) vwCl ((o, .inl (cy 6, 1, .inr (.inr (.inr (.inl (vf_upd f (0 : Int32).toNatClampNeg w)))))) :: iwH ad cy I D) H := hP
    refine lv_goto (tgt := 20) hx hb dL_part_9 (by decide) ?_
    refine lv_iconst (v := 0) hx hb dL_part_20 (by decide) ?_
    refine W.widen (k := 1) (n := 6) (by omega) (by omega) ?_
    exact vx_ret (W.iret (v := 0) hx hb hr (fun t ht hW => ⟨⟨0, (vf_upd f (0 : Int32).toNatClampNeg w), rfl, ⟨h0.symm, fun _ => rfl⟩, by show va_P (dC, dI) vwCl _ t.heap; rw [ht]; exact hP⟩, hS.F ht⟩) hS.2.2 dL_part_21)
  · refine vx_calld (vx_runV (As := [.int p1, .int p2]) (rest := [.int 0, .ref o]) ⟨hx, hb, hml, hown, hts⟩ (mx_X4_part l hl0 dC dI ad cy hJ sa H.size I D p1 p2 e9 hf) (cwV 2 hts gL_part_X4_part rfl rfl rfl (by decide +kernel) ⟨Nat.le_of_ble_eq_true rfl, Nat.le_of_ble_eq_true rfl⟩) ⟨(hW.preX [.ref (ad 0), .int p1, .int p2] hPh hKh hN (xS_kept (B := AW ad H.size) hZ hS hAW)).1, hW.recv (C := RX4) (T := TX4) (N := 14) hPh hKh heH_0 rfl, (hW.preX [.ref (ad 0), .int p1, .int p2] hPh hKh hN (xS_kept (B := AW ad H.size) hZ hS hAW)).2⟩ rfl rfl hl.1 rfl (lv_room (Nat.le_of_ble_eq_true rfl)) dL_part_5 ⟨Nat.le_of_ble_eq_true rfl, Nat.le_of_ble_eq_true rfl⟩) hS (fun q _ h => hAW q h) hAW (fun q _ h => hAW q h) (fun E9 ce q9 u t H1 locs1 ht9 hvm hpu hBX hz1 hk1 hS h1 h2 h3 => ?_) (fun r9 u t H1 locs ht9 hvm hw hB hz1 hk1 hS => hw.elim)
    obtain ⟨hE, hPx, -⟩ := hBX
    subst hE
    have hP := va_Ocall hP ho hk1 (by rw [← ht9]; exact hPx)
    clear hz1 hk1 hvm ht9 hPx hpu hf hPh
    generalize H1 = H at hP hS h1 ⊢
    match n, hn, h0 with
    | 0, hn, h0 =>
      have hn : (some IOB : Option String) = some e9 := hn
      obtain rfl := Option.some.inj hn
      refine vx_catch hown [] ⟨0, 9, 12, 21⟩ [⟨0, 9, 16, 13⟩] (htab.trans rfl) (fun z hz => absurd hz List.not_mem_nil) rfl (by decide) (hts (.classLink RL 21 "java/lang/IndexOutOfBoundsException") (List.mem_cons_of_mem _ (List.mem_append_left _ (List.mem_append_left _ (List.mem_append_left _ (List.mem_append_left _ (List.mem_append_left _ (List.mem_of_getElem? (i := 0) rfl)))))))) (va_Nw.use (w := .castable IOB IOB) rfl hT.1) h1 h2 h3 ?_
      refine W.eq (g2 := F0 m 12 ls [.ref q9]) rfl ?_
      refine lv_astore (lv' := [(4, .ref q9), (0, .ref (ad 0)), (1, .int p1), (2, .int p2), (3, .ref o)]) hx hb dL_part_12 hl (by decide) rfl (fun ls hl => ?_)
      refine lv_iconst (v := 1) hx hb dL_part_14 (by decide) ?_
      subst h0
      exact vx_ret (W.iret (v := 1) hx hb hr (fun t ht hW => ⟨⟨1, f, rfl, ⟨rfl, fun z => absurd z (by decide)⟩, by show va_P (dC, dI) vwCl _ t.heap; rw [ht]; exact hP⟩, hS.F ht⟩) hS.2.2 dL_part_15)
    | 1, hn, h0 =>
      have hn : (some IAE : Option String) = some e9 := hn
      obtain rfl := Option.some.inj hn
      refine vx_catch hown [⟨0, 9, 12, 21⟩] ⟨0, 9, 16, 13⟩ [] (htab.trans rfl) (fun z hz => by rw [List.mem_singleton.mp hz]; exact Or.inr ⟨by decide, IOB, hts (.classLink RL 21 "java/lang/IndexOutOfBoundsException") (List.mem_cons_of_mem _ (List.mem_append_left _ (List.mem_append_left _ (List.mem_append_left _ (List.mem_append_left _ (List.mem_append_left _ (List.mem_of_getElem? (i := 0) rfl))))))), hT.2.2.2.1⟩) rfl (by decide) (hts (.classLink RL 13 "java/lang/IllegalArgumentException") (List.mem_cons_of_mem _ (List.mem_append_left _ (List.mem_append_left _ (List.mem_append_left _ (List.mem_append_left _ (List.mem_append_left _ (List.mem_of_getElem? (i := 1) rfl)))))))) (va_Nw.use (w := .castable IAE IAE) rfl hT.2.1) h1 h2 h3 ?_
      refine W.eq (g2 := F0 m 16 ls [.ref q9]) rfl ?_
      refine lv_astore (lv' := [(4, .ref q9), (0, .ref (ad 0)), (1, .int p1), (2, .int p2), (3, .ref o)]) hx hb dL_part_16 hl (by decide) rfl (fun ls hl => ?_)
      refine lv_iconst (v := 2) hx hb dL_part_18 (by decide) ?_
      subst h0
      exact vx_ret (W.iret (v := 2) hx hb hr (fun t ht hW => ⟨⟨2, f, rfl, ⟨rfl, fun z => absurd z (by decide)⟩, by show va_P (dC, dI) vwCl _ t.heap; rw [ht]; exact hP⟩, hS.F ht⟩) hS.2.2 dL_part_19)
    | k + 2, hn, h0 =>
      simp at hn

set_option maxHeartbeats 4000000 in
set_option maxRecDepth 100000 in
theorem wL_ice (l : Launch) (hl0 : l.stackTraces = false) (dC : Nat → ClassId) (dI : Nat → Nat → Nat) (ad : Nat → Nat) (cy : Nat → ClassId) (cL : ClassId) (hJ : J33 ad) (sa : Nat → Nat) (o : Nat) (ho : ∀ k, k < 33 → ad k ≠ o) (sz : Nat) (I : Nat → Nat → Int32) (D : Nat → Nat → UInt64) (f : Nat → UInt64) (p1 p2 : Int32) (r0 : Int32) (w : UInt64) (hf : (r0 = 0 ∧ f_X4_ice I D p1 p2 = some (Except.ok w)) ∨ ∃ (n : Nat) (e9 : String), ([IOB, IAE] : List String)[n]? = some e9 ∧ r0 = nI (n + 1) ∧ f_X4_ice I D p1 p2 = some (.error e9)) : vx_Met l yL_ice wsL_ice ({ frames := 20, cells := 1, slots := 6, locals := 400 }) (va_Pc [.ref (ad 0), .int p1, .int p2, .ref o] (fun U => U.heap.size = sz ∧ hO dC dI ad cy cL I D o (.inl (cy 6, 1, .inr (.inr (.inr (.inl f))))) U ∧ xS sa (AO o ad sz) U ∧ xT U)) (va_Qi (fun r (g : Nat → UInt64) => r = r0 ∧ (r0 = 0 → g 0 = w)) (fun g t => va_P (dC, dI) vwCl ((o, .inl (cy 6, 1, .inr (.inr (.inr (.inl g))))) :: iwH ad cy I D) t.heap) (AO o ad sz)) (vx_X (fun _ : Unit => False) (fun _ _ _ => True) (AO o ad sz)) 1 6 (AO o ad sz) := by
  refine vx_ofWH (cc := cL_ice) (maxL := 5) (ret := (some .int)) (by decide) rfl ?_
  intro p e s m args below meth c s₁ B hml hv
  obtain ⟨rfl, hsz, ⟨hP, hK, hN⟩, hZ, hT⟩ := hv
  have hx := B.exec
  have hb := B.bytes
  have hr := B.returns
  have hts := atoms_spec (ws := wsL_ice) B.pre
  have hown : s.vm.findClass RL = some m.cls := findClass_of_methodNamed B.named
  have hlocks := B.notSynchronized
  have htab := vx_table (x := yL_ice) B (hts _ List.mem_cons_self)
  subst hsz
  generalize hAe : AO o ad s.heap.size = A at hZ ⊢
  have hA : ∀ q : Nat, s.heap.size ≤ q → A q := fun q h => by rw [← hAe]; exact Or.inr (Or.inr h)
  have hA33 : ∀ k, k < 33 → A (ad k) := fun k h => by rw [← hAe]; exact Or.inr (Or.inl ⟨k, h, rfl⟩)
  have hAo : A o := by rw [← hAe]; exact Or.inl rfl
  obtain ⟨H, hH⟩ : ∃ H : Heap, H = s.heap := ⟨_, rfl⟩
  have hS : va_S A s.heap H [] := by rw [hH]; exact va_S.rf
  have hAW : ∀ q, AW ad H.size q → A q := fun q h => h.elim (fun ⟨k, hk, e1⟩ => e1 ▸ hA33 k hk) (fun h => hA q (Nat.le_trans hS.1 h))
  rw [← hH]
  rw [← hH] at hP
  have hl := lv_entry ([.ref (ad 0), .int p1, .int p2, .ref o]) (n := 5) (Nat.le_of_ble_eq_true rfl)
  rw [lg_entry_eq]
  generalize (lg_sl ([.ref (ad 0), .int p1, .int p2, .ref o]) ++ List.replicate (5 - (lg_sl ([.ref (ad 0), .int p1, .int p2, .ref o])).length) Slot.unset).toArray = ls at hl ⊢
  have hl : lv_has ls 5 [(0, .ref (ad 0)), (1, .int p1), (2, .int p2), (3, .ref o)] := hl
  have hPh := va_Pt hP
  have hKh : va_K (dC, dI) vwCl (tysA cy) s := hK.sub [0, 1, 2, 3, 4, 5, 6, 7] rfl
  refine lv_aload_n hx hb dL_ice_0 rfl (lv_at hl 3 rfl) ?_
  refine lv_iconst (v := 0) hx hb dL_ice_1 (by decide) ?_
  refine lv_aload_n hx hb dL_ice_2 rfl (lv_at hl 0 rfl) ?_
  refine lv_iload_n hx hb dL_ice_3 rfl (lv_at hl 1 rfl) ?_
  refine lv_iload_n hx hb dL_ice_4 rfl (lv_at hl 2 rfl) ?_
  rcases hf with ⟨h0, hf⟩ | ⟨n, e9, hn, h0, hf⟩
  · refine va_calld (va_runV (As := [.int p1, .int p2]) (rest := [.int 0, .ref o]) ⟨hx, hb, hml, hown, hts⟩ (mt_X4_ice l dC dI ad cy hJ H.size I D p1 p2 w hf) (cwV 2 hts gL_ice_X4_ice rfl rfl rfl (by decide +kernel) ⟨Nat.le_of_ble_eq_true rfl, Nat.le_of_ble_eq_true rfl⟩) ⟨(hW.pre [.ref (ad 0), .int p1, .int p2] hPh hKh hN).1, hW.recv (C := RX4) (T := TX4) (N := 14) hPh hKh heH_0 rfl, (hW.pre [.ref (ad 0), .int p1, .int p2] hPh hKh hN).2⟩ rfl rfl hl.1 rfl (lv_room (Nat.le_of_ble_eq_true rfl)) dL_ice_5 ⟨Nat.le_of_ble_eq_true rfl, Nat.le_of_ble_eq_true rfl⟩) hS (fun q _ h => hA q (Nat.le_trans hS.1 h)) (fun q h => hA q (Nat.le_trans hS.1 h)) (fun r9 u t H1 locs ht hvm hw hB hz1 hk1 hS => ?_)
    subst hw
    have hP := va_Pnew hP hk1
    clear hB hz1 hk1 hvm ht
    generalize H1 = H at hP hS ⊢
    refine va_dast hx hb hK hP (hOD hJ hA33 hAo ho I D) hS 0 6 rfl rfl vin0 dL_ice_8 (fun H locs hP _ hS => ?_)
    have hP : va_P (dC, dI) vwCl ((o, .inl (cy 6, 1, .inr (.inr (.inr (.inl (vf_upd f (0 : Int32).toNatClampNeg w)))))) :: iwH ad cy I D) H := hP
    refine lv_goto (tgt := 20) hx hb dL_ice_9 (by decide) ?_
    refine lv_iconst (v := 0) hx hb dL_ice_20 (by decide) ?_
    refine W.widen (k := 1) (n := 6) (by omega) (by omega) ?_
    exact vx_ret (W.iret (v := 0) hx hb hr (fun t ht hW => ⟨⟨0, (vf_upd f (0 : Int32).toNatClampNeg w), rfl, ⟨h0.symm, fun _ => rfl⟩, by show va_P (dC, dI) vwCl _ t.heap; rw [ht]; exact hP⟩, hS.F ht⟩) hS.2.2 dL_ice_21)
  · refine vx_calld (vx_runV (As := [.int p1, .int p2]) (rest := [.int 0, .ref o]) ⟨hx, hb, hml, hown, hts⟩ (mx_X4_ice l hl0 dC dI ad cy hJ sa H.size I D p1 p2 e9 hf) (cwV 2 hts gL_ice_X4_ice rfl rfl rfl (by decide +kernel) ⟨Nat.le_of_ble_eq_true rfl, Nat.le_of_ble_eq_true rfl⟩) ⟨(hW.preX [.ref (ad 0), .int p1, .int p2] hPh hKh hN (xS_kept (B := AW ad H.size) hZ hS hAW)).1, hW.recv (C := RX4) (T := TX4) (N := 14) hPh hKh heH_0 rfl, (hW.preX [.ref (ad 0), .int p1, .int p2] hPh hKh hN (xS_kept (B := AW ad H.size) hZ hS hAW)).2⟩ rfl rfl hl.1 rfl (lv_room (Nat.le_of_ble_eq_true rfl)) dL_ice_5 ⟨Nat.le_of_ble_eq_true rfl, Nat.le_of_ble_eq_true rfl⟩) hS (fun q _ h => hAW q h) hAW (fun q _ h => hAW q h) (fun E9 ce q9 u t H1 locs1 ht9 hvm hpu hBX hz1 hk1 hS h1 h2 h3 => ?_) (fun r9 u t H1 locs ht9 hvm hw hB hz1 hk1 hS => hw.elim)
    obtain ⟨hE, hPx, -⟩ := hBX
    subst hE
    have hP := va_Ocall hP ho hk1 (by rw [← ht9]; exact hPx)
    clear hz1 hk1 hvm ht9 hPx hpu hf hPh
    generalize H1 = H at hP hS h1 ⊢
    match n, hn, h0 with
    | 0, hn, h0 =>
      have hn : (some IOB : Option String) = some e9 := hn
      obtain rfl := Option.some.inj hn
      refine vx_catch hown [] ⟨0, 9, 12, 21⟩ [⟨0, 9, 16, 13⟩] (htab.trans rfl) (fun z hz => absurd hz List.not_mem_nil) rfl (by decide) (hts (.classLink RL 21 "java/lang/IndexOutOfBoundsException") (List.mem_cons_of_mem _ (List.mem_append_left _ (List.mem_append_left _ (List.mem_append_left _ (List.mem_append_left _ (List.mem_of_getElem? (i := 0) rfl))))))) (va_Nw.use (w := .castable IOB IOB) rfl hT.1) h1 h2 h3 ?_
      refine W.eq (g2 := F0 m 12 ls [.ref q9]) rfl ?_
      refine lv_astore (lv' := [(4, .ref q9), (0, .ref (ad 0)), (1, .int p1), (2, .int p2), (3, .ref o)]) hx hb dL_ice_12 hl (by decide) rfl (fun ls hl => ?_)
      refine lv_iconst (v := 1) hx hb dL_ice_14 (by decide) ?_
      subst h0
      exact vx_ret (W.iret (v := 1) hx hb hr (fun t ht hW => ⟨⟨1, f, rfl, ⟨rfl, fun z => absurd z (by decide)⟩, by show va_P (dC, dI) vwCl _ t.heap; rw [ht]; exact hP⟩, hS.F ht⟩) hS.2.2 dL_ice_15)
    | 1, hn, h0 =>
      have hn : (some IAE : Option String) = some e9 := hn
      obtain rfl := Option.some.inj hn
      refine vx_catch hown [⟨0, 9, 12, 21⟩] ⟨0, 9, 16, 13⟩ [] (htab.trans rfl) (fun z hz => by rw [List.mem_singleton.mp hz]; exact Or.inr ⟨by decide, IOB, hts (.classLink RL 21 "java/lang/IndexOutOfBoundsException") (List.mem_cons_of_mem _ (List.mem_append_left _ (List.mem_append_left _ (List.mem_append_left _ (List.mem_append_left _ (List.mem_of_getElem? (i := 0) rfl)))))), hT.2.2.2.1⟩) rfl (by decide) (hts (.classLink RL 13 "java/lang/IllegalArgumentException") (List.mem_cons_of_mem _ (List.mem_append_left _ (List.mem_append_left _ (List.mem_append_left _ (List.mem_append_left _ (List.mem_of_getElem? (i := 1) rfl))))))) (va_Nw.use (w := .castable IAE IAE) rfl hT.2.1) h1 h2 h3 ?_
      refine W.eq (g2 := F0 m 16 ls [.ref q9]) rfl ?_
      refine lv_astore (lv' := [(4, .ref q9), (0, .ref (ad 0)), (1, .int p1), (2, .int p2), (3, .ref o)]) hx hb dL_ice_16 hl (by decide) rfl (fun ls hl => ?_)
      refine lv_iconst (v := 2) hx hb dL_ice_18 (by decide) ?_
      subst h0
      exact vx_ret (W.iret (v := 2) hx hb hr (fun t ht hW => ⟨⟨2, f, rfl, ⟨rfl, fun z => absurd z (by decide)⟩, by show va_P (dC, dI) vwCl _ t.heap; rw [ht]; exact hP⟩, hS.F ht⟩) hS.2.2 dL_ice_19)
    | k + 2, hn, h0 =>
      simp at hn

set_option maxHeartbeats 4000000 in
set_option maxRecDepth 100000 in
theorem wL_bars (l : Launch) (hl0 : l.stackTraces = false) (dC : Nat → ClassId) (dI : Nat → Nat → Nat) (ad : Nat → Nat) (cy : Nat → ClassId) (cL : ClassId) (hJ : J33 ad) (sa : Nat → Nat) (o : Nat) (ho : ∀ k, k < 33 → ad k ≠ o) (sz : Nat) (I : Nat → Nat → Int32) (D : Nat → Nat → UInt64) (f : Nat → Int64) (p1 p2 p3 p4 : Int32) (r0 : Int32) (w : Int32) (hf : (r0 = 0 ∧ f_X4_bars I D p1 p2 p3 p4 = some (Except.ok w)) ∨ ∃ (n : Nat) (e9 : String), ([IOB, IAE] : List String)[n]? = some e9 ∧ r0 = nI (n + 1) ∧ f_X4_bars I D p1 p2 p3 p4 = some (.error e9)) : vx_Met l yL_bars wsL_bars ({ frames := 20, cells := 1, slots := 6, locals := 400 }) (va_Pc [.ref (ad 0), .int p1, .int p2, .int p3, .int p4, .ref o] (fun U => U.heap.size = sz ∧ hO dC dI ad cy cL I D o (.inl (cL, 1, .inr (.inl f))) U ∧ xS sa (AO o ad sz) U ∧ xT U)) (va_Qi (fun r (g : Nat → Int64) => r = r0 ∧ (r0 = 0 → g 0 = w.toInt64)) (fun g t => va_P (dC, dI) vwCl ((o, .inl (cL, 1, .inr (.inl g))) :: iwH ad cy I D) t.heap) (AO o ad sz)) (vx_X (fun _ : Unit => False) (fun _ _ _ => True) (AO o ad sz)) 1 6 (AO o ad sz) := by
  refine vx_ofWH (cc := cL_bars) (maxL := 7) (ret := (some .int)) (by decide) rfl ?_
  intro p e s m args below meth c s₁ B hml hv
  obtain ⟨rfl, hsz, ⟨hP, hK, hN⟩, hZ, hT⟩ := hv
  have hx := B.exec
  have hb := B.bytes
  have hr := B.returns
  have hts := atoms_spec (ws := wsL_bars) B.pre
  have hown : s.vm.findClass RL = some m.cls := findClass_of_methodNamed B.named
  have hlocks := B.notSynchronized
  have htab := vx_table (x := yL_bars) B (hts _ List.mem_cons_self)
  subst hsz
  generalize hAe : AO o ad s.heap.size = A at hZ ⊢
  have hA : ∀ q : Nat, s.heap.size ≤ q → A q := fun q h => by rw [← hAe]; exact Or.inr (Or.inr h)
  have hA33 : ∀ k, k < 33 → A (ad k) := fun k h => by rw [← hAe]; exact Or.inr (Or.inl ⟨k, h, rfl⟩)
  have hAo : A o := by rw [← hAe]; exact Or.inl rfl
  obtain ⟨H, hH⟩ : ∃ H : Heap, H = s.heap := ⟨_, rfl⟩
  have hS : va_S A s.heap H [] := by rw [hH]; exact va_S.rf
  have hAW : ∀ q, AW ad H.size q → A q := fun q h => h.elim (fun ⟨k, hk, e1⟩ => e1 ▸ hA33 k hk) (fun h => hA q (Nat.le_trans hS.1 h))
  rw [← hH]
  rw [← hH] at hP
  have hl := lv_entry ([.ref (ad 0), .int p1, .int p2, .int p3, .int p4, .ref o]) (n := 7) (Nat.le_of_ble_eq_true rfl)
  rw [lg_entry_eq]
  generalize (lg_sl ([.ref (ad 0), .int p1, .int p2, .int p3, .int p4, .ref o]) ++ List.replicate (7 - (lg_sl ([.ref (ad 0), .int p1, .int p2, .int p3, .int p4, .ref o])).length) Slot.unset).toArray = ls at hl ⊢
  have hl : lv_has ls 7 [(0, .ref (ad 0)), (1, .int p1), (2, .int p2), (3, .int p3), (4, .int p4), (5, .ref o)] := hl
  have hPh := va_Pt hP
  have hKh : va_K (dC, dI) vwCl (tysA cy) s := hK.sub [0, 1, 2, 3, 4, 5, 6, 7] rfl
  refine lv_aload hx hb dL_bars_0 (lv_at hl 5 rfl) ?_
  refine lv_iconst (v := 0) hx hb dL_bars_2 (by decide) ?_
  refine lv_aload_n hx hb dL_bars_3 rfl (lv_at hl 0 rfl) ?_
  refine lv_iload_n hx hb dL_bars_4 rfl (lv_at hl 1 rfl) ?_
  refine lv_iload_n hx hb dL_bars_5 rfl (lv_at hl 2 rfl) ?_
  refine lv_iload_n hx hb dL_bars_6 rfl (lv_at hl 3 rfl) ?_
  refine lv_iload hx hb dL_bars_7 (lv_at hl 4 rfl) ?_
  rcases hf with ⟨h0, hf⟩ | ⟨n, e9, hn, h0, hf⟩
  · refine va_calli (va_runV (As := [.int p1, .int p2, .int p3, .int p4]) (rest := [.int 0, .ref o]) ⟨hx, hb, hml, hown, hts⟩ (mt_X4_bars l dC dI ad cy hJ H.size I D p1 p2 p3 p4 w hf) (cwV 4 hts gL_bars_X4_bars rfl rfl rfl (by decide +kernel) ⟨Nat.le_of_ble_eq_true rfl, Nat.le_of_ble_eq_true rfl⟩) ⟨(hW.pre [.ref (ad 0), .int p1, .int p2, .int p3, .int p4] hPh hKh hN).1, hW.recv (C := RX4) (T := TX4) (N := 14) hPh hKh heH_0 rfl, (hW.pre [.ref (ad 0), .int p1, .int p2, .int p3, .int p4] hPh hKh hN).2⟩ rfl rfl hl.1 rfl (lv_room (Nat.le_of_ble_eq_true rfl)) dL_bars_9 ⟨Nat.le_of_ble_eq_true rfl, Nat.le_of_ble_eq_true rfl⟩) hS (fun q _ h => hA q (Nat.le_trans hS.1 h)) (fun q h => hA q (Nat.le_trans hS.1 h)) (fun r9 u t H1 locs ht hvm hw hB hz1 hk1 hS => ?_)
    subst hw
    have hP := va_Pnew hP hk1
    clear hB hz1 hk1 hvm ht
    generalize H1 = H at hP hS ⊢
    refine lv_i2l hx hb dL_bars_12 rfl ?_
    refine va_last hx hb hK hP (hOD hJ hA33 hAo ho I D) hS 0 8 rfl rfl vin0 dL_bars_13 (fun H locs hP _ hS => ?_)
    have hP : va_P (dC, dI) vwCl ((o, .inl (cL, 1, .inr (.inl (vp_updL f (0 : Int32).toNatClampNeg (w.toInt64))))) :: iwH ad cy I D) H := hP
    refine lv_goto (tgt := 25) hx hb dL_bars_14 (by decide) ?_
    refine lv_iconst (v := 0) hx hb dL_bars_25 (by decide) ?_
    refine W.widen (k := 1) (n := 6) (by omega) (by omega) ?_
    exact vx_ret (W.iret (v := 0) hx hb hr (fun t ht hW => ⟨⟨0, (vp_updL f (0 : Int32).toNatClampNeg (w.toInt64)), rfl, ⟨h0.symm, fun _ => rfl⟩, by show va_P (dC, dI) vwCl _ t.heap; rw [ht]; exact hP⟩, hS.F ht⟩) hS.2.2 dL_bars_26)
  · refine vx_calli (vx_runV (As := [.int p1, .int p2, .int p3, .int p4]) (rest := [.int 0, .ref o]) ⟨hx, hb, hml, hown, hts⟩ (mx_X4_bars l hl0 dC dI ad cy hJ sa H.size I D p1 p2 p3 p4 e9 hf) (cwV 4 hts gL_bars_X4_bars rfl rfl rfl (by decide +kernel) ⟨Nat.le_of_ble_eq_true rfl, Nat.le_of_ble_eq_true rfl⟩) ⟨(hW.preX [.ref (ad 0), .int p1, .int p2, .int p3, .int p4] hPh hKh hN (xS_kept (B := AW ad H.size) hZ hS hAW)).1, hW.recv (C := RX4) (T := TX4) (N := 14) hPh hKh heH_0 rfl, (hW.preX [.ref (ad 0), .int p1, .int p2, .int p3, .int p4] hPh hKh hN (xS_kept (B := AW ad H.size) hZ hS hAW)).2⟩ rfl rfl hl.1 rfl (lv_room (Nat.le_of_ble_eq_true rfl)) dL_bars_9 ⟨Nat.le_of_ble_eq_true rfl, Nat.le_of_ble_eq_true rfl⟩) hS (fun q _ h => hAW q h) hAW (fun q _ h => hAW q h) (fun E9 ce q9 u t H1 locs1 ht9 hvm hpu hBX hz1 hk1 hS h1 h2 h3 => ?_) (fun r9 u t H1 locs ht9 hvm hw hB hz1 hk1 hS => hw.elim)
    obtain ⟨hE, hPx, -⟩ := hBX
    subst hE
    have hP := va_Ocall hP ho hk1 (by rw [← ht9]; exact hPx)
    clear hz1 hk1 hvm ht9 hPx hpu hf hPh
    generalize H1 = H at hP hS h1 ⊢
    match n, hn, h0 with
    | 0, hn, h0 =>
      have hn : (some IOB : Option String) = some e9 := hn
      obtain rfl := Option.some.inj hn
      refine vx_catch hown [] ⟨0, 14, 17, 21⟩ [⟨0, 14, 21, 13⟩] (htab.trans rfl) (fun z hz => absurd hz List.not_mem_nil) rfl (by decide) (hts (.classLink RL 21 "java/lang/IndexOutOfBoundsException") (List.mem_cons_of_mem _ (List.mem_append_left _ (List.mem_append_left _ (List.mem_append_left _ (List.mem_append_left _ (List.mem_append_left _ (List.mem_of_getElem? (i := 0) rfl)))))))) (va_Nw.use (w := .castable IOB IOB) rfl hT.1) h1 h2 h3 ?_
      refine W.eq (g2 := F0 m 17 ls [.ref q9]) rfl ?_
      refine lv_astore (lv' := [(6, .ref q9), (0, .ref (ad 0)), (1, .int p1), (2, .int p2), (3, .int p3), (4, .int p4), (5, .ref o)]) hx hb dL_bars_17 hl (by decide) rfl (fun ls hl => ?_)
      refine lv_iconst (v := 1) hx hb dL_bars_19 (by decide) ?_
      subst h0
      exact vx_ret (W.iret (v := 1) hx hb hr (fun t ht hW => ⟨⟨1, f, rfl, ⟨rfl, fun z => absurd z (by decide)⟩, by show va_P (dC, dI) vwCl _ t.heap; rw [ht]; exact hP⟩, hS.F ht⟩) hS.2.2 dL_bars_20)
    | 1, hn, h0 =>
      have hn : (some IAE : Option String) = some e9 := hn
      obtain rfl := Option.some.inj hn
      refine vx_catch hown [⟨0, 14, 17, 21⟩] ⟨0, 14, 21, 13⟩ [] (htab.trans rfl) (fun z hz => by rw [List.mem_singleton.mp hz]; exact Or.inr ⟨by decide, IOB, hts (.classLink RL 21 "java/lang/IndexOutOfBoundsException") (List.mem_cons_of_mem _ (List.mem_append_left _ (List.mem_append_left _ (List.mem_append_left _ (List.mem_append_left _ (List.mem_append_left _ (List.mem_of_getElem? (i := 0) rfl))))))), hT.2.2.2.1⟩) rfl (by decide) (hts (.classLink RL 13 "java/lang/IllegalArgumentException") (List.mem_cons_of_mem _ (List.mem_append_left _ (List.mem_append_left _ (List.mem_append_left _ (List.mem_append_left _ (List.mem_append_left _ (List.mem_of_getElem? (i := 1) rfl)))))))) (va_Nw.use (w := .castable IAE IAE) rfl hT.2.1) h1 h2 h3 ?_
      refine W.eq (g2 := F0 m 21 ls [.ref q9]) rfl ?_
      refine lv_astore (lv' := [(6, .ref q9), (0, .ref (ad 0)), (1, .int p1), (2, .int p2), (3, .int p3), (4, .int p4), (5, .ref o)]) hx hb dL_bars_21 hl (by decide) rfl (fun ls hl => ?_)
      refine lv_iconst (v := 2) hx hb dL_bars_23 (by decide) ?_
      subst h0
      exact vx_ret (W.iret (v := 2) hx hb hr (fun t ht hW => ⟨⟨2, f, rfl, ⟨rfl, fun z => absurd z (by decide)⟩, by show va_P (dC, dI) vwCl _ t.heap; rw [ht]; exact hP⟩, hS.F ht⟩) hS.2.2 dL_bars_24)
    | k + 2, hn, h0 =>
      simp at hn

set_option maxHeartbeats 4000000 in
set_option maxRecDepth 100000 in
theorem wL_ofBatch (l : Launch) (hl0 : l.stackTraces = false) (dC : Nat → ClassId) (dI : Nat → Nat → Nat) (ad : Nat → Nat) (cy : Nat → ClassId) (cL : ClassId) (hJ : J33 ad) (sa : Nat → Nat) (o : Nat) (ho : ∀ k, k < 33 → ad k ≠ o) (sz : Nat) (I : Nat → Nat → Int32) (D : Nat → Nat → UInt64) (f : Nat → Int64) (p1 p2 : Int32) (r0 : Int32) (w : Int32) (hf : (r0 = 0 ∧ f_X4_ofBatch I D p1 p2 = some (Except.ok w)) ∨ ∃ (n : Nat) (e9 : String), ([IOB, IAE] : List String)[n]? = some e9 ∧ r0 = nI (n + 1) ∧ f_X4_ofBatch I D p1 p2 = some (.error e9)) : vx_Met l yL_ofBatch wsL_ofBatch ({ frames := 20, cells := 1, slots := 6, locals := 400 }) (va_Pc [.ref (ad 0), .int p1, .int p2, .ref o] (fun U => U.heap.size = sz ∧ hO dC dI ad cy cL I D o (.inl (cL, 1, .inr (.inl f))) U ∧ xS sa (AO o ad sz) U ∧ xT U)) (va_Qi (fun r (g : Nat → Int64) => r = r0 ∧ (r0 = 0 → g 0 = w.toInt64)) (fun g t => va_P (dC, dI) vwCl ((o, .inl (cL, 1, .inr (.inl g))) :: iwH ad cy I D) t.heap) (AO o ad sz)) (vx_X (fun _ : Unit => False) (fun _ _ _ => True) (AO o ad sz)) 1 6 (AO o ad sz) := by
  refine vx_ofWH (cc := cL_ofBatch) (maxL := 5) (ret := (some .int)) (by decide) rfl ?_
  intro p e s m args below meth c s₁ B hml hv
  obtain ⟨rfl, hsz, ⟨hP, hK, hN⟩, hZ, hT⟩ := hv
  have hx := B.exec
  have hb := B.bytes
  have hr := B.returns
  have hts := atoms_spec (ws := wsL_ofBatch) B.pre
  have hown : s.vm.findClass RL = some m.cls := findClass_of_methodNamed B.named
  have hlocks := B.notSynchronized
  have htab := vx_table (x := yL_ofBatch) B (hts _ List.mem_cons_self)
  subst hsz
  generalize hAe : AO o ad s.heap.size = A at hZ ⊢
  have hA : ∀ q : Nat, s.heap.size ≤ q → A q := fun q h => by rw [← hAe]; exact Or.inr (Or.inr h)
  have hA33 : ∀ k, k < 33 → A (ad k) := fun k h => by rw [← hAe]; exact Or.inr (Or.inl ⟨k, h, rfl⟩)
  have hAo : A o := by rw [← hAe]; exact Or.inl rfl
  obtain ⟨H, hH⟩ : ∃ H : Heap, H = s.heap := ⟨_, rfl⟩
  have hS : va_S A s.heap H [] := by rw [hH]; exact va_S.rf
  have hAW : ∀ q, AW ad H.size q → A q := fun q h => h.elim (fun ⟨k, hk, e1⟩ => e1 ▸ hA33 k hk) (fun h => hA q (Nat.le_trans hS.1 h))
  rw [← hH]
  rw [← hH] at hP
  have hl := lv_entry ([.ref (ad 0), .int p1, .int p2, .ref o]) (n := 5) (Nat.le_of_ble_eq_true rfl)
  rw [lg_entry_eq]
  generalize (lg_sl ([.ref (ad 0), .int p1, .int p2, .ref o]) ++ List.replicate (5 - (lg_sl ([.ref (ad 0), .int p1, .int p2, .ref o])).length) Slot.unset).toArray = ls at hl ⊢
  have hl : lv_has ls 5 [(0, .ref (ad 0)), (1, .int p1), (2, .int p2), (3, .ref o)] := hl
  have hPh := va_Pt hP
  have hKh : va_K (dC, dI) vwCl (tysA cy) s := hK.sub [0, 1, 2, 3, 4, 5, 6, 7] rfl
  refine lv_aload_n hx hb dL_ofBatch_0 rfl (lv_at hl 3 rfl) ?_
  refine lv_iconst (v := 0) hx hb dL_ofBatch_1 (by decide) ?_
  refine lv_aload_n hx hb dL_ofBatch_2 rfl (lv_at hl 0 rfl) ?_
  refine lv_iload_n hx hb dL_ofBatch_3 rfl (lv_at hl 1 rfl) ?_
  refine lv_iload_n hx hb dL_ofBatch_4 rfl (lv_at hl 2 rfl) ?_
  rcases hf with ⟨h0, hf⟩ | ⟨n, e9, hn, h0, hf⟩
  · refine va_calli (va_runV (As := [.int p1, .int p2]) (rest := [.int 0, .ref o]) ⟨hx, hb, hml, hown, hts⟩ (mt_X4_ofBatch l dC dI ad cy hJ H.size I D p1 p2 w hf) (cwV 2 hts gL_ofBatch_X4_ofBatch rfl rfl rfl (by decide +kernel) ⟨Nat.le_of_ble_eq_true rfl, Nat.le_of_ble_eq_true rfl⟩) ⟨(hW.pre [.ref (ad 0), .int p1, .int p2] hPh hKh hN).1, hW.recv (C := RX4) (T := TX4) (N := 14) hPh hKh heH_0 rfl, (hW.pre [.ref (ad 0), .int p1, .int p2] hPh hKh hN).2⟩ rfl rfl hl.1 rfl (lv_room (Nat.le_of_ble_eq_true rfl)) dL_ofBatch_5 ⟨Nat.le_of_ble_eq_true rfl, Nat.le_of_ble_eq_true rfl⟩) hS (fun q _ h => hA q (Nat.le_trans hS.1 h)) (fun q h => hA q (Nat.le_trans hS.1 h)) (fun r9 u t H1 locs ht hvm hw hB hz1 hk1 hS => ?_)
    subst hw
    have hP := va_Pnew hP hk1
    clear hB hz1 hk1 hvm ht
    generalize H1 = H at hP hS ⊢
    refine lv_i2l hx hb dL_ofBatch_8 rfl ?_
    refine va_last hx hb hK hP (hOD hJ hA33 hAo ho I D) hS 0 8 rfl rfl vin0 dL_ofBatch_9 (fun H locs hP _ hS => ?_)
    have hP : va_P (dC, dI) vwCl ((o, .inl (cL, 1, .inr (.inl (vp_updL f (0 : Int32).toNatClampNeg (w.toInt64))))) :: iwH ad cy I D) H := hP
    refine lv_goto (tgt := 21) hx hb dL_ofBatch_10 (by decide) ?_
    refine lv_iconst (v := 0) hx hb dL_ofBatch_21 (by decide) ?_
    refine W.widen (k := 1) (n := 6) (by omega) (by omega) ?_
    exact vx_ret (W.iret (v := 0) hx hb hr (fun t ht hW => ⟨⟨0, (vp_updL f (0 : Int32).toNatClampNeg (w.toInt64)), rfl, ⟨h0.symm, fun _ => rfl⟩, by show va_P (dC, dI) vwCl _ t.heap; rw [ht]; exact hP⟩, hS.F ht⟩) hS.2.2 dL_ofBatch_22)
  · refine vx_calli (vx_runV (As := [.int p1, .int p2]) (rest := [.int 0, .ref o]) ⟨hx, hb, hml, hown, hts⟩ (mx_X4_ofBatch l hl0 dC dI ad cy hJ sa H.size I D p1 p2 e9 hf) (cwV 2 hts gL_ofBatch_X4_ofBatch rfl rfl rfl (by decide +kernel) ⟨Nat.le_of_ble_eq_true rfl, Nat.le_of_ble_eq_true rfl⟩) ⟨(hW.preX [.ref (ad 0), .int p1, .int p2] hPh hKh hN (xS_kept (B := AW ad H.size) hZ hS hAW)).1, hW.recv (C := RX4) (T := TX4) (N := 14) hPh hKh heH_0 rfl, (hW.preX [.ref (ad 0), .int p1, .int p2] hPh hKh hN (xS_kept (B := AW ad H.size) hZ hS hAW)).2⟩ rfl rfl hl.1 rfl (lv_room (Nat.le_of_ble_eq_true rfl)) dL_ofBatch_5 ⟨Nat.le_of_ble_eq_true rfl, Nat.le_of_ble_eq_true rfl⟩) hS (fun q _ h => hAW q h) hAW (fun q _ h => hAW q h) (fun E9 ce q9 u t H1 locs1 ht9 hvm hpu hBX hz1 hk1 hS h1 h2 h3 => ?_) (fun r9 u t H1 locs ht9 hvm hw hB hz1 hk1 hS => hw.elim)
    obtain ⟨hE, hPx, -⟩ := hBX
    subst hE
    have hP := va_Ocall hP ho hk1 (by rw [← ht9]; exact hPx)
    clear hz1 hk1 hvm ht9 hPx hpu hf hPh
    generalize H1 = H at hP hS h1 ⊢
    match n, hn, h0 with
    | 0, hn, h0 =>
      have hn : (some IOB : Option String) = some e9 := hn
      obtain rfl := Option.some.inj hn
      refine vx_catch hown [] ⟨0, 10, 13, 21⟩ [⟨0, 10, 17, 13⟩] (htab.trans rfl) (fun z hz => absurd hz List.not_mem_nil) rfl (by decide) (hts (.classLink RL 21 "java/lang/IndexOutOfBoundsException") (List.mem_cons_of_mem _ (List.mem_append_left _ (List.mem_append_left _ (List.mem_append_left _ (List.mem_append_left _ (List.mem_append_left _ (List.mem_append_left _ (List.mem_of_getElem? (i := 0) rfl))))))))) (va_Nw.use (w := .castable IOB IOB) rfl hT.1) h1 h2 h3 ?_
      refine W.eq (g2 := F0 m 13 ls [.ref q9]) rfl ?_
      refine lv_astore (lv' := [(4, .ref q9), (0, .ref (ad 0)), (1, .int p1), (2, .int p2), (3, .ref o)]) hx hb dL_ofBatch_13 hl (by decide) rfl (fun ls hl => ?_)
      refine lv_iconst (v := 1) hx hb dL_ofBatch_15 (by decide) ?_
      subst h0
      exact vx_ret (W.iret (v := 1) hx hb hr (fun t ht hW => ⟨⟨1, f, rfl, ⟨rfl, fun z => absurd z (by decide)⟩, by show va_P (dC, dI) vwCl _ t.heap; rw [ht]; exact hP⟩, hS.F ht⟩) hS.2.2 dL_ofBatch_16)
    | 1, hn, h0 =>
      have hn : (some IAE : Option String) = some e9 := hn
      obtain rfl := Option.some.inj hn
      refine vx_catch hown [⟨0, 10, 13, 21⟩] ⟨0, 10, 17, 13⟩ [] (htab.trans rfl) (fun z hz => by rw [List.mem_singleton.mp hz]; exact Or.inr ⟨by decide, IOB, hts (.classLink RL 21 "java/lang/IndexOutOfBoundsException") (List.mem_cons_of_mem _ (List.mem_append_left _ (List.mem_append_left _ (List.mem_append_left _ (List.mem_append_left _ (List.mem_append_left _ (List.mem_append_left _ (List.mem_of_getElem? (i := 0) rfl)))))))), hT.2.2.2.1⟩) rfl (by decide) (hts (.classLink RL 13 "java/lang/IllegalArgumentException") (List.mem_cons_of_mem _ (List.mem_append_left _ (List.mem_append_left _ (List.mem_append_left _ (List.mem_append_left _ (List.mem_append_left _ (List.mem_append_left _ (List.mem_of_getElem? (i := 1) rfl))))))))) (va_Nw.use (w := .castable IAE IAE) rfl hT.2.1) h1 h2 h3 ?_
      refine W.eq (g2 := F0 m 17 ls [.ref q9]) rfl ?_
      refine lv_astore (lv' := [(4, .ref q9), (0, .ref (ad 0)), (1, .int p1), (2, .int p2), (3, .ref o)]) hx hb dL_ofBatch_17 hl (by decide) rfl (fun ls hl => ?_)
      refine lv_iconst (v := 2) hx hb dL_ofBatch_19 (by decide) ?_
      subst h0
      exact vx_ret (W.iret (v := 2) hx hb hr (fun t ht hW => ⟨⟨2, f, rfl, ⟨rfl, fun z => absurd z (by decide)⟩, by show va_P (dC, dI) vwCl _ t.heap; rw [ht]; exact hP⟩, hS.F ht⟩) hS.2.2 dL_ofBatch_20)
    | k + 2, hn, h0 =>
      simp at hn

set_option maxHeartbeats 4000000 in
set_option maxRecDepth 100000 in
theorem wL_crystal (l : Launch) (hl0 : l.stackTraces = false) (dC : Nat → ClassId) (dI : Nat → Nat → Nat) (ad : Nat → Nat) (cy : Nat → ClassId) (cL : ClassId) (hJ : J33 ad) (sa : Nat → Nat) (o : Nat) (ho : ∀ k, k < 33 → ad k ≠ o) (sz : Nat) (I : Nat → Nat → Int32) (D : Nat → Nat → UInt64) (f : Nat → UInt64) (p1 : Int32) (r0 : Int32) (w : UInt64) (hf : (r0 = 0 ∧ f_X4_crystal I D p1 = some (Except.ok w)) ∨ ∃ (n : Nat) (e9 : String), ([IOB] : List String)[n]? = some e9 ∧ r0 = nI (n + 1) ∧ f_X4_crystal I D p1 = some (.error e9)) : vx_Met l yL_crystal wsL_crystal ({ frames := 20, cells := 1, slots := 6, locals := 400 }) (va_Pc [.ref (ad 0), .int p1, .ref o] (fun U => U.heap.size = sz ∧ hO dC dI ad cy cL I D o (.inl (cy 6, 1, .inr (.inr (.inr (.inl f))))) U ∧ xS sa (AO o ad sz) U ∧ xT U)) (va_Qi (fun r (g : Nat → UInt64) => r = r0 ∧ (r0 = 0 → g 0 = w)) (fun g t => va_P (dC, dI) vwCl ((o, .inl (cy 6, 1, .inr (.inr (.inr (.inl g))))) :: iwH ad cy I D) t.heap) (AO o ad sz)) (vx_X (fun _ : Unit => False) (fun _ _ _ => True) (AO o ad sz)) 1 6 (AO o ad sz) := by
  refine vx_ofWH (cc := cL_crystal) (maxL := 4) (ret := (some .int)) (by decide) rfl ?_
  intro p e s m args below meth c s₁ B hml hv
  obtain ⟨rfl, hsz, ⟨hP, hK, hN⟩, hZ, hT⟩ := hv
  have hx := B.exec
  have hb := B.bytes
  have hr := B.returns
  have hts := atoms_spec (ws := wsL_crystal) B.pre
  have hown : s.vm.findClass RL = some m.cls := findClass_of_methodNamed B.named
  have hlocks := B.notSynchronized
  have htab := vx_table (x := yL_crystal) B (hts _ List.mem_cons_self)
  subst hsz
  generalize hAe : AO o ad s.heap.size = A at hZ ⊢
  have hA : ∀ q : Nat, s.heap.size ≤ q → A q := fun q h => by rw [← hAe]; exact Or.inr (Or.inr h)
  have hA33 : ∀ k, k < 33 → A (ad k) := fun k h => by rw [← hAe]; exact Or.inr (Or.inl ⟨k, h, rfl⟩)
  have hAo : A o := by rw [← hAe]; exact Or.inl rfl
  obtain ⟨H, hH⟩ : ∃ H : Heap, H = s.heap := ⟨_, rfl⟩
  have hS : va_S A s.heap H [] := by rw [hH]; exact va_S.rf
  have hAW : ∀ q, AW ad H.size q → A q := fun q h => h.elim (fun ⟨k, hk, e1⟩ => e1 ▸ hA33 k hk) (fun h => hA q (Nat.le_trans hS.1 h))
  rw [← hH]
  rw [← hH] at hP
  have hl := lv_entry ([.ref (ad 0), .int p1, .ref o]) (n := 4) (Nat.le_of_ble_eq_true rfl)
  rw [lg_entry_eq]
  generalize (lg_sl ([.ref (ad 0), .int p1, .ref o]) ++ List.replicate (4 - (lg_sl ([.ref (ad 0), .int p1, .ref o])).length) Slot.unset).toArray = ls at hl ⊢
  have hl : lv_has ls 4 [(0, .ref (ad 0)), (1, .int p1), (2, .ref o)] := hl
  have hPh := va_Pt hP
  have hKh : va_K (dC, dI) vwCl (tysA cy) s := hK.sub [0, 1, 2, 3, 4, 5, 6, 7] rfl
  refine lv_aload_n hx hb dL_crystal_0 rfl (lv_at hl 2 rfl) ?_
  refine lv_iconst (v := 0) hx hb dL_crystal_1 (by decide) ?_
  refine lv_aload_n hx hb dL_crystal_2 rfl (lv_at hl 0 rfl) ?_
  refine lv_iload_n hx hb dL_crystal_3 rfl (lv_at hl 1 rfl) ?_
  rcases hf with ⟨h0, hf⟩ | ⟨n, e9, hn, h0, hf⟩
  · refine va_calld (va_runV (As := [.int p1]) (rest := [.int 0, .ref o]) ⟨hx, hb, hml, hown, hts⟩ (mt_X4_crystal l dC dI ad cy hJ H.size I D p1 w hf) (cwV 1 hts gL_crystal_X4_crystal rfl rfl rfl (by decide +kernel) ⟨Nat.le_of_ble_eq_true rfl, Nat.le_of_ble_eq_true rfl⟩) ⟨(hW.pre [.ref (ad 0), .int p1] hPh hKh hN).1, hW.recv (C := RX4) (T := TX4) (N := 14) hPh hKh heH_0 rfl, (hW.pre [.ref (ad 0), .int p1] hPh hKh hN).2⟩ rfl rfl hl.1 rfl (lv_room (Nat.le_of_ble_eq_true rfl)) dL_crystal_4 ⟨Nat.le_of_ble_eq_true rfl, Nat.le_of_ble_eq_true rfl⟩) hS (fun q _ h => hA q (Nat.le_trans hS.1 h)) (fun q h => hA q (Nat.le_trans hS.1 h)) (fun r9 u t H1 locs ht hvm hw hB hz1 hk1 hS => ?_)
    subst hw
    have hP := va_Pnew hP hk1
    clear hB hz1 hk1 hvm ht
    generalize H1 = H at hP hS ⊢
    refine va_dast hx hb hK hP (hOD hJ hA33 hAo ho I D) hS 0 6 rfl rfl vin0 dL_crystal_7 (fun H locs hP _ hS => ?_)
    have hP : va_P (dC, dI) vwCl ((o, .inl (cy 6, 1, .inr (.inr (.inr (.inl (vf_upd f (0 : Int32).toNatClampNeg w)))))) :: iwH ad cy I D) H := hP
    refine lv_goto (tgt := 14) hx hb dL_crystal_8 (by decide) ?_
    refine lv_iconst (v := 0) hx hb dL_crystal_14 (by decide) ?_
    refine W.widen (k := 1) (n := 6) (by omega) (by omega) ?_
    exact vx_ret (W.iret (v := 0) hx hb hr (fun t ht hW => ⟨⟨0, (vf_upd f (0 : Int32).toNatClampNeg w), rfl, ⟨h0.symm, fun _ => rfl⟩, by show va_P (dC, dI) vwCl _ t.heap; rw [ht]; exact hP⟩, hS.F ht⟩) hS.2.2 dL_crystal_15)
  · refine vx_calld (vx_runV (As := [.int p1]) (rest := [.int 0, .ref o]) ⟨hx, hb, hml, hown, hts⟩ (mx_X4_crystal l hl0 dC dI ad cy hJ sa H.size I D p1 e9 hf) (cwV 1 hts gL_crystal_X4_crystal rfl rfl rfl (by decide +kernel) ⟨Nat.le_of_ble_eq_true rfl, Nat.le_of_ble_eq_true rfl⟩) ⟨(hW.preX [.ref (ad 0), .int p1] hPh hKh hN (xS_kept (B := AW ad H.size) hZ hS hAW)).1, hW.recv (C := RX4) (T := TX4) (N := 14) hPh hKh heH_0 rfl, (hW.preX [.ref (ad 0), .int p1] hPh hKh hN (xS_kept (B := AW ad H.size) hZ hS hAW)).2⟩ rfl rfl hl.1 rfl (lv_room (Nat.le_of_ble_eq_true rfl)) dL_crystal_4 ⟨Nat.le_of_ble_eq_true rfl, Nat.le_of_ble_eq_true rfl⟩) hS (fun q _ h => hAW q h) hAW (fun q _ h => hAW q h) (fun E9 ce q9 u t H1 locs1 ht9 hvm hpu hBX hz1 hk1 hS h1 h2 h3 => ?_) (fun r9 u t H1 locs ht9 hvm hw hB hz1 hk1 hS => hw.elim)
    obtain ⟨hE, hPx, -⟩ := hBX
    subst hE
    have hP := va_Ocall hP ho hk1 (by rw [← ht9]; exact hPx)
    clear hz1 hk1 hvm ht9 hPx hpu hf hPh
    generalize H1 = H at hP hS h1 ⊢
    match n, hn, h0 with
    | 0, hn, h0 =>
      have hn : (some IOB : Option String) = some e9 := hn
      obtain rfl := Option.some.inj hn
      refine vx_catch hown [] ⟨0, 8, 11, 21⟩ [] (htab.trans rfl) (fun z hz => absurd hz List.not_mem_nil) rfl (by decide) (hts (.classLink RL 21 "java/lang/IndexOutOfBoundsException") (List.mem_cons_of_mem _ (List.mem_append_left _ (List.mem_append_left _ (List.mem_append_left _ (List.mem_of_getElem? (i := 0) rfl)))))) (va_Nw.use (w := .castable IOB IOB) rfl hT.1) h1 h2 h3 ?_
      refine W.eq (g2 := F0 m 11 ls [.ref q9]) rfl ?_
      refine lv_astore_n (lv' := [(3, .ref q9), (0, .ref (ad 0)), (1, .int p1), (2, .ref o)]) hx hb dL_crystal_11 rfl hl (by decide) rfl (fun ls hl => ?_)
      refine lv_iconst (v := 1) hx hb dL_crystal_12 (by decide) ?_
      subst h0
      exact vx_ret (W.iret (v := 1) hx hb hr (fun t ht hW => ⟨⟨1, f, rfl, ⟨rfl, fun z => absurd z (by decide)⟩, by show va_P (dC, dI) vwCl _ t.heap; rw [ht]; exact hP⟩, hS.F ht⟩) hS.2.2 dL_crystal_13)
    | k + 1, hn, h0 =>
      simp at hn
