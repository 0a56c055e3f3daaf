set_option maxHeartbeats 4000000 in
set_option maxRecDepth 100000 in
theorem wL_wash (l : Launch) (hl0 : l.stackTraces = false) (dC : Nat → ClassId) (dI : Nat → Nat → Nat) (ad : Nat → Nat) (cy : Nat → ClassId) (cL : ClassId) (hJ : J33 ad) (sa : Nat → Nat) (o : Nat) (ho : ∀ k, k < 33 → ad k ≠ o) (sz : Nat) (I : Nat → Nat → Int32) (D : Nat → Nat → UInt64) (f : Nat → Int64) (p1 : Int32) (r0 : Int32) (w : Int32) (I9 : Nat → Nat → Int32) (D9 : Nat → Nat → UInt64) (hf : (r0 = 0 ∧ f_X4_wash I D p1 = some (Except.ok (w, I9, D9))) ∨ ∃ (n : Nat) (e9 : String), ([IOB] : List String)[n]? = some e9 ∧ r0 = nI (n + 1) ∧ f_X4_wash I D p1 = some (.error e9) ∧ I9 = I ∧ D9 = D) : vx_Met l yL_wash wsL_wash ({ frames := 20, cells := 1, slots := 6, locals := 400 }) (va_Pc [.ref (ad 0), .int p1, .ref o] (fun U => U.heap.size = sz ∧ hO dC dI ad cy cL I D o (.inl (cL, 1, .inr (.inl f))) U ∧ xS sa (AO o ad sz) U ∧ xT U)) (va_Qi (fun r (g : Nat → Int64) => r = r0 ∧ (r0 = 0 → g 0 = w.toInt64)) (fun g t => va_P (dC, dI) vwCl ((o, .inl (cL, 1, .inr (.inl g))) :: iwH ad cy I9 D9) t.heap) (AO o ad sz)) (vx_X (fun _ : Unit => False) (fun _ _ _ => True) (AO o ad sz)) 1 6 (AO o ad sz) := by
  refine vx_ofWH (cc := cL_wash) (maxL := 4) (ret := (some .int)) (by decide) rfl ?_
  intro p e s m args below meth c s₁ B hml hv
  obtain ⟨rfl, hsz, ⟨hP, hK, hN⟩, hZ, hT⟩ := hv
  have hx := B.exec
  have hb := B.bytes
  have hr := B.returns
  have hts := atoms_spec (ws := wsL_wash) B.pre
  have hown : s.vm.findClass RL = some m.cls := findClass_of_methodNamed B.named
  have hlocks := B.notSynchronized
  have htab := vx_table (x := yL_wash) B (hts _ List.mem_cons_self)
  subst hsz
  generalize hAe : AO o ad s.heap.size = A at hZ ⊢
  have hA : ∀ q : Nat, s.heap.size ≤ q → A q := fun q h => by rw [← hAe]; exact Or.inr (Or.inr h)
  have hA33 : ∀ k, k < 33 → A (ad k) := fun k h => by rw [← hAe]; exact Or.inr (Or.inl ⟨k, h, rfl⟩)
  have hAo : A o := by rw [← hAe]; exact Or.inl rfl
  obtain ⟨H, hH⟩ : ∃ H : Heap, H = s.heap := ⟨_, rfl⟩
  have hS : va_S A s.heap H [] := by rw [hH]; exact va_S.rf
  have hAW : ∀ q, AW ad H.size q → A q := fun q h => h.elim (fun ⟨k, hk, e1⟩ => e1 ▸ hA33 k hk) (fun h => hA q (Nat.le_trans hS.1 h))
  rw [← hH]
  rw [← hH] at hP
  have hl := lv_entry ([.ref (ad 0), .int p1, .ref o]) (n := 4) (Nat.le_of_ble_eq_true rfl)
  rw [lg_entry_eq]
  generalize (lg_sl ([.ref (ad 0), .int p1, .ref o]) ++ List.replicate (4 - (lg_sl ([.ref (ad 0), .int p1, .ref o])).length) Slot.unset).toArray = ls at hl ⊢
  have hl : lv_has ls 4 [(0, .ref (ad 0)), (1, .int p1), (2, .ref o)] := hl
  have hPh := va_Pt hP
  have hKh : va_K (dC, dI) vwCl (tysA cy) s := hK.sub [0, 1, 2, 3, 4, 5, 6, 7] rfl
  refine lv_aload_n hx hb dL_wash_0 rfl (lv_at hl 2 rfl) ?_
  refine lv_iconst (v := 0) hx hb dL_wash_1 (by decide) ?_
  refine lv_aload_n hx hb dL_wash_2 rfl (lv_at hl 0 rfl) ?_
  refine lv_iload_n hx hb dL_wash_3 rfl (lv_at hl 1 rfl) ?_
  rcases hf with ⟨h0, hf⟩ | ⟨n, e9, hn, h0, hf, e1, e2⟩
  · refine va_calli (va_runV (As := [.int p1]) (rest := [.int 0, .ref o]) ⟨hx, hb, hml, hown, hts⟩ (mt_X4_wash l dC dI ad cy hJ H.size I D p1 w I9 D9 hf) (cwV 1 hts gL_wash_X4_wash rfl rfl rfl (by decide +kernel) ⟨Nat.le_of_ble_eq_true rfl, Nat.le_of_ble_eq_true rfl⟩) ⟨(hW.pre [.ref (ad 0), .int p1] hPh hKh hN).1, hW.recv (C := RX4) (T := TX4) (N := 14) hPh hKh heH_0 rfl, (hW.pre [.ref (ad 0), .int p1] hPh hKh hN).2⟩ rfl rfl hl.1 rfl (lv_room (Nat.le_of_ble_eq_true rfl)) dL_wash_4 ⟨Nat.le_of_ble_eq_true rfl, Nat.le_of_ble_eq_true rfl⟩) hS (fun q _ h => hAW q h) hAW (fun r9 u t H1 locs ht hvm hw hB hz1 hk1 hS => ?_)
    subst hw
    have hP := va_Ocall hP ho hk1 (by rw [← ht]; exact hB.1)
    clear hB hz1 hk1 hvm ht
    generalize H1 = H at hP hS ⊢
    refine lv_i2l hx hb dL_wash_7 rfl ?_
    refine va_last hx hb hK hP (hOD hJ hA33 hAo ho I9 D9) hS 0 8 rfl rfl vin0 dL_wash_8 (fun H locs hP _ hS => ?_)
    have hP : va_P (dC, dI) vwCl ((o, .inl (cL, 1, .inr (.inl (vp_updL f (0 : Int32).toNatClampNeg (w.toInt64))))) :: iwH ad cy I9 D9) H := hP
    refine lv_goto (tgt := 15) hx hb dL_wash_9 (by decide) ?_
    refine lv_iconst (v := 0) hx hb dL_wash_15 (by decide) ?_
    refine W.widen (k := 1) (n := 6) (by omega) (by omega) ?_
    exact vx_ret (W.iret (v := 0) hx hb hr (fun t ht hW => ⟨⟨0, (vp_updL f (0 : Int32).toNatClampNeg (w.toInt64)), rfl, ⟨h0.symm, fun _ => rfl⟩, by show va_P (dC, dI) vwCl _ t.heap; rw [ht]; exact hP⟩, hS.F ht⟩) hS.2.2 dL_wash_16)
  · have e1 := e1.symm
    have e2 := e2.symm
    subst e1
    subst e2
    refine vx_calli (vx_runV (As := [.int p1]) (rest := [.int 0, .ref o]) ⟨hx, hb, hml, hown, hts⟩ (mx_X4_wash l hl0 dC dI ad cy hJ sa H.size I D p1 e9 hf) (cwV 1 hts gL_wash_X4_wash rfl rfl rfl (by decide +kernel) ⟨Nat.le_of_ble_eq_true rfl, Nat.le_of_ble_eq_true rfl⟩) ⟨(hW.preX [.ref (ad 0), .int p1] hPh hKh hN (xS_kept (B := AW ad H.size) hZ hS hAW)).1, hW.recv (C := RX4) (T := TX4) (N := 14) hPh hKh heH_0 rfl, (hW.preX [.ref (ad 0), .int p1] hPh hKh hN (xS_kept (B := AW ad H.size) hZ hS hAW)).2⟩ rfl rfl hl.1 rfl (lv_room (Nat.le_of_ble_eq_true rfl)) dL_wash_4 ⟨Nat.le_of_ble_eq_true rfl, Nat.le_of_ble_eq_true rfl⟩) hS (fun q _ h => hAW q h) hAW (fun q _ h => hAW q h) (fun E9 ce q9 u t H1 locs1 ht9 hvm hpu hBX hz1 hk1 hS h1 h2 h3 => ?_) (fun r9 u t H1 locs ht9 hvm hw hB hz1 hk1 hS => hw.elim)
    obtain ⟨hE, hPx, -⟩ := hBX
    subst hE
    have hP := va_Ocall hP ho hk1 (by rw [← ht9]; exact hPx)
    clear hz1 hk1 hvm ht9 hPx hpu hf hPh
    generalize H1 = H at hP hS h1 ⊢
    match n, hn, h0 with
    | 0, hn, h0 =>
      have hn : (some IOB : Option String) = some e9 := hn
      obtain rfl := Option.some.inj hn
      refine vx_catch hown [] ⟨0, 9, 12, 21⟩ [] (htab.trans rfl) (fun z hz => absurd hz List.not_mem_nil) rfl (by decide) (hts (.classLink RL 21 "java/lang/IndexOutOfBoundsException") (List.mem_cons_of_mem _ (List.mem_append_left _ (List.mem_append_left _ (List.mem_of_getElem? (i := 0) rfl))))) (va_Nw.use (w := .castable IOB IOB) rfl hT.1) h1 h2 h3 ?_
      refine W.eq (g2 := F0 m 12 ls [.ref q9]) rfl ?_
      refine lv_astore_n (lv' := [(3, .ref q9), (0, .ref (ad 0)), (1, .int p1), (2, .ref o)]) hx hb dL_wash_12 rfl hl (by decide) rfl (fun ls hl => ?_)
      refine lv_iconst (v := 1) hx hb dL_wash_13 (by decide) ?_
      subst h0
      exact vx_ret (W.iret (v := 1) hx hb hr (fun t ht hW => ⟨⟨1, f, rfl, ⟨rfl, fun z => absurd z (by decide)⟩, by show va_P (dC, dI) vwCl _ t.heap; rw [ht]; exact hP⟩, hS.F ht⟩) hS.2.2 dL_wash_14)
    | k + 1, hn, h0 =>
      simp at hn

set_option maxHeartbeats 4000000 in
set_option maxRecDepth 100000 in
theorem wL_harden (l : Launch) (hl0 : l.stackTraces = false) (dC : Nat → ClassId) (dI : Nat → Nat → Nat) (ad : Nat → Nat) (cy : Nat → ClassId) (cL : ClassId) (hJ : J33 ad) (sa : Nat → Nat) (o : Nat) (ho : ∀ k, k < 33 → ad k ≠ o) (sz : Nat) (I : Nat → Nat → Int32) (D : Nat → Nat → UInt64) (f : Nat → UInt64) (p1 p2 : Int32) (r0 : Int32) (w : UInt64) (I9 : Nat → Nat → Int32) (D9 : Nat → Nat → UInt64) (hf : (r0 = 0 ∧ f_X4_harden I D p1 p2 = some (Except.ok (w, I9, D9))) ∨ ∃ (n : Nat) (e9 : String), ([IOB, IAE, ISE] : List String)[n]? = some e9 ∧ r0 = nI (n + 1) ∧ f_X4_harden I D p1 p2 = some (.error e9) ∧ I9 = I ∧ D9 = D) : vx_Met l yL_harden wsL_harden ({ frames := 20, cells := 1, slots := 6, locals := 400 }) (va_Pc [.ref (ad 0), .int p1, .int p2, .ref o] (fun U => U.heap.size = sz ∧ hO dC dI ad cy cL I D o (.inl (cy 6, 1, .inr (.inr (.inr (.inl f))))) U ∧ xS sa (AO o ad sz) U ∧ xT U)) (va_Qi (fun r (g : Nat → UInt64) => r = r0 ∧ (r0 = 0 → g 0 = w)) (fun g t => va_P (dC, dI) vwCl ((o, .inl (cy 6, 1, .inr (.inr (.inr (.inl g))))) :: iwH ad cy I9 D9) t.heap) (AO o ad sz)) (vx_X (fun _ : Unit => False) (fun _ _ _ => True) (AO o ad sz)) 1 6 (AO o ad sz) := by
  refine vx_ofWH (cc := cL_harden) (maxL := 5) (ret := (some .int)) (by decide) rfl ?_
  intro p e s m args below meth c s₁ B hml hv
  obtain ⟨rfl, hsz, ⟨hP, hK, hN⟩, hZ, hT⟩ := hv
  have hx := B.exec
  have hb := B.bytes
  have hr := B.returns
  have hts := atoms_spec (ws := wsL_harden) B.pre
  have hown : s.vm.findClass RL = some m.cls := findClass_of_methodNamed B.named
  have hlocks := B.notSynchronized
  have htab := vx_table (x := yL_harden) B (hts _ List.mem_cons_self)
  subst hsz
  generalize hAe : AO o ad s.heap.size = A at hZ ⊢
  have hA : ∀ q : Nat, s.heap.size ≤ q → A q := fun q h => by rw [← hAe]; exact Or.inr (Or.inr h)
  have hA33 : ∀ k, k < 33 → A (ad k) := fun k h => by rw [← hAe]; exact Or.inr (Or.inl ⟨k, h, rfl⟩)
  have hAo : A o := by rw [← hAe]; exact Or.inl rfl
  obtain ⟨H, hH⟩ : ∃ H : Heap, H = s.heap := ⟨_, rfl⟩
  have hS : va_S A s.heap H [] := by rw [hH]; exact va_S.rf
  have hAW : ∀ q, AW ad H.size q → A q := fun q h => h.elim (fun ⟨k, hk, e1⟩ => e1 ▸ hA33 k hk) (fun h => hA q (Nat.le_trans hS.1 h))
  rw [← hH]
  rw [← hH] at hP
  have hl := lv_entry ([.ref (ad 0), .int p1, .int p2, .ref o]) (n := 5) (Nat.le_of_ble_eq_true rfl)
  rw [lg_entry_eq]
  generalize (lg_sl ([.ref (ad 0), .int p1, .int p2, .ref o]) ++ List.replicate (5 - (lg_sl ([.ref (ad 0), .int p1, .int p2, .ref o])).length) Slot.unset).toArray = ls at hl ⊢
  have hl : lv_has ls 5 [(0, .ref (ad 0)), (1, .int p1), (2, .int p2), (3, .ref o)] := hl
  have hPh := va_Pt hP
  have hKh : va_K (dC, dI) vwCl (tysA cy) s := hK.sub [0, 1, 2, 3, 4, 5, 6, 7] rfl
  refine lv_aload_n hx hb dL_harden_0 rfl (lv_at hl 3 rfl) ?_
  refine lv_iconst (v := 0) hx hb dL_harden_1 (by decide) ?_
  refine lv_aload_n hx hb dL_harden_2 rfl (lv_at hl 0 rfl) ?_
  refine lv_iload_n hx hb dL_harden_3 rfl (lv_at hl 1 rfl) ?_
  refine lv_iload_n hx hb dL_harden_4 rfl (lv_at hl 2 rfl) ?_
  rcases hf with ⟨h0, hf⟩ | ⟨n, e9, hn, h0, hf, e1, e2⟩
  · refine va_calld (va_runV (As := [.int p1, .int p2]) (rest := [.int 0, .ref o]) ⟨hx, hb, hml, hown, hts⟩ (mt_X4_harden l dC dI ad cy hJ H.size I D p1 p2 w I9 D9 hf) (cwV 2 hts gL_harden_X4_harden rfl rfl rfl (by decide +kernel) ⟨Nat.le_of_ble_eq_true rfl, Nat.le_of_ble_eq_true rfl⟩) ⟨(hW.pre [.ref (ad 0), .int p1, .int p2] hPh hKh hN).1, hW.recv (C := RX4) (T := TX4) (N := 14) hPh hKh heH_0 rfl, (hW.pre [.ref (ad 0), .int p1, .int p2] hPh hKh hN).2⟩ rfl rfl hl.1 rfl (lv_room (Nat.le_of_ble_eq_true rfl)) dL_harden_5 ⟨Nat.le_of_ble_eq_true rfl, Nat.le_of_ble_eq_true rfl⟩) hS (fun q _ h => hAW q h) hAW (fun r9 u t H1 locs ht hvm hw hB hz1 hk1 hS => ?_)
    subst hw
    have hP := va_Ocall hP ho hk1 (by rw [← ht]; exact hB.1)
    clear hB hz1 hk1 hvm ht
    generalize H1 = H at hP hS ⊢
    refine va_dast hx hb hK hP (hOD hJ hA33 hAo ho I9 D9) hS 0 6 rfl rfl vin0 dL_harden_8 (fun H locs hP _ hS => ?_)
    have hP : va_P (dC, dI) vwCl ((o, .inl (cy 6, 1, .inr (.inr (.inr (.inl (vf_upd f (0 : Int32).toNatClampNeg w)))))) :: iwH ad cy I9 D9) H := hP
    refine lv_goto (tgt := 24) hx hb dL_harden_9 (by decide) ?_
    refine lv_iconst (v := 0) hx hb dL_harden_24 (by decide) ?_
    refine W.widen (k := 1) (n := 6) (by omega) (by omega) ?_
    exact vx_ret (W.iret (v := 0) hx hb hr (fun t ht hW => ⟨⟨0, (vf_upd f (0 : Int32).toNatClampNeg w), rfl, ⟨h0.symm, fun _ => rfl⟩, by show va_P (dC, dI) vwCl _ t.heap; rw [ht]; exact hP⟩, hS.F ht⟩) hS.2.2 dL_harden_25)
  · have e1 := e1.symm
    have e2 := e2.symm
    subst e1
    subst e2
    refine vx_calld (vx_runV (As := [.int p1, .int p2]) (rest := [.int 0, .ref o]) ⟨hx, hb, hml, hown, hts⟩ (mx_X4_harden l hl0 dC dI ad cy hJ sa H.size I D p1 p2 e9 hf) (cwV 2 hts gL_harden_X4_harden rfl rfl rfl (by decide +kernel) ⟨Nat.le_of_ble_eq_true rfl, Nat.le_of_ble_eq_true rfl⟩) ⟨(hW.preX [.ref (ad 0), .int p1, .int p2] hPh hKh hN (xS_kept (B := AW ad H.size) hZ hS hAW)).1, hW.recv (C := RX4) (T := TX4) (N := 14) hPh hKh heH_0 rfl, (hW.preX [.ref (ad 0), .int p1, .int p2] hPh hKh hN (xS_kept (B := AW ad H.size) hZ hS hAW)).2⟩ rfl rfl hl.1 rfl (lv_room (Nat.le_of_ble_eq_true rfl)) dL_harden_5 ⟨Nat.le_of_ble_eq_true rfl, Nat.le_of_ble_eq_true rfl⟩) hS (fun q _ h => hAW q h) hAW (fun q _ h => hAW q h) (fun E9 ce q9 u t H1 locs1 ht9 hvm hpu hBX hz1 hk1 hS h1 h2 h3 => ?_) (fun r9 u t H1 locs ht9 hvm hw hB hz1 hk1 hS => hw.elim)
    obtain ⟨hE, hPx, -⟩ := hBX
    subst hE
    have hP := va_Ocall hP ho hk1 (by rw [← ht9]; exact hPx)
    clear hz1 hk1 hvm ht9 hPx hpu hf hPh
    generalize H1 = H at hP hS h1 ⊢
    match n, hn, h0 with
    | 0, hn, h0 =>
      have hn : (some IOB : Option String) = some e9 := hn
      obtain rfl := Option.some.inj hn
      refine vx_catch hown [] ⟨0, 9, 12, 21⟩ [⟨0, 9, 16, 13⟩, ⟨0, 9, 20, 15⟩] (htab.trans rfl) (fun z hz => absurd hz List.not_mem_nil) rfl (by decide) (hts (.classLink RL 21 "java/lang/IndexOutOfBoundsException") (List.mem_cons_of_mem _ (List.mem_append_left _ (List.mem_append_left _ (List.mem_append_left _ (List.mem_append_left _ (List.mem_append_left _ (List.mem_of_getElem? (i := 0) rfl)))))))) (va_Nw.use (w := .castable IOB IOB) rfl hT.1) h1 h2 h3 ?_
      refine W.eq (g2 := F0 m 12 ls [.ref q9]) rfl ?_
      refine lv_astore (lv' := [(4, .ref q9), (0, .ref (ad 0)), (1, .int p1), (2, .int p2), (3, .ref o)]) hx hb dL_harden_12 hl (by decide) rfl (fun ls hl => ?_)
      refine lv_iconst (v := 1) hx hb dL_harden_14 (by decide) ?_
      subst h0
      exact vx_ret (W.iret (v := 1) hx hb hr (fun t ht hW => ⟨⟨1, f, rfl, ⟨rfl, fun z => absurd z (by decide)⟩, by show va_P (dC, dI) vwCl _ t.heap; rw [ht]; exact hP⟩, hS.F ht⟩) hS.2.2 dL_harden_15)
    | 1, hn, h0 =>
      have hn : (some IAE : Option String) = some e9 := hn
      obtain rfl := Option.some.inj hn
      refine vx_catch hown [⟨0, 9, 12, 21⟩] ⟨0, 9, 16, 13⟩ [⟨0, 9, 20, 15⟩] (htab.trans rfl) (fun z hz => by rw [List.mem_singleton.mp hz]; exact Or.inr ⟨by decide, IOB, hts (.classLink RL 21 "java/lang/IndexOutOfBoundsException") (List.mem_cons_of_mem _ (List.mem_append_left _ (List.mem_append_left _ (List.mem_append_left _ (List.mem_append_left _ (List.mem_append_left _ (List.mem_of_getElem? (i := 0) rfl))))))), hT.2.2.2.1⟩) rfl (by decide) (hts (.classLink RL 13 "java/lang/IllegalArgumentException") (List.mem_cons_of_mem _ (List.mem_append_left _ (List.mem_append_left _ (List.mem_append_left _ (List.mem_append_left _ (List.mem_append_left _ (List.mem_of_getElem? (i := 1) rfl)))))))) (va_Nw.use (w := .castable IAE IAE) rfl hT.2.1) h1 h2 h3 ?_
      refine W.eq (g2 := F0 m 16 ls [.ref q9]) rfl ?_
      refine lv_astore (lv' := [(4, .ref q9), (0, .ref (ad 0)), (1, .int p1), (2, .int p2), (3, .ref o)]) hx hb dL_harden_16 hl (by decide) rfl (fun ls hl => ?_)
      refine lv_iconst (v := 2) hx hb dL_harden_18 (by decide) ?_
      subst h0
      exact vx_ret (W.iret (v := 2) hx hb hr (fun t ht hW => ⟨⟨2, f, rfl, ⟨rfl, fun z => absurd z (by decide)⟩, by show va_P (dC, dI) vwCl _ t.heap; rw [ht]; exact hP⟩, hS.F ht⟩) hS.2.2 dL_harden_19)
    | 2, hn, h0 =>
      have hn : (some ISE : Option String) = some e9 := hn
      obtain rfl := Option.some.inj hn
      refine vx_catch hown [⟨0, 9, 12, 21⟩, ⟨0, 9, 16, 13⟩] ⟨0, 9, 20, 15⟩ [] (htab.trans rfl) (fun z hz => (List.mem_cons.mp hz).elim (fun hz => by rw [hz]; exact Or.inr ⟨by decide, IOB, hts (.classLink RL 21 "java/lang/IndexOutOfBoundsException") (List.mem_cons_of_mem _ (List.mem_append_left _ (List.mem_append_left _ (List.mem_append_left _ (List.mem_append_left _ (List.mem_append_left _ (List.mem_of_getElem? (i := 0) rfl))))))), hT.2.2.2.2.1⟩) (fun hz => by rw [List.mem_singleton.mp hz]; exact Or.inr ⟨by decide, IAE, hts (.classLink RL 13 "java/lang/IllegalArgumentException") (List.mem_cons_of_mem _ (List.mem_append_left _ (List.mem_append_left _ (List.mem_append_left _ (List.mem_append_left _ (List.mem_append_left _ (List.mem_of_getElem? (i := 1) rfl))))))), hT.2.2.2.2.2⟩)) rfl (by decide) (hts (.classLink RL 15 "java/lang/IllegalStateException") (List.mem_cons_of_mem _ (List.mem_append_left _ (List.mem_append_left _ (List.mem_append_left _ (List.mem_append_left _ (List.mem_append_left _ (List.mem_of_getElem? (i := 2) rfl)))))))) (va_Nw.use (w := .castable ISE ISE) rfl hT.2.2.1) h1 h2 h3 ?_
      refine W.eq (g2 := F0 m 20 ls [.ref q9]) rfl ?_
      refine lv_astore (lv' := [(4, .ref q9), (0, .ref (ad 0)), (1, .int p1), (2, .int p2), (3, .ref o)]) hx hb dL_harden_20 hl (by decide) rfl (fun ls hl => ?_)
      refine lv_iconst (v := 3) hx hb dL_harden_22 (by decide) ?_
      subst h0
      exact vx_ret (W.iret (v := 3) hx hb hr (fun t ht hW => ⟨⟨3, f, rfl, ⟨rfl, fun z => absurd z (by decide)⟩, by show va_P (dC, dI) vwCl _ t.heap; rw [ht]; exact hP⟩, hS.F ht⟩) hS.2.2 dL_harden_23)
    | k + 3, hn, h0 =>
      simp at hn

set_option maxHeartbeats 4000000 in
set_option maxRecDepth 100000 in
theorem wL_store (l : Launch) (hl0 : l.stackTraces = false) (dC : Nat → ClassId) (dI : Nat → Nat → Nat) (ad : Nat → Nat) (cy : Nat → ClassId) (cL : ClassId) (hJ : J33 ad) (sa : Nat → Nat) (o : Nat) (ho : ∀ k, k < 33 → ad k ≠ o) (sz : Nat) (I : Nat → Nat → Int32) (D : Nat → Nat → UInt64) (f : Nat → Int64) (p1 : Int32) (r0 : Int32) (w : Int32) (I9 : Nat → Nat → Int32) (D9 : Nat → Nat → UInt64) (hf : (r0 = 0 ∧ f_X4_store I D p1 = some (Except.ok (w, I9, D9))) ∨ ∃ (n : Nat) (e9 : String), ([IAE, ISE] : List String)[n]? = some e9 ∧ r0 = nI (n + 1) ∧ f_X4_store I D p1 = some (.error e9) ∧ I9 = I ∧ D9 = D) : vx_Met l yL_store wsL_store ({ frames := 20, cells := 1, slots := 6, locals := 400 }) (va_Pc [.ref (ad 0), .int p1, .ref o] (fun U => U.heap.size = sz ∧ hO dC dI ad cy cL I D o (.inl (cL, 1, .inr (.inl f))) U ∧ xS sa (AO o ad sz) U ∧ xT U)) (va_Qi (fun r (g : Nat → Int64) => r = r0 ∧ (r0 = 0 → g 0 = w.toInt64)) (fun g t => va_P (dC, dI) vwCl ((o, .inl (cL, 1, .inr (.inl g))) :: iwH ad cy I9 D9) t.heap) (AO o ad sz)) (vx_X (fun _ : Unit => False) (fun _ _ _ => True) (AO o ad sz)) 1 6 (AO o ad sz) := by
  refine vx_ofWH (cc := cL_store) (maxL := 4) (ret := (some .int)) (by decide) rfl ?_
  intro p e s m args below meth c s₁ B hml hv
  obtain ⟨rfl, hsz, ⟨hP, hK, hN⟩, hZ, hT⟩ := hv
  have hx := B.exec
  have hb := B.bytes
  have hr := B.returns
  have hts := atoms_spec (ws := wsL_store) B.pre
  have hown : s.vm.findClass RL = some m.cls := findClass_of_methodNamed B.named
  have hlocks := B.notSynchronized
  have htab := vx_table (x := yL_store) B (hts _ List.mem_cons_self)
  subst hsz
  generalize hAe : AO o ad s.heap.size = A at hZ ⊢
  have hA : ∀ q : Nat, s.heap.size ≤ q → A q := fun q h => by rw [← hAe]; exact Or.inr (Or.inr h)
  have hA33 : ∀ k, k < 33 → A (ad k) := fun k h => by rw [← hAe]; exact Or.inr (Or.inl ⟨k, h, rfl⟩)
  have hAo : A o := by rw [← hAe]; exact Or.inl rfl
  obtain ⟨H, hH⟩ : ∃ H : Heap, H = s.heap := ⟨_, rfl⟩
  have hS : va_S A s.heap H [] := by rw [hH]; exact va_S.rf
  have hAW : ∀ q, AW ad H.size q → A q := fun q h => h.elim (fun ⟨k, hk, e1⟩ => e1 ▸ hA33 k hk) (fun h => hA q (Nat.le_trans hS.1 h))
  rw [← hH]
  rw [← hH] at hP
  have hl := lv_entry ([.ref (ad 0), .int p1, .ref o]) (n := 4) (Nat.le_of_ble_eq_true rfl)
  rw [lg_entry_eq]
  generalize (lg_sl ([.ref (ad 0), .int p1, .ref o]) ++ List.replicate (4 - (lg_sl ([.ref (ad 0), .int p1, .ref o])).length) Slot.unset).toArray = ls at hl ⊢
  have hl : lv_has ls 4 [(0, .ref (ad 0)), (1, .int p1), (2, .ref o)] := hl
  have hPh := va_Pt hP
  have hKh : va_K (dC, dI) vwCl (tysA cy) s := hK.sub [0, 1, 2, 3, 4, 5, 6, 7] rfl
  refine lv_aload_n hx hb dL_store_0 rfl (lv_at hl 2 rfl) ?_
  refine lv_iconst (v := 0) hx hb dL_store_1 (by decide) ?_
  refine lv_aload_n hx hb dL_store_2 rfl (lv_at hl 0 rfl) ?_
  refine lv_iload_n hx hb dL_store_3 rfl (lv_at hl 1 rfl) ?_
  rcases hf with ⟨h0, hf⟩ | ⟨n, e9, hn, h0, hf, e1, e2⟩
  · refine va_calli (va_runV (As := [.int p1]) (rest := [.int 0, .ref o]) ⟨hx, hb, hml, hown, hts⟩ (mt_X4_store l dC dI ad cy hJ H.size I D p1 w I9 D9 hf) (cwV 1 hts gL_store_X4_store rfl rfl rfl (by decide +kernel) ⟨Nat.le_of_ble_eq_true rfl, Nat.le_of_ble_eq_true rfl⟩) ⟨(hW.pre [.ref (ad 0), .int p1] hPh hKh hN).1, hW.recv (C := RX4) (T := TX4) (N := 14) hPh hKh heH_0 rfl, (hW.pre [.ref (ad 0), .int p1] hPh hKh hN).2⟩ rfl rfl hl.1 rfl (lv_room (Nat.le_of_ble_eq_true rfl)) dL_store_4 ⟨Nat.le_of_ble_eq_true rfl, Nat.le_of_ble_eq_true rfl⟩) hS (fun q _ h => hAW q h) hAW (fun r9 u t H1 locs ht hvm hw hB hz1 hk1 hS => ?_)
    subst hw
    have hP := va_Ocall hP ho hk1 (by rw [← ht]; exact hB.1)
    clear hB hz1 hk1 hvm ht
    generalize H1 = H at hP hS ⊢
    refine lv_i2l hx hb dL_store_7 rfl ?_
    refine va_last hx hb hK hP (hOD hJ hA33 hAo ho I9 D9) hS 0 8 rfl rfl vin0 dL_store_8 (fun H locs hP _ hS => ?_)
    have hP : va_P (dC, dI) vwCl ((o, .inl (cL, 1, .inr (.inl (vp_updL f (0 : Int32).toNatClampNeg (w.toInt64))))) :: iwH ad cy I9 D9) H := hP
    refine lv_goto (tgt := 18) hx hb dL_store_9 (by decide) ?_
    refine lv_iconst (v := 0) hx hb dL_store_18 (by decide) ?_
    refine W.widen (k := 1) (n := 6) (by omega) (by omega) ?_
    exact vx_ret (W.iret (v := 0) hx hb hr (fun t ht hW => ⟨⟨0, (vp_updL f (0 : Int32).toNatClampNeg (w.toInt64)), rfl, ⟨h0.symm, fun _ => rfl⟩, by show va_P (dC, dI) vwCl _ t.heap; rw [ht]; exact hP⟩, hS.F ht⟩) hS.2.2 dL_store_19)
  · have e1 := e1.symm
    have e2 := e2.symm
    subst e1
    subst e2
    refine vx_calli (vx_runV (As := [.int p1]) (rest := [.int 0, .ref o]) ⟨hx, hb, hml, hown, hts⟩ (mx_X4_store l hl0 dC dI ad cy hJ sa H.size I D p1 e9 hf) (cwV 1 hts gL_store_X4_store rfl rfl rfl (by decide +kernel) ⟨Nat.le_of_ble_eq_true rfl, Nat.le_of_ble_eq_true rfl⟩) ⟨(hW.preX [.ref (ad 0), .int p1] hPh hKh hN (xS_kept (B := AW ad H.size) hZ hS hAW)).1, hW.recv (C := RX4) (T := TX4) (N := 14) hPh hKh heH_0 rfl, (hW.preX [.ref (ad 0), .int p1] hPh hKh hN (xS_kept (B := AW ad H.size) hZ hS hAW)).2⟩ rfl rfl hl.1 rfl (lv_room (Nat.le_of_ble_eq_true rfl)) dL_store_4 ⟨Nat.le_of_ble_eq_true rfl, Nat.le_of_ble_eq_true rfl⟩) hS (fun q _ h => hAW q h) hAW (fun q _ h => hAW q h) (fun E9 ce q9 u t H1 locs1 ht9 hvm hpu hBX hz1 hk1 hS h1 h2 h3 => ?_) (fun r9 u t H1 locs ht9 hvm hw hB hz1 hk1 hS => hw.elim)
    obtain ⟨hE, hPx, -⟩ := hBX
    subst hE
    have hP := va_Ocall hP ho hk1 (by rw [← ht9]; exact hPx)
    clear hz1 hk1 hvm ht9 hPx hpu hf hPh
    generalize H1 = H at hP hS h1 ⊢
    match n, hn, h0 with
    | 0, hn, h0 =>
      have hn : (some IAE : Option String) = some e9 := hn
      obtain rfl := Option.some.inj hn
      refine vx_catch hown [] ⟨0, 9, 12, 13⟩ [⟨0, 9, 15, 15⟩] (htab.trans rfl) (fun z hz => absurd hz List.not_mem_nil) rfl (by decide) (hts (.classLink RL 13 "java/lang/IllegalArgumentException") (List.mem_cons_of_mem _ (List.mem_append_left _ (List.mem_append_left _ (List.mem_append_left _ (List.mem_append_left _ (List.mem_of_getElem? (i := 0) rfl))))))) (va_Nw.use (w := .castable IAE IAE) rfl hT.2.1) h1 h2 h3 ?_
      refine W.eq (g2 := F0 m 12 ls [.ref q9]) rfl ?_
      refine lv_astore_n (lv' := [(3, .ref q9), (0, .ref (ad 0)), (1, .int p1), (2, .ref o)]) hx hb dL_store_12 rfl hl (by decide) rfl (fun ls hl => ?_)
      refine lv_iconst (v := 1) hx hb dL_store_13 (by decide) ?_
      subst h0
      exact vx_ret (W.iret (v := 1) hx hb hr (fun t ht hW => ⟨⟨1, f, rfl, ⟨rfl, fun z => absurd z (by decide)⟩, by show va_P (dC, dI) vwCl _ t.heap; rw [ht]; exact hP⟩, hS.F ht⟩) hS.2.2 dL_store_14)
    | 1, hn, h0 =>
      have hn : (some ISE : Option String) = some e9 := hn
      obtain rfl := Option.some.inj hn
      refine vx_catch hown [⟨0, 9, 12, 13⟩] ⟨0, 9, 15, 15⟩ [] (htab.trans rfl) (fun z hz => by rw [List.mem_singleton.mp hz]; exact Or.inr ⟨by decide, IAE, hts (.classLink RL 13 "java/lang/IllegalArgumentException") (List.mem_cons_of_mem _ (List.mem_append_left _ (List.mem_append_left _ (List.mem_append_left _ (List.mem_append_left _ (List.mem_of_getElem? (i := 0) rfl)))))), hT.2.2.2.2.2⟩) rfl (by decide) (hts (.classLink RL 15 "java/lang/IllegalStateException") (List.mem_cons_of_mem _ (List.mem_append_left _ (List.mem_append_left _ (List.mem_append_left _ (List.mem_append_left _ (List.mem_of_getElem? (i := 1) rfl))))))) (va_Nw.use (w := .castable ISE ISE) rfl hT.2.2.1) h1 h2 h3 ?_
      refine W.eq (g2 := F0 m 15 ls [.ref q9]) rfl ?_
      refine lv_astore_n (lv' := [(3, .ref q9), (0, .ref (ad 0)), (1, .int p1), (2, .ref o)]) hx hb dL_store_15 rfl hl (by decide) rfl (fun ls hl => ?_)
      refine lv_iconst (v := 2) hx hb dL_store_16 (by decide) ?_
      subst h0
      exact vx_ret (W.iret (v := 2) hx hb hr (fun t ht hW => ⟨⟨2, f, rfl, ⟨rfl, fun z => absurd z (by decide)⟩, by show va_P (dC, dI) vwCl _ t.heap; rw [ht]; exact hP⟩, hS.F ht⟩) hS.2.2 dL_store_17)
    | k + 2, hn, h0 =>
      simp at hn

set_option maxHeartbeats 4000000 in
set_option maxRecDepth 100000 in
theorem wL_set (l : Launch) (hl0 : l.stackTraces = false) (dC : Nat → ClassId) (dI : Nat → Nat → Nat) (ad : Nat → Nat) (cy : Nat → ClassId) (cL : ClassId) (hJ : J33 ad) (sa : Nat → Nat) (o : Nat) (ho : ∀ k, k < 33 → ad k ≠ o) (sz : Nat) (I : Nat → Nat → Int32) (D : Nat → Nat → UInt64) (f : Nat → Int64) (p1 p2 : Int32) (r0 : Int32) (w : Int32) (I9 : Nat → Nat → Int32) (D9 : Nat → Nat → UInt64) (hf : (r0 = 0 ∧ f_X4_set I D p1 p2 = some (Except.ok (w, I9, D9))) ∨ ∃ (n : Nat) (e9 : String), ([IOB, IAE] : List String)[n]? = some e9 ∧ r0 = nI (n + 1) ∧ f_X4_set I D p1 p2 = some (.error e9) ∧ I9 = I ∧ D9 = D) : vx_Met l yL_set wsL_set ({ frames := 20, cells := 1, slots := 6, locals := 400 }) (va_Pc [.ref (ad 0), .int p1, .int p2, .ref o] (fun U => U.heap.size = sz ∧ hO dC dI ad cy cL I D o (.inl (cL, 1, .inr (.inl f))) U ∧ xS sa (AO o ad sz) U ∧ xT U)) (va_Qi (fun r (g : Nat → Int64) => r = r0 ∧ (r0 = 0 → g 0 = w.toInt64)) (fun g t => va_P (dC, dI) vwCl ((o, .inl (cL, 1, .inr (.inl g))) :: iwH ad cy I9 D9) t.heap) (AO o ad sz)) (vx_X (fun _ : Unit => False) (fun _ _ _ => True) (AO o ad sz)) 1 6 (AO o ad sz) := by
  refine vx_ofWH (cc := cL_set) (maxL := 5) (ret := (some .int)) (by decide) rfl ?_
  intro p e s m args below meth c s₁ B hml hv
  obtain ⟨rfl, hsz, ⟨hP, hK, hN⟩, hZ, hT⟩ := hv
  have hx := B.exec
  have hb := B.bytes
  have hr := B.returns
  have hts := atoms_spec (ws := wsL_set) B.pre
  have hown : s.vm.findClass RL = some m.cls := findClass_of_methodNamed B.named
  have hlocks := B.notSynchronized
  have htab := vx_table (x := yL_set) B (hts _ List.mem_cons_self)
  subst hsz
  generalize hAe : AO o ad s.heap.size = A at hZ ⊢
  have hA : ∀ q : Nat, s.heap.size ≤ q → A q := fun q h => by rw [← hAe]; exact Or.inr (Or.inr h)
  have hA33 : ∀ k, k < 33 → A (ad k) := fun k h => by rw [← hAe]; exact Or.inr (Or.inl ⟨k, h, rfl⟩)
  have hAo : A o := by rw [← hAe]; exact Or.inl rfl
  obtain ⟨H, hH⟩ : ∃ H : Heap, H = s.heap := ⟨_, rfl⟩
  have hS : va_S A s.heap H [] := by rw [hH]; exact va_S.rf
  have hAW : ∀ q, AW ad H.size q → A q := fun q h => h.elim (fun ⟨k, hk, e1⟩ => e1 ▸ hA33 k hk) (fun h => hA q (Nat.le_trans hS.1 h))
  rw [← hH]
  rw [← hH] at hP
  have hl := lv_entry ([.ref (ad 0), .int p1, .int p2, .ref o]) (n := 5) (Nat.le_of_ble_eq_true rfl)
  rw [lg_entry_eq]
  generalize (lg_sl ([.ref (ad 0), .int p1, .int p2, .ref o]) ++ List.replicate (5 - (lg_sl ([.ref (ad 0), .int p1, .int p2, .ref o])).length) Slot.unset).toArray = ls at hl ⊢
  have hl : lv_has ls 5 [(0, .ref (ad 0)), (1, .int p1), (2, .int p2), (3, .ref o)] := hl
  have hPh := va_Pt hP
  have hKh : va_K (dC, dI) vwCl (tysA cy) s := hK.sub [0, 1, 2, 3, 4, 5, 6, 7] rfl
  refine lv_aload_n hx hb dL_set_0 rfl (lv_at hl 3 rfl) ?_
  refine lv_iconst (v := 0) hx hb dL_set_1 (by decide) ?_
  refine lv_aload_n hx hb dL_set_2 rfl (lv_at hl 0 rfl) ?_
  refine lv_iload_n hx hb dL_set_3 rfl (lv_at hl 1 rfl) ?_
  refine lv_iload_n hx hb dL_set_4 rfl (lv_at hl 2 rfl) ?_
  rcases hf with ⟨h0, hf⟩ | ⟨n, e9, hn, h0, hf, e1, e2⟩
  · refine va_calli (va_runV (As := [.int p1, .int p2]) (rest := [.int 0, .ref o]) ⟨hx, hb, hml, hown, hts⟩ (mt_X4_set l dC dI ad cy hJ H.size I D p1 p2 w I9 D9 hf) (cwV 2 hts gL_set_X4_set rfl rfl rfl (by decide +kernel) ⟨Nat.le_of_ble_eq_true rfl, Nat.le_of_ble_eq_true rfl⟩) ⟨(hW.pre [.ref (ad 0), .int p1, .int p2] hPh hKh hN).1, hW.recv (C := RX4) (T := TX4) (N := 14) hPh hKh heH_0 rfl, (hW.pre [.ref (ad 0), .int p1, .int p2] hPh hKh hN).2⟩ rfl rfl hl.1 rfl (lv_room (Nat.le_of_ble_eq_true rfl)) dL_set_5 ⟨Nat.le_of_ble_eq_true rfl, Nat.le_of_ble_eq_true rfl⟩) hS (fun q _ h => hAW q h) hAW (fun r9 u t H1 locs ht hvm hw hB hz1 hk1 hS => ?_)
    subst hw
    have hP := va_Ocall hP ho hk1 (by rw [← ht]; exact hB.1)
    clear hB hz1 hk1 hvm ht
    generalize H1 = H at hP hS ⊢
    refine lv_i2l hx hb dL_set_8 rfl ?_
    refine va_last hx hb hK hP (hOD hJ hA33 hAo ho I9 D9) hS 0 8 rfl rfl vin0 dL_set_9 (fun H locs hP _ hS => ?_)
    have hP : va_P (dC, dI) vwCl ((o, .inl (cL, 1, .inr (.inl (vp_updL f (0 : Int32).toNatClampNeg (w.toInt64))))) :: iwH ad cy I9 D9) H := hP
    refine lv_goto (tgt := 21) hx hb dL_set_10 (by decide) ?_
    refine lv_iconst (v := 0) hx hb dL_set_21 (by decide) ?_
    refine W.widen (k := 1) (n := 6) (by omega) (by omega) ?_
    exact vx_ret (W.iret (v := 0) hx hb hr (fun t ht hW => ⟨⟨0, (vp_updL f (0 : Int32).toNatClampNeg (w.toInt64)), rfl, ⟨h0.symm, fun _ => rfl⟩, by show va_P (dC, dI) vwCl _ t.heap; rw [ht]; exact hP⟩, hS.F ht⟩) hS.2.2 dL_set_22)
  · have e1 := e1.symm
    have e2 := e2.symm
    subst e1
    subst e2
    refine vx_calli (vx_runV (As := [.int p1, .int p2]) (rest := [.int 0, .ref o]) ⟨hx, hb, hml, hown, hts⟩ (mx_X4_set l hl0 dC dI ad cy hJ sa H.size I D p1 p2 e9 hf) (cwV 2 hts gL_set_X4_set rfl rfl rfl (by decide +kernel) ⟨Nat.le_of_ble_eq_true rfl, Nat.le_of_ble_eq_true rfl⟩) ⟨(hW.preX [.ref (ad 0), .int p1, .int p2] hPh hKh hN (xS_kept (B := AW ad H.size) hZ hS hAW)).1, hW.recv (C := RX4) (T := TX4) (N := 14) hPh hKh heH_0 rfl, (hW.preX [.ref (ad 0), .int p1, .int p2] hPh hKh hN (xS_kept (B := AW ad H.size) hZ hS hAW)).2⟩ rfl rfl hl.1 rfl (lv_room (Nat.le_of_ble_eq_true rfl)) dL_set_5 ⟨Nat.le_of_ble_eq_true rfl, Nat.le_of_ble_eq_true rfl⟩) hS (fun q _ h => hAW q h) hAW (fun q _ h => hAW q h) (fun E9 ce q9 u t H1 locs1 ht9 hvm hpu hBX hz1 hk1 hS h1 h2 h3 => ?_) (fun r9 u t H1 locs ht9 hvm hw hB hz1 hk1 hS => hw.elim)
    obtain ⟨hE, hPx, -⟩ := hBX
    subst hE
    have hP := va_Ocall hP ho hk1 (by rw [← ht9]; exact hPx)
    clear hz1 hk1 hvm ht9 hPx hpu hf hPh
    generalize H1 = H at hP hS h1 ⊢
    match n, hn, h0 with
    | 0, hn, h0 =>
      have hn : (some IOB : Option String) = some e9 := hn
      obtain rfl := Option.some.inj hn
      refine vx_catch hown [] ⟨0, 10, 13, 21⟩ [⟨0, 10, 17, 13⟩] (htab.trans rfl) (fun z hz => absurd hz List.not_mem_nil) rfl (by decide) (hts (.classLink RL 21 "java/lang/IndexOutOfBoundsException") (List.mem_cons_of_mem _ (List.mem_append_left _ (List.mem_append_left _ (List.mem_append_left _ (List.mem_append_left _ (List.mem_of_getElem? (i := 0) rfl))))))) (va_Nw.use (w := .castable IOB IOB) rfl hT.1) h1 h2 h3 ?_
      refine W.eq (g2 := F0 m 13 ls [.ref q9]) rfl ?_
      refine lv_astore (lv' := [(4, .ref q9), (0, .ref (ad 0)), (1, .int p1), (2, .int p2), (3, .ref o)]) hx hb dL_set_13 hl (by decide) rfl (fun ls hl => ?_)
      refine lv_iconst (v := 1) hx hb dL_set_15 (by decide) ?_
      subst h0
      exact vx_ret (W.iret (v := 1) hx hb hr (fun t ht hW => ⟨⟨1, f, rfl, ⟨rfl, fun z => absurd z (by decide)⟩, by show va_P (dC, dI) vwCl _ t.heap; rw [ht]; exact hP⟩, hS.F ht⟩) hS.2.2 dL_set_16)
    | 1, hn, h0 =>
      have hn : (some IAE : Option String) = some e9 := hn
      obtain rfl := Option.some.inj hn
      refine vx_catch hown [⟨0, 10, 13, 21⟩] ⟨0, 10, 17, 13⟩ [] (htab.trans rfl) (fun z hz => by rw [List.mem_singleton.mp hz]; exact Or.inr ⟨by decide, IOB, hts (.classLink RL 21 "java/lang/IndexOutOfBoundsException") (List.mem_cons_of_mem _ (List.mem_append_left _ (List.mem_append_left _ (List.mem_append_left _ (List.mem_append_left _ (List.mem_of_getElem? (i := 0) rfl)))))), hT.2.2.2.1⟩) rfl (by decide) (hts (.classLink RL 13 "java/lang/IllegalArgumentException") (List.mem_cons_of_mem _ (List.mem_append_left _ (List.mem_append_left _ (List.mem_append_left _ (List.mem_append_left _ (List.mem_of_getElem? (i := 1) rfl))))))) (va_Nw.use (w := .castable IAE IAE) rfl hT.2.1) h1 h2 h3 ?_
      refine W.eq (g2 := F0 m 17 ls [.ref q9]) rfl ?_
      refine lv_astore (lv' := [(4, .ref q9), (0, .ref (ad 0)), (1, .int p1), (2, .int p2), (3, .ref o)]) hx hb dL_set_17 hl (by decide) rfl (fun ls hl => ?_)
      refine lv_iconst (v := 2) hx hb dL_set_19 (by decide) ?_
      subst h0
      exact vx_ret (W.iret (v := 2) hx hb hr (fun t ht hW => ⟨⟨2, f, rfl, ⟨rfl, fun z => absurd z (by decide)⟩, by show va_P (dC, dI) vwCl _ t.heap; rw [ht]; exact hP⟩, hS.F ht⟩) hS.2.2 dL_set_20)
    | k + 2, hn, h0 =>
      simp at hn

set_option maxHeartbeats 4000000 in
set_option maxRecDepth 100000 in
theorem wL_lay (l : Launch) (hl0 : l.stackTraces = false) (dC : Nat → ClassId) (dI : Nat → Nat → Nat) (ad : Nat → Nat) (cy : Nat → ClassId) (cL : ClassId) (hJ : J33 ad) (sa : Nat → Nat) (o : Nat) (ho : ∀ k, k < 33 → ad k ≠ o) (sz : Nat) (I : Nat → Nat → Int32) (D : Nat → Nat → UInt64) (f : Nat → Int64) (p1 p2 : Int32) (r0 : Int32) (w : Int32) (I9 : Nat → Nat → Int32) (D9 : Nat → Nat → UInt64) (hf : (r0 = 0 ∧ f_X4_lay I D p1 p2 = some (Except.ok (w, I9, D9))) ∨ ∃ (n : Nat) (e9 : String), ([IOB, ISE] : List String)[n]? = some e9 ∧ r0 = nI (n + 1) ∧ f_X4_lay I D p1 p2 = some (.error e9) ∧ I9 = I ∧ D9 = D) : vx_Met l yL_lay wsL_lay ({ frames := 20, cells := 1, slots := 6, locals := 400 }) (va_Pc [.ref (ad 0), .int p1, .int p2, .ref o] (fun U => U.heap.size = sz ∧ hO dC dI ad cy cL I D o (.inl (cL, 1, .inr (.inl f))) U ∧ xS sa (AO o ad sz) U ∧ xT U)) (va_Qi (fun r (g : Nat → Int64) => r = r0 ∧ (r0 = 0 → g 0 = w.toInt64)) (fun g t => va_P (dC, dI) vwCl ((o, .inl (cL, 1, .inr (.inl g))) :: iwH ad cy I9 D9) t.heap) (AO o ad sz)) (vx_X (fun _ : Unit => False) (fun _ _ _ => True) (AO o ad sz)) 1 6 (AO o ad sz) := by
  refine vx_ofWH (cc := cL_lay) (maxL := 5) (ret := (some .int)) (by decide) rfl ?_
  intro p e s m args below meth c s₁ B hml hv
  obtain ⟨rfl, hsz, ⟨hP, hK, hN⟩, hZ, hT⟩ := hv
  have hx := B.exec
  have hb := B.bytes
  have hr := B.returns
  have hts := atoms_spec (ws := wsL_lay) B.pre
  have hown : s.vm.findClass RL = some m.cls := findClass_of_methodNamed B.named
  have hlocks := B.notSynchronized
  have htab := vx_table (x := yL_lay) B (hts _ List.mem_cons_self)
  subst hsz
  generalize hAe : AO o ad s.heap.size = A at hZ ⊢
  have hA : ∀ q : Nat, s.heap.size ≤ q → A q := fun q h => by rw [← hAe]; exact Or.inr (Or.inr h)
  have hA33 : ∀ k, k < 33 → A (ad k) := fun k h => by rw [← hAe]; exact Or.inr (Or.inl ⟨k, h, rfl⟩)
  have hAo : A o := by rw [← hAe]; exact Or.inl rfl
  obtain ⟨H, hH⟩ : ∃ H : Heap, H = s.heap := ⟨_, rfl⟩
  have hS : va_S A s.heap H [] := by rw [hH]; exact va_S.rf
  have hAW : ∀ q, AW ad H.size q → A q := fun q h => h.elim (fun ⟨k, hk, e1⟩ => e1 ▸ hA33 k hk) (fun h => hA q (Nat.le_trans hS.1 h))
  rw [← hH]
  rw [← hH] at hP
  have hl := lv_entry ([.ref (ad 0), .int p1, .int p2, .ref o]) (n := 5) (Nat.le_of_ble_eq_true rfl)
  rw [lg_entry_eq]
  generalize (lg_sl ([.ref (ad 0), .int p1, .int p2, .ref o]) ++ List.replicate (5 - (lg_sl ([.ref (ad 0), .int p1, .int p2, .ref o])).length) Slot.unset).toArray = ls at hl ⊢
  have hl : lv_has ls 5 [(0, .ref (ad 0)), (1, .int p1), (2, .int p2), (3, .ref o)] := hl
  have hPh := va_Pt hP
  have hKh : va_K (dC, dI) vwCl (tysA cy) s := hK.sub [0, 1, 2, 3, 4, 5, 6, 7] rfl
  refine lv_aload_n hx hb dL_lay_0 rfl (lv_at hl 3 rfl) ?_
  refine lv_iconst (v := 0) hx hb dL_lay_1 (by decide) ?_
  refine lv_aload_n hx hb dL_lay_2 rfl (lv_at hl 0 rfl) ?_
  refine lv_iload_n hx hb dL_lay_3 rfl (lv_at hl 1 rfl) ?_
  refine lv_iload_n hx hb dL_lay_4 rfl (lv_at hl 2 rfl) ?_
  rcases hf with ⟨h0, hf⟩ | ⟨n, e9, hn, h0, hf, e1, e2⟩
  · refine va_calli (va_runV (As := [.int p1, .int p2]) (rest := [.int 0, .ref o]) ⟨hx, hb, hml, hown, hts⟩ (mt_X4_lay l dC dI ad cy hJ H.size I D p1 p2 w I9 D9 hf) (cwV 2 hts gL_lay_X4_lay rfl rfl rfl (by decide +kernel) ⟨Nat.le_of_ble_eq_true rfl, Nat.le_of_ble_eq_true rfl⟩) ⟨(hW.pre [.ref (ad 0), .int p1, .int p2] hPh hKh hN).1, hW.recv (C := RX4) (T := TX4) (N := 14) hPh hKh heH_0 rfl, (hW.pre [.ref (ad 0), .int p1, .int p2] hPh hKh hN).2⟩ rfl rfl hl.1 rfl (lv_room (Nat.le_of_ble_eq_true rfl)) dL_lay_5 ⟨Nat.le_of_ble_eq_true rfl, Nat.le_of_ble_eq_true rfl⟩) hS (fun q _ h => hAW q h) hAW (fun r9 u t H1 locs ht hvm hw hB hz1 hk1 hS => ?_)
    subst hw
    have hP := va_Ocall hP ho hk1 (by rw [← ht]; exact hB.1)
    clear hB hz1 hk1 hvm ht
    generalize H1 = H at hP hS ⊢
    refine lv_i2l hx hb dL_lay_8 rfl ?_
    refine va_last hx hb hK hP (hOD hJ hA33 hAo ho I9 D9) hS 0 8 rfl rfl vin0 dL_lay_9 (fun H locs hP _ hS => ?_)
    have hP : va_P (dC, dI) vwCl ((o, .inl (cL, 1, .inr (.inl (vp_updL f (0 : Int32).toNatClampNeg (w.toInt64))))) :: iwH ad cy I9 D9) H := hP
    refine lv_goto (tgt := 21) hx hb dL_lay_10 (by decide) ?_
    refine lv_iconst (v := 0) hx hb dL_lay_21 (by decide) ?_
    refine W.widen (k := 1) (n := 6) (by omega) (by omega) ?_
    exact vx_ret (W.iret (v := 0) hx hb hr (fun t ht hW => ⟨⟨0, (vp_updL f (0 : Int32).toNatClampNeg (w.toInt64)), rfl, ⟨h0.symm, fun _ => rfl⟩, by show va_P (dC, dI) vwCl _ t.heap; rw [ht]; exact hP⟩, hS.F ht⟩) hS.2.2 dL_lay_22)
  · have e1 := e1.symm
    have e2 := e2.symm
    subst e1
    subst e2
    refine vx_calli (vx_runV (As := [.int p1, .int p2]) (rest := [.int 0, .ref o]) ⟨hx, hb, hml, hown, hts⟩ (mx_X4_lay l hl0 dC dI ad cy hJ sa H.size I D p1 p2 e9 hf) (cwV 2 hts gL_lay_X4_lay rfl rfl rfl (by decide +kernel) ⟨Nat.le_of_ble_eq_true rfl, Nat.le_of_ble_eq_true rfl⟩) ⟨(hW.preX [.ref (ad 0), .int p1, .int p2] hPh hKh hN (xS_kept (B := AW ad H.size) hZ hS hAW)).1, hW.recv (C := RX4) (T := TX4) (N := 14) hPh hKh heH_0 rfl, (hW.preX [.ref (ad 0), .int p1, .int p2] hPh hKh hN (xS_kept (B := AW ad H.size) hZ hS hAW)).2⟩ rfl rfl hl.1 rfl (lv_room (Nat.le_of_ble_eq_true rfl)) dL_lay_5 ⟨Nat.le_of_ble_eq_true rfl, Nat.le_of_ble_eq_true rfl⟩) hS (fun q _ h => hAW q h) hAW (fun q _ h => hAW q h) (fun E9 ce q9 u t H1 locs1 ht9 hvm hpu hBX hz1 hk1 hS h1 h2 h3 => ?_) (fun r9 u t H1 locs ht9 hvm hw hB hz1 hk1 hS => hw.elim)
    obtain ⟨hE, hPx, -⟩ := hBX
    subst hE
    have hP := va_Ocall hP ho hk1 (by rw [← ht9]; exact hPx)
    clear hz1 hk1 hvm ht9 hPx hpu hf hPh
    generalize H1 = H at hP hS h1 ⊢
    match n, hn, h0 with
    | 0, hn, h0 =>
      have hn : (some IOB : Option String) = some e9 := hn
      obtain rfl := Option.some.inj hn
      refine vx_catch hown [] ⟨0, 10, 13, 21⟩ [⟨0, 10, 17, 15⟩] (htab.trans rfl) (fun z hz => absurd hz List.not_mem_nil) rfl (by decide) (hts (.classLink RL 21 "java/lang/IndexOutOfBoundsException") (List.mem_cons_of_mem _ (List.mem_append_left _ (List.mem_append_left _ (List.mem_append_left _ (List.mem_append_left _ (List.mem_of_getElem? (i := 0) rfl))))))) (va_Nw.use (w := .castable IOB IOB) rfl hT.1) h1 h2 h3 ?_
      refine W.eq (g2 := F0 m 13 ls [.ref q9]) rfl ?_
      refine lv_astore (lv' := [(4, .ref q9), (0, .ref (ad 0)), (1, .int p1), (2, .int p2), (3, .ref o)]) hx hb dL_lay_13 hl (by decide) rfl (fun ls hl => ?_)
      refine lv_iconst (v := 1) hx hb dL_lay_15 (by decide) ?_
      subst h0
      exact vx_ret (W.iret (v := 1) hx hb hr (fun t ht hW => ⟨⟨1, f, rfl, ⟨rfl, fun z => absurd z (by decide)⟩, by show va_P (dC, dI) vwCl _ t.heap; rw [ht]; exact hP⟩, hS.F ht⟩) hS.2.2 dL_lay_16)
    | 1, hn, h0 =>
      have hn : (some ISE : Option String) = some e9 := hn
      obtain rfl := Option.some.inj hn
      refine vx_catch hown [⟨0, 10, 13, 21⟩] ⟨0, 10, 17, 15⟩ [] (htab.trans rfl) (fun z hz => by rw [List.mem_singleton.mp hz]; exact Or.inr ⟨by decide, IOB, hts (.classLink RL 21 "java/lang/IndexOutOfBoundsException") (List.mem_cons_of_mem _ (List.mem_append_left _ (List.mem_append_left _ (List.mem_append_left _ (List.mem_append_left _ (List.mem_of_getElem? (i := 0) rfl)))))), hT.2.2.2.2.1⟩) rfl (by decide) (hts (.classLink RL 15 "java/lang/IllegalStateException") (List.mem_cons_of_mem _ (List.mem_append_left _ (List.mem_append_left _ (List.mem_append_left _ (List.mem_append_left _ (List.mem_of_getElem? (i := 1) rfl))))))) (va_Nw.use (w := .castable ISE ISE) rfl hT.2.2.1) h1 h2 h3 ?_
      refine W.eq (g2 := F0 m 17 ls [.ref q9]) rfl ?_
      refine lv_astore (lv' := [(4, .ref q9), (0, .ref (ad 0)), (1, .int p1), (2, .int p2), (3, .ref o)]) hx hb dL_lay_17 hl (by decide) rfl (fun ls hl => ?_)
      refine lv_iconst (v := 2) hx hb dL_lay_19 (by decide) ?_
      subst h0
      exact vx_ret (W.iret (v := 2) hx hb hr (fun t ht hW => ⟨⟨2, f, rfl, ⟨rfl, fun z => absurd z (by decide)⟩, by show va_P (dC, dI) vwCl _ t.heap; rw [ht]; exact hP⟩, hS.F ht⟩) hS.2.2 dL_lay_20)
    | k + 2, hn, h0 =>
      simp at hn
