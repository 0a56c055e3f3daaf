def f_X7_bestOf_L50 (a : Nat) (b : Nat) (I : Nat → Nat → Int32) (D : Nat → Nat → UInt64) (p1 : Int32) (p2 : Int32) (p3 : Int32) (recf : Int32 → Int32 → Int32 → Int32 → Option (Int32)) : Nat → Int32 → Int32 → Option (Int32)
  | 0, _, _ => none
  | n50 + 1, x6_50, x5_50 => bd (f_size2 a b I D ) (fun r_3 => (if r_3 ≤ x6_50 then some x5_50 else (if ((p3 >>> (x6_50 &&& 31)) &&& 1) = 1 then bd (recf (((10 * p1) + x6_50) + 1) p2 (p3 &&& ((1 <<< (x6_50 &&& 31)) ^^^ (-1))) x5_50) (fun r_8 => f_X7_bestOf_L50 a b I D p1 p2 p3 recf n50 (x6_50 + 1) r_8) else f_X7_bestOf_L50 a b I D p1 p2 p3 recf n50 (x6_50 + 1) x5_50)))
def f_X7_bestOf : Nat → Nat → Nat → (Nat → Nat → Int32) → (Nat → Nat → UInt64) → Int32 → Int32 → Int32 → Int32 → Option (Int32)
  | 0, _, _, _, _, _, _, _, _ => none
  | nr + 1, a, b, I, D, p1, p2, p3, p4 => (if p3 = 0 then (if p4 = 0 then bd (f_X7_isOrder p1 p2) (fun r_20 => (if r_20 = 0 then (if p4 ≤ 0 then some p4 else bd (f_X7_washesOf a b I D p1) (fun r_24 => bd (f_X7_washesOf a b I D p4) (fun r_27 => (if r_27 ≤ r_24 then some p4 else some p1)))) else some p1)) else (if p4 ≤ 0 then some p4 else bd (f_X7_washesOf a b I D p1) (fun r_13 => bd (f_X7_washesOf a b I D p4) (fun r_16 => (if r_16 ≤ r_13 then some p4 else some p1))))) else f_X7_bestOf_L50 a b I D p1 p2 p3 (f_X7_bestOf nr a b I D) 200 0 p4)
theorem iX7_bestOf_RX7 : ∀ w ∈ u_ws RX7 TX7 9, w ∈ wsX7_bestOf := fun w h => List.mem_cons_of_mem _ (List.mem_append_left _ (List.mem_append_left _ (List.mem_append_right _ (h))))
set_option maxHeartbeats 4000000 in
set_option maxRecDepth 100000 in
theorem mt_X7_bestOf (l : Launch) (dC : Nat → ClassId) (dI : Nat → Nat → Nat) (L : List Nat) (a b : Nat) (ad : Nat → Nat) (cy : Nat → ClassId) (hM : mOK L a b ad) (I : Nat → Nat → Int32) (D : Nat → Nat → UInt64) : ∀ (nr : Nat) (sz : Nat) (p1 : Int32) (p2 : Int32) (p3 : Int32) (p4 : Int32) (rr : Int32), f_X7_bestOf nr a b I D p1 p2 p3 p4 = some rr → Met l yX7_bestOf wsX7_bestOf ({ frames := 6 + nr, cells := 0, slots := 0, locals := 179 + nr * 26 }) (va_Pc [.ref (ad 0), .int p1, .int p2, .int p3, .int p4] (fun U => U.heap.size = sz ∧ wM dC dI L a b ad cy I D U)) (va_Qi (fun r (_ : Unit) => rr = r) (fun _ _ => True) (fun q => sz ≤ q)) 0 0 (fun q => sz ≤ q) := by
  intro nr
  induction nr with
  | zero => intro sz p1 p2 p3 p4 rr hf; exact nomatch hf
  | succ nr ihc =>
    intro sz p1 p2 p3 p4 rr hf
    refine Met.ofW (cc := cX7_bestOf) (maxL := 7) (ret := (some .int)) (by decide) rfl ?_
    intro p e s m args below meth c s₁ B hml hv
    obtain ⟨rfl, hsz, hP, hK, hN⟩ := hv
    have hx := B.exec
    have hb := B.bytes
    have hr := B.returns
    have hts := atoms_spec (ws := wsX7_bestOf) B.pre
    have hown : s.vm.findClass RX7 = some m.cls := findClass_of_methodNamed B.named
    have hlocks := B.notSynchronized
    subst hsz
    generalize hAe : (fun q : Nat => s.heap.size ≤ q) = A
    have hA : ∀ q : Nat, s.heap.size ≤ q → A q := fun q h => by rw [← hAe]; exact h
    obtain ⟨H, hH⟩ : ∃ H : Heap, H = s.heap := ⟨_, rfl⟩
    have hS : va_S A s.heap H [] := by rw [hH]; exact va_S.rf
    rw [← hH]
    rw [← hH] at hP
    have hl := lv_entry ([.ref (ad 0), .int p1, .int p2, .int p3, .int p4]) (n := 7) (Nat.le_of_ble_eq_true rfl)
    rw [lg_entry_eq]
    generalize (lg_sl ([.ref (ad 0), .int p1, .int p2, .int p3, .int p4]) ++ List.replicate (7 - (lg_sl ([.ref (ad 0), .int p1, .int p2, .int p3, .int p4])).length) Slot.unset).toArray = ls at hl ⊢
    have hl : lv_has ls 7 [(0, .ref (ad 0)), (1, .int p1), (2, .int p2), (3, .int p3), (4, .int p4)] := hl
    unfold f_X7_bestOf at hf
    refine lv_iload_n hx hb dX7_bestOf_0 rfl (lv_at hl 3 rfl) ?_
    refine lv_if_ne (tgt := 43) hx hb dX7_bestOf_1 (by decide) (fun c_1 => ?_) (fun c_1 => ?_)
    · have hf := it_f hf c_1
      refine lv_iload hx hb dX7_bestOf_43 (lv_at hl 4 rfl) ?_
      refine lv_istore (lv' := [(5, .int p4), (0, .ref (ad 0)), (1, .int p1), (2, .int p2), (3, .int p3), (4, .int p4)]) hx hb dX7_bestOf_45 hl (by decide) rfl (fun ls hl => ?_)
      refine lv_iconst (v := 0) hx hb dX7_bestOf_47 (by decide) ?_
      refine lv_istore (lv' := [(6, .int 0), (5, .int p4), (0, .ref (ad 0)), (1, .int p1), (2, .int p2), (3, .int p3), (4, .int p4)]) hx hb dX7_bestOf_48 hl (by decide) rfl (fun ls hl => ?_)
      have L50 : ∀ (n50 : Nat) (x6_50 : Int32) (x5_50 : Int32), f_X7_bestOf_L50 a b I D p1 p2 p3 (f_X7_bestOf nr a b I D) n50 x6_50 x5_50 = some rr → ∀ (H : Heap) (locs : List Loc) (ls : Array Slot), va_P (dC, dI) vwCl (iwM L a b ad cy I D) H → va_S A s.heap H locs → lv_has ls 7 [(6, .int x6_50), (5, .int x5_50), (0, .ref (ad 0)), (1, .int p1), (2, .int p2), (3, .int p3), (4, .int p4)] → W p l e (headSpec wsX7_bestOf ({ frames := 6 + (nr + 1), cells := 0, slots := 0, locals := 179 + (nr + 1) * 26 })).room s m ([.ref (ad 0), .int p1, .int p2, .int p3, .int p4] : List Value).toArray below meth c H locs 0 0 (MQ below (va_Qi (fun r (_ : Unit) => rr = r) (fun _ _ => True) A) ([.ref (ad 0), .int p1, .int p2, .int p3, .int p4] : List Value).toArray s 0 0 A) (F0 m 50 ls []) := by
        intro n50
        induction n50 with
        | zero => intro x6_50 x5_50 hf; exact nomatch hf
        | succ n50 ih50 =>
          intro x6_50 x5_50 hf H locs ls hP hS hl
          unfold f_X7_bestOf_L50 at hf
          refine lv_iload hx hb dX7_bestOf_50 (lv_at hl 0 rfl) ?_
          refine lv_aload_n hx hb dX7_bestOf_52 rfl (lv_at hl 2 rfl) ?_
          obtain ⟨q_2, wq_2, heq_2⟩ := heM_0 (cy := cy) (I := I) (D := D) hM
          refine va_get (D := (dC, dI)) (ci := 8) (v := .ref (ad 2)) (C := RX7) (T := TX7) (N := 9) hx hb hts iX7_bestOf_RX7 hown hK hP q_2 heq_2 rfl 2 (by decide) (hts (.fieldLink RX7 16 "OverrunHouseModel" "mixes" "Ljava/util/List;") (List.mem_cons_of_mem _ (List.mem_append_left _ (List.mem_append_left _ (List.mem_append_left _ (List.mem_append_left _ (List.mem_of_getElem? (i := 0) rfl))))))) (fun _ h9 => h9) rfl dX7_bestOf_53 ?_
          obtain ⟨r_3, g_4, hf⟩ := bd_out hf
          obtain ⟨q_5, wq_5, heq_5⟩ := heM_2 (cy := cy) (I := I) (D := D) hM
          refine va_callFi (va_runF (As := []) (rest := [.int x6_50]) (hK.1 0 _ rfl).2 ⟨hx, hb, hml, hown, hts⟩ (mt_size2 l dC dI L a b ad cy hM H.size I D  r_3 g_4) (va_cwF 0 hts gX7_bestOf_Jx4a65c_size_8abf5_f36Jx4a65c rfl rfl rfl hN.2.1 (by decide +kernel) ⟨by show 0 + 1 ≤ 6 + (nr + 1); omega, by show 8 + (1 + 11) + 0 ≤ 179 + (nr + 1) * 26; omega⟩) ⟨(wM.pre [.ref (ad 2)] hP hK hN).1, wM.recv (C := RJx4a65c) (T := TJx4a65c) (N := 3) hP hK heq_5 rfl, (wM.pre [.ref (ad 2)] hP hK hN).2⟩ rfl rfl hl.1 rfl (lv_room (Nat.le_of_ble_eq_true rfl)) dX7_bestOf_56 ⟨Nat.le_of_ble_eq_true rfl, Nat.le_of_ble_eq_true rfl⟩) hS (fun q _ h => hA q (Nat.le_trans hS.1 h)) (fun q h => hA q (Nat.le_trans hS.1 h)) (fun r9 u t H1 locs ht hvm hw hB hz1 hk1 hS => ?_)
          subst hw
          have hP := va_Pnew hP hk1
          clear hz1 hk1 hvm ht hB
          generalize H1 = H at hP hS ⊢
          refine lv_icmp_ge (tgt := 106) hx hb dX7_bestOf_61 (by decide) (fun c_6 => ?_) (fun c_6 => ?_)
          · have hf := it_t hf c_6
            refine lv_iload hx hb dX7_bestOf_106 (lv_at hl 1 rfl) ?_
            have hf := Option.some.inj hf
            have q1 := hf
            exact W.iret (v := x5_50) hx hb hr (fun t ht hW9 => ⟨⟨x5_50, (), rfl, q1.symm, trivial⟩, hS.F ht⟩) hS.2.2 dX7_bestOf_108
          · have hf := it_f hf c_6
            refine lv_iload_n hx hb dX7_bestOf_64 rfl (lv_at hl 5 rfl) ?_
            refine lv_iload hx hb dX7_bestOf_65 (lv_at hl 0 rfl) ?_
            refine lv_ishr hx hb dX7_bestOf_67 ?_
            refine lv_iconst (v := 1) hx hb dX7_bestOf_68 (by decide) ?_
            refine lv_iand hx hb dX7_bestOf_69 ?_
            refine lv_iconst (v := 1) hx hb dX7_bestOf_70 (by decide) ?_
            refine lv_icmp_ne (tgt := 100) hx hb dX7_bestOf_71 (by decide) (fun c_7 => ?_) (fun c_7 => ?_)
            · have hf := it_f hf c_7
              refine lv_iinc (v := (x6_50 + 1)) (lv' := [(6, .int (x6_50 + 1)), (5, .int x5_50), (0, .ref (ad 0)), (1, .int p1), (2, .int p2), (3, .int p3), (4, .int p4)]) hx hb dX7_bestOf_100 hl (k := 0) rfl rfl (by decide) rfl (fun ls hl => ?_)
              refine lv_goto (tgt := 50) hx hb dX7_bestOf_103 (by decide) ?_
              exact ih50 (x6_50 + 1) x5_50 hf _ _ _ hP hS (lv_sub hl [0, 1, 2, 3, 4, 5, 6] rfl)
            · have hf := it_t hf c_7
              refine lv_aload_n hx hb dX7_bestOf_74 rfl (lv_at hl 2 rfl) ?_
              refine lv_bipush (v := 10) hx hb dX7_bestOf_75 (by decide) ?_
              refine lv_iload_n hx hb dX7_bestOf_77 rfl (lv_at hl 3 rfl) ?_
              refine lv_imul hx hb dX7_bestOf_78 ?_
              refine lv_iload hx hb dX7_bestOf_79 (lv_at hl 0 rfl) ?_
              refine lv_iadd hx hb dX7_bestOf_81 ?_
              refine lv_iconst (v := 1) hx hb dX7_bestOf_82 (by decide) ?_
              refine lv_iadd hx hb dX7_bestOf_83 ?_
              refine lv_iload_n hx hb dX7_bestOf_84 rfl (lv_at hl 4 rfl) ?_
              refine lv_iload_n hx hb dX7_bestOf_85 rfl (lv_at hl 5 rfl) ?_
              refine lv_iconst (v := 1) hx hb dX7_bestOf_86 (by decide) ?_
              refine lv_iload hx hb dX7_bestOf_87 (lv_at hl 0 rfl) ?_
              refine lv_ishl hx hb dX7_bestOf_89 ?_
              refine lv_iconst (v := (-1)) hx hb dX7_bestOf_90 (by decide) ?_
              refine lv_ixor hx hb dX7_bestOf_91 ?_
              refine lv_iand hx hb dX7_bestOf_92 ?_
              refine lv_iload hx hb dX7_bestOf_93 (lv_at hl 1 rfl) ?_
              obtain ⟨r_8, g_9, hf⟩ := bd_out hf
              obtain ⟨q_10, wq_10, heq_10⟩ := heM_0 (cy := cy) (I := I) (D := D) hM
              refine va_calli (va_runV (As := [.int (((10 * p1) + x6_50) + 1), .int p2, .int (p3 &&& ((1 <<< (x6_50 &&& 31)) ^^^ (-1))), .int x5_50]) (rest := []) ⟨hx, hb, hml, hown, hts⟩ (ihc H.size (((10 * p1) + x6_50) + 1) p2 (p3 &&& ((1 <<< (x6_50 &&& 31)) ^^^ (-1))) x5_50 r_8 g_9) (cwV 4 hts gX7_bestOf_X7_bestOf rfl rfl rfl (by decide +kernel) ⟨by show (6 + nr) + 1 ≤ 6 + (nr + 1); omega, by show 8 + (7 + 11) + (179 + nr * 26) ≤ 179 + (nr + 1) * 26; omega⟩) ⟨(wM.pre [.ref (ad 0), .int (((10 * p1) + x6_50) + 1), .int p2, .int (p3 &&& ((1 <<< (x6_50 &&& 31)) ^^^ (-1))), .int x5_50] hP hK hN).1, wM.recv (C := RX7) (T := TX7) (N := 9) hP hK heq_10 rfl, (wM.pre [.ref (ad 0), .int (((10 * p1) + x6_50) + 1), .int p2, .int (p3 &&& ((1 <<< (x6_50 &&& 31)) ^^^ (-1))), .int x5_50] hP hK hN).2⟩ rfl rfl hl.1 rfl (lv_room (Nat.le_of_ble_eq_true rfl)) dX7_bestOf_95 ⟨Nat.le_of_ble_eq_true rfl, Nat.le_of_ble_eq_true rfl⟩) hS (fun q _ h => hA q (Nat.le_trans hS.1 h)) (fun q h => hA q (Nat.le_trans hS.1 h)) (fun r9 u t H1 locs ht hvm hw hB hz1 hk1 hS => ?_)
              subst hw
              have hP := va_Pnew hP hk1
              clear hz1 hk1 hvm ht hB
              generalize H1 = H at hP hS ⊢
              refine lv_istore (lv' := [(5, .int r_8), (6, .int x6_50), (0, .ref (ad 0)), (1, .int p1), (2, .int p2), (3, .int p3), (4, .int p4)]) hx hb dX7_bestOf_98 hl (by decide) rfl (fun ls hl => ?_)
              refine lv_iinc (v := (x6_50 + 1)) (lv' := [(6, .int (x6_50 + 1)), (5, .int r_8), (0, .ref (ad 0)), (1, .int p1), (2, .int p2), (3, .int p3), (4, .int p4)]) hx hb dX7_bestOf_100 hl (k := 1) rfl rfl (by decide) rfl (fun ls hl => ?_)
              refine lv_goto (tgt := 50) hx hb dX7_bestOf_103 (by decide) ?_
              exact ih50 (x6_50 + 1) r_8 hf _ _ _ hP hS (lv_sub hl [0, 1, 2, 3, 4, 5, 6] rfl)
      exact L50 200 0 p4 hf _ _ _ hP hS (lv_sub hl [0, 1, 2, 3, 4, 5, 6] rfl)
    · have hf := it_t hf c_1
      refine lv_iload hx hb dX7_bestOf_4 (lv_at hl 4 rfl) ?_
      refine lv_if_ne (tgt := 17) hx hb dX7_bestOf_6 (by decide) (fun c_11 => ?_) (fun c_11 => ?_)
      · have hf := it_f hf c_11
        refine lv_iload hx hb dX7_bestOf_17 (lv_at hl 4 rfl) ?_
        refine lv_if_le (tgt := 40) hx hb dX7_bestOf_19 (by decide) (fun c_12 => ?_) (fun c_12 => ?_)
        · have hf := it_t hf c_12
          refine lv_iload hx hb dX7_bestOf_40 (lv_at hl 4 rfl) ?_
          have hf := Option.some.inj hf
          have q1 := hf
          exact W.iret (v := p4) hx hb hr (fun t ht hW9 => ⟨⟨p4, (), rfl, q1.symm, trivial⟩, hS.F ht⟩) hS.2.2 dX7_bestOf_42
        · have hf := it_f hf c_12
          refine lv_aload_n hx hb dX7_bestOf_22 rfl (lv_at hl 0 rfl) ?_
          refine lv_iload_n hx hb dX7_bestOf_23 rfl (lv_at hl 1 rfl) ?_
          obtain ⟨r_13, g_14, hf⟩ := bd_out hf
          obtain ⟨q_15, wq_15, heq_15⟩ := heM_0 (cy := cy) (I := I) (D := D) hM
          refine va_calli (va_runV (As := [.int p1]) (rest := []) ⟨hx, hb, hml, hown, hts⟩ (mt_X7_washesOf l dC dI L a b ad cy hM H.size I D p1 r_13 g_14) (cwV 1 hts gX7_bestOf_X7_washesOf rfl rfl rfl (by decide +kernel) ⟨by show 5 + 1 ≤ 6 + (nr + 1); omega, by show 8 + (4 + 11) + 156 ≤ 179 + (nr + 1) * 26; omega⟩) ⟨(wM.pre [.ref (ad 0), .int p1] hP hK hN).1, wM.recv (C := RX7) (T := TX7) (N := 9) hP hK heq_15 rfl, (wM.pre [.ref (ad 0), .int p1] hP hK hN).2⟩ rfl rfl hl.1 rfl (lv_room (Nat.le_of_ble_eq_true rfl)) dX7_bestOf_24 ⟨Nat.le_of_ble_eq_true rfl, Nat.le_of_ble_eq_true rfl⟩) hS (fun q _ h => hA q (Nat.le_trans hS.1 h)) (fun q h => hA q (Nat.le_trans hS.1 h)) (fun r9 u t H1 locs ht hvm hw hB hz1 hk1 hS => ?_)
          subst hw
          have hP := va_Pnew hP hk1
          clear hz1 hk1 hvm ht hB
          generalize H1 = H at hP hS ⊢
          refine lv_aload_n hx hb dX7_bestOf_27 rfl (lv_at hl 0 rfl) ?_
          refine lv_iload hx hb dX7_bestOf_28 (lv_at hl 4 rfl) ?_
          obtain ⟨r_16, g_17, hf⟩ := bd_out hf
          obtain ⟨q_18, wq_18, heq_18⟩ := heM_0 (cy := cy) (I := I) (D := D) hM
          refine va_calli (va_runV (As := [.int p4]) (rest := [.int r_13]) ⟨hx, hb, hml, hown, hts⟩ (mt_X7_washesOf l dC dI L a b ad cy hM H.size I D p4 r_16 g_17) (cwV 1 hts gX7_bestOf_X7_washesOf rfl rfl rfl (by decide +kernel) ⟨by show 5 + 1 ≤ 6 + (nr + 1); omega, by show 8 + (4 + 11) + 156 ≤ 179 + (nr + 1) * 26; omega⟩) ⟨(wM.pre [.ref (ad 0), .int p4] hP hK hN).1, wM.recv (C := RX7) (T := TX7) (N := 9) hP hK heq_18 rfl, (wM.pre [.ref (ad 0), .int p4] hP hK hN).2⟩ rfl rfl hl.1 rfl (lv_room (Nat.le_of_ble_eq_true rfl)) dX7_bestOf_30 ⟨Nat.le_of_ble_eq_true rfl, Nat.le_of_ble_eq_true rfl⟩) hS (fun q _ h => hA q (Nat.le_trans hS.1 h)) (fun q h => hA q (Nat.le_trans hS.1 h)) (fun r9 u t H1 locs ht hvm hw hB hz1 hk1 hS => ?_)
          subst hw
          have hP := va_Pnew hP hk1
          clear hz1 hk1 hvm ht hB
          generalize H1 = H at hP hS ⊢
          refine lv_icmp_ge (tgt := 40) hx hb dX7_bestOf_33 (by decide) (fun c_19 => ?_) (fun c_19 => ?_)
          · have hf := it_t hf c_19
            refine lv_iload hx hb dX7_bestOf_40 (lv_at hl 4 rfl) ?_
            have hf := Option.some.inj hf
            have q1 := hf
            exact W.iret (v := p4) hx hb hr (fun t ht hW9 => ⟨⟨p4, (), rfl, q1.symm, trivial⟩, hS.F ht⟩) hS.2.2 dX7_bestOf_42
          · have hf := it_f hf c_19
            refine lv_iload_n hx hb dX7_bestOf_36 rfl (lv_at hl 1 rfl) ?_
            refine lv_goto (tgt := 42) hx hb dX7_bestOf_37 (by decide) ?_
            have hf := Option.some.inj hf
            have q1 := hf
            exact W.iret (v := p1) hx hb hr (fun t ht hW9 => ⟨⟨p1, (), rfl, q1.symm, trivial⟩, hS.F ht⟩) hS.2.2 dX7_bestOf_42
      · have hf := it_t hf c_11
        refine lv_iload_n hx hb dX7_bestOf_9 rfl (lv_at hl 1 rfl) ?_
        refine lv_iload_n hx hb dX7_bestOf_10 rfl (lv_at hl 2 rfl) ?_
        obtain ⟨r_20, g_21, hf⟩ := bd_out hf
        refine va_calli (va_runS (As := [.int p1, .int p2]) (rest := []) ⟨hx, hb, hml, hown, hts⟩ (mt_X7_isOrder l H.size p1 p2 r_20 g_21) (va_cwS 2 hts gX7_bestOf_X7_isOrder rfl rfl rfl (by decide +kernel) ⟨by show 0 + 1 ≤ 6 + (nr + 1); omega, by show 8 + (5 + 11) + 0 ≤ 179 + (nr + 1) * 26; omega⟩) (pre0 [.int p1, .int p2]) rfl rfl hl.1 rfl (lv_room (Nat.le_of_ble_eq_true rfl)) dX7_bestOf_11 ⟨Nat.le_of_ble_eq_true rfl, Nat.le_of_ble_eq_true rfl⟩) hS (fun q _ h => hA q (Nat.le_trans hS.1 h)) (fun q h => hA q (Nat.le_trans hS.1 h)) (fun r9 u t H1 locs ht hvm hw hB hz1 hk1 hS => ?_)
        subst hw
        have hP := va_Pnew hP hk1
        clear hz1 hk1 hvm ht hB
        generalize H1 = H at hP hS ⊢
        refine lv_if_ne (tgt := 36) hx hb dX7_bestOf_14 (by decide) (fun c_22 => ?_) (fun c_22 => ?_)
        · have hf := it_f hf c_22
          refine lv_iload_n hx hb dX7_bestOf_36 rfl (lv_at hl 1 rfl) ?_
          refine lv_goto (tgt := 42) hx hb dX7_bestOf_37 (by decide) ?_
          have hf := Option.some.inj hf
          have q1 := hf
          exact W.iret (v := p1) hx hb hr (fun t ht hW9 => ⟨⟨p1, (), rfl, q1.symm, trivial⟩, hS.F ht⟩) hS.2.2 dX7_bestOf_42
        · have hf := it_t hf c_22
          refine lv_iload hx hb dX7_bestOf_17 (lv_at hl 4 rfl) ?_
          refine lv_if_le (tgt := 40) hx hb dX7_bestOf_19 (by decide) (fun c_23 => ?_) (fun c_23 => ?_)
          · have hf := it_t hf c_23
            refine lv_iload hx hb dX7_bestOf_40 (lv_at hl 4 rfl) ?_
            have hf := Option.some.inj hf
            have q1 := hf
            exact W.iret (v := p4) hx hb hr (fun t ht hW9 => ⟨⟨p4, (), rfl, q1.symm, trivial⟩, hS.F ht⟩) hS.2.2 dX7_bestOf_42
          · have hf := it_f hf c_23
            refine lv_aload_n hx hb dX7_bestOf_22 rfl (lv_at hl 0 rfl) ?_
            refine lv_iload_n hx hb dX7_bestOf_23 rfl (lv_at hl 1 rfl) ?_
            obtain ⟨r_24, g_25, hf⟩ := bd_out hf
            obtain ⟨q_26, wq_26, heq_26⟩ := heM_0 (cy := cy) (I := I) (D := D) hM
            refine va_calli (va_runV (As := [.int p1]) (rest := []) ⟨hx, hb, hml, hown, hts⟩ (mt_X7_washesOf l dC dI L a b ad cy hM H.size I D p1 r_24 g_25) (cwV 1 hts gX7_bestOf_X7_washesOf rfl rfl rfl (by decide +kernel) ⟨by show 5 + 1 ≤ 6 + (nr + 1); omega, by show 8 + (4 + 11) + 156 ≤ 179 + (nr + 1) * 26; omega⟩) ⟨(wM.pre [.ref (ad 0), .int p1] hP hK hN).1, wM.recv (C := RX7) (T := TX7) (N := 9) hP hK heq_26 rfl, (wM.pre [.ref (ad 0), .int p1] hP hK hN).2⟩ rfl rfl hl.1 rfl (lv_room (Nat.le_of_ble_eq_true rfl)) dX7_bestOf_24 ⟨Nat.le_of_ble_eq_true rfl, Nat.le_of_ble_eq_true rfl⟩) hS (fun q _ h => hA q (Nat.le_trans hS.1 h)) (fun q h => hA q (Nat.le_trans hS.1 h)) (fun r9 u t H1 locs ht hvm hw hB hz1 hk1 hS => ?_)
            subst hw
            have hP := va_Pnew hP hk1
            clear hz1 hk1 hvm ht hB
            generalize H1 = H at hP hS ⊢
            refine lv_aload_n hx hb dX7_bestOf_27 rfl (lv_at hl 0 rfl) ?_
            refine lv_iload hx hb dX7_bestOf_28 (lv_at hl 4 rfl) ?_
            obtain ⟨r_27, g_28, hf⟩ := bd_out hf
            obtain ⟨q_29, wq_29, heq_29⟩ := heM_0 (cy := cy) (I := I) (D := D) hM
            refine va_calli (va_runV (As := [.int p4]) (rest := [.int r_24]) ⟨hx, hb, hml, hown, hts⟩ (mt_X7_washesOf l dC dI L a b ad cy hM H.size I D p4 r_27 g_28) (cwV 1 hts gX7_bestOf_X7_washesOf rfl rfl rfl (by decide +kernel) ⟨by show 5 + 1 ≤ 6 + (nr + 1); omega, by show 8 + (4 + 11) + 156 ≤ 179 + (nr + 1) * 26; omega⟩) ⟨(wM.pre [.ref (ad 0), .int p4] hP hK hN).1, wM.recv (C := RX7) (T := TX7) (N := 9) hP hK heq_29 rfl, (wM.pre [.ref (ad 0), .int p4] hP hK hN).2⟩ rfl rfl hl.1 rfl (lv_room (Nat.le_of_ble_eq_true rfl)) dX7_bestOf_30 ⟨Nat.le_of_ble_eq_true rfl, Nat.le_of_ble_eq_true rfl⟩) hS (fun q _ h => hA q (Nat.le_trans hS.1 h)) (fun q h => hA q (Nat.le_trans hS.1 h)) (fun r9 u t H1 locs ht hvm hw hB hz1 hk1 hS => ?_)
            subst hw
            have hP := va_Pnew hP hk1
            clear hz1 hk1 hvm ht hB
            generalize H1 = H at hP hS ⊢
            refine lv_icmp_ge (tgt := 40) hx hb dX7_bestOf_33 (by decide) (fun c_30 => ?_) (fun c_30 => ?_)
            · have hf := it_t hf c_30
              refine lv_iload hx hb dX7_bestOf_40 (lv_at hl 4 rfl) ?_
              have hf := Option.some.inj hf
              have q1 := hf
              exact W.iret (v := p4) hx hb hr (fun t ht hW9 => ⟨⟨p4, (), rfl, q1.symm, trivial⟩, hS.F ht⟩) hS.2.2 dX7_bestOf_42
            · have hf := it_f hf c_30
              refine lv_iload_n hx hb dX7_bestOf_36 rfl (lv_at hl 1 rfl) ?_
              refine lv_goto (tgt := 42) hx hb dX7_bestOf_37 (by decide) ?_
              have hf := Option.some.inj hf
              have q1 := hf
              exact W.iret (v := p1) hx hb hr (fun t ht hW9 => ⟨⟨p1, (), rfl, q1.symm, trivial⟩, hS.F ht⟩) hS.2.2 dX7_bestOf_42

def f_X7_dayNow (a b : Nat) (I : Nat → Nat → Int32) (D : Nat → Nat → UInt64) (p1 : Int32) (p2 : Int32) : Option (Int32) :=
  bd (f_X7_bestOf 7 a b I D 0 p1 p1 0) (fun r_1 => (if p2 = 0 then bd (f_X7_washesOf a b I D r_1) (fun r_5 => some r_5) else some r_1))
set_option maxHeartbeats 4000000 in
set_option maxRecDepth 100000 in
theorem mt_X7_dayNow (l : Launch) (dC : Nat → ClassId) (dI : Nat → Nat → Nat) (L : List Nat) (a b : Nat) (ad : Nat → Nat) (cy : Nat → ClassId) (hM : mOK L a b ad) (sz : Nat) (I : Nat → Nat → Int32) (D : Nat → Nat → UInt64) (p1 : Int32) (p2 : Int32) (rr : Int32) (hf : f_X7_dayNow a b I D p1 p2 = some rr) : Met l yX7_dayNow wsX7_dayNow ({ frames := 14, cells := 0, slots := 0, locals := 387 }) (va_Pc [.ref (ad 0), .int p1, .int p2] (fun U => U.heap.size = sz ∧ wM dC dI L a b ad cy I D U)) (va_Qi (fun r (_ : Unit) => rr = r) (fun _ _ => True) (fun q => sz ≤ q)) 0 0 (fun q => sz ≤ q) := by
  refine Met.ofW (cc := cX7_dayNow) (maxL := 4) (ret := (some .int)) (by decide) rfl ?_
  intro p e s m args below meth c s₁ B hml hv
  obtain ⟨rfl, hsz, hP, hK, hN⟩ := hv
  have hx := B.exec
  have hb := B.bytes
  have hr := B.returns
  have hts := atoms_spec (ws := wsX7_dayNow) B.pre
  have hown : s.vm.findClass RX7 = some m.cls := findClass_of_methodNamed B.named
  have hlocks := B.notSynchronized
  subst hsz
  generalize hAe : (fun q : Nat => s.heap.size ≤ q) = A
  have hA : ∀ q : Nat, s.heap.size ≤ q → A q := fun q h => by rw [← hAe]; exact h
  obtain ⟨H, hH⟩ : ∃ H : Heap, H = s.heap := ⟨_, rfl⟩
  have hS : va_S A s.heap H [] := by rw [hH]; exact va_S.rf
  rw [← hH]
  rw [← hH] at hP
  have hl := lv_entry ([.ref (ad 0), .int p1, .int p2]) (n := 4) (Nat.le_of_ble_eq_true rfl)
  rw [lg_entry_eq]
  generalize (lg_sl ([.ref (ad 0), .int p1, .int p2]) ++ List.replicate (4 - (lg_sl ([.ref (ad 0), .int p1, .int p2])).length) Slot.unset).toArray = ls at hl ⊢
  have hl : lv_has ls 4 [(0, .ref (ad 0)), (1, .int p1), (2, .int p2)] := hl
  unfold f_X7_dayNow at hf
  refine lv_aload_n hx hb dX7_dayNow_0 rfl (lv_at hl 0 rfl) ?_
  refine lv_iconst (v := 0) hx hb dX7_dayNow_1 (by decide) ?_
  refine lv_iload_n hx hb dX7_dayNow_2 rfl (lv_at hl 1 rfl) ?_
  refine lv_iload_n hx hb dX7_dayNow_3 rfl (lv_at hl 1 rfl) ?_
  refine lv_iconst (v := 0) hx hb dX7_dayNow_4 (by decide) ?_
  obtain ⟨r_1, g_2, hf⟩ := bd_out hf
  obtain ⟨q_3, wq_3, heq_3⟩ := heM_0 (cy := cy) (I := I) (D := D) hM
  refine va_calli (va_runV (As := [.int 0, .int p1, .int p1, .int 0]) (rest := []) ⟨hx, hb, hml, hown, hts⟩ (mt_X7_bestOf l dC dI L a b ad cy hM I D 7 H.size 0 p1 p1 0 r_1 g_2) (cwV 4 hts gX7_dayNow_X7_bestOf rfl rfl rfl (by decide +kernel) ⟨Nat.le_of_ble_eq_true rfl, Nat.le_of_ble_eq_true rfl⟩) ⟨(wM.pre [.ref (ad 0), .int 0, .int p1, .int p1, .int 0] hP hK hN).1, wM.recv (C := RX7) (T := TX7) (N := 9) hP hK heq_3 rfl, (wM.pre [.ref (ad 0), .int 0, .int p1, .int p1, .int 0] hP hK hN).2⟩ rfl rfl hl.1 rfl (lv_room (Nat.le_of_ble_eq_true rfl)) dX7_dayNow_5 ⟨Nat.le_of_ble_eq_true rfl, Nat.le_of_ble_eq_true rfl⟩) hS (fun q _ h => hA q (Nat.le_trans hS.1 h)) (fun q h => hA q (Nat.le_trans hS.1 h)) (fun r9 u t H1 locs ht hvm hw hB hz1 hk1 hS => ?_)
  subst hw
  have hP := va_Pnew hP hk1
  clear hz1 hk1 hvm ht hB
  generalize H1 = H at hP hS ⊢
  refine lv_istore_n (lv' := [(3, .int r_1), (0, .ref (ad 0)), (1, .int p1), (2, .int p2)]) hx hb dX7_dayNow_8 rfl hl (by decide) rfl (fun ls hl => ?_)
  refine lv_iload_n hx hb dX7_dayNow_9 rfl (lv_at hl 3 rfl) ?_
  refine lv_if_eq (tgt := 17) hx hb dX7_dayNow_10 (by decide) (fun c_4 => ?_) (fun c_4 => ?_)
  · have hf := it_t hf c_4
    refine lv_aload_n hx hb dX7_dayNow_17 rfl (lv_at hl 1 rfl) ?_
    refine lv_iload_n hx hb dX7_dayNow_18 rfl (lv_at hl 0 rfl) ?_
    obtain ⟨r_5, g_6, hf⟩ := bd_out hf
    obtain ⟨q_7, wq_7, heq_7⟩ := heM_0 (cy := cy) (I := I) (D := D) hM
    refine va_calli (va_runV (As := [.int r_1]) (rest := []) ⟨hx, hb, hml, hown, hts⟩ (mt_X7_washesOf l dC dI L a b ad cy hM H.size I D r_1 r_5 g_6) (cwV 1 hts gX7_dayNow_X7_washesOf rfl rfl rfl (by decide +kernel) ⟨Nat.le_of_ble_eq_true rfl, Nat.le_of_ble_eq_true rfl⟩) ⟨(wM.pre [.ref (ad 0), .int r_1] hP hK hN).1, wM.recv (C := RX7) (T := TX7) (N := 9) hP hK heq_7 rfl, (wM.pre [.ref (ad 0), .int r_1] hP hK hN).2⟩ rfl rfl hl.1 rfl (lv_room (Nat.le_of_ble_eq_true rfl)) dX7_dayNow_19 ⟨Nat.le_of_ble_eq_true rfl, Nat.le_of_ble_eq_true rfl⟩) hS (fun q _ h => hA q (Nat.le_trans hS.1 h)) (fun q h => hA q (Nat.le_trans hS.1 h)) (fun r9 u t H1 locs ht hvm hw hB hz1 hk1 hS => ?_)
    subst hw
    have hP := va_Pnew hP hk1
    clear hz1 hk1 hvm ht hB
    generalize H1 = H at hP hS ⊢
    have hf := Option.some.inj hf
    have q1 := hf
    exact W.iret (v := r_5) hx hb hr (fun t ht hW9 => ⟨⟨r_5, (), rfl, q1.symm, trivial⟩, hS.F ht⟩) hS.2.2 dX7_dayNow_22
  · have hf := it_f hf c_4
    refine lv_iload_n hx hb dX7_dayNow_13 rfl (lv_at hl 0 rfl) ?_
    refine lv_goto (tgt := 22) hx hb dX7_dayNow_14 (by decide) ?_
    have hf := Option.some.inj hf
    have q1 := hf
    exact W.iret (v := r_1) hx hb hr (fun t ht hW9 => ⟨⟨r_1, (), rfl, q1.symm, trivial⟩, hS.F ht⟩) hS.2.2 dX7_dayNow_22

def f_X7_day (a b : Nat) (I : Nat → Nat → Int32) (D : Nat → Nat → UInt64) (p1 : Int32) (p2 : Int32) : Option (Int32 × (Nat → Nat → Int32) × (Nat → Nat → UInt64)) :=
  nm (up2 I 0 0 0) (fun I_2 => bd (f_size2 a b I_2 D ) (fun r_4 => bd (f_X7_in p1 0 ((1 <<< (r_4 &&& 31)) - 1)) (fun r_7 => (if r_7 = 0 then bd (f_X7_no a b I_2 D 1) (fun (r_13, I_15, D_16) => some (r_13, I_15, D_16)) else bd (f_X7_dayNow a b I_2 D p1 p2) (fun r_10 => some (r_10, I_2, D))))))
theorem iX7_day_RX7 : ∀ w ∈ u_ws RX7 TX7 9, w ∈ wsX7_day := fun w h => List.mem_cons_of_mem _ (List.mem_append_left _ (List.mem_append_left _ (List.mem_append_right _ (h))))
set_option maxHeartbeats 4000000 in
set_option maxRecDepth 100000 in
theorem mt_X7_day (l : Launch) (dC : Nat → ClassId) (dI : Nat → Nat → Nat) (L : List Nat) (a b : Nat) (ad : Nat → Nat) (cy : Nat → ClassId) (hM : mOK L a b ad) (sz : Nat) (I : Nat → Nat → Int32) (D : Nat → Nat → UInt64) (p1 : Int32) (p2 : Int32) (rr : Int32) (I9 : Nat → Nat → Int32) (D9 : Nat → Nat → UInt64) (hf : f_X7_day a b I D p1 p2 = some (rr, I9, D9)) : Met l yX7_day wsX7_day ({ frames := 15, cells := 0, slots := 0, locals := 410 }) (va_Pc [.ref (ad 0), .int p1, .int p2] (fun U => U.heap.size = sz ∧ wM dC dI L a b ad cy I D U)) (va_Qi (fun r (_ : Unit) => rr = r) (fun _ t => wM dC dI L a b ad cy I9 D9 t) (AM L ad sz)) 0 0 (AM L ad sz) := by
  refine Met.ofW (cc := cX7_day) (maxL := 3) (ret := (some .int)) (by decide) rfl ?_
  intro p e s m args below meth c s₁ B hml hv
  obtain ⟨rfl, hsz, hP, hK, hN⟩ := hv
  have hx := B.exec
  have hb := B.bytes
  have hr := B.returns
  have hts := atoms_spec (ws := wsX7_day) B.pre
  have hown : s.vm.findClass RX7 = some m.cls := findClass_of_methodNamed B.named
  have hlocks := B.notSynchronized
  subst hsz
  generalize hAe : AM L ad s.heap.size = A
  have hA : ∀ q : Nat, s.heap.size ≤ q → A q := fun q h => by rw [← hAe]; exact Or.inr h
  have hAL : ∀ k, k ∈ L → A (ad k) := fun k h => by rw [← hAe]; exact Or.inl ⟨k, h, rfl⟩
  have hDD : ∀ I D, va_D A (iwM L a b ad cy I D) := fun I D => iwM_D hM hAL I D
  obtain ⟨H, hH⟩ : ∃ H : Heap, H = s.heap := ⟨_, rfl⟩
  have hS : va_S A s.heap H [] := by rw [hH]; exact va_S.rf
  rw [← hH]
  rw [← hH] at hP
  have hl := lv_entry ([.ref (ad 0), .int p1, .int p2]) (n := 3) (Nat.le_of_ble_eq_true rfl)
  rw [lg_entry_eq]
  generalize (lg_sl ([.ref (ad 0), .int p1, .int p2]) ++ List.replicate (3 - (lg_sl ([.ref (ad 0), .int p1, .int p2])).length) Slot.unset).toArray = ls at hl ⊢
  have hl : lv_has ls 3 [(0, .ref (ad 0)), (1, .int p1), (2, .int p2)] := hl
  unfold f_X7_day at hf
  refine lv_aload_n hx hb dX7_day_0 rfl (lv_at hl 0 rfl) ?_
  refine lv_iconst (v := 0) hx hb dX7_day_1 (by decide) ?_
  obtain ⟨q_1, wq_1, heq_1⟩ := heM_0 (cy := cy) (I := I) (D := D) hM
  obtain ⟨I_2, eI_2, hf⟩ := nm_out hf
  refine va_put (D := (dC, dI)) (ci := 8) (v := .int 0) (ty := .int) (C := RX7) (T := TX7) (N := 9) hx hb hts iX7_day_RX7 tyX7 tyX7_ok nmX7 hown hK hP (hDD I D) hS q_1 heq_1 rfl 0 (by decide) (hts (.fieldLink RX7 32 "OverrunHouseModel" "thrown" "I") (List.mem_cons_of_mem _ (List.mem_append_left _ (List.mem_append_left _ (List.mem_append_left _ (List.mem_append_left _ (List.mem_of_getElem? (i := 0) rfl))))))) (fun _ h9 => h9) rfl (by decide +kernel) rfl rfl (Nat.le_of_ble_eq_true rfl) dX7_day_2 (fun H locs hP _ hS => ?_)
  have hP : va_P (dC, dI) vwCl (iwM L a b ad cy I_2 D) H := by rw [eI_2]; exact hqI hM wq_1 ((cellM_0 ad cy a b _ _).trans rfl) hP
  refine lv_iload_n hx hb dX7_day_5 rfl (lv_at hl 1 rfl) ?_
  refine lv_iconst (v := 0) hx hb dX7_day_6 (by decide) ?_
  refine lv_iconst (v := 1) hx hb dX7_day_7 (by decide) ?_
  refine lv_aload_n hx hb dX7_day_8 rfl (lv_at hl 0 rfl) ?_
  obtain ⟨q_3, wq_3, heq_3⟩ := heM_0 (cy := cy) (I := I_2) (D := D) hM
  refine va_get (D := (dC, dI)) (ci := 8) (v := .ref (ad 2)) (C := RX7) (T := TX7) (N := 9) hx hb hts iX7_day_RX7 hown hK hP q_3 heq_3 rfl 2 (by decide) (hts (.fieldLink RX7 16 "OverrunHouseModel" "mixes" "Ljava/util/List;") (List.mem_cons_of_mem _ (List.mem_append_left _ (List.mem_append_left _ (List.mem_append_left _ (List.mem_append_left _ (List.mem_of_getElem? (i := 1) rfl))))))) (fun _ h9 => h9) rfl dX7_day_9 ?_
  obtain ⟨r_4, g_5, hf⟩ := bd_out hf
  obtain ⟨q_6, wq_6, heq_6⟩ := heM_2 (cy := cy) (I := I_2) (D := D) hM
  refine va_callFi (va_runF (As := []) (rest := [.int 1, .int 0, .int p1]) (hK.1 0 _ rfl).2 ⟨hx, hb, hml, hown, hts⟩ (mt_size2 l dC dI L a b ad cy hM H.size I_2 D  r_4 g_5) (va_cwF 0 hts gX7_day_Jx4a65c_size_8abf5_f36Jx4a65c rfl rfl rfl hN.2.1 (by decide +kernel) ⟨Nat.le_of_ble_eq_true rfl, Nat.le_of_ble_eq_true rfl⟩) ⟨(wM.pre [.ref (ad 2)] hP hK hN).1, wM.recv (C := RJx4a65c) (T := TJx4a65c) (N := 3) hP hK heq_6 rfl, (wM.pre [.ref (ad 2)] hP hK hN).2⟩ rfl rfl hl.1 rfl (lv_room (Nat.le_of_ble_eq_true rfl)) dX7_day_12 ⟨Nat.le_of_ble_eq_true rfl, Nat.le_of_ble_eq_true rfl⟩) hS (fun q _ h => hA q (Nat.le_trans hS.1 h)) (fun q h => hA q (Nat.le_trans hS.1 h)) (fun r9 u t H1 locs ht hvm hw hB hz1 hk1 hS => ?_)
  subst hw
  have hP := va_Pnew hP hk1
  clear hz1 hk1 hvm ht hB
  generalize H1 = H at hP hS ⊢
  refine lv_ishl hx hb dX7_day_17 ?_
  refine lv_iconst (v := 1) hx hb dX7_day_18 (by decide) ?_
  refine lv_isub hx hb dX7_day_19 ?_
  obtain ⟨r_7, g_8, hf⟩ := bd_out hf
  refine va_calli (va_runS (As := [.int p1, .int 0, .int ((1 <<< (r_4 &&& 31)) - 1)]) (rest := []) ⟨hx, hb, hml, hown, hts⟩ (mt_X7_in l H.size p1 0 ((1 <<< (r_4 &&& 31)) - 1) r_7 g_8) (va_cwS 3 hts gX7_day_X7_in rfl rfl rfl (by decide +kernel) ⟨Nat.le_of_ble_eq_true rfl, Nat.le_of_ble_eq_true rfl⟩) (pre0 [.int p1, .int 0, .int ((1 <<< (r_4 &&& 31)) - 1)]) rfl rfl hl.1 rfl (lv_room (Nat.le_of_ble_eq_true rfl)) dX7_day_20 ⟨Nat.le_of_ble_eq_true rfl, Nat.le_of_ble_eq_true rfl⟩) hS (fun q _ h => hA q (Nat.le_trans hS.1 h)) (fun q h => hA q (Nat.le_trans hS.1 h)) (fun r9 u t H1 locs ht hvm hw hB hz1 hk1 hS => ?_)
  subst hw
  have hP := va_Pnew hP hk1
  clear hz1 hk1 hvm ht hB
  generalize H1 = H at hP hS ⊢
  refine lv_if_ne (tgt := 32) hx hb dX7_day_23 (by decide) (fun c_9 => ?_) (fun c_9 => ?_)
  · have hf := it_f hf c_9
    refine lv_aload_n hx hb dX7_day_32 rfl (lv_at hl 0 rfl) ?_
    refine lv_iload_n hx hb dX7_day_33 rfl (lv_at hl 1 rfl) ?_
    refine lv_iload_n hx hb dX7_day_34 rfl (lv_at hl 2 rfl) ?_
    obtain ⟨r_10, g_11, hf⟩ := bd_out hf
    obtain ⟨q_12, wq_12, heq_12⟩ := heM_0 (cy := cy) (I := I_2) (D := D) hM
    refine va_calli (va_runV (As := [.int p1, .int p2]) (rest := []) ⟨hx, hb, hml, hown, hts⟩ (mt_X7_dayNow l dC dI L a b ad cy hM H.size I_2 D p1 p2 r_10 g_11) (cwV 2 hts gX7_day_X7_dayNow rfl rfl rfl (by decide +kernel) ⟨Nat.le_of_ble_eq_true rfl, Nat.le_of_ble_eq_true rfl⟩) ⟨(wM.pre [.ref (ad 0), .int p1, .int p2] hP hK hN).1, wM.recv (C := RX7) (T := TX7) (N := 9) hP hK heq_12 rfl, (wM.pre [.ref (ad 0), .int p1, .int p2] hP hK hN).2⟩ rfl rfl hl.1 rfl (lv_room (Nat.le_of_ble_eq_true rfl)) dX7_day_35 ⟨Nat.le_of_ble_eq_true rfl, Nat.le_of_ble_eq_true rfl⟩) hS (fun q _ h => hA q (Nat.le_trans hS.1 h)) (fun q h => hA q (Nat.le_trans hS.1 h)) (fun r9 u t H1 locs ht hvm hw hB hz1 hk1 hS => ?_)
    subst hw
    have hP := va_Pnew hP hk1
    clear hz1 hk1 hvm ht hB
    generalize H1 = H at hP hS ⊢
    have hf := Option.some.inj hf
    obtain ⟨q1, q2⟩ := Prod.mk.inj hf
    obtain ⟨q2, q3⟩ := Prod.mk.inj q2
    rw [q2, q3] at hP
    exact W.iret (v := r_10) hx hb hr (fun t ht hW9 => ⟨⟨r_10, (), rfl, q1.symm, wM.of hP hK hN ht hW9⟩, hS.F ht⟩) hS.2.2 dX7_day_38
  · have hf := it_t hf c_9
    refine lv_aload_n hx hb dX7_day_26 rfl (lv_at hl 0 rfl) ?_
    refine lv_iconst (v := 1) hx hb dX7_day_27 (by decide) ?_
    obtain ⟨⟨r_13, I_15, D_16⟩, g_14, hf⟩ := bd_out hf
    obtain ⟨q_17, wq_17, heq_17⟩ := heM_0 (cy := cy) (I := I_2) (D := D) hM
    have hAW : ∀ q, AM L ad H.size q → A q := fun q h => h.elim (fun ⟨k, k1, k2⟩ => k2 ▸ hAL k k1) (fun h => hA q (Nat.le_trans hS.1 h))
    refine va_calli (va_runV (As := [.int 1]) (rest := []) ⟨hx, hb, hml, hown, hts⟩ (mt_X7_no l dC dI L a b ad cy hM H.size I_2 D 1 r_13 I_15 D_16 g_14) (cwV 1 hts gX7_day_X7_no rfl rfl rfl (by decide +kernel) ⟨Nat.le_of_ble_eq_true rfl, Nat.le_of_ble_eq_true rfl⟩) ⟨(wM.pre [.ref (ad 0), .int 1] hP hK hN).1, wM.recv (C := RX7) (T := TX7) (N := 9) hP hK heq_17 rfl, (wM.pre [.ref (ad 0), .int 1] hP hK hN).2⟩ rfl rfl hl.1 rfl (lv_room (Nat.le_of_ble_eq_true rfl)) dX7_day_28 ⟨Nat.le_of_ble_eq_true rfl, Nat.le_of_ble_eq_true rfl⟩) hS (fun q _ h => hAW q h) hAW (fun r9 u t H1 locs ht hvm hw hB hz1 hk1 hS => ?_)
    subst hw
    have hP : va_P (dC, dI) vwCl (iwM L a b ad cy I_15 D_16) H1 := by rw [← ht]; exact hB.1
    clear hz1 hk1 hvm ht hB
    generalize H1 = H at hP hS ⊢
    have hf := Option.some.inj hf
    obtain ⟨q1, q2⟩ := Prod.mk.inj hf
    obtain ⟨q2, q3⟩ := Prod.mk.inj q2
    rw [q2, q3] at hP
    exact W.iret (v := r_13) hx hb hr (fun t ht hW9 => ⟨⟨r_13, (), rfl, q1.symm, wM.of hP hK hN ht hW9⟩, hS.F ht⟩) hS.2.2 dX7_day_31
