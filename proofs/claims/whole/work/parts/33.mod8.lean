def f_X7_digest_L191 (a : Nat) (b : Nat) : Nat → Int32 → Int64 → (Nat → Nat → Int32) → (Nat → Nat → UInt64) → Option (Int64 × (Nat → Nat → Int32) × (Nat → Nat → UInt64))
  | 0, _, _, _, _ => none
  | n191 + 1, x3_191, x1_191, I_L191, D_L191 => (if (I_L191 5 6) ≤ x3_191 then bd (f_size2 a b I_L191 D_L191 ) (fun r_16 => bd (f_X7_dayNow a b I_L191 D_L191 ((1 <<< (r_16 &&& 31)) - 1) 1) (fun r_19 => bd (f_X7_dayNow a b I_L191 D_L191 ((1 <<< (r_16 &&& 31)) - 1) 0) (fun r_22 => some (((((x1_191 * (31 : Int64)) + (r_19).toInt64) * (31 : Int64)) + (r_22).toInt64), I_L191, D_L191)))) else ck (inB x3_191 3) (ck (okD (FP.dmul (D_L191 (5 + 7) (x3_191).toNatClampNeg) (4620693217682128896 : UInt64))) (bd (f_X7_spoilNow a b I_L191 D_L191 x3_191 0) (fun (r_30, I_32, D_33) => f_X7_digest_L191 a b n191 (x3_191 + 1) ((((x1_191 * (31 : Int64)) + ((FP.d2i (FP.dmul (D_L191 (5 + 7) (x3_191).toNatClampNeg) (4620693217682128896 : UInt64)))).toInt64) * (31 : Int64)) + (r_30).toInt64) I_32 D_33))))
def f_X7_digest_L134 (rec120 : Int32 → Int64 → Option (Int64 × (Nat → Nat → Int32) × (Nat → Nat → UInt64))) (a : Nat) (b : Nat) (D : Nat → Nat → UInt64) (I_2 : Nat → Nat → Int32) (x3_120 : Int32) : Nat → Int32 → Int64 → Option (Int64 × (Nat → Nat → Int32) × (Nat → Nat → UInt64))
  | 0, _, _ => none
  | n134 + 1, x4_134, x1_134 => (if 5 < x4_134 then ck (inB x3_120 12) (ck (okD (FP.dmul (D (5 + 5) (x3_120).toNatClampNeg) (4620693217682128896 : UInt64))) (rec120 (x3_120 + 1) ((x1_134 * (31 : Int64)) + ((FP.d2i (FP.dmul (D (5 + 5) (x3_120).toNatClampNeg) (4620693217682128896 : UInt64)))).toInt64))) else bd (f_X7_batchNow a b I_2 D x3_120 x4_134) (fun r_41 => f_X7_digest_L134 rec120 a b D I_2 x3_120 n134 (x4_134 + 1) ((x1_134 * (31 : Int64)) + (r_41).toInt64)))
def f_X7_digest_L120 (a : Nat) (b : Nat) (D : Nat → Nat → UInt64) (I_2 : Nat → Nat → Int32) : Nat → Int32 → Int64 → Option (Int64 × (Nat → Nat → Int32) × (Nat → Nat → UInt64))
  | 0, _, _ => none
  | n120 + 1, x3_120, x1_120 => (if (I_2 5 0) ≤ x3_120 then f_X7_digest_L191 a b 4 0 x1_120 I_2 D else f_X7_digest_L134 (f_X7_digest_L120 a b D I_2 n120) a b D I_2 x3_120 7 0 x1_120)
def f_X7_digest_L54 (rec38 : Int32 → Int64 → Option (Int64 × (Nat → Nat → Int32) × (Nat → Nat → UInt64))) (a : Nat) (b : Nat) (D : Nat → Nat → UInt64) (I_2 : Nat → Nat → Int32) (x3_38 : Int32) : Nat → Int32 → Int64 → Option (Int64 × (Nat → Nat → Int32) × (Nat → Nat → UInt64))
  | 0, _, _ => none
  | n54 + 1, x4_54, x1_54 => (if 8 < x4_54 then bd (f_get2 a b I_2 D x3_38) (fun r_46 => bd (f_X7_barsNow a b I_2 D 0 r_46 20 80) (fun r_50 => rec38 (x3_38 + 1) ((x1_54 * (31 : Int64)) + (r_50).toInt64))) else bd (f_X7_mixNow a b I_2 D x3_38 x4_54) (fun r_53 => f_X7_digest_L54 rec38 a b D I_2 x3_38 n54 (x4_54 + 1) ((x1_54 * (31 : Int64)) + (r_53).toInt64)))
def f_X7_digest_L38 (a : Nat) (b : Nat) (D : Nat → Nat → UInt64) (I_2 : Nat → Nat → Int32) : Nat → Int32 → Int64 → Option (Int64 × (Nat → Nat → Int32) × (Nat → Nat → UInt64))
  | 0, _, _ => none
  | n38 + 1, x3_38, x1_38 => bd (f_size2 a b I_2 D ) (fun r_5 => (if r_5 ≤ x3_38 then f_X7_digest_L120 a b D I_2 13 0 x1_38 else f_X7_digest_L54 (f_X7_digest_L38 a b D I_2 n38) a b D I_2 x3_38 10 0 x1_38))
def f_X7_digest_L11 (a : Nat) (b : Nat) (D : Nat → Nat → UInt64) (I_2 : Nat → Nat → Int32) : Nat → Int32 → Int64 → Option (Int64 × (Nat → Nat → Int32) × (Nat → Nat → UInt64))
  | 0, _, _ => none
  | n11 + 1, x3_11, x1_11 => (if 11 < x3_11 then f_X7_digest_L38 a b D I_2 7 0 x1_11 else bd (f_X7_manyNow a b I_2 D x3_11) (fun r_56 => f_X7_digest_L11 a b D I_2 n11 (x3_11 + 1) ((x1_11 * (31 : Int64)) + (r_56).toInt64)))
def f_X7_digest (a b : Nat) (I : Nat → Nat → Int32) (D : Nat → Nat → UInt64) : Option (Int64 × (Nat → Nat → Int32) × (Nat → Nat → UInt64)) :=
  nm (up2 I 0 0 0) (fun I_2 => f_X7_digest_L11 a b D I_2 13 0 (9606 : Int64))
theorem iX7_digest_RX5 : ∀ w ∈ u_ws RX5 TX5 10, w ∈ wsX7_digest := fun w h => List.mem_cons_of_mem _ (List.mem_append_left _ (List.mem_append_left _ (List.mem_append_right _ (h))))
theorem iX7_digest_RX7 : ∀ w ∈ u_ws RX7 TX7 9, w ∈ wsX7_digest := fun w h => List.mem_cons_of_mem _ (List.mem_append_left _ (List.mem_append_left _ (List.mem_append_left _ (List.mem_append_right _ (h)))))
set_option maxHeartbeats 4000000 in
set_option maxRecDepth 100000 in
theorem mt_X7_digest (l : Launch) (dC : Nat → ClassId) (dI : Nat → Nat → Nat) (L : List Nat) (a b : Nat) (ad : Nat → Nat) (cy : Nat → ClassId) (hM : mOK L a b ad) (h30 : ∀ k ∈ L, k < 30) (sz : Nat) (I : Nat → Nat → Int32) (D : Nat → Nat → UInt64) (rr : Int64) (I9 : Nat → Nat → Int32) (D9 : Nat → Nat → UInt64) (hf : f_X7_digest a b I D = some (rr, I9, D9)) : Met l yX7_digest wsX7_digest ({ frames := 15, cells := 206, slots := 1636, locals := 410 }) (va_Pc [.ref (ad 0)] (fun U => U.heap.size = sz ∧ wM dC dI L a b ad cy I D U)) (va_Ql (fun r (_ : Unit) => rr = r) (fun _ t => wM dC dI L a b ad cy I9 D9 t) (AM L ad sz)) 206 1636 (AM L ad sz) := by
  refine Met.ofW (cc := cX7_digest) (maxL := 5) (ret := (some .long)) (by decide) rfl ?_
  intro p e s m args below meth c s₁ B hml hv
  obtain ⟨rfl, hsz, hP, hK, hN⟩ := hv
  have hx := B.exec
  have hb := B.bytes
  have hr := B.returns
  have hts := atoms_spec (ws := wsX7_digest) B.pre
  have hown : s.vm.findClass RX7 = some m.cls := findClass_of_methodNamed B.named
  have hlocks := B.notSynchronized
  subst hsz
  generalize hAe : AM L ad s.heap.size = A
  have hA : ∀ q : Nat, s.heap.size ≤ q → A q := fun q h => by rw [← hAe]; exact Or.inr h
  have hAL : ∀ k, k ∈ L → A (ad k) := fun k h => by rw [← hAe]; exact Or.inl ⟨k, h, rfl⟩
  have hDD : ∀ I D, va_D A (iwM L a b ad cy I D) := fun I D => iwM_D hM hAL I D
  obtain ⟨H, hH⟩ : ∃ H : Heap, H = s.heap := ⟨_, rfl⟩
  have hS : va_S A s.heap H [] := by rw [hH]; exact va_S.rf
  rw [← hH]
  rw [← hH] at hP
  have hl := lv_entry ([.ref (ad 0)]) (n := 5) (Nat.le_of_ble_eq_true rfl)
  rw [lg_entry_eq]
  generalize (lg_sl ([.ref (ad 0)]) ++ List.replicate (5 - (lg_sl ([.ref (ad 0)])).length) Slot.unset).toArray = ls at hl ⊢
  have hl : lv_has ls 5 [(0, .ref (ad 0))] := hl
  unfold f_X7_digest at hf
  refine lv_aload_n hx hb dX7_digest_0 rfl (lv_at hl 0 rfl) ?_
  refine lv_iconst (v := 0) hx hb dX7_digest_1 (by decide) ?_
  obtain ⟨q_1, wq_1, heq_1⟩ := heM_0 (cy := cy) (I := I) (D := D) hM
  obtain ⟨I_2, eI_2, hf⟩ := nm_out hf
  refine va_put (D := (dC, dI)) (ci := 8) (v := .int 0) (ty := .int) (C := RX7) (T := TX7) (N := 9) hx hb hts iX7_digest_RX7 tyX7 tyX7_ok nmX7 hown hK hP (hDD I D) hS q_1 heq_1 rfl 0 (by decide) (hts (.fieldLink RX7 32 "OverrunHouseModel" "thrown" "I") (List.mem_cons_of_mem _ (List.mem_append_left _ (List.mem_append_left _ (List.mem_append_left _ (List.mem_append_left _ (List.mem_append_left _ (List.mem_of_getElem? (i := 0) rfl)))))))) (fun _ h9 => h9) rfl (by decide +kernel) rfl rfl (Nat.le_of_ble_eq_true rfl) dX7_digest_2 (fun H locs hP _ hS => ?_)
  have hP : va_P (dC, dI) vwCl (iwM L a b ad cy I_2 D) H := by rw [eI_2]; exact hqI hM wq_1 ((cellM_0 ad cy a b _ _).trans rfl) hP
  refine lv_ldc2 (v := 9606) hx hb hown (hts (.constantLong RX7 225 (9606)) (List.mem_cons_of_mem _ (List.mem_append_left _ (List.mem_append_left _ (List.mem_append_left _ (List.mem_append_left _ (List.mem_append_left _ (List.mem_of_getElem? (i := 1) rfl)))))))) dX7_digest_5 ?_
  refine lv_lstore_n (lv' := [(1, .long (9606 : Int64)), (0, .ref (ad 0))]) hx hb dX7_digest_8 rfl hl (by decide) rfl (fun ls hl => ?_)
  refine lv_iconst (v := 0) hx hb dX7_digest_9 (by decide) ?_
  refine lv_istore_n (lv' := [(3, .int 0), (1, .long (9606 : Int64)), (0, .ref (ad 0))]) hx hb dX7_digest_10 rfl hl (by decide) rfl (fun ls hl => ?_)
  have L11 : ∀ (n11 : Nat) (x3_11 : Int32) (x1_11 : Int64), f_X7_digest_L11 a b D I_2 n11 x3_11 x1_11 = some (rr, I9, D9) → ∀ (H : Heap) (locs : List Loc) (ls : Array Slot), va_P (dC, dI) vwCl (iwM L a b ad cy I_2 D) H → va_S A s.heap H locs → lv_has ls 5 [(3, .int x3_11), (1, .long x1_11), (0, .ref (ad 0))] → ∀ (cu11 su11 : Nat), cu11 + n11 * 1 ≤ 13 → su11 + n11 * 12 ≤ 156 → W p l e (headSpec wsX7_digest ({ frames := 15, cells := 206, slots := 1636, locals := 410 })).room s m ([.ref (ad 0)] : List Value).toArray below meth c H locs cu11 su11 (MQ below (va_Ql (fun r (_ : Unit) => rr = r) (fun _ t => wM dC dI L a b ad cy I9 D9 t) A) ([.ref (ad 0)] : List Value).toArray s 206 1636 A) (F0 m 11 ls []) := by
    intro n11
    induction n11 with
    | zero => intro x3_11 x1_11 hf; exact nomatch hf
    | succ n11 ih11 =>
      intro x3_11 x1_11 hf H locs ls hP hS hl cu11 su11 hcu11 hsu11
      unfold f_X7_digest_L11 at hf
      refine lv_iload_n hx hb dX7_digest_11 rfl (lv_at hl 0 rfl) ?_
      refine lv_bipush (v := 11) hx hb dX7_digest_12 (by decide) ?_
      refine lv_icmp_gt (tgt := 36) hx hb dX7_digest_14 (by decide) (fun c_3 => ?_) (fun c_3 => ?_)
      · have hf := it_t hf c_3
        refine W.widen (k := 13) (n := 156) (by omega) (by omega) ?_
        refine lv_iconst (v := 0) hx hb dX7_digest_36 (by decide) ?_
        refine lv_istore_n (lv' := [(3, .int 0), (1, .long x1_11), (0, .ref (ad 0))]) hx hb dX7_digest_37 rfl hl (by decide) rfl (fun ls hl => ?_)
        have L38 : ∀ (n38 : Nat) (x3_38 : Int32) (x1_38 : Int64), f_X7_digest_L38 a b D I_2 n38 x3_38 x1_38 = some (rr, I9, D9) → ∀ (H : Heap) (locs : List Loc) (ls : Array Slot), va_P (dC, dI) vwCl (iwM L a b ad cy I_2 D) H → va_S A s.heap H locs → lv_has ls 5 [(3, .int x3_38), (1, .long x1_38), (0, .ref (ad 0))] → ∀ (cu38 su38 : Nat), cu38 + n38 * 10 ≤ 83 → su38 + n38 * 90 ≤ 786 → W p l e (headSpec wsX7_digest ({ frames := 15, cells := 206, slots := 1636, locals := 410 })).room s m ([.ref (ad 0)] : List Value).toArray below meth c H locs cu38 su38 (MQ below (va_Ql (fun r (_ : Unit) => rr = r) (fun _ t => wM dC dI L a b ad cy I9 D9 t) A) ([.ref (ad 0)] : List Value).toArray s 206 1636 A) (F0 m 38 ls []) := by
          intro n38
          induction n38 with
          | zero => intro x3_38 x1_38 hf; exact nomatch hf
          | succ n38 ih38 =>
            intro x3_38 x1_38 hf H locs ls hP hS hl cu38 su38 hcu38 hsu38
            unfold f_X7_digest_L38 at hf
            refine lv_iload_n hx hb dX7_digest_38 rfl (lv_at hl 0 rfl) ?_
            refine lv_aload_n hx hb dX7_digest_39 rfl (lv_at hl 2 rfl) ?_
            obtain ⟨q_4, wq_4, heq_4⟩ := heM_0 (cy := cy) (I := I_2) (D := D) hM
            refine va_get (D := (dC, dI)) (ci := 8) (v := .ref (ad 2)) (C := RX7) (T := TX7) (N := 9) hx hb hts iX7_digest_RX7 hown hK hP q_4 heq_4 rfl 2 (by decide) (hts (.fieldLink RX7 16 "OverrunHouseModel" "mixes" "Ljava/util/List;") (List.mem_cons_of_mem _ (List.mem_append_left _ (List.mem_append_left _ (List.mem_append_left _ (List.mem_append_left _ (List.mem_append_left _ (List.mem_of_getElem? (i := 3) rfl)))))))) (fun _ h9 => h9) rfl dX7_digest_40 ?_
            obtain ⟨r_5, g_6, hf⟩ := bd_out hf
            obtain ⟨q_7, wq_7, heq_7⟩ := heM_2 (cy := cy) (I := I_2) (D := D) hM
            refine va_callFi (va_runF (As := []) (rest := [.int x3_38]) (hK.1 0 _ rfl).2 ⟨hx, hb, hml, hown, hts⟩ (mt_size2 l dC dI L a b ad cy hM H.size I_2 D  r_5 g_6) (va_cwF 0 hts gX7_digest_Jx4a65c_size_8abf5_f36Jx4a65c rfl rfl rfl hN.2.1 (by decide +kernel) ⟨Nat.le_of_ble_eq_true rfl, Nat.le_of_ble_eq_true rfl⟩) ⟨(wM.pre [.ref (ad 2)] hP hK hN).1, wM.recv (C := RJx4a65c) (T := TJx4a65c) (N := 3) hP hK heq_7 rfl, (wM.pre [.ref (ad 2)] hP hK hN).2⟩ rfl rfl hl.1 rfl (lv_room (Nat.le_of_ble_eq_true rfl)) dX7_digest_43 ⟨by show cu38 + 0 ≤ 206; omega, by show su38 + 0 ≤ 1636; omega⟩) hS (fun q _ h => hA q (Nat.le_trans hS.1 h)) (fun q h => hA q (Nat.le_trans hS.1 h)) (fun r9 u t H1 locs ht hvm hw hB hz1 hk1 hS => ?_)
            subst hw
            have hP := va_Pnew hP hk1
            clear hz1 hk1 hvm ht hB
            generalize H1 = H at hP hS ⊢
            refine lv_icmp_ge (tgt := 118) hx hb dX7_digest_48 (by decide) (fun c_8 => ?_) (fun c_8 => ?_)
            · have hf := it_t hf c_8
              refine W.widen (k := 83) (n := 786) (by omega) (by omega) ?_
              refine lv_iconst (v := 0) hx hb dX7_digest_118 (by decide) ?_
              refine lv_istore_n (lv' := [(3, .int 0), (1, .long x1_38), (0, .ref (ad 0))]) hx hb dX7_digest_119 rfl hl (by decide) rfl (fun ls hl => ?_)
              have L120 : ∀ (n120 : Nat) (x3_120 : Int32) (x1_120 : Int64), f_X7_digest_L120 a b D I_2 n120 x3_120 x1_120 = some (rr, I9, D9) → ∀ (H : Heap) (locs : List Loc) (ls : Array Slot), va_P (dC, dI) vwCl (iwM L a b ad cy I_2 D) H → va_S A s.heap H locs → lv_has ls 5 [(3, .int x3_120), (1, .long x1_120), (0, .ref (ad 0))] → ∀ (cu120 su120 : Nat), cu120 + n120 * 7 ≤ 174 → su120 + n120 * 42 ≤ 1332 → W p l e (headSpec wsX7_digest ({ frames := 15, cells := 206, slots := 1636, locals := 410 })).room s m ([.ref (ad 0)] : List Value).toArray below meth c H locs cu120 su120 (MQ below (va_Ql (fun r (_ : Unit) => rr = r) (fun _ t => wM dC dI L a b ad cy I9 D9 t) A) ([.ref (ad 0)] : List Value).toArray s 206 1636 A) (F0 m 120 ls []) := by
                intro n120
                induction n120 with
                | zero => intro x3_120 x1_120 hf; exact nomatch hf
                | succ n120 ih120 =>
                  intro x3_120 x1_120 hf H locs ls hP hS hl cu120 su120 hcu120 hsu120
                  unfold f_X7_digest_L120 at hf
                  refine lv_iload_n hx hb dX7_digest_120 rfl (lv_at hl 0 rfl) ?_
                  refine lv_aload_n hx hb dX7_digest_121 rfl (lv_at hl 2 rfl) ?_
                  obtain ⟨q_9, wq_9, heq_9⟩ := heM_0 (cy := cy) (I := I_2) (D := D) hM
                  refine va_get (D := (dC, dI)) (ci := 8) (v := .ref (ad 5)) (C := RX7) (T := TX7) (N := 9) hx hb hts iX7_digest_RX7 hown hK hP q_9 heq_9 rfl 3 (by decide) (hts (.fieldLink RX7 24 "OverrunHouseModel" "cold" "LOverrunHouseModel$Cold;") (List.mem_cons_of_mem _ (List.mem_append_left _ (List.mem_append_left _ (List.mem_append_left _ (List.mem_append_left _ (List.mem_append_left _ (List.mem_of_getElem? (i := 5) rfl)))))))) (fun _ h9 => h9) rfl dX7_digest_122 ?_
                  obtain ⟨q_10, wq_10, heq_10⟩ := heM_Cold (cy := cy) (I := I_2) (D := D) (a := a) (b := b) (cOK_5 hM)
                  refine va_get (D := (dC, dI)) (ci := 6) (v := .int (I_2 5 0)) (C := RX5) (T := TX5) (N := 10) hx hb hts iX7_digest_RX5 hown hK hP q_10 heq_10 rfl 0 (by decide) (hts (.fieldLink RX7 46 "OverrunHouseModel$Cold" "batches" "I") (List.mem_cons_of_mem _ (List.mem_append_left _ (List.mem_append_left _ (List.mem_append_left _ (List.mem_append_left _ (List.mem_append_left _ (List.mem_of_getElem? (i := 6) rfl)))))))) (fun _ h9 => h9) rfl dX7_digest_125 ?_
                  refine lv_icmp_ge (tgt := 189) hx hb dX7_digest_128 (by decide) (fun c_11 => ?_) (fun c_11 => ?_)
                  · have hf := it_t hf c_11
                    refine W.widen (k := 174) (n := 1332) (by omega) (by omega) ?_
                    refine lv_iconst (v := 0) hx hb dX7_digest_189 (by decide) ?_
                    refine lv_istore_n (lv' := [(3, .int 0), (1, .long x1_120), (0, .ref (ad 0))]) hx hb dX7_digest_190 rfl hl (by decide) rfl (fun ls hl => ?_)
                    have L191 : ∀ (n191 : Nat) (x3_191 : Int32) (x1_191 : Int64) (I_L191 : Nat → Nat → Int32) (D_L191 : Nat → Nat → UInt64), f_X7_digest_L191 a b n191 x3_191 x1_191 I_L191 D_L191 = some (rr, I9, D9) → ∀ (H : Heap) (locs : List Loc) (ls : Array Slot), va_P (dC, dI) vwCl (iwM L a b ad cy I_L191 D_L191) H → va_S A s.heap H locs → lv_has ls 5 [(3, .int x3_191), (1, .long x1_191), (0, .ref (ad 0))] → ∀ (cu191 su191 : Nat), cu191 + n191 * 8 ≤ 206 → su191 + n191 * 76 ≤ 1636 → W p l e (headSpec wsX7_digest ({ frames := 15, cells := 206, slots := 1636, locals := 410 })).room s m ([.ref (ad 0)] : List Value).toArray below meth c H locs cu191 su191 (MQ below (va_Ql (fun r (_ : Unit) => rr = r) (fun _ t => wM dC dI L a b ad cy I9 D9 t) A) ([.ref (ad 0)] : List Value).toArray s 206 1636 A) (F0 m 191 ls []) := by
                      intro n191
                      induction n191 with
                      | zero => intro x3_191 x1_191 I_L191 D_L191 hf; exact nomatch hf
                      | succ n191 ih191 =>
                        intro x3_191 x1_191 I_L191 D_L191 hf H locs ls hP hS hl cu191 su191 hcu191 hsu191
                        unfold f_X7_digest_L191 at hf
                        refine lv_iload_n hx hb dX7_digest_191 rfl (lv_at hl 0 rfl) ?_
                        refine lv_aload_n hx hb dX7_digest_192 rfl (lv_at hl 2 rfl) ?_
                        obtain ⟨q_12, wq_12, heq_12⟩ := heM_0 (cy := cy) (I := I_L191) (D := D_L191) hM
                        refine va_get (D := (dC, dI)) (ci := 8) (v := .ref (ad 5)) (C := RX7) (T := TX7) (N := 9) hx hb hts iX7_digest_RX7 hown hK hP q_12 heq_12 rfl 3 (by decide) (hts (.fieldLink RX7 24 "OverrunHouseModel" "cold" "LOverrunHouseModel$Cold;") (List.mem_cons_of_mem _ (List.mem_append_left _ (List.mem_append_left _ (List.mem_append_left _ (List.mem_append_left _ (List.mem_append_left _ (List.mem_of_getElem? (i := 5) rfl)))))))) (fun _ h9 => h9) rfl dX7_digest_193 ?_
                        obtain ⟨q_13, wq_13, heq_13⟩ := heM_Cold (cy := cy) (I := I_L191) (D := D_L191) (a := a) (b := b) (cOK_5 hM)
                        refine va_get (D := (dC, dI)) (ci := 6) (v := .int (I_L191 5 6)) (C := RX5) (T := TX5) (N := 10) hx hb hts iX7_digest_RX5 hown hK hP q_13 heq_13 rfl 6 (by decide) (hts (.fieldLink RX7 49 "OverrunHouseModel$Cold" "stores" "I") (List.mem_cons_of_mem _ (List.mem_append_left _ (List.mem_append_left _ (List.mem_append_left _ (List.mem_append_left _ (List.mem_append_left _ (List.mem_of_getElem? (i := 9) rfl)))))))) (fun _ h9 => h9) rfl dX7_digest_196 ?_
                        refine lv_icmp_ge (tgt := 244) hx hb dX7_digest_199 (by decide) (fun c_14 => ?_) (fun c_14 => ?_)
                        · have hf := it_t hf c_14
                          refine W.widen (k := 206) (n := 1636) (by omega) (by omega) ?_
                          refine lv_iconst (v := 1) hx hb dX7_digest_244 (by decide) ?_
                          refine lv_aload_n hx hb dX7_digest_245 rfl (lv_at hl 2 rfl) ?_
                          obtain ⟨q_15, wq_15, heq_15⟩ := heM_0 (cy := cy) (I := I_L191) (D := D_L191) hM
                          refine va_get (D := (dC, dI)) (ci := 8) (v := .ref (ad 2)) (C := RX7) (T := TX7) (N := 9) hx hb hts iX7_digest_RX7 hown hK hP q_15 heq_15 rfl 2 (by decide) (hts (.fieldLink RX7 16 "OverrunHouseModel" "mixes" "Ljava/util/List;") (List.mem_cons_of_mem _ (List.mem_append_left _ (List.mem_append_left _ (List.mem_append_left _ (List.mem_append_left _ (List.mem_append_left _ (List.mem_of_getElem? (i := 3) rfl)))))))) (fun _ h9 => h9) rfl dX7_digest_246 ?_
                          obtain ⟨r_16, g_17, hf⟩ := bd_out hf
                          obtain ⟨q_18, wq_18, heq_18⟩ := heM_2 (cy := cy) (I := I_L191) (D := D_L191) hM
                          refine va_callFi (va_runF (As := []) (rest := [.int 1]) (hK.1 0 _ rfl).2 ⟨hx, hb, hml, hown, hts⟩ (mt_size2 l dC dI L a b ad cy hM H.size I_L191 D_L191  r_16 g_17) (va_cwF 0 hts gX7_digest_Jx4a65c_size_8abf5_f36Jx4a65c rfl rfl rfl hN.2.1 (by decide +kernel) ⟨Nat.le_of_ble_eq_true rfl, Nat.le_of_ble_eq_true rfl⟩) ⟨(wM.pre [.ref (ad 2)] hP hK hN).1, wM.recv (C := RJx4a65c) (T := TJx4a65c) (N := 3) hP hK heq_18 rfl, (wM.pre [.ref (ad 2)] hP hK hN).2⟩ rfl rfl hl.1 rfl (lv_room (Nat.le_of_ble_eq_true rfl)) dX7_digest_249 ⟨Nat.le_of_ble_eq_true rfl, Nat.le_of_ble_eq_true rfl⟩) hS (fun q _ h => hA q (Nat.le_trans hS.1 h)) (fun q h => hA q (Nat.le_trans hS.1 h)) (fun r9 u t H1 locs ht hvm hw hB hz1 hk1 hS => ?_)
                          subst hw
                          have hP := va_Pnew hP hk1
                          clear hz1 hk1 hvm ht hB
                          generalize H1 = H at hP hS ⊢
                          refine lv_ishl hx hb dX7_digest_254 ?_
                          refine lv_iconst (v := 1) hx hb dX7_digest_255 (by decide) ?_
                          refine lv_isub hx hb dX7_digest_256 ?_
                          refine lv_istore_n (lv' := [(3, .int ((1 <<< (r_16 &&& 31)) - 1)), (1, .long x1_191), (0, .ref (ad 0))]) hx hb dX7_digest_257 rfl hl (by decide) rfl (fun ls hl => ?_)
                          refine lv_lload_n hx hb dX7_digest_258 rfl (lv_at hl 1 rfl) ?_
                          refine lv_ldc2 (v := 31) hx hb hown (hts (.constantLong RX7 227 (31)) (List.mem_cons_of_mem _ (List.mem_append_left _ (List.mem_append_left _ (List.mem_append_left _ (List.mem_append_left _ (List.mem_append_left _ (List.mem_of_getElem? (i := 2) rfl)))))))) dX7_digest_259 ?_
                          refine lv_lmul hx hb dX7_digest_262 ?_
                          refine lv_aload_n hx hb dX7_digest_263 rfl (lv_at hl 2 rfl) ?_
                          refine lv_iload_n hx hb dX7_digest_264 rfl (lv_at hl 0 rfl) ?_
                          refine lv_iconst (v := 1) hx hb dX7_digest_265 (by decide) ?_
                          obtain ⟨r_19, g_20, hf⟩ := bd_out hf
                          obtain ⟨q_21, wq_21, heq_21⟩ := heM_0 (cy := cy) (I := I_L191) (D := D_L191) hM
                          refine va_calli (va_runV (As := [.int ((1 <<< (r_16 &&& 31)) - 1), .int 1]) (rest := [.long (x1_191 * (31 : Int64))]) ⟨hx, hb, hml, hown, hts⟩ (mt_X7_dayNow l dC dI L a b ad cy hM H.size I_L191 D_L191 ((1 <<< (r_16 &&& 31)) - 1) 1 r_19 g_20) (cwV 2 hts gX7_digest_X7_dayNow rfl rfl rfl (by decide +kernel) ⟨Nat.le_of_ble_eq_true rfl, Nat.le_of_ble_eq_true rfl⟩) ⟨(wM.pre [.ref (ad 0), .int ((1 <<< (r_16 &&& 31)) - 1), .int 1] hP hK hN).1, wM.recv (C := RX7) (T := TX7) (N := 9) hP hK heq_21 rfl, (wM.pre [.ref (ad 0), .int ((1 <<< (r_16 &&& 31)) - 1), .int 1] hP hK hN).2⟩ rfl rfl hl.1 rfl (lv_room (Nat.le_of_ble_eq_true rfl)) dX7_digest_266 ⟨Nat.le_of_ble_eq_true rfl, Nat.le_of_ble_eq_true rfl⟩) hS (fun q _ h => hA q (Nat.le_trans hS.1 h)) (fun q h => hA q (Nat.le_trans hS.1 h)) (fun r9 u t H1 locs ht hvm hw hB hz1 hk1 hS => ?_)
                          subst hw
                          have hP := va_Pnew hP hk1
                          clear hz1 hk1 hvm ht hB
                          generalize H1 = H at hP hS ⊢
                          refine lv_i2l (v := (r_19).toInt64) hx hb dX7_digest_269 rfl ?_
                          refine lv_ladd hx hb dX7_digest_270 ?_
                          refine lv_lstore_n (lv' := [(1, .long ((x1_191 * (31 : Int64)) + (r_19).toInt64)), (3, .int ((1 <<< (r_16 &&& 31)) - 1)), (0, .ref (ad 0))]) hx hb dX7_digest_271 rfl hl (by decide) rfl (fun ls hl => ?_)
                          refine lv_lload_n hx hb dX7_digest_272 rfl (lv_at hl 0 rfl) ?_
                          refine lv_ldc2 (v := 31) hx hb hown (hts (.constantLong RX7 227 (31)) (List.mem_cons_of_mem _ (List.mem_append_left _ (List.mem_append_left _ (List.mem_append_left _ (List.mem_append_left _ (List.mem_append_left _ (List.mem_of_getElem? (i := 2) rfl)))))))) dX7_digest_273 ?_
                          refine lv_lmul hx hb dX7_digest_276 ?_
                          refine lv_aload_n hx hb dX7_digest_277 rfl (lv_at hl 2 rfl) ?_
                          refine lv_iload_n hx hb dX7_digest_278 rfl (lv_at hl 1 rfl) ?_
                          refine lv_iconst (v := 0) hx hb dX7_digest_279 (by decide) ?_
                          obtain ⟨r_22, g_23, hf⟩ := bd_out hf
                          obtain ⟨q_24, wq_24, heq_24⟩ := heM_0 (cy := cy) (I := I_L191) (D := D_L191) hM
                          refine va_calli (va_runV (As := [.int ((1 <<< (r_16 &&& 31)) - 1), .int 0]) (rest := [.long (((x1_191 * (31 : Int64)) + (r_19).toInt64) * (31 : Int64))]) ⟨hx, hb, hml, hown, hts⟩ (mt_X7_dayNow l dC dI L a b ad cy hM H.size I_L191 D_L191 ((1 <<< (r_16 &&& 31)) - 1) 0 r_22 g_23) (cwV 2 hts gX7_digest_X7_dayNow rfl rfl rfl (by decide +kernel) ⟨Nat.le_of_ble_eq_true rfl, Nat.le_of_ble_eq_true rfl⟩) ⟨(wM.pre [.ref (ad 0), .int ((1 <<< (r_16 &&& 31)) - 1), .int 0] hP hK hN).1, wM.recv (C := RX7) (T := TX7) (N := 9) hP hK heq_24 rfl, (wM.pre [.ref (ad 0), .int ((1 <<< (r_16 &&& 31)) - 1), .int 0] hP hK hN).2⟩ rfl rfl hl.1 rfl (lv_room (Nat.le_of_ble_eq_true rfl)) dX7_digest_280 ⟨Nat.le_of_ble_eq_true rfl, Nat.le_of_ble_eq_true rfl⟩) hS (fun q _ h => hA q (Nat.le_trans hS.1 h)) (fun q h => hA q (Nat.le_trans hS.1 h)) (fun r9 u t H1 locs ht hvm hw hB hz1 hk1 hS => ?_)
                          subst hw
                          have hP := va_Pnew hP hk1
                          clear hz1 hk1 hvm ht hB
                          generalize H1 = H at hP hS ⊢
                          refine lv_i2l (v := (r_22).toInt64) hx hb dX7_digest_283 rfl ?_
                          refine lv_ladd hx hb dX7_digest_284 ?_
                          have hf := Option.some.inj hf
                          obtain ⟨q1, q2⟩ := Prod.mk.inj hf
                          obtain ⟨q2, q3⟩ := Prod.mk.inj q2
                          rw [q2, q3] at hP
                          exact W.lret (v := ((((x1_191 * (31 : Int64)) + (r_19).toInt64) * (31 : Int64)) + (r_22).toInt64)) hx hb hr (fun t ht hW9 => ⟨⟨((((x1_191 * (31 : Int64)) + (r_19).toInt64) * (31 : Int64)) + (r_22).toInt64), (), rfl, q1.symm, wM.of hP hK hN ht hW9⟩, hS.F ht⟩) hS.2.2 dX7_digest_285
                        · have hf := it_f hf c_14
                          refine lv_lload_n hx hb dX7_digest_202 rfl (lv_at hl 1 rfl) ?_
                          refine lv_ldc2 (v := 31) hx hb hown (hts (.constantLong RX7 227 (31)) (List.mem_cons_of_mem _ (List.mem_append_left _ (List.mem_append_left _ (List.mem_append_left _ (List.mem_append_left _ (List.mem_append_left _ (List.mem_of_getElem? (i := 2) rfl)))))))) dX7_digest_203 ?_
                          refine lv_lmul hx hb dX7_digest_206 ?_
                          refine lv_aload_n hx hb dX7_digest_207 rfl (lv_at hl 2 rfl) ?_
                          obtain ⟨q_25, wq_25, heq_25⟩ := heM_0 (cy := cy) (I := I_L191) (D := D_L191) hM
                          refine va_get (D := (dC, dI)) (ci := 8) (v := .ref (ad 5)) (C := RX7) (T := TX7) (N := 9) hx hb hts iX7_digest_RX7 hown hK hP q_25 heq_25 rfl 3 (by decide) (hts (.fieldLink RX7 24 "OverrunHouseModel" "cold" "LOverrunHouseModel$Cold;") (List.mem_cons_of_mem _ (List.mem_append_left _ (List.mem_append_left _ (List.mem_append_left _ (List.mem_append_left _ (List.mem_append_left _ (List.mem_of_getElem? (i := 5) rfl)))))))) (fun _ h9 => h9) rfl dX7_digest_208 ?_
                          obtain ⟨q_26, wq_26, heq_26⟩ := heM_Cold (cy := cy) (I := I_L191) (D := D_L191) (a := a) (b := b) (cOK_5 hM)
                          refine va_get (D := (dC, dI)) (ci := 6) (v := .ref (ad (5 + 7))) (C := RX5) (T := TX5) (N := 10) hx hb hts iX7_digest_RX5 hown hK hP q_26 heq_26 rfl 8 (by decide) (hts (.fieldLink RX7 146 "OverrunHouseModel$Cold" "temp" "[D") (List.mem_cons_of_mem _ (List.mem_append_left _ (List.mem_append_left _ (List.mem_append_left _ (List.mem_append_left _ (List.mem_append_left _ (List.mem_of_getElem? (i := 10) rfl)))))))) (fun _ h9 => h9) rfl dX7_digest_211 ?_
                          refine lv_iload_n hx hb dX7_digest_214 rfl (lv_at hl 0 rfl) ?_
                          obtain ⟨q_27, wq_27, heq_27⟩ := heM_Temp (cy := cy) (I := I_L191) (D := D_L191) (a := a) (b := b) (cOK_5 hM)
                          obtain ⟨h_28, hf⟩ := ck_out hf
                          refine va_dald (n := 3) (f := D_L191 (5 + 7)) hx hb hK hP q_27 6 heq_27 rfl (inB_in h_28) dX7_digest_215 ?_
                          refine lv_ldc2d (v := 4620693217682128896) hx hb hown (hts (.constantDouble RX7 229 (4620693217682128896)) (List.mem_cons_of_mem _ (List.mem_append_left _ (List.mem_append_left _ (List.mem_append_left _ (List.mem_append_left _ (List.mem_append_left _ (List.mem_of_getElem? (i := 8) rfl)))))))) dX7_digest_216 ?_
                          obtain ⟨h_29, hf⟩ := ck_out hf
                          refine lv_dmul hx hb dX7_digest_219 (okD_n h_29) ?_
                          refine lv_d2i hx hb dX7_digest_220 ?_
                          refine lv_i2l (v := ((FP.d2i (FP.dmul (D_L191 (5 + 7) (x3_191).toNatClampNeg) (4620693217682128896 : UInt64)))).toInt64) hx hb dX7_digest_221 rfl ?_
                          refine lv_ladd hx hb dX7_digest_222 ?_
                          refine lv_lstore_n (lv' := [(1, .long ((x1_191 * (31 : Int64)) + ((FP.d2i (FP.dmul (D_L191 (5 + 7) (x3_191).toNatClampNeg) (4620693217682128896 : UInt64)))).toInt64)), (3, .int x3_191), (0, .ref (ad 0))]) hx hb dX7_digest_223 rfl hl (by decide) rfl (fun ls hl => ?_)
                          refine lv_lload_n hx hb dX7_digest_224 rfl (lv_at hl 0 rfl) ?_
                          refine lv_ldc2 (v := 31) hx hb hown (hts (.constantLong RX7 227 (31)) (List.mem_cons_of_mem _ (List.mem_append_left _ (List.mem_append_left _ (List.mem_append_left _ (List.mem_append_left _ (List.mem_append_left _ (List.mem_of_getElem? (i := 2) rfl)))))))) dX7_digest_225 ?_
                          refine lv_lmul hx hb dX7_digest_228 ?_
                          refine lv_aload_n hx hb dX7_digest_229 rfl (lv_at hl 2 rfl) ?_
                          refine lv_iload_n hx hb dX7_digest_230 rfl (lv_at hl 1 rfl) ?_
                          refine lv_iconst (v := 0) hx hb dX7_digest_231 (by decide) ?_
                          obtain ⟨⟨r_30, I_32, D_33⟩, g_31, hf⟩ := bd_out hf
                          obtain ⟨q_34, wq_34, heq_34⟩ := heM_0 (cy := cy) (I := I_L191) (D := D_L191) hM
                          have hAW : ∀ q, AM L ad H.size q → A q := fun q h => h.elim (fun ⟨k, k1, k2⟩ => k2 ▸ hAL k k1) (fun h => hA q (Nat.le_trans hS.1 h))
                          refine va_calli (va_runV (As := [.int x3_191, .int 0]) (rest := [.long (((x1_191 * (31 : Int64)) + ((FP.d2i (FP.dmul (D_L191 (5 + 7) (x3_191).toNatClampNeg) (4620693217682128896 : UInt64)))).toInt64) * (31 : Int64))]) ⟨hx, hb, hml, hown, hts⟩ (mt_X7_spoilNow l dC dI L a b ad cy hM h30 H.size I_L191 D_L191 x3_191 0 r_30 I_32 D_33 g_31) (cwV 2 hts gX7_digest_X7_spoilNow rfl rfl rfl (by decide +kernel) ⟨Nat.le_of_ble_eq_true rfl, Nat.le_of_ble_eq_true rfl⟩) ⟨(wM.pre [.ref (ad 0), .int x3_191, .int 0] hP hK hN).1, wM.recv (C := RX7) (T := TX7) (N := 9) hP hK heq_34 rfl, (wM.pre [.ref (ad 0), .int x3_191, .int 0] hP hK hN).2⟩ rfl rfl hl.1 rfl (lv_room (Nat.le_of_ble_eq_true rfl)) dX7_digest_232 ⟨by show cu191 + 8 ≤ 206; omega, by show su191 + 76 ≤ 1636; omega⟩) hS (fun q _ h => hAW q h) hAW (fun r9 u t H1 locs ht hvm hw hB hz1 hk1 hS => ?_)
                          subst hw
                          have hP : va_P (dC, dI) vwCl (iwM L a b ad cy I_32 D_33) H1 := by rw [← ht]; exact hB.1
                          clear hz1 hk1 hvm ht hB
                          generalize H1 = H at hP hS ⊢
                          refine lv_i2l (v := (r_30).toInt64) hx hb dX7_digest_235 rfl ?_
                          refine lv_ladd hx hb dX7_digest_236 ?_
                          refine lv_lstore_n (lv' := [(1, .long ((((x1_191 * (31 : Int64)) + ((FP.d2i (FP.dmul (D_L191 (5 + 7) (x3_191).toNatClampNeg) (4620693217682128896 : UInt64)))).toInt64) * (31 : Int64)) + (r_30).toInt64)), (3, .int x3_191), (0, .ref (ad 0))]) hx hb dX7_digest_237 rfl hl (by decide) rfl (fun ls hl => ?_)
                          refine lv_iinc (v := (x3_191 + 1)) (lv' := [(3, .int (x3_191 + 1)), (1, .long ((((x1_191 * (31 : Int64)) + ((FP.d2i (FP.dmul (D_L191 (5 + 7) (x3_191).toNatClampNeg) (4620693217682128896 : UInt64)))).toInt64) * (31 : Int64)) + (r_30).toInt64)), (0, .ref (ad 0))]) hx hb dX7_digest_238 hl (k := 1) rfl rfl (by decide) rfl (fun ls hl => ?_)
                          refine lv_goto (tgt := 191) hx hb dX7_digest_241 (by decide) ?_
                          exact ih191 (x3_191 + 1) ((((x1_191 * (31 : Int64)) + ((FP.d2i (FP.dmul (D_L191 (5 + 7) (x3_191).toNatClampNeg) (4620693217682128896 : UInt64)))).toInt64) * (31 : Int64)) + (r_30).toInt64) I_32 D_33 hf _ _ _ hP hS (lv_sub hl [0, 1, 2] rfl) _ _ (by omega) (by omega)
                    exact L191 4 0 x1_120 I_2 D hf _ _ _ hP hS (lv_sub hl [0, 1, 2] rfl) _ _ (by omega) (by omega)
                  · have hf := it_f hf c_11
                    refine lv_iconst (v := 0) hx hb dX7_digest_131 (by decide) ?_
                    refine lv_istore (lv' := [(4, .int 0), (3, .int x3_120), (1, .long x1_120), (0, .ref (ad 0))]) hx hb dX7_digest_132 hl (by decide) rfl (fun ls hl => ?_)
                    have L134 : ∀ (n134 : Nat) (x4_134 : Int32) (x1_134 : Int64), f_X7_digest_L134 (f_X7_digest_L120 a b D I_2 n120) a b D I_2 x3_120 n134 x4_134 x1_134 = some (rr, I9, D9) → ∀ (H : Heap) (locs : List Loc) (ls : Array Slot), va_P (dC, dI) vwCl (iwM L a b ad cy I_2 D) H → va_S A s.heap H locs → lv_has ls 5 [(4, .int x4_134), (3, .int x3_120), (1, .long x1_134), (0, .ref (ad 0))] → ∀ (cu134 su134 : Nat), cu134 + n134 * 1 ≤ cu120 + 7 → su134 + n134 * 6 ≤ su120 + 42 → W p l e (headSpec wsX7_digest ({ frames := 15, cells := 206, slots := 1636, locals := 410 })).room s m ([.ref (ad 0)] : List Value).toArray below meth c H locs cu134 su134 (MQ below (va_Ql (fun r (_ : Unit) => rr = r) (fun _ t => wM dC dI L a b ad cy I9 D9 t) A) ([.ref (ad 0)] : List Value).toArray s 206 1636 A) (F0 m 134 ls []) := by
                      intro n134
                      induction n134 with
                      | zero => intro x4_134 x1_134 hf; exact nomatch hf
                      | succ n134 ih134 =>
                        intro x4_134 x1_134 hf H locs ls hP hS hl cu134 su134 hcu134 hsu134
                        unfold f_X7_digest_L134 at hf
                        refine lv_iload hx hb dX7_digest_134 (lv_at hl 0 rfl) ?_
                        refine lv_iconst (v := 5) hx hb dX7_digest_136 (by decide) ?_
                        refine lv_icmp_gt (tgt := 161) hx hb dX7_digest_137 (by decide) (fun c_35 => ?_) (fun c_35 => ?_)
                        · have hf := it_t hf c_35
                          refine W.widen (k := cu120 + 7) (n := su120 + 42) (by omega) (by omega) ?_
                          refine lv_lload_n hx hb dX7_digest_161 rfl (lv_at hl 2 rfl) ?_
                          refine lv_ldc2 (v := 31) hx hb hown (hts (.constantLong RX7 227 (31)) (List.mem_cons_of_mem _ (List.mem_append_left _ (List.mem_append_left _ (List.mem_append_left _ (List.mem_append_left _ (List.mem_append_left _ (List.mem_of_getElem? (i := 2) rfl)))))))) dX7_digest_162 ?_
                          refine lv_lmul hx hb dX7_digest_165 ?_
                          refine lv_aload_n hx hb dX7_digest_166 rfl (lv_at hl 3 rfl) ?_
                          obtain ⟨q_36, wq_36, heq_36⟩ := heM_0 (cy := cy) (I := I_2) (D := D) hM
                          refine va_get (D := (dC, dI)) (ci := 8) (v := .ref (ad 5)) (C := RX7) (T := TX7) (N := 9) hx hb hts iX7_digest_RX7 hown hK hP q_36 heq_36 rfl 3 (by decide) (hts (.fieldLink RX7 24 "OverrunHouseModel" "cold" "LOverrunHouseModel$Cold;") (List.mem_cons_of_mem _ (List.mem_append_left _ (List.mem_append_left _ (List.mem_append_left _ (List.mem_append_left _ (List.mem_append_left _ (List.mem_of_getElem? (i := 5) rfl)))))))) (fun _ h9 => h9) rfl dX7_digest_167 ?_
                          obtain ⟨q_37, wq_37, heq_37⟩ := heM_Cold (cy := cy) (I := I_2) (D := D) (a := a) (b := b) (cOK_5 hM)
                          refine va_get (D := (dC, dI)) (ci := 6) (v := .ref (ad (5 + 5))) (C := RX5) (T := TX5) (N := 10) hx hb hts iX7_digest_RX5 hown hK hP q_37 heq_37 rfl 5 (by decide) (hts (.fieldLink RX7 126 "OverrunHouseModel$Cold" "crystal" "[D") (List.mem_cons_of_mem _ (List.mem_append_left _ (List.mem_append_left _ (List.mem_append_left _ (List.mem_append_left _ (List.mem_append_left _ (List.mem_of_getElem? (i := 7) rfl)))))))) (fun _ h9 => h9) rfl dX7_digest_170 ?_
                          refine lv_iload_n hx hb dX7_digest_173 rfl (lv_at hl 1 rfl) ?_
                          obtain ⟨q_38, wq_38, heq_38⟩ := heM_Crystal (cy := cy) (I := I_2) (D := D) (a := a) (b := b) (cOK_5 hM)
                          obtain ⟨h_39, hf⟩ := ck_out hf
                          refine va_dald (n := 12) (f := D (5 + 5)) hx hb hK hP q_38 6 heq_38 rfl (inB_in h_39) dX7_digest_174 ?_
                          refine lv_ldc2d (v := 4620693217682128896) hx hb hown (hts (.constantDouble RX7 229 (4620693217682128896)) (List.mem_cons_of_mem _ (List.mem_append_left _ (List.mem_append_left _ (List.mem_append_left _ (List.mem_append_left _ (List.mem_append_left _ (List.mem_of_getElem? (i := 8) rfl)))))))) dX7_digest_175 ?_
                          obtain ⟨h_40, hf⟩ := ck_out hf
                          refine lv_dmul hx hb dX7_digest_178 (okD_n h_40) ?_
                          refine lv_d2i hx hb dX7_digest_179 ?_
                          refine lv_i2l (v := ((FP.d2i (FP.dmul (D (5 + 5) (x3_120).toNatClampNeg) (4620693217682128896 : UInt64)))).toInt64) hx hb dX7_digest_180 rfl ?_
                          refine lv_ladd hx hb dX7_digest_181 ?_
                          refine lv_lstore_n (lv' := [(1, .long ((x1_134 * (31 : Int64)) + ((FP.d2i (FP.dmul (D (5 + 5) (x3_120).toNatClampNeg) (4620693217682128896 : UInt64)))).toInt64)), (4, .int x4_134), (3, .int x3_120), (0, .ref (ad 0))]) hx hb dX7_digest_182 rfl hl (by decide) rfl (fun ls hl => ?_)
                          refine lv_iinc (v := (x3_120 + 1)) (lv' := [(3, .int (x3_120 + 1)), (1, .long ((x1_134 * (31 : Int64)) + ((FP.d2i (FP.dmul (D (5 + 5) (x3_120).toNatClampNeg) (4620693217682128896 : UInt64)))).toInt64)), (4, .int x4_134), (0, .ref (ad 0))]) hx hb dX7_digest_183 hl (k := 2) rfl rfl (by decide) rfl (fun ls hl => ?_)
                          refine lv_goto (tgt := 120) hx hb dX7_digest_186 (by decide) ?_
                          exact ih120 (x3_120 + 1) ((x1_134 * (31 : Int64)) + ((FP.d2i (FP.dmul (D (5 + 5) (x3_120).toNatClampNeg) (4620693217682128896 : UInt64)))).toInt64) hf _ _ _ hP hS (lv_sub hl [0, 1, 3] rfl) _ _ (by omega) (by omega)
                        · have hf := it_f hf c_35
                          refine lv_lload_n hx hb dX7_digest_140 rfl (lv_at hl 2 rfl) ?_
                          refine lv_ldc2 (v := 31) hx hb hown (hts (.constantLong RX7 227 (31)) (List.mem_cons_of_mem _ (List.mem_append_left _ (List.mem_append_left _ (List.mem_append_left _ (List.mem_append_left _ (List.mem_append_left _ (List.mem_of_getElem? (i := 2) rfl)))))))) dX7_digest_141 ?_
                          refine lv_lmul hx hb dX7_digest_144 ?_
                          refine lv_aload_n hx hb dX7_digest_145 rfl (lv_at hl 3 rfl) ?_
                          refine lv_iload_n hx hb dX7_digest_146 rfl (lv_at hl 1 rfl) ?_
                          refine lv_iload hx hb dX7_digest_147 (lv_at hl 0 rfl) ?_
                          obtain ⟨r_41, g_42, hf⟩ := bd_out hf
                          obtain ⟨q_43, wq_43, heq_43⟩ := heM_0 (cy := cy) (I := I_2) (D := D) hM
                          refine va_calli (va_runV (As := [.int x3_120, .int x4_134]) (rest := [.long (x1_134 * (31 : Int64))]) ⟨hx, hb, hml, hown, hts⟩ (mt_X7_batchNow l dC dI L a b ad cy hM H.size I_2 D x3_120 x4_134 r_41 g_42) (cwV 2 hts gX7_digest_X7_batchNow rfl rfl rfl (by decide +kernel) ⟨Nat.le_of_ble_eq_true rfl, Nat.le_of_ble_eq_true rfl⟩) ⟨(wM.pre [.ref (ad 0), .int x3_120, .int x4_134] hP hK hN).1, wM.recv (C := RX7) (T := TX7) (N := 9) hP hK heq_43 rfl, (wM.pre [.ref (ad 0), .int x3_120, .int x4_134] hP hK hN).2⟩ rfl rfl hl.1 rfl (lv_room (Nat.le_of_ble_eq_true rfl)) dX7_digest_149 ⟨by show cu134 + 1 ≤ 206; omega, by show su134 + 6 ≤ 1636; omega⟩) hS (fun q _ h => hA q (Nat.le_trans hS.1 h)) (fun q h => hA q (Nat.le_trans hS.1 h)) (fun r9 u t H1 locs ht hvm hw hB hz1 hk1 hS => ?_)
                          subst hw
                          have hP := va_Pnew hP hk1
                          clear hz1 hk1 hvm ht hB
                          generalize H1 = H at hP hS ⊢
                          refine lv_i2l (v := (r_41).toInt64) hx hb dX7_digest_152 rfl ?_
                          refine lv_ladd hx hb dX7_digest_153 ?_
                          refine lv_lstore_n (lv' := [(1, .long ((x1_134 * (31 : Int64)) + (r_41).toInt64)), (4, .int x4_134), (3, .int x3_120), (0, .ref (ad 0))]) hx hb dX7_digest_154 rfl hl (by decide) rfl (fun ls hl => ?_)
                          refine lv_iinc (v := (x4_134 + 1)) (lv' := [(4, .int (x4_134 + 1)), (1, .long ((x1_134 * (31 : Int64)) + (r_41).toInt64)), (3, .int x3_120), (0, .ref (ad 0))]) hx hb dX7_digest_155 hl (k := 1) rfl rfl (by decide) rfl (fun ls hl => ?_)
                          refine lv_goto (tgt := 134) hx hb dX7_digest_158 (by decide) ?_
                          exact ih134 (x4_134 + 1) ((x1_134 * (31 : Int64)) + (r_41).toInt64) hf _ _ _ hP hS (lv_sub hl [0, 2, 1, 3] rfl) _ _ (by omega) (by omega)
                    exact L134 7 0 x1_120 hf _ _ _ hP hS (lv_sub hl [0, 1, 2, 3] rfl) _ _ (by omega) (by omega)
              exact L120 13 0 x1_38 hf _ _ _ hP hS (lv_sub hl [0, 1, 2] rfl) _ _ (by omega) (by omega)
            · have hf := it_f hf c_8
              refine lv_iconst (v := 0) hx hb dX7_digest_51 (by decide) ?_
              refine lv_istore (lv' := [(4, .int 0), (3, .int x3_38), (1, .long x1_38), (0, .ref (ad 0))]) hx hb dX7_digest_52 hl (by decide) rfl (fun ls hl => ?_)
              have L54 : ∀ (n54 : Nat) (x4_54 : Int32) (x1_54 : Int64), f_X7_digest_L54 (f_X7_digest_L38 a b D I_2 n38) a b D I_2 x3_38 n54 x4_54 x1_54 = some (rr, I9, D9) → ∀ (H : Heap) (locs : List Loc) (ls : Array Slot), va_P (dC, dI) vwCl (iwM L a b ad cy I_2 D) H → va_S A s.heap H locs → lv_has ls 5 [(4, .int x4_54), (3, .int x3_38), (1, .long x1_54), (0, .ref (ad 0))] → ∀ (cu54 su54 : Nat), cu54 + n54 * 1 ≤ cu38 + 10 → su54 + n54 * 9 ≤ su38 + 90 → W p l e (headSpec wsX7_digest ({ frames := 15, cells := 206, slots := 1636, locals := 410 })).room s m ([.ref (ad 0)] : List Value).toArray below meth c H locs cu54 su54 (MQ below (va_Ql (fun r (_ : Unit) => rr = r) (fun _ t => wM dC dI L a b ad cy I9 D9 t) A) ([.ref (ad 0)] : List Value).toArray s 206 1636 A) (F0 m 54 ls []) := by
                intro n54
                induction n54 with
                | zero => intro x4_54 x1_54 hf; exact nomatch hf
                | succ n54 ih54 =>
                  intro x4_54 x1_54 hf H locs ls hP hS hl cu54 su54 hcu54 hsu54
                  unfold f_X7_digest_L54 at hf
                  refine lv_iload hx hb dX7_digest_54 (lv_at hl 0 rfl) ?_
                  refine lv_bipush (v := 8) hx hb dX7_digest_56 (by decide) ?_
                  refine lv_icmp_gt (tgt := 82) hx hb dX7_digest_58 (by decide) (fun c_44 => ?_) (fun c_44 => ?_)
                  · have hf := it_t hf c_44
                    refine W.widen (k := cu38 + 10) (n := su38 + 90) (by omega) (by omega) ?_
                    refine lv_lload_n hx hb dX7_digest_82 rfl (lv_at hl 2 rfl) ?_
                    refine lv_ldc2 (v := 31) hx hb hown (hts (.constantLong RX7 227 (31)) (List.mem_cons_of_mem _ (List.mem_append_left _ (List.mem_append_left _ (List.mem_append_left _ (List.mem_append_left _ (List.mem_append_left _ (List.mem_of_getElem? (i := 2) rfl)))))))) dX7_digest_83 ?_
                    refine lv_lmul hx hb dX7_digest_86 ?_
                    refine lv_aload_n hx hb dX7_digest_87 rfl (lv_at hl 3 rfl) ?_
                    refine lv_iconst (v := 0) hx hb dX7_digest_88 (by decide) ?_
                    refine lv_aload_n hx hb dX7_digest_89 rfl (lv_at hl 3 rfl) ?_
                    obtain ⟨q_45, wq_45, heq_45⟩ := heM_0 (cy := cy) (I := I_2) (D := D) hM
                    refine va_get (D := (dC, dI)) (ci := 8) (v := .ref (ad 2)) (C := RX7) (T := TX7) (N := 9) hx hb hts iX7_digest_RX7 hown hK hP q_45 heq_45 rfl 2 (by decide) (hts (.fieldLink RX7 16 "OverrunHouseModel" "mixes" "Ljava/util/List;") (List.mem_cons_of_mem _ (List.mem_append_left _ (List.mem_append_left _ (List.mem_append_left _ (List.mem_append_left _ (List.mem_append_left _ (List.mem_of_getElem? (i := 3) rfl)))))))) (fun _ h9 => h9) rfl dX7_digest_90 ?_
                    refine lv_iload_n hx hb dX7_digest_93 rfl (lv_at hl 1 rfl) ?_
                    obtain ⟨r_46, g_47, hf⟩ := bd_out hf
                    obtain ⟨q_48, wq_48, heq_48⟩ := heM_2 (cy := cy) (I := I_2) (D := D) hM
                    refine va_callFr (va_runF (As := [.int x3_38]) (rest := [.int 0, .ref (ad 0), .long (x1_54 * (31 : Int64))]) (hK.1 0 _ rfl).2 ⟨hx, hb, hml, hown, hts⟩ (mt_get2 l dC dI L a b ad cy hM H.size I_2 D x3_38 r_46 g_47) (va_cwF 1 hts gX7_digest_Jx4a65c_get_915e3_f55Jx4a65c rfl rfl rfl hN.2.2.1 (by decide +kernel) ⟨Nat.le_of_ble_eq_true rfl, Nat.le_of_ble_eq_true rfl⟩) ⟨(wM.pre [.ref (ad 2), .int x3_38] hP hK hN).1, wM.recv (C := RJx4a65c) (T := TJx4a65c) (N := 3) hP hK heq_48 rfl, (wM.pre [.ref (ad 2), .int x3_38] hP hK hN).2⟩ rfl rfl hl.1 rfl (lv_room (Nat.le_of_ble_eq_true rfl)) dX7_digest_94 ⟨by show cu38 + 10 + 0 ≤ 206; omega, by show su38 + 90 + 0 ≤ 1636; omega⟩) hS (fun q _ h => hA q (Nat.le_trans hS.1 h)) (fun q h => hA q (Nat.le_trans hS.1 h)) (fun u r9 t H1 locs ht hvm hw hB hz1 hk1 hS => ?_)
                    subst hB
                    have hP := va_Pnew hP hk1
                    clear hz1 hk1 hvm ht
                    generalize H1 = H at hP hS ⊢
                    obtain ⟨q_49, wq_49, heq_49⟩ := heM_Mixx (cy := cy) (I := I_2) (D := D) hM (f_get2_lt g_47)
                    refine va_castS hx hb hown (hts (.classLink RX7 59 "OverrunHouseModel$Mix") (List.mem_cons_of_mem _ (List.mem_append_left _ (List.mem_append_left _ (List.mem_append_left _ (List.mem_append_left _ (List.mem_append_left _ (List.mem_of_getElem? (i := 4) rfl)))))))) (hK.1 7 _ rfl).2 (wM.recv (C := RX6) (T := TX6) (N := 5) hP hK heq_49 rfl) dX7_digest_99 ?_
                    refine lv_bipush (v := 20) hx hb dX7_digest_102 (by decide) ?_
                    refine lv_bipush (v := 80) hx hb dX7_digest_104 (by decide) ?_
                    obtain ⟨r_50, g_51, hf⟩ := bd_out hf
                    obtain ⟨q_52, wq_52, heq_52⟩ := heM_0 (cy := cy) (I := I_2) (D := D) hM
                    refine va_calli (va_runV (As := [.int 0, .ref (ad (20 + r_46)), .int 20, .int 80]) (rest := [.long (x1_54 * (31 : Int64))]) ⟨hx, hb, hml, hown, hts⟩ (mt_X7_barsNow l dC dI L a b ad cy hM H.size I_2 D 0 r_46 (f_get2_lt g_47) 20 80 r_50 g_51) (cwV 4 hts gX7_digest_X7_barsNow rfl rfl rfl (by decide +kernel) ⟨Nat.le_of_ble_eq_true rfl, Nat.le_of_ble_eq_true rfl⟩) ⟨(wM.pre [.ref (ad 0), .int 0, .ref (ad (20 + r_46)), .int 20, .int 80] hP hK hN).1, wM.recv (C := RX7) (T := TX7) (N := 9) hP hK heq_52 rfl, (wM.pre [.ref (ad 0), .int 0, .ref (ad (20 + r_46)), .int 20, .int 80] hP hK hN).2⟩ rfl rfl hl.1 rfl (lv_room (Nat.le_of_ble_eq_true rfl)) dX7_digest_106 ⟨by show cu38 + 10 + 0 ≤ 206; omega, by show su38 + 90 + 0 ≤ 1636; omega⟩) hS (fun q _ h => hA q (Nat.le_trans hS.1 h)) (fun q h => hA q (Nat.le_trans hS.1 h)) (fun r9 u t H1 locs ht hvm hw hB hz1 hk1 hS => ?_)
                    subst hw
                    have hP := va_Pnew hP hk1
                    clear hz1 hk1 hvm ht hB
                    generalize H1 = H at hP hS ⊢
                    refine lv_i2l (v := (r_50).toInt64) hx hb dX7_digest_109 rfl ?_
                    refine lv_ladd hx hb dX7_digest_110 ?_
                    refine lv_lstore_n (lv' := [(1, .long ((x1_54 * (31 : Int64)) + (r_50).toInt64)), (4, .int x4_54), (3, .int x3_38), (0, .ref (ad 0))]) hx hb dX7_digest_111 rfl hl (by decide) rfl (fun ls hl => ?_)
                    refine lv_iinc (v := (x3_38 + 1)) (lv' := [(3, .int (x3_38 + 1)), (1, .long ((x1_54 * (31 : Int64)) + (r_50).toInt64)), (4, .int x4_54), (0, .ref (ad 0))]) hx hb dX7_digest_112 hl (k := 2) rfl rfl (by decide) rfl (fun ls hl => ?_)
                    refine lv_goto (tgt := 38) hx hb dX7_digest_115 (by decide) ?_
                    exact ih38 (x3_38 + 1) ((x1_54 * (31 : Int64)) + (r_50).toInt64) hf _ _ _ hP hS (lv_sub hl [0, 1, 3] rfl) _ _ (by omega) (by omega)
                  · have hf := it_f hf c_44
                    refine lv_lload_n hx hb dX7_digest_61 rfl (lv_at hl 2 rfl) ?_
                    refine lv_ldc2 (v := 31) hx hb hown (hts (.constantLong RX7 227 (31)) (List.mem_cons_of_mem _ (List.mem_append_left _ (List.mem_append_left _ (List.mem_append_left _ (List.mem_append_left _ (List.mem_append_left _ (List.mem_of_getElem? (i := 2) rfl)))))))) dX7_digest_62 ?_
                    refine lv_lmul hx hb dX7_digest_65 ?_
                    refine lv_aload_n hx hb dX7_digest_66 rfl (lv_at hl 3 rfl) ?_
                    refine lv_iload_n hx hb dX7_digest_67 rfl (lv_at hl 1 rfl) ?_
                    refine lv_iload hx hb dX7_digest_68 (lv_at hl 0 rfl) ?_
                    obtain ⟨r_53, g_54, hf⟩ := bd_out hf
                    obtain ⟨q_55, wq_55, heq_55⟩ := heM_0 (cy := cy) (I := I_2) (D := D) hM
                    refine va_calli (va_runV (As := [.int x3_38, .int x4_54]) (rest := [.long (x1_54 * (31 : Int64))]) ⟨hx, hb, hml, hown, hts⟩ (mt_X7_mixNow l dC dI L a b ad cy hM H.size I_2 D x3_38 x4_54 r_53 g_54) (cwV 2 hts gX7_digest_X7_mixNow rfl rfl rfl (by decide +kernel) ⟨Nat.le_of_ble_eq_true rfl, Nat.le_of_ble_eq_true rfl⟩) ⟨(wM.pre [.ref (ad 0), .int x3_38, .int x4_54] hP hK hN).1, wM.recv (C := RX7) (T := TX7) (N := 9) hP hK heq_55 rfl, (wM.pre [.ref (ad 0), .int x3_38, .int x4_54] hP hK hN).2⟩ rfl rfl hl.1 rfl (lv_room (Nat.le_of_ble_eq_true rfl)) dX7_digest_70 ⟨by show cu54 + 1 ≤ 206; omega, by show su54 + 9 ≤ 1636; omega⟩) hS (fun q _ h => hA q (Nat.le_trans hS.1 h)) (fun q h => hA q (Nat.le_trans hS.1 h)) (fun r9 u t H1 locs ht hvm hw hB hz1 hk1 hS => ?_)
                    subst hw
                    have hP := va_Pnew hP hk1
                    clear hz1 hk1 hvm ht hB
                    generalize H1 = H at hP hS ⊢
                    refine lv_i2l (v := (r_53).toInt64) hx hb dX7_digest_73 rfl ?_
                    refine lv_ladd hx hb dX7_digest_74 ?_
                    refine lv_lstore_n (lv' := [(1, .long ((x1_54 * (31 : Int64)) + (r_53).toInt64)), (4, .int x4_54), (3, .int x3_38), (0, .ref (ad 0))]) hx hb dX7_digest_75 rfl hl (by decide) rfl (fun ls hl => ?_)
                    refine lv_iinc (v := (x4_54 + 1)) (lv' := [(4, .int (x4_54 + 1)), (1, .long ((x1_54 * (31 : Int64)) + (r_53).toInt64)), (3, .int x3_38), (0, .ref (ad 0))]) hx hb dX7_digest_76 hl (k := 1) rfl rfl (by decide) rfl (fun ls hl => ?_)
                    refine lv_goto (tgt := 54) hx hb dX7_digest_79 (by decide) ?_
                    exact ih54 (x4_54 + 1) ((x1_54 * (31 : Int64)) + (r_53).toInt64) hf _ _ _ hP hS (lv_sub hl [0, 2, 1, 3] rfl) _ _ (by omega) (by omega)
              exact L54 10 0 x1_38 hf _ _ _ hP hS (lv_sub hl [0, 1, 2, 3] rfl) _ _ (by omega) (by omega)
        exact L38 7 0 x1_11 hf _ _ _ hP hS (lv_sub hl [0, 1, 2] rfl) _ _ (by omega) (by omega)
      · have hf := it_f hf c_3
        refine lv_lload_n hx hb dX7_digest_17 rfl (lv_at hl 1 rfl) ?_
        refine lv_ldc2 (v := 31) hx hb hown (hts (.constantLong RX7 227 (31)) (List.mem_cons_of_mem _ (List.mem_append_left _ (List.mem_append_left _ (List.mem_append_left _ (List.mem_append_left _ (List.mem_append_left _ (List.mem_of_getElem? (i := 2) rfl)))))))) dX7_digest_18 ?_
        refine lv_lmul hx hb dX7_digest_21 ?_
        refine lv_aload_n hx hb dX7_digest_22 rfl (lv_at hl 2 rfl) ?_
        refine lv_iload_n hx hb dX7_digest_23 rfl (lv_at hl 0 rfl) ?_
        obtain ⟨r_56, g_57, hf⟩ := bd_out hf
        obtain ⟨q_58, wq_58, heq_58⟩ := heM_0 (cy := cy) (I := I_2) (D := D) hM
        refine va_calli (va_runV (As := [.int x3_11]) (rest := [.long (x1_11 * (31 : Int64))]) ⟨hx, hb, hml, hown, hts⟩ (mt_X7_manyNow l dC dI L a b ad cy hM H.size I_2 D x3_11 r_56 g_57) (cwV 1 hts gX7_digest_X7_manyNow rfl rfl rfl (by decide +kernel) ⟨Nat.le_of_ble_eq_true rfl, Nat.le_of_ble_eq_true rfl⟩) ⟨(wM.pre [.ref (ad 0), .int x3_11] hP hK hN).1, wM.recv (C := RX7) (T := TX7) (N := 9) hP hK heq_58 rfl, (wM.pre [.ref (ad 0), .int x3_11] hP hK hN).2⟩ rfl rfl hl.1 rfl (lv_room (Nat.le_of_ble_eq_true rfl)) dX7_digest_24 ⟨by show cu11 + 1 ≤ 206; omega, by show su11 + 12 ≤ 1636; omega⟩) hS (fun q _ h => hA q (Nat.le_trans hS.1 h)) (fun q h => hA q (Nat.le_trans hS.1 h)) (fun r9 u t H1 locs ht hvm hw hB hz1 hk1 hS => ?_)
        subst hw
        have hP := va_Pnew hP hk1
        clear hz1 hk1 hvm ht hB
        generalize H1 = H at hP hS ⊢
        refine lv_i2l (v := (r_56).toInt64) hx hb dX7_digest_27 rfl ?_
        refine lv_ladd hx hb dX7_digest_28 ?_
        refine lv_lstore_n (lv' := [(1, .long ((x1_11 * (31 : Int64)) + (r_56).toInt64)), (3, .int x3_11), (0, .ref (ad 0))]) hx hb dX7_digest_29 rfl hl (by decide) rfl (fun ls hl => ?_)
        refine lv_iinc (v := (x3_11 + 1)) (lv' := [(3, .int (x3_11 + 1)), (1, .long ((x1_11 * (31 : Int64)) + (r_56).toInt64)), (0, .ref (ad 0))]) hx hb dX7_digest_30 hl (k := 1) rfl rfl (by decide) rfl (fun ls hl => ?_)
        refine lv_goto (tgt := 11) hx hb dX7_digest_33 (by decide) ?_
        exact ih11 (x3_11 + 1) ((x1_11 * (31 : Int64)) + (r_56).toInt64) hf _ _ _ hP hS (lv_sub hl [0, 1, 2] rfl) _ _ (by omega) (by omega)
  exact L11 13 0 (9606 : Int64) hf _ _ _ hP hS (lv_sub hl [0, 1, 2] rfl) _ _ (by omega) (by omega)
