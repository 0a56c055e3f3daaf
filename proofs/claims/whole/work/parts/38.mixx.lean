def xOK (L : List Nat) (k0 : Nat) : Prop := 20 + k0 ∈ L ∧ 25 + k0 ∈ L ∧ k0 < 5
theorem heM_Mixxx {L : List Nat} {a b : Nat} {ad : Nat → Nat} {cy : Nat → ClassId} {I : Nat → Nat → Int32} {D : Nat → Nat → UInt64} {i : Nat} (h : xOK L i) : ∃ q : Nat, L[q]? = some (20 + i) ∧ (iwM L a b ad cy I D)[q]? = some (ad (20 + i), .inr (7, [.ref (ad (25 + i)), .int (I (20 + i) 1), .int (I (20 + i) 2), .int (I (20 + i) 3), .ref (ad 0)])) := heM_at h.1 (cellM_Mixx ad cy a b h.2.2 _ _)
theorem heM_Kilosx {L : List Nat} {a b : Nat} {ad : Nat → Nat} {cy : Nat → ClassId} {I : Nat → Nat → Int32} {D : Nat → Nat → UInt64} {i : Nat} (h : xOK L i) : ∃ q : Nat, L[q]? = some (25 + i) ∧ (iwM L a b ad cy I D)[q]? = some (ad (25 + i), .inl (cy 0, 6, .inl (I (25 + i)))) := heM_at h.2.1 (cellM_Kilos ad cy a b h.2.2 _ _)
theorem cellM_con3 {ad ad' : Nat → Nat} {cy : Nat → ClassId} {a b : Nat} (had : ∀ p, p ≠ 20 + b → p ≠ 25 + b → ad' p = ad p) (ha : a < 7) (hb5 : b < 5) {k : Nat} (hk : k < 30) (h20 : k ≠ 20 + b) (f : Nat → Int32) (d : Nat → UInt64) : cellM ad' cy a b k f d = cellM ad cy a b k f d := by
  match k, hk with
  | 0, _ => exact (by
      show (Sum.inr (8, [.int (f 0), .ref (ad' 1), .ref (ad' 2), .ref (ad' 5), .ref (ad' 13), .int (f 5), .int (f 6), .int (f 7), .int (f 8)]) : va_E) = Sum.inr (8, [.int (f 0), .ref (ad 1), .ref (ad 2), .ref (ad 5), .ref (ad 13), .int (f 5), .int (f 6), .int (f 7), .int (f 8)])
      rw [had 1 (by omega) (by omega), had 2 (by omega) (by omega), had 5 (by omega) (by omega), had 13 (by omega) (by omega)])
  | 1, _ => exact (by
      show (Sum.inr (0, [.int (f 0), .ref (ad' (if f 1 = 0 then 41 else 3)), .int (f 2)]) : va_E) = Sum.inr (0, [.int (f 0), .ref (ad (if f 1 = 0 then 41 else 3)), .int (f 2)])
      by_cases h : f 1 = 0
      · rw [if_pos h, had 41 (by omega) (by omega)]
      · rw [if_neg h, had 3 (by omega) (by omega)])
  | 2, _ => exact (by
      show (Sum.inr (0, [.int (f 0), .ref (ad' (if f 1 = 0 then 41 else 4)), .int (f 2)]) : va_E) = Sum.inr (0, [.int (f 0), .ref (ad (if f 1 = 0 then 41 else 4)), .int (f 2)])
      by_cases h : f 1 = 0
      · rw [if_pos h, had 41 (by omega) (by omega)]
      · rw [if_neg h, had 4 (by omega) (by omega)])
  | 3, _ => exact (by
      show (Sum.inl (cy 7, 10, .inr (.inr (.inr (.inr (fun j => if j < a then some (ad' (14 + j)) else none))))) : va_E) = Sum.inl (cy 7, 10, .inr (.inr (.inr (.inr (fun j => if j < a then some (ad (14 + j)) else none)))))
      rw [show (fun j => if j < a then some (ad' (14 + j)) else none) = (fun j => if j < a then some (ad (14 + j)) else none) from funext fun j => by
        by_cases h : j < a
        · rw [if_pos h, if_pos h, had _ (by omega) (by omega)]
        · rw [if_neg h, if_neg h]])
  | 4, _ => exact (by
      show (Sum.inl (cy 7, 10, .inr (.inr (.inr (.inr (fun j => if j < b then some (ad' (20 + j)) else none))))) : va_E) = Sum.inl (cy 7, 10, .inr (.inr (.inr (.inr (fun j => if j < b then some (ad (20 + j)) else none)))))
      rw [show (fun j => if j < b then some (ad' (20 + j)) else none) = (fun j => if j < b then some (ad (20 + j)) else none) from funext fun j => by
        by_cases h : j < b
        · rw [if_pos h, if_pos h, had _ (by omega) (by omega)]
        · rw [if_neg h, if_neg h]])
  | 5, _ => exact (by
      show (Sum.inr (6, [.int (f 0), .ref (ad' 6), .ref (ad' 7), .ref (ad' 8), .ref (ad' 9), .ref (ad' 10), .int (f 6), .ref (ad' 11), .ref (ad' 12), .ref (ad' 0)]) : va_E) = Sum.inr (6, [.int (f 0), .ref (ad 6), .ref (ad 7), .ref (ad 8), .ref (ad 9), .ref (ad 10), .int (f 6), .ref (ad 11), .ref (ad 12), .ref (ad 0)])
      rw [had 6 (by omega) (by omega), had 7 (by omega) (by omega), had 8 (by omega) (by omega), had 9 (by omega) (by omega), had 10 (by omega) (by omega), had 11 (by omega) (by omega), had 12 (by omega) (by omega), had 0 (by omega) (by omega)])
  | 6, _ => rfl
  | 7, _ => rfl
  | 8, _ => rfl
  | 9, _ => rfl
  | 10, _ => rfl
  | 11, _ => rfl
  | 12, _ => rfl
  | 13, _ => rfl
  | 14, _ => rfl
  | 15, _ => rfl
  | 16, _ => rfl
  | 17, _ => rfl
  | 18, _ => rfl
  | 19, _ => rfl
  | 20, _ => exact (by
      show (Sum.inr (7, [.ref (ad' 25), .int (f 1), .int (f 2), .int (f 3), .ref (ad' 0)]) : va_E) = Sum.inr (7, [.ref (ad 25), .int (f 1), .int (f 2), .int (f 3), .ref (ad 0)])
      rw [had 25 (by omega) (by omega), had 0 (by omega) (by omega)])
  | 21, _ => exact (by
      show (Sum.inr (7, [.ref (ad' 26), .int (f 1), .int (f 2), .int (f 3), .ref (ad' 0)]) : va_E) = Sum.inr (7, [.ref (ad 26), .int (f 1), .int (f 2), .int (f 3), .ref (ad 0)])
      rw [had 26 (by omega) (by omega), had 0 (by omega) (by omega)])
  | 22, _ => exact (by
      show (Sum.inr (7, [.ref (ad' 27), .int (f 1), .int (f 2), .int (f 3), .ref (ad' 0)]) : va_E) = Sum.inr (7, [.ref (ad 27), .int (f 1), .int (f 2), .int (f 3), .ref (ad 0)])
      rw [had 27 (by omega) (by omega), had 0 (by omega) (by omega)])
  | 23, _ => exact (by
      show (Sum.inr (7, [.ref (ad' 28), .int (f 1), .int (f 2), .int (f 3), .ref (ad' 0)]) : va_E) = Sum.inr (7, [.ref (ad 28), .int (f 1), .int (f 2), .int (f 3), .ref (ad 0)])
      rw [had 28 (by omega) (by omega), had 0 (by omega) (by omega)])
  | 24, _ => exact (by
      show (Sum.inr (7, [.ref (ad' 29), .int (f 1), .int (f 2), .int (f 3), .ref (ad' 0)]) : va_E) = Sum.inr (7, [.ref (ad 29), .int (f 1), .int (f 2), .int (f 3), .ref (ad 0)])
      rw [had 29 (by omega) (by omega), had 0 (by omega) (by omega)])
  | 25, _ => rfl
  | 26, _ => rfl
  | 27, _ => rfl
  | 28, _ => rfl
  | 29, _ => rfl
  | k + 30, hk => exact absurd hk (by omega)
/-- a new mix beside the world -/
theorem growX {dC : Nat → ClassId} {dI : Nat → Nat → Nat} {L : List Nat} {a b : Nat} {ad : Nat → Nat} {q0 q1 : Nat} {cy : Nat → ClassId} {I : Nat → Nat → Int32} {D : Nat → Nat → UInt64} {H : Heap} (hM : mOK L a b ad) (hx : ∀ k, k ∈ L → k ∈ mL a b) (hb5 : b < 5) (hP : va_P (dC, dI) vwCl (iwM L a b ad cy I D) H)
    (hP1 : va_P (dC, dI) vwCl [(q0, .inr (7, [.ref q1, .int 0, .int 0, .int 0, .ref (ad 0)])), (q1, .inl (cy 0, 6, .inl (fun _ => 0)))] H) (h0 : ∀ k, k ∈ L → ad k ≠ q0) (h1 : ∀ k, k ∈ L → ad k ≠ q1) (h01 : q0 ≠ q1) :
    va_P (dC, dI) vwCl (iwM (L ++ [20 + b, 25 + b]) a b (adG (adG ad (20 + b) q0) (25 + b) q1) cy (upR (upR I (20 + b) (fun _ => 0)) (25 + b) (fun _ => 0)) D) H ∧ mOK (L ++ [20 + b, 25 + b]) a b (adG (adG ad (20 + b) q0) (25 + b) q1) ∧ xOK (L ++ [20 + b, 25 + b]) b ∧ (∀ k, k ∈ L ++ [20 + b, 25 + b] → k ∈ mL a b ∨ k = 20 + b ∨ k = 25 + b) := by
  have ha := hM.2.1
  have v0 : adG (adG ad (20 + b) q0) (25 + b) q1 (20 + b) = q0 := (adG_ne (by omega)).trans adG_at
  have v1 : adG (adG ad (20 + b) q0) (25 + b) q1 (25 + b) = q1 := adG_at
  have m0 : 20 + b ∈ [20 + b, 25 + b] := List.mem_cons_self ..
  have m1 : 25 + b ∈ [20 + b, 25 + b] := List.mem_cons_of_mem _ (List.mem_singleton.mpr rfl)
  have hin : ∀ j, j ∈ [20 + b, 25 + b] → j = 20 + b ∨ j = 25 + b := fun j h => (List.mem_cons.mp h).imp id List.mem_singleton.mp
  refine ⟨iwM_grow (X := fun _ => False) (fun _ => false) hP (fun _ _ _ => rfl) (fun k hkL _ => ?_) (fun k hkL hor => ?_), mOK_grow hM (List.nodup_cons.mpr ⟨fun h => by have := List.mem_singleton.mp h; omega, List.nodup_cons.mpr ⟨List.not_mem_nil, List.nodup_nil⟩⟩) (fun k hkL j hj e => ?_) (fun k hk9 => List.mem_append_left _ (hM.1.2.1 _ hk9)) (fun k hkL => ?_) (fun i hi j hj e => ?_) (fun k hkL j hj e => ?_) hM.2.1 hM.2.2, ⟨List.mem_append_right _ m0, List.mem_append_right _ m1, hb5⟩, fun k hk9 => ?_⟩
  · have h9 := mL_iff.mp (hx k hkL)
    refine ⟨fun h => h, (adG_ne (by omega)).trans (adG_ne (by omega)), ?_⟩
    rw [upR_ne (by omega), upR_ne (by omega)]
    exact cellM_con3 (fun p g0 g1 => (adG_ne g1).trans (adG_ne g0)) ha hb5 (by omega) (by omega) _ _
  · have h9 : k = 20 + b ∨ k = 25 + b := hor.elim (fun h => hin k h) (fun h => nomatch h)
    rcases h9 with rfl | rfl
    · have h := va_P_one hP1 (List.mem_cons_self ..)
      rw [v0, cellM_Mixx _ _ _ _ hb5, v1, adG_ne (show 0 ≠ 25 + b by omega), adG_ne (show 0 ≠ 20 + b by omega), upR_ne (by omega), upR_at]
      exact h
    · have h := va_P_one hP1 (List.mem_cons_of_mem _ (List.mem_singleton.mpr rfl))
      rw [v1, cellM_Kilos _ _ _ _ hb5, upR_at]
      exact h
  · have h9 := mL_iff.mp (hx k hkL)
    rcases hin j hj with h | h <;> omega
  · have h9 := mL_iff.mp (hx k hkL)
    exact (adG_ne (by omega)).trans (adG_ne (by omega))
  · rcases hin i hi with rfl | rfl <;> rcases hin j hj with rfl | rfl
    · rfl
    · exact absurd (v0.symm.trans (e.trans v1)) h01
    · exact absurd (v0.symm.trans (e.symm.trans v1)) h01
    · rfl
  · rcases hin j hj with rfl | rfl
    · rw [v0] at e
      exact h0 k hkL e
    · rw [v1] at e
      exact h1 k hkL e
  · rcases List.mem_append.mp hk9 with h | h
    · exact Or.inl (hx k h)
    · exact Or.inr (hin k h)
theorem castM_asg {s : State} (h : va_Nw (.castable RX6 "java/lang/Object") s) : ∀ comp c0 : ClassId, s.vm.findClass "java/lang/Object" = some comp → s.vm.findClass RX6 = some c0 → s.vm.assignable c0 comp = true := fun comp c0 h1 h2 => by
  obtain ⟨c1, t1, f1, f2, f3⟩ := Cond.castable_spec (va_Nw.use (A := #[]) rfl h)
  cases h2.symm.trans f1
  cases h1.symm.trans f2
  exact f3
def f_X6_allx_L13 (I : Nat → Nat → Int32) (k0 : Nat) : Nat → Int32 → Int32 → Option (Int32)
  | 0, _, _ => none
  | n13 + 1, x4_13, x1_13 => (if 6 ≤ x4_13 then some x1_13 else ck (inB x4_13 6) (f_X6_allx_L13 I k0 n13 (x4_13 + 1) (x1_13 + (I (25 + k0) (x4_13).toNatClampNeg))))
def f_X6_allx (a b : Nat) (I : Nat → Nat → Int32) (D : Nat → Nat → UInt64) (k0 : Nat) : Option (Int32) :=
  f_X6_allx_L13 I k0 200 0 0
theorem iX6_allx_RX6 : ∀ w ∈ u_ws RX6 TX6 5, w ∈ wsX6_all := fun w h => List.mem_cons_of_mem _ (List.mem_append_right _ (h))
set_option maxHeartbeats 4000000 in
set_option maxRecDepth 100000 in
theorem mt_X6_allx (l : Launch) (dC : Nat → ClassId) (dI : Nat → Nat → Nat) (L : List Nat) (a b : Nat) (ad : Nat → Nat) (cy : Nat → ClassId) (hM : mOK L a b ad) (sz : Nat) (I : Nat → Nat → Int32) (D : Nat → Nat → UInt64) (k0 : Nat) (hk0 : xOK L k0) (rr : Int32) (hf : f_X6_allx a b I D k0 = some rr) : Met l yX6_all wsX6_all ({ frames := 0, cells := 0, slots := 0, locals := 0 }) (va_Pc [.ref (ad (20 + k0))] (fun U => U.heap.size = sz ∧ wM dC dI L a b ad cy I D U)) (va_Qi (fun r (_ : Unit) => rr = r) (fun _ _ => True) (fun q => sz ≤ q)) 0 0 (fun q => sz ≤ q) := by
  refine Met.ofW (cc := cX6_all) (maxL := 6) (ret := (some .int)) (by decide) rfl ?_
  intro p e s m args below meth c s₁ B hml hv
  obtain ⟨rfl, hsz, hP, hK, hN⟩ := hv
  have hx := B.exec
  have hb := B.bytes
  have hr := B.returns
  have hts := atoms_spec (ws := wsX6_all) B.pre
  have hown : s.vm.findClass RX6 = some m.cls := findClass_of_methodNamed B.named
  have hlocks := B.notSynchronized
  subst hsz
  generalize hAe : (fun q : Nat => s.heap.size ≤ q) = A
  have hA : ∀ q : Nat, s.heap.size ≤ q → A q := fun q h => by rw [← hAe]; exact h
  obtain ⟨H, hH⟩ : ∃ H : Heap, H = s.heap := ⟨_, rfl⟩
  have hS : va_S A s.heap H [] := by rw [hH]; exact va_S.rf
  rw [← hH]
  rw [← hH] at hP
  have hl := lv_entry ([.ref (ad (20 + k0))]) (n := 6) (Nat.le_of_ble_eq_true rfl)
  rw [lg_entry_eq]
  generalize (lg_sl ([.ref (ad (20 + k0))]) ++ List.replicate (6 - (lg_sl ([.ref (ad (20 + k0))])).length) Slot.unset).toArray = ls at hl ⊢
  have hl : lv_has ls 6 [(0, .ref (ad (20 + k0)))] := hl
  unfold f_X6_allx at hf
  refine lv_iconst (v := 0) hx hb dX6_all_0 (by decide) ?_
  refine lv_istore_n (lv' := [(1, .int 0), (0, .ref (ad (20 + k0)))]) hx hb dX6_all_1 rfl hl (by decide) rfl (fun ls hl => ?_)
  refine lv_aload_n hx hb dX6_all_2 rfl (lv_at hl 1 rfl) ?_
  obtain ⟨q_1, wq_1, heq_1⟩ := heM_Mixxx (cy := cy) (I := I) (D := D) (ad := ad) (a := a) (b := b) hk0
  refine va_get (D := (dC, dI)) (ci := 7) (v := .ref (ad (25 + k0))) (C := RX6) (T := TX6) (N := 5) hx hb hts iX6_allx_RX6 hown hK hP q_1 heq_1 rfl 0 (by decide) (hts (.fieldLink RX6 15 "OverrunHouseModel$Mix" "kilos" "[I") (List.mem_cons_of_mem _ (List.mem_append_left _ (List.mem_of_getElem? (i := 0) rfl)))) (fun _ h9 => h9) rfl dX6_all_3 ?_
  refine lv_astore_n (lv' := [(2, .ref (ad (25 + k0))), (1, .int 0), (0, .ref (ad (20 + k0)))]) hx hb dX6_all_6 rfl hl (by decide) rfl (fun ls hl => ?_)
  refine lv_aload_n hx hb dX6_all_7 rfl (lv_at hl 0 rfl) ?_
  obtain ⟨q_2, wq_2, heq_2⟩ := heM_Kilosx (cy := cy) (I := I) (D := D) (ad := ad) (a := a) (b := b) hk0
  refine va_alen (v := 6) hx hb hK hP q_2 0 heq_2 rfl rfl dX6_all_8 ?_
  refine lv_istore_n (lv' := [(3, .int 6), (2, .ref (ad (25 + k0))), (1, .int 0), (0, .ref (ad (20 + k0)))]) hx hb dX6_all_9 rfl hl (by decide) rfl (fun ls hl => ?_)
  refine lv_iconst (v := 0) hx hb dX6_all_10 (by decide) ?_
  refine lv_istore (lv' := [(4, .int 0), (3, .int 6), (2, .ref (ad (25 + k0))), (1, .int 0), (0, .ref (ad (20 + k0)))]) hx hb dX6_all_11 hl (by decide) rfl (fun ls hl => ?_)
  have L13 : ∀ (n13 : Nat) (x4_13 : Int32) (x1_13 : Int32), f_X6_allx_L13 I k0 n13 x4_13 x1_13 = some rr → ∀ (H : Heap) (locs : List Loc) (ls : Array Slot), va_P (dC, dI) vwCl (iwM L a b ad cy I D) H → va_S A s.heap H locs → lv_has ls 6 [(4, .int x4_13), (3, .int 6), (2, .ref (ad (25 + k0))), (1, .int x1_13), (0, .ref (ad (20 + k0)))] → W p l e (headSpec wsX6_all ({ frames := 0, cells := 0, slots := 0, locals := 0 })).room s m ([.ref (ad (20 + k0))] : List Value).toArray below meth c H locs 0 0 (MQ below (va_Qi (fun r (_ : Unit) => rr = r) (fun _ _ => True) A) ([.ref (ad (20 + k0))] : List Value).toArray s 0 0 A) (F0 m 13 ls []) := by
    intro n13
    induction n13 with
    | zero => intro x4_13 x1_13 hf; exact nomatch hf
    | succ n13 ih13 =>
      intro x4_13 x1_13 hf H locs ls hP hS hl
      unfold f_X6_allx_L13 at hf
      refine lv_iload hx hb dX6_all_13 (lv_at hl 0 rfl) ?_
      refine lv_iload_n hx hb dX6_all_15 rfl (lv_at hl 1 rfl) ?_
      refine lv_icmp_ge (tgt := 36) hx hb dX6_all_16 (by decide) (fun c_3 => ?_) (fun c_3 => ?_)
      · have hf := it_t hf c_3
        refine lv_iload_n hx hb dX6_all_36 rfl (lv_at hl 3 rfl) ?_
        have hf := Option.some.inj hf
        have q1 := hf
        exact W.iret (v := x1_13) hx hb hr (fun t ht hW9 => ⟨⟨x1_13, (), rfl, q1.symm, trivial⟩, hS.F ht⟩) hS.2.2 dX6_all_37
      · have hf := it_f hf c_3
        refine lv_aload_n hx hb dX6_all_19 rfl (lv_at hl 2 rfl) ?_
        refine lv_iload hx hb dX6_all_20 (lv_at hl 0 rfl) ?_
        obtain ⟨q_4, wq_4, heq_4⟩ := heM_Kilosx (cy := cy) (I := I) (D := D) (ad := ad) (a := a) (b := b) hk0
        obtain ⟨h_5, hf⟩ := ck_out hf
        refine va_iald (n := 6) (f := I (25 + k0)) hx hb hK hP q_4 0 heq_4 rfl (inB_in h_5) dX6_all_22 ?_
        refine lv_istore (lv' := [(5, .int (I (25 + k0) (x4_13).toNatClampNeg)), (4, .int x4_13), (3, .int 6), (2, .ref (ad (25 + k0))), (1, .int x1_13), (0, .ref (ad (20 + k0)))]) hx hb dX6_all_23 hl (by decide) rfl (fun ls hl => ?_)
        refine lv_iload_n hx hb dX6_all_25 rfl (lv_at hl 4 rfl) ?_
        refine lv_iload hx hb dX6_all_26 (lv_at hl 0 rfl) ?_
        refine lv_iadd hx hb dX6_all_28 ?_
        refine lv_istore_n (lv' := [(1, .int (x1_13 + (I (25 + k0) (x4_13).toNatClampNeg))), (5, .int (I (25 + k0) (x4_13).toNatClampNeg)), (4, .int x4_13), (3, .int 6), (2, .ref (ad (25 + k0))), (0, .ref (ad (20 + k0)))]) hx hb dX6_all_29 rfl hl (by decide) rfl (fun ls hl => ?_)
        refine lv_iinc (v := (x4_13 + 1)) (lv' := [(4, .int (x4_13 + 1)), (1, .int (x1_13 + (I (25 + k0) (x4_13).toNatClampNeg))), (5, .int (I (25 + k0) (x4_13).toNatClampNeg)), (3, .int 6), (2, .ref (ad (25 + k0))), (0, .ref (ad (20 + k0)))]) hx hb dX6_all_30 hl (k := 2) rfl rfl (by decide) rfl (fun ls hl => ?_)
        refine lv_goto (tgt := 13) hx hb dX6_all_33 (by decide) ?_
        exact ih13 (x4_13 + 1) (x1_13 + (I (25 + k0) (x4_13).toNatClampNeg)) hf _ _ _ hP hS (lv_sub hl [0, 3, 4, 1, 5] rfl)
  exact L13 200 0 0 hf _ _ _ hP hS (lv_sub hl [0, 1, 2, 3, 4] rfl)
def f_X6_putx (a b : Nat) (I : Nat → Nat → Int32) (D : Nat → Nat → UInt64) (k0 : Nat) (p1 : Int32) (p2 : Int32) : Option (Int32 × (Nat → Nat → Int32) × (Nat → Nat → UInt64)) :=
  ck (inB p1 6) (ck (inB p1 6) (nm (up2 I (25 + k0) (p1).toNatClampNeg ((I (25 + k0) (p1).toNatClampNeg) + p2)) (fun I_6 => nm (up2 I_6 (20 + k0) 1 ((I_6 (20 + k0) 1) + p2)) (fun I_9 => nm (up2 I_9 (20 + k0) 2 0) (fun I_11 => bd (f_X6_allx a b I_11 D k0) (fun r_12 => some (r_12, I_11, D)))))))
theorem iX6_putx_RX6 : ∀ w ∈ u_ws RX6 TX6 5, w ∈ wsX6_put := fun w h => List.mem_cons_of_mem _ (List.mem_append_right _ (h))
set_option maxHeartbeats 4000000 in
set_option maxRecDepth 100000 in
theorem mt_X6_putx (l : Launch) (dC : Nat → ClassId) (dI : Nat → Nat → Nat) (L : List Nat) (a b : Nat) (ad : Nat → Nat) (cy : Nat → ClassId) (hM : mOK L a b ad) (sz : Nat) (I : Nat → Nat → Int32) (D : Nat → Nat → UInt64) (k0 : Nat) (hk0 : xOK L k0) (p1 : Int32) (p2 : Int32) (rr : Int32) (I9 : Nat → Nat → Int32) (D9 : Nat → Nat → UInt64) (hf : f_X6_putx a b I D k0 p1 p2 = some (rr, I9, D9)) : Met l yX6_put wsX6_put ({ frames := 1, cells := 0, slots := 0, locals := 25 }) (va_Pc [.ref (ad (20 + k0)), .int p1, .int p2] (fun U => U.heap.size = sz ∧ wM dC dI L a b ad cy I D U)) (va_Qi (fun r (_ : Unit) => rr = r) (fun _ t => wM dC dI L a b ad cy I9 D9 t) (AM L ad sz)) 0 0 (AM L ad sz) := by
  refine Met.ofW (cc := cX6_put) (maxL := 3) (ret := (some .int)) (by decide) rfl ?_
  intro p e s m args below meth c s₁ B hml hv
  obtain ⟨rfl, hsz, hP, hK, hN⟩ := hv
  have hx := B.exec
  have hb := B.bytes
  have hr := B.returns
  have hts := atoms_spec (ws := wsX6_put) B.pre
  have hown : s.vm.findClass RX6 = some m.cls := findClass_of_methodNamed B.named
  have hlocks := B.notSynchronized
  subst hsz
  generalize hAe : AM L ad s.heap.size = A
  have hA : ∀ q : Nat, s.heap.size ≤ q → A q := fun q h => by rw [← hAe]; exact Or.inr h
  have hAL : ∀ k, k ∈ L → A (ad k) := fun k h => by rw [← hAe]; exact Or.inl ⟨k, h, rfl⟩
  have hDD : ∀ I D, va_D A (iwM L a b ad cy I D) := fun I D => iwM_D hM hAL I D
  obtain ⟨H, hH⟩ : ∃ H : Heap, H = s.heap := ⟨_, rfl⟩
  have hS : va_S A s.heap H [] := by rw [hH]; exact va_S.rf
  rw [← hH]
  rw [← hH] at hP
  have hl := lv_entry ([.ref (ad (20 + k0)), .int p1, .int p2]) (n := 3) (Nat.le_of_ble_eq_true rfl)
  rw [lg_entry_eq]
  generalize (lg_sl ([.ref (ad (20 + k0)), .int p1, .int p2]) ++ List.replicate (3 - (lg_sl ([.ref (ad (20 + k0)), .int p1, .int p2])).length) Slot.unset).toArray = ls at hl ⊢
  have hl : lv_has ls 3 [(0, .ref (ad (20 + k0))), (1, .int p1), (2, .int p2)] := hl
  unfold f_X6_putx at hf
  refine lv_aload_n hx hb dX6_put_0 rfl (lv_at hl 0 rfl) ?_
  obtain ⟨q_1, wq_1, heq_1⟩ := heM_Mixxx (cy := cy) (I := I) (D := D) (ad := ad) (a := a) (b := b) hk0
  refine va_get (D := (dC, dI)) (ci := 7) (v := .ref (ad (25 + k0))) (C := RX6) (T := TX6) (N := 5) hx hb hts iX6_putx_RX6 hown hK hP q_1 heq_1 rfl 0 (by decide) (hts (.fieldLink RX6 15 "OverrunHouseModel$Mix" "kilos" "[I") (List.mem_cons_of_mem _ (List.mem_append_left _ (List.mem_of_getElem? (i := 0) rfl)))) (fun _ h9 => h9) rfl dX6_put_1 ?_
  refine lv_iload_n hx hb dX6_put_4 rfl (lv_at hl 1 rfl) ?_
  refine lv_dup2_11 hx hb dX6_put_5 rfl rfl ?_
  obtain ⟨q_2, wq_2, heq_2⟩ := heM_Kilosx (cy := cy) (I := I) (D := D) (ad := ad) (a := a) (b := b) hk0
  obtain ⟨h_3, hf⟩ := ck_out hf
  refine va_iald (n := 6) (f := I (25 + k0)) hx hb hK hP q_2 0 heq_2 rfl (inB_in h_3) dX6_put_6 ?_
  refine lv_iload_n hx hb dX6_put_7 rfl (lv_at hl 2 rfl) ?_
  refine lv_iadd hx hb dX6_put_8 ?_
  obtain ⟨q_4, wq_4, heq_4⟩ := heM_Kilosx (cy := cy) (I := I) (D := D) (ad := ad) (a := a) (b := b) hk0
  obtain ⟨h_5, hf⟩ := ck_out hf
  obtain ⟨I_6, eI_6, hf⟩ := nm_out hf
  refine va_iast (n := 6) (f := I (25 + k0)) hx hb hK hP (hDD I D) hS q_4 0 heq_4 rfl (inB_in h_5) dX6_put_9 (fun H locs hP _ hS => ?_)
  have hP : va_P (dC, dI) vwCl (iwM L a b ad cy I_6 D) H := by rw [eI_6]; exact hqI hM wq_4 ((cellM_Kilos ad cy a b (by have := hM.2; have := hk0.2.2; omega) _ _).trans rfl) hP
  refine lv_aload_n hx hb dX6_put_10 rfl (lv_at hl 0 rfl) ?_
  refine lv_dup hx hb dX6_put_11 rfl ?_
  obtain ⟨q_7, wq_7, heq_7⟩ := heM_Mixxx (cy := cy) (I := I_6) (D := D) (ad := ad) (a := a) (b := b) hk0
  refine va_get (D := (dC, dI)) (ci := 7) (v := .int (I_6 (20 + k0) 1)) (C := RX6) (T := TX6) (N := 5) hx hb hts iX6_putx_RX6 hown hK hP q_7 heq_7 rfl 1 (by decide) (hts (.fieldLink RX6 19 "OverrunHouseModel$Mix" "left" "I") (List.mem_cons_of_mem _ (List.mem_append_left _ (List.mem_of_getElem? (i := 1) rfl)))) (fun _ h9 => h9) rfl dX6_put_12 ?_
  refine lv_iload_n hx hb dX6_put_15 rfl (lv_at hl 2 rfl) ?_
  refine lv_iadd hx hb dX6_put_16 ?_
  obtain ⟨q_8, wq_8, heq_8⟩ := heM_Mixxx (cy := cy) (I := I_6) (D := D) (ad := ad) (a := a) (b := b) hk0
  obtain ⟨I_9, eI_9, hf⟩ := nm_out hf
  refine va_put (D := (dC, dI)) (ci := 7) (v := .int ((I_6 (20 + k0) 1) + p2)) (ty := .int) (C := RX6) (T := TX6) (N := 5) hx hb hts iX6_putx_RX6 tyX6 tyX6_ok nmX6 hown hK hP (hDD I_6 D) hS q_8 heq_8 rfl 1 (by decide) (hts (.fieldLink RX6 19 "OverrunHouseModel$Mix" "left" "I") (List.mem_cons_of_mem _ (List.mem_append_left _ (List.mem_of_getElem? (i := 1) rfl)))) (fun _ h9 => h9) rfl (by decide +kernel) rfl rfl (Nat.le_of_ble_eq_true rfl) dX6_put_17 (fun H locs hP _ hS => ?_)
  have hP : va_P (dC, dI) vwCl (iwM L a b ad cy I_9 D) H := by rw [eI_9]; exact hqI hM wq_8 ((cellM_Mixx ad cy a b (by have := hM.2; have := hk0.2.2; omega) _ _).trans rfl) hP
  refine lv_aload_n hx hb dX6_put_20 rfl (lv_at hl 0 rfl) ?_
  refine lv_iconst (v := 0) hx hb dX6_put_21 (by decide) ?_
  obtain ⟨q_10, wq_10, heq_10⟩ := heM_Mixxx (cy := cy) (I := I_9) (D := D) (ad := ad) (a := a) (b := b) hk0
  obtain ⟨I_11, eI_11, hf⟩ := nm_out hf
  refine va_put (D := (dC, dI)) (ci := 7) (v := .int 0) (ty := .boolean) (C := RX6) (T := TX6) (N := 5) hx hb hts iX6_putx_RX6 tyX6 tyX6_ok nmX6 hown hK hP (hDD I_9 D) hS q_10 heq_10 rfl 2 (by decide) (hts (.fieldLink RX6 23 "OverrunHouseModel$Mix" "isProved" "Z") (List.mem_cons_of_mem _ (List.mem_append_left _ (List.mem_of_getElem? (i := 2) rfl)))) (fun _ h9 => h9) rfl (by decide +kernel) rfl rfl (Nat.le_of_ble_eq_true rfl) dX6_put_22 (fun H locs hP _ hS => ?_)
  have hP : va_P (dC, dI) vwCl (iwM L a b ad cy I_11 D) H := by rw [eI_11]; exact hqI hM wq_10 ((cellM_Mixx ad cy a b (by have := hM.2; have := hk0.2.2; omega) _ _).trans rfl) hP
  refine lv_aload_n hx hb dX6_put_25 rfl (lv_at hl 0 rfl) ?_
  obtain ⟨r_12, g_13, hf⟩ := bd_out hf
  obtain ⟨q_14, wq_14, heq_14⟩ := heM_Mixxx (cy := cy) (I := I_11) (D := D) (ad := ad) (a := a) (b := b) hk0
  refine va_calli (va_runV (As := []) (rest := []) ⟨hx, hb, hml, hown, hts⟩ (mt_X6_allx l dC dI L a b ad cy hM H.size I_11 D k0 hk0 r_12 g_13) (cwV 0 hts gX6_put_X6_all rfl rfl rfl (by decide +kernel) ⟨Nat.le_of_ble_eq_true rfl, Nat.le_of_ble_eq_true rfl⟩) ⟨(wM.pre [.ref (ad (20 + k0))] hP hK hN).1, wM.recv (C := RX6) (T := TX6) (N := 5) hP hK heq_14 rfl, (wM.pre [.ref (ad (20 + k0))] hP hK hN).2⟩ rfl rfl hl.1 rfl (lv_room (Nat.le_of_ble_eq_true rfl)) dX6_put_26 ⟨Nat.le_of_ble_eq_true rfl, Nat.le_of_ble_eq_true rfl⟩) hS (fun q _ h => hA q (Nat.le_trans hS.1 h)) (fun q h => hA q (Nat.le_trans hS.1 h)) (fun r9 u t H1 locs ht hvm hw hB hz1 hk1 hS => ?_)
  subst hw
  have hP := va_Pnew hP hk1
  clear hz1 hk1 hvm ht hB
  generalize H1 = H at hP hS ⊢
  have hf := Option.some.inj hf
  obtain ⟨q1, q2⟩ := Prod.mk.inj hf
  obtain ⟨q2, q3⟩ := Prod.mk.inj q2
  rw [q2, q3] at hP
  exact W.iret (v := r_12) hx hb hr (fun t ht hW9 => ⟨⟨r_12, (), rfl, q1.symm, wM.of hP hK hN ht hW9⟩, hS.F ht⟩) hS.2.2 dX6_put_29
