/-! helpers of the teller's walks; 'plus' -/
def lenB (v : Int32) : Bool := decide (0 ≤ v.toInt) && decide (v.toInt ≤ 20)
theorem lenB_i {v : Int32} (h : lenB v = true) : 0 ≤ v.toInt ∧ v.toInt ≤ 20 := by
  unfold lenB at h
  simpa using h
theorem lenB_1 {v : Int32} (h : lenB v = true) : ¬ v < 0 := fun q => by
  have h1 := (lenB_i h).1
  have h2 := Int32.lt_iff_toInt_lt.mp q
  have h3 : (0 : Int32).toInt = 0 := by decide
  omega
theorem lenB_2 {v : Int32} (h : lenB v = true) : v.toNatClampNeg ≤ 20 := by
  have h1 := (lenB_i h).2
  show v.toInt.toNat ≤ 20
  omega
theorem va_P0 {D : va_G} {cl : List vw_C} {H : Heap} : va_P D cl [] H := fun k q h => by simp at h
theorem va_D0 {A : Nat → Prop} : va_D A [] := ⟨fun i j p q h => by simp at h, fun k q h => by simp at h⟩
theorem va_Pk {D : va_G} {cl : List vw_C} {ws : va_W} {H0 H : Heap} {A : Nat → Prop} {locs : List Loc} (h : va_P D cl ws H0) (hS : va_S A H0 H locs) (hA : ∀ q, A q → H0.size ≤ q) : va_P D cl ws H := h.kept (fun k q hq => hS.2.1 q.1 (h k q hq).lt (fun z => Nat.lt_irrefl _ (Nat.lt_of_lt_of_le (h k q hq).lt (hA _ z))))
theorem va_D1 {A : Nat → Prop} {a : Nat} {x : va_E} (h : A a) : va_D A [(a, x)] := ⟨fun i j p q hi hj _ => by
    have h1 : i < 1 := (List.getElem?_eq_some_iff.mp hi).1
    have h2 : j < 1 := (List.getElem?_eq_some_iff.mp hj).1
    omega, fun k q hk => by
    have h1 : k < 1 := (List.getElem?_eq_some_iff.mp hk).1
    obtain rfl : k = 0 := by omega
    cases hk
    exact h⟩
theorem va_D1x {D : va_G} {cl : List vw_C} {ws : va_W} {H : Heap} {a i j : Nat} {x : va_E} {p q : Nat × va_E} (hP : va_P D cl ws H) (ha : H.size ≤ a) (h1 : ws[i]? = some p) (h2 : ([(a, x)] : va_W)[j]? = some q) : p.1 ≠ q.1 := by
  have hj : j < 1 := (List.getElem?_eq_some_iff.mp h2).1
  obtain rfl : j = 0 := by omega
  cases h2
  have h := (hP i p h1).lt
  show p.1 ≠ a
  omega
theorem va_appL {xs ys : va_W} {q : Nat} {x : Nat × va_E} (h : xs[q]? = some x) : (xs ++ ys)[q]? = some x := by
  rw [List.getElem?_append_left (List.getElem?_eq_some_iff.mp h).1]
  exact h
theorem plus_fn {ad : Nat → Nat} {bs n j y : Nat} (hj : j < n + 1) : (if j < n then (if j < n then some (ad (bs + j)) else none) else if j = n then some y else none) = if j < n then some (ad (bs + j)) else some y := by
  by_cases h : j < n
  · rw [if_pos h, if_pos h, if_pos h]
  · rw [if_neg h, if_neg h, if_pos (by omega)]
theorem sc_pre {s : State} {H : Heap} {bS LS : Nat} {xs : Nat → Int32} (As : List Value) (hX : va_X bS LS xs s H) : PreS s H (va_Pc As (fun U => U.heap.size = H.size ∧ va_X bS LS xs U U.heap)) As :=
  ⟨fun x U g mk q => by
    obtain ⟨q0, q1, q2⟩ := q
    exact ⟨q0, q1, va_X.moved (u := U) (U := U.calling g mk x) (Vm.Alike.refl U.vm) q2⟩, fun U hU hW1 => ⟨rfl, by rw [hU], by rw [hU]; exact hX.moved hW1.alike⟩⟩
def pW (dC : Nat → ClassId) (dI : Nat → Nat → Nat) (cy : Nat → ClassId) (x y n z : Nat) (f : Nat → Option Nat) (g : Nat → Int32) (U : State) : Prop := va_P (dC, dI) vwCl [(x, .inl (cy 5, n, .inr (.inr (.inr (.inr f))))), (y, .inl (cy 0, z, .inl g))] U.heap ∧ (∀ i : Nat, i < n → ∀ v : Nat, f i = some v → ∃ (k : Nat) (w : Nat → Value), U.heap[v]? = some (arrV (cy 0) k w)) ∧ va_K (dC, dI) vwCl (tysA cy) U ∧ aoA U
theorem pW_pre {s : State} {H : Heap} {dC : Nat → ClassId} {dI : Nat → Nat → Nat} {cy : Nat → ClassId} {x y n z : Nat} {f : Nat → Option Nat} {g : Nat → Int32} (hP : va_P (dC, dI) vwCl [(x, .inl (cy 5, n, .inr (.inr (.inr (.inr f))))), (y, .inl (cy 0, z, .inl g))] H) (hel : ∀ i : Nat, i < n → ∀ v : Nat, f i = some v → ∃ (k : Nat) (w : Nat → Value), H[v]? = some (arrV (cy 0) k w)) (hK : va_K (dC, dI) vwCl (tysA cy) s) (hO : aoA s) : PreS s H (va_Pc [.ref x, .ref y] (fun U => U.heap.size = H.size ∧ pW dC dI cy x y n z f g U)) [.ref x, .ref y] :=
  ⟨fun a U g9 mk q => by
    obtain ⟨q0, q1, q2, q3, q4, q5⟩ := q
    exact ⟨q0, q1, q2, q3, va_K.moved (u := U) (U := U.calling g9 mk a) (Vm.Alike.refl U.vm) q4, aoA.moved (u := U) (U := U.calling g9 mk a) (Vm.Alike.refl U.vm) q5⟩, fun U hU hW1 => ⟨rfl, by rw [hU], by rw [hU]; exact hP, by rw [hU]; exact hel, va_K.moved hW1.alike hK, hO.moved hW1.alike⟩⟩
set_option maxHeartbeats 4000000 in
set_option maxRecDepth 100000 in
theorem mt_X5_plus (l : Launch) (dC : Nat → ClassId) (dI : Nat → Nat → Nat) (cy : Nat → ClassId) (x y n z : Nat) (f : Nat → Option Nat) (g : Nat → Int32) (sz : Nat) (hn : n ≤ 12) : Met l yX5_plus wsX5_plus ({ frames := 1, cells := 1, slots := 16, locals := 90 }) (va_Pc [.ref x, .ref y] (fun U => U.heap.size = sz ∧ pW dC dI cy x y n z f g U)) (va_Qr (fun (_ : Unit) => True) (fun _ rp t => sz ≤ rp ∧ va_P (dC, dI) vwCl [(rp, .inl (cy 5, n + 1, .inr (.inr (.inr (.inr (fun j => if j < n then f j else if j = n then some y else none))))))] t.heap) (fun q => sz ≤ q)) 1 16 (fun q => sz ≤ q) := by
  refine Met.ofW (cc := cX5_plus) (maxL := 3) (ret := (some (.array (.array .int)))) (by decide) rfl ?_
  intro p e s m args below meth c s₁ B hml hv
  obtain ⟨rfl, hsz, hP0, hel0, hK, hO⟩ := hv
  have hx := B.exec
  have hb := B.bytes
  have hr := B.returns
  have hts := atoms_spec (ws := wsX5_plus) B.pre
  have hown : s.vm.findClass RX5 = some m.cls := findClass_of_methodNamed B.named
  have hlocks := B.notSynchronized
  subst hsz
  generalize hAe : (fun q : Nat => s.heap.size ≤ q) = A
  have hA : ∀ q : Nat, s.heap.size ≤ q → A q := fun q h => by rw [← hAe]; exact h
  have hAs : ∀ q : Nat, A q → s.heap.size ≤ q := fun q h => by rw [← hAe] at h; exact h
  obtain ⟨H, hH⟩ : ∃ H : Heap, H = s.heap := ⟨_, rfl⟩
  have hS : va_S A s.heap H [] := by rw [hH]; exact va_S.rf
  rw [← hH]
  have hs0 : H.size = s.heap.size := by rw [hH]
  have hP := va_Pk hP0 hS hAs
  have hl := lv_entry ([.ref x, .ref y]) (n := 3) (Nat.le_of_ble_eq_true rfl)
  rw [lg_entry_eq]
  generalize (lg_sl ([.ref x, .ref y]) ++ List.replicate (3 - (lg_sl ([.ref x, .ref y])).length) Slot.unset).toArray = ls at hl ⊢
  have hl : lv_has ls 3 [(0, .ref x), (1, .ref y)] := hl
  refine lv_aload_n hx hb dX5_plus_0 rfl (lv_at hl 0 rfl) ?_
  refine va_alen (v := nI n) hx hb hK hP 0 5 rfl rfl rfl dX5_plus_1 ?_
  refine lv_iconst (v := 1) hx hb dX5_plus_2 (by decide) ?_
  refine lv_iadd hx hb dX5_plus_3 ?_
  refine ra_new (cy := cy) (N := n + 1) (ws := []) (D := (dC, dI)) (cl := vwCl) hx hb hown (hts (.classLink RX5 16 "[I") (List.mem_cons_of_mem _ (List.mem_of_getElem? (i := 0) rfl))) hO hK va_P0 va_D0 hS hA (by rw [nI_1]; exact nI_pos (by omega)) (by rw [nI_1]; exact nI_clamp (by omega)) (by omega) (Nat.le_of_ble_eq_true rfl) (by show 0 + (n + 1) ≤ 16; omega) dX5_plus_4 (fun q H hT hTD hS => ?_)
  have hP := va_Pk hP0 hS hAs
  refine W.widen (k := 1) (n := 16) (Nat.le_of_ble_eq_true rfl) (by omega) ?_
  refine lv_astore_n (lv' := [(2, .ref q), (0, .ref x), (1, .ref y)]) hx hb dX5_plus_7 rfl hl (by decide) rfl (fun ls hl => ?_)
  refine lv_aload_n hx hb dX5_plus_8 rfl (lv_at hl 1 rfl) ?_
  refine lv_iconst (v := 0) hx hb dX5_plus_9 (by decide) ?_
  refine lv_aload_n hx hb dX5_plus_10 rfl (lv_at hl 0 rfl) ?_
  refine lv_iconst (v := 0) hx hb dX5_plus_11 (by decide) ?_
  refine lv_aload_n hx hb dX5_plus_12 rfl (lv_at hl 1 rfl) ?_
  refine va_alen (v := nI n) hx hb hK hP 0 5 rfl rfl rfl dX5_plus_13 ?_
  have hc : (nI n).toNatClampNeg = n := nI_clamp (by omega)
  refine ra_cpy (n := nI n) (n0 := n) (n1 := n + 1) (f := f) (g := fun _ => none) hx hb (by rw [hml]; exact hl.1.symm) hown (hts (.methodLink RX5 61 arraycopyName) (List.mem_cons_of_mem _ (List.mem_of_getElem? (i := 1) rfl))) (hts (.native arraycopyName) (List.mem_cons_of_mem _ (List.mem_of_getElem? (i := 2) rfl))) (hts (.static arraycopyName) (List.mem_cons_of_mem _ (List.mem_of_getElem? (i := 3) rfl))) (hts (.initialized "java/lang/System") (List.mem_cons_of_mem _ (List.mem_of_getElem? (i := 4) rfl))) hO hK hT hTD hS 0 (by have h := hP 0 _ rfl; exact h) rfl (nI_pos (by omega)) (by rw [hc]; exact Nat.le_refl _) (by rw [hc]; omega) (fun i hi v hv => by
    rw [hc] at hi
    obtain ⟨k, w, hw⟩ := hel0 i hi v hv
    refine ⟨k, w, ?_⟩
    rw [hS.2.1 v (Array.getElem?_eq_some_iff.mp hw).1 (fun z => Nat.lt_irrefl _ (Nat.lt_of_lt_of_le (Array.getElem?_eq_some_iff.mp hw).1 (hAs _ z)))]
    exact hw) (Nat.le_of_ble_eq_true rfl) (Nat.le_of_ble_eq_true rfl) dX5_plus_14 (fun H locs hT hTD hS => ?_)
  have hP := va_Pk hP0 hS hAs
  refine lv_aload_n hx hb dX5_plus_17 rfl (lv_at hl 0 rfl) ?_
  refine lv_aload_n hx hb dX5_plus_18 rfl (lv_at hl 1 rfl) ?_
  refine va_alen (v := nI n) hx hb hK hP 0 5 rfl rfl rfl dX5_plus_19 ?_
  refine lv_aload_n hx hb dX5_plus_20 rfl (lv_at hl 2 rfl) ?_
  have hy : H[y]? = some (arrV (cy 0) z (fun j => .int (g j))) := by have h : H[y]? = some (vp_cell (cy 0) (z, .inl g)) := hP 1 _ rfl; rw [h, vp_cell_i]
  refine ra_st (n := n + 1) (i := nI n) hx hb hO hK hT hTD hS 0 rfl hy (fun q => q.elim (nI_pos (by omega)) (fun q => by rw [hc] at q; omega)) dX5_plus_21 (fun H locs hT hTD hS => ?_)
  refine lv_aload_n hx hb dX5_plus_22 rfl (lv_at hl 0 rfl) ?_
  have hq : s.heap.size ≤ q := hAs q (hTD.2 0 _ rfl)
  exact W.aret (v := .ref q) (rt := .array (.array .int)) hx hb hr (Or.inr ⟨_, rfl⟩) (Or.inr ⟨_, rfl⟩) (fun t ht hW9 => ⟨⟨(), q, rfl, trivial, by rw [hs0]; exact hq, by
    rw [ht]
    refine fun k w hk => ?_
    have hk1 : k < 1 := (List.getElem?_eq_some_iff.mp hk).1
    obtain rfl : k = 0 := by omega
    cases hk
    refine at_rf (hT 0 _ rfl) (fun j hj => ?_)
    rw [hc]
    unfold va_up va_cpy
    by_cases h1 : j = n
    · rw [if_pos h1, if_neg (by omega), if_pos h1]
    · rw [if_neg h1, if_pos ⟨Nat.zero_le _, by omega⟩, if_pos (by omega)]
      congr 1
      omega⟩, hS.F ht⟩) hS.2.2 dX5_plus_23
