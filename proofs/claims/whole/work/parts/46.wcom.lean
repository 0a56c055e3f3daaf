/- the wrappers of the law: what they stand on -/
set_option maxRecDepth 20000 in
theorem va_Pt {D : va_G} {cl : List vw_C} {q : Nat × va_E} {ws : va_W} {H : Heap} (h : va_P D cl (q :: ws) H) : va_P D cl ws H := fun k r hk => h (k + 1) r hk
set_option maxRecDepth 20000 in
theorem va_Pcons {D : va_G} {cl : List vw_C} {q : Nat × va_E} {ws : va_W} {H : Heap} (h1 : va_P D cl [q] H) (h2 : va_P D cl ws H) : va_P D cl (q :: ws) H := fun k r hk => by
  cases k with
  | zero => exact h1 0 r hk
  | succ k => exact h2 k r hk
set_option maxRecDepth 20000 in
theorem va_P1 {D : va_G} {cl : List vw_C} {q : Nat × va_E} {ws : va_W} {H : Heap} (h : va_P D cl (q :: ws) H) : va_P D cl [q] H := fun k r hk => by
  cases k with
  | zero => exact h 0 r hk
  | succ k => simp at hk
set_option maxRecDepth 20000 in
theorem va_Pk1 {D : va_G} {cl : List vw_C} {o : Nat} {e : va_E} {H H1 : Heap} (h : va_P D cl [(o, e)] H) {A : Nat → Prop} (ho : ¬ A o) (hk : ∀ q : Nat, q < H.size → ¬ A q → H1[q]? = H[q]?) : va_P D cl [(o, e)] H1 :=
  va_Pkeep h (A := A) (fun k q hq => by
    cases k with
    | zero =>
      have e1 : (o, e) = q := Option.some.inj hq
      rw [← e1]
      exact ho
    | succ k => simp at hq) hk
set_option maxRecDepth 20000 in
theorem va_lt1 {D : va_G} {cl : List vw_C} {o : Nat} {e : va_E} {H : Heap} (h : va_P D cl [(o, e)] H) : o < H.size := vx_lt (k := 0) h rfl
def AO (o : Nat) (ad : Nat → Nat) (sz : Nat) : Nat → Prop := fun q => q = o ∨ AW ad sz q
set_option maxRecDepth 20000 in
theorem AW_not {ad : Nat → Nat} {o sz : Nat} (ho : ∀ k, k < 33 → ad k ≠ o) (hz : o < sz) : ¬ AW ad sz o := by
  rintro (⟨k, hk, h⟩ | h)
  · exact ho k hk h
  · omega
set_option maxRecDepth 20000 in
theorem va_Ocall {D : va_G} {cl : List vw_C} {ad : Nat → Nat} {o : Nat} {e : va_E} {ws ws1 : va_W} {H H1 : Heap} (hP : va_P D cl ((o, e) :: ws) H) (ho : ∀ k, k < 33 → ad k ≠ o) (hk : ∀ q : Nat, q < H.size → ¬ AW ad H.size q → H1[q]? = H[q]?) (h1 : va_P D cl ws1 H1) : va_P D cl ((o, e) :: ws1) H1 :=
  va_Pcons (va_Pk1 (va_P1 hP) (AW_not ho (va_lt1 (va_P1 hP))) hk) h1
set_option maxRecDepth 20000 in
theorem iwH_jn {ad : Nat → Nat} {cy : Nat → ClassId} {I : Nat → Nat → Int32} {D : Nat → Nat → UInt64} {k : Nat} {q : Nat × va_E} (h : (iwH ad cy I D)[k]? = some q) : ∃ j, j < 33 ∧ q.1 = ad j := by
  unfold iwH iw at h
  rw [List.getElem?_map] at h
  cases hj : (List.range 33)[k]? with
  | none => rw [hj] at h; cases h
  | some j =>
    rw [hj] at h
    cases h
    exact ⟨j, List.mem_range.mp (List.mem_of_getElem? hj), rfl⟩
set_option maxRecDepth 20000 in
theorem va_Dcons {A : Nat → Prop} {ws : va_W} {o : Nat} {e : va_E} (hD : va_D A ws) (ho : ∀ (k : Nat) (q : Nat × va_E), ws[k]? = some q → q.1 ≠ o) (hA : A o) : va_D A ((o, e) :: ws) := by
  refine ⟨fun i j p q hi hj h => ?_, fun k q hk => ?_⟩
  · cases i with
    | zero =>
      have e1 : (o, e) = p := Option.some.inj hi
      cases j with
      | zero => rfl
      | succ j =>
        refine absurd ?_ (ho j q hj)
        rw [← h, ← e1]
    | succ i =>
      cases j with
      | zero =>
        have e1 : (o, e) = q := Option.some.inj hj
        refine absurd ?_ (ho i p hi)
        rw [h, ← e1]
      | succ j => exact congrArg Nat.succ (hD.1 i j p q hi hj h)
  · cases k with
    | zero =>
      have e1 : (o, e) = q := Option.some.inj hk
      rw [← e1]
      exact hA
    | succ k => exact hD.2 k q hk
set_option maxRecDepth 20000 in
theorem hOD {ad : Nat → Nat} {cy : Nat → ClassId} {o : Nat} {e : va_E} {A : Nat → Prop} (hJ : J33 ad) (hA33 : ∀ k, k < 33 → A (ad k)) (hAo : A o) (ho : ∀ k, k < 33 → ad k ≠ o) (I : Nat → Nat → Int32) (D : Nat → Nat → UInt64) : va_D A ((o, e) :: iwH ad cy I D) :=
  va_Dcons (iwH_D hJ hA33 I D) (fun k q hk => by
    obtain ⟨j, hj, e1⟩ := iwH_jn hk
    rw [e1]
    exact ho j hj) hAo
def xT (U : State) : Prop := va_Nw (.castable IOB IOB) U ∧ va_Nw (.castable IAE IAE) U ∧ va_Nw (.castable ISE ISE) U ∧ va_Nc IAE IOB U ∧ va_Nc ISE IOB U ∧ va_Nc ISE IAE U
set_option maxRecDepth 20000 in
theorem xT.warm {s U : State} (hW : s.WarmedH U.vm) (h : xT s) : xT U := ⟨va_Nw.warmC hW h.1, va_Nw.warmC hW h.2.1, va_Nw.warmC hW h.2.2.1, va_Nc.moved hW.alike h.2.2.2.1, va_Nc.moved hW.alike h.2.2.2.2.1, va_Nc.moved hW.alike h.2.2.2.2.2⟩
set_option maxRecDepth 20000 in
theorem xT.same {u U : State} (hv : u.vm = U.vm) (h : xT u) : xT U := by
  have hA : u.vm.Alike U.vm := by rw [← hv]; exact Vm.Alike.refl u.vm
  exact ⟨va_Nw.same rfl hv h.1, va_Nw.same rfl hv h.2.1, va_Nw.same rfl hv h.2.2.1, va_Nc.moved hA h.2.2.2.1, va_Nc.moved hA h.2.2.2.2.1, va_Nc.moved hA h.2.2.2.2.2⟩
def hO (dC : Nat → ClassId) (dI : Nat → Nat → Nat) (ad : Nat → Nat) (cy : Nat → ClassId) (cL : ClassId) (I : Nat → Nat → Int32) (D : Nat → Nat → UInt64) (o : Nat) (e : va_E) (U : State) : Prop := va_P (dC, dI) vwCl ((o, e) :: iwH ad cy I D) U.heap ∧ va_K (dC, dI) vwCl (tysA cy ++ [(cL, .long)]) U ∧ nestS U
set_option maxRecDepth 20000 in
theorem hO.preX {dC : Nat → ClassId} {dI : Nat → Nat → Nat} {ad : Nat → Nat} {cy : Nat → ClassId} {cL : ClassId} {I : Nat → Nat → Int32} {D : Nat → Nat → UInt64} {o : Nat} {e : va_E} {s : State} {H : Heap} {sa : Nat → Nat} (As : List Value) (hP : va_P (dC, dI) vwCl ((o, e) :: iwH ad cy I D) H) (hK : va_K (dC, dI) vwCl (tysA cy ++ [(cL, .long)]) s) (hN : nestS s) {A : Nat → Prop} (hZ : xH sa A s H) (hT : xT s) : PreS s H (va_Pc As (fun U => U.heap.size = H.size ∧ hO dC dI ad cy cL I D o e U ∧ xS sa A U ∧ xT U)) As :=
  ⟨fun a U g mk q => by
    obtain ⟨q0, q1, ⟨p1, p2, p3⟩, q3, q4⟩ := q
    exact ⟨q0, q1, ⟨p1, va_K.moved (u := U) (U := U.calling g mk a) (Vm.Alike.refl U.vm) p2, nestS.same (u := U) (U := U.calling g mk a) rfl p3⟩, xH.same (u := U) (U := U.calling g mk a) rfl rfl q3, xT.same (u := U) (U := U.calling g mk a) rfl q4⟩, fun U hU hW1 => ⟨rfl, by rw [hU], ⟨by rw [hU]; exact hP, va_K.moved hW1.alike hK, hN.warm hW1⟩, hZ.warm hW1 hU, hT.warm hW1⟩⟩
set_option maxRecDepth 20000 in
theorem xH_eq {sa : Nat → Nat} {s : State} {A : Nat → Prop} {H : Heap} (hH : H = s.heap) (h : xS sa A s) : xH sa A s H := by
  subst hH
  exact h
set_option maxRecDepth 20000 in
theorem vin0 : vp_in 0 1 := by
  unfold vp_in
  decide
