/- the law's loop: what it stands on -/
abbrev eL (cL : ClassId) (f : Nat → Int64) : va_E := .inl (cL, 1, .inr (.inl f))
abbrev eD (cy : Nat → ClassId) (f : Nat → UInt64) : va_E := .inl (cy 6, 1, .inr (.inr (.inr (.inl f))))
/- what the tables say of the start, for the whole law -/
def LK (dC : Nat → ClassId) (dI : Nat → Nat → Nat) (cy : Nat → ClassId) (cL : ClassId) (sa : Nat → Nat) (t0 : Nat) (s : State) : Prop := va_K (dC, dI) vwCl (tysA cy ++ [(cL, .long)]) s ∧ nestS s ∧ ifS s ∧ va_Nw (.castable "[I" "java/lang/Object") s ∧ va_Nw (.castable RX6 "java/lang/Object") s ∧ va_AO "java/lang/Object" s ∧ xS sa (fun q => s.heap.size ≤ q) s ∧ xT s ∧ va_Z "java/util/ArrayList" "DEFAULTCAPACITY_EMPTY_ELEMENTDATA" "[Ljava/lang/Object;" (.ref t0) (fun q => s.heap.size ≤ q) s s.heap ∧ va_T (.object "java/lang/Object") t0 0 (fun _ => .null) (fun q => s.heap.size ≤ q) s s.heap
/- the addresses that never move are apart -/
def LG (adh : Nat → Nat) (o1 o2 sz : Nat) : Prop := J33 adh ∧ (∀ k, k < 33 → adh k ≠ o1) ∧ (∀ k, k < 33 → adh k ≠ o2) ∧ o1 ≠ o2 ∧ (∀ k, k < 33 → sz ≤ adh k) ∧ sz ≤ o1 ∧ sz ≤ o2
/- the reference's places, apart from those -/
def LM (adh : Nat → Nat) (o1 o2 t0 sz : Nat) (L : List Nat) (a b : Nat) (adm : Nat → Nat) : Prop := mOK L a b adm ∧ (∀ k, k ∈ L → k ∈ mL a b) ∧ (∀ k, k ∈ L → sz ≤ adm k ∧ adm k ≠ o1 ∧ adm k ≠ o2 ∧ ∀ j, j < 33 → adh j ≠ adm k) ∧ adm 41 = t0
/- all worlds of the law on the heap -/
def LH (dC : Nat → ClassId) (dI : Nat → Nat → Nat) (cy : Nat → ClassId) (cL : ClassId) (adh : Nat → Nat) (o1 o2 : Nat) (L : List Nat) (a b : Nat) (adm : Nat → Nat) (I : MI) (D : MD) (J : MI) (E : MD) (f1 : Nat → Int64) (f2 : Nat → UInt64) (H : Heap) : Prop := va_P (dC, dI) vwCl (iwH adh cy I D) H ∧ va_P (dC, dI) vwCl [(o1, eL cL f1)] H ∧ va_P (dC, dI) vwCl [(o2, eD cy f2)] H ∧ va_P (dC, dI) vwCl (iwM L a b adm cy J E) H
set_option maxRecDepth 20000 in
theorem iwM_jn {L : List Nat} {a b : Nat} {ad : Nat → Nat} {cy : Nat → ClassId} {I : Nat → Nat → Int32} {D : Nat → Nat → UInt64} {k : Nat} {q : Nat × va_E} (h : (iwM L a b ad cy I D)[k]? = some q) : ∃ j, j ∈ L ∧ q.1 = ad j := by
  unfold iwM iw at h
  rw [List.getElem?_map] at h
  cases hj : L[k]? with
  | none => rw [hj] at h; cases h
  | some j =>
    rw [hj] at h
    cases h
    exact ⟨j, List.mem_of_getElem? hj, rfl⟩
section LHS
variable {dC : Nat → ClassId} {dI : Nat → Nat → Nat} {cy : Nat → ClassId} {cL : ClassId} {adh : Nat → Nat} {o1 o2 t0 sz : Nat} {L : List Nat} {a b : Nat} {adm : Nat → Nat} {I : MI} {D : MD} {J : MI} {E : MD} {f1 : Nat → Int64} {f2 : Nat → UInt64} {H H1 : Heap}
set_option maxRecDepth 20000 in
theorem lh_new (h : LH dC dI cy cL adh o1 o2 L a b adm I D J E f1 f2 H) (hk : ∀ q : Nat, q < H.size → ¬ H.size ≤ q → H1[q]? = H[q]?) : LH dC dI cy cL adh o1 o2 L a b adm I D J E f1 f2 H1 := ⟨va_Pnew h.1 hk, va_Pnew h.2.1 hk, va_Pnew h.2.2.1 hk, va_Pnew h.2.2.2 hk⟩
set_option maxRecDepth 20000 in
theorem lh_1 (h : LH dC dI cy cL adh o1 o2 L a b adm I D J E f1 f2 H) (hG : LG adh o1 o2 sz) (hM : LM adh o1 o2 t0 sz L a b adm) (hk : ∀ q : Nat, q < H.size → ¬ AO o1 adh H.size q → H1[q]? = H[q]?) {I9 : MI} {D9 : MD} {g : Nat → Int64} (h1 : va_P (dC, dI) vwCl ((o1, eL cL g) :: iwH adh cy I9 D9) H1) : LH dC dI cy cL adh o1 o2 L a b adm I9 D9 J E g f2 H1 := by
  obtain ⟨hH, hp1, hp2, hm⟩ := h
  refine ⟨va_Pt h1, va_P1 h1, va_Pk1 hp2 (A := AO o1 adh H.size) ?_ hk, va_Pkeep hm (A := AO o1 adh H.size) (fun k q hq => ?_) hk⟩
  · rintro (e | e)
    · exact hG.2.2.2.1 e.symm
    · exact AW_not hG.2.2.1 (va_lt1 hp2) e
  · obtain ⟨j, hj, e1⟩ := iwM_jn hq
    have hlt := vx_lt hm hq
    rw [e1] at hlt ⊢
    rintro (e | e)
    · exact (hM.2.2.1 j hj).2.1 e
    · exact AW_not (hM.2.2.1 j hj).2.2.2 hlt e
set_option maxRecDepth 20000 in
theorem lh_2 (h : LH dC dI cy cL adh o1 o2 L a b adm I D J E f1 f2 H) (hG : LG adh o1 o2 sz) (hM : LM adh o1 o2 t0 sz L a b adm) (hk : ∀ q : Nat, q < H.size → ¬ AO o2 adh H.size q → H1[q]? = H[q]?) {I9 : MI} {D9 : MD} {g : Nat → UInt64} (h1 : va_P (dC, dI) vwCl ((o2, eD cy g) :: iwH adh cy I9 D9) H1) : LH dC dI cy cL adh o1 o2 L a b adm I9 D9 J E f1 g H1 := by
  obtain ⟨hH, hp1, hp2, hm⟩ := h
  refine ⟨va_Pt h1, va_Pk1 hp1 (A := AO o2 adh H.size) ?_ hk, va_P1 h1, va_Pkeep hm (A := AO o2 adh H.size) (fun k q hq => ?_) hk⟩
  · rintro (e | e)
    · exact hG.2.2.2.1 e
    · exact AW_not hG.2.1 (va_lt1 hp1) e
  · obtain ⟨j, hj, e1⟩ := iwM_jn hq
    have hlt := vx_lt hm hq
    rw [e1] at hlt ⊢
    rintro (e | e)
    · exact (hM.2.2.1 j hj).2.2.1 e
    · exact AW_not (hM.2.2.1 j hj).2.2.2 hlt e
set_option maxRecDepth 20000 in
theorem lh_C (h : LH dC dI cy cL adh o1 o2 L a b adm I D J E f1 f2 H) (hG : LG adh o1 o2 sz) (hM : LM adh o1 o2 t0 sz L a b adm) (hk : ∀ q : Nat, q < H.size → ¬ AW adh H.size q → H1[q]? = H[q]?) {I9 : MI} {D9 : MD} (h1 : va_P (dC, dI) vwCl (iwH adh cy I9 D9) H1) : LH dC dI cy cL adh o1 o2 L a b adm I9 D9 J E f1 f2 H1 := by
  obtain ⟨hH, hp1, hp2, hm⟩ := h
  refine ⟨h1, va_Pk1 hp1 (A := AW adh H.size) (AW_not hG.2.1 (va_lt1 hp1)) hk, va_Pk1 hp2 (A := AW adh H.size) (AW_not hG.2.2.1 (va_lt1 hp2)) hk, va_Pkeep hm (A := AW adh H.size) (fun k q hq => ?_) hk⟩
  obtain ⟨j, hj, e1⟩ := iwM_jn hq
  have hlt := vx_lt hm hq
  rw [e1] at hlt ⊢
  exact AW_not (hM.2.2.1 j hj).2.2.2 hlt
set_option maxRecDepth 20000 in
theorem AM_not {o sz : Nat} (ho : ∀ k, k ∈ L → adm k ≠ o) (hz : o < sz) : ¬ AM L adm sz o := by
  rintro (⟨k, hk, h⟩ | h)
  · exact ho k hk h
  · omega
set_option maxRecDepth 20000 in
theorem lh_M (h : LH dC dI cy cL adh o1 o2 L a b adm I D J E f1 f2 H) (hM : LM adh o1 o2 t0 sz L a b adm) (hk : ∀ q : Nat, q < H.size → ¬ AM L adm H.size q → H1[q]? = H[q]?) {L9 : List Nat} {a9 b9 : Nat} {adm9 : Nat → Nat} {J9 : MI} {E9 : MD} (h1 : va_P (dC, dI) vwCl (iwM L9 a9 b9 adm9 cy J9 E9) H1) : LH dC dI cy cL adh o1 o2 L9 a9 b9 adm9 I D J9 E9 f1 f2 H1 := by
  obtain ⟨hH, hp1, hp2, hm⟩ := h
  refine ⟨va_Pkeep hH (A := AM L adm H.size) (fun k q hq => ?_) hk, va_Pk1 hp1 (A := AM L adm H.size) (AM_not (fun k hk => (hM.2.2.1 k hk).2.1) (va_lt1 hp1)) hk, va_Pk1 hp2 (A := AM L adm H.size) (AM_not (fun k hk => (hM.2.2.1 k hk).2.2.1) (va_lt1 hp2)) hk, h1⟩
  obtain ⟨j, hj, e1⟩ := iwH_jn hq
  have hlt := vx_lt hH hq
  rw [e1] at hlt ⊢
  exact AM_not (fun k hk e => (hM.2.2.1 k hk).2.2.2 j hj e.symm) hlt
set_option maxRecDepth 20000 in
theorem lh_ad (h : LH dC dI cy cL adh o1 o2 L a b adm I D J E f1 f2 H) {j : Nat} (hj : j < 33) : adh j < H.size := vx_lt h.1 (k := j) (q := (adh j, cellH adh cy j (I j) (D j))) (by
  unfold iwH
  exact iw_get (c := fun k => cellH adh cy k (I k) (D k)) (List.getElem?_range hj))
set_option maxRecDepth 20000 in
theorem lm_N (h : LH dC dI cy cL adh o1 o2 L a b adm I D J E f1 f2 H) (hM : LM adh o1 o2 t0 sz L a b adm) (hz : sz ≤ H.size) {L9 : List Nat} {a9 b9 : Nat} {adm9 : Nat → Nat} (h1 : mOK L9 a9 b9 adm9) (h2 : ∀ k, k ∈ L9 → k ∈ mL a9 b9) (h3 : ∀ k, k ∈ L9 → AM L adm H.size (adm9 k)) (h4 : adm9 41 = adm 41) : LM adh o1 o2 t0 sz L9 a9 b9 adm9 := by
  refine ⟨h1, h2, fun k hk => ?_, h4.trans hM.2.2.2⟩
  rcases h3 k hk with ⟨j, hj, e⟩ | e
  · rw [← e]
    exact hM.2.2.1 j hj
  · have q1 := va_lt1 h.2.1
    have q2 := va_lt1 h.2.2.1
    refine ⟨Nat.le_trans hz e, by omega, by omega, fun j hj => ?_⟩
    have q3 := lh_ad h hj
    omega
end LHS
set_option maxRecDepth 20000 in
theorem wM.preN {dC : Nat → ClassId} {dI : Nat → Nat → Nat} {L : List Nat} {a b : Nat} {ad : Nat → Nat} {cy : Nat → ClassId} {I : Nat → Nat → Int32} {D : Nat → Nat → UInt64} {s : State} {H : Heap} (As : List Value) (hP : va_P (dC, dI) vwCl (iwM L a b ad cy I D) H) (hK : va_K (dC, dI) vwCl (tysA cy) s) (hN : nestS s ∧ ifS s) (h1 : va_Nw (.castable "[I" "java/lang/Object") s) (h2 : va_Nw (.castable RX6 "java/lang/Object") s) (h3 : va_AO "java/lang/Object" s) {A : Nat → Prop} {t : Nat} (hZ : va_Z "java/util/ArrayList" "DEFAULTCAPACITY_EMPTY_ELEMENTDATA" "[Ljava/lang/Object;" (.ref t) A s H) (hT : va_T (.object "java/lang/Object") t 0 (fun _ => .null) A s H) : PreS s H (va_Pc As (fun U => U.heap.size = H.size ∧ wM dC dI L a b ad cy I D U ∧ va_Nw (.castable "[I" "java/lang/Object") U ∧ va_Nw (.castable RX6 "java/lang/Object") U ∧ va_AO "java/lang/Object" U ∧ va_Z "java/util/ArrayList" "DEFAULTCAPACITY_EMPTY_ELEMENTDATA" "[Ljava/lang/Object;" (.ref t) A U U.heap ∧ va_T (.object "java/lang/Object") t 0 (fun _ => .null) A U U.heap)) As :=
  ⟨fun x U g mk q => by
    obtain ⟨q0, q1, q2, q3, q4, q5, q6, q7⟩ := q
    exact ⟨q0, q1, q2.blind x g mk, va_Nw.same (u := U) (U := U.calling g mk x) rfl rfl q3, va_Nw.same (u := U) (U := U.calling g mk x) rfl rfl q4, va_AO.moved (u := U) (U := U.calling g mk x) (Vm.Alike.refl U.vm) q5, va_Z.moved (u := U) (U := U.calling g mk x) (Vm.Alike.refl U.vm) q6, va_T.moved (u := U) (U := U.calling g mk x) (Vm.Alike.refl U.vm) q7⟩, fun U hU hW1 => ⟨rfl, by rw [hU], wM.of hP hK hN hU hW1, va_Nw.warmC hW1 h1, va_Nw.warmC hW1 h2, va_AO.moved hW1.alike h3, by rw [hU]; exact va_Z.moved hW1.alike hZ, by rw [hU]; exact va_T.moved hW1.alike hT⟩⟩
set_option maxRecDepth 20000 in
theorem AO_out {o : Nat} {adh : Nat → Nat} {sz z : Nat} (h1 : sz ≤ o) (h2 : ∀ k, k < 33 → sz ≤ adh k) (h3 : sz ≤ z) (q : Nat) (h : AO o adh z q) : sz ≤ q := by
  rcases h with h | ⟨k, hk, h⟩ | h
  · omega
  · have := h2 k hk
    omega
  · omega
set_option maxRecDepth 20000 in
theorem AM_out {L : List Nat} {adm : Nat → Nat} {sz z : Nat} (h2 : ∀ k, k ∈ L → sz ≤ adm k) (h3 : sz ≤ z) (q : Nat) (h : AM L adm z q) : sz ≤ q := by
  rcases h with ⟨k, hk, h⟩ | h
  · have := h2 k hk
    omega
  · omega
/- both sides of a call, as the law wants them -/
set_option maxRecDepth 20000 in
theorem ag_ne0 {n : Nat} {cs : List String} {e : String} (h : cs[n]? = some e) (hc : cs.length < 100) : ¬ nI (n + 1) = 0 := by
  have hn : n < cs.length := (List.getElem?_eq_some_iff.mp h).1
  exact nI_ne0 (by omega) (by omega)
set_option maxRecDepth 20000 in
theorem agW_law {α : Type} {Q : α → Prop} {P : MI → MD → MI → MD → Prop} {I : MI} {D : MD} {cs : List String} {x : Option (Except String (α × MI × MD))} {y : Option (α × MI × MD)} (h : agW Q P I D cs x y) (hc : cs.length < 100) : ∃ (v : α) (J' : MI) (E' : MD) (r0 : Int32) (w : α) (I9 : MI) (D9 : MD), y = some (v, J', E') ∧ J' 0 0 = r0 ∧ ((r0 = 0 ∧ x = some (.ok (w, I9, D9))) ∨ ∃ (n : Nat) (e9 : String), cs[n]? = some e9 ∧ r0 = nI (n + 1) ∧ x = some (.error e9) ∧ I9 = I ∧ D9 = D) ∧ (r0 = 0 → w = v ∧ Q v) ∧ P I9 D9 J' E' := by
  obtain ⟨v, J', E', hy, ⟨h0, hq, I', D', hx, hp⟩ | ⟨n, e, hn, h0, hx, hp⟩⟩ := h
  · exact ⟨v, J', E', 0, v, I', D', hy, h0, Or.inl ⟨rfl, hx⟩, fun _ => ⟨rfl, hq⟩, hp⟩
  · exact ⟨v, J', E', nI (n + 1), v, I, D, hy, h0, Or.inr ⟨n, e, hn, rfl, hx, rfl, rfl⟩, fun z => (ag_ne0 hn hc z).elim, hp⟩
set_option maxRecDepth 20000 in
theorem agR_law {α : Type} {Q : α → Prop} {P : MI → MD → MI → MD → Prop} {I : MI} {D : MD} {cs : List String} {x : Option (Except String α)} {y : Option (α × MI × MD)} (h : agR Q P I D cs x y) (hc : cs.length < 100) : ∃ (v : α) (J' : MI) (E' : MD) (r0 : Int32) (w : α), y = some (v, J', E') ∧ J' 0 0 = r0 ∧ ((r0 = 0 ∧ x = some (.ok w)) ∨ ∃ (n : Nat) (e9 : String), cs[n]? = some e9 ∧ r0 = nI (n + 1) ∧ x = some (.error e9)) ∧ (r0 = 0 → w = v ∧ Q v) ∧ P I D J' E' := by
  obtain ⟨v, J', E', hy, hp, ⟨h0, hq, hx⟩ | ⟨n, e, hn, h0, hx⟩⟩ := h
  · exact ⟨v, J', E', 0, v, hy, h0, Or.inl ⟨rfl, hx⟩, fun _ => ⟨rfl, hq⟩, hp⟩
  · exact ⟨v, J', E', nI (n + 1), v, hy, h0, Or.inr ⟨n, e, hn, rfl, hx⟩, fun z => (ag_ne0 hn hc z).elim, hp⟩
set_option maxRecDepth 20000 in
theorem agN_law {α : Type} {P : Nat → MI → MD → MI → MD → Prop} {I : MI} {D : MD} {cs : List String} {x : Option (Except String (α × MI × MD))} {y : Option (α × Nat × MI × MD)} (h : agN P I D cs x y) (hc : cs.length < 100) : ∃ (v : α) (n9 : Nat) (J' : MI) (E' : MD) (r0 : Int32) (w : α) (I9 : MI) (D9 : MD), y = some (v, n9, J', E') ∧ J' 0 0 = r0 ∧ ((r0 = 0 ∧ x = some (.ok (w, I9, D9))) ∨ ∃ (n : Nat) (e9 : String), cs[n]? = some e9 ∧ r0 = nI (n + 1) ∧ x = some (.error e9) ∧ I9 = I ∧ D9 = D) ∧ (r0 = 0 → w = v) ∧ P n9 I9 D9 J' E' := by
  obtain ⟨v, n9, J', E', hy, ⟨h0, I', D', hx, hp⟩ | ⟨n, e, hn, h0, hx, hp⟩⟩ := h
  · exact ⟨v, n9, J', E', 0, v, I', D', hy, h0, Or.inl ⟨rfl, hx⟩, fun _ => rfl, hp⟩
  · exact ⟨v, n9, J', E', nI (n + 1), v, I, D, hy, h0, Or.inr ⟨n, e, hn, rfl, hx, rfl, rfl⟩, fun z => (ag_ne0 hn hc z).elim, hp⟩
set_option maxRecDepth 20000 in
theorem dcmp_self {x : UInt64} (h : FP.Core.DFin x) (o : CmpOp) : Op.cmpValue (FP.dcmp x x) o = 0 := by
  rw [cmv h h o, if_neg (by omega), if_pos rfl]
set_option maxRecDepth 20000 in
theorem lcmp_self (x : Int64) : lg_cmp x x = 0 := by
  unfold lg_cmp
  simp
/- the loop's own numbers: the k-th int of a call is in the script -/
set_option maxRecDepth 20000 in
theorem vin_k {i : Nat} {L : Nat} (h : i + 6 ≤ L) (hL : L ≤ 3072) (k : Nat) (hk : k < 6) : vp_in (nI i + nI k) L := by
  rw [nI_add]
  exact vp_in_nI (by omega) (by omega)
set_option maxRecDepth 20000 in
theorem mL_30 {a b k : Nat} (ha : a < 7) (hb : b < 6) (h : k ∈ mL a b) : k < 30 := by
  unfold mL at h
  rcases List.mem_append.mp h with h | h
  · have e : ∀ k ∈ [0, 1, 2, 5, 6, 7, 8, 9, 10, 11, 12, 13], k < 30 := by decide
    exact e k h
  rcases List.mem_append.mp h with h | h
  · by_cases z : a = 0
    · rw [if_pos z] at h
      exact absurd h List.not_mem_nil
    · rw [if_neg z] at h
      have := List.mem_singleton.mp h
      omega
  rcases List.mem_append.mp h with h | h
  · by_cases z : b = 0
    · rw [if_pos z] at h
      exact absurd h List.not_mem_nil
    · rw [if_neg z] at h
      have := List.mem_singleton.mp h
      omega
  rcases List.mem_append.mp h with h | h
  · obtain ⟨i, hi, e⟩ := List.mem_map.mp h
    have := List.mem_range.mp hi
    omega
  rcases List.mem_append.mp h with h | h
  · obtain ⟨i, hi, e⟩ := List.mem_map.mp h
    have := List.mem_range.mp hi
    omega
  · obtain ⟨i, hi, e⟩ := List.mem_map.mp h
    have := List.mem_range.mp hi
    omega
