/-! what a throw needs beside the house: the class's text constants, the words that are no good ones, Throwable's two statics -/
def strW : List (String × Nat × String) := [("OverrunHouse", 107, "the mix takes no more"), ("OverrunHouse", 149, "the batch is not soft on the belt"), ("OverrunHouse", 159, "the batch can not be laid"), ("OverrunHouse", 203, "the batch can not be sold"), ("OverrunHouse", 288, "there is no such number"), ("OverrunHouse", 293, "the value is out of its range"), ("OverrunHouse", 296, "there are as many as there may be")]
def xnames : List String := ["java/lang/RuntimeException", "java/lang/Exception"]
def badW : List Cond := (vx_atS RX4 109 "java/lang/IllegalStateException" xnames).filter (fun w => !goodWord w) ++ ((vx_atS RX4 290 "java/lang/IndexOutOfBoundsException" xnames).filter (fun w => !goodWord w) ++ (vx_atS RX4 295 "java/lang/IllegalArgumentException" xnames).filter (fun w => !goodWord w))
def okC (w : Cond) : Bool := match w with | .castable _ _ => true | .declares _ => true | _ => false
theorem badW_ok : badW.all okC = true := by decide +kernel
theorem okC_on {w : Cond} (h : okC w = true) : w.onTables = true := by
  cases w <;> first | rfl | exact (Bool.false_ne_true h).elim
def xH (sa : Nat → Nat) (A : Nat → Prop) (s : State) (H : Heap) : Prop := (∀ (k : Nat) (q : String × Nat × String), strW[k]? = some q → vk_R q.1 q.2.1 q.2.2 (sa k) s) ∧ (∀ w ∈ badW, va_Nw w s) ∧ vx_Zq Bundle.tN "UNASSIGNED_STACK" Bundle.steD A s H ∧ vx_Zq Bundle.tN "SUPPRESSED_SENTINEL" Bundle.listD A s H
def xS (sa : Nat → Nat) (A : Nat → Prop) (U : State) : Prop := xH sa A U U.heap
theorem xH.warm {sa : Nat → Nat} {A : Nat → Prop} {s U : State} {H : Heap} (hW1 : s.WarmedH U.vm) (hU : U.heap = H) (h : xH sa A s H) : xS sa A U := by
  obtain ⟨h1, h2, h3, h4⟩ := h
  subst hU
  refine ⟨fun k q hk => vk_R.warm hW1 (h1 k q hk), fun w hw => ?_, vx_Zq.moved hW1.alike h3, vx_Zq.moved hW1.alike h4⟩
  have a := h2 w hw
  have b := List.all_eq_true.mp badW_ok w hw
  cases w <;> first | exact va_Nw.warmC hW1 a | exact va_Nw.warmD hW1 a | exact (Bool.false_ne_true b).elim
theorem xH.same {sa : Nat → Nat} {A : Nat → Prop} {u U : State} (hv : u.vm = U.vm) (hh : U.heap = u.heap) (h : xS sa A u) : xS sa A U := by
  obtain ⟨h1, h2, h3, h4⟩ := h
  have hA : u.vm.Alike U.vm := by rw [← hv]; exact Vm.Alike.refl u.vm
  refine ⟨fun k q hk => vk_R.same hv.symm (h1 k q hk), fun w hw => va_Nw.same (okC_on (List.all_eq_true.mp badW_ok w hw)) hv (h2 w hw), ?_, ?_⟩
  · rw [hh]; exact vx_Zq.moved hA h3
  · rw [hh]; exact vx_Zq.moved hA h4
theorem xS_kept {sa : Nat → Nat} {s : State} {H : Heap} {A B : Nat → Prop} {locs : List Loc} (h : xS sa A s) (hS : va_S A s.heap H locs) (hB : ∀ q, B q → A q) : xH sa B s H := by
  obtain ⟨h1, h2, h3, h4⟩ := h
  exact ⟨h1, h2, vx_Zq.narrow (h3.kept hS.2.1) hB, vx_Zq.narrow (h4.kept hS.2.1) hB⟩
theorem hW.preX {dC : Nat → ClassId} {dI : Nat → Nat → Nat} {ad : Nat → Nat} {cy : Nat → ClassId} {I : Nat → Nat → Int32} {D : Nat → Nat → UInt64} {s : State} {H : Heap} {sa : Nat → Nat} (As : List Value) (hP : va_P (dC, dI) vwCl (iwH ad cy I D) H) (hK : va_K (dC, dI) vwCl (tysA cy) s) (hN : nestS s) {A : Nat → Prop} (hZ : xH sa A s H) : PreS s H (va_Pc As (fun U => U.heap.size = H.size ∧ hW dC dI ad cy I D U ∧ xS sa A U)) As :=
  ⟨fun a U g mk q => by
    obtain ⟨q0, q1, q2, q3⟩ := q
    exact ⟨q0, q1, q2.blind a g mk, xH.same (u := U) (U := U.calling g mk a) rfl rfl q3⟩, fun U hU hW1 => ⟨rfl, by rw [hU], hW.of hP hK hN hU hW1, hZ.warm hW1 hU⟩⟩
theorem pre0X {s : State} {H : Heap} {sa : Nat → Nat} {A : Nat → Prop} (As : List Value) (hZ : xH sa A s H) : PreS s H (va_Pc As (fun U => U.heap.size = H.size ∧ xS sa A U)) As := ⟨fun a U g mk q => by
    obtain ⟨q0, q1, q2⟩ := q
    exact ⟨q0, q1, xH.same (u := U) (U := U.calling g mk a) rfl rfl q2⟩, fun U hU hW1 => ⟨rfl, congrArg Array.size hU, hZ.warm hW1 hU⟩⟩
theorem bad_at1 {args : Array Value} {s : State} {sa : Nat → Nat} {A : Nat → Prop} (hZ : xS sa A s) (h : ∀ w ∈ (vx_atS RX4 109 "java/lang/IllegalStateException" xnames).filter goodWord, w.before args s = true) : ∀ w ∈ vx_atS RX4 109 "java/lang/IllegalStateException" xnames, w.before args s = true :=
  vx_hat h (fun w hw => List.mem_append_left _ hw) (fun w hw => va_Nw.use (okC_on (List.all_eq_true.mp badW_ok w hw)) (hZ.2.1 w hw))
theorem bad_at2 {args : Array Value} {s : State} {sa : Nat → Nat} {A : Nat → Prop} (hZ : xS sa A s) (h : ∀ w ∈ (vx_atS RX4 290 "java/lang/IndexOutOfBoundsException" xnames).filter goodWord, w.before args s = true) : ∀ w ∈ vx_atS RX4 290 "java/lang/IndexOutOfBoundsException" xnames, w.before args s = true :=
  vx_hat h (fun w hw => List.mem_append_right _ (List.mem_append_left _ hw)) (fun w hw => va_Nw.use (okC_on (List.all_eq_true.mp badW_ok w hw)) (hZ.2.1 w hw))
theorem bad_at3 {args : Array Value} {s : State} {sa : Nat → Nat} {A : Nat → Prop} (hZ : xS sa A s) (h : ∀ w ∈ (vx_atS RX4 295 "java/lang/IllegalArgumentException" xnames).filter goodWord, w.before args s = true) : ∀ w ∈ vx_atS RX4 295 "java/lang/IllegalArgumentException" xnames, w.before args s = true :=
  vx_hat h (fun w hw => List.mem_append_right _ (List.mem_append_right _ hw)) (fun w hw => va_Nw.use (okC_on (List.all_eq_true.mp badW_ok w hw)) (hZ.2.1 w hw))
theorem xfit : ∀ n ∈ xnames, Bundle.fit n = true := by decide +kernel
theorem xgood_c {a b : Cond} {L : List Cond} (ha : vx_ot a = true) (hb : vx_ot b = true) (hL : ∀ w ∈ L, vx_ot w = true) : ∀ w ∈ a :: b :: L, vx_ot w = true := fun w h => (List.mem_cons.mp h).elim (fun q => by rw [q]; exact ha) (fun h => (List.mem_cons.mp h).elim (fun q => by rw [q]; exact hb) (hL w))
theorem xgood1 : ∀ w ∈ vx_atS RX4 109 "java/lang/IllegalStateException" xnames, vx_ot w = true := by decide +kernel
theorem xgood2 : ∀ w ∈ vx_atS RX4 290 "java/lang/IndexOutOfBoundsException" xnames, vx_ot w = true := by decide +kernel
theorem xgood3 : ∀ w ∈ vx_atS RX4 295 "java/lang/IllegalArgumentException" xnames, vx_ot w = true := by decide +kernel
theorem xfit1 : Bundle.fit "java/lang/IllegalStateException" = true := by decide +kernel
theorem xfit2 : Bundle.fit "java/lang/IndexOutOfBoundsException" = true := by decide +kernel
theorem xfit3 : Bundle.fit "java/lang/IllegalArgumentException" = true := by decide +kernel
