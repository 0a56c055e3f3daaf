section VJR
variable {p : Program} {l : Launch} {e : Env} {R : Room} {s : State} {m : MethodId} {args : Array Value} {below : List Frame} {meth : Method} {c : Code} {H : Heap} {locs : List Loc} {cells slots : Nat}
variable {bytes cc : ByteArray} {maxL nL n index : Nat} {ws : List Cond} {rm : Room} {Ts : List Cond} {own : String} {As rest : List Value} {g : JFrame}
/-- a call of one of the library's overridden methods of doubles, by the library's own Back -/
theorem vj_run {N : MethodName} {r : UInt64} {Pre : Array Value → Prop} {PostV : Array Value → Option Value → Prop} (S : CallFix p m c cc nL s args Ts own) (hK : Back l R p e below s args N 3 8 (fun _ a => Pre a) (fun A a v B => B = A ∧ PostV a v)) (hpre : Pre As.toArray) (hpost : ∀ v, PostV As.toArray v → v = some (.double r))
    (cw : CallB R s args own index N bytes maxL (some .double) ws rm 0 0 n ∧ (Cond.static N).before args s = true)
    (hg : g.method = m) (hn : As.length = n) (hsize : g.locals.size = nL) (hstack : g.stack = As.reverse ++ rest) (hW : 2 * g.monitorRoom + (rest.map fun v => v.category).sum ≤ 8) (hdg : decode cc g.pc = .ok (.invokestatic index, 3)) :
    va_Run p l e R s m args below meth c H locs cells slots 0 0 g rest (va_Qd (fun r' (_ : Unit) => r = r') (fun _ _ => True) (fun q => H.size ≤ q) As.toArray) (fun q => H.size ≤ q) := by
  obtain ⟨⟨-, -, -, -, -, -, hcode, hini, hy, hlen, hl⟩, hstt⟩ := cw
  obtain ⟨hx, hb, hml, ho, -⟩ := S
  intro T hT X
  obtain ⟨v, vm₁, ⟨U', l2, c2, s2⟩, hW₁, X', ⟨hAB, hv⟩, st⟩ := callS X hx (bytes := bytes) (maxL := maxL) (ret := some .double) ho hl hstt hini hcode hy hK hg (hsize.trans hml.symm) (argsL := As) (rest := rest) (fun sig h => hn.trans (hlen sig h)) hstack hW (by rw [hb]; exact hdg)
    (fun vm₁ hW₁ => hpre)
  cases hAB
  dsimp only [Pt.U, Pt.locs, Pt.cells, Pt.slots] at X' st
  refine ⟨v, T.setVm vm₁, T.setVm vm₁, T.setVm vm₁, [], hT, by rw [List.append_nil]; exact X', fun q h => (List.not_mem_nil h).elim, rfl, rfl, ⟨⟨r, (), by rw [hpost v hv], rfl, trivial⟩, ⟨Nat.le_refl _, fun _ _ _ => rfl⟩⟩, st⟩
def f_J9_abs_294c1 (p0 : UInt64) : Option UInt64 := ck (decide (p0 &&& 0x7fffffffffffffff ≤ 0x7ff0000000000000)) (some (p0 &&& 0x7fffffffffffffff))
theorem vj_abs {p0 rr : UInt64} (hf : f_J9_abs_294c1 p0 = some rr) (S : CallFix p m c cc nL s args Ts own)
    (cw : CallB R s args own index yJ9_abs_294c1 bytes maxL (some .double) ws rm 0 0 1 ∧ (Cond.static yJ9_abs_294c1).before args s = true) (hfr : 1 ≤ R.frames) (hlo : 8 + (maxL + 11) ≤ R.locals)
    (hg : g.method = m) (hsize : g.locals.size = nL) (hstack : g.stack = .double p0 :: rest) (hW : 2 * g.monitorRoom + (rest.map fun v => v.category).sum ≤ 8) (hdg : decode cc g.pc = .ok (.invokestatic index, 3)) :
    va_Run p l e R s m args below meth c H locs cells slots 0 0 g rest (va_Qd (fun r' (_ : Unit) => rr = r') (fun _ _ => True) (fun q => H.size ≤ q) ([.double p0] : List Value).toArray) (fun q => H.size ≤ q) := by
  obtain ⟨h, hf⟩ := ck_out hf
  cases hf
  have h := of_decide_eq_true h
  obtain ⟨⟨-, -, -, -, -, -, hcode, -⟩, hstt⟩ := id cw
  exact vj_run (As := [.double p0]) S (Jvm.Free.NT.Abs64.pays hcode hstt hfr hlo) ⟨p0, rfl, h⟩ (fun v hv => hv p0 ⟨rfl, h⟩) cw hg rfl hsize hstack hW hdg
def f_J9_min_eb370 (p0 p2 : UInt64) : Option UInt64 := ck (!FP.dIsNaN p0) (ck (!FP.dIsNaN p2) (some (Native.java_lang_Math.nans.pick64 false p0 p2)))
theorem vj_min {p0 p2 rr : UInt64} (hf : f_J9_min_eb370 p0 p2 = some rr) (S : CallFix p m c cc nL s args Ts own)
    (cw : CallB R s args own index yJ9_min_eb370 bytes maxL (some .double) ws rm 0 0 2 ∧ (Cond.static yJ9_min_eb370).before args s = true) (hfr : 1 ≤ R.frames) (hlo : 8 + (maxL + 11) ≤ R.locals)
    (hg : g.method = m) (hsize : g.locals.size = nL) (hstack : g.stack = .double p2 :: .double p0 :: rest) (hW : 2 * g.monitorRoom + (rest.map fun v => v.category).sum ≤ 8) (hdg : decode cc g.pc = .ok (.invokestatic index, 3)) :
    va_Run p l e R s m args below meth c H locs cells slots 0 0 g rest (va_Qd (fun r' (_ : Unit) => rr = r') (fun _ _ => True) (fun q => H.size ≤ q) ([.double p0, .double p2] : List Value).toArray) (fun q => H.size ≤ q) := by
  obtain ⟨h1, hf⟩ := ck_out hf
  obtain ⟨h2, hf⟩ := ck_out hf
  cases hf
  have h1 : FP.dIsNaN p0 = false := by simpa using h1
  have h2 : FP.dIsNaN p2 = false := by simpa using h2
  obtain ⟨⟨-, -, -, -, -, -, hcode, -⟩, hstt⟩ := id cw
  exact vj_run (As := [.double p0, .double p2]) S (Jvm.Free.NT.Min64.pays hcode hstt hfr hlo) ⟨(p0, p2), rfl, h1, h2⟩ (fun v hv => hv (p0, p2) ⟨rfl, h1, h2⟩) cw hg rfl hsize hstack hW hdg
end VJR
