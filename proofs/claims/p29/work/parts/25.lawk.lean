theorem nest_in : ∀ w ∈ nestW, w ∈ lw_tbl := by decide +kernel
theorem okN_on {w : Cond} (h : okN w = true) : w.onTables = true := by
  cases w <;> first | rfl | exact (Bool.false_ne_true h).elim
theorem arr_i {A : Array Value} {s : State} (h : (Cond.arrayClass .int).before A s = true) : ∃ cA, ArrOfT s cA .int ∧ va_RA s cA .int := by
  obtain ⟨c, k, comp, h1, h2, h3⟩ := Cond.arrayClass_spec h
  exact ⟨c, fun n z => ⟨fun k h => (by cases h), k, h2, comp, h3⟩, h1⟩
theorem arr_d {A : Array Value} {s : State} (h : (Cond.arrayClass .double).before A s = true) : ∃ cA, ArrOfT s cA .double ∧ va_RA s cA .double := by
  obtain ⟨c, k, comp, h1, h2, h3⟩ := Cond.arrayClass_spec h
  exact ⟨c, fun n z => ⟨fun k h => (by cases h), k, h2, comp, h3⟩, h1⟩
theorem arr_o {C : String} {s : State} (h : va_AO C s) : ∃ cA, ArrOfT s cA (.object C) ∧ va_RA s cA (.object C) := by
  obtain ⟨comp, c, k, h1, h2, h3, h4, h5⟩ := Cond.arrayOver_spec h
  exact ⟨c, fun n z => ⟨fun k h => (by cases h), k, h3, comp, h4⟩, ⟨k, comp, h3, h4, h1, h5⟩⟩
theorem arr_a {s : State} (h : aoA s) : ∃ cA, ArrOfT s cA (.array .int) ∧ va_RA s cA (.array .int) := by
  obtain ⟨comp, c, k, h1, h2, h3, h4, h5⟩ := arrayOverA_spec h
  exact ⟨c, fun n z => ⟨fun k h => (by cases h), k, h3, comp, h4⟩, h5⟩
def swC : Nat → ClassId → ClassId → ClassId → ClassId → ClassId → ClassId → ClassId → ClassId := fun k a0 a1 a2 a3 a4 a5 a6 => match k with
  | 0 => a0
  | 1 => a1
  | 2 => a2
  | 3 => a3
  | 4 => a4
  | 5 => a5
  | _ => a6
def swI : Nat → (Nat → Nat) → (Nat → Nat) → (Nat → Nat) → (Nat → Nat) → (Nat → Nat) → (Nat → Nat) → (Nat → Nat) := fun k a0 a1 a2 a3 a4 a5 => match k with
  | 0 => a0
  | 1 => a1
  | 2 => a2
  | 3 => a3
  | 4 => a4
  | _ => a5
set_option maxHeartbeats 8000000 in
set_option maxRecDepth 100000 in
theorem law_K {p : Program} {s : State} {m : MethodId} {meth : Method} {c : Code} {b Lx : Nat} {xs : Nat → Int32} (C0 : lw_At p s m meth c b Lx xs) : ∃ (dC : Nat → ClassId) (dI : Nat → Nat → Nat) (cy : Nat → ClassId), va_K (dC, dI) vwCl (tysA cy) s ∧ (nestS s ∧ aoA s) ∧ aoS s := by
  obtain ⟨-, -, -, -, -, hts, -, -, -, hgv⟩ := C0
  obtain ⟨c0, i0, hk0⟩ := u_known (C := RX0) (T := TX0) (N := 5) (n := 5) hts inX0 (hts (.instantiable RX0 5) (by decide +kernel))
  obtain ⟨c1, i1, hk1⟩ := u_known (C := RX1) (T := TX1) (N := 5) (n := 5) hts inX1 (hts (.instantiable RX1 5) (by decide +kernel))
  obtain ⟨c2, i2, hk2⟩ := u_known (C := RX2) (T := TX2) (N := 12) (n := 12) hts inX2 (hts (.instantiable RX2 12) (by decide +kernel))
  obtain ⟨c3, i3, hk3⟩ := u_known (C := RX3) (T := TX3) (N := 2) (n := 2) hts inX3 (hts (.instantiable RX3 2) (by decide +kernel))
  obtain ⟨c4, i4, hk4⟩ := u_known (C := RX4) (T := TX4) (N := 14) (n := 14) hts inX4 (hts (.instantiable RX4 14) (by decide +kernel))
  obtain ⟨c5, i5, hk5⟩ := u_known (C := RX5) (T := TX5) (N := 11) (n := 11) hts inX5 (hts (.instantiable RX5 11) (by decide +kernel))
  have ho1 : va_AO RX1 s := va_AO.of (hts (.arrayOver (.object RX1)) (by decide +kernel))
  have ho2 : va_AO RX2 s := va_AO.of (hts (.arrayOver (.object RX2)) (by decide +kernel))
  have ho3 : va_AO RX0 s := va_AO.of (hts (.arrayOver (.object RX0)) (by decide +kernel))
  have ho4 : va_AO RX3 s := va_AO.of (hts (.arrayOver (.object RX3)) (by decide +kernel))
  have hoA : aoA s := hts (.arrayOver (.array .int)) (by decide +kernel)
  obtain ⟨y0, hy0, hr0⟩ := arr_i (hts (.arrayClass .int) (by decide +kernel))
  obtain ⟨y1, hy1, hr1⟩ := arr_o ho1
  obtain ⟨y2, hy2, hr2⟩ := arr_o ho2
  obtain ⟨y3, hy3, hr3⟩ := arr_o ho3
  obtain ⟨y4, hy4, hr4⟩ := arr_o ho4
  obtain ⟨y5, hy5, hr5⟩ := arr_a hoA
  obtain ⟨y6, hy6, hr6⟩ := arr_d (hts (.arrayClass .double) (by decide +kernel))
  refine ⟨fun k => swC k c0 c1 c2 c3 c4 c5 c5, fun k => swI k i0 i1 i2 i3 i4 i5, fun k => swC k y0 y1 y2 y3 y4 y5 y6, ⟨fun k q hk => ?_, fun k q hk => ?_⟩, ⟨fun w h => va_Nw.of (okN_on (List.all_eq_true.mp nestW_ok w h)) (hts w (nest_in w h)), hoA⟩, ⟨ho1, ho2, ho3, ho4⟩⟩
  · match k, hk with
    | 0, hk => cases hk; exact hk0
    | 1, hk => cases hk; exact hk1
    | 2, hk => cases hk; exact hk2
    | 3, hk => cases hk; exact hk3
    | 4, hk => cases hk; exact hk4
    | 5, hk => cases hk; exact hk5
    | k + 6, hk => simp at hk
  · match k, hk with
    | 0, hk => cases hk; exact ⟨hy0, hr0⟩
    | 1, hk => cases hk; exact ⟨hy1, hr1⟩
    | 2, hk => cases hk; exact ⟨hy2, hr2⟩
    | 3, hk => cases hk; exact ⟨hy3, hr3⟩
    | 4, hk => cases hk; exact ⟨hy4, hr4⟩
    | 5, hk => cases hk; exact ⟨hy5, hr5⟩
    | 6, hk => cases hk; exact ⟨hy6, hr6⟩
    | k + 7, hk => simp at hk
