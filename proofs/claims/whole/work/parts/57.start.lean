/- the law, from its entry -/
set_option maxRecDepth 20000 in
theorem nest_in : ∀ w ∈ nestW, w ∈ lw_tbl := by decide +kernel
set_option maxRecDepth 20000 in
theorem bad_in : ∀ w ∈ badW, w ∈ lw_tbl := by decide +kernel
set_option maxRecDepth 20000 in
theorem okN_on {w : Cond} (h : okN w = true) : w.onTables = true := by
  cases w <;> first | rfl | exact (Bool.false_ne_true h).elim
set_option maxRecDepth 20000 in
theorem arr_i {A : Array Value} {s : State} (h : (Cond.arrayClass .int).before A s = true) : ∃ cA, ArrOfT s cA .int ∧ va_RA s cA .int := by
  obtain ⟨c, k, comp, h1, h2, h3⟩ := Cond.arrayClass_spec h
  exact ⟨c, fun n z => ⟨fun k h => (by cases h), k, h2, comp, h3⟩, h1⟩
set_option maxRecDepth 20000 in
theorem arr_z {A : Array Value} {s : State} (h : (Cond.arrayClass .boolean).before A s = true) : ∃ cA, ArrOfT s cA .boolean ∧ va_RA s cA .boolean := by
  obtain ⟨c, k, comp, h1, h2, h3⟩ := Cond.arrayClass_spec h
  exact ⟨c, fun n z => ⟨fun k h => (by cases h), k, h2, comp, h3⟩, h1⟩
set_option maxRecDepth 20000 in
theorem arr_d {A : Array Value} {s : State} (h : (Cond.arrayClass .double).before A s = true) : ∃ cA, ArrOfT s cA .double ∧ va_RA s cA .double := by
  obtain ⟨c, k, comp, h1, h2, h3⟩ := Cond.arrayClass_spec h
  exact ⟨c, fun n z => ⟨fun k h => (by cases h), k, h2, comp, h3⟩, h1⟩
set_option maxRecDepth 20000 in
theorem arr_o {C : String} {s : State} (h : va_AO C s) : ∃ cA, ArrOfT s cA (.object C) ∧ va_RA s cA (.object C) := by
  obtain ⟨comp, c, k, h1, h2, h3, h4, h5⟩ := Cond.arrayOver_spec h
  exact ⟨c, fun n z => ⟨fun k h => (by cases h), k, h3, comp, h4⟩, ⟨k, comp, h3, h4, h1, h5⟩⟩
set_option maxRecDepth 20000 in
theorem str_of {own tx : String} {k : Nat} {A : Array Value} {s : State} (h : (Cond.stringRef own k tx).before A s = true) : ∃ a, vk_R own k tx a s := by
  have hcur : ∃ cur, s.vm.findClass own = some cur := by
    have h1 := h
    simp only [Cond.before, Cond.holds, Cond.value] at h1
    cases hc : s.vm.findClass own with
    | none => simp [hc] at h1
    | some cur => exact ⟨cur, rfl⟩
  obtain ⟨cur, hcur⟩ := hcur
  obtain ⟨_, _, _, a, _, _, _, _, _, hev⟩ := Cond.stringRef_spec hcur h
  exact ⟨a, vk_R.of h hev⟩
set_option maxRecDepth 20000 in
theorem va_Plf {D : va_G} {cl : List vw_C} {ws wt : va_W} {H : Heap} (h : va_P D cl (ws ++ wt) H) : va_P D cl ws H := fun k q hk => h k q (by
  rw [List.getElem?_append_left (List.getElem?_eq_some_iff.mp hk).1]
  exact hk)
set_option maxRecDepth 20000 in
theorem va_Prt {D : va_G} {cl : List vw_C} {ws wt : va_W} {H : Heap} (h : va_P D cl (ws ++ wt) H) : va_P D cl wt H := fun k q hk => h (ws.length + k) q (by
  rw [List.getElem?_append_right (by omega), Nat.add_sub_cancel_left]
  exact hk)
set_option maxRecDepth 20000 in
theorem va_Dxx {A : Nat → Prop} {ws : va_W} {q : Nat × va_E} (hD : va_D A (ws ++ [q])) : (∀ (k : Nat) (p : Nat × va_E), ws[k]? = some p → p.1 ≠ q.1) ∧ A q.1 := by
  have e : (ws ++ [q])[ws.length]? = some q := by
    rw [List.getElem?_append_right (Nat.le_refl _), Nat.sub_self]
    rfl
  refine ⟨fun k p hk h => ?_, hD.2 _ _ e⟩
  have hl := (List.getElem?_eq_some_iff.mp hk).1
  have := hD.1 k ws.length p q (by rw [List.getElem?_append_left hl]; exact hk) e h
  omega
set_option maxRecDepth 20000 in
theorem va_Snew {A : Nat → Prop} {H0 H H1 : Heap} {locs : List Loc} (hS : va_S A H0 H locs) (hz : H.size ≤ H1.size) (hk : ∀ q : Nat, q < H.size → H1[q]? = H[q]?) : va_S A H0 H1 locs := ⟨Nat.le_trans hS.1 hz, fun q h1 h2 => (hk q (Nat.lt_of_lt_of_le h1 hS.1)).trans (hS.2.1 q h1 h2), hS.2.2⟩
set_option maxRecDepth 20000 in
theorem va_A1 {o sz q : Nat} {e : va_E} (h : va_A [(o, e)] sz q) : q = o ∨ sz ≤ q := by
  rcases h with ⟨k, e9, h⟩ | h
  · cases k with
    | zero =>
      have e1 : (o, e) = (q, e9) := Option.some.inj h
      exact Or.inl (congrArg Prod.fst e1).symm
    | succ k => simp at h
  · exact Or.inr h
set_option maxRecDepth 20000 in
theorem va_Pa {D : va_G} {cl : List vw_C} {o : Nat} {e : va_E} {H : Heap} (h : va_at D cl (o, e) H) : va_P D cl [(o, e)] H := fun k q hk => by
  cases k with
  | zero =>
    have e1 : (o, e) = q := Option.some.inj hk
    rw [← e1]
    exact h
  | succ k => simp at hk
def swC : Nat → ClassId → ClassId → ClassId → ClassId → ClassId → ClassId → ClassId → ClassId → ClassId → ClassId := fun k a0 a1 a2 a3 a4 a5 a6 a7 a8 => match k with
  | 0 => a0
  | 1 => a1
  | 2 => a2
  | 3 => a3
  | 4 => a4
  | 5 => a5
  | 6 => a6
  | 7 => a7
  | _ => a8
def swI : Nat → (Nat → Nat) → (Nat → Nat) → (Nat → Nat) → (Nat → Nat) → (Nat → Nat) → (Nat → Nat) → (Nat → Nat) → (Nat → Nat) → (Nat → Nat) → (Nat → Nat) := fun k a0 a1 a2 a3 a4 a5 a6 a7 a8 => match k with
  | 0 => a0
  | 1 => a1
  | 2 => a2
  | 3 => a3
  | 4 => a4
  | 5 => a5
  | 6 => a6
  | 7 => a7
  | _ => a8
set_option maxHeartbeats 8000000 in
set_option maxRecDepth 100000 in
theorem law_K {p : Program} {s : State} {m : MethodId} {meth : Method} {c : Code} {b Lx : Nat} {xs : Nat → Int32} (C0 : lw_At p s m meth c b Lx xs) : ∃ (dC : Nat → ClassId) (dI : Nat → Nat → Nat) (cy : Nat → ClassId) (sa : Nat → Nat) (t0 : Nat), va_K (dC, dI) vwCl (tysA cy) s ∧ nestS s ∧ ifS s ∧ aoS s ∧ va_Nw (.castable "[I" "java/lang/Object") s ∧ va_Nw (.castable RX6 "java/lang/Object") s ∧ va_AO "java/lang/Object" s ∧ xS sa (fun q => s.heap.size ≤ q) s ∧ xT s ∧ va_Z "java/util/ArrayList" "DEFAULTCAPACITY_EMPTY_ELEMENTDATA" "[Ljava/lang/Object;" (.ref t0) (fun q => s.heap.size ≤ q) s s.heap ∧ va_T (.object "java/lang/Object") t0 0 (fun _ => .null) (fun q => s.heap.size ≤ q) s s.heap := by
  obtain ⟨-, -, -, -, -, hts, -, -, -, hgv⟩ := C0
  have hq := flat_of_before _ hgv
  have hAx : ∀ a : Nat, a < s.heap.size → ¬ (fun q : Nat => s.heap.size ≤ q) a := fun a h => Nat.not_le.mpr h
  obtain ⟨c0, i0, hk0⟩ := u_known (C := RJx4a65c) (T := TJx4a65c) (N := 3) (n := 3) hts inJx4a65c (hts (.instantiable RJx4a65c 3) (by decide +kernel))
  obtain ⟨c1, i1, hk1⟩ := u_known (C := RX0) (T := TX0) (N := 5) (n := 5) hts inX0 (hts (.instantiable RX0 5) (by decide +kernel))
  obtain ⟨c2, i2, hk2⟩ := u_known (C := RX1) (T := TX1) (N := 5) (n := 5) hts inX1 (hts (.instantiable RX1 5) (by decide +kernel))
  obtain ⟨c3, i3, hk3⟩ := u_known (C := RX2) (T := TX2) (N := 12) (n := 12) hts inX2 (hts (.instantiable RX2 12) (by decide +kernel))
  obtain ⟨c4, i4, hk4⟩ := u_known (C := RX3) (T := TX3) (N := 2) (n := 2) hts inX3 (hts (.instantiable RX3 2) (by decide +kernel))
  obtain ⟨c5, i5, hk5⟩ := u_known (C := RX4) (T := TX4) (N := 14) (n := 14) hts inX4 (hts (.instantiable RX4 14) (by decide +kernel))
  obtain ⟨c6, i6, hk6⟩ := u_known (C := RX5) (T := TX5) (N := 10) (n := 10) hts inX5 (hts (.instantiable RX5 10) (by decide +kernel))
  obtain ⟨c7, i7, hk7⟩ := u_known (C := RX6) (T := TX6) (N := 5) (n := 5) hts inX6 (hts (.instantiable RX6 5) (by decide +kernel))
  obtain ⟨c8, i8, hk8⟩ := u_known (C := RX7) (T := TX7) (N := 9) (n := 9) hts inX7 (hts (.instantiable RX7 9) (by decide +kernel))
  have ho1 : va_AO RX1 s := va_AO.of (hts (.arrayOver (.object RX1)) (by decide +kernel))
  have ho2 : va_AO RX2 s := va_AO.of (hts (.arrayOver (.object RX2)) (by decide +kernel))
  have ho3 : va_AO RX0 s := va_AO.of (hts (.arrayOver (.object RX0)) (by decide +kernel))
  have ho4 : va_AO RX3 s := va_AO.of (hts (.arrayOver (.object RX3)) (by decide +kernel))
  have ho7 : va_AO "java/lang/Object" s := va_AO.of (hts (.arrayOver (.object "java/lang/Object")) (by decide +kernel))
  obtain ⟨y0, hy0, hr0⟩ := arr_i (hts (.arrayClass .int) (by decide +kernel))
  obtain ⟨y1, hy1, hr1⟩ := arr_o ho1
  obtain ⟨y2, hy2, hr2⟩ := arr_o ho2
  obtain ⟨y3, hy3, hr3⟩ := arr_o ho3
  obtain ⟨y4, hy4, hr4⟩ := arr_o ho4
  obtain ⟨y5, hy5, hr5⟩ := arr_z (hts (.arrayClass .boolean) (by decide +kernel))
  obtain ⟨y6, hy6, hr6⟩ := arr_d (hts (.arrayClass .double) (by decide +kernel))
  obtain ⟨y7, hy7, hr7⟩ := arr_o ho7
  obtain ⟨s0, hs0⟩ := str_of (hts (.stringRef "OverrunHouse" 107 "the mix takes no more") (by decide +kernel))
  obtain ⟨s1, hs1⟩ := str_of (hts (.stringRef "OverrunHouse" 149 "the batch is not soft on the belt") (by decide +kernel))
  obtain ⟨s2, hs2⟩ := str_of (hts (.stringRef "OverrunHouse" 159 "the batch can not be laid") (by decide +kernel))
  obtain ⟨s3, hs3⟩ := str_of (hts (.stringRef "OverrunHouse" 203 "the batch can not be sold") (by decide +kernel))
  obtain ⟨s4, hs4⟩ := str_of (hts (.stringRef "OverrunHouse" 288 "there is no such number") (by decide +kernel))
  obtain ⟨s5, hs5⟩ := str_of (hts (.stringRef "OverrunHouse" 293 "the value is out of its range") (by decide +kernel))
  obtain ⟨s6, hs6⟩ := str_of (hts (.stringRef "OverrunHouse" 296 "there are as many as there may be") (by decide +kernel))
  have hlen : (Term.length (.static "java/util/ArrayList" "DEFAULTCAPACITY_EMPTY_ELEMENTDATA" "[Ljava/lang/Object;")).eval #[Value.ref b] s none [] s = some (.int (Int32.ofNat 0)) := Cond.eq_plain (hq (.eq (.length (.static "java/util/ArrayList" "DEFAULTCAPACITY_EMPTY_ELEMENTDATA" "[Ljava/lang/Object;")) (.int 0)) (by decide +kernel)) (show (Term.int 0).eval #[Value.ref b] s none [] s = some (.int (Int32.ofNat 0)) from rfl) (Or.inl ⟨_, rfl⟩)
  obtain ⟨t0, ht0, hT0⟩ := va_Tof (N := 0) (f := fun _ => Value.null) (ty := .object "java/lang/Object") (by omega) (hq (.arrayOf (.static "java/util/ArrayList" "DEFAULTCAPACITY_EMPTY_ELEMENTDATA" "[Ljava/lang/Object;") (.object "java/lang/Object")) (by decide +kernel)) hlen (fun j hj => absurd hj (by omega)) hAx
  have hZ0 := va_Zof (hts (.laysStatic "java/util/ArrayList" "DEFAULTCAPACITY_EMPTY_ELEMENTDATA" "[Ljava/lang/Object;") (by decide +kernel)) (hts (.initialized "java/util/ArrayList") (by decide +kernel)) ht0 hAx
  have hz1 := vx_Zqof (A := fun q : Nat => s.heap.size ≤ q) (hts (.laysStatic Bundle.tN "UNASSIGNED_STACK" Bundle.steD) (by decide +kernel)) (hts (.initialized Bundle.tN) (by decide +kernel)) (hq (.isRef (.static Bundle.tN "UNASSIGNED_STACK" Bundle.steD)) (by decide +kernel)) hAx
  have hz2 := vx_Zqof (A := fun q : Nat => s.heap.size ≤ q) (hts (.laysStatic Bundle.tN "SUPPRESSED_SENTINEL" Bundle.listD) (by decide +kernel)) (hts (.initialized Bundle.tN) (by decide +kernel)) (hq (.isRef (.static Bundle.tN "SUPPRESSED_SENTINEL" Bundle.listD)) (by decide +kernel)) hAx
  refine ⟨fun k => swC k c0 c1 c2 c3 c4 c5 c6 c7 c8, fun k => swI k i0 i1 i2 i3 i4 i5 i6 i7 i8, fun k => swC k y0 y1 y2 y3 y4 y5 y6 y7 y7, fun k => ([s0, s1, s2, s3, s4, s5, s6] : List Nat).getD k 0, t0, ⟨fun k q hk => ?_, fun k q hk => ?_⟩, fun w h => va_Nw.of (okN_on (List.all_eq_true.mp nestW_ok w h)) (hts w (nest_in w h)), ⟨?_, ?_, ?_⟩, ⟨ho1, ho2, ho3, ho4⟩, va_Nw.of rfl (hts (.castable "[I" "java/lang/Object") (by decide +kernel)), va_Nw.of rfl (hts (.castable RX6 "java/lang/Object") (by decide +kernel)), ho7, ⟨fun k q hk => ?_, fun w h => va_Nw.of (okC_on (List.all_eq_true.mp badW_ok w h)) (hts w (bad_in w h)), hz1, hz2⟩, ⟨?_, ?_, ?_, ?_, ?_, ?_⟩, hZ0, hT0⟩
  · match k, hk with
    | 0, hk => cases hk; exact hk0
    | 1, hk => cases hk; exact hk1
    | 2, hk => cases hk; exact hk2
    | 3, hk => cases hk; exact hk3
    | 4, hk => cases hk; exact hk4
    | 5, hk => cases hk; exact hk5
    | 6, hk => cases hk; exact hk6
    | 7, hk => cases hk; exact hk7
    | 8, hk => cases hk; exact hk8
    | k + 9, hk => simp at hk
  · match k, hk with
    | 0, hk => cases hk; exact ⟨hy0, hr0⟩
    | 1, hk => cases hk; exact ⟨hy1, hr1⟩
    | 2, hk => cases hk; exact ⟨hy2, hr2⟩
    | 3, hk => cases hk; exact ⟨hy3, hr3⟩
    | 4, hk => cases hk; exact ⟨hy4, hr4⟩
    | 5, hk => cases hk; exact ⟨hy5, hr5⟩
    | 6, hk => cases hk; exact ⟨hy6, hr6⟩
    | 7, hk => cases hk; exact ⟨hy7, hr7⟩
    | k + 8, hk => simp at hk
  · exact va_Fw.of (hts (.declares ⟨"java/util/List", "size", "()I"⟩) (by decide +kernel)) (hts (.interfaceMethod "java/util/List" "java/util/List" "size" "()I") (by decide +kernel)) (hts (.publicMethod yJx4a65c_size_8abf5) (by decide +kernel)) (hts (.unhidden RJx4a65c "size" "()I") (by decide +kernel)) (hts (.castable RJx4a65c "java/util/List") (by decide +kernel))
  · exact va_Fw.of (hts (.declares ⟨"java/util/List", "get", "(I)Ljava/lang/Object;"⟩) (by decide +kernel)) (hts (.interfaceMethod "java/util/List" "java/util/List" "get" "(I)Ljava/lang/Object;") (by decide +kernel)) (hts (.publicMethod yJx4a65c_get_915e3) (by decide +kernel)) (hts (.unhidden RJx4a65c "get" "(I)Ljava/lang/Object;") (by decide +kernel)) (hts (.castable RJx4a65c "java/util/List") (by decide +kernel))
  · exact va_Fw.of (hts (.declares ⟨"java/util/List", "add", "(Ljava/lang/Object;)Z"⟩) (by decide +kernel)) (hts (.interfaceMethod "java/util/List" "java/util/List" "add" "(Ljava/lang/Object;)Z") (by decide +kernel)) (hts (.publicMethod yJx4a65c_add_9ea2d) (by decide +kernel)) (hts (.unhidden RJx4a65c "add" "(Ljava/lang/Object;)Z") (by decide +kernel)) (hts (.castable RJx4a65c "java/util/List") (by decide +kernel))
  · match k, hk with
    | 0, hk => cases hk; exact hs0
    | 1, hk => cases hk; exact hs1
    | 2, hk => cases hk; exact hs2
    | 3, hk => cases hk; exact hs3
    | 4, hk => cases hk; exact hs4
    | 5, hk => cases hk; exact hs5
    | 6, hk => cases hk; exact hs6
    | k + 7, hk => simp [strW] at hk
  · exact va_Nw.of rfl (hts (.castable IOB IOB) (by decide +kernel))
  · exact va_Nw.of rfl (hts (.castable IAE IAE) (by decide +kernel))
  · exact va_Nw.of rfl (hts (.castable ISE ISE) (by decide +kernel))
  · exact va_Nc.of (hq (.not (.castable IAE IOB)) (by decide +kernel))
  · exact va_Nc.of (hq (.not (.castable ISE IOB)) (by decide +kernel))
  · exact va_Nc.of (hq (.not (.castable ISE IAE)) (by decide +kernel))
set_option maxHeartbeats 8000000 in
set_option maxRecDepth 100000 in
theorem whole_start {p : Program} {e : Env} {s : State} {m : MethodId} {below : List Frame} {meth : Method} {c : Code} (l : Launch) (hflags : l.flags = flags0) {b L : Nat} {xs : Nat → Int32} (hL : L ≤ 3072) (C0 : lw_At p s m meth c b L xs) : W p l e room_1 s m #[Value.ref b] below meth c s.heap [] 0 0 (lw_Z below #[Value.ref b] s) (entryFrame m ([Value.ref b] : List Value).toArray 9) := by
  obtain ⟨hx, hb, hr, hml, hown0, hts0, hX, hbl, hlocks, hgv⟩ := id C0
  have hl0 : l.stackTraces = false := by
    unfold Launch.stackTraces
    rw [hflags]
    decide +kernel
  have hown : s.vm.findClass RL = some m.cls := hown0
  have hts : ∀ w ∈ wsL_law, w.before #[Value.ref b] s = true := fun w h => hts0 w (wsL_law_in w h)
  obtain ⟨dC, dI, cy, sa, t0, hKt, hN, hI, hO, hca, hcb, hao, hZ, hT, hzs, hts9⟩ := law_K C0
  have hA : ∀ q : Nat, s.heap.size ≤ q → (fun q : Nat => s.heap.size ≤ q) q := fun _ h => h
  have hS : va_S (fun q : Nat => s.heap.size ≤ q) s.heap s.heap [] := va_S.rf
  have hl := lv_entry ([.ref b]) (n := 9) (Nat.le_of_ble_eq_true rfl)
  rw [lg_entry_eq]
  generalize (lg_sl ([.ref b]) ++ List.replicate (9 - (lg_sl ([.ref b])).length) Slot.unset).toArray = ls at hl ⊢
  have hl : lv_has ls 9 [(0, .ref b)] := hl
  refine va_new (ci := 5) (fs := [.null, .null, .null, .null, .null, .int 0, .int 0, .int 0, .int 0, .int 0, .int 0, .int 0, .int 0, .null]) (C := RX4) (T := TX4) (N := 14) (ws := []) hx hb hts0 inX4 tyX4 tyX4_ok hown (hts0 (.classLink RL 8 RX4) (by decide +kernel)) (hts0 (.instantiable RX4 14) (by decide +kernel)) (hts0 (.initialized RX4) (by decide +kernel)) hKt va_P0 va_D0 hS hA rfl nw_House (Nat.le_of_ble_eq_true rfl) (Nat.le_of_ble_eq_true rfl) dL_law_0 (fun h0 H hP hD hS => ?_)
  have hP : va_P (dC, dI) vwCl [(h0, .inr (5, [.null, .null, .null, .null, .null, .int 0, .int 0, .int 0, .int 0, .int 0, .int 0, .int 0, .int 0, .null]))] H := hP
  have hD : va_D (fun q : Nat => s.heap.size ≤ q) [(h0, .inr (5, [.null, .null, .null, .null, .null, .int 0, .int 0, .int 0, .int 0, .int 0, .int 0, .int 0, .int 0, .null]))] := hD
  refine lv_dup hx hb dL_law_3 rfl ?_
  have hFc := va_free (wc := [(h0, .inr (5, [.null, .null, .null, .null, .null, .int 0, .int 0, .int 0, .int 0, .int 0, .int 0, .int 0, .int 0, .null]))]) hD hS hA [0] rfl
  refine va_callv (va_runI (As := []) (rest := [.ref h0]) ⟨hx, hb, hml, hown, hts⟩ (mi_X4_init l dC dI cy h0 H.size) (cwI 0 hts gL_law_X4_init rfl rfl rfl (hts0 (.initialized RX4) (by decide +kernel)) (hts0 (.methodLink RL 99 yX4_init) (by decide +kernel)) (hts0 (.instanceMethod yX4_init) (by decide +kernel)) rfl (by decide +kernel) ⟨Nat.le_of_ble_eq_true rfl, Nat.le_of_ble_eq_true rfl⟩) ⟨fun a U g mk q => by obtain ⟨q0, q1, qP, qK, qD, qN, qO⟩ := q; exact ⟨q0, q1, qP, va_K.moved (u := U) (U := U.calling g mk a) (Vm.Alike.refl U.vm) qK, qD, nestS.same (u := U) (U := U.calling g mk a) rfl qN, aoS.moved (u := U) (U := U.calling g mk a) (Vm.Alike.refl U.vm) qO⟩, fun U hU hW => ⟨rfl, by rw [hU], by rw [hU]; exact hP, va_K.moved hW.alike hKt, hD.weaken (fun _ _ _ _ => trivial), hN.warm hW, hO.moved hW.alike⟩⟩ rfl rfl hl.1 rfl (lv_room (Nat.le_of_ble_eq_true rfl)) dL_law_4 ⟨Nat.le_of_ble_eq_true rfl, Nat.le_of_ble_eq_true rfl⟩) hS (fun q _ h => hFc q h) hFc (fun u t H1 locs ht hvm hw hB hz1 hk1 hS => ?_)
  obtain ⟨q1, q3, q5, q7, q9, q11, q13, q14, q15, q16, q17, q18, q19, q20, q21, q22, q23, q24, q25, q26, q27, q28, q29, q30, q31, q32, q33, q34, q35, q36, q37, q38, hP1, hD1⟩ := hB
  rw [ht] at hP1
  obtain ⟨adh, hPH, hJ, hAH0, e0⟩ := init_H (h0 := h0) q1 q3 q5 q7 q9 q11 q13 q14 q15 q16 q17 q18 q19 q20 q21 q22 q23 q24 q25 q26 q27 q28 q29 q30 q31 q32 q33 q34 q35 q36 q37 q38 hP1 hD1
  have hAH : ∀ k, k < 33 → s.heap.size ≤ adh k := fun k hk => hFc _ (hAH0 k hk)
  clear hP1 hD1 hz1 hk1 hvm ht hAH0 hFc hP hD
  subst e0
  generalize H1 = H at hPH hS ⊢
  refine lv_astore_n (lv' := [(1, .ref (adh 0)), (0, .ref b)]) hx hb dL_law_7 rfl hl (by decide) rfl (fun ls hl => ?_)
  have hDH : va_D (fun q : Nat => s.heap.size ≤ q) (iwH adh cy I0 D0) := iwH_D hJ hAH I0 D0
  refine va_new (ci := 8) (fs := [.int 0, .null, .null, .null, .null, .int 0, .int 0, .int 0, .int 0]) (C := RX7) (T := TX7) (N := 9) hx hb hts0 inX7 tyX7 tyX7_ok hown (hts0 (.classLink RL 100 RX7) (by decide +kernel)) (hts0 (.instantiable RX7 9) (by decide +kernel)) (hts0 (.initialized RX7) (by decide +kernel)) hKt hPH hDH hS hA rfl nw_M (Nat.le_of_ble_eq_true rfl) (Nat.le_of_ble_eq_true rfl) dL_law_8 (fun m0 H hP hD hS => ?_)
  have hPH := va_Plf hP
  have hPm := va_Prt hP
  obtain ⟨hne0, hAm⟩ := va_Dxx hD
  have hAm : s.heap.size ≤ m0 := hAm
  have hne : ∀ k, k < 33 → adh k ≠ m0 := fun k hk => hne0 k (adh k, cellH adh cy k (I0 k) (D0 k)) (by
    unfold iwH
    exact iw_get (c := fun k => cellH adh cy k (I0 k) (D0 k)) (List.getElem?_range hk))
  have hlt : ∀ k, k < 33 → adh k < H.size := fun k hk => vx_lt hPH (k := k) (q := (adh k, cellH adh cy k (I0 k) (D0 k))) (by
    unfold iwH
    exact iw_get (c := fun k => cellH adh cy k (I0 k) (D0 k)) (List.getElem?_range hk))
  clear hne0 hP hD hDH
  refine lv_dup hx hb dL_law_11 rfl ?_
  have hFc : ∀ q, va_A [(m0, .inr (8, [.int 0, .null, .null, .null, .null, .int 0, .int 0, .int 0, .int 0]))] H.size q → s.heap.size ≤ q := fun q h => (va_A1 h).elim (fun h => by rw [h]; exact hAm) (fun h => Nat.le_trans hS.1 h)
  have hDm : va_D (fun q : Nat => s.heap.size ≤ q) [(m0, .inr (8, [.int 0, .null, .null, .null, .null, .int 0, .int 0, .int 0, .int 0]))] := va_Dcons va_D0 (fun k q h => by simp at h) hAm
  refine va_callv (va_runI (As := []) (rest := [.ref m0]) ⟨hx, hb, hml, hown, hts⟩ (mi_X7_init l dC dI cy m0 t0 H.size) (cwI 0 hts gL_law_X7_init rfl rfl rfl (hts0 (.initialized RX7) (by decide +kernel)) (hts0 (.methodLink RL 102 yX7_init) (by decide +kernel)) (hts0 (.instanceMethod yX7_init) (by decide +kernel)) rfl (by decide +kernel) ⟨Nat.le_of_ble_eq_true rfl, Nat.le_of_ble_eq_true rfl⟩) ⟨fun a U g mk q => by obtain ⟨q0, q1, qP, qK, qD, qN, qZ⟩ := q; exact ⟨q0, q1, qP, va_K.moved (u := U) (U := U.calling g mk a) (Vm.Alike.refl U.vm) qK, qD, nestS.same (u := U) (U := U.calling g mk a) rfl qN, va_Z.moved (u := U) (U := U.calling g mk a) (Vm.Alike.refl U.vm) qZ⟩, fun U hU hW => ⟨rfl, by rw [hU], by rw [hU]; exact hPm, va_K.moved hW.alike hKt, hDm.weaken (fun _ _ _ _ => trivial), hN.warm hW, by rw [hU]; exact va_Z.moved hW.alike ((hzs.kept hS.2.1).narrow hFc)⟩⟩ rfl rfl hl.1 rfl (lv_room (Nat.le_of_ble_eq_true rfl)) dL_law_12 ⟨Nat.le_of_ble_eq_true rfl, Nat.le_of_ble_eq_true rfl⟩) hS (fun q _ h => hFc q h) hFc (fun u t H1 locs ht hvm hw hB hz1 hk1 hS => ?_)
  obtain ⟨q1, q2, q3, q4, q5, q6, q7, q8, q9, q10, q11, hP1, hD1⟩ := hB
  rw [ht] at hP1
  obtain ⟨adm, hPM, hmo, hAM, e1, e41⟩ := init_M (h0 := m0) (t0 := t0) q1 q2 q3 q4 q5 q6 q7 q8 q9 q10 q11 hP1 hD1
  have hPH := va_Pkeep hPH (fun k q hq h => by
    obtain ⟨j, hj, e9⟩ := iwH_jn hq
    rw [e9] at h
    rcases va_A1 h with h | h
    · exact hne j hj h
    · have := hlt j hj
      omega) hk1
  have hAM1 : ∀ k, k ∈ [0, 1, 2, 5, 6, 7, 8, 9, 10, 11, 12, 13] → s.heap.size ≤ adm k ∧ ∀ j, j < 33 → adh j ≠ adm k := fun k hk => ⟨hFc _ (hAM k hk), fun j hj h => by
    rcases va_A1 (hAM k hk) with h9 | h9
    · exact hne j hj (h.trans h9)
    · have := hlt j hj
      omega⟩
  clear hP1 hD1 hz1 hk1 hvm ht hFc hDm hPm hAM hlt hne
  subst e1
  generalize H1 = H at hPH hPM hS ⊢
  refine lv_astore_n (lv' := [(2, .ref (adm 0)), (1, .ref (adh 0)), (0, .ref b)]) hx hb dL_law_15 rfl hl (by decide) rfl (fun ls hl => ?_)
  refine lv_iconst (v := 1) hx hb dL_law_16 (by decide) ?_
  obtain ⟨p1, hp1⟩ : ∃ z : Nat, H.size = z := ⟨_, rfl⟩
  refine va_newaK (N := 1) (n := 1) (atype := .long) (rest := []) hx hb (hts0 (.arrayClass .long) (by decide +kernel)) rfl dL_law_17 rfl (by decide) (by decide) (by decide) (Nat.le_of_ble_eq_true rfl) (Nat.le_of_ble_eq_true rfl) hp1 (fun H1 cAp1 e1 z1 o1 hAr hNm => ?_)
  refine W.eq (g2 := F0 m 19 ls [.ref p1]) rfl ?_
  have hS := va_Snew (H1 := H1) hS (by omega) (fun q hq => o1 q (by omega))
  have hltH : ∀ k, k < 33 → adh k < p1 := fun k hk => by
    rw [← hp1]
    exact vx_lt hPH (k := k) (q := (adh k, cellH adh cy k (I0 k) (D0 k))) (by
      unfold iwH
      exact iw_get (c := fun k => cellH adh cy k (I0 k) (D0 k)) (List.getElem?_range hk))
  have hltM : ∀ k, k ∈ [0, 1, 2, 5, 6, 7, 8, 9, 10, 11, 12, 13] → adm k < p1 := fun k hk => by
    rw [← hp1]
    obtain ⟨q, hq⟩ := List.getElem?_of_mem hk
    exact vx_lt hPM (k := q) (q := (adm k, cellM adm cy 0 0 k (J0 k) (D0 k))) (by
      unfold iwM
      exact iw_get (c := fun k => cellM adm cy 0 0 k (J0 k) (D0 k)) hq)
  have hsz1 : s.heap.size ≤ p1 := by
    have := hltH 0 (by omega)
    have := hAH 0 (by omega)
    omega
  have hPH := va_Pnew (H1 := H1) hPH (fun q hq _ => o1 q (by omega))
  have hPM := va_Pnew (H1 := H1) hPM (fun q hq _ => o1 q (by omega))
  have hP1 : va_P (dC, dI) vwCl [(p1, eL cAp1 (fun _ => 0))] H1 := va_Pa e1
  have hK : va_K (dC, dI) vwCl (tysA cy ++ [(cAp1, .long)]) s := hKt.app ⟨hKt.1, fun k q hk => by
    cases k with
    | zero =>
      have e9 : (cAp1, FieldType.long) = q := Option.some.inj hk
      rw [← e9]
      exact ⟨hAr, hNm⟩
    | succ k => simp at hk⟩
  clear e1 o1 hAr hNm
  generalize H1 = H at hPH hPM hP1 hS z1 ⊢
  refine lv_astore_n (lv' := [(3, .ref p1), (2, .ref (adm 0)), (1, .ref (adh 0)), (0, .ref b)]) hx hb dL_law_19 rfl hl (by decide) rfl (fun ls hl => ?_)
  refine lv_iconst (v := 1) hx hb dL_law_20 (by decide) ?_
  obtain ⟨p2, hp2⟩ : ∃ z : Nat, H.size = z := ⟨_, rfl⟩
  refine va_newaK (N := 1) (n := 1) (atype := .double) (rest := []) hx hb (hts0 (.arrayClass .double) (by decide +kernel)) rfl dL_law_21 rfl (by decide) (by decide) (by decide) (Nat.le_of_ble_eq_true rfl) (Nat.le_of_ble_eq_true rfl) hp2 (fun H1 cAp2 e1 z1 o1 hAr hNm => ?_)
  refine W.eq (g2 := F0 m 23 ls [.ref p2]) rfl ?_
  have hS := va_Snew (H1 := H1) hS (by omega) (fun q hq => o1 q (by omega))
  have hPH := va_Pnew (H1 := H1) hPH (fun q hq _ => o1 q (by omega))
  have hPM := va_Pnew (H1 := H1) hPM (fun q hq _ => o1 q (by omega))
  have hP1 := va_Pnew (H1 := H1) hP1 (fun q hq _ => o1 q (by omega))
  have e6 : cAp2 = cy 6 := by
    have h9 : s.vm.findClass ("[" ++ FieldType.double.toString) = some (cy 6) := (hKt.2 6 _ rfl).2
    exact Option.some.inj (hNm.symm.trans h9)
  have hP2 : va_P (dC, dI) vwCl [(p2, eD cy (fun _ => 0))] H1 := va_Pa (by rw [e6] at e1; exact e1)
  have hp : p2 = p1 + 1 := by omega
  clear e1 o1 hAr hNm
  generalize H1 = H at hPH hPM hP1 hP2 hS ⊢
  refine lv_astore (lv' := [(4, .ref p2), (3, .ref p1), (2, .ref (adm 0)), (1, .ref (adh 0)), (0, .ref b)]) hx hb dL_law_23 hl (by decide) rfl (fun ls hl => ?_)
  refine lv_iconst (v := nI (6 * 0)) hx hb dL_law_25 (by decide) ?_
  refine lv_istore (lv' := [(5, .int (nI (6 * 0))), (4, .ref p2), (3, .ref p1), (2, .ref (adm 0)), (1, .ref (adh 0)), (0, .ref b)]) hx hb dL_law_26 hl (by decide) rfl (fun ls hl => ?_)
  refine W.widen (k := 100 + 207 * 0) (n := 1000 + 1642 * 0) (by omega) (by omega) ?_
  exact law_loop hl0 hL C0 ⟨hK, hN, hI, hca, hcb, hao, hZ, hT, hzs, hts9⟩ ⟨hJ, fun k hk => Nat.ne_of_lt (hltH k hk), fun k hk => by have := hltH k hk; omega, by omega, hAH, hsz1, by omega⟩ (L + 1) 0 (by omega) (by omega) [0, 1, 2, 5, 6, 7, 8, 9, 10, 11, 12, 13] 0 0 adm I0 D0 J0 D0 (fun _ => 0) (fun _ => 0) H _ 0 0 0 ls ⟨hmo, fun k hk => mL_c hk, fun k hk => ⟨(hAM1 k hk).1, Nat.ne_of_lt (hltM k hk), by have := hltM k hk; omega, (hAM1 k hk).2⟩, e41⟩ ⟨hPH, hP1, hP2, hPM⟩ hS RR_0 (by omega) (lv_sub hl [5, 4, 3, 2, 1, 0] rfl)
