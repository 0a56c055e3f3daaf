/-! pure helpers of the read-off functions: a check, a bind, a name, a bind through what is thrown -/
def ck {β : Type} (b : Bool) (x : Option β) : Option β := match b with | true => x | false => none
theorem ck_out {β : Type} {b : Bool} {x : Option β} {r : β} (h : ck b x = some r) : b = true ∧ x = some r := by
  cases b with
  | true => exact ⟨rfl, h⟩
  | false => cases h
def bd {α β : Type} (x : Option α) (k : α → Option β) : Option β := match x with | some a => k a | none => none
theorem bd_out {α β : Type} {x : Option α} {k : α → Option β} {r : β} (h : bd x k = some r) : ∃ a, x = some a ∧ k a = some r := by
  cases x with
  | some a => exact ⟨a, rfl, h⟩
  | none => cases h
def nm {α β : Type} (v : α) (k : α → β) : β := k v
theorem nm_out {α β : Type} {v : α} {k : α → β} {r : β} (h : nm v k = r) : ∃ a, a = v ∧ k a = r := ⟨v, rfl, h⟩
def bE {α β : Type} (x : Option (Except String α)) (k : α → Option (Except String β)) : Option (Except String β) := match x with
  | some (.ok a) => k a
  | some (.error e) => some (.error e)
  | none => none
theorem bE_ok {α β : Type} {x : Option (Except String α)} {k : α → Option (Except String β)} {r : β} (h : bE x k = some (.ok r)) : ∃ a, x = some (.ok a) ∧ k a = some (.ok r) := by
  match x, h with
  | some (.ok a), h => exact ⟨a, rfl, h⟩
  | some (.error e), h => exact absurd h (by simp [bE])
  | none, h => exact absurd h (by simp [bE])
theorem bE_err {α β : Type} {x : Option (Except String α)} {k : α → Option (Except String β)} {e : String} (h : bE x k = some (.error e)) : x = some (.error e) ∨ ∃ a, x = some (.ok a) ∧ k a = some (.error e) := by
  match x, h with
  | some (.ok a), h => exact Or.inr ⟨a, rfl, h⟩
  | some (.error e2), h =>
    left
    have h2 : some (Except.error e2 : Except String β) = some (.error e) := h
    cases h2
    rfl
  | none, h => exact absurd h (by simp [bE])
theorem it_t {α : Type} {c : Prop} {i : Decidable c} {A B x : α} (h : (@ite α c i A B) = x) (hc : c) : A = x := by rw [if_pos hc] at h; exact h
theorem it_f {α : Type} {c : Prop} {i : Decidable c} {A B x : α} (h : (@ite α c i A B) = x) (hc : ¬ c) : B = x := by rw [if_neg hc] at h; exact h
theorem ok_ne {α : Type} {e : String} {r : α} (h : some (Except.error e : Except String α) = some (.ok r)) : False := by cases h
theorem er_ne {α : Type} {e : String} {r : α} (h : some (Except.ok r : Except String α) = some (.error e)) : False := by cases h
theorem ok_in {α : Type} {a r : α} (h : some (Except.ok a : Except String α) = some (.ok r)) : a = r := by cases h; rfl
theorem er_in {α : Type} {a r : String} (h : some (Except.error a : Except String α) = some (.error r)) : a = r := by cases h; rfl
def inB (i : Int32) (n : Nat) : Bool := !(decide (i < 0) || decide (n ≤ i.toNatClampNeg))
theorem inB_in {i : Int32} {n : Nat} (h : inB i n = true) : vp_in i n := by
  unfold inB at h
  simp only [Bool.not_eq_true', Bool.or_eq_false_iff, decide_eq_false_iff_not] at h
  exact fun q => q.elim h.1 h.2
theorem inB_lt {i : Int32} {n : Nat} (h : inB i n = true) : i.toNatClampNeg < n := by
  unfold inB at h
  simp only [Bool.not_eq_true', Bool.or_eq_false_iff, decide_eq_false_iff_not] at h
  exact Nat.lt_of_not_le h.2
def nzB (y : Int32) : Bool := !(decide (y = 0))
theorem nzB_nz {y : Int32} (h : nzB y = true) : ¬ y = 0 := by
  unfold nzB at h
  simpa using h
def okD (r : UInt64) : Bool := decide (r &&& 0x7fffffffffffffff ≤ 0x7ff0000000000000)
theorem okD_n {r : UInt64} (h : okD r = true) : vf_n64 r := by
  unfold okD at h
  unfold vf_n64
  exact of_decide_eq_true h
def isB (v : Int32) : Bool := decide (v = 0) || decide (v = 1)
theorem isB_or {v : Int32} (h : isB v = true) : v = 0 ∨ v = 1 := by
  unfold isB at h
  simpa using h
theorem isB_nar {v : Int32} (h : isB v = true) : narrow .boolean (.int v) = .int v := by
  rcases isB_or h with rfl | rfl <;> rfl
theorem isB_fit {v : Int32} (h : isB v = true) : fits .boolean (.int v) = true := by
  rcases isB_or h with rfl | rfl <;> rfl
def up2 {α : Type} (I : Nat → Nat → α) (k n : Nat) (v : α) : Nat → Nat → α := va_up I k (va_up (I k) n v)
theorem up2_self {α : Type} (I : Nat → Nat → α) (k n : Nat) (v : α) : up2 I k n v k = va_up (I k) n v := by
  unfold up2 va_up
  simp
theorem up2_ne {α : Type} (I : Nat → Nat → α) {k j : Nat} (n : Nat) (v : α) (h : j ≠ k) : up2 I k n v j = I j := by
  unfold up2
  unfold va_up
  simp [h]
theorem nd_inj {L : List Nat} (hN : L.Nodup) {i j a : Nat} (h1 : L[i]? = some a) (h2 : L[j]? = some a) : i = j := by
  have hl := (List.getElem?_eq_some_iff.mp h1).1
  exact (List.getElem?_inj hl hN).mp (h1.trans h2.symm)
/-- a world by places: the places in L, each at its address, with its cell -/
def iw (L : List Nat) (ad : Nat → Nat) (c : Nat → va_E) : va_W := L.map (fun k => (ad k, c k))
theorem iw_get {L : List Nat} {ad : Nat → Nat} {c : Nat → va_E} {q k : Nat} (h : L[q]? = some k) : (iw L ad c)[q]? = some (ad k, c k) := by
  unfold iw
  rw [List.getElem?_map, h]
  rfl
theorem iw_set {L : List Nat} {ad : Nat → Nat} {c c' : Nat → va_E} {q k : Nat} {e : va_E} (hN : L.Nodup) (h : L[q]? = some k) (he : c' k = e) (ho : ∀ j, j ∈ L → j ≠ k → c' j = c j) : (iw L ad c).set q (ad k, e) = iw L ad c' := by
  apply List.ext_getElem?
  intro i
  unfold iw
  by_cases hi : i = q
  · subst hi
    have hl : i < (L.map (fun k => (ad k, c k))).length := by
      rw [List.length_map]
      exact (List.getElem?_eq_some_iff.mp h).1
    rw [List.getElem?_set_self hl, List.getElem?_map, h, ← he]
    rfl
  · rw [List.getElem?_set_ne (Ne.symm hi), List.getElem?_map, List.getElem?_map]
    cases hj : L[i]? with
    | none => rfl
    | some j =>
      have hne : j ≠ k := by
        intro z
        subst z
        exact hi (nd_inj hN hj h)
      show some (ad j, c j) = some (ad j, c' j)
      rw [ho j (List.mem_of_getElem? hj) hne]
theorem iw_D {L : List Nat} {ad : Nat → Nat} {c : Nat → va_E} {A : Nat → Prop} (hN : L.Nodup) (hJ : ∀ i j, i ∈ L → j ∈ L → ad i = ad j → i = j) (hA : ∀ k, k ∈ L → A (ad k)) : va_D A (iw L ad c) := by
  unfold iw
  refine ⟨fun i j p q hi hj hpq => ?_, fun k q hk => ?_⟩
  · rw [List.getElem?_map] at hi hj
    cases ha : L[i]? with
    | none => rw [ha] at hi; cases hi
    | some a =>
      cases hb : L[j]? with
      | none => rw [hb] at hj; cases hj
      | some b =>
        rw [ha] at hi; rw [hb] at hj
        cases hi; cases hj
        have hab := hJ a b (List.mem_of_getElem? ha) (List.mem_of_getElem? hb) hpq
        subst hab
        exact nd_inj hN ha hb
  · rw [List.getElem?_map] at hk
    cases ha : L[k]? with
    | none => rw [ha] at hk; cases hk
    | some a =>
      rw [ha] at hk
      cases hk
      exact hA a (List.mem_of_getElem? ha)
theorem va_Pkeep {D : va_G} {cl : List vw_C} {ws : va_W} {H H1 : Heap} {A : Nat → Prop} (h : va_P D cl ws H) (hA : ∀ (k : Nat) (q : Nat × va_E), ws[k]? = some q → ¬ A q.1) (hk : ∀ q : Nat, q < H.size → ¬ A q → H1[q]? = H[q]?) : va_P D cl ws H1 := h.kept (fun k q hq => hk q.1 (h k q hq).lt (hA k q hq))
/-- a world is kept where only new cells came -/
theorem va_Pnew {D : va_G} {cl : List vw_C} {ws : va_W} {H H1 : Heap} (h : va_P D cl ws H) (hk : ∀ q : Nat, q < H.size → ¬ H.size ≤ q → H1[q]? = H[q]?) : va_P D cl ws H1 := h.kept (fun k q hq => hk q.1 (h k q hq).lt (Nat.not_le.mpr (h k q hq).lt))
section VWR
variable {p : Program} {l : Launch} {e : Env} {R : Room} {s : State} {m : MethodId} {args : Array Value} {below : List Frame} {meth : Method} {c : Code} {H : Heap} {locs : List Loc} {cells slots : Nat} {Q : State → Prop}
variable {cc : ByteArray} {pc : Nat} {ls : Array Slot} {rest : List Value} {D : va_G} {cl : List vw_C} {a : Nat} {tys : List (ClassId × FieldType)} {ws : va_W}
theorem wr_aald (b : Nat) {ad : Nat → Nat} (hexec : p.tables.exec = Jvm.exec) (hb : c.code = cc) (hK : va_K D cl tys s) (hP : va_P D cl ws H) (q0 t0 : Nat) {cA : ClassId} {C : String} {n : Nat} (ha : ws[q0]? = some (a, .inl (cA, n, .inr (.inr (.inr (.inr (fun j => some (ad (b + j))))))))) (ht : tys[t0]? = some (cA, .object C)) {i : Int32} (hin : vp_in i n) (hdg : decode cc pc = .ok (.aaload, 1))
    (kk : W p l e R s m args below meth c H locs cells slots Q (F0 m (pc + 1) ls (.ref (ad (b + i.toNatClampNeg)) :: rest))) : W p l e R s m args below meth c H locs cells slots Q (F0 m pc ls (.int i :: .ref a :: rest)) := va_aldq hexec hb hK hP q0 t0 ha ht hin hdg kk
end VWR
def AW (ad : Nat → Nat) (sz : Nat) : Nat → Prop := fun q => (∃ k, k < 33 ∧ ad k = q) ∨ sz ≤ q
theorem sw_out3 {x : Int32} (h0 : ¬ x = 0) (h1 : ¬ x = 1) (h2 : ¬ x = 2) : x.toInt < 0 ∨ 2 < x.toInt := by
  have e0 := lv_neT (a := 0) h0 rfl
  have e1 := lv_neT (a := 1) h1 rfl
  have e2 := lv_neT (a := 2) h2 rfl
  omega
theorem sw_out5 {x : Int32} (h0 : ¬ x = 0) (h1 : ¬ x = 1) (h2 : ¬ x = 2) (h3 : ¬ x = 3) (h4 : ¬ x = 4) : x.toInt < 0 ∨ 4 < x.toInt := by
  have e0 := lv_neT (a := 0) h0 rfl
  have e1 := lv_neT (a := 1) h1 rfl
  have e2 := lv_neT (a := 2) h2 rfl
  have e3 := lv_neT (a := 3) h3 rfl
  have e4 := lv_neT (a := 4) h4 rfl
  omega
theorem sw_out8 {x : Int32} (h0 : ¬ x = 0) (h1 : ¬ x = 1) (h2 : ¬ x = 2) (h3 : ¬ x = 3) (h4 : ¬ x = 4) (h5 : ¬ x = 5) (h6 : ¬ x = 6) (h7 : ¬ x = 7) : x.toInt < 0 ∨ 7 < x.toInt := by
  have e0 := lv_neT (a := 0) h0 rfl
  have e1 := lv_neT (a := 1) h1 rfl
  have e2 := lv_neT (a := 2) h2 rfl
  have e3 := lv_neT (a := 3) h3 rfl
  have e4 := lv_neT (a := 4) h4 rfl
  have e5 := lv_neT (a := 5) h5 rfl
  have e6 := lv_neT (a := 6) h6 rfl
  have e7 := lv_neT (a := 7) h7 rfl
  omega
theorem sw_out11 {x : Int32} (h0 : ¬ x = 0) (h1 : ¬ x = 1) (h2 : ¬ x = 2) (h3 : ¬ x = 3) (h4 : ¬ x = 4) (h5 : ¬ x = 5) (h6 : ¬ x = 6) (h7 : ¬ x = 7) (h8 : ¬ x = 8) (h9 : ¬ x = 9) (h10 : ¬ x = 10) : x.toInt < 0 ∨ 10 < x.toInt := by
  have e0 := lv_neT (a := 0) h0 rfl
  have e1 := lv_neT (a := 1) h1 rfl
  have e2 := lv_neT (a := 2) h2 rfl
  have e3 := lv_neT (a := 3) h3 rfl
  have e4 := lv_neT (a := 4) h4 rfl
  have e5 := lv_neT (a := 5) h5 rfl
  have e6 := lv_neT (a := 6) h6 rfl
  have e7 := lv_neT (a := 7) h7 rfl
  have e8 := lv_neT (a := 8) h8 rfl
  have e9 := lv_neT (a := 9) h9 rfl
  have e10 := lv_neT (a := 10) h10 rfl
  omega
theorem sw_out26 {x : Int32} (h0 : ¬ x = 0) (h1 : ¬ x = 1) (h2 : ¬ x = 2) (h3 : ¬ x = 3) (h4 : ¬ x = 4) (h5 : ¬ x = 5) (h6 : ¬ x = 6) (h7 : ¬ x = 7) (h8 : ¬ x = 8) (h9 : ¬ x = 9) (h10 : ¬ x = 10) (h11 : ¬ x = 11) (h12 : ¬ x = 12) (h13 : ¬ x = 13) (h14 : ¬ x = 14) (h15 : ¬ x = 15) (h16 : ¬ x = 16) (h17 : ¬ x = 17) (h18 : ¬ x = 18) (h19 : ¬ x = 19) (h20 : ¬ x = 20) (h21 : ¬ x = 21) (h22 : ¬ x = 22) (h23 : ¬ x = 23) (h24 : ¬ x = 24) (h25 : ¬ x = 25) : x.toInt < 0 ∨ 25 < x.toInt := by
  have e0 := lv_neT (a := 0) h0 rfl
  have e1 := lv_neT (a := 1) h1 rfl
  have e2 := lv_neT (a := 2) h2 rfl
  have e3 := lv_neT (a := 3) h3 rfl
  have e4 := lv_neT (a := 4) h4 rfl
  have e5 := lv_neT (a := 5) h5 rfl
  have e6 := lv_neT (a := 6) h6 rfl
  have e7 := lv_neT (a := 7) h7 rfl
  have e8 := lv_neT (a := 8) h8 rfl
  have e9 := lv_neT (a := 9) h9 rfl
  have e10 := lv_neT (a := 10) h10 rfl
  have e11 := lv_neT (a := 11) h11 rfl
  have e12 := lv_neT (a := 12) h12 rfl
  have e13 := lv_neT (a := 13) h13 rfl
  have e14 := lv_neT (a := 14) h14 rfl
  have e15 := lv_neT (a := 15) h15 rfl
  have e16 := lv_neT (a := 16) h16 rfl
  have e17 := lv_neT (a := 17) h17 rfl
  have e18 := lv_neT (a := 18) h18 rfl
  have e19 := lv_neT (a := 19) h19 rfl
  have e20 := lv_neT (a := 20) h20 rfl
  have e21 := lv_neT (a := 21) h21 rfl
  have e22 := lv_neT (a := 22) h22 rfl
  have e23 := lv_neT (a := 23) h23 rfl
  have e24 := lv_neT (a := 24) h24 rfl
  have e25 := lv_neT (a := 25) h25 rfl
  omega
/-- arrays' classes, by the places of cy: 0 int, 1..4 the class's objects, 5 arrays of int, 6 double -/
abbrev tysA (cy : Nat → ClassId) : List (ClassId × FieldType) := [(cy 0, .int), (cy 1, .object RX1), (cy 2, .object RX2), (cy 3, .object RX0), (cy 4, .object RX3), (cy 5, .array .int), (cy 6, .double)]
/-- the cell of the house's place k, by its ints f and its doubles d -/
def cellH (ad : Nat → Nat) (cy : Nat → ClassId) (k : Nat) (f : Nat → Int32) (d : Nat → UInt64) : va_E :=
  if k = 0 then .inr (4, [.ref (ad 1), .ref (ad 2), .ref (ad 3), .ref (ad 4), .ref (ad 5), .int (f 5), .int (f 6), .int (f 7), .int (f 8), .int (f 9), .int (f 10), .int (f 11), .int (f 12), .ref (ad 6)]) else if k = 1 then .inl (cy 1, 6, .inr (.inr (.inr (.inr (fun j => some (ad (7 + j))))))) else if k = 2 then .inl (cy 2, 5, .inr (.inr (.inr (.inr (fun j => some (ad (13 + j))))))) else if k = 3 then .inl (cy 3, 12, .inr (.inr (.inr (.inr (fun j => some (ad (18 + j))))))) else if k = 4 then .inl (cy 4, 3, .inr (.inr (.inr (.inr (fun j => some (ad (30 + j))))))) else if k = 5 then .inl (cy 0, 2, .inl f) else if k = 6 then .inl (cy 0, 192, .inl f) else if k < 13 then .inr (1, [.int (f 0), .int (f 1), .int (f 2), .int (f 3), .int (f 4)]) else if k < 18 then .inr (2, [.int (f 0), .int (f 1), .int (f 2), .int (f 3), .int (f 4), .int (f 5), .int (f 6), .int (f 7), .int (f 8), .int (f 9), .int (f 10), .double (d 11)]) else if k < 30 then .inr (0, [.int (f 0), .int (f 1), .int (f 2), .int (f 3), .double (d 4)]) else .inr (3, [.int (f 0), .double (d 1)])
theorem cellH_0 (ad : Nat → Nat) (cy : Nat → ClassId) (f : Nat → Int32) (d : Nat → UInt64) : cellH ad cy 0 f d = .inr (4, [.ref (ad 1), .ref (ad 2), .ref (ad 3), .ref (ad 4), .ref (ad 5), .int (f 5), .int (f 6), .int (f 7), .int (f 8), .int (f 9), .int (f 10), .int (f 11), .int (f 12), .ref (ad 6)]) := rfl
theorem cellH_1 (ad : Nat → Nat) (cy : Nat → ClassId) (f : Nat → Int32) (d : Nat → UInt64) : cellH ad cy 1 f d = .inl (cy 1, 6, .inr (.inr (.inr (.inr (fun j => some (ad (7 + j))))))) := rfl
theorem cellH_2 (ad : Nat → Nat) (cy : Nat → ClassId) (f : Nat → Int32) (d : Nat → UInt64) : cellH ad cy 2 f d = .inl (cy 2, 5, .inr (.inr (.inr (.inr (fun j => some (ad (13 + j))))))) := rfl
theorem cellH_3 (ad : Nat → Nat) (cy : Nat → ClassId) (f : Nat → Int32) (d : Nat → UInt64) : cellH ad cy 3 f d = .inl (cy 3, 12, .inr (.inr (.inr (.inr (fun j => some (ad (18 + j))))))) := rfl
theorem cellH_4 (ad : Nat → Nat) (cy : Nat → ClassId) (f : Nat → Int32) (d : Nat → UInt64) : cellH ad cy 4 f d = .inl (cy 4, 3, .inr (.inr (.inr (.inr (fun j => some (ad (30 + j))))))) := rfl
theorem cellH_5 (ad : Nat → Nat) (cy : Nat → ClassId) (f : Nat → Int32) (d : Nat → UInt64) : cellH ad cy 5 f d = .inl (cy 0, 2, .inl f) := rfl
theorem cellH_6 (ad : Nat → Nat) (cy : Nat → ClassId) (f : Nat → Int32) (d : Nat → UInt64) : cellH ad cy 6 f d = .inl (cy 0, 192, .inl f) := rfl
theorem cellH_Ingredient (ad : Nat → Nat) (cy : Nat → ClassId) {i : Nat} (h : i < 6) (f : Nat → Int32) (d : Nat → UInt64) : cellH ad cy (7 + i) f d = .inr (1, [.int (f 0), .int (f 1), .int (f 2), .int (f 3), .int (f 4)]) := by
  unfold cellH
  rw [if_neg (by omega), if_neg (by omega), if_neg (by omega), if_neg (by omega), if_neg (by omega), if_neg (by omega), if_neg (by omega), if_pos (by omega)]
theorem cellH_Mix (ad : Nat → Nat) (cy : Nat → ClassId) {i : Nat} (h : i < 5) (f : Nat → Int32) (d : Nat → UInt64) : cellH ad cy (13 + i) f d = .inr (2, [.int (f 0), .int (f 1), .int (f 2), .int (f 3), .int (f 4), .int (f 5), .int (f 6), .int (f 7), .int (f 8), .int (f 9), .int (f 10), .double (d 11)]) := by
  unfold cellH
  rw [if_neg (by omega), if_neg (by omega), if_neg (by omega), if_neg (by omega), if_neg (by omega), if_neg (by omega), if_neg (by omega), if_neg (by omega), if_pos (by omega)]
theorem cellH_Batch (ad : Nat → Nat) (cy : Nat → ClassId) {i : Nat} (h : i < 12) (f : Nat → Int32) (d : Nat → UInt64) : cellH ad cy (18 + i) f d = .inr (0, [.int (f 0), .int (f 1), .int (f 2), .int (f 3), .double (d 4)]) := by
  unfold cellH
  rw [if_neg (by omega), if_neg (by omega), if_neg (by omega), if_neg (by omega), if_neg (by omega), if_neg (by omega), if_neg (by omega), if_neg (by omega), if_neg (by omega), if_pos (by omega)]
theorem cellH_Store (ad : Nat → Nat) (cy : Nat → ClassId) {i : Nat} (h : i < 3) (f : Nat → Int32) (d : Nat → UInt64) : cellH ad cy (30 + i) f d = .inr (3, [.int (f 0), .double (d 1)]) := by
  unfold cellH
  rw [if_neg (by omega), if_neg (by omega), if_neg (by omega), if_neg (by omega), if_neg (by omega), if_neg (by omega), if_neg (by omega), if_neg (by omega), if_neg (by omega), if_neg (by omega)]
def iwH (ad : Nat → Nat) (cy : Nat → ClassId) (I : Nat → Nat → Int32) (D : Nat → Nat → UInt64) : va_W := iw (List.range 33) ad (fun k => cellH ad cy k (I k) (D k))
theorem iwH_at (ad : Nat → Nat) (cy : Nat → ClassId) (I : Nat → Nat → Int32) (D : Nat → Nat → UInt64) {k : Nat} (h : k < 33) {e : va_E} (he : cellH ad cy k (I k) (D k) = e) : (iwH ad cy I D)[k]? = some (ad k, e) := by
  subst he
  exact iw_get (c := fun k => cellH ad cy k (I k) (D k)) (List.getElem?_range h)
theorem heH_0 {ad : Nat → Nat} {cy : Nat → ClassId} {I : Nat → Nat → Int32} {D : Nat → Nat → UInt64} : (iwH ad cy I D)[0]? = some (ad 0, .inr (4, [.ref (ad 1), .ref (ad 2), .ref (ad 3), .ref (ad 4), .ref (ad 5), .int (I 0 5), .int (I 0 6), .int (I 0 7), .int (I 0 8), .int (I 0 9), .int (I 0 10), .int (I 0 11), .int (I 0 12), .ref (ad 6)])) := iwH_at ad cy I D (by decide) (cellH_0 ad cy _ _)
theorem heH_1 {ad : Nat → Nat} {cy : Nat → ClassId} {I : Nat → Nat → Int32} {D : Nat → Nat → UInt64} : (iwH ad cy I D)[1]? = some (ad 1, .inl (cy 1, 6, .inr (.inr (.inr (.inr (fun j => some (ad (7 + j)))))))) := iwH_at ad cy I D (by decide) (cellH_1 ad cy _ _)
theorem heH_2 {ad : Nat → Nat} {cy : Nat → ClassId} {I : Nat → Nat → Int32} {D : Nat → Nat → UInt64} : (iwH ad cy I D)[2]? = some (ad 2, .inl (cy 2, 5, .inr (.inr (.inr (.inr (fun j => some (ad (13 + j)))))))) := iwH_at ad cy I D (by decide) (cellH_2 ad cy _ _)
theorem heH_3 {ad : Nat → Nat} {cy : Nat → ClassId} {I : Nat → Nat → Int32} {D : Nat → Nat → UInt64} : (iwH ad cy I D)[3]? = some (ad 3, .inl (cy 3, 12, .inr (.inr (.inr (.inr (fun j => some (ad (18 + j)))))))) := iwH_at ad cy I D (by decide) (cellH_3 ad cy _ _)
theorem heH_4 {ad : Nat → Nat} {cy : Nat → ClassId} {I : Nat → Nat → Int32} {D : Nat → Nat → UInt64} : (iwH ad cy I D)[4]? = some (ad 4, .inl (cy 4, 3, .inr (.inr (.inr (.inr (fun j => some (ad (30 + j)))))))) := iwH_at ad cy I D (by decide) (cellH_4 ad cy _ _)
theorem heH_5 {ad : Nat → Nat} {cy : Nat → ClassId} {I : Nat → Nat → Int32} {D : Nat → Nat → UInt64} : (iwH ad cy I D)[5]? = some (ad 5, .inl (cy 0, 2, .inl (I 5))) := iwH_at ad cy I D (by decide) (cellH_5 ad cy _ _)
theorem heH_6 {ad : Nat → Nat} {cy : Nat → ClassId} {I : Nat → Nat → Int32} {D : Nat → Nat → UInt64} : (iwH ad cy I D)[6]? = some (ad 6, .inl (cy 0, 192, .inl (I 6))) := iwH_at ad cy I D (by decide) (cellH_6 ad cy _ _)
theorem heH_Ingredient {ad : Nat → Nat} {cy : Nat → ClassId} {I : Nat → Nat → Int32} {D : Nat → Nat → UInt64} {i : Nat} (h : i < 6) : (iwH ad cy I D)[7 + i]? = some (ad (7 + i), .inr (1, [.int (I (7 + i) 0), .int (I (7 + i) 1), .int (I (7 + i) 2), .int (I (7 + i) 3), .int (I (7 + i) 4)])) := iwH_at ad cy I D (by omega) (cellH_Ingredient ad cy h _ _)
theorem heH_Mix {ad : Nat → Nat} {cy : Nat → ClassId} {I : Nat → Nat → Int32} {D : Nat → Nat → UInt64} {i : Nat} (h : i < 5) : (iwH ad cy I D)[13 + i]? = some (ad (13 + i), .inr (2, [.int (I (13 + i) 0), .int (I (13 + i) 1), .int (I (13 + i) 2), .int (I (13 + i) 3), .int (I (13 + i) 4), .int (I (13 + i) 5), .int (I (13 + i) 6), .int (I (13 + i) 7), .int (I (13 + i) 8), .int (I (13 + i) 9), .int (I (13 + i) 10), .double (D (13 + i) 11)])) := iwH_at ad cy I D (by omega) (cellH_Mix ad cy h _ _)
theorem heH_Batch {ad : Nat → Nat} {cy : Nat → ClassId} {I : Nat → Nat → Int32} {D : Nat → Nat → UInt64} {i : Nat} (h : i < 12) : (iwH ad cy I D)[18 + i]? = some (ad (18 + i), .inr (0, [.int (I (18 + i) 0), .int (I (18 + i) 1), .int (I (18 + i) 2), .int (I (18 + i) 3), .double (D (18 + i) 4)])) := iwH_at ad cy I D (by omega) (cellH_Batch ad cy h _ _)
theorem heH_Store {ad : Nat → Nat} {cy : Nat → ClassId} {I : Nat → Nat → Int32} {D : Nat → Nat → UInt64} {i : Nat} (h : i < 3) : (iwH ad cy I D)[30 + i]? = some (ad (30 + i), .inr (3, [.int (I (30 + i) 0), .double (D (30 + i) 1)])) := iwH_at ad cy I D (by omega) (cellH_Store ad cy h _ _)
theorem hpI {ad : Nat → Nat} {cy : Nat → ClassId} {I : Nat → Nat → Int32} {D : Nat → Nat → UInt64} {G : va_G} {H : Heap} {k n : Nat} {v : Int32} {e : va_E} (hk : k < 33) (he : cellH ad cy k (va_up (I k) n v) (D k) = e) (hP : va_P G vwCl ((iwH ad cy I D).set k (ad k, e)) H) : va_P G vwCl (iwH ad cy (up2 I k n v) D) H := by
  have h := iw_set (L := List.range 33) (ad := ad) (c := fun k => cellH ad cy k (I k) (D k)) (c' := fun j => cellH ad cy j (up2 I k n v j) (D j)) (q := k) (k := k) (e := e) List.nodup_range (List.getElem?_range hk) (by rw [up2_self]; exact he) (fun j _ hj => by rw [up2_ne I n v hj])
  unfold iwH at hP ⊢
  rw [h] at hP
  exact hP
theorem hpD {ad : Nat → Nat} {cy : Nat → ClassId} {I : Nat → Nat → Int32} {D : Nat → Nat → UInt64} {G : va_G} {H : Heap} {k n : Nat} {v : UInt64} {e : va_E} (hk : k < 33) (he : cellH ad cy k (I k) (va_up (D k) n v) = e) (hP : va_P G vwCl ((iwH ad cy I D).set k (ad k, e)) H) : va_P G vwCl (iwH ad cy I (up2 D k n v)) H := by
  have h := iw_set (L := List.range 33) (ad := ad) (c := fun k => cellH ad cy k (I k) (D k)) (c' := fun j => cellH ad cy j (I j) (up2 D k n v j)) (q := k) (k := k) (e := e) List.nodup_range (List.getElem?_range hk) (by rw [up2_self]; exact he) (fun j _ hj => by rw [up2_ne D n v hj])
  unfold iwH at hP ⊢
  rw [h] at hP
  exact hP
/-- the addresses of the house's places are apart -/
def J33 (ad : Nat → Nat) : Prop := ∀ i j, i < 33 → j < 33 → ad i = ad j → i = j
theorem iwH_D {ad : Nat → Nat} {cy : Nat → ClassId} (hJ : J33 ad) {A : Nat → Prop} (hA : ∀ k, k < 33 → A (ad k)) (I : Nat → Nat → Int32) (D : Nat → Nat → UInt64) : va_D A (iwH ad cy I D) := iw_D List.nodup_range (fun i j hi hj h => hJ i j (List.mem_range.mp hi) (List.mem_range.mp hj) h) (fun k hk => hA k (List.mem_range.mp hk))
/-- the links between nest mates -/
def nestW : List Cond := [.fieldLinkNest "OverrunHouse$Mix" 48 "OverrunHouse$Ingredient" "fat" "I" "OverrunHouse", .fieldLinkNest "OverrunHouse" 77 "OverrunHouse$Ingredient" "fat" "I" "OverrunHouse", .fieldLinkNest "OverrunHouse$Mix" 53 "OverrunHouse$Ingredient" "milk" "I" "OverrunHouse", .fieldLinkNest "OverrunHouse" 80 "OverrunHouse$Ingredient" "milk" "I" "OverrunHouse", .fieldLinkNest "OverrunHouse$Mix" 56 "OverrunHouse$Ingredient" "sugar" "I" "OverrunHouse", .fieldLinkNest "OverrunHouse" 83 "OverrunHouse$Ingredient" "sugar" "I" "OverrunHouse", .fieldLinkNest "OverrunHouse$Mix" 59 "OverrunHouse$Ingredient" "cost" "I" "OverrunHouse", .fieldLinkNest "OverrunHouse" 86 "OverrunHouse$Ingredient" "cost" "I" "OverrunHouse", .fieldLinkNest "OverrunHouse$Mix" 60 "OverrunHouse$Ingredient" "harms" "I" "OverrunHouse", .fieldLinkNest "OverrunHouse" 89 "OverrunHouse$Ingredient" "harms" "I" "OverrunHouse", .fieldLinkNest "OverrunHouse" 99 "OverrunHouse$Mix" "kilos" "I" "OverrunHouse", .fieldLinkNest "OverrunHouse" 127 "OverrunHouse$Mix" "left" "I" "OverrunHouse", .fieldLinkNest "OverrunHouse" 212 "OverrunHouse$Mix" "cost" "I" "OverrunHouse", .fieldLinkNest "OverrunHouse" 130 "OverrunHouse$Mix" "harms" "I" "OverrunHouse", .fieldLinkNest "OverrunHouse" 209 "OverrunHouse$Mix" "ingredientSet" "I" "OverrunHouse", .fieldLinkNest "OverrunHouse" 120 "OverrunHouse$Mix" "age" "I" "OverrunHouse", .fieldLinkNest "OverrunHouse" 102 "OverrunHouse$Mix" "batchesOfIt" "I" "OverrunHouse", .fieldLinkNest "OverrunHouse" 112 "OverrunHouse$Mix" "isProved" "Z" "OverrunHouse", .fieldLinkNest "OverrunHouse" 131 "OverrunHouse$Batch" "mix" "I" "OverrunHouse", .fieldLinkNest "OverrunHouse" 134 "OverrunHouse$Batch" "litres" "I" "OverrunHouse", .fieldLinkNest "OverrunHouse" 143 "OverrunHouse$Batch" "place" "I" "OverrunHouse", .fieldLinkNest "OverrunHouse" 146 "OverrunHouse$Batch" "isHard" "Z" "OverrunHouse", .fieldLinkNest "OverrunHouse" 139 "OverrunHouse$Batch" "crystal" "D" "OverrunHouse", .fieldLinkNest "OverrunHouse" 153 "OverrunHouse$Store" "wanted" "I" "OverrunHouse", .fieldLinkNest "OverrunHouse" 156 "OverrunHouse$Store" "degrees" "D" "OverrunHouse", .methodLinkNest "OverrunHouse" 180 ⟨"OverrunHouse$Store", "hourLater", "(D)D"⟩ "OverrunHouse", .methodLinkNest "OverrunHouse" 184 ⟨"OverrunHouse$Mix", "coarsening", "(DD)D"⟩ "OverrunHouse", .methodLinkNest "OverrunHouse" 188 ⟨"OverrunHouse$Mix", "meltsAt", "(D)Z"⟩ "OverrunHouse", .methodLinkNest "OverrunHouse" 213 ⟨"OverrunHouse$Mix", "isCream", "()Z"⟩ "OverrunHouse", .methodLinkNest "OverrunHouse" 196 ⟨"OverrunHouse$Batch", "isCoarse", "()Z"⟩ "OverrunHouse", .methodLinkNest "OverrunHouse" 192 ⟨"OverrunHouse$Batch", "isStored", "()Z"⟩ "OverrunHouse", .methodLinkNest "OverrunHouse" 65 ⟨"OverrunHouse$Ingredient", "<init>", "()V"⟩ "OverrunHouse", .methodLinkNest "OverrunHouse" 66 ⟨"OverrunHouse$Mix", "<init>", "()V"⟩ "OverrunHouse", .methodLinkNest "OverrunHouse" 67 ⟨"OverrunHouse$Batch", "<init>", "()V"⟩ "OverrunHouse", .methodLinkNest "OverrunHouse" 68 ⟨"OverrunHouse$Store", "<init>", "()V"⟩ "OverrunHouse", .methodLinkNest "OverrunHouseLaw$Told" 51 ⟨"OverrunHouseLaw", "cell", "([II)I"⟩ "OverrunHouseLaw", .methodLinkNest "OverrunHouseLaw$Told" 57 ⟨"OverrunHouseLaw", "below", "(II)I"⟩ "OverrunHouseLaw", .methodLinkNest "OverrunHouse" 95 ⟨"OverrunHouse$Mix", "add", "(LOverrunHouse$Ingredient;II)V"⟩ "OverrunHouse"]
def okN (w : Cond) : Bool := match w with | .fieldLinkNest _ _ _ _ _ _ => true | .methodLinkNest _ _ _ _ => true | _ => false
theorem nestW_ok : nestW.all okN = true := by decide +kernel
/-- the links between nest mates, as the tables have them -/
def nestS (U : State) : Prop := ∀ w ∈ nestW, va_Nw w U
theorem nestS.warm {s U : State} (hW : s.WarmedH U.vm) (h : nestS s) : nestS U := by
  intro w hw
  have h1 := h w hw
  have h2 := List.all_eq_true.mp nestW_ok w hw
  cases w <;> first | exact va_Nw.warmF hW h1 | exact va_Nw.warmM hW h1 | exact va_Nw.warmC hW h1 | exact va_Nw.warmD hW h1 | exact (Bool.false_ne_true h2).elim
theorem nestS.same {u U : State} (hv : u.vm = U.vm) (h : nestS u) : nestS U := by
  intro w hw
  have h1 := h w hw
  have h2 := List.all_eq_true.mp nestW_ok w hw
  cases w <;> first | exact va_Nw.same rfl hv h1 | exact (Bool.false_ne_true h2).elim
/-- the house in a state -/
def hW (dC : Nat → ClassId) (dI : Nat → Nat → Nat) (ad : Nat → Nat) (cy : Nat → ClassId) (I : Nat → Nat → Int32) (D : Nat → Nat → UInt64) (U : State) : Prop := va_P (dC, dI) vwCl (iwH ad cy I D) U.heap ∧ va_K (dC, dI) vwCl (tysA cy) U ∧ nestS U
theorem hW.of {dC : Nat → ClassId} {dI : Nat → Nat → Nat} {ad : Nat → Nat} {cy : Nat → ClassId} {I : Nat → Nat → Int32} {D : Nat → Nat → UInt64} {s U : State} {H : Heap} (hP : va_P (dC, dI) vwCl (iwH ad cy I D) H) (hK : va_K (dC, dI) vwCl (tysA cy) s) (hN : nestS s) (hU : U.heap = H) (hW1 : s.WarmedH U.vm) : hW dC dI ad cy I D U := ⟨by rw [hU]; exact hP, va_K.moved hW1.alike hK, hN.warm hW1⟩
theorem hW.blind {dC : Nat → ClassId} {dI : Nat → Nat → Nat} {ad : Nat → Nat} {cy : Nat → ClassId} {I : Nat → Nat → Int32} {D : Nat → Nat → UInt64} {U : State} (a : Array Value) (g : JFrame) (mk : MethodId) (h : hW dC dI ad cy I D U) : hW dC dI ad cy I D (U.calling g mk a) := ⟨h.1, va_K.moved (u := U) (U := U.calling g mk a) (Vm.Alike.refl U.vm) h.2.1, nestS.same (u := U) (U := U.calling g mk a) rfl h.2.2⟩
theorem hW.pre {dC : Nat → ClassId} {dI : Nat → Nat → Nat} {ad : Nat → Nat} {cy : Nat → ClassId} {I : Nat → Nat → Int32} {D : Nat → Nat → UInt64} {s : State} {H : Heap} (As : List Value) (hP : va_P (dC, dI) vwCl (iwH ad cy I D) H) (hK : va_K (dC, dI) vwCl (tysA cy) s) (hN : nestS s) : PreS s H (va_Pc As (fun U => U.heap.size = H.size ∧ hW dC dI ad cy I D U)) As :=
  ⟨fun a U g mk q => by
    obtain ⟨q0, q1, q2⟩ := q
    exact ⟨q0, q1, q2.blind a g mk⟩, fun U hU hW1 => ⟨rfl, by rw [hU], hW.of hP hK hN hU hW1⟩⟩
/-- the receiver of a call -/
theorem hW.recv {dC : Nat → ClassId} {dI : Nat → Nat → Nat} {ad : Nat → Nat} {cy : Nat → ClassId} {I : Nat → Nat → Int32} {D : Nat → Nat → UInt64} {s : State} {H : Heap} {C : String} {T : u_T} {N ci k : Nat} {fs : List Value} (hP : va_P (dC, dI) vwCl (iwH ad cy I D) H) (hK : va_K (dC, dI) vwCl (tysA cy) s) (he : (iwH ad cy I D)[k]? = some (ad k, .inr (ci, fs))) (hc : vwCl[ci]? = some (C, T, N)) : ∃ cellB : Cell, H[ad k]? = some cellB ∧ cellB.vm.isStatics = false ∧ s.vm.findClass C = some cellB.cls := va_recv hK hP (ci := ci) (q0 := k) hc he
/-- a call without a world -/
theorem pre0 {s : State} {H : Heap} (As : List Value) : PreS s H (va_Pc As (fun U => U.heap.size = H.size)) As := ⟨fun a U g mk q => q, fun U hU _ => ⟨rfl, congrArg Array.size hU⟩⟩
