/-! the told house behind its constructor -/
theorem ws_inj {A : Nat → Prop} {ws : va_W} {L : List Nat} {ad : Nat → Nat} (h : ws.map Prod.fst = L.map ad) (hD : va_D A ws) : (∀ i j, i ∈ L → j ∈ L → ad i = ad j → i = j) ∧ ∀ k, k ∈ L → A (ad k) := by
  have key : ∀ k, k ∈ L → ∃ (n : Nat) (p : Nat × va_E), L[n]? = some k ∧ ws[n]? = some p ∧ p.1 = ad k := by
    intro k hk
    obtain ⟨n, hn⟩ := List.getElem?_of_mem hk
    have e : (ws.map Prod.fst)[n]? = some (ad k) := by
      rw [h, List.getElem?_map, hn]
      rfl
    rw [List.getElem?_map] at e
    cases hw : ws[n]? with
    | none => rw [hw] at e; cases e
    | some p =>
      rw [hw] at e
      exact ⟨n, p, hn, hw, Option.some.inj e⟩
  refine ⟨fun i j hi hj e => ?_, fun k hk => ?_⟩
  · obtain ⟨n, p, h1, h2, h3⟩ := key i hi
    obtain ⟨n', p', h4, h5, h6⟩ := key j hj
    have := hD.1 n n' p p' h2 h5 (by rw [h3, h6, e])
    subst this
    exact Option.some.inj (h1.symm.trans h4)
  · obtain ⟨n, p, h1, h2, h3⟩ := key k hk
    rw [← h3]
    exact hD.2 n p h2
def I0 : Nat → Nat → Int32 := fun k n => if 18 ≤ k ∧ k < 30 ∧ n = 2 then -1 else 0
def D0 : Nat → Nat → UInt64 := fun _ _ => 0
/-- the teller's ints at first: what it has drawn alone -/
def kT0 (v : Int32) : Nat → Nat → Int32 := fun k n => if k = 40 ∧ n = 2 then v else 0
theorem I0_z {k n : Nat} (h : ¬ (18 ≤ k ∧ k < 30 ∧ n = 2)) : I0 k n = 0 := if_neg h
theorem I0_b {k : Nat} (h : 18 ≤ k ∧ k < 30) : I0 k 2 = -1 := if_pos ⟨h.1, h.2, rfl⟩
theorem kT0_z {v : Int32} {k n : Nat} (h : ¬ (k = 40 ∧ n = 2)) : kT0 v k n = 0 := if_neg h
theorem kT0_d {v : Int32} : kT0 v 40 2 = v := rfl
set_option maxHeartbeats 8000000 in
set_option maxRecDepth 100000 in
theorem init_T {dC : Nat → ClassId} {dI : Nat → Nat → Nat} {cy : Nat → ClassId} {h0 bS : Nat} {p2 : Int32} {A A1 : Nat → Prop} {H : Heap} (q1 q2 q3 q4 q5 q6 q7 q8 q9 q10 q11 q12 q13 q14 q15 q16 q17 q18 q19 q20 q21 q22 q23 q24 q25 q26 q27 q28 q29 q30 q31 q32 q33 q34 q35 q36 q37 q39 q41 q43 q45 : Nat) (hP : va_P (dC, dI) vwCl [(h0, .inr (5, [.ref q1, .ref bS, .int p2, .ref q34, .ref q35, .ref q36, .ref q37, .ref q39, .ref q41, .ref q43, .ref q45])), (q1, .inr (4, [.ref q2, .ref q3, .ref q4, .ref q5, .ref q6, .int 0, .int 0, .int 0, .int 0, .int 0, .int 0, .int 0, .int 0, .ref q7])), (q2, .inl (cy 1, 6, .inr (.inr (.inr (.inr (va_up (va_up (va_up (va_up (va_up (va_up (fun _ => none) 0 (some q8)) 1 (some q9)) 2 (some q10)) 3 (some q11)) 4 (some q12)) 5 (some q13))))))), (q3, .inl (cy 2, 5, .inr (.inr (.inr (.inr (va_up (va_up (va_up (va_up (va_up (fun _ => none) 0 (some q14)) 1 (some q15)) 2 (some q16)) 3 (some q17)) 4 (some q18))))))), (q4, .inl (cy 3, 12, .inr (.inr (.inr (.inr (va_up (va_up (va_up (va_up (va_up (va_up (va_up (va_up (va_up (va_up (va_up (va_up (fun _ => none) 0 (some q19)) 1 (some q20)) 2 (some q21)) 3 (some q22)) 4 (some q23)) 5 (some q24)) 6 (some q25)) 7 (some q26)) 8 (some q27)) 9 (some q28)) 10 (some q29)) 11 (some q30))))))), (q5, .inl (cy 4, 3, .inr (.inr (.inr (.inr (va_up (va_up (va_up (fun _ => none) 0 (some q31)) 1 (some q32)) 2 (some q33))))))), (q6, .inl (cy 0, 2, .inl (fun _ => 0))), (q7, .inl (cy 0, 192, .inl (fun _ => 0))), (q8, .inr (1, [.int 0, .int 0, .int 0, .int 0, .int 0])), (q9, .inr (1, [.int 0, .int 0, .int 0, .int 0, .int 0])), (q10, .inr (1, [.int 0, .int 0, .int 0, .int 0, .int 0])), (q11, .inr (1, [.int 0, .int 0, .int 0, .int 0, .int 0])), (q12, .inr (1, [.int 0, .int 0, .int 0, .int 0, .int 0])), (q13, .inr (1, [.int 0, .int 0, .int 0, .int 0, .int 0])), (q14, .inr (2, [.int 0, .int 0, .int 0, .int 0, .int 0, .int 0, .int 0, .int 0, .int 0, .int 0, .int 0, .double 0])), (q15, .inr (2, [.int 0, .int 0, .int 0, .int 0, .int 0, .int 0, .int 0, .int 0, .int 0, .int 0, .int 0, .double 0])), (q16, .inr (2, [.int 0, .int 0, .int 0, .int 0, .int 0, .int 0, .int 0, .int 0, .int 0, .int 0, .int 0, .double 0])), (q17, .inr (2, [.int 0, .int 0, .int 0, .int 0, .int 0, .int 0, .int 0, .int 0, .int 0, .int 0, .int 0, .double 0])), (q18, .inr (2, [.int 0, .int 0, .int 0, .int 0, .int 0, .int 0, .int 0, .int 0, .int 0, .int 0, .int 0, .double 0])), (q19, .inr (0, [.int 0, .int 0, .int (-1), .int 0, .double 0])), (q20, .inr (0, [.int 0, .int 0, .int (-1), .int 0, .double 0])), (q21, .inr (0, [.int 0, .int 0, .int (-1), .int 0, .double 0])), (q22, .inr (0, [.int 0, .int 0, .int (-1), .int 0, .double 0])), (q23, .inr (0, [.int 0, .int 0, .int (-1), .int 0, .double 0])), (q24, .inr (0, [.int 0, .int 0, .int (-1), .int 0, .double 0])), (q25, .inr (0, [.int 0, .int 0, .int (-1), .int 0, .double 0])), (q26, .inr (0, [.int 0, .int 0, .int (-1), .int 0, .double 0])), (q27, .inr (0, [.int 0, .int 0, .int (-1), .int 0, .double 0])), (q28, .inr (0, [.int 0, .int 0, .int (-1), .int 0, .double 0])), (q29, .inr (0, [.int 0, .int 0, .int (-1), .int 0, .double 0])), (q30, .inr (0, [.int 0, .int 0, .int (-1), .int 0, .double 0])), (q31, .inr (3, [.int 0, .double 0])), (q32, .inr (3, [.int 0, .double 0])), (q33, .inr (3, [.int 0, .double 0])), (q34, .inl (cy 5, 0, .inr (.inr (.inr (.inr (fun _ => none)))))), (q35, .inl (cy 5, 0, .inr (.inr (.inr (.inr (fun _ => none)))))), (q36, .inl (cy 5, 0, .inr (.inr (.inr (.inr (fun _ => none)))))), (q37, .inl (cy 6, 12, .inr (.inr (.inr (.inl (fun _ => 0)))))), (q39, .inl (cy 0, 0, .inl (fun _ => 0))), (q41, .inl (cy 6, 3, .inr (.inr (.inr (.inl (fun _ => 0)))))), (q43, .inl (cy 0, 2, .inl (fun _ => 0))), (q45, .inl (cy 0, 4, .inl (fun _ => 0)))] H) (hD : va_D A1 [(h0, .inr (5, [.ref q1, .ref bS, .int p2, .ref q34, .ref q35, .ref q36, .ref q37, .ref q39, .ref q41, .ref q43, .ref q45])), (q1, .inr (4, [.ref q2, .ref q3, .ref q4, .ref q5, .ref q6, .int 0, .int 0, .int 0, .int 0, .int 0, .int 0, .int 0, .int 0, .ref q7])), (q2, .inl (cy 1, 6, .inr (.inr (.inr (.inr (va_up (va_up (va_up (va_up (va_up (va_up (fun _ => none) 0 (some q8)) 1 (some q9)) 2 (some q10)) 3 (some q11)) 4 (some q12)) 5 (some q13))))))), (q3, .inl (cy 2, 5, .inr (.inr (.inr (.inr (va_up (va_up (va_up (va_up (va_up (fun _ => none) 0 (some q14)) 1 (some q15)) 2 (some q16)) 3 (some q17)) 4 (some q18))))))), (q4, .inl (cy 3, 12, .inr (.inr (.inr (.inr (va_up (va_up (va_up (va_up (va_up (va_up (va_up (va_up (va_up (va_up (va_up (va_up (fun _ => none) 0 (some q19)) 1 (some q20)) 2 (some q21)) 3 (some q22)) 4 (some q23)) 5 (some q24)) 6 (some q25)) 7 (some q26)) 8 (some q27)) 9 (some q28)) 10 (some q29)) 11 (some q30))))))), (q5, .inl (cy 4, 3, .inr (.inr (.inr (.inr (va_up (va_up (va_up (fun _ => none) 0 (some q31)) 1 (some q32)) 2 (some q33))))))), (q6, .inl (cy 0, 2, .inl (fun _ => 0))), (q7, .inl (cy 0, 192, .inl (fun _ => 0))), (q8, .inr (1, [.int 0, .int 0, .int 0, .int 0, .int 0])), (q9, .inr (1, [.int 0, .int 0, .int 0, .int 0, .int 0])), (q10, .inr (1, [.int 0, .int 0, .int 0, .int 0, .int 0])), (q11, .inr (1, [.int 0, .int 0, .int 0, .int 0, .int 0])), (q12, .inr (1, [.int 0, .int 0, .int 0, .int 0, .int 0])), (q13, .inr (1, [.int 0, .int 0, .int 0, .int 0, .int 0])), (q14, .inr (2, [.int 0, .int 0, .int 0, .int 0, .int 0, .int 0, .int 0, .int 0, .int 0, .int 0, .int 0, .double 0])), (q15, .inr (2, [.int 0, .int 0, .int 0, .int 0, .int 0, .int 0, .int 0, .int 0, .int 0, .int 0, .int 0, .double 0])), (q16, .inr (2, [.int 0, .int 0, .int 0, .int 0, .int 0, .int 0, .int 0, .int 0, .int 0, .int 0, .int 0, .double 0])), (q17, .inr (2, [.int 0, .int 0, .int 0, .int 0, .int 0, .int 0, .int 0, .int 0, .int 0, .int 0, .int 0, .double 0])), (q18, .inr (2, [.int 0, .int 0, .int 0, .int 0, .int 0, .int 0, .int 0, .int 0, .int 0, .int 0, .int 0, .double 0])), (q19, .inr (0, [.int 0, .int 0, .int (-1), .int 0, .double 0])), (q20, .inr (0, [.int 0, .int 0, .int (-1), .int 0, .double 0])), (q21, .inr (0, [.int 0, .int 0, .int (-1), .int 0, .double 0])), (q22, .inr (0, [.int 0, .int 0, .int (-1), .int 0, .double 0])), (q23, .inr (0, [.int 0, .int 0, .int (-1), .int 0, .double 0])), (q24, .inr (0, [.int 0, .int 0, .int (-1), .int 0, .double 0])), (q25, .inr (0, [.int 0, .int 0, .int (-1), .int 0, .double 0])), (q26, .inr (0, [.int 0, .int 0, .int (-1), .int 0, .double 0])), (q27, .inr (0, [.int 0, .int 0, .int (-1), .int 0, .double 0])), (q28, .inr (0, [.int 0, .int 0, .int (-1), .int 0, .double 0])), (q29, .inr (0, [.int 0, .int 0, .int (-1), .int 0, .double 0])), (q30, .inr (0, [.int 0, .int 0, .int (-1), .int 0, .double 0])), (q31, .inr (3, [.int 0, .double 0])), (q32, .inr (3, [.int 0, .double 0])), (q33, .inr (3, [.int 0, .double 0])), (q34, .inl (cy 5, 0, .inr (.inr (.inr (.inr (fun _ => none)))))), (q35, .inl (cy 5, 0, .inr (.inr (.inr (.inr (fun _ => none)))))), (q36, .inl (cy 5, 0, .inr (.inr (.inr (.inr (fun _ => none)))))), (q37, .inl (cy 6, 12, .inr (.inr (.inr (.inl (fun _ => 0)))))), (q39, .inl (cy 0, 0, .inl (fun _ => 0))), (q41, .inl (cy 6, 3, .inr (.inr (.inr (.inl (fun _ => 0)))))), (q43, .inl (cy 0, 2, .inl (fun _ => 0))), (q45, .inl (cy 0, 4, .inl (fun _ => 0)))]) (hA1 : ∀ q, A1 q → A q) (hbA : ¬ A bS) (r : Nat) : ∃ ad : Nat → Nat, va_P (dC, dI) vwCl (iwT (tL 0 0 0) ad cy bS 0 0 0 0 r I0 D0 (kT0 p2) D0) H ∧ tOK (tL 0 0 0) 0 0 0 0 bS ad ∧ (∀ k, k ∈ tL 0 0 0 → A (ad k)) ∧ ad 40 = h0 := by
  obtain ⟨ad, had⟩ : ∃ ad : Nat → Nat, ad = fun k => ([q1, q2, q3, q4, q5, q6, q7, q8, q9, q10, q11, q12, q13, q14, q15, q16, q17, q18, q19, q20, q21, q22, q23, q24, q25, q26, q27, q28, q29, q30, q31, q32, q33, 0, 0, 0, 0, 0, 0, 0, h0, 0, q37, q41, q43, q45, q39, q34, q35, q36] : List Nat).getD k 0 := ⟨_, rfl⟩
  have a0 : ad 0 = q1 := by rw [had]; rfl
  have a1 : ad 1 = q2 := by rw [had]; rfl
  have a2 : ad 2 = q3 := by rw [had]; rfl
  have a3 : ad 3 = q4 := by rw [had]; rfl
  have a4 : ad 4 = q5 := by rw [had]; rfl
  have a5 : ad 5 = q6 := by rw [had]; rfl
  have a6 : ad 6 = q7 := by rw [had]; rfl
  have a7 : ad 7 = q8 := by rw [had]; rfl
  have a8 : ad 8 = q9 := by rw [had]; rfl
  have a9 : ad 9 = q10 := by rw [had]; rfl
  have a10 : ad 10 = q11 := by rw [had]; rfl
  have a11 : ad 11 = q12 := by rw [had]; rfl
  have a12 : ad 12 = q13 := by rw [had]; rfl
  have a13 : ad 13 = q14 := by rw [had]; rfl
  have a14 : ad 14 = q15 := by rw [had]; rfl
  have a15 : ad 15 = q16 := by rw [had]; rfl
  have a16 : ad 16 = q17 := by rw [had]; rfl
  have a17 : ad 17 = q18 := by rw [had]; rfl
  have a18 : ad 18 = q19 := by rw [had]; rfl
  have a19 : ad 19 = q20 := by rw [had]; rfl
  have a20 : ad 20 = q21 := by rw [had]; rfl
  have a21 : ad 21 = q22 := by rw [had]; rfl
  have a22 : ad 22 = q23 := by rw [had]; rfl
  have a23 : ad 23 = q24 := by rw [had]; rfl
  have a24 : ad 24 = q25 := by rw [had]; rfl
  have a25 : ad 25 = q26 := by rw [had]; rfl
  have a26 : ad 26 = q27 := by rw [had]; rfl
  have a27 : ad 27 = q28 := by rw [had]; rfl
  have a28 : ad 28 = q29 := by rw [had]; rfl
  have a29 : ad 29 = q30 := by rw [had]; rfl
  have a30 : ad 30 = q31 := by rw [had]; rfl
  have a31 : ad 31 = q32 := by rw [had]; rfl
  have a32 : ad 32 = q33 := by rw [had]; rfl
  have a40 : ad 40 = h0 := by rw [had]; rfl
  have a42 : ad 42 = q37 := by rw [had]; rfl
  have a43 : ad 43 = q41 := by rw [had]; rfl
  have a44 : ad 44 = q43 := by rw [had]; rfl
  have a45 : ad 45 = q45 := by rw [had]; rfl
  have a46 : ad 46 = q39 := by rw [had]; rfl
  have a47 : ad 47 = q34 := by rw [had]; rfl
  have a48 : ad 48 = q35 := by rw [had]; rfl
  have a49 : ad 49 = q36 := by rw [had]; rfl
  have hm : ([(h0, .inr (5, [.ref q1, .ref bS, .int p2, .ref q34, .ref q35, .ref q36, .ref q37, .ref q39, .ref q41, .ref q43, .ref q45])), (q1, .inr (4, [.ref q2, .ref q3, .ref q4, .ref q5, .ref q6, .int 0, .int 0, .int 0, .int 0, .int 0, .int 0, .int 0, .int 0, .ref q7])), (q2, .inl (cy 1, 6, .inr (.inr (.inr (.inr (va_up (va_up (va_up (va_up (va_up (va_up (fun _ => none) 0 (some q8)) 1 (some q9)) 2 (some q10)) 3 (some q11)) 4 (some q12)) 5 (some q13))))))), (q3, .inl (cy 2, 5, .inr (.inr (.inr (.inr (va_up (va_up (va_up (va_up (va_up (fun _ => none) 0 (some q14)) 1 (some q15)) 2 (some q16)) 3 (some q17)) 4 (some q18))))))), (q4, .inl (cy 3, 12, .inr (.inr (.inr (.inr (va_up (va_up (va_up (va_up (va_up (va_up (va_up (va_up (va_up (va_up (va_up (va_up (fun _ => none) 0 (some q19)) 1 (some q20)) 2 (some q21)) 3 (some q22)) 4 (some q23)) 5 (some q24)) 6 (some q25)) 7 (some q26)) 8 (some q27)) 9 (some q28)) 10 (some q29)) 11 (some q30))))))), (q5, .inl (cy 4, 3, .inr (.inr (.inr (.inr (va_up (va_up (va_up (fun _ => none) 0 (some q31)) 1 (some q32)) 2 (some q33))))))), (q6, .inl (cy 0, 2, .inl (fun _ => 0))), (q7, .inl (cy 0, 192, .inl (fun _ => 0))), (q8, .inr (1, [.int 0, .int 0, .int 0, .int 0, .int 0])), (q9, .inr (1, [.int 0, .int 0, .int 0, .int 0, .int 0])), (q10, .inr (1, [.int 0, .int 0, .int 0, .int 0, .int 0])), (q11, .inr (1, [.int 0, .int 0, .int 0, .int 0, .int 0])), (q12, .inr (1, [.int 0, .int 0, .int 0, .int 0, .int 0])), (q13, .inr (1, [.int 0, .int 0, .int 0, .int 0, .int 0])), (q14, .inr (2, [.int 0, .int 0, .int 0, .int 0, .int 0, .int 0, .int 0, .int 0, .int 0, .int 0, .int 0, .double 0])), (q15, .inr (2, [.int 0, .int 0, .int 0, .int 0, .int 0, .int 0, .int 0, .int 0, .int 0, .int 0, .int 0, .double 0])), (q16, .inr (2, [.int 0, .int 0, .int 0, .int 0, .int 0, .int 0, .int 0, .int 0, .int 0, .int 0, .int 0, .double 0])), (q17, .inr (2, [.int 0, .int 0, .int 0, .int 0, .int 0, .int 0, .int 0, .int 0, .int 0, .int 0, .int 0, .double 0])), (q18, .inr (2, [.int 0, .int 0, .int 0, .int 0, .int 0, .int 0, .int 0, .int 0, .int 0, .int 0, .int 0, .double 0])), (q19, .inr (0, [.int 0, .int 0, .int (-1), .int 0, .double 0])), (q20, .inr (0, [.int 0, .int 0, .int (-1), .int 0, .double 0])), (q21, .inr (0, [.int 0, .int 0, .int (-1), .int 0, .double 0])), (q22, .inr (0, [.int 0, .int 0, .int (-1), .int 0, .double 0])), (q23, .inr (0, [.int 0, .int 0, .int (-1), .int 0, .double 0])), (q24, .inr (0, [.int 0, .int 0, .int (-1), .int 0, .double 0])), (q25, .inr (0, [.int 0, .int 0, .int (-1), .int 0, .double 0])), (q26, .inr (0, [.int 0, .int 0, .int (-1), .int 0, .double 0])), (q27, .inr (0, [.int 0, .int 0, .int (-1), .int 0, .double 0])), (q28, .inr (0, [.int 0, .int 0, .int (-1), .int 0, .double 0])), (q29, .inr (0, [.int 0, .int 0, .int (-1), .int 0, .double 0])), (q30, .inr (0, [.int 0, .int 0, .int (-1), .int 0, .double 0])), (q31, .inr (3, [.int 0, .double 0])), (q32, .inr (3, [.int 0, .double 0])), (q33, .inr (3, [.int 0, .double 0])), (q34, .inl (cy 5, 0, .inr (.inr (.inr (.inr (fun _ => none)))))), (q35, .inl (cy 5, 0, .inr (.inr (.inr (.inr (fun _ => none)))))), (q36, .inl (cy 5, 0, .inr (.inr (.inr (.inr (fun _ => none)))))), (q37, .inl (cy 6, 12, .inr (.inr (.inr (.inl (fun _ => 0)))))), (q39, .inl (cy 0, 0, .inl (fun _ => 0))), (q41, .inl (cy 6, 3, .inr (.inr (.inr (.inl (fun _ => 0)))))), (q43, .inl (cy 0, 2, .inl (fun _ => 0))), (q45, .inl (cy 0, 4, .inl (fun _ => 0)))] : va_W).map Prod.fst = ([40, 0, 1, 2, 3, 4, 5, 6, 7, 8, 9, 10, 11, 12, 13, 14, 15, 16, 17, 18, 19, 20, 21, 22, 23, 24, 25, 26, 27, 28, 29, 30, 31, 32, 47, 48, 49, 42, 46, 43, 44, 45] : List Nat).map ad := by rw [had]; rfl
  clear had
  have hi := ws_inj hm hD
  have hmem : ∀ k ∈ tL 0 0 0, k ∈ ([40, 0, 1, 2, 3, 4, 5, 6, 7, 8, 9, 10, 11, 12, 13, 14, 15, 16, 17, 18, 19, 20, 21, 22, 23, 24, 25, 26, 27, 28, 29, 30, 31, 32, 47, 48, 49, 42, 46, 43, 44, 45] : List Nat) := by decide
  have hAk : ∀ k ∈ tL 0 0 0, A (ad k) := fun k hk => hA1 _ (hi.2 k (hmem k hk))
  refine ⟨ad, iw_mk (fun k hk => ?_), ⟨⟨tL_nd (by omega) (by omega) (by omega), fun k hk => hk, fun i j h1 h2 e => hi.1 i j (hmem i h1) (hmem j h2) e⟩, fun k hk z => hbA (z ▸ hAk k hk), by omega, by omega, by omega, by omega⟩, hAk, a40⟩
  by_cases k33 : k < 33
  · rw [cellA_H k33]
    match k, k33 with
    | 0, _ =>
      have h := hP 1 _ rfl
      rw [cellH_0, a0, a1, a2, a3, a4, a5, a6, I0_z (k := 0) (n := 5) (by omega), I0_z (k := 0) (n := 6) (by omega), I0_z (k := 0) (n := 7) (by omega), I0_z (k := 0) (n := 8) (by omega), I0_z (k := 0) (n := 9) (by omega), I0_z (k := 0) (n := 10) (by omega), I0_z (k := 0) (n := 11) (by omega), I0_z (k := 0) (n := 12) (by omega)]
      exact h
    | 1, _ =>
      have h := hP 2 _ rfl
      rw [cellH_1, a1]
      refine at_rf h (fun j hj => ?_)
      match j, hj with
      | 0, _ => exact (congrArg some a7).symm
      | 1, _ => exact (congrArg some a8).symm
      | 2, _ => exact (congrArg some a9).symm
      | 3, _ => exact (congrArg some a10).symm
      | 4, _ => exact (congrArg some a11).symm
      | 5, _ => exact (congrArg some a12).symm
    | 2, _ =>
      have h := hP 3 _ rfl
      rw [cellH_2, a2]
      refine at_rf h (fun j hj => ?_)
      match j, hj with
      | 0, _ => exact (congrArg some a13).symm
      | 1, _ => exact (congrArg some a14).symm
      | 2, _ => exact (congrArg some a15).symm
      | 3, _ => exact (congrArg some a16).symm
      | 4, _ => exact (congrArg some a17).symm
    | 3, _ =>
      have h := hP 4 _ rfl
      rw [cellH_3, a3]
      refine at_rf h (fun j hj => ?_)
      match j, hj with
      | 0, _ => exact (congrArg some a18).symm
      | 1, _ => exact (congrArg some a19).symm
      | 2, _ => exact (congrArg some a20).symm
      | 3, _ => exact (congrArg some a21).symm
      | 4, _ => exact (congrArg some a22).symm
      | 5, _ => exact (congrArg some a23).symm
      | 6, _ => exact (congrArg some a24).symm
      | 7, _ => exact (congrArg some a25).symm
      | 8, _ => exact (congrArg some a26).symm
      | 9, _ => exact (congrArg some a27).symm
      | 10, _ => exact (congrArg some a28).symm
      | 11, _ => exact (congrArg some a29).symm
    | 4, _ =>
      have h := hP 5 _ rfl
      rw [cellH_4, a4]
      refine at_rf h (fun j hj => ?_)
      match j, hj with
      | 0, _ => exact (congrArg some a30).symm
      | 1, _ => exact (congrArg some a31).symm
      | 2, _ => exact (congrArg some a32).symm
    | 5, _ =>
      have h := hP 6 _ rfl
      have e : I0 5 = fun _ => 0 := by funext n; exact I0_z (by omega)
      rw [cellH_5, a5, e]
      exact h
    | 6, _ =>
      have h := hP 7 _ rfl
      have e : I0 6 = fun _ => 0 := by funext n; exact I0_z (by omega)
      rw [cellH_6, a6, e]
      exact h
    | 7, _ =>
      have h := hP 8 _ rfl
      rw [show cellH ad cy 7 (I0 7) (D0 7) = _ from cellH_Ingredient ad cy (i := 0) (by omega) (I0 7) (D0 7), a7, I0_z (k := 7) (n := 0) (by omega), I0_z (k := 7) (n := 1) (by omega), I0_z (k := 7) (n := 2) (by omega), I0_z (k := 7) (n := 3) (by omega), I0_z (k := 7) (n := 4) (by omega)]
      exact h
    | 8, _ =>
      have h := hP 9 _ rfl
      rw [show cellH ad cy 8 (I0 8) (D0 8) = _ from cellH_Ingredient ad cy (i := 1) (by omega) (I0 8) (D0 8), a8, I0_z (k := 8) (n := 0) (by omega), I0_z (k := 8) (n := 1) (by omega), I0_z (k := 8) (n := 2) (by omega), I0_z (k := 8) (n := 3) (by omega), I0_z (k := 8) (n := 4) (by omega)]
      exact h
    | 9, _ =>
      have h := hP 10 _ rfl
      rw [show cellH ad cy 9 (I0 9) (D0 9) = _ from cellH_Ingredient ad cy (i := 2) (by omega) (I0 9) (D0 9), a9, I0_z (k := 9) (n := 0) (by omega), I0_z (k := 9) (n := 1) (by omega), I0_z (k := 9) (n := 2) (by omega), I0_z (k := 9) (n := 3) (by omega), I0_z (k := 9) (n := 4) (by omega)]
      exact h
    | 10, _ =>
      have h := hP 11 _ rfl
      rw [show cellH ad cy 10 (I0 10) (D0 10) = _ from cellH_Ingredient ad cy (i := 3) (by omega) (I0 10) (D0 10), a10, I0_z (k := 10) (n := 0) (by omega), I0_z (k := 10) (n := 1) (by omega), I0_z (k := 10) (n := 2) (by omega), I0_z (k := 10) (n := 3) (by omega), I0_z (k := 10) (n := 4) (by omega)]
      exact h
    | 11, _ =>
      have h := hP 12 _ rfl
      rw [show cellH ad cy 11 (I0 11) (D0 11) = _ from cellH_Ingredient ad cy (i := 4) (by omega) (I0 11) (D0 11), a11, I0_z (k := 11) (n := 0) (by omega), I0_z (k := 11) (n := 1) (by omega), I0_z (k := 11) (n := 2) (by omega), I0_z (k := 11) (n := 3) (by omega), I0_z (k := 11) (n := 4) (by omega)]
      exact h
    | 12, _ =>
      have h := hP 13 _ rfl
      rw [show cellH ad cy 12 (I0 12) (D0 12) = _ from cellH_Ingredient ad cy (i := 5) (by omega) (I0 12) (D0 12), a12, I0_z (k := 12) (n := 0) (by omega), I0_z (k := 12) (n := 1) (by omega), I0_z (k := 12) (n := 2) (by omega), I0_z (k := 12) (n := 3) (by omega), I0_z (k := 12) (n := 4) (by omega)]
      exact h
    | 13, _ =>
      have h := hP 14 _ rfl
      rw [show cellH ad cy 13 (I0 13) (D0 13) = _ from cellH_Mix ad cy (i := 0) (by omega) (I0 13) (D0 13), a13, I0_z (k := 13) (n := 0) (by omega), I0_z (k := 13) (n := 1) (by omega), I0_z (k := 13) (n := 2) (by omega), I0_z (k := 13) (n := 3) (by omega), I0_z (k := 13) (n := 4) (by omega), I0_z (k := 13) (n := 5) (by omega), I0_z (k := 13) (n := 6) (by omega), I0_z (k := 13) (n := 7) (by omega), I0_z (k := 13) (n := 8) (by omega), I0_z (k := 13) (n := 9) (by omega), I0_z (k := 13) (n := 10) (by omega)]
      exact h
    | 14, _ =>
      have h := hP 15 _ rfl
      rw [show cellH ad cy 14 (I0 14) (D0 14) = _ from cellH_Mix ad cy (i := 1) (by omega) (I0 14) (D0 14), a14, I0_z (k := 14) (n := 0) (by omega), I0_z (k := 14) (n := 1) (by omega), I0_z (k := 14) (n := 2) (by omega), I0_z (k := 14) (n := 3) (by omega), I0_z (k := 14) (n := 4) (by omega), I0_z (k := 14) (n := 5) (by omega), I0_z (k := 14) (n := 6) (by omega), I0_z (k := 14) (n := 7) (by omega), I0_z (k := 14) (n := 8) (by omega), I0_z (k := 14) (n := 9) (by omega), I0_z (k := 14) (n := 10) (by omega)]
      exact h
    | 15, _ =>
      have h := hP 16 _ rfl
      rw [show cellH ad cy 15 (I0 15) (D0 15) = _ from cellH_Mix ad cy (i := 2) (by omega) (I0 15) (D0 15), a15, I0_z (k := 15) (n := 0) (by omega), I0_z (k := 15) (n := 1) (by omega), I0_z (k := 15) (n := 2) (by omega), I0_z (k := 15) (n := 3) (by omega), I0_z (k := 15) (n := 4) (by omega), I0_z (k := 15) (n := 5) (by omega), I0_z (k := 15) (n := 6) (by omega), I0_z (k := 15) (n := 7) (by omega), I0_z (k := 15) (n := 8) (by omega), I0_z (k := 15) (n := 9) (by omega), I0_z (k := 15) (n := 10) (by omega)]
      exact h
    | 16, _ =>
      have h := hP 17 _ rfl
      rw [show cellH ad cy 16 (I0 16) (D0 16) = _ from cellH_Mix ad cy (i := 3) (by omega) (I0 16) (D0 16), a16, I0_z (k := 16) (n := 0) (by omega), I0_z (k := 16) (n := 1) (by omega), I0_z (k := 16) (n := 2) (by omega), I0_z (k := 16) (n := 3) (by omega), I0_z (k := 16) (n := 4) (by omega), I0_z (k := 16) (n := 5) (by omega), I0_z (k := 16) (n := 6) (by omega), I0_z (k := 16) (n := 7) (by omega), I0_z (k := 16) (n := 8) (by omega), I0_z (k := 16) (n := 9) (by omega), I0_z (k := 16) (n := 10) (by omega)]
      exact h
    | 17, _ =>
      have h := hP 18 _ rfl
      rw [show cellH ad cy 17 (I0 17) (D0 17) = _ from cellH_Mix ad cy (i := 4) (by omega) (I0 17) (D0 17), a17, I0_z (k := 17) (n := 0) (by omega), I0_z (k := 17) (n := 1) (by omega), I0_z (k := 17) (n := 2) (by omega), I0_z (k := 17) (n := 3) (by omega), I0_z (k := 17) (n := 4) (by omega), I0_z (k := 17) (n := 5) (by omega), I0_z (k := 17) (n := 6) (by omega), I0_z (k := 17) (n := 7) (by omega), I0_z (k := 17) (n := 8) (by omega), I0_z (k := 17) (n := 9) (by omega), I0_z (k := 17) (n := 10) (by omega)]
      exact h
    | 18, _ =>
      have h := hP 19 _ rfl
      rw [show cellH ad cy 18 (I0 18) (D0 18) = _ from cellH_Batch ad cy (i := 0) (by omega) (I0 18) (D0 18), a18, I0_z (k := 18) (n := 0) (by omega), I0_z (k := 18) (n := 1) (by omega), I0_z (k := 18) (n := 3) (by omega), I0_b (k := 18) (by omega)]
      exact h
    | 19, _ =>
      have h := hP 20 _ rfl
      rw [show cellH ad cy 19 (I0 19) (D0 19) = _ from cellH_Batch ad cy (i := 1) (by omega) (I0 19) (D0 19), a19, I0_z (k := 19) (n := 0) (by omega), I0_z (k := 19) (n := 1) (by omega), I0_z (k := 19) (n := 3) (by omega), I0_b (k := 19) (by omega)]
      exact h
    | 20, _ =>
      have h := hP 21 _ rfl
      rw [show cellH ad cy 20 (I0 20) (D0 20) = _ from cellH_Batch ad cy (i := 2) (by omega) (I0 20) (D0 20), a20, I0_z (k := 20) (n := 0) (by omega), I0_z (k := 20) (n := 1) (by omega), I0_z (k := 20) (n := 3) (by omega), I0_b (k := 20) (by omega)]
      exact h
    | 21, _ =>
      have h := hP 22 _ rfl
      rw [show cellH ad cy 21 (I0 21) (D0 21) = _ from cellH_Batch ad cy (i := 3) (by omega) (I0 21) (D0 21), a21, I0_z (k := 21) (n := 0) (by omega), I0_z (k := 21) (n := 1) (by omega), I0_z (k := 21) (n := 3) (by omega), I0_b (k := 21) (by omega)]
      exact h
    | 22, _ =>
      have h := hP 23 _ rfl
      rw [show cellH ad cy 22 (I0 22) (D0 22) = _ from cellH_Batch ad cy (i := 4) (by omega) (I0 22) (D0 22), a22, I0_z (k := 22) (n := 0) (by omega), I0_z (k := 22) (n := 1) (by omega), I0_z (k := 22) (n := 3) (by omega), I0_b (k := 22) (by omega)]
      exact h
    | 23, _ =>
      have h := hP 24 _ rfl
      rw [show cellH ad cy 23 (I0 23) (D0 23) = _ from cellH_Batch ad cy (i := 5) (by omega) (I0 23) (D0 23), a23, I0_z (k := 23) (n := 0) (by omega), I0_z (k := 23) (n := 1) (by omega), I0_z (k := 23) (n := 3) (by omega), I0_b (k := 23) (by omega)]
      exact h
    | 24, _ =>
      have h := hP 25 _ rfl
      rw [show cellH ad cy 24 (I0 24) (D0 24) = _ from cellH_Batch ad cy (i := 6) (by omega) (I0 24) (D0 24), a24, I0_z (k := 24) (n := 0) (by omega), I0_z (k := 24) (n := 1) (by omega), I0_z (k := 24) (n := 3) (by omega), I0_b (k := 24) (by omega)]
      exact h
    | 25, _ =>
      have h := hP 26 _ rfl
      rw [show cellH ad cy 25 (I0 25) (D0 25) = _ from cellH_Batch ad cy (i := 7) (by omega) (I0 25) (D0 25), a25, I0_z (k := 25) (n := 0) (by omega), I0_z (k := 25) (n := 1) (by omega), I0_z (k := 25) (n := 3) (by omega), I0_b (k := 25) (by omega)]
      exact h
    | 26, _ =>
      have h := hP 27 _ rfl
      rw [show cellH ad cy 26 (I0 26) (D0 26) = _ from cellH_Batch ad cy (i := 8) (by omega) (I0 26) (D0 26), a26, I0_z (k := 26) (n := 0) (by omega), I0_z (k := 26) (n := 1) (by omega), I0_z (k := 26) (n := 3) (by omega), I0_b (k := 26) (by omega)]
      exact h
    | 27, _ =>
      have h := hP 28 _ rfl
      rw [show cellH ad cy 27 (I0 27) (D0 27) = _ from cellH_Batch ad cy (i := 9) (by omega) (I0 27) (D0 27), a27, I0_z (k := 27) (n := 0) (by omega), I0_z (k := 27) (n := 1) (by omega), I0_z (k := 27) (n := 3) (by omega), I0_b (k := 27) (by omega)]
      exact h
    | 28, _ =>
      have h := hP 29 _ rfl
      rw [show cellH ad cy 28 (I0 28) (D0 28) = _ from cellH_Batch ad cy (i := 10) (by omega) (I0 28) (D0 28), a28, I0_z (k := 28) (n := 0) (by omega), I0_z (k := 28) (n := 1) (by omega), I0_z (k := 28) (n := 3) (by omega), I0_b (k := 28) (by omega)]
      exact h
    | 29, _ =>
      have h := hP 30 _ rfl
      rw [show cellH ad cy 29 (I0 29) (D0 29) = _ from cellH_Batch ad cy (i := 11) (by omega) (I0 29) (D0 29), a29, I0_z (k := 29) (n := 0) (by omega), I0_z (k := 29) (n := 1) (by omega), I0_z (k := 29) (n := 3) (by omega), I0_b (k := 29) (by omega)]
      exact h
    | 30, _ =>
      have h := hP 31 _ rfl
      rw [show cellH ad cy 30 (I0 30) (D0 30) = _ from cellH_Store ad cy (i := 0) (by omega) (I0 30) (D0 30), a30, I0_z (k := 30) (n := 0) (by omega)]
      exact h
    | 31, _ =>
      have h := hP 32 _ rfl
      rw [show cellH ad cy 31 (I0 31) (D0 31) = _ from cellH_Store ad cy (i := 1) (by omega) (I0 31) (D0 31), a31, I0_z (k := 31) (n := 0) (by omega)]
      exact h
    | 32, _ =>
      have h := hP 33 _ rfl
      rw [show cellH ad cy 32 (I0 32) (D0 32) = _ from cellH_Store ad cy (i := 2) (by omega) (I0 32) (D0 32), a32, I0_z (k := 32) (n := 0) (by omega)]
      exact h
    | k + 33, hk => exact absurd hk (by omega)
  · rw [cellA_T (by omega)]
    rcases tL_cases hk with hc | hc | ⟨i, hc, -⟩ | ⟨i, hc, -⟩ | ⟨i, hc, -⟩
    · simp only [List.mem_cons, List.not_mem_nil, or_false] at hc
      rcases hc with rfl | rfl | rfl | rfl | rfl | rfl | rfl | rfl | rfl
      · have h := hP 0 _ rfl
        rw [cellT_40, a40, a0, a47, a48, a49, a42, a46, a43, a44, a45, kT0_d]
        exact h
      · have h := hP 37 _ rfl
        rw [cellT_42, a42]
        exact h
      · have h := hP 39 _ rfl
        rw [cellT_43, a43]
        exact h
      · have h := hP 40 _ rfl
        have e : kT0 p2 44 = fun _ => 0 := by funext n; exact kT0_z (by omega)
        rw [cellT_44, a44, e]
        exact h
      · have h := hP 41 _ rfl
        have e : kT0 p2 45 = fun _ => 0 := by funext n; exact kT0_z (by omega)
        rw [cellT_45, a45, e]
        exact h
      · have h := hP 38 _ rfl
        have e : kT0 p2 46 = fun _ => 0 := by funext n; exact kT0_z (by omega)
        rw [cellT_46, a46, e]
        exact h
      · have h := hP 34 _ rfl
        rw [cellT_47, a47]
        exact at_rf h (fun j hj => absurd hj (by omega))
      · have h := hP 35 _ rfl
        rw [cellT_48, a48]
        exact at_rf h (fun j hj => absurd hj (by omega))
      · have h := hP 36 _ rfl
        rw [cellT_49, a49]
        exact at_rf h (fun j hj => absurd hj (by omega))
    · exact absurd hc k33
    · exact absurd hc (by omega)
    · exact absurd hc (by omega)
    · exact absurd hc (by omega)
