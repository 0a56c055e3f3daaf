/- the start: the worlds behind the constructors -/
set_option maxRecDepth 20000 in
theorem ws_inj {A : Nat → Prop} {ws : va_W} {L : List Nat} {ad : Nat → Nat} (h : ws.map Prod.fst = L.map ad) (hD : va_D A ws) : (∀ i j, i ∈ L → j ∈ L → ad i = ad j → i = j) ∧ ∀ k, k ∈ L → A (ad k) := by
  have key : ∀ k, k ∈ L → ∃ (n : Nat) (p : Nat × va_E), L[n]? = some k ∧ ws[n]? = some p ∧ p.1 = ad k := by
    intro k hk
    obtain ⟨n, hn⟩ := List.getElem?_of_mem hk
    have e : (ws.map Prod.fst)[n]? = some (ad k) := by
      rw [h, List.getElem?_map, hn]
      rfl
    rw [List.getElem?_map] at e
    cases hw : ws[n]? with
    | none => rw [hw] at e; cases e
    | some p =>
      rw [hw] at e
      exact ⟨n, p, hn, hw, Option.some.inj e⟩
  refine ⟨fun i j hi hj e => ?_, fun k hk => ?_⟩
  · obtain ⟨n, p, h1, h2, h3⟩ := key i hi
    obtain ⟨n', p', h4, h5, h6⟩ := key j hj
    have := hD.1 n n' p p' h2 h5 (by rw [h3, h6, e])
    subst this
    exact Option.some.inj (h1.symm.trans h4)
  · obtain ⟨n, p, h1, h2, h3⟩ := key k hk
    rw [← h3]
    exact hD.2 n p h2
set_option maxRecDepth 20000 in
theorem arrV_cg {cA : ClassId} {n : Nat} {f g : Nat → Value} (h : ∀ j, j < n → f j = g j) : arrV cA n f = arrV cA n g := by
  have e : (Array.ofFn (n := n) fun i => f i.val) = (Array.ofFn (n := n) fun i => g i.val) := by
    congr 1
    funext i
    exact h i.val i.isLt
  first
    | (unfold arrV; rw [e]; done)
    | (unfold arrV; congr 1; apply List.map_congr_left; intro a ha; exact h a (List.mem_range.mp ha))
    | (unfold arrV; simp only [Cell.mk.injEq, true_and, and_true]; apply Array.ext; · simp
       · intro i h1 h2; simp at h1 ⊢; exact h i h1)
set_option maxRecDepth 20000 in
theorem at_rf {D : va_G} {cl : List vw_C} {a : Nat} {cA : ClassId} {n : Nat} {f g : Nat → Option Nat} {H : Heap} (h : va_at D cl (a, .inl (cA, n, .inr (.inr (.inr (.inr f))))) H) (e : ∀ j, j < n → f j = g j) : va_at D cl (a, .inl (cA, n, .inr (.inr (.inr (.inr g))))) H := by
  have h1 : H[a]? = some (vp_cell cA (n, .inr (.inr (.inr (.inr f))))) := h
  show H[a]? = some (vp_cell cA (n, .inr (.inr (.inr (.inr g)))))
  rw [h1, vp_cell_q, vp_cell_q, arrV_cg (fun j hj => congrArg va_rf (e j hj))]
def I0 : MI := fun k n => if 18 ≤ k ∧ k < 30 ∧ n = 2 then -1 else 0
def D0 : MD := fun _ _ => 0
def J0 : MI := fun _ _ => 0
set_option maxRecDepth 20000 in
theorem I0_z {k n : Nat} (h : ¬ (18 ≤ k ∧ k < 30 ∧ n = 2)) : I0 k n = 0 := if_neg h
set_option maxRecDepth 20000 in
theorem I0_b {k : Nat} (h : 18 ≤ k ∧ k < 30) : I0 k 2 = -1 := if_pos ⟨h.1, h.2, rfl⟩
set_option maxRecDepth 20000 in
theorem RR_0 : RR 0 0 0 0 0 0 I0 D0 J0 D0 := by
  refine ⟨⟨⟨?_, ?_, ⟨fun _ => rfl, fun _ => rfl⟩, by omega⟩, ⟨?_, ?_, ⟨fun _ => rfl, fun _ => rfl⟩, by omega⟩, ⟨?_, ?_, by omega⟩, ⟨?_, ?_, by omega⟩, ⟨?_, ?_, ?_, ?_⟩, fun n hn => ?_, fun n hn => ?_⟩, fun i hi => absurd hi (by omega), ⟨fun k hk => absurd hk (by omega), fun k _ hk n hn => ?_⟩, ⟨fun i hi => absurd hi (by omega), fun i _ hi => ⟨?_, ?_, rfl⟩⟩, fun s hs => absurd hs (by omega), by decide⟩
  · rw [I0_z (by omega), nI_0]
  · rw [nI_0]; rfl
  · rw [I0_z (by omega), nI_0]
  · rw [nI_0]; rfl
  · rw [I0_z (by omega), nI_0]
  · rw [nI_0]; rfl
  · rw [I0_z (by omega), nI_0]
  · rw [nI_0]; rfl
  · rw [I0_z (by omega)]; rfl
  · rw [I0_z (by omega)]; rfl
  · rw [I0_z (by omega)]; rfl
  · rw [I0_z (by omega)]; rfl
  · rw [I0_z (by omega)]; rfl
  · rw [I0_z (by omega)]
  · rw [I0_z (by omega)]
  · rw [I0_b (by omega)]
  · rw [I0_z (by omega)]
set_option maxHeartbeats 8000000 in
set_option maxRecDepth 100000 in
theorem init_H {dC : Nat → ClassId} {dI : Nat → Nat → Nat} {cy : Nat → ClassId} {h0 : Nat} {A : Nat → Prop} {H : Heap} (q1 q3 q5 q7 q9 q11 q13 q14 q15 q16 q17 q18 q19 q20 q21 q22 q23 q24 q25 q26 q27 q28 q29 q30 q31 q32 q33 q34 q35 q36 q37 q38 : Nat) (hP : va_P (dC, dI) vwCl [(h0, .inr (5, [.ref q1, .ref q3, .ref q5, .ref q7, .ref q9, .int 0, .int 0, .int 0, .int 0, .int 0, .int 0, .int 0, .int 0, .ref q11])), (q1, .inl (cy 1, 6, .inr (.inr (.inr (.inr (va_up (va_up (va_up (va_up (va_up (va_up (fun _ => none) 0 (some q13)) 1 (some q14)) 2 (some q15)) 3 (some q16)) 4 (some q17)) 5 (some q18))))))), (q3, .inl (cy 2, 5, .inr (.inr (.inr (.inr (va_up (va_up (va_up (va_up (va_up (fun _ => none) 0 (some q19)) 1 (some q20)) 2 (some q21)) 3 (some q22)) 4 (some q23))))))), (q5, .inl (cy 3, 12, .inr (.inr (.inr (.inr (va_up (va_up (va_up (va_up (va_up (va_up (va_up (va_up (va_up (va_up (va_up (va_up (fun _ => none) 0 (some q24)) 1 (some q25)) 2 (some q26)) 3 (some q27)) 4 (some q28)) 5 (some q29)) 6 (some q30)) 7 (some q31)) 8 (some q32)) 9 (some q33)) 10 (some q34)) 11 (some q35))))))), (q7, .inl (cy 4, 3, .inr (.inr (.inr (.inr (va_up (va_up (va_up (fun _ => none) 0 (some q36)) 1 (some q37)) 2 (some q38))))))), (q9, .inl (cy 0, 2, .inl (fun _ => 0))), (q11, .inl (cy 0, 192, .inl (fun _ => 0))), (q13, .inr (2, [.int 0, .int 0, .int 0, .int 0, .int 0])), (q14, .inr (2, [.int 0, .int 0, .int 0, .int 0, .int 0])), (q15, .inr (2, [.int 0, .int 0, .int 0, .int 0, .int 0])), (q16, .inr (2, [.int 0, .int 0, .int 0, .int 0, .int 0])), (q17, .inr (2, [.int 0, .int 0, .int 0, .int 0, .int 0])), (q18, .inr (2, [.int 0, .int 0, .int 0, .int 0, .int 0])), (q19, .inr (3, [.int 0, .int 0, .int 0, .int 0, .int 0, .int 0, .int 0, .int 0, .int 0, .int 0, .int 0, .double 0])), (q20, .inr (3, [.int 0, .int 0, .int 0, .int 0, .int 0, .int 0, .int 0, .int 0, .int 0, .int 0, .int 0, .double 0])), (q21, .inr (3, [.int 0, .int 0, .int 0, .int 0, .int 0, .int 0, .int 0, .int 0, .int 0, .int 0, .int 0, .double 0])), (q22, .inr (3, [.int 0, .int 0, .int 0, .int 0, .int 0, .int 0, .int 0, .int 0, .int 0, .int 0, .int 0, .double 0])), (q23, .inr (3, [.int 0, .int 0, .int 0, .int 0, .int 0, .int 0, .int 0, .int 0, .int 0, .int 0, .int 0, .double 0])), (q24, .inr (1, [.int 0, .int 0, .int (-1), .int 0, .double 0])), (q25, .inr (1, [.int 0, .int 0, .int (-1), .int 0, .double 0])), (q26, .inr (1, [.int 0, .int 0, .int (-1), .int 0, .double 0])), (q27, .inr (1, [.int 0, .int 0, .int (-1), .int 0, .double 0])), (q28, .inr (1, [.int 0, .int 0, .int (-1), .int 0, .double 0])), (q29, .inr (1, [.int 0, .int 0, .int (-1), .int 0, .double 0])), (q30, .inr (1, [.int 0, .int 0, .int (-1), .int 0, .double 0])), (q31, .inr (1, [.int 0, .int 0, .int (-1), .int 0, .double 0])), (q32, .inr (1, [.int 0, .int 0, .int (-1), .int 0, .double 0])), (q33, .inr (1, [.int 0, .int 0, .int (-1), .int 0, .double 0])), (q34, .inr (1, [.int 0, .int 0, .int (-1), .int 0, .double 0])), (q35, .inr (1, [.int 0, .int 0, .int (-1), .int 0, .double 0])), (q36, .inr (4, [.int 0, .double 0])), (q37, .inr (4, [.int 0, .double 0])), (q38, .inr (4, [.int 0, .double 0]))] H) (hD : va_D A [(h0, .inr (5, [.ref q1, .ref q3, .ref q5, .ref q7, .ref q9, .int 0, .int 0, .int 0, .int 0, .int 0, .int 0, .int 0, .int 0, .ref q11])), (q1, .inl (cy 1, 6, .inr (.inr (.inr (.inr (va_up (va_up (va_up (va_up (va_up (va_up (fun _ => none) 0 (some q13)) 1 (some q14)) 2 (some q15)) 3 (some q16)) 4 (some q17)) 5 (some q18))))))), (q3, .inl (cy 2, 5, .inr (.inr (.inr (.inr (va_up (va_up (va_up (va_up (va_up (fun _ => none) 0 (some q19)) 1 (some q20)) 2 (some q21)) 3 (some q22)) 4 (some q23))))))), (q5, .inl (cy 3, 12, .inr (.inr (.inr (.inr (va_up (va_up (va_up (va_up (va_up (va_up (va_up (va_up (va_up (va_up (va_up (va_up (fun _ => none) 0 (some q24)) 1 (some q25)) 2 (some q26)) 3 (some q27)) 4 (some q28)) 5 (some q29)) 6 (some q30)) 7 (some q31)) 8 (some q32)) 9 (some q33)) 10 (some q34)) 11 (some q35))))))), (q7, .inl (cy 4, 3, .inr (.inr (.inr (.inr (va_up (va_up (va_up (fun _ => none) 0 (some q36)) 1 (some q37)) 2 (some q38))))))), (q9, .inl (cy 0, 2, .inl (fun _ => 0))), (q11, .inl (cy 0, 192, .inl (fun _ => 0))), (q13, .inr (2, [.int 0, .int 0, .int 0, .int 0, .int 0])), (q14, .inr (2, [.int 0, .int 0, .int 0, .int 0, .int 0])), (q15, .inr (2, [.int 0, .int 0, .int 0, .int 0, .int 0])), (q16, .inr (2, [.int 0, .int 0, .int 0, .int 0, .int 0])), (q17, .inr (2, [.int 0, .int 0, .int 0, .int 0, .int 0])), (q18, .inr (2, [.int 0, .int 0, .int 0, .int 0, .int 0])), (q19, .inr (3, [.int 0, .int 0, .int 0, .int 0, .int 0, .int 0, .int 0, .int 0, .int 0, .int 0, .int 0, .double 0])), (q20, .inr (3, [.int 0, .int 0, .int 0, .int 0, .int 0, .int 0, .int 0, .int 0, .int 0, .int 0, .int 0, .double 0])), (q21, .inr (3, [.int 0, .int 0, .int 0, .int 0, .int 0, .int 0, .int 0, .int 0, .int 0, .int 0, .int 0, .double 0])), (q22, .inr (3, [.int 0, .int 0, .int 0, .int 0, .int 0, .int 0, .int 0, .int 0, .int 0, .int 0, .int 0, .double 0])), (q23, .inr (3, [.int 0, .int 0, .int 0, .int 0, .int 0, .int 0, .int 0, .int 0, .int 0, .int 0, .int 0, .double 0])), (q24, .inr (1, [.int 0, .int 0, .int (-1), .int 0, .double 0])), (q25, .inr (1, [.int 0, .int 0, .int (-1), .int 0, .double 0])), (q26, .inr (1, [.int 0, .int 0, .int (-1), .int 0, .double 0])), (q27, .inr (1, [.int 0, .int 0, .int (-1), .int 0, .double 0])), (q28, .inr (1, [.int 0, .int 0, .int (-1), .int 0, .double 0])), (q29, .inr (1, [.int 0, .int 0, .int (-1), .int 0, .double 0])), (q30, .inr (1, [.int 0, .int 0, .int (-1), .int 0, .double 0])), (q31, .inr (1, [.int 0, .int 0, .int (-1), .int 0, .double 0])), (q32, .inr (1, [.int 0, .int 0, .int (-1), .int 0, .double 0])), (q33, .inr (1, [.int 0, .int 0, .int (-1), .int 0, .double 0])), (q34, .inr (1, [.int 0, .int 0, .int (-1), .int 0, .double 0])), (q35, .inr (1, [.int 0, .int 0, .int (-1), .int 0, .double 0])), (q36, .inr (4, [.int 0, .double 0])), (q37, .inr (4, [.int 0, .double 0])), (q38, .inr (4, [.int 0, .double 0]))]) : ∃ adh : Nat → Nat, va_P (dC, dI) vwCl (iwH adh cy I0 D0) H ∧ J33 adh ∧ (∀ k, k < 33 → A (adh k)) ∧ adh 0 = h0 := by
  obtain ⟨adh, hadh⟩ : ∃ adh : Nat → Nat, adh = fun k => ([h0, q1, q3, q5, q7, q9, q11, q13, q14, q15, q16, q17, q18, q19, q20, q21, q22, q23, q24, q25, q26, q27, q28, q29, q30, q31, q32, q33, q34, q35, q36, q37, q38] : List Nat).getD k 0 := ⟨_, rfl⟩
  have a0 : adh 0 = h0 := by rw [hadh]; rfl
  have a1 : adh 1 = q1 := by rw [hadh]; rfl
  have a2 : adh 2 = q3 := by rw [hadh]; rfl
  have a3 : adh 3 = q5 := by rw [hadh]; rfl
  have a4 : adh 4 = q7 := by rw [hadh]; rfl
  have a5 : adh 5 = q9 := by rw [hadh]; rfl
  have a6 : adh 6 = q11 := by rw [hadh]; rfl
  have a7 : adh 7 = q13 := by rw [hadh]; rfl
  have a8 : adh 8 = q14 := by rw [hadh]; rfl
  have a9 : adh 9 = q15 := by rw [hadh]; rfl
  have a10 : adh 10 = q16 := by rw [hadh]; rfl
  have a11 : adh 11 = q17 := by rw [hadh]; rfl
  have a12 : adh 12 = q18 := by rw [hadh]; rfl
  have a13 : adh 13 = q19 := by rw [hadh]; rfl
  have a14 : adh 14 = q20 := by rw [hadh]; rfl
  have a15 : adh 15 = q21 := by rw [hadh]; rfl
  have a16 : adh 16 = q22 := by rw [hadh]; rfl
  have a17 : adh 17 = q23 := by rw [hadh]; rfl
  have a18 : adh 18 = q24 := by rw [hadh]; rfl
  have a19 : adh 19 = q25 := by rw [hadh]; rfl
  have a20 : adh 20 = q26 := by rw [hadh]; rfl
  have a21 : adh 21 = q27 := by rw [hadh]; rfl
  have a22 : adh 22 = q28 := by rw [hadh]; rfl
  have a23 : adh 23 = q29 := by rw [hadh]; rfl
  have a24 : adh 24 = q30 := by rw [hadh]; rfl
  have a25 : adh 25 = q31 := by rw [hadh]; rfl
  have a26 : adh 26 = q32 := by rw [hadh]; rfl
  have a27 : adh 27 = q33 := by rw [hadh]; rfl
  have a28 : adh 28 = q34 := by rw [hadh]; rfl
  have a29 : adh 29 = q35 := by rw [hadh]; rfl
  have a30 : adh 30 = q36 := by rw [hadh]; rfl
  have a31 : adh 31 = q37 := by rw [hadh]; rfl
  have a32 : adh 32 = q38 := by rw [hadh]; rfl
  have hm : ([(h0, .inr (5, [.ref q1, .ref q3, .ref q5, .ref q7, .ref q9, .int 0, .int 0, .int 0, .int 0, .int 0, .int 0, .int 0, .int 0, .ref q11])), (q1, .inl (cy 1, 6, .inr (.inr (.inr (.inr (va_up (va_up (va_up (va_up (va_up (va_up (fun _ => none) 0 (some q13)) 1 (some q14)) 2 (some q15)) 3 (some q16)) 4 (some q17)) 5 (some q18))))))), (q3, .inl (cy 2, 5, .inr (.inr (.inr (.inr (va_up (va_up (va_up (va_up (va_up (fun _ => none) 0 (some q19)) 1 (some q20)) 2 (some q21)) 3 (some q22)) 4 (some q23))))))), (q5, .inl (cy 3, 12, .inr (.inr (.inr (.inr (va_up (va_up (va_up (va_up (va_up (va_up (va_up (va_up (va_up (va_up (va_up (va_up (fun _ => none) 0 (some q24)) 1 (some q25)) 2 (some q26)) 3 (some q27)) 4 (some q28)) 5 (some q29)) 6 (some q30)) 7 (some q31)) 8 (some q32)) 9 (some q33)) 10 (some q34)) 11 (some q35))))))), (q7, .inl (cy 4, 3, .inr (.inr (.inr (.inr (va_up (va_up (va_up (fun _ => none) 0 (some q36)) 1 (some q37)) 2 (some q38))))))), (q9, .inl (cy 0, 2, .inl (fun _ => 0))), (q11, .inl (cy 0, 192, .inl (fun _ => 0))), (q13, .inr (2, [.int 0, .int 0, .int 0, .int 0, .int 0])), (q14, .inr (2, [.int 0, .int 0, .int 0, .int 0, .int 0])), (q15, .inr (2, [.int 0, .int 0, .int 0, .int 0, .int 0])), (q16, .inr (2, [.int 0, .int 0, .int 0, .int 0, .int 0])), (q17, .inr (2, [.int 0, .int 0, .int 0, .int 0, .int 0])), (q18, .inr (2, [.int 0, .int 0, .int 0, .int 0, .int 0])), (q19, .inr (3, [.int 0, .int 0, .int 0, .int 0, .int 0, .int 0, .int 0, .int 0, .int 0, .int 0, .int 0, .double 0])), (q20, .inr (3, [.int 0, .int 0, .int 0, .int 0, .int 0, .int 0, .int 0, .int 0, .int 0, .int 0, .int 0, .double 0])), (q21, .inr (3, [.int 0, .int 0, .int 0, .int 0, .int 0, .int 0, .int 0, .int 0, .int 0, .int 0, .int 0, .double 0])), (q22, .inr (3, [.int 0, .int 0, .int 0, .int 0, .int 0, .int 0, .int 0, .int 0, .int 0, .int 0, .int 0, .double 0])), (q23, .inr (3, [.int 0, .int 0, .int 0, .int 0, .int 0, .int 0, .int 0, .int 0, .int 0, .int 0, .int 0, .double 0])), (q24, .inr (1, [.int 0, .int 0, .int (-1), .int 0, .double 0])), (q25, .inr (1, [.int 0, .int 0, .int (-1), .int 0, .double 0])), (q26, .inr (1, [.int 0, .int 0, .int (-1), .int 0, .double 0])), (q27, .inr (1, [.int 0, .int 0, .int (-1), .int 0, .double 0])), (q28, .inr (1, [.int 0, .int 0, .int (-1), .int 0, .double 0])), (q29, .inr (1, [.int 0, .int 0, .int (-1), .int 0, .double 0])), (q30, .inr (1, [.int 0, .int 0, .int (-1), .int 0, .double 0])), (q31, .inr (1, [.int 0, .int 0, .int (-1), .int 0, .double 0])), (q32, .inr (1, [.int 0, .int 0, .int (-1), .int 0, .double 0])), (q33, .inr (1, [.int 0, .int 0, .int (-1), .int 0, .double 0])), (q34, .inr (1, [.int 0, .int 0, .int (-1), .int 0, .double 0])), (q35, .inr (1, [.int 0, .int 0, .int (-1), .int 0, .double 0])), (q36, .inr (4, [.int 0, .double 0])), (q37, .inr (4, [.int 0, .double 0])), (q38, .inr (4, [.int 0, .double 0]))] : va_W).map Prod.fst = (List.range 33).map adh := by rw [hadh]; rfl
  clear hadh
  have hi := ws_inj hm hD
  refine ⟨adh, ?_, fun i j h1 h2 e => hi.1 i j (List.mem_range.mpr h1) (List.mem_range.mpr h2) e, fun k hk => hi.2 k (List.mem_range.mpr hk), a0⟩
  have key : ∀ k, k < 33 → va_at (dC, dI) vwCl (adh k, cellH adh cy k (I0 k) (D0 k)) H := by
    intro k hk
    match k, hk with
    | 0, _ =>
      have h := hP 0 _ rfl
      rw [cellH_0, a0, a1, a2, a3, a4, a5, a6, I0_z (k := 0) (n := 5) (by omega), I0_z (k := 0) (n := 6) (by omega), I0_z (k := 0) (n := 7) (by omega), I0_z (k := 0) (n := 8) (by omega), I0_z (k := 0) (n := 9) (by omega), I0_z (k := 0) (n := 10) (by omega), I0_z (k := 0) (n := 11) (by omega), I0_z (k := 0) (n := 12) (by omega)]
      exact h
    | 1, _ =>
      have h := hP 1 _ rfl
      rw [cellH_1, a1]
      refine at_rf h (fun j hj => ?_)
      match j, hj with
      | 0, _ => exact (congrArg some a7).symm
      | 1, _ => exact (congrArg some a8).symm
      | 2, _ => exact (congrArg some a9).symm
      | 3, _ => exact (congrArg some a10).symm
      | 4, _ => exact (congrArg some a11).symm
      | 5, _ => exact (congrArg some a12).symm
    | 2, _ =>
      have h := hP 2 _ rfl
      rw [cellH_2, a2]
      refine at_rf h (fun j hj => ?_)
      match j, hj with
      | 0, _ => exact (congrArg some a13).symm
      | 1, _ => exact (congrArg some a14).symm
      | 2, _ => exact (congrArg some a15).symm
      | 3, _ => exact (congrArg some a16).symm
      | 4, _ => exact (congrArg some a17).symm
    | 3, _ =>
      have h := hP 3 _ rfl
      rw [cellH_3, a3]
      refine at_rf h (fun j hj => ?_)
      match j, hj with
      | 0, _ => exact (congrArg some a18).symm
      | 1, _ => exact (congrArg some a19).symm
      | 2, _ => exact (congrArg some a20).symm
      | 3, _ => exact (congrArg some a21).symm
      | 4, _ => exact (congrArg some a22).symm
      | 5, _ => exact (congrArg some a23).symm
      | 6, _ => exact (congrArg some a24).symm
      | 7, _ => exact (congrArg some a25).symm
      | 8, _ => exact (congrArg some a26).symm
      | 9, _ => exact (congrArg some a27).symm
      | 10, _ => exact (congrArg some a28).symm
      | 11, _ => exact (congrArg some a29).symm
    | 4, _ =>
      have h := hP 4 _ rfl
      rw [cellH_4, a4]
      refine at_rf h (fun j hj => ?_)
      match j, hj with
      | 0, _ => exact (congrArg some a30).symm
      | 1, _ => exact (congrArg some a31).symm
      | 2, _ => exact (congrArg some a32).symm
    | 5, _ =>
      have h := hP 5 _ rfl
      have e : I0 5 = fun _ => 0 := by funext n; exact I0_z (by omega)
      rw [cellH_5, a5, e]
      exact h
    | 6, _ =>
      have h := hP 6 _ rfl
      have e : I0 6 = fun _ => 0 := by funext n; exact I0_z (by omega)
      rw [cellH_6, a6, e]
      exact h
    | 7, _ =>
      have h := hP 7 _ rfl
      rw [show cellH adh cy 7 (I0 7) (D0 7) = _ from cellH_Ingredient adh cy (i := 0) (by omega) (I0 7) (D0 7), a7, I0_z (k := 7) (n := 0) (by omega), I0_z (k := 7) (n := 1) (by omega), I0_z (k := 7) (n := 2) (by omega), I0_z (k := 7) (n := 3) (by omega), I0_z (k := 7) (n := 4) (by omega)]
      exact h
    | 8, _ =>
      have h := hP 8 _ rfl
      rw [show cellH adh cy 8 (I0 8) (D0 8) = _ from cellH_Ingredient adh cy (i := 1) (by omega) (I0 8) (D0 8), a8, I0_z (k := 8) (n := 0) (by omega), I0_z (k := 8) (n := 1) (by omega), I0_z (k := 8) (n := 2) (by omega), I0_z (k := 8) (n := 3) (by omega), I0_z (k := 8) (n := 4) (by omega)]
      exact h
    | 9, _ =>
      have h := hP 9 _ rfl
      rw [show cellH adh cy 9 (I0 9) (D0 9) = _ from cellH_Ingredient adh cy (i := 2) (by omega) (I0 9) (D0 9), a9, I0_z (k := 9) (n := 0) (by omega), I0_z (k := 9) (n := 1) (by omega), I0_z (k := 9) (n := 2) (by omega), I0_z (k := 9) (n := 3) (by omega), I0_z (k := 9) (n := 4) (by omega)]
      exact h
    | 10, _ =>
      have h := hP 10 _ rfl
      rw [show cellH adh cy 10 (I0 10) (D0 10) = _ from cellH_Ingredient adh cy (i := 3) (by omega) (I0 10) (D0 10), a10, I0_z (k := 10) (n := 0) (by omega), I0_z (k := 10) (n := 1) (by omega), I0_z (k := 10) (n := 2) (by omega), I0_z (k := 10) (n := 3) (by omega), I0_z (k := 10) (n := 4) (by omega)]
      exact h
    | 11, _ =>
      have h := hP 11 _ rfl
      rw [show cellH adh cy 11 (I0 11) (D0 11) = _ from cellH_Ingredient adh cy (i := 4) (by omega) (I0 11) (D0 11), a11, I0_z (k := 11) (n := 0) (by omega), I0_z (k := 11) (n := 1) (by omega), I0_z (k := 11) (n := 2) (by omega), I0_z (k := 11) (n := 3) (by omega), I0_z (k := 11) (n := 4) (by omega)]
      exact h
    | 12, _ =>
      have h := hP 12 _ rfl
      rw [show cellH adh cy 12 (I0 12) (D0 12) = _ from cellH_Ingredient adh cy (i := 5) (by omega) (I0 12) (D0 12), a12, I0_z (k := 12) (n := 0) (by omega), I0_z (k := 12) (n := 1) (by omega), I0_z (k := 12) (n := 2) (by omega), I0_z (k := 12) (n := 3) (by omega), I0_z (k := 12) (n := 4) (by omega)]
      exact h
    | 13, _ =>
      have h := hP 13 _ rfl
      rw [show cellH adh cy 13 (I0 13) (D0 13) = _ from cellH_Mix adh cy (i := 0) (by omega) (I0 13) (D0 13), a13, I0_z (k := 13) (n := 0) (by omega), I0_z (k := 13) (n := 1) (by omega), I0_z (k := 13) (n := 2) (by omega), I0_z (k := 13) (n := 3) (by omega), I0_z (k := 13) (n := 4) (by omega), I0_z (k := 13) (n := 5) (by omega), I0_z (k := 13) (n := 6) (by omega), I0_z (k := 13) (n := 7) (by omega), I0_z (k := 13) (n := 8) (by omega), I0_z (k := 13) (n := 9) (by omega), I0_z (k := 13) (n := 10) (by omega)]
      exact h
    | 14, _ =>
      have h := hP 14 _ rfl
      rw [show cellH adh cy 14 (I0 14) (D0 14) = _ from cellH_Mix adh cy (i := 1) (by omega) (I0 14) (D0 14), a14, I0_z (k := 14) (n := 0) (by omega), I0_z (k := 14) (n := 1) (by omega), I0_z (k := 14) (n := 2) (by omega), I0_z (k := 14) (n := 3) (by omega), I0_z (k := 14) (n := 4) (by omega), I0_z (k := 14) (n := 5) (by omega), I0_z (k := 14) (n := 6) (by omega), I0_z (k := 14) (n := 7) (by omega), I0_z (k := 14) (n := 8) (by omega), I0_z (k := 14) (n := 9) (by omega), I0_z (k := 14) (n := 10) (by omega)]
      exact h
    | 15, _ =>
      have h := hP 15 _ rfl
      rw [show cellH adh cy 15 (I0 15) (D0 15) = _ from cellH_Mix adh cy (i := 2) (by omega) (I0 15) (D0 15), a15, I0_z (k := 15) (n := 0) (by omega), I0_z (k := 15) (n := 1) (by omega), I0_z (k := 15) (n := 2) (by omega), I0_z (k := 15) (n := 3) (by omega), I0_z (k := 15) (n := 4) (by omega), I0_z (k := 15) (n := 5) (by omega), I0_z (k := 15) (n := 6) (by omega), I0_z (k := 15) (n := 7) (by omega), I0_z (k := 15) (n := 8) (by omega), I0_z (k := 15) (n := 9) (by omega), I0_z (k := 15) (n := 10) (by omega)]
      exact h
    | 16, _ =>
      have h := hP 16 _ rfl
      rw [show cellH adh cy 16 (I0 16) (D0 16) = _ from cellH_Mix adh cy (i := 3) (by omega) (I0 16) (D0 16), a16, I0_z (k := 16) (n := 0) (by omega), I0_z (k := 16) (n := 1) (by omega), I0_z (k := 16) (n := 2) (by omega), I0_z (k := 16) (n := 3) (by omega), I0_z (k := 16) (n := 4) (by omega), I0_z (k := 16) (n := 5) (by omega), I0_z (k := 16) (n := 6) (by omega), I0_z (k := 16) (n := 7) (by omega), I0_z (k := 16) (n := 8) (by omega), I0_z (k := 16) (n := 9) (by omega), I0_z (k := 16) (n := 10) (by omega)]
      exact h
    | 17, _ =>
      have h := hP 17 _ rfl
      rw [show cellH adh cy 17 (I0 17) (D0 17) = _ from cellH_Mix adh cy (i := 4) (by omega) (I0 17) (D0 17), a17, I0_z (k := 17) (n := 0) (by omega), I0_z (k := 17) (n := 1) (by omega), I0_z (k := 17) (n := 2) (by omega), I0_z (k := 17) (n := 3) (by omega), I0_z (k := 17) (n := 4) (by omega), I0_z (k := 17) (n := 5) (by omega), I0_z (k := 17) (n := 6) (by omega), I0_z (k := 17) (n := 7) (by omega), I0_z (k := 17) (n := 8) (by omega), I0_z (k := 17) (n := 9) (by omega), I0_z (k := 17) (n := 10) (by omega)]
      exact h
    | 18, _ =>
      have h := hP 18 _ rfl
      rw [show cellH adh cy 18 (I0 18) (D0 18) = _ from cellH_Batch adh cy (i := 0) (by omega) (I0 18) (D0 18), a18, I0_z (k := 18) (n := 0) (by omega), I0_z (k := 18) (n := 1) (by omega), I0_z (k := 18) (n := 3) (by omega), I0_b (k := 18) (by omega)]
      exact h
    | 19, _ =>
      have h := hP 19 _ rfl
      rw [show cellH adh cy 19 (I0 19) (D0 19) = _ from cellH_Batch adh cy (i := 1) (by omega) (I0 19) (D0 19), a19, I0_z (k := 19) (n := 0) (by omega), I0_z (k := 19) (n := 1) (by omega), I0_z (k := 19) (n := 3) (by omega), I0_b (k := 19) (by omega)]
      exact h
    | 20, _ =>
      have h := hP 20 _ rfl
      rw [show cellH adh cy 20 (I0 20) (D0 20) = _ from cellH_Batch adh cy (i := 2) (by omega) (I0 20) (D0 20), a20, I0_z (k := 20) (n := 0) (by omega), I0_z (k := 20) (n := 1) (by omega), I0_z (k := 20) (n := 3) (by omega), I0_b (k := 20) (by omega)]
      exact h
    | 21, _ =>
      have h := hP 21 _ rfl
      rw [show cellH adh cy 21 (I0 21) (D0 21) = _ from cellH_Batch adh cy (i := 3) (by omega) (I0 21) (D0 21), a21, I0_z (k := 21) (n := 0) (by omega), I0_z (k := 21) (n := 1) (by omega), I0_z (k := 21) (n := 3) (by omega), I0_b (k := 21) (by omega)]
      exact h
    | 22, _ =>
      have h := hP 22 _ rfl
      rw [show cellH adh cy 22 (I0 22) (D0 22) = _ from cellH_Batch adh cy (i := 4) (by omega) (I0 22) (D0 22), a22, I0_z (k := 22) (n := 0) (by omega), I0_z (k := 22) (n := 1) (by omega), I0_z (k := 22) (n := 3) (by omega), I0_b (k := 22) (by omega)]
      exact h
    | 23, _ =>
      have h := hP 23 _ rfl
      rw [show cellH adh cy 23 (I0 23) (D0 23) = _ from cellH_Batch adh cy (i := 5) (by omega) (I0 23) (D0 23), a23, I0_z (k := 23) (n := 0) (by omega), I0_z (k := 23) (n := 1) (by omega), I0_z (k := 23) (n := 3) (by omega), I0_b (k := 23) (by omega)]
      exact h
    | 24, _ =>
      have h := hP 24 _ rfl
      rw [show cellH adh cy 24 (I0 24) (D0 24) = _ from cellH_Batch adh cy (i := 6) (by omega) (I0 24) (D0 24), a24, I0_z (k := 24) (n := 0) (by omega), I0_z (k := 24) (n := 1) (by omega), I0_z (k := 24) (n := 3) (by omega), I0_b (k := 24) (by omega)]
      exact h
    | 25, _ =>
      have h := hP 25 _ rfl
      rw [show cellH adh cy 25 (I0 25) (D0 25) = _ from cellH_Batch adh cy (i := 7) (by omega) (I0 25) (D0 25), a25, I0_z (k := 25) (n := 0) (by omega), I0_z (k := 25) (n := 1) (by omega), I0_z (k := 25) (n := 3) (by omega), I0_b (k := 25) (by omega)]
      exact h
    | 26, _ =>
      have h := hP 26 _ rfl
      rw [show cellH adh cy 26 (I0 26) (D0 26) = _ from cellH_Batch adh cy (i := 8) (by omega) (I0 26) (D0 26), a26, I0_z (k := 26) (n := 0) (by omega), I0_z (k := 26) (n := 1) (by omega), I0_z (k := 26) (n := 3) (by omega), I0_b (k := 26) (by omega)]
      exact h
    | 27, _ =>
      have h := hP 27 _ rfl
      rw [show cellH adh cy 27 (I0 27) (D0 27) = _ from cellH_Batch adh cy (i := 9) (by omega) (I0 27) (D0 27), a27, I0_z (k := 27) (n := 0) (by omega), I0_z (k := 27) (n := 1) (by omega), I0_z (k := 27) (n := 3) (by omega), I0_b (k := 27) (by omega)]
      exact h
    | 28, _ =>
      have h := hP 28 _ rfl
      rw [show cellH adh cy 28 (I0 28) (D0 28) = _ from cellH_Batch adh cy (i := 10) (by omega) (I0 28) (D0 28), a28, I0_z (k := 28) (n := 0) (by omega), I0_z (k := 28) (n := 1) (by omega), I0_z (k := 28) (n := 3) (by omega), I0_b (k := 28) (by omega)]
      exact h
    | 29, _ =>
      have h := hP 29 _ rfl
      rw [show cellH adh cy 29 (I0 29) (D0 29) = _ from cellH_Batch adh cy (i := 11) (by omega) (I0 29) (D0 29), a29, I0_z (k := 29) (n := 0) (by omega), I0_z (k := 29) (n := 1) (by omega), I0_z (k := 29) (n := 3) (by omega), I0_b (k := 29) (by omega)]
      exact h
    | 30, _ =>
      have h := hP 30 _ rfl
      rw [show cellH adh cy 30 (I0 30) (D0 30) = _ from cellH_Store adh cy (i := 0) (by omega) (I0 30) (D0 30), a30, I0_z (k := 30) (n := 0) (by omega)]
      exact h
    | 31, _ =>
      have h := hP 31 _ rfl
      rw [show cellH adh cy 31 (I0 31) (D0 31) = _ from cellH_Store adh cy (i := 1) (by omega) (I0 31) (D0 31), a31, I0_z (k := 31) (n := 0) (by omega)]
      exact h
    | 32, _ =>
      have h := hP 32 _ rfl
      rw [show cellH adh cy 32 (I0 32) (D0 32) = _ from cellH_Store adh cy (i := 2) (by omega) (I0 32) (D0 32), a32, I0_z (k := 32) (n := 0) (by omega)]
      exact h
    | k + 33, hk => exact absurd hk (by omega)
  intro k q hq
  unfold iwH iw at hq
  rw [List.getElem?_map] at hq
  cases hj : (List.range 33)[k]? with
  | none => rw [hj] at hq; cases hq
  | some j =>
    rw [hj] at hq
    cases hq
    exact key j (List.mem_range.mp (List.mem_of_getElem? hj))
set_option maxHeartbeats 8000000 in
set_option maxRecDepth 100000 in
theorem init_M {dC : Nat → ClassId} {dI : Nat → Nat → Nat} {cy : Nat → ClassId} {h0 t0 : Nat} {A : Nat → Prop} {H : Heap} (q1 q2 q3 q4 q5 q6 q7 q8 q9 q10 q11 : Nat) (hP : va_P (dC, dI) vwCl [(h0, .inr (8, [.int 0, .ref q1, .ref q2, .ref q3, .ref q11, .int 0, .int 0, .int 0, .int 0])), (q1, .inr (0, [.int 0, .ref t0, .int 0])), (q2, .inr (0, [.int 0, .ref t0, .int 0])), (q3, .inr (6, [.int 0, .ref q4, .ref q5, .ref q6, .ref q7, .ref q8, .int 0, .ref q9, .ref q10, .ref h0])), (q4, .inl (cy 0, 12, .inl (fun _ => 0))), (q5, .inl (cy 0, 12, .inl (fun _ => 0))), (q6, .inl (cy 5, 12, .inl (fun _ => 0))), (q7, .inl (cy 0, 12, .inl (fun _ => 0))), (q8, .inl (cy 6, 12, .inr (.inr (.inr (.inl (fun _ => 0)))))), (q9, .inl (cy 0, 3, .inl (fun _ => 0))), (q10, .inl (cy 6, 3, .inr (.inr (.inr (.inl (fun _ => 0)))))), (q11, .inl (cy 0, 2, .inl (fun _ => 0)))] H) (hD : va_D A [(h0, .inr (8, [.int 0, .ref q1, .ref q2, .ref q3, .ref q11, .int 0, .int 0, .int 0, .int 0])), (q1, .inr (0, [.int 0, .ref t0, .int 0])), (q2, .inr (0, [.int 0, .ref t0, .int 0])), (q3, .inr (6, [.int 0, .ref q4, .ref q5, .ref q6, .ref q7, .ref q8, .int 0, .ref q9, .ref q10, .ref h0])), (q4, .inl (cy 0, 12, .inl (fun _ => 0))), (q5, .inl (cy 0, 12, .inl (fun _ => 0))), (q6, .inl (cy 5, 12, .inl (fun _ => 0))), (q7, .inl (cy 0, 12, .inl (fun _ => 0))), (q8, .inl (cy 6, 12, .inr (.inr (.inr (.inl (fun _ => 0)))))), (q9, .inl (cy 0, 3, .inl (fun _ => 0))), (q10, .inl (cy 6, 3, .inr (.inr (.inr (.inl (fun _ => 0)))))), (q11, .inl (cy 0, 2, .inl (fun _ => 0)))]) : ∃ adm : Nat → Nat, va_P (dC, dI) vwCl (iwM [0, 1, 2, 5, 6, 7, 8, 9, 10, 11, 12, 13] 0 0 adm cy J0 D0) H ∧ mOK [0, 1, 2, 5, 6, 7, 8, 9, 10, 11, 12, 13] 0 0 adm ∧ (∀ k, k ∈ [0, 1, 2, 5, 6, 7, 8, 9, 10, 11, 12, 13] → A (adm k)) ∧ adm 0 = h0 ∧ adm 41 = t0 := by
  obtain ⟨adm, hadm⟩ : ∃ adm : Nat → Nat, adm = fun k => ([h0, q1, q2, 0, 0, q3, q4, q5, q6, q7, q8, q9, q10, q11, 0, 0, 0, 0, 0, 0, 0, 0, 0, 0, 0, 0, 0, 0, 0, 0, 0, 0, 0, 0, 0, 0, 0, 0, 0, 0, 0, t0] : List Nat).getD k 0 := ⟨_, rfl⟩
  have a0 : adm 0 = h0 := by rw [hadm]; rfl
  have a1 : adm 1 = q1 := by rw [hadm]; rfl
  have a2 : adm 2 = q2 := by rw [hadm]; rfl
  have a5 : adm 5 = q3 := by rw [hadm]; rfl
  have a6 : adm 6 = q4 := by rw [hadm]; rfl
  have a7 : adm 7 = q5 := by rw [hadm]; rfl
  have a8 : adm 8 = q6 := by rw [hadm]; rfl
  have a9 : adm 9 = q7 := by rw [hadm]; rfl
  have a10 : adm 10 = q8 := by rw [hadm]; rfl
  have a11 : adm 11 = q9 := by rw [hadm]; rfl
  have a12 : adm 12 = q10 := by rw [hadm]; rfl
  have a13 : adm 13 = q11 := by rw [hadm]; rfl
  have a41 : adm 41 = t0 := by rw [hadm]; rfl
  have hm : ([(h0, .inr (8, [.int 0, .ref q1, .ref q2, .ref q3, .ref q11, .int 0, .int 0, .int 0, .int 0])), (q1, .inr (0, [.int 0, .ref t0, .int 0])), (q2, .inr (0, [.int 0, .ref t0, .int 0])), (q3, .inr (6, [.int 0, .ref q4, .ref q5, .ref q6, .ref q7, .ref q8, .int 0, .ref q9, .ref q10, .ref h0])), (q4, .inl (cy 0, 12, .inl (fun _ => 0))), (q5, .inl (cy 0, 12, .inl (fun _ => 0))), (q6, .inl (cy 5, 12, .inl (fun _ => 0))), (q7, .inl (cy 0, 12, .inl (fun _ => 0))), (q8, .inl (cy 6, 12, .inr (.inr (.inr (.inl (fun _ => 0)))))), (q9, .inl (cy 0, 3, .inl (fun _ => 0))), (q10, .inl (cy 6, 3, .inr (.inr (.inr (.inl (fun _ => 0)))))), (q11, .inl (cy 0, 2, .inl (fun _ => 0)))] : va_W).map Prod.fst = ([0, 1, 2, 5, 6, 7, 8, 9, 10, 11, 12, 13] : List Nat).map adm := by rw [hadm]; rfl
  clear hadm
  have hi := ws_inj hm hD
  refine ⟨adm, ?_, ⟨⟨by decide, by decide, hi.1⟩, by omega, by omega⟩, hi.2, a0, a41⟩
  have key : ∀ k, k ∈ [0, 1, 2, 5, 6, 7, 8, 9, 10, 11, 12, 13] → va_at (dC, dI) vwCl (adm k, cellM adm cy 0 0 k (J0 k) (D0 k)) H := by
    intro k hk
    simp only [List.mem_cons, List.not_mem_nil, or_false] at hk
    rcases hk with rfl | rfl | rfl | rfl | rfl | rfl | rfl | rfl | rfl | rfl | rfl | rfl
    · have h := hP 0 _ rfl
      rw [cellM_0, a0, a1, a2, a5, a13]
      exact h
    · have h := hP 1 _ rfl
      rw [cellM_1, a1, show J0 1 1 = 0 from rfl, if_pos rfl, a41]
      exact h
    · have h := hP 2 _ rfl
      rw [cellM_2, a2, show J0 2 1 = 0 from rfl, if_pos rfl, a41]
      exact h
    · have h := hP 3 _ rfl
      rw [cellM_Cold adm cy 0 0 (kb := 5) (Or.inl rfl), a5, a0, show adm (5 + 1) = _ from a6, show adm (5 + 2) = _ from a7, show adm (5 + 3) = _ from a8, show adm (5 + 4) = _ from a9, show adm (5 + 5) = _ from a10, show adm (5 + 6) = _ from a11, show adm (5 + 7) = _ from a12]
      exact h
    · have h := hP 4 _ rfl
      rw [show cellM adm cy 0 0 6 (J0 6) (D0 6) = _ from cellM_Of adm cy 0 0 (kb := 5) (Or.inl rfl) (J0 6) (D0 6), a6]
      exact h
    · have h := hP 5 _ rfl
      rw [show cellM adm cy 0 0 7 (J0 7) (D0 7) = _ from cellM_Litres adm cy 0 0 (kb := 5) (Or.inl rfl) (J0 7) (D0 7), a7]
      exact h
    · have h := hP 6 _ rfl
      rw [show cellM adm cy 0 0 8 (J0 8) (D0 8) = _ from cellM_Hard adm cy 0 0 (kb := 5) (Or.inl rfl) (J0 8) (D0 8), a8]
      exact h
    · have h := hP 7 _ rfl
      rw [show cellM adm cy 0 0 9 (J0 9) (D0 9) = _ from cellM_Where adm cy 0 0 (kb := 5) (Or.inl rfl) (J0 9) (D0 9), a9]
      exact h
    · have h := hP 8 _ rfl
      rw [show cellM adm cy 0 0 10 (J0 10) (D0 10) = _ from cellM_Crystal adm cy 0 0 (kb := 5) (Or.inl rfl) (J0 10) (D0 10), a10]
      exact h
    · have h := hP 9 _ rfl
      rw [show cellM adm cy 0 0 11 (J0 11) (D0 11) = _ from cellM_Set adm cy 0 0 (kb := 5) (Or.inl rfl) (J0 11) (D0 11), a11]
      exact h
    · have h := hP 10 _ rfl
      rw [show cellM adm cy 0 0 12 (J0 12) (D0 12) = _ from cellM_Temp adm cy 0 0 (kb := 5) (Or.inl rfl) (J0 12) (D0 12), a12]
      exact h
    · have h := hP 11 _ rfl
      rw [cellM_13, a13]
      exact h
  intro k q hq
  unfold iwM iw at hq
  rw [List.getElem?_map] at hq
  cases hj : ([0, 1, 2, 5, 6, 7, 8, 9, 10, 11, 12, 13] : List Nat)[k]? with
  | none => rw [hj] at hq; cases hq
  | some j =>
    rw [hj] at hq
    cases hq
    exact key j (List.mem_of_getElem? hj)
