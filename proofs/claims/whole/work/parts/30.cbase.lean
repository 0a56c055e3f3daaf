/-- the places of a copied cold -/
def p8 : List Nat := [30, 31, 32, 33, 34, 35, 36, 37]
def adC (ad q : Nat → Nat) : Nat → Nat := fun k => if 30 ≤ k ∧ k < 38 then q (k - 30) else ad k
def clr {α : Type} (z : α) (I : Nat → Nat → α) : Nat → Nat → α := fun k => if 30 ≤ k ∧ k < 38 then (fun _ => z) else I k
theorem adC_lo {ad q : Nat → Nat} {k : Nat} (h : k < 30) : adC ad q k = ad k := by
  unfold adC
  rw [if_neg (by omega)]
theorem clr_lo {α : Type} {z : α} {I : Nat → Nat → α} {k : Nat} (h : k < 30) : clr z I k = I k := by
  unfold clr
  rw [if_neg (by omega)]
theorem cellM_adC {ad q : Nat → Nat} {cy : Nat → ClassId} {a b : Nat} (ha : a < 7) (hb : b < 6) {k : Nat} (hk : k < 30) (f : Nat → Int32) (d : Nat → UInt64) : cellM (adC ad q) cy a b k f d = cellM ad cy a b k f d := by
  match k, hk with
  | 1, _ => exact (by
      show (Sum.inr (0, [.int (f 0), .ref (adC ad q (if f 1 = 0 then 41 else 3)), .int (f 2)]) : va_E) = Sum.inr (0, [.int (f 0), .ref (ad (if f 1 = 0 then 41 else 3)), .int (f 2)])
      by_cases h : f 1 = 0
      · rw [if_pos h]; rfl
      · rw [if_neg h]; rfl)
  | 2, _ => exact (by
      show (Sum.inr (0, [.int (f 0), .ref (adC ad q (if f 1 = 0 then 41 else 4)), .int (f 2)]) : va_E) = Sum.inr (0, [.int (f 0), .ref (ad (if f 1 = 0 then 41 else 4)), .int (f 2)])
      by_cases h : f 1 = 0
      · rw [if_pos h]; rfl
      · rw [if_neg h]; rfl)
  | 3, _ => exact (by
      show (Sum.inl (cy 7, 10, .inr (.inr (.inr (.inr (fun j => if j < a then some (adC ad q (14 + j)) else none))))) : va_E) = Sum.inl (cy 7, 10, .inr (.inr (.inr (.inr (fun j => if j < a then some (ad (14 + j)) else none)))))
      rw [show (fun j => if j < a then some (adC ad q (14 + j)) else none) = (fun j => if j < a then some (ad (14 + j)) else none) from funext fun j => by
        by_cases h : j < a
        · rw [if_pos h, if_pos h, adC_lo (by omega)]
        · rw [if_neg h, if_neg h]])
  | 4, _ => exact (by
      show (Sum.inl (cy 7, 10, .inr (.inr (.inr (.inr (fun j => if j < b then some (adC ad q (20 + j)) else none))))) : va_E) = Sum.inl (cy 7, 10, .inr (.inr (.inr (.inr (fun j => if j < b then some (ad (20 + j)) else none)))))
      rw [show (fun j => if j < b then some (adC ad q (20 + j)) else none) = (fun j => if j < b then some (ad (20 + j)) else none) from funext fun j => by
        by_cases h : j < b
        · rw [if_pos h, if_pos h, adC_lo (by omega)]
        · rw [if_neg h, if_neg h]])
  | 0, _ => rfl
  | 5, _ => rfl
  | 6, _ => rfl
  | 7, _ => rfl
  | 8, _ => rfl
  | 9, _ => rfl
  | 10, _ => rfl
  | 11, _ => rfl
  | 12, _ => rfl
  | 13, _ => rfl
  | 14, _ => rfl
  | 15, _ => rfl
  | 16, _ => rfl
  | 17, _ => rfl
  | 18, _ => rfl
  | 19, _ => rfl
  | 20, _ => rfl
  | 21, _ => rfl
  | 22, _ => rfl
  | 23, _ => rfl
  | 24, _ => rfl
  | 25, _ => rfl
  | 26, _ => rfl
  | 27, _ => rfl
  | 28, _ => rfl
  | 29, _ => rfl
  | k + 30, hk => exact absurd hk (by omega)
theorem va_Pl {D : va_G} {cl : List vw_C} {w1 w2 : va_W} {H : Heap} (h : va_P D cl (w1 ++ w2) H) : va_P D cl w1 H := fun k q hk => h k q (by rw [List.getElem?_append_left (List.getElem?_eq_some_iff.mp hk).1]; exact hk)
theorem va_Pr {D : va_G} {cl : List vw_C} {w1 w2 : va_W} {H : Heap} (h : va_P D cl (w1 ++ w2) H) : va_P D cl w2 H := fun k q hk => h (w1.length + k) q (by rw [List.getElem?_append_right (by omega), Nat.add_sub_cancel_left]; exact hk)
theorem va_Dl {A : Nat → Prop} {w1 w2 : va_W} (h : va_D A (w1 ++ w2)) : va_D A w1 := by
  have key : ∀ (k : Nat) (q : Nat × va_E), w1[k]? = some q → (w1 ++ w2)[k]? = some q := fun k q hk => by rw [List.getElem?_append_left (List.getElem?_eq_some_iff.mp hk).1]; exact hk
  exact ⟨fun i j x y hi hj hxy => h.1 i j x y (key i x hi) (key j y hj) hxy, fun k q hk => h.2 k q (key k q hk)⟩
theorem va_Dr {A : Nat → Prop} {w1 w2 : va_W} (h : va_D A (w1 ++ w2)) : va_D A w2 := by
  have key : ∀ (k : Nat) (q : Nat × va_E), w2[k]? = some q → (w1 ++ w2)[w1.length + k]? = some q := fun k q hk => by rw [List.getElem?_append_right (by omega), Nat.add_sub_cancel_left]; exact hk
  exact ⟨fun i j x y hi hj hxy => by have := h.1 _ _ x y (key i x hi) (key j y hj) hxy; omega, fun k q hk => h.2 _ q (key k q hk)⟩
/-- the cells of one part are not those of the other -/
theorem va_Dx {A : Nat → Prop} {w1 w2 : va_W} (h : va_D A (w1 ++ w2)) {i j : Nat} {x y : Nat × va_E} (hi : w1[i]? = some x) (hj : w2[j]? = some y) : x.1 ≠ y.1 := by
  intro e
  have h1 : (w1 ++ w2)[i]? = some x := by rw [List.getElem?_append_left (List.getElem?_eq_some_iff.mp hi).1]; exact hi
  have h2 : (w1 ++ w2)[w1.length + j]? = some y := by rw [List.getElem?_append_right (by omega), Nat.add_sub_cancel_left]; exact hj
  have h3 := h.1 _ _ x y h1 h2 e
  have h4 := (List.getElem?_eq_some_iff.mp hi).1
  omega
/-- a copy's cells beside the world -/
def c8 (q : Nat → Nat) (cy : Nat → ClassId) (m0 : Nat) : va_W := [(q 0, .inr (6, [.int 0, .ref (q 1), .ref (q 2), .ref (q 3), .ref (q 4), .ref (q 5), .int 0, .ref (q 6), .ref (q 7), .ref m0])), (q 1, .inl (cy 0, 12, .inl (fun _ => 0))), (q 2, .inl (cy 0, 12, .inl (fun _ => 0))), (q 3, .inl (cy 5, 12, .inl (fun _ => 0))), (q 4, .inl (cy 0, 12, .inl (fun _ => 0))), (q 5, .inl (cy 6, 12, .inr (.inr (.inr (.inl (fun _ => 0)))))), (q 6, .inl (cy 0, 3, .inl (fun _ => 0))), (q 7, .inl (cy 6, 3, .inr (.inr (.inr (.inl (fun _ => 0))))))]
theorem c8_eq {L : List Nat} {a b : Nat} {ad q : Nat → Nat} {cy : Nat → ClassId} {I : Nat → Nat → Int32} {D : Nat → Nat → UInt64} (ha : a < 7) (hb : b < 6) (h30 : ∀ k ∈ L, k < 30) : iwM (L ++ p8) a b (adC ad q) cy (clr 0 I) (clr 0 D) = iwM L a b ad cy I D ++ c8 q cy (ad 0) := by
  unfold iwM iw
  rw [List.map_append]
  refine congr (congrArg _ ?_) rfl
  refine List.map_congr_left (fun k hk => ?_)
  have h := h30 k hk
  show (adC ad q k, cellM (adC ad q) cy a b k (clr 0 I k) (clr 0 D k)) = (ad k, cellM ad cy a b k (I k) (D k))
  rw [adC_lo h, cellM_adC ha hb h, clr_lo h, clr_lo h]
theorem iwM_lo {L : List Nat} {a b : Nat} {ad q : Nat → Nat} {cy : Nat → ClassId} {I : Nat → Nat → Int32} {D : Nat → Nat → UInt64} (ha : a < 7) (hb : b < 6) (h30 : ∀ k ∈ L, k < 30) : iwM L a b (adC ad q) cy I D = iwM L a b ad cy I D := by
  unfold iwM iw
  refine List.map_congr_left (fun k hk => ?_)
  have h := h30 k hk
  show (adC ad q k, cellM (adC ad q) cy a b k (I k) (D k)) = (ad k, cellM ad cy a b k (I k) (D k))
  rw [adC_lo h, cellM_adC ha hb h]
theorem wM_back {dC : Nat → ClassId} {dI : Nat → Nat → Nat} {L : List Nat} {a b : Nat} {ad q : Nat → Nat} {cy : Nat → ClassId} {I : Nat → Nat → Int32} {D : Nat → Nat → UInt64} {U : State} (hM : mOK L a b ad) (h30 : ∀ k ∈ L, k < 30) (h : wM dC dI (L ++ p8) a b (adC ad q) cy I D U) : wM dC dI L a b ad cy I D U := by
  refine ⟨?_, h.2⟩
  have h1 := h.1
  rw [show iwM (L ++ p8) a b (adC ad q) cy I D = iwM L a b (adC ad q) cy I D ++ iwM p8 a b (adC ad q) cy I D from List.map_append] at h1
  rw [iwM_lo hM.2.1 hM.2.2 h30] at h1
  exact va_Pl h1
/-- the world with a copy's cells behind it fits -/
theorem mOK_c8 {L : List Nat} {a b : Nat} {ad q : Nat → Nat} {cy : Nat → ClassId} {I : Nat → Nat → Int32} {D : Nat → Nat → UInt64} {A : Nat → Prop} (hM : mOK L a b ad) (h30 : ∀ k ∈ L, k < 30) (hD : va_D A (iwM L a b ad cy I D ++ c8 q cy (ad 0))) : mOK (L ++ p8) a b (adC ad q) := by
  have hnd : (L ++ p8).Nodup := by
    rw [List.nodup_append]
    refine ⟨hM.1.1, by decide, fun x hx y hy e => ?_⟩
    have h1 := h30 x hx
    have h2 : ∀ z ∈ p8, 30 ≤ z := by decide
    have h3 := h2 y hy
    omega
  refine ⟨⟨hnd, fun k hk => List.mem_append_left _ (hM.1.2.1 k hk), fun i j hi hj e => ?_⟩, hM.2⟩
  rw [← c8_eq (I := I) (D := D) hM.2.1 hM.2.2 h30] at hD
  obtain ⟨x, hx⟩ := List.getElem?_of_mem hi
  obtain ⟨y, hy⟩ := List.getElem?_of_mem hj
  have h1 := iw_get (ad := adC ad q) (c := fun k => cellM (adC ad q) cy a b k (clr 0 I k) (clr 0 D k)) hx
  have h2 := iw_get (ad := adC ad q) (c := fun k => cellM (adC ad q) cy a b k (clr 0 I k) (clr 0 D k)) hy
  have h3 := hD.1 x y _ _ h1 h2 e
  subst h3
  exact Option.some.inj (hx.symm.trans hy)
theorem cOK_30 {L : List Nat} : cOK (L ++ p8) 30 := by
  refine ⟨Or.inr rfl, fun j hj => List.mem_append_right _ ?_⟩
  match j, hj with
  | 0, _ => decide
  | 1, _ => decide
  | 2, _ => decide
  | 3, _ => decide
  | 4, _ => decide
  | 5, _ => decide
  | 6, _ => decide
  | 7, _ => decide
/-- a whole row copied -/
def upR {α : Type} (I : Nat → Nat → α) (k : Nat) (f : Nat → α) : Nat → Nat → α := va_up I k f
def allB (f : Nat → Int32) (n : Nat) : Bool := (List.range n).all (fun i => isB (f i))
theorem allB_fit {f : Nat → Int32} {n : Nat} (h : allB f n = true) : ∀ i, i < n → fits .boolean (.int (f (0 + i))) = true := fun i hi => by
  rw [Nat.zero_add]
  exact isB_fit (List.all_eq_true.mp h i (List.mem_range.mpr hi))
section HRM
variable {L : List Nat} {a b : Nat} {ad : Nat → Nat} {cy : Nat → ClassId} {I : Nat → Nat → Int32} {D : Nat → Nat → UInt64}
theorem hrI {G : va_G} {H : Heap} {q k : Nat} {f : Nat → Int32} {e : va_E} (hM : mOK L a b ad) (hq : L[q]? = some k) (he : cellM ad cy a b k f (D k) = e) (hP : va_P G vwCl ((iwM L a b ad cy I D).set q (ad k, e)) H) : va_P G vwCl (iwM L a b ad cy (upR I k f) D) H := by
  have h := iw_set (L := L) (ad := ad) (c := fun k => cellM ad cy a b k (I k) (D k)) (c' := fun j => cellM ad cy a b j (upR I k f j) (D j)) (q := q) (k := k) (e := e) hM.1.1 hq (by unfold upR va_up; rw [if_pos rfl]; exact he) (fun j _ hj => by unfold upR va_up; rw [if_neg hj])
  unfold iwM at hP ⊢
  rw [h] at hP
  exact hP
theorem hrD {G : va_G} {H : Heap} {q k : Nat} {f : Nat → UInt64} {e : va_E} (hM : mOK L a b ad) (hq : L[q]? = some k) (he : cellM ad cy a b k (I k) f = e) (hP : va_P G vwCl ((iwM L a b ad cy I D).set q (ad k, e)) H) : va_P G vwCl (iwM L a b ad cy I (upR D k f)) H := by
  have h := iw_set (L := L) (ad := ad) (c := fun k => cellM ad cy a b k (I k) (D k)) (c' := fun j => cellM ad cy a b j (I j) (upR D k f j)) (q := q) (k := k) (e := e) hM.1.1 hq (by unfold upR va_up; rw [if_pos rfl]; exact he) (fun j _ hj => by unfold upR va_up; rw [if_neg hj])
  unfold iwM at hP ⊢
  rw [h] at hP
  exact hP
end HRM
