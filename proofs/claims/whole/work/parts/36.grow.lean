theorem mL_iff {a b k : Nat} : k ∈ mL a b ↔ ((k < 3 ∨ (5 ≤ k ∧ k < 14)) ∨ (k = 3 ∧ 0 < a) ∨ (k = 4 ∧ 0 < b) ∨ (14 ≤ k ∧ k < 14 + a) ∨ (20 ≤ k ∧ k < 20 + b) ∨ (25 ≤ k ∧ k < 25 + b)) := by
  unfold mL
  have e0 : k ∈ [0, 1, 2, 5, 6, 7, 8, 9, 10, 11, 12, 13] ↔ (k < 3 ∨ (5 ≤ k ∧ k < 14)) := by
    simp only [List.mem_cons, List.not_mem_nil, or_false]
    omega
  have e1 : (k ∈ if a = 0 then ([] : List Nat) else [3]) ↔ (k = 3 ∧ 0 < a) := by
    by_cases h : a = 0
    · rw [if_pos h]
      exact ⟨fun h => (List.not_mem_nil h).elim, fun h => by omega⟩
    · rw [if_neg h]
      exact ⟨fun h => ⟨List.mem_singleton.mp h, by omega⟩, fun h => List.mem_singleton.mpr h.1⟩
  have e2 : (k ∈ if b = 0 then ([] : List Nat) else [4]) ↔ (k = 4 ∧ 0 < b) := by
    by_cases h : b = 0
    · rw [if_pos h]
      exact ⟨fun h => (List.not_mem_nil h).elim, fun h => by omega⟩
    · rw [if_neg h]
      exact ⟨fun h => ⟨List.mem_singleton.mp h, by omega⟩, fun h => List.mem_singleton.mpr h.1⟩
  have e3 : ∀ c n : Nat, k ∈ (List.range n).map (fun i => c + i) ↔ (c ≤ k ∧ k < c + n) := fun c n => by
    constructor
    · intro h
      obtain ⟨i, hi, rfl⟩ := List.mem_map.mp h
      have := List.mem_range.mp hi
      omega
    · intro h
      exact List.mem_map.mpr ⟨k - c, List.mem_range.mpr (by omega), by omega⟩
  rw [List.mem_append, List.mem_append, List.mem_append, List.mem_append, List.mem_append, e0, e1, e2, e3, e3, e3]
theorem mOK_grow {L N : List Nat} {a b a' b' : Nat} {ad ad' : Nat → Nat} (hM : mOK L a b ad) (hN : N.Nodup) (hd : ∀ k, k ∈ L → ∀ j, j ∈ N → k ≠ j) (hm : ∀ k, k ∈ mL a' b' → k ∈ L ++ N) (he : ∀ k, k ∈ L → ad' k = ad k) (hn : ∀ i, i ∈ N → ∀ j, j ∈ N → ad' i = ad' j → i = j) (hf : ∀ k, k ∈ L → ∀ j, j ∈ N → ad k ≠ ad' j) (ha : a' < 7) (hb : b' < 6) : mOK (L ++ N) a' b' ad' := by
  refine ⟨⟨List.nodup_append.mpr ⟨hM.1.1, hN, fun x hx y hy e => hd x hx y hy e⟩, hm, fun i j hi hj e => ?_⟩, ha, hb⟩
  rcases List.mem_append.mp hi with h1 | h1
  · rcases List.mem_append.mp hj with h2 | h2
    · rw [he i h1, he j h2] at e
      exact hM.1.2.2 i j h1 h2 e
    · rw [he i h1] at e
      exact absurd e (hf i h1 j h2)
  · rcases List.mem_append.mp hj with h2 | h2
    · rw [he j h2] at e
      exact absurd e.symm (hf j h2 i h1)
    · exact hn i h1 j h2 e
section GRW
variable {dC : Nat → ClassId} {dI : Nat → Nat → Nat} {L : List Nat} {a b : Nat} {ad : Nat → Nat} {q z : Nat} {cy : Nat → ClassId} {I : Nat → Nat → Int32} {D : Nat → Nat → UInt64} {T : Nat → Int32} {H H1 : Heap} {e0 e1 : va_E}
/-- the first ingredient -/
theorem grow1F (hM : mOK L 0 b ad) (hx : ∀ k, k ∈ L → k ∈ mL 0 b) (hP : va_P (dC, dI) vwCl (iwM L 0 b ad cy I D) H) (hPq : va_P (dC, dI) vwCl [(q, .inl (cy 0, 5, .inl T))] H) (hq : ∀ k, k ∈ L → ad k ≠ q)
    (hk : ∀ p : Nat, p < H.size → ¬ va_A [(ad 1, e0)] H.size p → H1[p]? = H[p]?) (h2 : I 1 2 = 0)
    (hP1 : va_P (dC, dI) vwCl [(ad 1, .inr (0, [.int (I 1 0 + 1), .ref z, .int (0 + 1)])), (z, .inl (cy 7, 10, .inr (.inr (.inr (.inr (va_up (fun _ => none) 0 (some q)))))))] H1) (hz : H.size ≤ z) :
    va_P (dC, dI) vwCl (iwM (L ++ [3, 14]) 1 b (adG (adG ad 14 q) 3 z) cy (upR (addI I 1) 14 T) D) H1 ∧ mOK (L ++ [3, 14]) 1 b (adG (adG ad 14 q) 3 z) ∧ (∀ k, k ∈ L ++ [3, 14] → k ∈ mL 1 b) := by
  have hb := hM.2.2
  have h1L : 1 ∈ L := hM.1.2.1 _ (mL_iff.mpr (by omega))
  have hql : q < H.size := (va_P_one hPq (List.mem_singleton.mpr rfl)).lt
  refine ⟨iwM_grow (fun k => k == 1) hP hk (fun k hkL hC => ?_) (fun k hkL hor => ?_), mOK_grow hM (by decide) (fun k hkL j hj e => ?_) (fun k hk9 => ?_) (fun k hkL => ?_) (fun i hi j hj e => ?_) (fun k hkL j hj e => ?_) (by omega) hb, fun k hk9 => ?_⟩
  · have hk1 : k ≠ 1 := fun e => by subst e; cases hC
    have h9 := mL_iff.mp (hx k hkL)
    have hk3 : k ≠ 3 := by omega
    have hk14 : k ≠ 14 := by omega
    refine ⟨fun h => ?_, (adG_ne hk3).trans (adG_ne hk14), ?_⟩
    · rcases h with ⟨j, e, h⟩ | h
      · have hj : j < 1 := (List.getElem?_eq_some_iff.mp h).1
        have hj0 : j = 0 := by omega
        subst hj0
        have e9 : ad 1 = ad k := congrArg Prod.fst (Option.some.inj h)
        exact hk1 (hM.1.2.2 1 k h1L hkL e9).symm
      · exact Nat.lt_irrefl _ (Nat.lt_of_lt_of_le (iwM_lt hP hkL) h)
    · rw [upR_ne hk14, addI_ne hk1]
      exact cellM_con1 (fun p h3 h => (adG_ne h3).trans (adG_ne (by omega))) (by omega) hk1 hk3 _ _
  · have h9 : k = 1 ∨ k = 3 ∨ k = 14 := by
      rcases hor with h | h
      · rcases List.mem_cons.mp h with h | h
        · exact Or.inr (Or.inl h)
        · exact Or.inr (Or.inr (List.mem_singleton.mp h))
      · exact Or.inl (beq_iff_eq.mp h)
    rcases h9 with rfl | rfl | rfl
    · have h := va_P_one hP1 (List.mem_cons_self ..)
      have e : (adG (adG ad 14 q) 3 z 1, cellM (adG (adG ad 14 q) 3 z) cy 1 b 1 (upR (addI I 1) 14 T 1) (D 1)) = (ad 1, (.inr (0, [.int (I 1 0 + 1), .ref z, .int (0 + 1)]) : va_E)) := by
        rw [cellM_1, upR_ne (by decide), addI_at]
        show (ad 1, (.inr (0, [.int (I 1 0 + 1), .ref (adG (adG ad 14 q) 3 z (if (1 : Int32) = 0 then 41 else 3)), .int (I 1 2 + 1)]) : va_E)) = _
        rw [h2, if_neg (by decide)]
        rfl
      rw [e]
      exact h
    · have h := va_P_one hP1 (List.mem_cons_of_mem _ (List.mem_singleton.mpr rfl))
      have e : (adG (adG ad 14 q) 3 z 3, cellM (adG (adG ad 14 q) 3 z) cy 1 b 3 (upR (addI I 1) 14 T 3) (D 3)) = (z, (.inl (cy 7, 10, .inr (.inr (.inr (.inr (va_up (fun _ => none) 0 (some q)))))) : va_E)) := by
        rw [cellM_3, show (fun j => if j < 1 then some (adG (adG ad 14 q) 3 z (14 + j)) else none) = va_up (fun _ => none) 0 (some q) from funext fun j => by
          unfold va_up
          by_cases hj : j = 0
          · subst hj; rfl
          · rw [if_neg (by omega), if_neg hj]]
        rfl
      rw [e]
      exact h
    · have h := va_P_one hPq (List.mem_singleton.mpr rfl)
      have e : (adG (adG ad 14 q) 3 z 14, cellM (adG (adG ad 14 q) 3 z) cy 1 b 14 (upR (addI I 1) 14 T 14) (D 14)) = (q, (.inl (cy 0, 5, .inl T) : va_E)) := by
        rw [upR_at]
        rfl
      rw [e]
      refine h.kept (hk _ hql (fun h8 => ?_))
      rcases h8 with ⟨j, e, h⟩ | h
      · have hj : j < 1 := (List.getElem?_eq_some_iff.mp h).1
        have hj0 : j = 0 := by omega
        subst hj0
        exact hq 1 h1L (congrArg Prod.fst (Option.some.inj h))
      · exact Nat.lt_irrefl _ (Nat.lt_of_lt_of_le hql h)
  · have h9 := mL_iff.mp (hx k hkL)
    rcases List.mem_cons.mp hj with h | h
    · omega
    · have := List.mem_singleton.mp h
      omega
  · have h9 := mL_iff.mp hk9
    by_cases h3 : k = 3
    · exact List.mem_append_right _ (h3 ▸ List.mem_cons_self ..)
    · by_cases h14 : k = 14
      · exact List.mem_append_right _ (h14 ▸ List.mem_cons_of_mem _ (List.mem_singleton.mpr rfl))
      · exact List.mem_append_left _ (hM.1.2.1 _ (mL_iff.mpr (by omega)))
  · have h9 := mL_iff.mp (hx k hkL)
    exact (adG_ne (by omega)).trans (adG_ne (by omega))
  · have hqz : q ≠ z := by omega
    have v3 : adG (adG ad 14 q) 3 z 3 = z := rfl
    have v14 : adG (adG ad 14 q) 3 z 14 = q := rfl
    rcases List.mem_cons.mp hi with rfl | h <;> rcases List.mem_cons.mp hj with rfl | h'
    · rfl
    · have := List.mem_singleton.mp h'
      subst this
      exact absurd (v14.symm.trans (e.symm.trans v3)) hqz
    · have := List.mem_singleton.mp h
      subst this
      exact absurd (v14.symm.trans (e.trans v3)) hqz
    · exact (List.mem_singleton.mp h).trans (List.mem_singleton.mp h').symm
  · have v3 : adG (adG ad 14 q) 3 z 3 = z := rfl
    have v14 : adG (adG ad 14 q) 3 z 14 = q := rfl
    have hl9 := iwM_lt hP hkL
    rcases List.mem_cons.mp hj with rfl | h
    · rw [v3] at e
      omega
    · have := List.mem_singleton.mp h
      subst this
      rw [v14] at e
      exact hq k hkL e
  · rcases List.mem_append.mp hk9 with h | h
    · have h9 := mL_iff.mp (hx k h)
      exact mL_iff.mpr (by omega)
    · rcases List.mem_cons.mp h with rfl | h
      · exact mL_iff.mpr (by omega)
      · have := List.mem_singleton.mp h
        exact mL_iff.mpr (by omega)
theorem xA2 {x y : Nat × va_E} {n p : Nat} (h : va_A [x, y] n p) : x.1 = p ∨ y.1 = p ∨ n ≤ p := by
  rcases h with ⟨j, e, h⟩ | h
  · match j with
    | 0 => exact Or.inl (congrArg Prod.fst (Option.some.inj h))
    | 1 => exact Or.inr (Or.inl (congrArg Prod.fst (Option.some.inj h)))
    | j + 2 => cases h
  · exact Or.inr (Or.inr h)
theorem xA1 {x : Nat × va_E} {n p : Nat} (h : va_A [x] n p) : x.1 = p ∨ n ≤ p := by
  rcases h with ⟨j, e, h⟩ | h
  · match j with
    | 0 => exact Or.inl (congrArg Prod.fst (Option.some.inj h))
    | j + 1 => cases h
  · exact Or.inr h
/-- a later ingredient -/
theorem grow1S (hM : mOK L a b ad) (hx : ∀ k, k ∈ L → k ∈ mL a b) (ha0 : 0 < a) (ha6 : a < 6) (hP : va_P (dC, dI) vwCl (iwM L a b ad cy I D) H) (hPq : va_P (dC, dI) vwCl [(q, .inl (cy 0, 5, .inl T))] H) (hq : ∀ k, k ∈ L → ad k ≠ q)
    (hk : ∀ p : Nat, p < H.size → ¬ va_A [(ad 1, e0), (ad 3, e1)] H.size p → H1[p]? = H[p]?)
    (hP1 : va_P (dC, dI) vwCl [(ad 1, .inr (0, [.int (I 1 0 + 1), .ref (ad 3), .int (I 1 2 + 1)])), (ad 3, .inl (cy 7, 10, .inr (.inr (.inr (.inr (va_up (fun j => if j < a then some (ad (14 + j)) else none) a (some q)))))))] H1) :
    va_P (dC, dI) vwCl (iwM (L ++ [14 + a]) (a + 1) b (adG ad (14 + a) q) cy (upR (addI I 1) (14 + a) T) D) H1 ∧ mOK (L ++ [14 + a]) (a + 1) b (adG ad (14 + a) q) ∧ (∀ k, k ∈ L ++ [14 + a] → k ∈ mL (a + 1) b) := by
  have hb := hM.2.2
  have h1L : 1 ∈ L := hM.1.2.1 _ (mL_iff.mpr (by omega))
  have h3L : 3 ∈ L := hM.1.2.1 _ (mL_iff.mpr (by omega))
  have hql : q < H.size := (va_P_one hPq (List.mem_singleton.mpr rfl)).lt
  refine ⟨iwM_grow (fun k => k == 1 || k == 3) hP hk (fun k hkL hC => ?_) (fun k hkL hor => ?_), mOK_grow hM (List.nodup_cons.mpr ⟨List.not_mem_nil, List.nodup_nil⟩) (fun k hkL j hj e => ?_) (fun k hk9 => ?_) (fun k hkL => ?_) (fun i hi j hj e => ?_) (fun k hkL j hj e => ?_) (by omega) hb, fun k hk9 => ?_⟩
  · have hk1 : k ≠ 1 := fun e => by subst e; cases hC
    have hk3 : k ≠ 3 := fun e => by subst e; cases hC
    have h9 := mL_iff.mp (hx k hkL)
    have hk14 : k ≠ 14 + a := by omega
    refine ⟨fun h => ?_, adG_ne hk14, ?_⟩
    · rcases xA2 h with h | h | h
      · exact hk1 (hM.1.2.2 1 k h1L hkL h).symm
      · exact hk3 (hM.1.2.2 3 k h3L hkL h).symm
      · exact Nat.lt_irrefl _ (Nat.lt_of_lt_of_le (iwM_lt hP hkL) h)
    · rw [upR_ne hk14, addI_ne hk1]
      exact cellM_con1 (fun p h3 h => adG_ne (by omega)) (by omega) hk1 hk3 _ _
  · have h9 : k = 1 ∨ k = 3 ∨ k = 14 + a := by
      rcases hor with h | h
      · exact Or.inr (Or.inr (List.mem_singleton.mp h))
      · rcases Bool.or_eq_true_iff.mp h with h | h
        · exact Or.inl (beq_iff_eq.mp h)
        · exact Or.inr (Or.inl (beq_iff_eq.mp h))
    rcases h9 with rfl | rfl | rfl
    · have h := va_P_one hP1 (List.mem_cons_self ..)
      have e : (adG ad (14 + a) q 1, cellM (adG ad (14 + a) q) cy (a + 1) b 1 (upR (addI I 1) (14 + a) T 1) (D 1)) = (ad 1, (.inr (0, [.int (I 1 0 + 1), .ref (ad 3), .int (I 1 2 + 1)]) : va_E)) := by
        rw [cellM_1, upR_ne (by omega), addI_at, adG_ne (by omega)]
        show (ad 1, (.inr (0, [.int (I 1 0 + 1), .ref (adG ad (14 + a) q (if (1 : Int32) = 0 then 41 else 3)), .int (I 1 2 + 1)]) : va_E)) = _
        rw [if_neg (by decide), adG_ne (by omega)]
      rw [e]
      exact h
    · have h := va_P_one hP1 (List.mem_cons_of_mem _ (List.mem_singleton.mpr rfl))
      have e : (adG ad (14 + a) q 3, cellM (adG ad (14 + a) q) cy (a + 1) b 3 (upR (addI I 1) (14 + a) T 3) (D 3)) = (ad 3, (.inl (cy 7, 10, .inr (.inr (.inr (.inr (va_up (fun j => if j < a then some (ad (14 + j)) else none) a (some q)))))) : va_E)) := by
        rw [cellM_3, adG_ne (by omega), show (fun j => if j < a + 1 then some (adG ad (14 + a) q (14 + j)) else none) = va_up (fun j => if j < a then some (ad (14 + j)) else none) a (some q) from funext fun j => by
          unfold va_up
          by_cases hj : j = a
          · subst hj
            rw [if_pos (by omega), if_pos rfl, adG_at]
          · rw [if_neg hj]
            by_cases hj2 : j < a
            · rw [if_pos (by omega), adG_ne (by omega)]; exact (if_pos hj2).symm
            · rw [if_neg (by omega)]; exact (if_neg hj2).symm]
      rw [e]
      exact h
    · have h := va_P_one hPq (List.mem_singleton.mpr rfl)
      have e : (adG ad (14 + a) q (14 + a), cellM (adG ad (14 + a) q) cy (a + 1) b (14 + a) (upR (addI I 1) (14 + a) T (14 + a)) (D (14 + a))) = (q, (.inl (cy 0, 5, .inl T) : va_E)) := by
        rw [upR_at, adG_at, cellM_Row _ _ _ _ ha6]
      rw [e]
      refine h.kept (hk _ hql (fun h8 => ?_))
      rcases xA2 h8 with h | h | h
      · exact hq 1 h1L h
      · exact hq 3 h3L h
      · exact Nat.lt_irrefl _ (Nat.lt_of_lt_of_le hql h)
  · have h9 := mL_iff.mp (hx k hkL)
    have := List.mem_singleton.mp hj
    omega
  · have h9 := mL_iff.mp hk9
    by_cases h14 : k = 14 + a
    · exact List.mem_append_right _ (List.mem_singleton.mpr h14)
    · exact List.mem_append_left _ (hM.1.2.1 _ (mL_iff.mpr (by omega)))
  · have h9 := mL_iff.mp (hx k hkL)
    exact adG_ne (by omega)
  · exact (List.mem_singleton.mp hi).trans (List.mem_singleton.mp hj).symm
  · have := List.mem_singleton.mp hj
    subst this
    rw [adG_at] at e
    exact hq k hkL e
  · rcases List.mem_append.mp hk9 with h | h
    · have h9 := mL_iff.mp (hx k h)
      exact mL_iff.mpr (by omega)
    · have := List.mem_singleton.mp h
      exact mL_iff.mpr (by omega)
/-- the first mix (its own cells stand already) -/
theorem grow2F (hM : mOK L a 0 ad) (hx : ∀ k, k ∈ L → k ∈ mL a 0 ∨ k = 20 ∨ k = 25) (h20 : 20 ∈ L) (h25 : 25 ∈ L) (hP : va_P (dC, dI) vwCl (iwM L a 0 ad cy I D) H)
    (hk : ∀ p : Nat, p < H.size → ¬ va_A [(ad 2, e0)] H.size p → H1[p]? = H[p]?) (h2 : I 2 2 = 0)
    (hP1 : va_P (dC, dI) vwCl [(ad 2, .inr (0, [.int (I 2 0 + 1), .ref z, .int (0 + 1)])), (z, .inl (cy 7, 10, .inr (.inr (.inr (.inr (va_up (fun _ => none) 0 (some (ad 20))))))))] H1) (hz : H.size ≤ z) :
    va_P (dC, dI) vwCl (iwM (L ++ [4]) a 1 (adG ad 4 z) cy (addI I 2) D) H1 ∧ mOK (L ++ [4]) a 1 (adG ad 4 z) ∧ (∀ k, k ∈ L ++ [4] → k ∈ mL a 1) := by
  have ha := hM.2.1
  have h2L : 2 ∈ L := hM.1.2.1 _ (mL_iff.mpr (by omega))
  refine ⟨iwM_grow (fun k => k == 2) hP hk (fun k hkL hC => ?_) (fun k hkL hor => ?_), mOK_grow hM (by decide) (fun k hkL j hj e => ?_) (fun k hk9 => ?_) (fun k hkL => ?_) (fun i hi j hj e => ?_) (fun k hkL j hj e => ?_) ha (by omega), fun k hk9 => ?_⟩
  · have hk1 : k ≠ 2 := fun e => by subst e; cases hC
    have h9 : k < 30 ∧ k ≠ 4 := by
      rcases hx k hkL with h | h | h
      · have := mL_iff.mp h
        omega
      · omega
      · omega
    refine ⟨fun h => ?_, adG_ne h9.2, ?_⟩
    · rcases xA1 h with h | h
      · exact hk1 (hM.1.2.2 2 k h2L hkL h).symm
      · exact Nat.lt_irrefl _ (Nat.lt_of_lt_of_le (iwM_lt hP hkL) h)
    · rw [addI_ne hk1]
      exact cellM_con2 (fun p h3 h => adG_ne h3) h9.1 hk1 h9.2 _ _
  · have h9 : k = 2 ∨ k = 4 := by
      rcases hor with h | h
      · exact Or.inr (List.mem_singleton.mp h)
      · exact Or.inl (beq_iff_eq.mp h)
    rcases h9 with rfl | rfl
    · have h := va_P_one hP1 (List.mem_cons_self ..)
      have e : (adG ad 4 z 2, cellM (adG ad 4 z) cy a 1 2 (addI I 2 2) (D 2)) = (ad 2, (.inr (0, [.int (I 2 0 + 1), .ref z, .int (0 + 1)]) : va_E)) := by
        rw [cellM_2, addI_at]
        show (ad 2, (.inr (0, [.int (I 2 0 + 1), .ref (adG ad 4 z (if (1 : Int32) = 0 then 41 else 4)), .int (I 2 2 + 1)]) : va_E)) = _
        rw [h2, if_neg (by decide)]
        rfl
      rw [e]
      exact h
    · have h := va_P_one hP1 (List.mem_cons_of_mem _ (List.mem_singleton.mpr rfl))
      have e : (adG ad 4 z 4, cellM (adG ad 4 z) cy a 1 4 (addI I 2 4) (D 4)) = (z, (.inl (cy 7, 10, .inr (.inr (.inr (.inr (va_up (fun _ => none) 0 (some (ad 20))))))) : va_E)) := by
        rw [cellM_4, show (fun j => if j < 1 then some (adG ad 4 z (20 + j)) else none) = va_up (fun _ => none) 0 (some (ad 20)) from funext fun j => by
          unfold va_up
          by_cases hj : j = 0
          · subst hj; rfl
          · rw [if_neg (by omega), if_neg hj]]
        rfl
      rw [e]
      exact h
  · have := List.mem_singleton.mp hj
    rcases hx k hkL with h | h | h
    · have := mL_iff.mp h
      omega
    · omega
    · omega
  · have h9 := mL_iff.mp hk9
    by_cases h4 : k = 4
    · exact List.mem_append_right _ (List.mem_singleton.mpr h4)
    · by_cases h8 : k = 20
      · exact List.mem_append_left _ (h8 ▸ h20)
      · by_cases h7 : k = 25
        · exact List.mem_append_left _ (h7 ▸ h25)
        · exact List.mem_append_left _ (hM.1.2.1 _ (mL_iff.mpr (by omega)))
  · refine adG_ne (fun e => ?_)
    rcases hx k hkL with h | h | h
    · have := mL_iff.mp h
      omega
    · omega
    · omega
  · exact (List.mem_singleton.mp hi).trans (List.mem_singleton.mp hj).symm
  · have := List.mem_singleton.mp hj
    subst this
    rw [adG_at] at e
    have := iwM_lt hP hkL
    omega
  · rcases List.mem_append.mp hk9 with h | h
    · rcases hx k h with h | h | h
      · have := mL_iff.mp h
        exact mL_iff.mpr (by omega)
      · exact mL_iff.mpr (by omega)
      · exact mL_iff.mpr (by omega)
    · have := List.mem_singleton.mp h
      exact mL_iff.mpr (by omega)
/-- a later mix -/
theorem grow2S (hM : mOK L a b ad) (hx : ∀ k, k ∈ L → k ∈ mL a b ∨ k = 20 + b ∨ k = 25 + b) (hb0 : 0 < b) (hb5 : b < 5) (h20 : 20 + b ∈ L) (h25 : 25 + b ∈ L) (hP : va_P (dC, dI) vwCl (iwM L a b ad cy I D) H)
    (hk : ∀ p : Nat, p < H.size → ¬ va_A [(ad 2, e0), (ad 4, e1)] H.size p → H1[p]? = H[p]?)
    (hP1 : va_P (dC, dI) vwCl [(ad 2, .inr (0, [.int (I 2 0 + 1), .ref (ad 4), .int (I 2 2 + 1)])), (ad 4, .inl (cy 7, 10, .inr (.inr (.inr (.inr (va_up (fun j => if j < b then some (ad (20 + j)) else none) b (some (ad (20 + b)))))))))] H1) :
    va_P (dC, dI) vwCl (iwM L a (b + 1) ad cy (addI I 2) D) H1 ∧ mOK L a (b + 1) ad ∧ (∀ k, k ∈ L → k ∈ mL a (b + 1)) := by
  have ha := hM.2.1
  have h2L : 2 ∈ L := hM.1.2.1 _ (mL_iff.mpr (by omega))
  have h4L : 4 ∈ L := hM.1.2.1 _ (mL_iff.mpr (by omega))
  have h30 : ∀ k, k ∈ L → k < 30 := fun k h => by
    rcases hx k h with h | h | h
    · have := mL_iff.mp h
      omega
    · omega
    · omega
  refine ⟨?_, ⟨⟨hM.1.1, fun k hk9 => ?_, hM.1.2.2⟩, ha, by omega⟩, fun k h => ?_⟩
  · have key := iwM_grow (N := []) (a' := a) (b' := b + 1) (ad' := ad) (I' := addI I 2) (D' := D) (fun k => k == 2 || k == 4) hP hk (fun k hkL hC => ?_) (fun k hkL hor => ?_)
    · rw [List.append_nil] at key
      exact key
    · have hk1 : k ≠ 2 := fun e => by subst e; cases hC
      have hk3 : k ≠ 4 := fun e => by subst e; cases hC
      refine ⟨fun h => ?_, rfl, ?_⟩
      · rcases xA2 h with h | h | h
        · exact hk1 (hM.1.2.2 2 k h2L hkL h).symm
        · exact hk3 (hM.1.2.2 4 k h4L hkL h).symm
        · exact Nat.lt_irrefl _ (Nat.lt_of_lt_of_le (iwM_lt hP hkL) h)
      · rw [addI_ne hk1]
        exact cellM_con2 (fun p h3 h => rfl) (h30 k hkL) hk1 hk3 _ _
    · have h9 : k = 2 ∨ k = 4 := by
        rcases hor with h | h
        · cases h
        · rcases Bool.or_eq_true_iff.mp h with h | h
          · exact Or.inl (beq_iff_eq.mp h)
          · exact Or.inr (beq_iff_eq.mp h)
      rcases h9 with rfl | rfl
      · have h := va_P_one hP1 (List.mem_cons_self ..)
        have e : (ad 2, cellM ad cy a (b + 1) 2 (addI I 2 2) (D 2)) = (ad 2, (.inr (0, [.int (I 2 0 + 1), .ref (ad 4), .int (I 2 2 + 1)]) : va_E)) := by
          rw [cellM_2, addI_at]
          show (ad 2, (.inr (0, [.int (I 2 0 + 1), .ref (ad (if (1 : Int32) = 0 then 41 else 4)), .int (I 2 2 + 1)]) : va_E)) = _
          rw [if_neg (by decide)]
        rw [e]
        exact h
      · have h := va_P_one hP1 (List.mem_cons_of_mem _ (List.mem_singleton.mpr rfl))
        have e : (ad 4, cellM ad cy a (b + 1) 4 (addI I 2 4) (D 4)) = (ad 4, (.inl (cy 7, 10, .inr (.inr (.inr (.inr (va_up (fun j => if j < b then some (ad (20 + j)) else none) b (some (ad (20 + b)))))))) : va_E)) := by
          rw [cellM_4, show (fun j => if j < b + 1 then some (ad (20 + j)) else none) = va_up (fun j => if j < b then some (ad (20 + j)) else none) b (some (ad (20 + b))) from funext fun j => by
            unfold va_up
            by_cases hj : j = b
            · subst hj
              rw [if_pos (by omega), if_pos rfl]
            · rw [if_neg hj]
              by_cases hj2 : j < b
              · rw [if_pos (by omega)]; exact (if_pos hj2).symm
              · rw [if_neg (by omega)]; exact (if_neg hj2).symm]
        rw [e]
        exact h
  · have h9 := mL_iff.mp hk9
    by_cases h8 : k = 20 + b
    · exact h8 ▸ h20
    · by_cases h7 : k = 25 + b
      · exact h7 ▸ h25
      · exact hM.1.2.1 _ (mL_iff.mpr (by omega))
  · rcases hx k h with h | h | h
    · have := mL_iff.mp h
      exact mL_iff.mpr (by omega)
    · exact mL_iff.mpr (by omega)
    · exact mL_iff.mpr (by omega)
end GRW
