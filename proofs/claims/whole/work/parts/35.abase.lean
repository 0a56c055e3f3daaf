theorem va_rowAny {G : va_G} {cl : List vw_C} {cy : Nat → ClassId} {n q : Nat} {f : Nat → Int32} {s : State} {H : Heap} (hK : va_K G cl (tysA cy) s) (hP : va_P G cl [(q, .inl (cy 0, n, .inl f))] H) (hc : va_Nw (.castable "[I" "java/lang/Object") s) : va_Any "java/lang/Object" s H q := by
  have h0 : H[q]? = some (vp_cell (cy 0) (n, .inl f)) := hP 0 _ rfl
  have h1 : s.vm.findClass "[I" = some (cy 0) := (hK.2 0 _ rfl).2
  obtain ⟨kE, hkE, -⟩ := Vm.findClass_spec h1
  obtain ⟨c0, t1, f1, f2, f3⟩ := Cond.castable_spec (va_Nw.use (A := #[]) rfl hc)
  cases h1.symm.trans f1
  refine ⟨_, h0, rfl, ⟨kE, hkE⟩, fun comp hcm => ?_⟩
  cases hcm.symm.trans f2
  exact f3
theorem va_P_all {G : va_G} {cl : List vw_C} {ws : va_W} {H : Heap} (h : ∀ x ∈ ws, va_at G cl x H) : va_P G cl ws H := fun _ q hk => h q (List.mem_of_getElem? hk)
theorem va_P_one {G : va_G} {cl : List vw_C} {ws : va_W} {H : Heap} (h : va_P G cl ws H) {x : Nat × va_E} (hx : x ∈ ws) : va_at G cl x H := by
  obtain ⟨k, hk⟩ := List.getElem?_of_mem hx
  exact h k x hk
theorem iwM_mem {L : List Nat} {a b : Nat} {ad : Nat → Nat} {cy : Nat → ClassId} {I : Nat → Nat → Int32} {D : Nat → Nat → UInt64} {k : Nat} (hk : k ∈ L) : (ad k, cellM ad cy a b k (I k) (D k)) ∈ iwM L a b ad cy I D := List.mem_map.mpr ⟨k, hk, rfl⟩
/-- the world behind new places -/
theorem iwM_grow {G : va_G} {L N : List Nat} {a b a' b' : Nat} {ad ad' : Nat → Nat} {cy : Nat → ClassId} {I I' : Nat → Nat → Int32} {D D' : Nat → Nat → UInt64} {H H1 : Heap} {X : Nat → Prop} (C : Nat → Bool)
    (hP : va_P G vwCl (iwM L a b ad cy I D) H) (hk : ∀ q : Nat, q < H.size → ¬ X q → H1[q]? = H[q]?)
    (h1 : ∀ k, k ∈ L → C k = false → ¬ X (ad k) ∧ ad' k = ad k ∧ cellM ad' cy a' b' k (I' k) (D' k) = cellM ad cy a b k (I k) (D k))
    (h2 : ∀ k, k ∈ L ++ N → (k ∈ N ∨ C k = true) → va_at G vwCl (ad' k, cellM ad' cy a' b' k (I' k) (D' k)) H1) : va_P G vwCl (iwM (L ++ N) a' b' ad' cy I' D') H1 := by
  refine va_P_all (fun x hx => ?_)
  obtain ⟨k, hkL, rfl⟩ := List.mem_map.mp hx
  by_cases hN : k ∈ N
  · exact h2 k hkL (Or.inl hN)
  · cases hC : C k with
    | true => exact h2 k hkL (Or.inr hC)
    | false =>
      have hL : k ∈ L := (List.mem_append.mp hkL).resolve_right hN
      obtain ⟨g1, g2, g3⟩ := h1 k hL hC
      show va_at G vwCl (ad' k, cellM ad' cy a' b' k (I' k) (D' k)) H1
      rw [g2, g3]
      have h0 := va_P_one hP (iwM_mem (a := a) (b := b) (ad := ad) (cy := cy) (I := I) (D := D) hL)
      exact h0.kept (hk _ h0.lt g1)
theorem iwM_lt {G : va_G} {L : List Nat} {a b : Nat} {ad : Nat → Nat} {cy : Nat → ClassId} {I : Nat → Nat → Int32} {D : Nat → Nat → UInt64} {H : Heap} (hP : va_P G vwCl (iwM L a b ad cy I D) H) {k : Nat} (hk : k ∈ L) : ad k < H.size := (va_P_one hP (iwM_mem (a := a) (b := b) (ad := ad) (cy := cy) (I := I) (D := D) hk)).lt
def adG (ad : Nat → Nat) (p z : Nat) : Nat → Nat := fun k => if k = p then z else ad k
theorem adG_at {ad : Nat → Nat} {p z : Nat} : adG ad p z p = z := if_pos rfl
theorem adG_ne {ad : Nat → Nat} {p z k : Nat} (h : k ≠ p) : adG ad p z k = ad k := if_neg h
/-- what an add leaves of a list's own ints -/
def addI (I : Nat → Nat → Int32) (li : Nat) : Nat → Nat → Int32 := upR I li (fun j => if j = 0 then I li 0 + 1 else if j = 1 then 1 else I li 2 + 1)
theorem addI_at {I : Nat → Nat → Int32} {li : Nat} : addI I li li = fun j => if j = 0 then I li 0 + 1 else if j = 1 then 1 else I li 2 + 1 := by
  unfold addI upR va_up
  rw [if_pos rfl]
theorem addI_ne {I : Nat → Nat → Int32} {li k : Nat} (h : k ≠ li) : addI I li k = I k := by
  unfold addI upR va_up
  rw [if_neg h]
theorem upR_at {I : Nat → Nat → Int32} {p : Nat} {f : Nat → Int32} : upR I p f p = f := by
  unfold upR va_up
  rw [if_pos rfl]
theorem upR_ne {I : Nat → Nat → Int32} {p k : Nat} {f : Nat → Int32} (h : k ≠ p) : upR I p f k = I k := by
  unfold upR va_up
  rw [if_neg h]
theorem mL_lt {a b k : Nat} (ha : a < 7) (hb : b < 6) (h : k ∈ mL a b) : k < 30 := by
  unfold mL at h
  simp only [List.mem_append, List.mem_map, List.mem_range] at h
  rcases h with h | h | h | ⟨i, hi, rfl⟩ | ⟨i, hi, rfl⟩ | ⟨i, hi, rfl⟩
  · have : ∀ z ∈ [0, 1, 2, 5, 6, 7, 8, 9, 10, 11, 12, 13], z < 30 := by decide
    exact this k h
  · split at h
    · cases h
    · rw [List.mem_singleton.mp h]; omega
  · split at h
    · cases h
    · rw [List.mem_singleton.mp h]; omega
  all_goals omega
theorem cellM_con1 {ad ad' : Nat → Nat} {cy : Nat → ClassId} {a b a' : Nat} (had : ∀ p, p ≠ 3 → (p < 14 ∨ 20 ≤ p) → ad' p = ad p) {k : Nat} (hk : k < 30) (h1 : k ≠ 1) (h3 : k ≠ 3) (f : Nat → Int32) (d : Nat → UInt64) : cellM ad' cy a' b k f d = cellM ad cy a b k f d := by
  match k, hk with
  | 0, _ => exact (by
      show (Sum.inr (8, [.int (f 0), .ref (ad' 1), .ref (ad' 2), .ref (ad' 5), .ref (ad' 13), .int (f 5), .int (f 6), .int (f 7), .int (f 8)]) : va_E) = Sum.inr (8, [.int (f 0), .ref (ad 1), .ref (ad 2), .ref (ad 5), .ref (ad 13), .int (f 5), .int (f 6), .int (f 7), .int (f 8)])
      rw [had 1 (by omega) (by omega), had 2 (by omega) (by omega), had 5 (by omega) (by omega), had 13 (by omega) (by omega)])
  | 1, _ => exact absurd rfl h1
  | 2, _ => exact (by
      show (Sum.inr (0, [.int (f 0), .ref (ad' (if f 1 = 0 then 41 else 4)), .int (f 2)]) : va_E) = Sum.inr (0, [.int (f 0), .ref (ad (if f 1 = 0 then 41 else 4)), .int (f 2)])
      by_cases h : f 1 = 0
      · rw [if_pos h, had 41 (by omega) (by omega)]
      · rw [if_neg h, had 4 (by omega) (by omega)])
  | 3, _ => exact absurd rfl h3
  | 4, _ => exact (by
      show (Sum.inl (cy 7, 10, .inr (.inr (.inr (.inr (fun j => if j < b then some (ad' (20 + j)) else none))))) : va_E) = Sum.inl (cy 7, 10, .inr (.inr (.inr (.inr (fun j => if j < b then some (ad (20 + j)) else none)))))
      rw [show (fun j => if j < b then some (ad' (20 + j)) else none) = (fun j => if j < b then some (ad (20 + j)) else none) from funext fun j => by
        by_cases h : j < b
        · rw [if_pos h, if_pos h, had _ (by omega) (by omega)]
        · rw [if_neg h, if_neg h]])
  | 5, _ => exact (by
      show (Sum.inr (6, [.int (f 0), .ref (ad' 6), .ref (ad' 7), .ref (ad' 8), .ref (ad' 9), .ref (ad' 10), .int (f 6), .ref (ad' 11), .ref (ad' 12), .ref (ad' 0)]) : va_E) = Sum.inr (6, [.int (f 0), .ref (ad 6), .ref (ad 7), .ref (ad 8), .ref (ad 9), .ref (ad 10), .int (f 6), .ref (ad 11), .ref (ad 12), .ref (ad 0)])
      rw [had 6 (by omega) (by omega), had 7 (by omega) (by omega), had 8 (by omega) (by omega), had 9 (by omega) (by omega), had 10 (by omega) (by omega), had 11 (by omega) (by omega), had 12 (by omega) (by omega), had 0 (by omega) (by omega)])
  | 6, _ => rfl
  | 7, _ => rfl
  | 8, _ => rfl
  | 9, _ => rfl
  | 10, _ => rfl
  | 11, _ => rfl
  | 12, _ => rfl
  | 13, _ => rfl
  | 14, _ => rfl
  | 15, _ => rfl
  | 16, _ => rfl
  | 17, _ => rfl
  | 18, _ => rfl
  | 19, _ => rfl
  | 20, _ => exact (by
      show (Sum.inr (7, [.ref (ad' 25), .int (f 1), .int (f 2), .int (f 3), .ref (ad' 0)]) : va_E) = Sum.inr (7, [.ref (ad 25), .int (f 1), .int (f 2), .int (f 3), .ref (ad 0)])
      rw [had 25 (by omega) (by omega), had 0 (by omega) (by omega)])
  | 21, _ => exact (by
      show (Sum.inr (7, [.ref (ad' 26), .int (f 1), .int (f 2), .int (f 3), .ref (ad' 0)]) : va_E) = Sum.inr (7, [.ref (ad 26), .int (f 1), .int (f 2), .int (f 3), .ref (ad 0)])
      rw [had 26 (by omega) (by omega), had 0 (by omega) (by omega)])
  | 22, _ => exact (by
      show (Sum.inr (7, [.ref (ad' 27), .int (f 1), .int (f 2), .int (f 3), .ref (ad' 0)]) : va_E) = Sum.inr (7, [.ref (ad 27), .int (f 1), .int (f 2), .int (f 3), .ref (ad 0)])
      rw [had 27 (by omega) (by omega), had 0 (by omega) (by omega)])
  | 23, _ => exact (by
      show (Sum.inr (7, [.ref (ad' 28), .int (f 1), .int (f 2), .int (f 3), .ref (ad' 0)]) : va_E) = Sum.inr (7, [.ref (ad 28), .int (f 1), .int (f 2), .int (f 3), .ref (ad 0)])
      rw [had 28 (by omega) (by omega), had 0 (by omega) (by omega)])
  | 24, _ => exact (by
      show (Sum.inr (7, [.ref (ad' 29), .int (f 1), .int (f 2), .int (f 3), .ref (ad' 0)]) : va_E) = Sum.inr (7, [.ref (ad 29), .int (f 1), .int (f 2), .int (f 3), .ref (ad 0)])
      rw [had 29 (by omega) (by omega), had 0 (by omega) (by omega)])
  | 25, _ => rfl
  | 26, _ => rfl
  | 27, _ => rfl
  | 28, _ => rfl
  | 29, _ => rfl
  | k + 30, hk => exact absurd hk (by omega)
theorem cellM_con2 {ad ad' : Nat → Nat} {cy : Nat → ClassId} {a b b' : Nat} (had : ∀ p, p ≠ 4 → (p < 100 ∨ 100 ≤ p) → ad' p = ad p) {k : Nat} (hk : k < 30) (h1 : k ≠ 2) (h3 : k ≠ 4) (f : Nat → Int32) (d : Nat → UInt64) : cellM ad' cy a b' k f d = cellM ad cy a b k f d := by
  match k, hk with
  | 0, _ => exact (by
      show (Sum.inr (8, [.int (f 0), .ref (ad' 1), .ref (ad' 2), .ref (ad' 5), .ref (ad' 13), .int (f 5), .int (f 6), .int (f 7), .int (f 8)]) : va_E) = Sum.inr (8, [.int (f 0), .ref (ad 1), .ref (ad 2), .ref (ad 5), .ref (ad 13), .int (f 5), .int (f 6), .int (f 7), .int (f 8)])
      rw [had 1 (by omega) (by omega), had 2 (by omega) (by omega), had 5 (by omega) (by omega), had 13 (by omega) (by omega)])
  | 1, _ => exact (by
      show (Sum.inr (0, [.int (f 0), .ref (ad' (if f 1 = 0 then 41 else 3)), .int (f 2)]) : va_E) = Sum.inr (0, [.int (f 0), .ref (ad (if f 1 = 0 then 41 else 3)), .int (f 2)])
      by_cases h : f 1 = 0
      · rw [if_pos h, had 41 (by omega) (by omega)]
      · rw [if_neg h, had 3 (by omega) (by omega)])
  | 2, _ => exact absurd rfl h1
  | 3, _ => exact (by
      show (Sum.inl (cy 7, 10, .inr (.inr (.inr (.inr (fun j => if j < a then some (ad' (14 + j)) else none))))) : va_E) = Sum.inl (cy 7, 10, .inr (.inr (.inr (.inr (fun j => if j < a then some (ad (14 + j)) else none)))))
      rw [show (fun j => if j < a then some (ad' (14 + j)) else none) = (fun j => if j < a then some (ad (14 + j)) else none) from funext fun j => by
        by_cases h : j < a
        · rw [if_pos h, if_pos h, had _ (by omega) (by omega)]
        · rw [if_neg h, if_neg h]])
  | 4, _ => exact absurd rfl h3
  | 5, _ => exact (by
      show (Sum.inr (6, [.int (f 0), .ref (ad' 6), .ref (ad' 7), .ref (ad' 8), .ref (ad' 9), .ref (ad' 10), .int (f 6), .ref (ad' 11), .ref (ad' 12), .ref (ad' 0)]) : va_E) = Sum.inr (6, [.int (f 0), .ref (ad 6), .ref (ad 7), .ref (ad 8), .ref (ad 9), .ref (ad 10), .int (f 6), .ref (ad 11), .ref (ad 12), .ref (ad 0)])
      rw [had 6 (by omega) (by omega), had 7 (by omega) (by omega), had 8 (by omega) (by omega), had 9 (by omega) (by omega), had 10 (by omega) (by omega), had 11 (by omega) (by omega), had 12 (by omega) (by omega), had 0 (by omega) (by omega)])
  | 6, _ => rfl
  | 7, _ => rfl
  | 8, _ => rfl
  | 9, _ => rfl
  | 10, _ => rfl
  | 11, _ => rfl
  | 12, _ => rfl
  | 13, _ => rfl
  | 14, _ => rfl
  | 15, _ => rfl
  | 16, _ => rfl
  | 17, _ => rfl
  | 18, _ => rfl
  | 19, _ => rfl
  | 20, _ => exact (by
      show (Sum.inr (7, [.ref (ad' 25), .int (f 1), .int (f 2), .int (f 3), .ref (ad' 0)]) : va_E) = Sum.inr (7, [.ref (ad 25), .int (f 1), .int (f 2), .int (f 3), .ref (ad 0)])
      rw [had 25 (by omega) (by omega), had 0 (by omega) (by omega)])
  | 21, _ => exact (by
      show (Sum.inr (7, [.ref (ad' 26), .int (f 1), .int (f 2), .int (f 3), .ref (ad' 0)]) : va_E) = Sum.inr (7, [.ref (ad 26), .int (f 1), .int (f 2), .int (f 3), .ref (ad 0)])
      rw [had 26 (by omega) (by omega), had 0 (by omega) (by omega)])
  | 22, _ => exact (by
      show (Sum.inr (7, [.ref (ad' 27), .int (f 1), .int (f 2), .int (f 3), .ref (ad' 0)]) : va_E) = Sum.inr (7, [.ref (ad 27), .int (f 1), .int (f 2), .int (f 3), .ref (ad 0)])
      rw [had 27 (by omega) (by omega), had 0 (by omega) (by omega)])
  | 23, _ => exact (by
      show (Sum.inr (7, [.ref (ad' 28), .int (f 1), .int (f 2), .int (f 3), .ref (ad' 0)]) : va_E) = Sum.inr (7, [.ref (ad 28), .int (f 1), .int (f 2), .int (f 3), .ref (ad 0)])
      rw [had 28 (by omega) (by omega), had 0 (by omega) (by omega)])
  | 24, _ => exact (by
      show (Sum.inr (7, [.ref (ad' 29), .int (f 1), .int (f 2), .int (f 3), .ref (ad' 0)]) : va_E) = Sum.inr (7, [.ref (ad 29), .int (f 1), .int (f 2), .int (f 3), .ref (ad 0)])
      rw [had 29 (by omega) (by omega), had 0 (by omega) (by omega)])
  | 25, _ => rfl
  | 26, _ => rfl
  | 27, _ => rfl
  | 28, _ => rfl
  | 29, _ => rfl
  | k + 30, hk => exact absurd hk (by omega)
