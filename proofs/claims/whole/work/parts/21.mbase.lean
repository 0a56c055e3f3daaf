/-- the cell of the reference's place k, by its ints f and its doubles d; a rows of ingredients, b mixes -/
def cellM (ad : Nat → Nat) (cy : Nat → ClassId) (a b : Nat) (k : Nat) (f : Nat → Int32) (d : Nat → UInt64) : va_E :=
  if k = 0 then .inr (8, [.int (f 0), .ref (ad 1), .ref (ad 2), .ref (ad 5), .ref (ad 13), .int (f 5), .int (f 6), .int (f 7), .int (f 8)]) else if k = 1 then .inr (0, [.int (f 0), .ref (ad (if f 1 = 0 then 41 else 3)), .int (f 2)]) else if k = 2 then .inr (0, [.int (f 0), .ref (ad (if f 1 = 0 then 41 else 4)), .int (f 2)]) else if k = 3 then .inl (cy 7, 10, .inr (.inr (.inr (.inr (fun j => if j < a then some (ad (14 + j)) else none))))) else if k = 4 then .inl (cy 7, 10, .inr (.inr (.inr (.inr (fun j => if j < b then some (ad (20 + j)) else none))))) else if k = 13 then .inl (cy 0, 2, .inl f) else if k = 5 ∨ k = 30 then .inr (6, [.int (f 0), .ref (ad (k + 1)), .ref (ad (k + 2)), .ref (ad (k + 3)), .ref (ad (k + 4)), .ref (ad (k + 5)), .int (f 6), .ref (ad (k + 6)), .ref (ad (k + 7)), .ref (ad 0)]) else if k = 6 ∨ k = 31 then .inl (cy 0, 12, .inl f) else if k = 7 ∨ k = 32 then .inl (cy 0, 12, .inl f) else if k = 8 ∨ k = 33 then .inl (cy 5, 12, .inl f) else if k = 9 ∨ k = 34 then .inl (cy 0, 12, .inl f) else if k = 10 ∨ k = 35 then .inl (cy 6, 12, .inr (.inr (.inr (.inl d)))) else if k = 11 ∨ k = 36 then .inl (cy 0, 3, .inl f) else if k = 12 ∨ k = 37 then .inl (cy 6, 3, .inr (.inr (.inr (.inl d)))) else if k < 20 then .inl (cy 0, 5, .inl f) else if k < 25 then .inr (7, [.ref (ad (k + 5)), .int (f 1), .int (f 2), .int (f 3), .ref (ad 0)]) else if k < 30 then .inl (cy 0, 6, .inl f) else if k = 38 then .inl (cy 0, 12, .inl f) else if k = 39 then .inl (cy 0, 9, .inl f) else .inl (cy 0, 6, .inl f)
theorem cellM_0 (ad : Nat → Nat) (cy : Nat → ClassId) (a b : Nat) (f : Nat → Int32) (d : Nat → UInt64) : cellM ad cy a b 0 f d = .inr (8, [.int (f 0), .ref (ad 1), .ref (ad 2), .ref (ad 5), .ref (ad 13), .int (f 5), .int (f 6), .int (f 7), .int (f 8)]) := rfl
theorem cellM_1 (ad : Nat → Nat) (cy : Nat → ClassId) (a b : Nat) (f : Nat → Int32) (d : Nat → UInt64) : cellM ad cy a b 1 f d = .inr (0, [.int (f 0), .ref (ad (if f 1 = 0 then 41 else 3)), .int (f 2)]) := rfl
theorem cellM_2 (ad : Nat → Nat) (cy : Nat → ClassId) (a b : Nat) (f : Nat → Int32) (d : Nat → UInt64) : cellM ad cy a b 2 f d = .inr (0, [.int (f 0), .ref (ad (if f 1 = 0 then 41 else 4)), .int (f 2)]) := rfl
theorem cellM_3 (ad : Nat → Nat) (cy : Nat → ClassId) (a b : Nat) (f : Nat → Int32) (d : Nat → UInt64) : cellM ad cy a b 3 f d = .inl (cy 7, 10, .inr (.inr (.inr (.inr (fun j => if j < a then some (ad (14 + j)) else none))))) := rfl
theorem cellM_4 (ad : Nat → Nat) (cy : Nat → ClassId) (a b : Nat) (f : Nat → Int32) (d : Nat → UInt64) : cellM ad cy a b 4 f d = .inl (cy 7, 10, .inr (.inr (.inr (.inr (fun j => if j < b then some (ad (20 + j)) else none))))) := rfl
theorem cellM_13 (ad : Nat → Nat) (cy : Nat → ClassId) (a b : Nat) (f : Nat → Int32) (d : Nat → UInt64) : cellM ad cy a b 13 f d = .inl (cy 0, 2, .inl f) := rfl
theorem cellM_Cold (ad : Nat → Nat) (cy : Nat → ClassId) (a b : Nat) {kb : Nat} (h : kb = 5 ∨ kb = 30) (f : Nat → Int32) (d : Nat → UInt64) : cellM ad cy a b kb f d = .inr (6, [.int (f 0), .ref (ad (kb + 1)), .ref (ad (kb + 2)), .ref (ad (kb + 3)), .ref (ad (kb + 4)), .ref (ad (kb + 5)), .int (f 6), .ref (ad (kb + 6)), .ref (ad (kb + 7)), .ref (ad 0)]) := by
  rcases h with rfl | rfl <;> rfl
theorem cellM_Of (ad : Nat → Nat) (cy : Nat → ClassId) (a b : Nat) {kb : Nat} (h : kb = 5 ∨ kb = 30) (f : Nat → Int32) (d : Nat → UInt64) : cellM ad cy a b (kb + 1) f d = .inl (cy 0, 12, .inl f) := by
  rcases h with rfl | rfl <;> rfl
theorem cellM_Litres (ad : Nat → Nat) (cy : Nat → ClassId) (a b : Nat) {kb : Nat} (h : kb = 5 ∨ kb = 30) (f : Nat → Int32) (d : Nat → UInt64) : cellM ad cy a b (kb + 2) f d = .inl (cy 0, 12, .inl f) := by
  rcases h with rfl | rfl <;> rfl
theorem cellM_Hard (ad : Nat → Nat) (cy : Nat → ClassId) (a b : Nat) {kb : Nat} (h : kb = 5 ∨ kb = 30) (f : Nat → Int32) (d : Nat → UInt64) : cellM ad cy a b (kb + 3) f d = .inl (cy 5, 12, .inl f) := by
  rcases h with rfl | rfl <;> rfl
theorem cellM_Where (ad : Nat → Nat) (cy : Nat → ClassId) (a b : Nat) {kb : Nat} (h : kb = 5 ∨ kb = 30) (f : Nat → Int32) (d : Nat → UInt64) : cellM ad cy a b (kb + 4) f d = .inl (cy 0, 12, .inl f) := by
  rcases h with rfl | rfl <;> rfl
theorem cellM_Crystal (ad : Nat → Nat) (cy : Nat → ClassId) (a b : Nat) {kb : Nat} (h : kb = 5 ∨ kb = 30) (f : Nat → Int32) (d : Nat → UInt64) : cellM ad cy a b (kb + 5) f d = .inl (cy 6, 12, .inr (.inr (.inr (.inl d)))) := by
  rcases h with rfl | rfl <;> rfl
theorem cellM_Set (ad : Nat → Nat) (cy : Nat → ClassId) (a b : Nat) {kb : Nat} (h : kb = 5 ∨ kb = 30) (f : Nat → Int32) (d : Nat → UInt64) : cellM ad cy a b (kb + 6) f d = .inl (cy 0, 3, .inl f) := by
  rcases h with rfl | rfl <;> rfl
theorem cellM_Temp (ad : Nat → Nat) (cy : Nat → ClassId) (a b : Nat) {kb : Nat} (h : kb = 5 ∨ kb = 30) (f : Nat → Int32) (d : Nat → UInt64) : cellM ad cy a b (kb + 7) f d = .inl (cy 6, 3, .inr (.inr (.inr (.inl d)))) := by
  rcases h with rfl | rfl <;> rfl
theorem cellM_Row (ad : Nat → Nat) (cy : Nat → ClassId) (a b : Nat) {i : Nat} (h : i < 6) (f : Nat → Int32) (d : Nat → UInt64) : cellM ad cy a b (14 + i) f d = .inl (cy 0, 5, .inl f) := by
  match i, h with
  | 0, _ => rfl
  | 1, _ => rfl
  | 2, _ => rfl
  | 3, _ => rfl
  | 4, _ => rfl
  | 5, _ => rfl
theorem cellM_Mixx (ad : Nat → Nat) (cy : Nat → ClassId) (a b : Nat) {i : Nat} (h : i < 5) (f : Nat → Int32) (d : Nat → UInt64) : cellM ad cy a b (20 + i) f d = .inr (7, [.ref (ad (25 + i)), .int (f 1), .int (f 2), .int (f 3), .ref (ad 0)]) := by
  match i, h with
  | 0, _ => rfl
  | 1, _ => rfl
  | 2, _ => rfl
  | 3, _ => rfl
  | 4, _ => rfl
theorem cellM_Kilos (ad : Nat → Nat) (cy : Nat → ClassId) (a b : Nat) {i : Nat} (h : i < 5) (f : Nat → Int32) (d : Nat → UInt64) : cellM ad cy a b (25 + i) f d = .inl (cy 0, 6, .inl f) := by
  match i, h with
  | 0, _ => rfl
  | 1, _ => rfl
  | 2, _ => rfl
  | 3, _ => rfl
  | 4, _ => rfl
theorem cellM_38 (ad : Nat → Nat) (cy : Nat → ClassId) (a b : Nat) (f : Nat → Int32) (d : Nat → UInt64) : cellM ad cy a b 38 f d = .inl (cy 0, 12, .inl f) := rfl
theorem cellM_39 (ad : Nat → Nat) (cy : Nat → ClassId) (a b : Nat) (f : Nat → Int32) (d : Nat → UInt64) : cellM ad cy a b 39 f d = .inl (cy 0, 9, .inl f) := rfl
theorem cellM_40 (ad : Nat → Nat) (cy : Nat → ClassId) (a b : Nat) (f : Nat → Int32) (d : Nat → UInt64) : cellM ad cy a b 40 f d = .inl (cy 0, 6, .inl f) := rfl
def iwM (L : List Nat) (a b : Nat) (ad : Nat → Nat) (cy : Nat → ClassId) (I : Nat → Nat → Int32) (D : Nat → Nat → UInt64) : va_W := iw L ad (fun k => cellM ad cy a b k (I k) (D k))
/-- the places that stand when there are a ingredients and b mixes -/
def mL (a b : Nat) : List Nat := [0, 1, 2, 5, 6, 7, 8, 9, 10, 11, 12, 13] ++ ((if a = 0 then [] else [3]) ++ ((if b = 0 then [] else [4]) ++ ((List.range a).map (fun i => 14 + i) ++ ((List.range b).map (fun i => 20 + i) ++ (List.range b).map (fun i => 25 + i)))))
def mOK (L : List Nat) (a b : Nat) (ad : Nat → Nat) : Prop := (L.Nodup ∧ (∀ k ∈ mL a b, k ∈ L) ∧ ∀ i j, i ∈ L → j ∈ L → ad i = ad j → i = j) ∧ a < 7 ∧ b < 6
theorem mL_c {a b k : Nat} (h : k ∈ [0, 1, 2, 5, 6, 7, 8, 9, 10, 11, 12, 13]) : k ∈ mL a b := List.mem_append_left _ h
theorem mL_3 {a b i : Nat} (h : i < a) : 3 ∈ mL a b := by
  refine List.mem_append_right _ (List.mem_append_left _ ?_)
  rw [if_neg (by omega)]
  exact List.mem_singleton.mpr rfl
theorem mL_4 {a b i : Nat} (h : i < b) : 4 ∈ mL a b := by
  refine List.mem_append_right _ (List.mem_append_right _ (List.mem_append_left _ ?_))
  rw [if_neg (by omega)]
  exact List.mem_singleton.mpr rfl
theorem mL_Row {a b i : Nat} (h : i < a) : 14 + i ∈ mL a b := List.mem_append_right _ (List.mem_append_right _ (List.mem_append_right _ (List.mem_append_left _ (List.mem_map.mpr ⟨i, List.mem_range.mpr h, rfl⟩))))
theorem mL_Mixx {a b i : Nat} (h : i < b) : 20 + i ∈ mL a b := List.mem_append_right _ (List.mem_append_right _ (List.mem_append_right _ (List.mem_append_right _ (List.mem_append_left _ (List.mem_map.mpr ⟨i, List.mem_range.mpr h, rfl⟩)))))
theorem mL_Kilos {a b i : Nat} (h : i < b) : 25 + i ∈ mL a b := List.mem_append_right _ (List.mem_append_right _ (List.mem_append_right _ (List.mem_append_right _ (List.mem_append_right _ (List.mem_map.mpr ⟨i, List.mem_range.mpr h, rfl⟩)))))
/-- a cold that stands: the house's own, or a copy -/
def cOK (L : List Nat) (kb : Nat) : Prop := (kb = 5 ∨ kb = 30) ∧ ∀ j, j < 8 → kb + j ∈ L
theorem cOK_5 {L : List Nat} {a b : Nat} {ad : Nat → Nat} (h : mOK L a b ad) : cOK L 5 := by
  refine ⟨Or.inl rfl, fun j hj => h.1.2.1 _ (mL_c ?_)⟩
  match j, hj with
  | 0, _ => decide
  | 1, _ => decide
  | 2, _ => decide
  | 3, _ => decide
  | 4, _ => decide
  | 5, _ => decide
  | 6, _ => decide
  | 7, _ => decide
section HEM
variable {L : List Nat} {a b : Nat} {ad : Nat → Nat} {cy : Nat → ClassId} {I : Nat → Nat → Int32} {D : Nat → Nat → UInt64}
theorem heM_at {k : Nat} (hk : k ∈ L) {e : va_E} (he : cellM ad cy a b k (I k) (D k) = e) : ∃ q : Nat, L[q]? = some k ∧ (iwM L a b ad cy I D)[q]? = some (ad k, e) := by
  obtain ⟨q, hq⟩ := List.getElem?_of_mem hk
  subst he
  exact ⟨q, hq, iw_get (c := fun k => cellM ad cy a b k (I k) (D k)) hq⟩
theorem heM_0 (hM : mOK L a b ad) : ∃ q : Nat, L[q]? = some 0 ∧ (iwM L a b ad cy I D)[q]? = some (ad 0, .inr (8, [.int (I 0 0), .ref (ad 1), .ref (ad 2), .ref (ad 5), .ref (ad 13), .int (I 0 5), .int (I 0 6), .int (I 0 7), .int (I 0 8)])) := heM_at (hM.1.2.1 _ (mL_c (by decide))) (cellM_0 ad cy a b _ _)
theorem heM_1 (hM : mOK L a b ad) : ∃ q : Nat, L[q]? = some 1 ∧ (iwM L a b ad cy I D)[q]? = some (ad 1, .inr (0, [.int (I 1 0), .ref (ad (if I 1 1 = 0 then 41 else 3)), .int (I 1 2)])) := heM_at (hM.1.2.1 _ (mL_c (by decide))) (cellM_1 ad cy a b _ _)
theorem heM_2 (hM : mOK L a b ad) : ∃ q : Nat, L[q]? = some 2 ∧ (iwM L a b ad cy I D)[q]? = some (ad 2, .inr (0, [.int (I 2 0), .ref (ad (if I 2 1 = 0 then 41 else 4)), .int (I 2 2)])) := heM_at (hM.1.2.1 _ (mL_c (by decide))) (cellM_2 ad cy a b _ _)
theorem heM_13 (hM : mOK L a b ad) : ∃ q : Nat, L[q]? = some 13 ∧ (iwM L a b ad cy I D)[q]? = some (ad 13, .inl (cy 0, 2, .inl (I 13))) := heM_at (hM.1.2.1 _ (mL_c (by decide))) (cellM_13 ad cy a b _ _)
theorem heM_3 (hM : mOK L a b ad) {i : Nat} (h : i < a) : ∃ q : Nat, L[q]? = some 3 ∧ (iwM L a b ad cy I D)[q]? = some (ad 3, .inl (cy 7, 10, .inr (.inr (.inr (.inr (fun j => if j < a then some (ad (14 + j)) else none)))))) := heM_at (hM.1.2.1 _ (mL_3 h)) (cellM_3 ad cy a b _ _)
theorem heM_4 (hM : mOK L a b ad) {i : Nat} (h : i < b) : ∃ q : Nat, L[q]? = some 4 ∧ (iwM L a b ad cy I D)[q]? = some (ad 4, .inl (cy 7, 10, .inr (.inr (.inr (.inr (fun j => if j < b then some (ad (20 + j)) else none)))))) := heM_at (hM.1.2.1 _ (mL_4 h)) (cellM_4 ad cy a b _ _)
theorem heM_38 (h : 38 ∈ L) : ∃ q : Nat, L[q]? = some 38 ∧ (iwM L a b ad cy I D)[q]? = some (ad 38, .inl (cy 0, 12, .inl (I 38))) := heM_at h (cellM_38 ad cy a b _ _)
theorem heM_39 (h : 39 ∈ L) : ∃ q : Nat, L[q]? = some 39 ∧ (iwM L a b ad cy I D)[q]? = some (ad 39, .inl (cy 0, 9, .inl (I 39))) := heM_at h (cellM_39 ad cy a b _ _)
theorem heM_40 (h : 40 ∈ L) : ∃ q : Nat, L[q]? = some 40 ∧ (iwM L a b ad cy I D)[q]? = some (ad 40, .inl (cy 0, 6, .inl (I 40))) := heM_at h (cellM_40 ad cy a b _ _)
theorem heM_Cold {kb : Nat} (h : cOK L kb) : ∃ q : Nat, L[q]? = some kb ∧ (iwM L a b ad cy I D)[q]? = some (ad kb, .inr (6, [.int (I kb 0), .ref (ad (kb + 1)), .ref (ad (kb + 2)), .ref (ad (kb + 3)), .ref (ad (kb + 4)), .ref (ad (kb + 5)), .int (I kb 6), .ref (ad (kb + 6)), .ref (ad (kb + 7)), .ref (ad 0)])) := heM_at (h.2 0 (by decide)) (cellM_Cold ad cy a b h.1 _ _)
theorem heM_Of {kb : Nat} (h : cOK L kb) : ∃ q : Nat, L[q]? = some (kb + 1) ∧ (iwM L a b ad cy I D)[q]? = some (ad (kb + 1), .inl (cy 0, 12, .inl (I (kb + 1)))) := heM_at (h.2 1 (by decide)) (cellM_Of ad cy a b h.1 _ _)
theorem heM_Litres {kb : Nat} (h : cOK L kb) : ∃ q : Nat, L[q]? = some (kb + 2) ∧ (iwM L a b ad cy I D)[q]? = some (ad (kb + 2), .inl (cy 0, 12, .inl (I (kb + 2)))) := heM_at (h.2 2 (by decide)) (cellM_Litres ad cy a b h.1 _ _)
theorem heM_Hard {kb : Nat} (h : cOK L kb) : ∃ q : Nat, L[q]? = some (kb + 3) ∧ (iwM L a b ad cy I D)[q]? = some (ad (kb + 3), .inl (cy 5, 12, .inl (I (kb + 3)))) := heM_at (h.2 3 (by decide)) (cellM_Hard ad cy a b h.1 _ _)
theorem heM_Where {kb : Nat} (h : cOK L kb) : ∃ q : Nat, L[q]? = some (kb + 4) ∧ (iwM L a b ad cy I D)[q]? = some (ad (kb + 4), .inl (cy 0, 12, .inl (I (kb + 4)))) := heM_at (h.2 4 (by decide)) (cellM_Where ad cy a b h.1 _ _)
theorem heM_Crystal {kb : Nat} (h : cOK L kb) : ∃ q : Nat, L[q]? = some (kb + 5) ∧ (iwM L a b ad cy I D)[q]? = some (ad (kb + 5), .inl (cy 6, 12, .inr (.inr (.inr (.inl (D (kb + 5))))))) := heM_at (h.2 5 (by decide)) (cellM_Crystal ad cy a b h.1 _ _)
theorem heM_Set {kb : Nat} (h : cOK L kb) : ∃ q : Nat, L[q]? = some (kb + 6) ∧ (iwM L a b ad cy I D)[q]? = some (ad (kb + 6), .inl (cy 0, 3, .inl (I (kb + 6)))) := heM_at (h.2 6 (by decide)) (cellM_Set ad cy a b h.1 _ _)
theorem heM_Temp {kb : Nat} (h : cOK L kb) : ∃ q : Nat, L[q]? = some (kb + 7) ∧ (iwM L a b ad cy I D)[q]? = some (ad (kb + 7), .inl (cy 6, 3, .inr (.inr (.inr (.inl (D (kb + 7))))))) := heM_at (h.2 7 (by decide)) (cellM_Temp ad cy a b h.1 _ _)
theorem heM_Row (hM : mOK L a b ad) {i : Nat} (h : i < a) : ∃ q : Nat, L[q]? = some (14 + i) ∧ (iwM L a b ad cy I D)[q]? = some (ad (14 + i), .inl (cy 0, 5, .inl (I (14 + i)))) := heM_at (hM.1.2.1 _ (mL_Row h)) (cellM_Row ad cy a b (by have := hM.2; omega) _ _)
theorem heM_Mixx (hM : mOK L a b ad) {i : Nat} (h : i < b) : ∃ q : Nat, L[q]? = some (20 + i) ∧ (iwM L a b ad cy I D)[q]? = some (ad (20 + i), .inr (7, [.ref (ad (25 + i)), .int (I (20 + i) 1), .int (I (20 + i) 2), .int (I (20 + i) 3), .ref (ad 0)])) := heM_at (hM.1.2.1 _ (mL_Mixx h)) (cellM_Mixx ad cy a b (by have := hM.2; omega) _ _)
theorem heM_Kilos (hM : mOK L a b ad) {i : Nat} (h : i < b) : ∃ q : Nat, L[q]? = some (25 + i) ∧ (iwM L a b ad cy I D)[q]? = some (ad (25 + i), .inl (cy 0, 6, .inl (I (25 + i)))) := heM_at (hM.1.2.1 _ (mL_Kilos h)) (cellM_Kilos ad cy a b (by have := hM.2; omega) _ _)
theorem hqI {G : va_G} {H : Heap} {q k n : Nat} {v : Int32} {e : va_E} (hM : mOK L a b ad) (hq : L[q]? = some k) (he : cellM ad cy a b k (va_up (I k) n v) (D k) = e) (hP : va_P G vwCl ((iwM L a b ad cy I D).set q (ad k, e)) H) : va_P G vwCl (iwM L a b ad cy (up2 I k n v) D) H := by
  have h := iw_set (L := L) (ad := ad) (c := fun k => cellM ad cy a b k (I k) (D k)) (c' := fun j => cellM ad cy a b j (up2 I k n v j) (D j)) (q := q) (k := k) (e := e) hM.1.1 hq (by rw [up2_self]; exact he) (fun j _ hj => by rw [up2_ne I n v hj])
  unfold iwM at hP ⊢
  rw [h] at hP
  exact hP
theorem hqD {G : va_G} {H : Heap} {q k n : Nat} {v : UInt64} {e : va_E} (hM : mOK L a b ad) (hq : L[q]? = some k) (he : cellM ad cy a b k (I k) (va_up (D k) n v) = e) (hP : va_P G vwCl ((iwM L a b ad cy I D).set q (ad k, e)) H) : va_P G vwCl (iwM L a b ad cy I (up2 D k n v)) H := by
  have h := iw_set (L := L) (ad := ad) (c := fun k => cellM ad cy a b k (I k) (D k)) (c' := fun j => cellM ad cy a b j (I j) (up2 D k n v j)) (q := q) (k := k) (e := e) hM.1.1 hq (by rw [up2_self]; exact he) (fun j _ hj => by rw [up2_ne D n v hj])
  unfold iwM at hP ⊢
  rw [h] at hP
  exact hP
theorem iwM_D (hM : mOK L a b ad) {A : Nat → Prop} (hA : ∀ k, k ∈ L → A (ad k)) (I : Nat → Nat → Int32) (D : Nat → Nat → UInt64) : va_D A (iwM L a b ad cy I D) := iw_D hM.1.1 hM.1.2.2 hA
end HEM
/-- the interface's methods, and the links between nest mates -/
def ifS (U : State) : Prop := va_Fw RJx4a65c ⟨"java/util/List", "size", "()I"⟩ yJx4a65c_size_8abf5 U ∧ va_Fw RJx4a65c ⟨"java/util/List", "get", "(I)Ljava/lang/Object;"⟩ yJx4a65c_get_915e3 U ∧ va_Fw RJx4a65c ⟨"java/util/List", "add", "(Ljava/lang/Object;)Z"⟩ yJx4a65c_add_9ea2d U
theorem ifS.moved {u U : State} (hvm : u.vm.Alike U.vm) (h : ifS u) : ifS U := ⟨va_Fw.moved ⟨by decide, by decide⟩ hvm h.1, va_Fw.moved ⟨by decide, by decide⟩ hvm h.2.1, va_Fw.moved ⟨by decide, by decide⟩ hvm h.2.2⟩
def wM (dC : Nat → ClassId) (dI : Nat → Nat → Nat) (L : List Nat) (a b : Nat) (ad : Nat → Nat) (cy : Nat → ClassId) (I : Nat → Nat → Int32) (D : Nat → Nat → UInt64) (U : State) : Prop := va_P (dC, dI) vwCl (iwM L a b ad cy I D) U.heap ∧ va_K (dC, dI) vwCl (tysA cy) U ∧ nestS U ∧ ifS U
section HM
variable {dC : Nat → ClassId} {dI : Nat → Nat → Nat} {L : List Nat} {a b : Nat} {ad : Nat → Nat} {cy : Nat → ClassId} {I : Nat → Nat → Int32} {D : Nat → Nat → UInt64}
theorem wM.of {s U : State} {H : Heap} (hP : va_P (dC, dI) vwCl (iwM L a b ad cy I D) H) (hK : va_K (dC, dI) vwCl (tysA cy) s) (hN : nestS s ∧ ifS s) (hU : U.heap = H) (hW1 : s.WarmedH U.vm) : wM dC dI L a b ad cy I D U := ⟨by rw [hU]; exact hP, va_K.moved hW1.alike hK, hN.1.warm hW1, hN.2.moved hW1.alike⟩
theorem wM.blind {U : State} (x : Array Value) (g : JFrame) (mk : MethodId) (h : wM dC dI L a b ad cy I D U) : wM dC dI L a b ad cy I D (U.calling g mk x) := ⟨h.1, va_K.moved (u := U) (U := U.calling g mk x) (Vm.Alike.refl U.vm) h.2.1, nestS.same (u := U) (U := U.calling g mk x) rfl h.2.2.1, ifS.moved (u := U) (U := U.calling g mk x) (Vm.Alike.refl U.vm) h.2.2.2⟩
theorem wM.pre {s : State} {H : Heap} (As : List Value) (hP : va_P (dC, dI) vwCl (iwM L a b ad cy I D) H) (hK : va_K (dC, dI) vwCl (tysA cy) s) (hN : nestS s ∧ ifS s) : PreS s H (va_Pc As (fun U => U.heap.size = H.size ∧ wM dC dI L a b ad cy I D U)) As :=
  ⟨fun x U g mk q => by
    obtain ⟨q0, q1, q2⟩ := q
    exact ⟨q0, q1, q2.blind x g mk⟩, fun U hU hW1 => ⟨rfl, by rw [hU], wM.of hP hK hN hU hW1⟩⟩
theorem wM.recv {s : State} {H : Heap} {C : String} {T : u_T} {N ci q k : Nat} {fs : List Value} (hP : va_P (dC, dI) vwCl (iwM L a b ad cy I D) H) (hK : va_K (dC, dI) vwCl (tysA cy) s) (he : (iwM L a b ad cy I D)[q]? = some (ad k, .inr (ci, fs))) (hc : vwCl[ci]? = some (C, T, N)) : ∃ cellB : Cell, H[ad k]? = some cellB ∧ cellB.vm.isStatics = false ∧ s.vm.findClass C = some cellB.cls := va_recv hK hP (ci := ci) (q0 := q) hc he
end HM
def AM (L : List Nat) (ad : Nat → Nat) (sz : Nat) : Nat → Prop := fun q => (∃ k, k ∈ L ∧ ad k = q) ∨ sz ≤ q
section VWM
variable {p : Program} {l : Launch} {e : Env} {R : Room} {s : State} {m : MethodId} {args : Array Value} {below : List Frame} {meth : Method} {c : Code} {H : Heap} {locs : List Loc} {cells slots : Nat} {Q : State → Prop}
variable {cc : ByteArray} {pc : Nat} {ls : Array Slot} {rest : List Value} {D : va_G} {cl : List vw_C} {x : Nat} {tys : List (ClassId × FieldType)} {ws : va_W}
theorem wr_aaldM (bs : Nat) {ad : Nat → Nat} {a : Nat} (hexec : p.tables.exec = Jvm.exec) (hb : c.code = cc) (hK : va_K D cl tys s) (hP : va_P D cl ws H) (q0 t0 : Nat) {cA : ClassId} {C : String} {n : Nat} (ha : ws[q0]? = some (x, .inl (cA, n, .inr (.inr (.inr (.inr (fun j => if j < a then some (ad (bs + j)) else none))))))) (ht : tys[t0]? = some (cA, .object C)) {i : Int32} (hin : vp_in i n) (hi : i.toNatClampNeg < a) (hdg : decode cc pc = .ok (.aaload, 1))
    (kk : W p l e R s m args below meth c H locs cells slots Q (F0 m (pc + 1) ls (.ref (ad (bs + i.toNatClampNeg)) :: rest))) : W p l e R s m args below meth c H locs cells slots Q (F0 m pc ls (.int i :: .ref x :: rest)) := by
  refine va_aldq hexec hb hK hP q0 t0 ha ht hin hdg ?_
  rw [if_pos hi]
  exact kk
theorem va_P0 {D : va_G} {cl : List vw_C} {H : Heap} : va_P D cl [] H := fun k q h => by simp at h
theorem va_D0 {A : Nat → Prop} : va_D A [] := ⟨fun i j p q h => by simp at h, fun k q h => by simp at h⟩
theorem va_arr0 (cA : ClassId) (n : Nat) : vp_cell cA (n, .inl (fun _ => 0)) = arrV cA n (fun _ => defaultValue .int) := by
  rw [vp_cell_i]
  rfl
theorem va_Pk {D : va_G} {cl : List vw_C} {ws : va_W} {H0 H : Heap} {A : Nat → Prop} {locs : List Loc} (h : va_P D cl ws H0) (hS : va_S A H0 H locs) (hA : ∀ q, A q → H0.size ≤ q) : va_P D cl ws H := h.kept (fun k q hq => hS.2.1 q.1 (h k q hq).lt (fun z => Nat.lt_irrefl _ (Nat.lt_of_lt_of_le (h k q hq).lt (hA _ z))))
/-- the class of an array of ints is one -/
theorem tysA_row {dd : va_G} {cl : List vw_C} {cy : Nat → ClassId} {s : State} (hK : va_K dd cl (tysA cy) s) (hl : s.vm.findClass "[I" = some (cy 0) → W p l e R s m args below meth c H locs cells slots Q (F0 m pc ls rest)) : W p l e R s m args below meth c H locs cells slots Q (F0 m pc ls rest) := hl (hK.2 0 _ rfl).2
end VWM
