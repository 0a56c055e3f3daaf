/-- the cell of the place k of a told house, by its ints f and its doubles g; a ingredients, b mixes, c batches, d stores, a row of r ints -/
def cellT (ad : Nat → Nat) (cy : Nat → ClassId) (bS a b c d r : Nat) (k : Nat) (f : Nat → Int32) (g : Nat → UInt64) : va_E :=
  if k = 40 then .inr (5, [.ref (ad 0), .ref bS, .int (f 2), .ref (ad 47), .ref (ad 48), .ref (ad 49), .ref (ad 42), .ref (ad 46), .ref (ad 43), .ref (ad 44), .ref (ad 45)]) else if k = 42 then .inl (cy 6, 12, .inr (.inr (.inr (.inl g)))) else if k = 43 then .inl (cy 6, 3, .inr (.inr (.inr (.inl g)))) else if k = 44 then .inl (cy 0, 2, .inl f) else if k = 45 then .inl (cy 0, 4, .inl f) else if k = 46 then .inl (cy 0, d, .inl f) else if k = 47 then .inl (cy 5, a, .inr (.inr (.inr (.inr (fun j => if j < a then some (ad (50 + j)) else none))))) else if k = 48 then .inl (cy 5, b, .inr (.inr (.inr (.inr (fun j => if j < b then some (ad (60 + j)) else none))))) else if k = 49 then .inl (cy 5, c, .inr (.inr (.inr (.inr (fun j => if j < c then some (ad (70 + j)) else none))))) else if k = 34 then .inl (cy 0, r, .inl f) else if k = 35 then .inl (cy 0, c, .inl f) else if k = 36 then .inl (cy 6, c, .inr (.inr (.inr (.inl g)))) else if k < 60 then .inl (cy 0, 5, .inl f) else if k < 70 then .inl (cy 0, 10, .inl f) else .inl (cy 0, 4, .inl f)
/-- .. the class's places among them -/
def cellA (ad : Nat → Nat) (cy : Nat → ClassId) (bS a b c d r : Nat) (I : Nat → Nat → Int32) (D : Nat → Nat → UInt64) (K : Nat → Nat → Int32) (M : Nat → Nat → UInt64) (k : Nat) : va_E := if k < 33 then cellH ad cy k (I k) (D k) else cellT ad cy bS a b c d r k (K k) (M k)
def iwT (L : List Nat) (ad : Nat → Nat) (cy : Nat → ClassId) (bS a b c d r : Nat) (I : Nat → Nat → Int32) (D : Nat → Nat → UInt64) (K : Nat → Nat → Int32) (M : Nat → Nat → UInt64) : va_W := iw L ad (cellA ad cy bS a b c d r I D K M)
/-- the places that stand -/
def tL (a b c : Nat) : List Nat := [40, 42, 43, 44, 45, 46, 47, 48, 49] ++ (List.range 33 ++ ((List.range a).map (fun i => 50 + i) ++ ((List.range b).map (fun i => 60 + i) ++ (List.range c).map (fun i => 70 + i))))
def tOK (L : List Nat) (a b c d bS : Nat) (ad : Nat → Nat) : Prop := (L.Nodup ∧ (∀ k ∈ tL a b c, k ∈ L) ∧ ∀ i j, i ∈ L → j ∈ L → ad i = ad j → i = j) ∧ (∀ k ∈ L, ad k ≠ bS) ∧ a ≤ 6 ∧ b ≤ 5 ∧ c ≤ 12 ∧ d ≤ 3
theorem tL_c {a b c k : Nat} (h : k ∈ [40, 42, 43, 44, 45, 46, 47, 48, 49]) : k ∈ tL a b c := List.mem_append_left _ h
theorem tL_H {a b c k : Nat} (h : k < 33) : k ∈ tL a b c := List.mem_append_right _ (List.mem_append_left _ (List.mem_range.mpr h))
theorem tL_Ing {a b c i : Nat} (h : i < a) : 50 + i ∈ tL a b c := List.mem_append_right _ (List.mem_append_right _ (List.mem_append_left _ (List.mem_map.mpr ⟨i, List.mem_range.mpr h, rfl⟩)))
theorem tL_Mixr {a b c i : Nat} (h : i < b) : 60 + i ∈ tL a b c := List.mem_append_right _ (List.mem_append_right _ (List.mem_append_right _ (List.mem_append_left _ (List.mem_map.mpr ⟨i, List.mem_range.mpr h, rfl⟩))))
theorem tL_Bat {a b c i : Nat} (h : i < c) : 70 + i ∈ tL a b c := List.mem_append_right _ (List.mem_append_right _ (List.mem_append_right _ (List.mem_append_right _ (List.mem_map.mpr ⟨i, List.mem_range.mpr h, rfl⟩))))
theorem tL_cases {a b c k : Nat} (h : k ∈ tL a b c) : k ∈ [40, 42, 43, 44, 45, 46, 47, 48, 49] ∨ k < 33 ∨ (∃ i, i < a ∧ k = 50 + i) ∨ (∃ i, i < b ∧ k = 60 + i) ∨ ∃ i, i < c ∧ k = 70 + i := by
  rcases List.mem_append.mp h with h | h
  · exact Or.inl h
  · rcases List.mem_append.mp h with h | h
    · exact Or.inr (Or.inl (List.mem_range.mp h))
    · rcases List.mem_append.mp h with h | h
      · obtain ⟨i, h1, h2⟩ := List.mem_map.mp h
        exact Or.inr (Or.inr (Or.inl ⟨i, List.mem_range.mp h1, h2.symm⟩))
      · rcases List.mem_append.mp h with h | h
        · obtain ⟨i, h1, h2⟩ := List.mem_map.mp h
          exact Or.inr (Or.inr (Or.inr (Or.inl ⟨i, List.mem_range.mp h1, h2.symm⟩)))
        · obtain ⟨i, h1, h2⟩ := List.mem_map.mp h
          exact Or.inr (Or.inr (Or.inr (Or.inr ⟨i, List.mem_range.mp h1, h2.symm⟩)))
theorem cellT_40 (ad : Nat → Nat) (cy : Nat → ClassId) (bS a b c d r : Nat) (f : Nat → Int32) (g : Nat → UInt64) : cellT ad cy bS a b c d r 40 f g = .inr (5, [.ref (ad 0), .ref bS, .int (f 2), .ref (ad 47), .ref (ad 48), .ref (ad 49), .ref (ad 42), .ref (ad 46), .ref (ad 43), .ref (ad 44), .ref (ad 45)]) := rfl
theorem cellT_42 (ad : Nat → Nat) (cy : Nat → ClassId) (bS a b c d r : Nat) (f : Nat → Int32) (g : Nat → UInt64) : cellT ad cy bS a b c d r 42 f g = .inl (cy 6, 12, .inr (.inr (.inr (.inl g)))) := rfl
theorem cellT_43 (ad : Nat → Nat) (cy : Nat → ClassId) (bS a b c d r : Nat) (f : Nat → Int32) (g : Nat → UInt64) : cellT ad cy bS a b c d r 43 f g = .inl (cy 6, 3, .inr (.inr (.inr (.inl g)))) := rfl
theorem cellT_44 (ad : Nat → Nat) (cy : Nat → ClassId) (bS a b c d r : Nat) (f : Nat → Int32) (g : Nat → UInt64) : cellT ad cy bS a b c d r 44 f g = .inl (cy 0, 2, .inl f) := rfl
theorem cellT_45 (ad : Nat → Nat) (cy : Nat → ClassId) (bS a b c d r : Nat) (f : Nat → Int32) (g : Nat → UInt64) : cellT ad cy bS a b c d r 45 f g = .inl (cy 0, 4, .inl f) := rfl
theorem cellT_46 (ad : Nat → Nat) (cy : Nat → ClassId) (bS a b c d r : Nat) (f : Nat → Int32) (g : Nat → UInt64) : cellT ad cy bS a b c d r 46 f g = .inl (cy 0, d, .inl f) := rfl
theorem cellT_47 (ad : Nat → Nat) (cy : Nat → ClassId) (bS a b c d r : Nat) (f : Nat → Int32) (g : Nat → UInt64) : cellT ad cy bS a b c d r 47 f g = .inl (cy 5, a, .inr (.inr (.inr (.inr (fun j => if j < a then some (ad (50 + j)) else none))))) := rfl
theorem cellT_48 (ad : Nat → Nat) (cy : Nat → ClassId) (bS a b c d r : Nat) (f : Nat → Int32) (g : Nat → UInt64) : cellT ad cy bS a b c d r 48 f g = .inl (cy 5, b, .inr (.inr (.inr (.inr (fun j => if j < b then some (ad (60 + j)) else none))))) := rfl
theorem cellT_49 (ad : Nat → Nat) (cy : Nat → ClassId) (bS a b c d r : Nat) (f : Nat → Int32) (g : Nat → UInt64) : cellT ad cy bS a b c d r 49 f g = .inl (cy 5, c, .inr (.inr (.inr (.inr (fun j => if j < c then some (ad (70 + j)) else none))))) := rfl
theorem cellT_34 (ad : Nat → Nat) (cy : Nat → ClassId) (bS a b c d r : Nat) (f : Nat → Int32) (g : Nat → UInt64) : cellT ad cy bS a b c d r 34 f g = .inl (cy 0, r, .inl f) := rfl
theorem cellT_35 (ad : Nat → Nat) (cy : Nat → ClassId) (bS a b c d r : Nat) (f : Nat → Int32) (g : Nat → UInt64) : cellT ad cy bS a b c d r 35 f g = .inl (cy 0, c, .inl f) := rfl
theorem cellT_36 (ad : Nat → Nat) (cy : Nat → ClassId) (bS a b c d r : Nat) (f : Nat → Int32) (g : Nat → UInt64) : cellT ad cy bS a b c d r 36 f g = .inl (cy 6, c, .inr (.inr (.inr (.inl g)))) := rfl
theorem cellT_Ing (ad : Nat → Nat) (cy : Nat → ClassId) (bS a b c d r : Nat) {i : Nat} (h : i < 10) (f : Nat → Int32) (g : Nat → UInt64) : cellT ad cy bS a b c d r (50 + i) f g = .inl (cy 0, 5, .inl f) := by
  unfold cellT
  rw [if_neg (by omega), if_neg (by omega), if_neg (by omega), if_neg (by omega), if_neg (by omega), if_neg (by omega), if_neg (by omega), if_neg (by omega), if_neg (by omega), if_neg (by omega), if_neg (by omega), if_neg (by omega), if_pos (by omega)]
theorem cellT_Mixr (ad : Nat → Nat) (cy : Nat → ClassId) (bS a b c d r : Nat) {i : Nat} (h : i < 10) (f : Nat → Int32) (g : Nat → UInt64) : cellT ad cy bS a b c d r (60 + i) f g = .inl (cy 0, 10, .inl f) := by
  unfold cellT
  rw [if_neg (by omega), if_neg (by omega), if_neg (by omega), if_neg (by omega), if_neg (by omega), if_neg (by omega), if_neg (by omega), if_neg (by omega), if_neg (by omega), if_neg (by omega), if_neg (by omega), if_neg (by omega), if_neg (by omega), if_pos (by omega)]
theorem cellT_Bat (ad : Nat → Nat) (cy : Nat → ClassId) (bS a b c d r : Nat) {i : Nat} (h : i < 20) (f : Nat → Int32) (g : Nat → UInt64) : cellT ad cy bS a b c d r (70 + i) f g = .inl (cy 0, 4, .inl f) := by
  unfold cellT
  rw [if_neg (by omega), if_neg (by omega), if_neg (by omega), if_neg (by omega), if_neg (by omega), if_neg (by omega), if_neg (by omega), if_neg (by omega), if_neg (by omega), if_neg (by omega), if_neg (by omega), if_neg (by omega), if_neg (by omega), if_neg (by omega)]
section HET
variable {L : List Nat} {ad : Nat → Nat} {cy : Nat → ClassId} {bS a b c d r : Nat} {I : Nat → Nat → Int32} {D : Nat → Nat → UInt64} {K : Nat → Nat → Int32} {M : Nat → Nat → UInt64}
theorem cellA_T {k : Nat} (h : 33 ≤ k) : cellA ad cy bS a b c d r I D K M k = cellT ad cy bS a b c d r k (K k) (M k) := if_neg (by omega)
theorem cellA_H {k : Nat} (h : k < 33) : cellA ad cy bS a b c d r I D K M k = cellH ad cy k (I k) (D k) := if_pos h
theorem heT_at {k : Nat} (hk : k ∈ L) (h33 : 33 ≤ k) {e : va_E} (he : cellT ad cy bS a b c d r k (K k) (M k) = e) : ∃ q : Nat, L[q]? = some k ∧ (iwT L ad cy bS a b c d r I D K M)[q]? = some (ad k, e) := by
  obtain ⟨q, hq⟩ := List.getElem?_of_mem hk
  subst he
  refine ⟨q, hq, ?_⟩
  rw [← cellA_T (I := I) (D := D) h33]
  exact iw_get (c := cellA ad cy bS a b c d r I D K M) hq
theorem iwT_D (hM : tOK L a b c d bS ad) {A : Nat → Prop} (hA : ∀ k, k ∈ L → A (ad k)) (I : Nat → Nat → Int32) (D : Nat → Nat → UInt64) (K : Nat → Nat → Int32) (M : Nat → Nat → UInt64) : va_D A (iwT L ad cy bS a b c d r I D K M) := iw_D hM.1.1 hM.1.2.2 hA
theorem tOK.J (hM : tOK L a b c d bS ad) : J33 ad := fun i j hi hj h => hM.1.2.2 i j (hM.1.2.1 _ (tL_H hi)) (hM.1.2.1 _ (tL_H hj)) h
theorem heT_40 (hM : tOK L a b c d bS ad) : ∃ q : Nat, L[q]? = some 40 ∧ (iwT L ad cy bS a b c d r I D K M)[q]? = some (ad 40, .inr (5, [.ref (ad 0), .ref bS, .int (K 40 2), .ref (ad 47), .ref (ad 48), .ref (ad 49), .ref (ad 42), .ref (ad 46), .ref (ad 43), .ref (ad 44), .ref (ad 45)])) := heT_at (hM.1.2.1 _ (tL_c (by decide))) (by decide) (cellT_40 ad cy bS a b c d r _ _)
theorem heT_42 (hM : tOK L a b c d bS ad) : ∃ q : Nat, L[q]? = some 42 ∧ (iwT L ad cy bS a b c d r I D K M)[q]? = some (ad 42, .inl (cy 6, 12, .inr (.inr (.inr (.inl (M 42)))))) := heT_at (hM.1.2.1 _ (tL_c (by decide))) (by decide) (cellT_42 ad cy bS a b c d r _ _)
theorem heT_43 (hM : tOK L a b c d bS ad) : ∃ q : Nat, L[q]? = some 43 ∧ (iwT L ad cy bS a b c d r I D K M)[q]? = some (ad 43, .inl (cy 6, 3, .inr (.inr (.inr (.inl (M 43)))))) := heT_at (hM.1.2.1 _ (tL_c (by decide))) (by decide) (cellT_43 ad cy bS a b c d r _ _)
theorem heT_44 (hM : tOK L a b c d bS ad) : ∃ q : Nat, L[q]? = some 44 ∧ (iwT L ad cy bS a b c d r I D K M)[q]? = some (ad 44, .inl (cy 0, 2, .inl (K 44))) := heT_at (hM.1.2.1 _ (tL_c (by decide))) (by decide) (cellT_44 ad cy bS a b c d r _ _)
theorem heT_45 (hM : tOK L a b c d bS ad) : ∃ q : Nat, L[q]? = some 45 ∧ (iwT L ad cy bS a b c d r I D K M)[q]? = some (ad 45, .inl (cy 0, 4, .inl (K 45))) := heT_at (hM.1.2.1 _ (tL_c (by decide))) (by decide) (cellT_45 ad cy bS a b c d r _ _)
theorem heT_46 (hM : tOK L a b c d bS ad) : ∃ q : Nat, L[q]? = some 46 ∧ (iwT L ad cy bS a b c d r I D K M)[q]? = some (ad 46, .inl (cy 0, d, .inl (K 46))) := heT_at (hM.1.2.1 _ (tL_c (by decide))) (by decide) (cellT_46 ad cy bS a b c d r _ _)
theorem heT_47 (hM : tOK L a b c d bS ad) : ∃ q : Nat, L[q]? = some 47 ∧ (iwT L ad cy bS a b c d r I D K M)[q]? = some (ad 47, .inl (cy 5, a, .inr (.inr (.inr (.inr (fun j => if j < a then some (ad (50 + j)) else none)))))) := heT_at (hM.1.2.1 _ (tL_c (by decide))) (by decide) (cellT_47 ad cy bS a b c d r _ _)
theorem heT_48 (hM : tOK L a b c d bS ad) : ∃ q : Nat, L[q]? = some 48 ∧ (iwT L ad cy bS a b c d r I D K M)[q]? = some (ad 48, .inl (cy 5, b, .inr (.inr (.inr (.inr (fun j => if j < b then some (ad (60 + j)) else none)))))) := heT_at (hM.1.2.1 _ (tL_c (by decide))) (by decide) (cellT_48 ad cy bS a b c d r _ _)
theorem heT_49 (hM : tOK L a b c d bS ad) : ∃ q : Nat, L[q]? = some 49 ∧ (iwT L ad cy bS a b c d r I D K M)[q]? = some (ad 49, .inl (cy 5, c, .inr (.inr (.inr (.inr (fun j => if j < c then some (ad (70 + j)) else none)))))) := heT_at (hM.1.2.1 _ (tL_c (by decide))) (by decide) (cellT_49 ad cy bS a b c d r _ _)
theorem heT_34 (h : 34 ∈ L) : ∃ q : Nat, L[q]? = some 34 ∧ (iwT L ad cy bS a b c d r I D K M)[q]? = some (ad 34, .inl (cy 0, r, .inl (K 34))) := heT_at h (by decide) (cellT_34 ad cy bS a b c d r _ _)
theorem heT_35 (h : 35 ∈ L) : ∃ q : Nat, L[q]? = some 35 ∧ (iwT L ad cy bS a b c d r I D K M)[q]? = some (ad 35, .inl (cy 0, c, .inl (K 35))) := heT_at h (by decide) (cellT_35 ad cy bS a b c d r _ _)
theorem heT_36 (h : 36 ∈ L) : ∃ q : Nat, L[q]? = some 36 ∧ (iwT L ad cy bS a b c d r I D K M)[q]? = some (ad 36, .inl (cy 6, c, .inr (.inr (.inr (.inl (M 36)))))) := heT_at h (by decide) (cellT_36 ad cy bS a b c d r _ _)
theorem heT_Ing (hM : tOK L a b c d bS ad) {i : Nat} (h : i < a) : ∃ q : Nat, L[q]? = some (50 + i) ∧ (iwT L ad cy bS a b c d r I D K M)[q]? = some (ad (50 + i), .inl (cy 0, 5, .inl (K (50 + i)))) := heT_at (hM.1.2.1 _ (tL_Ing h)) (by omega) (cellT_Ing ad cy bS a b c d r (by have := hM.2.2; omega) _ _)
theorem heT_Mixr (hM : tOK L a b c d bS ad) {i : Nat} (h : i < b) : ∃ q : Nat, L[q]? = some (60 + i) ∧ (iwT L ad cy bS a b c d r I D K M)[q]? = some (ad (60 + i), .inl (cy 0, 10, .inl (K (60 + i)))) := heT_at (hM.1.2.1 _ (tL_Mixr h)) (by omega) (cellT_Mixr ad cy bS a b c d r (by have := hM.2.2; omega) _ _)
theorem heT_Bat (hM : tOK L a b c d bS ad) {i : Nat} (h : i < c) : ∃ q : Nat, L[q]? = some (70 + i) ∧ (iwT L ad cy bS a b c d r I D K M)[q]? = some (ad (70 + i), .inl (cy 0, 4, .inl (K (70 + i)))) := heT_at (hM.1.2.1 _ (tL_Bat h)) (by omega) (cellT_Bat ad cy bS a b c d r (by have := hM.2.2; omega) _ _)
/-- the class's own place 0, the receiver of its calls -/
theorem heT_0 (hM : tOK L a b c d bS ad) : ∃ q : Nat, L[q]? = some 0 ∧ (iwT L ad cy bS a b c d r I D K M)[q]? = some (ad 0, .inr (4, [.ref (ad 1), .ref (ad 2), .ref (ad 3), .ref (ad 4), .ref (ad 5), .int (I 0 5), .int (I 0 6), .int (I 0 7), .int (I 0 8), .int (I 0 9), .int (I 0 10), .int (I 0 11), .int (I 0 12), .ref (ad 6)])) := by
  obtain ⟨q, hq⟩ := List.getElem?_of_mem (hM.1.2.1 0 (tL_H (by decide)))
  refine ⟨q, hq, ?_⟩
  have h := iw_get (ad := ad) (c := cellA ad cy bS a b c d r I D K M) hq
  rw [cellA_H (by decide), cellH_0] at h
  exact h
theorem hqK {G : va_G} {H : Heap} {q k n : Nat} {v : Int32} {e : va_E} (hM : tOK L a b c d bS ad) (hq : L[q]? = some k) (h33 : 33 ≤ k) (he : cellT ad cy bS a b c d r k (va_up (K k) n v) (M k) = e) (hP : va_P G vwCl ((iwT L ad cy bS a b c d r I D K M).set q (ad k, e)) H) : va_P G vwCl (iwT L ad cy bS a b c d r I D (up2 K k n v) M) H := by
  have h := iw_set (L := L) (ad := ad) (c := cellA ad cy bS a b c d r I D K M) (c' := cellA ad cy bS a b c d r I D (up2 K k n v) M) (q := q) (k := k) (e := e) hM.1.1 hq (by rw [cellA_T h33, up2_self]; exact he) (fun j _ hj => by unfold cellA; rw [up2_ne K n v hj])
  unfold iwT at hP ⊢
  rw [h] at hP
  exact hP
theorem hqM {G : va_G} {H : Heap} {q k n : Nat} {v : UInt64} {e : va_E} (hM : tOK L a b c d bS ad) (hq : L[q]? = some k) (h33 : 33 ≤ k) (he : cellT ad cy bS a b c d r k (K k) (va_up (M k) n v) = e) (hP : va_P G vwCl ((iwT L ad cy bS a b c d r I D K M).set q (ad k, e)) H) : va_P G vwCl (iwT L ad cy bS a b c d r I D K (up2 M k n v)) H := by
  have h := iw_set (L := L) (ad := ad) (c := cellA ad cy bS a b c d r I D K M) (c' := cellA ad cy bS a b c d r I D K (up2 M k n v)) (q := q) (k := k) (e := e) hM.1.1 hq (by rw [cellA_T h33, up2_self]; exact he) (fun j _ hj => by unfold cellA; rw [up2_ne M n v hj])
  unfold iwT at hP ⊢
  rw [h] at hP
  exact hP
/-- a world by its places -/
theorem iw_mk {G : va_G} {cl : List vw_C} {L : List Nat} {ad : Nat → Nat} {c : Nat → va_E} {H : Heap} (h : ∀ k, k ∈ L → va_at G cl (ad k, c k) H) : va_P G cl (iw L ad c) H := by
  intro i x hx
  unfold iw at hx
  rw [List.getElem?_map] at hx
  cases hk : L[i]? with
  | none => rw [hk] at hx; cases hx
  | some k =>
    rw [hk] at hx
    cases hx
    exact h k (List.mem_of_getElem? hk)
theorem iw_of {G : va_G} {cl : List vw_C} {L : List Nat} {ad : Nat → Nat} {c : Nat → va_E} {H : Heap} (h : va_P G cl (iw L ad c) H) {k : Nat} (hk : k ∈ L) : va_at G cl (ad k, c k) H := by
  obtain ⟨q, hq⟩ := List.getElem?_of_mem hk
  exact h q _ (iw_get hq)
/-- the class's part of it -/
theorem iwT_H {G : va_G} {H : Heap} (hM : tOK L a b c d bS ad) (hP : va_P G vwCl (iwT L ad cy bS a b c d r I D K M) H) : va_P G vwCl (iwH ad cy I D) H := by
  refine iw_mk (fun k hk => ?_)
  have hk := List.mem_range.mp hk
  have h := iw_of (c := cellA ad cy bS a b c d r I D K M) hP (hM.1.2.1 _ (tL_H hk))
  rw [cellA_H hk] at h
  exact h
/-- behind a call of the class: its part anew, the teller's as it was -/
theorem iwT_join {G : va_G} {H H1 : Heap} {I9 : Nat → Nat → Int32} {D9 : Nat → Nat → UInt64} (hM : tOK L a b c d bS ad) (hP : va_P G vwCl (iwT L ad cy bS a b c d r I D K M) H) (hP1 : va_P G vwCl (iwH ad cy I9 D9) H1) (hk1 : ∀ q : Nat, q < H.size → ¬ AW ad H.size q → H1[q]? = H[q]?) : va_P G vwCl (iwT L ad cy bS a b c d r I9 D9 K M) H1 := by
  refine iw_mk (fun k hk => ?_)
  by_cases h33 : k < 33
  · rw [cellA_H h33]
    exact iw_of (c := fun k => cellH ad cy k (I9 k) (D9 k)) hP1 (List.mem_range.mpr h33)
  · have h := iw_of (c := cellA ad cy bS a b c d r I D K M) hP hk
    rw [cellA_T (by omega)] at h ⊢
    refine h.kept (hk1 _ h.lt ?_)
    rintro (⟨j, j1, j2⟩ | h2)
    · have := hM.1.2.2 j k (hM.1.2.1 _ (tL_H j1)) hk j2
      omega
    · exact Nat.lt_irrefl _ (Nat.lt_of_lt_of_le h.lt h2)
end HET
def tW (dC : Nat → ClassId) (dI : Nat → Nat → Nat) (L : List Nat) (ad : Nat → Nat) (cy : Nat → ClassId) (bS a b c d r : Nat) (LS : Nat) (xs : Nat → Int32) (I : Nat → Nat → Int32) (D : Nat → Nat → UInt64) (K : Nat → Nat → Int32) (M : Nat → Nat → UInt64) (U : State) : Prop := va_P (dC, dI) vwCl (iwT L ad cy bS a b c d r I D K M) U.heap ∧ va_K (dC, dI) vwCl (tysA cy) U ∧ (nestS U ∧ aoA U) ∧ va_X bS LS xs U U.heap
section HWT
variable {dC : Nat → ClassId} {dI : Nat → Nat → Nat} {L : List Nat} {ad : Nat → Nat} {cy : Nat → ClassId} {bS a b c d r LS : Nat} {xs : Nat → Int32} {I : Nat → Nat → Int32} {D : Nat → Nat → UInt64} {K : Nat → Nat → Int32} {M : Nat → Nat → UInt64}
theorem tW.of {s U : State} {H : Heap} (hP : va_P (dC, dI) vwCl (iwT L ad cy bS a b c d r I D K M) H) (hK : va_K (dC, dI) vwCl (tysA cy) s) (hN : nestS s ∧ aoA s) (hX : va_X bS LS xs s H) (hU : U.heap = H) (hW1 : s.WarmedH U.vm) : tW dC dI L ad cy bS a b c d r LS xs I D K M U := ⟨by rw [hU]; exact hP, va_K.moved hW1.alike hK, ⟨hN.1.warm hW1, hN.2.moved hW1.alike⟩, by rw [hU]; exact hX.moved hW1.alike⟩
theorem tW.blind {U : State} (x : Array Value) (g : JFrame) (mk : MethodId) (h : tW dC dI L ad cy bS a b c d r LS xs I D K M U) : tW dC dI L ad cy bS a b c d r LS xs I D K M (U.calling g mk x) := ⟨h.1, va_K.moved (u := U) (U := U.calling g mk x) (Vm.Alike.refl U.vm) h.2.1, ⟨nestS.same (u := U) (U := U.calling g mk x) rfl h.2.2.1.1, aoA.moved (u := U) (U := U.calling g mk x) (Vm.Alike.refl U.vm) h.2.2.1.2⟩, va_X.moved (u := U) (U := U.calling g mk x) (Vm.Alike.refl U.vm) h.2.2.2⟩
theorem tW.pre {s : State} {H : Heap} (As : List Value) (hP : va_P (dC, dI) vwCl (iwT L ad cy bS a b c d r I D K M) H) (hK : va_K (dC, dI) vwCl (tysA cy) s) (hN : nestS s ∧ aoA s) (hX : va_X bS LS xs s H) : PreS s H (va_Pc As (fun U => U.heap.size = H.size ∧ tW dC dI L ad cy bS a b c d r LS xs I D K M U)) As :=
  ⟨fun x U g mk q => by
    obtain ⟨q0, q1, q2⟩ := q
    exact ⟨q0, q1, q2.blind x g mk⟩, fun U hU hW1 => ⟨rfl, by rw [hU], tW.of hP hK hN hX hU hW1⟩⟩
theorem tW.recv {s : State} {H : Heap} {C : String} {T : u_T} {N ci q k : Nat} {fs : List Value} (hP : va_P (dC, dI) vwCl (iwT L ad cy bS a b c d r I D K M) H) (hK : va_K (dC, dI) vwCl (tysA cy) s) (he : (iwT L ad cy bS a b c d r I D K M)[q]? = some (ad k, .inr (ci, fs))) (hc : vwCl[ci]? = some (C, T, N)) : ∃ cellB : Cell, H[ad k]? = some cellB ∧ cellB.vm.isStatics = false ∧ s.vm.findClass C = some cellB.cls := va_recv hK hP (ci := ci) (q0 := q) hc he
end HWT
/-- what a call on a told house may change: its places, and what it makes -/
def AT (L : List Nat) (ad : Nat → Nat) (sz : Nat) : Nat → Prop := fun q => (∃ k, k ∈ L ∧ ad k = q) ∨ sz ≤ q
/-- a call that throws nothing -/
def eO {α : Type} (x : Option (Except String α)) : Option α := match x with | some (.ok a) => some a | _ => none
theorem eO_out {α : Type} {x : Option (Except String α)} {a : α} (h : eO x = some a) : x = some (.ok a) := by
  match x, h with
  | some (.ok a), h => cases h; rfl
  | some (.error _), h => cases h
  | none, h => cases h
