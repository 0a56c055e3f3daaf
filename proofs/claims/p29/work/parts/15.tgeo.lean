/-! a new row beside the world; the world anew, one thing more in it -/
theorem tL_lt {a b c k : Nat} (ha : a ≤ 6) (hb : b ≤ 5) (hc : c ≤ 12) (h : k ∈ tL a b c) : k ≠ 34 ∧ k ≠ 35 ∧ k ≠ 36 := by
  rcases tL_cases h with h | h | ⟨i, h, rfl⟩ | ⟨i, h, rfl⟩ | ⟨i, h, rfl⟩
  · simp only [List.mem_cons, List.not_mem_nil, or_false] at h
    omega
  all_goals omega
theorem tL_nd {a b c : Nat} (ha : a ≤ 6) (hb : b ≤ 5) (hc : c ≤ 12) : (tL a b c).Nodup := by
  have hm : ∀ (n z : Nat), ((List.range n).map (fun i => z + i)).Nodup := fun n z => List.pairwise_map.mpr (List.nodup_range.imp (fun h => by omega))
  have i1 : ∀ {n z k : Nat}, k ∈ (List.range n).map (fun i => z + i) → ∃ i, i < n ∧ k = z + i := fun h => by
    obtain ⟨i, h1, h2⟩ := List.mem_map.mp h
    exact ⟨i, List.mem_range.mp h1, h2.symm⟩
  unfold tL
  refine List.nodup_append.mpr ⟨by decide, List.nodup_append.mpr ⟨List.nodup_range, List.nodup_append.mpr ⟨hm _ _, List.nodup_append.mpr ⟨hm _ _, hm _ _, ?_⟩, ?_⟩, ?_⟩, ?_⟩
  · intro x hx y hy
    obtain ⟨i, h1, rfl⟩ := i1 hx
    obtain ⟨j, h2, rfl⟩ := i1 hy
    omega
  · intro x hx y hy
    obtain ⟨i, h1, rfl⟩ := i1 hx
    rcases List.mem_append.mp hy with hy | hy <;> obtain ⟨j, h2, rfl⟩ := i1 hy <;> omega
  · intro x hx y hy
    have hx := List.mem_range.mp hx
    rcases List.mem_append.mp hy with hy | hy
    · obtain ⟨j, h2, rfl⟩ := i1 hy
      omega
    · rcases List.mem_append.mp hy with hy | hy <;> obtain ⟨j, h2, rfl⟩ := i1 hy <;> omega
  · intro x hx y hy
    simp only [List.mem_cons, List.not_mem_nil, or_false] at hx
    rcases List.mem_append.mp hy with hy | hy
    · have hy := List.mem_range.mp hy
      omega
    · rcases List.mem_append.mp hy with hy | hy
      · obtain ⟨j, h2, rfl⟩ := i1 hy
        omega
      · rcases List.mem_append.mp hy with hy | hy <;> obtain ⟨j, h2, rfl⟩ := i1 hy <;> omega
theorem arrV_cg {cA : ClassId} {n : Nat} {f g : Nat → Value} (h : ∀ j, j < n → f j = g j) : arrV cA n f = arrV cA n g := by
  have e : (Array.ofFn (n := n) fun i => f i.val) = (Array.ofFn (n := n) fun i => g i.val) := by
    congr 1
    funext i
    exact h i.val i.isLt
  unfold arrV
  rw [e]
theorem at_rf {D : va_G} {cl : List vw_C} {a : Nat} {cA : ClassId} {n : Nat} {f g : Nat → Option Nat} {H : Heap} (h : va_at D cl (a, .inl (cA, n, .inr (.inr (.inr (.inr f))))) H) (e : ∀ j, j < n → f j = g j) : va_at D cl (a, .inl (cA, n, .inr (.inr (.inr (.inr g))))) H := by
  have h1 : H[a]? = some (vp_cell cA (n, .inr (.inr (.inr (.inr f))))) := h
  show H[a]? = some (vp_cell cA (n, .inr (.inr (.inr (.inr g)))))
  rw [h1, vp_cell_q, vp_cell_q, arrV_cg (fun j hj => congrArg va_rf (e j hj))]
section TGE
variable {G : va_G} {H : Heap} {A : Nat → Prop} {ad ad1 : Nat → Nat} {cy : Nat → ClassId} {bS a b c d r a1 b1 c1 d1 r1 : Nat} {I K K1 : Nat → Nat → Int32} {D M M1 : Nat → Nat → UInt64}
theorem at_low {x k : Nat} {f : Nat → Int32} {g : Nat → UInt64} (h33 : ∀ j, j < 33 → ad1 j = ad j) (hk : k < 33) (h : va_at G vwCl (x, cellH ad cy k f g) H) : va_at G vwCl (x, cellH ad1 cy k f g) H := by
  by_cases k0 : k = 0
  · subst k0
    rw [cellH_0] at h ⊢
    rw [h33 1 (by decide), h33 2 (by decide), h33 3 (by decide), h33 4 (by decide), h33 5 (by decide), h33 6 (by decide)]
    exact h
  by_cases k1 : k = 1
  · subst k1
    rw [cellH_1] at h ⊢
    exact at_rf h (fun j hj => by rw [h33 (7 + j) (by omega)])
  by_cases k2 : k = 2
  · subst k2
    rw [cellH_2] at h ⊢
    exact at_rf h (fun j hj => by rw [h33 (13 + j) (by omega)])
  by_cases k3 : k = 3
  · subst k3
    rw [cellH_3] at h ⊢
    exact at_rf h (fun j hj => by rw [h33 (18 + j) (by omega)])
  by_cases k4 : k = 4
  · subst k4
    rw [cellH_4] at h ⊢
    exact at_rf h (fun j hj => by rw [h33 (30 + j) (by omega)])
  have e : cellH ad1 cy k f g = cellH ad cy k f g := by simp only [cellH, if_neg k0, if_neg k1, if_neg k2, if_neg k3, if_neg k4]
  rw [e]
  exact h
theorem cellT_row {k : Nat} {f : Nat → Int32} {g : Nat → UInt64} (hk : k = 42 ∨ k = 43 ∨ k = 44 ∨ k = 45 ∨ 50 ≤ k) : cellT ad1 cy bS a1 b1 c1 d1 r1 k f g = cellT ad cy bS a b c d r k f g := by
  rcases hk with rfl | rfl | rfl | rfl | hk
  · rfl
  · rfl
  · rfl
  · rfl
  · simp only [cellT, if_neg (show ¬ k = 40 by omega), if_neg (show ¬ k = 42 by omega), if_neg (show ¬ k = 43 by omega), if_neg (show ¬ k = 44 by omega), if_neg (show ¬ k = 45 by omega), if_neg (show ¬ k = 46 by omega), if_neg (show ¬ k = 47 by omega), if_neg (show ¬ k = 48 by omega), if_neg (show ¬ k = 49 by omega), if_neg (show ¬ k = 34 by omega), if_neg (show ¬ k = 35 by omega), if_neg (show ¬ k = 36 by omega)]
theorem at_tL {x k : Nat} (hk : k ∈ tL a b c) (had : ∀ j ∈ tL a b c, ad1 j = ad j) (hK1 : K1 k = K k) (hM1 : M1 k = M k) (h : va_at G vwCl (x, cellA ad cy bS a b c d r I D K M k) H) : va_at G vwCl (x, cellA ad1 cy bS a b c d r1 I D K1 M1 k) H := by
  have h33 : ∀ j, j < 33 → ad1 j = ad j := fun j hj => had j (tL_H hj)
  by_cases k33 : k < 33
  · rw [cellA_H k33] at h ⊢
    exact at_low h33 k33 h
  · rw [cellA_T (by omega)] at h ⊢
    rw [hK1, hM1]
    rcases tL_cases hk with hc | hc | ⟨i, hc, rfl⟩ | ⟨i, hc, rfl⟩ | ⟨i, hc, rfl⟩
    · simp only [List.mem_cons, List.not_mem_nil, or_false] at hc
      rcases hc with rfl | rfl | rfl | rfl | rfl | rfl | rfl | rfl | rfl
      · rw [cellT_40] at h ⊢
        rw [h33 0 (by decide), had 47 (tL_c (by decide)), had 48 (tL_c (by decide)), had 49 (tL_c (by decide)), had 42 (tL_c (by decide)), had 46 (tL_c (by decide)), had 43 (tL_c (by decide)), had 44 (tL_c (by decide)), had 45 (tL_c (by decide))]
        exact h
      · exact h
      · exact h
      · exact h
      · exact h
      · exact h
      · rw [cellT_47] at h ⊢
        exact at_rf h (fun j hj => by rw [if_pos hj, if_pos hj, had _ (tL_Ing hj)])
      · rw [cellT_48] at h ⊢
        exact at_rf h (fun j hj => by rw [if_pos hj, if_pos hj, had _ (tL_Mixr hj)])
      · rw [cellT_49] at h ⊢
        exact at_rf h (fun j hj => by rw [if_pos hj, if_pos hj, had _ (tL_Bat hj)])
    · exact absurd hc k33
    all_goals
      rw [cellT_row (ad := ad) (a := a) (b := b) (c := c) (d := d) (r := r) (Or.inr (Or.inr (Or.inr (Or.inr (by omega)))))]
      exact h
/-- places beside the told house: a row of ints at 34, of ints at 35, of doubles at 36 -/
theorem t_new {Lb : List Nat} {x q : Nat} {e : va_E} (hx : x = 34 ∨ x = 35 ∨ x = 36) (hxL : x ∉ Lb) (hLb : ∀ k ∈ Lb, k ∈ tL a b c ∨ k = 34 ∨ k = 35 ∨ k = 36) (hM : tOK Lb a b c d bS ad) (hP : va_P G vwCl (iwT Lb ad cy bS a b c d r I D K M ++ [(q, e)]) H) (hD : va_D A (iwT Lb ad cy bS a b c d r I D K M ++ [(q, e)])) (hbA : ¬ A bS) (hr : 34 ∈ Lb → r1 = r) (he : ∀ ad1, cellT ad1 cy bS a b c d r1 x (K1 x) (M1 x) = e) (hK1 : ∀ k, k ≠ x → K1 k = K k) (hM1 : ∀ k, k ≠ x → M1 k = M k) : ∃ ad1 : Nat → Nat, tOK (Lb ++ [x]) a b c d bS ad1 ∧ va_P G vwCl (iwT (Lb ++ [x]) ad1 cy bS a b c d r1 I D K1 M1) H ∧ (∀ k ∈ Lb ++ [x], A (ad1 k)) ∧ (∀ k ∈ Lb, ad1 k = ad k) ∧ ad1 x = q := by
  have had : ∀ k ∈ Lb, va_up ad x q k = ad k := fun k hk => va_up_ne _ _ (fun z => hxL (z ▸ hk))
  have h34 : va_up ad x q x = q := va_up_self _ _ _
  have hl : (iwT Lb ad cy bS a b c d r I D K M).length = Lb.length := List.length_map _
  have hend : (iwT Lb ad cy bS a b c d r I D K M ++ [(q, e)])[Lb.length]? = some (q, e) := by rw [← hl]; exact List.getElem?_concat_length
  have hin : ∀ k ∈ Lb, ∃ i, i < Lb.length ∧ (iwT Lb ad cy bS a b c d r I D K M ++ [(q, e)])[i]? = some (ad k, cellA ad cy bS a b c d r I D K M k) := fun k hk => by
    obtain ⟨i, hi⟩ := List.getElem?_of_mem hk
    have hil := (List.getElem?_eq_some_iff.mp hi).1
    exact ⟨i, hil, by rw [List.getElem?_append_left (by rw [hl]; exact hil)]; exact iw_get hi⟩
  have hqn : ∀ k ∈ Lb, ad k ≠ q := fun k hk z => by
    obtain ⟨i, hi, h1⟩ := hin k hk
    have := hD.1 _ _ _ _ h1 hend z
    omega
  have hm : ∀ k, k ∈ Lb ++ [x] → k ∈ Lb ∨ k = x := fun k hk => (List.mem_append.mp hk).imp id (fun h => by simpa using h)
  have had2 : ∀ k ∈ tL a b c, va_up ad x q k = ad k := fun k hk => had k (hM.1.2.1 k hk)
  refine ⟨va_up ad x q, ⟨⟨List.nodup_append.mpr ⟨hM.1.1, by simp, fun k hk y hy => ?_⟩, fun k hk => List.mem_append_left _ (hM.1.2.1 k hk), fun i j hi hj z => ?_⟩, fun k hk => ?_, hM.2.2⟩, iw_mk (fun k hk => ?_), fun k hk => ?_, had, h34⟩
  · rw [List.mem_singleton.mp hy]
    exact fun z => hxL (z ▸ hk)
  · rcases hm i hi with g1 | g1 <;> rcases hm j hj with g2 | g2
    · rw [had i g1, had j g2] at z
      exact hM.1.2.2 i j g1 g2 z
    · rw [had i g1, g2, h34] at z
      exact absurd z (hqn i g1)
    · rw [had j g2, g1, h34] at z
      exact absurd z.symm (hqn j g2)
    · rw [g1, g2]
  · rcases hm k hk with hk | rfl
    · rw [had k hk]
      exact hM.2.1 k hk
    · rw [h34]
      exact fun z => hbA (z ▸ hD.2 _ _ hend)
  · rcases hm k hk with hk | rfl
    · rw [had k hk]
      obtain ⟨i, -, hi⟩ := hin k hk
      have h := hP _ _ hi
      have hkx : k ≠ x := fun z => hxL (z ▸ hk)
      rcases hLb k hk with h9 | h9 | h9 | h9
      · exact at_tL h9 had2 (hK1 k hkx) (hM1 k hkx) h
      · subst h9
        rw [cellA_T (by decide), cellT_34] at h ⊢
        rw [hK1 _ hkx, hr hk]
        exact h
      · subst h9
        rw [cellA_T (by decide), cellT_35] at h ⊢
        rw [hK1 _ hkx]
        exact h
      · subst h9
        rw [cellA_T (by decide), cellT_36] at h ⊢
        rw [hM1 _ hkx]
        exact h
    · rw [h34, cellA_T (by omega), he]
      exact hP _ _ hend
  · rcases hm k hk with hk | rfl
    · rw [had k hk]
      obtain ⟨i, -, hi⟩ := hin k hk
      exact hD.2 _ _ hi
    · rw [h34]
      exact hD.2 _ _ hend
/-- .. given up again -/
theorem t_drop {L1 : List Nat} (hE : ∀ k ∈ tL a b c, ad1 k = ad k) (hs : ∀ k ∈ tL a b c, k ∈ L1) (hP : va_P G vwCl (iwT L1 ad1 cy bS a b c d r1 I D K M) H) (r : Nat) : va_P G vwCl (iwT (tL a b c) ad cy bS a b c d r I D K M) H := iw_mk (fun k hk => by
    have h := iw_of (c := cellA ad1 cy bS a b c d r1 I D K M) hP (hs k hk)
    rw [hE k hk] at h
    exact at_tL hk (fun j hj => (hE j hj).symm) rfl rfl h)
theorem hqR {L : List Nat} {q k : Nat} {f : Nat → Int32} {e : va_E} (hM : tOK L a b c d bS ad) (hq : L[q]? = some k) (h33 : 33 ≤ k) (he : cellT ad cy bS a b c d r k f (M k) = e) (hP : va_P G vwCl ((iwT L ad cy bS a b c d r I D K M).set q (ad k, e)) H) : va_P G vwCl (iwT L ad cy bS a b c d r I D (va_up K k f) M) H := by
  have h := iw_set (L := L) (ad := ad) (c := cellA ad cy bS a b c d r I D K M) (c' := cellA ad cy bS a b c d r I D (va_up K k f) M) (q := q) (k := k) (e := e) hM.1.1 hq (by rw [cellA_T h33, va_up_self]; exact he) (fun j _ hj => by unfold cellA; rw [va_up_ne _ _ hj])
  unfold iwT at hP ⊢
  rw [h] at hP
  exact hP
theorem t_plus_I {p q40 : Nat} {g : Nat → Option Nat} (hlt : a < 6) (hM : tOK (tL a b c ++ [34]) a b c d bS ad) (hq : (tL a b c ++ [34])[q40]? = some 40) (hP : va_P G vwCl ((iwT (tL a b c ++ [34]) ad cy bS a b c d 5 I D K M ++ [(p, (.inl (cy 5, a + 1, .inr (.inr (.inr (.inr g)))) : va_E))]).set q40 (ad 40, (.inr (5, [.ref (ad 0), .ref bS, .int (K 40 2), .ref p, .ref (ad 48), .ref (ad 49), .ref (ad 42), .ref (ad 46), .ref (ad 43), .ref (ad 44), .ref (ad 45)]) : va_E))) H) (hD : va_D A ((iwT (tL a b c ++ [34]) ad cy bS a b c d 5 I D K M ++ [(p, (.inl (cy 5, a + 1, .inr (.inr (.inr (.inr g)))) : va_E))]).set q40 (ad 40, (.inr (5, [.ref (ad 0), .ref bS, .int (K 40 2), .ref p, .ref (ad 48), .ref (ad 49), .ref (ad 42), .ref (ad 46), .ref (ad 43), .ref (ad 44), .ref (ad 45)]) : va_E)))) (hg : ∀ j, j < a + 1 → g j = if j < a then some (ad (50 + j)) else some (ad 34)) (hbA : ¬ A bS) (r1 : Nat) : ∃ ad1 : Nat → Nat, tOK (tL (a + 1) b c) (a + 1) b c d bS ad1 ∧ va_P G vwCl (iwT (tL (a + 1) b c) ad1 cy bS (a + 1) b c d r1 I D (va_up K (50 + a) (K 34)) M) H ∧ (∀ k ∈ tL (a + 1) b c, A (ad1 k)) ∧ ad1 40 = ad 40 ∧ ad1 0 = ad 0 ∧ ad1 (50 + a) = ad 34 ∧ (∀ k ∈ tL (a + 1) b c, ad1 k = p ∨ ∃ j ∈ (tL a b c ++ [34]), ad1 k = ad j) := by
  have hb3 := hM.2.2
  have hl : (iwT (tL a b c ++ [34]) ad cy bS a b c d 5 I D K M).length = (tL a b c ++ [34]).length := List.length_map _
  have hql := (List.getElem?_eq_some_iff.mp hq).1
  have hend : ((iwT (tL a b c ++ [34]) ad cy bS a b c d 5 I D K M ++ [(p, (.inl (cy 5, a + 1, .inr (.inr (.inr (.inr g)))) : va_E))]).set q40 (ad 40, (.inr (5, [.ref (ad 0), .ref bS, .int (K 40 2), .ref p, .ref (ad 48), .ref (ad 49), .ref (ad 42), .ref (ad 46), .ref (ad 43), .ref (ad 44), .ref (ad 45)]) : va_E)))[(tL a b c ++ [34]).length]? = some (p, .inl (cy 5, a + 1, .inr (.inr (.inr (.inr g))))) := by
    rw [List.getElem?_set_ne (by omega), ← hl]
    exact List.getElem?_concat_length
  have hin : ∀ k ∈ (tL a b c ++ [34]), ∃ i, i < (tL a b c ++ [34]).length ∧ ∃ e, ((iwT (tL a b c ++ [34]) ad cy bS a b c d 5 I D K M ++ [(p, (.inl (cy 5, a + 1, .inr (.inr (.inr (.inr g)))) : va_E))]).set q40 (ad 40, (.inr (5, [.ref (ad 0), .ref bS, .int (K 40 2), .ref p, .ref (ad 48), .ref (ad 49), .ref (ad 42), .ref (ad 46), .ref (ad 43), .ref (ad 44), .ref (ad 45)]) : va_E)))[i]? = some (ad k, e) ∧ (k ≠ 40 → e = cellA ad cy bS a b c d 5 I D K M k) ∧ (k = 40 → e = .inr (5, [.ref (ad 0), .ref bS, .int (K 40 2), .ref p, .ref (ad 48), .ref (ad 49), .ref (ad 42), .ref (ad 46), .ref (ad 43), .ref (ad 44), .ref (ad 45)])) := fun k hk => by
    obtain ⟨i, hi⟩ := List.getElem?_of_mem hk
    have hil := (List.getElem?_eq_some_iff.mp hi).1
    by_cases e : i = q40
    · subst e
      have ek : k = 40 := Option.some.inj (hi.symm.trans hq)
      subst ek
      exact ⟨i, hil, _, List.getElem?_set_self (by rw [List.length_append, hl]; omega), fun z => absurd rfl z, fun _ => rfl⟩
    · have ek : k ≠ 40 := fun z => e (nd_inj hM.1.1 hi (z ▸ hq))
      exact ⟨i, hil, _, by rw [List.getElem?_set_ne (Ne.symm e), List.getElem?_append_left (by rw [hl]; exact hil)]; exact iw_get hi, fun _ => rfl, fun z => absurd z ek⟩
  have hpn : ∀ k ∈ (tL a b c ++ [34]), ad k ≠ p := fun k hk e => by
    obtain ⟨i, hi, e1, h1, -⟩ := hin k hk
    have := hD.1 _ _ _ _ h1 hend e
    omega
  have la : ∀ k ∈ (tL a b c ++ [34]), k ≠ 40 → va_at G vwCl (ad k, cellA ad cy bS a b c d 5 I D K M k) H := fun k hk hn => by
    obtain ⟨i, -, e1, h1, h2, -⟩ := hin k hk
    rw [← h2 hn]
    exact hP _ _ h1
  have m0 : ∀ {k}, k ∈ tL a b c → k ∈ (tL a b c ++ [34]) := fun h => List.mem_append_left _ h
  have m34 : 34 ∈ (tL a b c ++ [34]) := List.mem_append_right _ (by decide)
  obtain ⟨ad1, had1⟩ : ∃ ad1 : Nat → Nat, ad1 = fun k => if k = 47 then p else if k = 50 + a then ad 34 else ad k := ⟨_, rfl⟩
  have e1 : ad1 47 = p := by rw [had1]; exact if_pos rfl
  have e2 : ad1 (50 + a) = ad 34 := by rw [had1]; dsimp only; rw [if_neg (by omega), if_pos rfl]
  have e3 : ∀ k, k ≠ 47 → k ≠ 50 + a → ad1 k = ad k := fun k h1 h2 => by rw [had1]; dsimp only; rw [if_neg h1, if_neg h2]
  clear had1
  have cs : ∀ k, k ∈ tL (a + 1) b c → k = 47 ∨ k = 50 + a ∨ (k ∈ tL a b c ∧ k ≠ 47 ∧ k ≠ 50 + a) := fun k hk => by
    by_cases h1 : k = 47
    · exact Or.inl h1
    by_cases h2 : k = 50 + a
    · exact Or.inr (Or.inl h2)
    refine Or.inr (Or.inr ⟨?_, h1, h2⟩)
    rcases tL_cases hk with h | h | ⟨i, h, rfl⟩ | ⟨i, h, rfl⟩ | ⟨i, h, rfl⟩
    · exact tL_c h
    · exact tL_H h
    · exact tL_Ing (by omega)
    · exact tL_Mixr (by omega)
    · exact tL_Bat (by omega)
  have from_ : ∀ k, k ∈ tL (a + 1) b c → ad1 k = p ∨ ∃ j ∈ (tL a b c ++ [34]), ad1 k = ad j := fun k hk => by
    rcases cs k hk with rfl | rfl | ⟨h1, h2, h3⟩
    · exact Or.inl e1
    · exact Or.inr ⟨34, m34, e2⟩
    · exact Or.inr ⟨k, m0 h1, e3 k h2 h3⟩
  refine ⟨ad1, ⟨⟨tL_nd (by omega) (by omega) (by omega), fun k hk => hk, fun i j hi hj e => ?_⟩, fun k hk => ?_, by omega, by omega, by omega, by omega⟩, iw_mk (fun k hk => ?_), fun k hk => ?_, e3 40 (by decide) (by omega), e3 0 (by decide) (by omega), e2, from_⟩
  · have n34 : ∀ k, k ∈ tL a b c → ad k ≠ ad 34 := fun k hk e => (tL_lt hb3.1 hb3.2.1 hb3.2.2.1 hk).1 (hM.1.2.2 k 34 (m0 hk) m34 e)
    rcases cs i hi with rfl | rfl | ⟨h1, h2, h3⟩ <;> rcases cs j hj with rfl | rfl | ⟨g1, g2, g3⟩
    · rfl
    · rw [e1, e2] at e; exact absurd e.symm (hpn 34 m34)
    · rw [e1, e3 j g2 g3] at e; exact absurd e.symm (hpn j (m0 g1))
    · rw [e1, e2] at e; exact absurd e (hpn 34 m34)
    · rfl
    · rw [e2, e3 j g2 g3] at e; exact absurd e.symm (n34 j g1)
    · rw [e1, e3 i h2 h3] at e; exact absurd e (hpn i (m0 h1))
    · rw [e2, e3 i h2 h3] at e; exact absurd e (n34 i h1)
    · rw [e3 i h2 h3, e3 j g2 g3] at e; exact hM.1.2.2 i j (m0 h1) (m0 g1) e
  · rcases from_ k hk with h | ⟨j, h1, h2⟩
    · rw [h]; exact fun z => hbA (z ▸ hD.2 _ _ hend)
    · rw [h2]; exact hM.2.1 j h1
  · have h33 : ∀ j, j < 33 → ad1 j = ad j := fun j hj => e3 j (by omega) (by omega)
    have l40 : va_at G vwCl (ad 40, .inr (5, [.ref (ad 0), .ref bS, .int (K 40 2), .ref p, .ref (ad 48), .ref (ad 49), .ref (ad 42), .ref (ad 46), .ref (ad 43), .ref (ad 44), .ref (ad 45)])) H := by
      obtain ⟨i, -, e9, h1, -, h2⟩ := hin 40 (m0 (tL_c (by decide)))
      rw [← h2 rfl]
      exact hP _ _ h1
    by_cases k33 : k < 33
    · have h := la k (m0 (tL_H k33)) (by omega)
      rw [cellA_H k33] at h ⊢
      rw [h33 k k33]
      exact at_low h33 k33 h
    rw [cellA_T (by omega)]
    rcases tL_cases hk with hc | hc | ⟨i, hc, rfl⟩ | ⟨i, hc, rfl⟩ | ⟨i, hc, rfl⟩
    · have hc0 := hc
      simp only [List.mem_cons, List.not_mem_nil, or_false] at hc
      have kn : k ≠ 50 + a := by omega
      rw [va_up_ne _ _ kn]
      by_cases ko : k = 47
      · subst ko
        rw [e1, cellT_47]
        refine at_rf (hP _ _ hend) (fun j hj => ?_)
        rw [hg j hj, if_pos hj]
        by_cases jn : j < a
        · rw [if_pos jn, e3 (50 + j) (by omega) (by omega)]
        · have jq : j = a := by omega
          rw [if_neg jn, jq, e2]
      · rw [e3 k ko kn]
        by_cases k40 : k = 40
        · subst k40
          rw [cellT_40, e3 0 (by decide) (by omega), e1, e3 48 (by decide) (by omega), e3 49 (by decide) (by omega), e3 42 (by decide) (by omega), e3 46 (by decide) (by omega), e3 43 (by decide) (by omega), e3 44 (by decide) (by omega), e3 45 (by decide) (by omega)]
          exact l40
        · have h := la k (m0 (tL_c hc0)) k40
          rw [cellA_T (by omega)] at h
          rcases hc with rfl | rfl | rfl | rfl | rfl | rfl | rfl | rfl | rfl
          · exact absurd rfl k40
          · exact h
          · exact h
          · exact h
          · exact h
          · exact h
          · first
              | exact absurd rfl ko
              | (rw [cellT_47] at h ⊢; exact at_rf h (fun j hj => by rw [if_pos hj, if_pos hj, e3 _ (by omega) (by omega)]))
          · first
              | exact absurd rfl ko
              | (rw [cellT_48] at h ⊢; exact at_rf h (fun j hj => by rw [if_pos hj, if_pos hj, e3 _ (by omega) (by omega)]))
          · first
              | exact absurd rfl ko
              | (rw [cellT_49] at h ⊢; exact at_rf h (fun j hj => by rw [if_pos hj, if_pos hj, e3 _ (by omega) (by omega)]))
    · exact absurd hc k33
    · rw [cellT_row (ad := ad) (a := a) (b := b) (c := c) (d := d) (r := 5) (Or.inr (Or.inr (Or.inr (Or.inr (by omega)))))]
      by_cases ie : i = a
      · rw [ie, e2, va_up_self]
        have h := la 34 m34 (by decide)
        rw [cellA_T (by decide), cellT_34] at h
        rw [cellT_Ing ad cy bS a b c d 5 (by omega)]
        exact h
      · rw [e3 _ (by omega) (by omega), va_up_ne _ _ (by omega)]
        have h := la (50 + i) (m0 (tL_Ing (by omega))) (by omega)
        rw [cellA_T (by omega)] at h
        exact h
    · rw [cellT_row (ad := ad) (a := a) (b := b) (c := c) (d := d) (r := 5) (Or.inr (Or.inr (Or.inr (Or.inr (by omega)))))]
      rw [e3 _ (by omega) (by omega), va_up_ne _ _ (by omega)]
      have h := la (60 + i) (m0 (tL_Mixr (by omega))) (by omega)
      rw [cellA_T (by omega)] at h
      exact h
    · rw [cellT_row (ad := ad) (a := a) (b := b) (c := c) (d := d) (r := 5) (Or.inr (Or.inr (Or.inr (Or.inr (by omega)))))]
      rw [e3 _ (by omega) (by omega), va_up_ne _ _ (by omega)]
      have h := la (70 + i) (m0 (tL_Bat (by omega))) (by omega)
      rw [cellA_T (by omega)] at h
      exact h
  · rcases from_ k hk with h | ⟨j, h1, h2⟩
    · rw [h]; exact hD.2 _ _ hend
    · obtain ⟨i, -, e9, h3, -⟩ := hin j h1
      rw [h2]; exact hD.2 _ _ h3
theorem t_plus_M {p q40 : Nat} {g : Nat → Option Nat} (hlt : b < 5) (hM : tOK (tL a b c ++ [34]) a b c d bS ad) (hq : (tL a b c ++ [34])[q40]? = some 40) (hP : va_P G vwCl ((iwT (tL a b c ++ [34]) ad cy bS a b c d 10 I D K M ++ [(p, (.inl (cy 5, b + 1, .inr (.inr (.inr (.inr g)))) : va_E))]).set q40 (ad 40, (.inr (5, [.ref (ad 0), .ref bS, .int (K 40 2), .ref (ad 47), .ref p, .ref (ad 49), .ref (ad 42), .ref (ad 46), .ref (ad 43), .ref (ad 44), .ref (ad 45)]) : va_E))) H) (hD : va_D A ((iwT (tL a b c ++ [34]) ad cy bS a b c d 10 I D K M ++ [(p, (.inl (cy 5, b + 1, .inr (.inr (.inr (.inr g)))) : va_E))]).set q40 (ad 40, (.inr (5, [.ref (ad 0), .ref bS, .int (K 40 2), .ref (ad 47), .ref p, .ref (ad 49), .ref (ad 42), .ref (ad 46), .ref (ad 43), .ref (ad 44), .ref (ad 45)]) : va_E)))) (hg : ∀ j, j < b + 1 → g j = if j < b then some (ad (60 + j)) else some (ad 34)) (hbA : ¬ A bS) (r1 : Nat) : ∃ ad1 : Nat → Nat, tOK (tL a (b + 1) c) a (b + 1) c d bS ad1 ∧ va_P G vwCl (iwT (tL a (b + 1) c) ad1 cy bS a (b + 1) c d r1 I D (va_up K (60 + b) (K 34)) M) H ∧ (∀ k ∈ tL a (b + 1) c, A (ad1 k)) ∧ ad1 40 = ad 40 ∧ ad1 0 = ad 0 ∧ ad1 (60 + b) = ad 34 ∧ (∀ k ∈ tL a (b + 1) c, ad1 k = p ∨ ∃ j ∈ (tL a b c ++ [34]), ad1 k = ad j) := by
  have hb3 := hM.2.2
  have hl : (iwT (tL a b c ++ [34]) ad cy bS a b c d 10 I D K M).length = (tL a b c ++ [34]).length := List.length_map _
  have hql := (List.getElem?_eq_some_iff.mp hq).1
  have hend : ((iwT (tL a b c ++ [34]) ad cy bS a b c d 10 I D K M ++ [(p, (.inl (cy 5, b + 1, .inr (.inr (.inr (.inr g)))) : va_E))]).set q40 (ad 40, (.inr (5, [.ref (ad 0), .ref bS, .int (K 40 2), .ref (ad 47), .ref p, .ref (ad 49), .ref (ad 42), .ref (ad 46), .ref (ad 43), .ref (ad 44), .ref (ad 45)]) : va_E)))[(tL a b c ++ [34]).length]? = some (p, .inl (cy 5, b + 1, .inr (.inr (.inr (.inr g))))) := by
    rw [List.getElem?_set_ne (by omega), ← hl]
    exact List.getElem?_concat_length
  have hin : ∀ k ∈ (tL a b c ++ [34]), ∃ i, i < (tL a b c ++ [34]).length ∧ ∃ e, ((iwT (tL a b c ++ [34]) ad cy bS a b c d 10 I D K M ++ [(p, (.inl (cy 5, b + 1, .inr (.inr (.inr (.inr g)))) : va_E))]).set q40 (ad 40, (.inr (5, [.ref (ad 0), .ref bS, .int (K 40 2), .ref (ad 47), .ref p, .ref (ad 49), .ref (ad 42), .ref (ad 46), .ref (ad 43), .ref (ad 44), .ref (ad 45)]) : va_E)))[i]? = some (ad k, e) ∧ (k ≠ 40 → e = cellA ad cy bS a b c d 10 I D K M k) ∧ (k = 40 → e = .inr (5, [.ref (ad 0), .ref bS, .int (K 40 2), .ref (ad 47), .ref p, .ref (ad 49), .ref (ad 42), .ref (ad 46), .ref (ad 43), .ref (ad 44), .ref (ad 45)])) := fun k hk => by
    obtain ⟨i, hi⟩ := List.getElem?_of_mem hk
    have hil := (List.getElem?_eq_some_iff.mp hi).1
    by_cases e : i = q40
    · subst e
      have ek : k = 40 := Option.some.inj (hi.symm.trans hq)
      subst ek
      exact ⟨i, hil, _, List.getElem?_set_self (by rw [List.length_append, hl]; omega), fun z => absurd rfl z, fun _ => rfl⟩
    · have ek : k ≠ 40 := fun z => e (nd_inj hM.1.1 hi (z ▸ hq))
      exact ⟨i, hil, _, by rw [List.getElem?_set_ne (Ne.symm e), List.getElem?_append_left (by rw [hl]; exact hil)]; exact iw_get hi, fun _ => rfl, fun z => absurd z ek⟩
  have hpn : ∀ k ∈ (tL a b c ++ [34]), ad k ≠ p := fun k hk e => by
    obtain ⟨i, hi, e1, h1, -⟩ := hin k hk
    have := hD.1 _ _ _ _ h1 hend e
    omega
  have la : ∀ k ∈ (tL a b c ++ [34]), k ≠ 40 → va_at G vwCl (ad k, cellA ad cy bS a b c d 10 I D K M k) H := fun k hk hn => by
    obtain ⟨i, -, e1, h1, h2, -⟩ := hin k hk
    rw [← h2 hn]
    exact hP _ _ h1
  have m0 : ∀ {k}, k ∈ tL a b c → k ∈ (tL a b c ++ [34]) := fun h => List.mem_append_left _ h
  have m34 : 34 ∈ (tL a b c ++ [34]) := List.mem_append_right _ (by decide)
  obtain ⟨ad1, had1⟩ : ∃ ad1 : Nat → Nat, ad1 = fun k => if k = 48 then p else if k = 60 + b then ad 34 else ad k := ⟨_, rfl⟩
  have e1 : ad1 48 = p := by rw [had1]; exact if_pos rfl
  have e2 : ad1 (60 + b) = ad 34 := by rw [had1]; dsimp only; rw [if_neg (by omega), if_pos rfl]
  have e3 : ∀ k, k ≠ 48 → k ≠ 60 + b → ad1 k = ad k := fun k h1 h2 => by rw [had1]; dsimp only; rw [if_neg h1, if_neg h2]
  clear had1
  have cs : ∀ k, k ∈ tL a (b + 1) c → k = 48 ∨ k = 60 + b ∨ (k ∈ tL a b c ∧ k ≠ 48 ∧ k ≠ 60 + b) := fun k hk => by
    by_cases h1 : k = 48
    · exact Or.inl h1
    by_cases h2 : k = 60 + b
    · exact Or.inr (Or.inl h2)
    refine Or.inr (Or.inr ⟨?_, h1, h2⟩)
    rcases tL_cases hk with h | h | ⟨i, h, rfl⟩ | ⟨i, h, rfl⟩ | ⟨i, h, rfl⟩
    · exact tL_c h
    · exact tL_H h
    · exact tL_Ing (by omega)
    · exact tL_Mixr (by omega)
    · exact tL_Bat (by omega)
  have from_ : ∀ k, k ∈ tL a (b + 1) c → ad1 k = p ∨ ∃ j ∈ (tL a b c ++ [34]), ad1 k = ad j := fun k hk => by
    rcases cs k hk with rfl | rfl | ⟨h1, h2, h3⟩
    · exact Or.inl e1
    · exact Or.inr ⟨34, m34, e2⟩
    · exact Or.inr ⟨k, m0 h1, e3 k h2 h3⟩
  refine ⟨ad1, ⟨⟨tL_nd (by omega) (by omega) (by omega), fun k hk => hk, fun i j hi hj e => ?_⟩, fun k hk => ?_, by omega, by omega, by omega, by omega⟩, iw_mk (fun k hk => ?_), fun k hk => ?_, e3 40 (by decide) (by omega), e3 0 (by decide) (by omega), e2, from_⟩
  · have n34 : ∀ k, k ∈ tL a b c → ad k ≠ ad 34 := fun k hk e => (tL_lt hb3.1 hb3.2.1 hb3.2.2.1 hk).1 (hM.1.2.2 k 34 (m0 hk) m34 e)
    rcases cs i hi with rfl | rfl | ⟨h1, h2, h3⟩ <;> rcases cs j hj with rfl | rfl | ⟨g1, g2, g3⟩
    · rfl
    · rw [e1, e2] at e; exact absurd e.symm (hpn 34 m34)
    · rw [e1, e3 j g2 g3] at e; exact absurd e.symm (hpn j (m0 g1))
    · rw [e1, e2] at e; exact absurd e (hpn 34 m34)
    · rfl
    · rw [e2, e3 j g2 g3] at e; exact absurd e.symm (n34 j g1)
    · rw [e1, e3 i h2 h3] at e; exact absurd e (hpn i (m0 h1))
    · rw [e2, e3 i h2 h3] at e; exact absurd e (n34 i h1)
    · rw [e3 i h2 h3, e3 j g2 g3] at e; exact hM.1.2.2 i j (m0 h1) (m0 g1) e
  · rcases from_ k hk with h | ⟨j, h1, h2⟩
    · rw [h]; exact fun z => hbA (z ▸ hD.2 _ _ hend)
    · rw [h2]; exact hM.2.1 j h1
  · have h33 : ∀ j, j < 33 → ad1 j = ad j := fun j hj => e3 j (by omega) (by omega)
    have l40 : va_at G vwCl (ad 40, .inr (5, [.ref (ad 0), .ref bS, .int (K 40 2), .ref (ad 47), .ref p, .ref (ad 49), .ref (ad 42), .ref (ad 46), .ref (ad 43), .ref (ad 44), .ref (ad 45)])) H := by
      obtain ⟨i, -, e9, h1, -, h2⟩ := hin 40 (m0 (tL_c (by decide)))
      rw [← h2 rfl]
      exact hP _ _ h1
    by_cases k33 : k < 33
    · have h := la k (m0 (tL_H k33)) (by omega)
      rw [cellA_H k33] at h ⊢
      rw [h33 k k33]
      exact at_low h33 k33 h
    rw [cellA_T (by omega)]
    rcases tL_cases hk with hc | hc | ⟨i, hc, rfl⟩ | ⟨i, hc, rfl⟩ | ⟨i, hc, rfl⟩
    · have hc0 := hc
      simp only [List.mem_cons, List.not_mem_nil, or_false] at hc
      have kn : k ≠ 60 + b := by omega
      rw [va_up_ne _ _ kn]
      by_cases ko : k = 48
      · subst ko
        rw [e1, cellT_48]
        refine at_rf (hP _ _ hend) (fun j hj => ?_)
        rw [hg j hj, if_pos hj]
        by_cases jn : j < b
        · rw [if_pos jn, e3 (60 + j) (by omega) (by omega)]
        · have jq : j = b := by omega
          rw [if_neg jn, jq, e2]
      · rw [e3 k ko kn]
        by_cases k40 : k = 40
        · subst k40
          rw [cellT_40, e3 0 (by decide) (by omega), e3 47 (by decide) (by omega), e1, e3 49 (by decide) (by omega), e3 42 (by decide) (by omega), e3 46 (by decide) (by omega), e3 43 (by decide) (by omega), e3 44 (by decide) (by omega), e3 45 (by decide) (by omega)]
          exact l40
        · have h := la k (m0 (tL_c hc0)) k40
          rw [cellA_T (by omega)] at h
          rcases hc with rfl | rfl | rfl | rfl | rfl | rfl | rfl | rfl | rfl
          · exact absurd rfl k40
          · exact h
          · exact h
          · exact h
          · exact h
          · exact h
          · first
              | exact absurd rfl ko
              | (rw [cellT_47] at h ⊢; exact at_rf h (fun j hj => by rw [if_pos hj, if_pos hj, e3 _ (by omega) (by omega)]))
          · first
              | exact absurd rfl ko
              | (rw [cellT_48] at h ⊢; exact at_rf h (fun j hj => by rw [if_pos hj, if_pos hj, e3 _ (by omega) (by omega)]))
          · first
              | exact absurd rfl ko
              | (rw [cellT_49] at h ⊢; exact at_rf h (fun j hj => by rw [if_pos hj, if_pos hj, e3 _ (by omega) (by omega)]))
    · exact absurd hc k33
    · rw [cellT_row (ad := ad) (a := a) (b := b) (c := c) (d := d) (r := 10) (Or.inr (Or.inr (Or.inr (Or.inr (by omega)))))]
      rw [e3 _ (by omega) (by omega), va_up_ne _ _ (by omega)]
      have h := la (50 + i) (m0 (tL_Ing (by omega))) (by omega)
      rw [cellA_T (by omega)] at h
      exact h
    · rw [cellT_row (ad := ad) (a := a) (b := b) (c := c) (d := d) (r := 10) (Or.inr (Or.inr (Or.inr (Or.inr (by omega)))))]
      by_cases ie : i = b
      · rw [ie, e2, va_up_self]
        have h := la 34 m34 (by decide)
        rw [cellA_T (by decide), cellT_34] at h
        rw [cellT_Mixr ad cy bS a b c d 10 (by omega)]
        exact h
      · rw [e3 _ (by omega) (by omega), va_up_ne _ _ (by omega)]
        have h := la (60 + i) (m0 (tL_Mixr (by omega))) (by omega)
        rw [cellA_T (by omega)] at h
        exact h
    · rw [cellT_row (ad := ad) (a := a) (b := b) (c := c) (d := d) (r := 10) (Or.inr (Or.inr (Or.inr (Or.inr (by omega)))))]
      rw [e3 _ (by omega) (by omega), va_up_ne _ _ (by omega)]
      have h := la (70 + i) (m0 (tL_Bat (by omega))) (by omega)
      rw [cellA_T (by omega)] at h
      exact h
  · rcases from_ k hk with h | ⟨j, h1, h2⟩
    · rw [h]; exact hD.2 _ _ hend
    · obtain ⟨i, -, e9, h3, -⟩ := hin j h1
      rw [h2]; exact hD.2 _ _ h3
theorem t_plus_B {p q40 : Nat} {g : Nat → Option Nat} (hlt : c < 12) (hM : tOK (tL a b c ++ [34]) a b c d bS ad) (hq : (tL a b c ++ [34])[q40]? = some 40) (hP : va_P G vwCl ((iwT (tL a b c ++ [34]) ad cy bS a b c d 4 I D K M ++ [(p, (.inl (cy 5, c + 1, .inr (.inr (.inr (.inr g)))) : va_E))]).set q40 (ad 40, (.inr (5, [.ref (ad 0), .ref bS, .int (K 40 2), .ref (ad 47), .ref (ad 48), .ref p, .ref (ad 42), .ref (ad 46), .ref (ad 43), .ref (ad 44), .ref (ad 45)]) : va_E))) H) (hD : va_D A ((iwT (tL a b c ++ [34]) ad cy bS a b c d 4 I D K M ++ [(p, (.inl (cy 5, c + 1, .inr (.inr (.inr (.inr g)))) : va_E))]).set q40 (ad 40, (.inr (5, [.ref (ad 0), .ref bS, .int (K 40 2), .ref (ad 47), .ref (ad 48), .ref p, .ref (ad 42), .ref (ad 46), .ref (ad 43), .ref (ad 44), .ref (ad 45)]) : va_E)))) (hg : ∀ j, j < c + 1 → g j = if j < c then some (ad (70 + j)) else some (ad 34)) (hbA : ¬ A bS) (r1 : Nat) : ∃ ad1 : Nat → Nat, tOK (tL a b (c + 1)) a b (c + 1) d bS ad1 ∧ va_P G vwCl (iwT (tL a b (c + 1)) ad1 cy bS a b (c + 1) d r1 I D (va_up K (70 + c) (K 34)) M) H ∧ (∀ k ∈ tL a b (c + 1), A (ad1 k)) ∧ ad1 40 = ad 40 ∧ ad1 0 = ad 0 ∧ ad1 (70 + c) = ad 34 ∧ (∀ k ∈ tL a b (c + 1), ad1 k = p ∨ ∃ j ∈ (tL a b c ++ [34]), ad1 k = ad j) := by
  have hb3 := hM.2.2
  have hl : (iwT (tL a b c ++ [34]) ad cy bS a b c d 4 I D K M).length = (tL a b c ++ [34]).length := List.length_map _
  have hql := (List.getElem?_eq_some_iff.mp hq).1
  have hend : ((iwT (tL a b c ++ [34]) ad cy bS a b c d 4 I D K M ++ [(p, (.inl (cy 5, c + 1, .inr (.inr (.inr (.inr g)))) : va_E))]).set q40 (ad 40, (.inr (5, [.ref (ad 0), .ref bS, .int (K 40 2), .ref (ad 47), .ref (ad 48), .ref p, .ref (ad 42), .ref (ad 46), .ref (ad 43), .ref (ad 44), .ref (ad 45)]) : va_E)))[(tL a b c ++ [34]).length]? = some (p, .inl (cy 5, c + 1, .inr (.inr (.inr (.inr g))))) := by
    rw [List.getElem?_set_ne (by omega), ← hl]
    exact List.getElem?_concat_length
  have hin : ∀ k ∈ (tL a b c ++ [34]), ∃ i, i < (tL a b c ++ [34]).length ∧ ∃ e, ((iwT (tL a b c ++ [34]) ad cy bS a b c d 4 I D K M ++ [(p, (.inl (cy 5, c + 1, .inr (.inr (.inr (.inr g)))) : va_E))]).set q40 (ad 40, (.inr (5, [.ref (ad 0), .ref bS, .int (K 40 2), .ref (ad 47), .ref (ad 48), .ref p, .ref (ad 42), .ref (ad 46), .ref (ad 43), .ref (ad 44), .ref (ad 45)]) : va_E)))[i]? = some (ad k, e) ∧ (k ≠ 40 → e = cellA ad cy bS a b c d 4 I D K M k) ∧ (k = 40 → e = .inr (5, [.ref (ad 0), .ref bS, .int (K 40 2), .ref (ad 47), .ref (ad 48), .ref p, .ref (ad 42), .ref (ad 46), .ref (ad 43), .ref (ad 44), .ref (ad 45)])) := fun k hk => by
    obtain ⟨i, hi⟩ := List.getElem?_of_mem hk
    have hil := (List.getElem?_eq_some_iff.mp hi).1
    by_cases e : i = q40
    · subst e
      have ek : k = 40 := Option.some.inj (hi.symm.trans hq)
      subst ek
      exact ⟨i, hil, _, List.getElem?_set_self (by rw [List.length_append, hl]; omega), fun z => absurd rfl z, fun _ => rfl⟩
    · have ek : k ≠ 40 := fun z => e (nd_inj hM.1.1 hi (z ▸ hq))
      exact ⟨i, hil, _, by rw [List.getElem?_set_ne (Ne.symm e), List.getElem?_append_left (by rw [hl]; exact hil)]; exact iw_get hi, fun _ => rfl, fun z => absurd z ek⟩
  have hpn : ∀ k ∈ (tL a b c ++ [34]), ad k ≠ p := fun k hk e => by
    obtain ⟨i, hi, e1, h1, -⟩ := hin k hk
    have := hD.1 _ _ _ _ h1 hend e
    omega
  have la : ∀ k ∈ (tL a b c ++ [34]), k ≠ 40 → va_at G vwCl (ad k, cellA ad cy bS a b c d 4 I D K M k) H := fun k hk hn => by
    obtain ⟨i, -, e1, h1, h2, -⟩ := hin k hk
    rw [← h2 hn]
    exact hP _ _ h1
  have m0 : ∀ {k}, k ∈ tL a b c → k ∈ (tL a b c ++ [34]) := fun h => List.mem_append_left _ h
  have m34 : 34 ∈ (tL a b c ++ [34]) := List.mem_append_right _ (by decide)
  obtain ⟨ad1, had1⟩ : ∃ ad1 : Nat → Nat, ad1 = fun k => if k = 49 then p else if k = 70 + c then ad 34 else ad k := ⟨_, rfl⟩
  have e1 : ad1 49 = p := by rw [had1]; exact if_pos rfl
  have e2 : ad1 (70 + c) = ad 34 := by rw [had1]; dsimp only; rw [if_neg (by omega), if_pos rfl]
  have e3 : ∀ k, k ≠ 49 → k ≠ 70 + c → ad1 k = ad k := fun k h1 h2 => by rw [had1]; dsimp only; rw [if_neg h1, if_neg h2]
  clear had1
  have cs : ∀ k, k ∈ tL a b (c + 1) → k = 49 ∨ k = 70 + c ∨ (k ∈ tL a b c ∧ k ≠ 49 ∧ k ≠ 70 + c) := fun k hk => by
    by_cases h1 : k = 49
    · exact Or.inl h1
    by_cases h2 : k = 70 + c
    · exact Or.inr (Or.inl h2)
    refine Or.inr (Or.inr ⟨?_, h1, h2⟩)
    rcases tL_cases hk with h | h | ⟨i, h, rfl⟩ | ⟨i, h, rfl⟩ | ⟨i, h, rfl⟩
    · exact tL_c h
    · exact tL_H h
    · exact tL_Ing (by omega)
    · exact tL_Mixr (by omega)
    · exact tL_Bat (by omega)
  have from_ : ∀ k, k ∈ tL a b (c + 1) → ad1 k = p ∨ ∃ j ∈ (tL a b c ++ [34]), ad1 k = ad j := fun k hk => by
    rcases cs k hk with rfl | rfl | ⟨h1, h2, h3⟩
    · exact Or.inl e1
    · exact Or.inr ⟨34, m34, e2⟩
    · exact Or.inr ⟨k, m0 h1, e3 k h2 h3⟩
  refine ⟨ad1, ⟨⟨tL_nd (by omega) (by omega) (by omega), fun k hk => hk, fun i j hi hj e => ?_⟩, fun k hk => ?_, by omega, by omega, by omega, by omega⟩, iw_mk (fun k hk => ?_), fun k hk => ?_, e3 40 (by decide) (by omega), e3 0 (by decide) (by omega), e2, from_⟩
  · have n34 : ∀ k, k ∈ tL a b c → ad k ≠ ad 34 := fun k hk e => (tL_lt hb3.1 hb3.2.1 hb3.2.2.1 hk).1 (hM.1.2.2 k 34 (m0 hk) m34 e)
    rcases cs i hi with rfl | rfl | ⟨h1, h2, h3⟩ <;> rcases cs j hj with rfl | rfl | ⟨g1, g2, g3⟩
    · rfl
    · rw [e1, e2] at e; exact absurd e.symm (hpn 34 m34)
    · rw [e1, e3 j g2 g3] at e; exact absurd e.symm (hpn j (m0 g1))
    · rw [e1, e2] at e; exact absurd e (hpn 34 m34)
    · rfl
    · rw [e2, e3 j g2 g3] at e; exact absurd e.symm (n34 j g1)
    · rw [e1, e3 i h2 h3] at e; exact absurd e (hpn i (m0 h1))
    · rw [e2, e3 i h2 h3] at e; exact absurd e (n34 i h1)
    · rw [e3 i h2 h3, e3 j g2 g3] at e; exact hM.1.2.2 i j (m0 h1) (m0 g1) e
  · rcases from_ k hk with h | ⟨j, h1, h2⟩
    · rw [h]; exact fun z => hbA (z ▸ hD.2 _ _ hend)
    · rw [h2]; exact hM.2.1 j h1
  · have h33 : ∀ j, j < 33 → ad1 j = ad j := fun j hj => e3 j (by omega) (by omega)
    have l40 : va_at G vwCl (ad 40, .inr (5, [.ref (ad 0), .ref bS, .int (K 40 2), .ref (ad 47), .ref (ad 48), .ref p, .ref (ad 42), .ref (ad 46), .ref (ad 43), .ref (ad 44), .ref (ad 45)])) H := by
      obtain ⟨i, -, e9, h1, -, h2⟩ := hin 40 (m0 (tL_c (by decide)))
      rw [← h2 rfl]
      exact hP _ _ h1
    by_cases k33 : k < 33
    · have h := la k (m0 (tL_H k33)) (by omega)
      rw [cellA_H k33] at h ⊢
      rw [h33 k k33]
      exact at_low h33 k33 h
    rw [cellA_T (by omega)]
    rcases tL_cases hk with hc | hc | ⟨i, hc, rfl⟩ | ⟨i, hc, rfl⟩ | ⟨i, hc, rfl⟩
    · have hc0 := hc
      simp only [List.mem_cons, List.not_mem_nil, or_false] at hc
      have kn : k ≠ 70 + c := by omega
      rw [va_up_ne _ _ kn]
      by_cases ko : k = 49
      · subst ko
        rw [e1, cellT_49]
        refine at_rf (hP _ _ hend) (fun j hj => ?_)
        rw [hg j hj, if_pos hj]
        by_cases jn : j < c
        · rw [if_pos jn, e3 (70 + j) (by omega) (by omega)]
        · have jq : j = c := by omega
          rw [if_neg jn, jq, e2]
      · rw [e3 k ko kn]
        by_cases k40 : k = 40
        · subst k40
          rw [cellT_40, e3 0 (by decide) (by omega), e3 47 (by decide) (by omega), e3 48 (by decide) (by omega), e1, e3 42 (by decide) (by omega), e3 46 (by decide) (by omega), e3 43 (by decide) (by omega), e3 44 (by decide) (by omega), e3 45 (by decide) (by omega)]
          exact l40
        · have h := la k (m0 (tL_c hc0)) k40
          rw [cellA_T (by omega)] at h
          rcases hc with rfl | rfl | rfl | rfl | rfl | rfl | rfl | rfl | rfl
          · exact absurd rfl k40
          · exact h
          · exact h
          · exact h
          · exact h
          · exact h
          · first
              | exact absurd rfl ko
              | (rw [cellT_47] at h ⊢; exact at_rf h (fun j hj => by rw [if_pos hj, if_pos hj, e3 _ (by omega) (by omega)]))
          · first
              | exact absurd rfl ko
              | (rw [cellT_48] at h ⊢; exact at_rf h (fun j hj => by rw [if_pos hj, if_pos hj, e3 _ (by omega) (by omega)]))
          · first
              | exact absurd rfl ko
              | (rw [cellT_49] at h ⊢; exact at_rf h (fun j hj => by rw [if_pos hj, if_pos hj, e3 _ (by omega) (by omega)]))
    · exact absurd hc k33
    · rw [cellT_row (ad := ad) (a := a) (b := b) (c := c) (d := d) (r := 4) (Or.inr (Or.inr (Or.inr (Or.inr (by omega)))))]
      rw [e3 _ (by omega) (by omega), va_up_ne _ _ (by omega)]
      have h := la (50 + i) (m0 (tL_Ing (by omega))) (by omega)
      rw [cellA_T (by omega)] at h
      exact h
    · rw [cellT_row (ad := ad) (a := a) (b := b) (c := c) (d := d) (r := 4) (Or.inr (Or.inr (Or.inr (Or.inr (by omega)))))]
      rw [e3 _ (by omega) (by omega), va_up_ne _ _ (by omega)]
      have h := la (60 + i) (m0 (tL_Mixr (by omega))) (by omega)
      rw [cellA_T (by omega)] at h
      exact h
    · rw [cellT_row (ad := ad) (a := a) (b := b) (c := c) (d := d) (r := 4) (Or.inr (Or.inr (Or.inr (Or.inr (by omega)))))]
      by_cases ie : i = c
      · rw [ie, e2, va_up_self]
        have h := la 34 m34 (by decide)
        rw [cellA_T (by decide), cellT_34] at h
        rw [cellT_Bat ad cy bS a b c d 4 (by omega)]
        exact h
      · rw [e3 _ (by omega) (by omega), va_up_ne _ _ (by omega)]
        have h := la (70 + i) (m0 (tL_Bat (by omega))) (by omega)
        rw [cellA_T (by omega)] at h
        exact h
  · rcases from_ k hk with h | ⟨j, h1, h2⟩
    · rw [h]; exact hD.2 _ _ hend
    · obtain ⟨i, -, e9, h3, -⟩ := hin j h1
      rw [h2]; exact hD.2 _ _ h3
theorem t_sets {q40 : Nat} (hlt : d < 3) (hM : tOK (tL a b c ++ [34]) a b c d bS ad) (hq : (tL a b c ++ [34])[q40]? = some 40) (hP : va_P G vwCl ((iwT (tL a b c ++ [34]) ad cy bS a b c d (d + 1) I D K M).set q40 (ad 40, (.inr (5, [.ref (ad 0), .ref bS, .int (K 40 2), .ref (ad 47), .ref (ad 48), .ref (ad 49), .ref (ad 42), .ref (ad 34), .ref (ad 43), .ref (ad 44), .ref (ad 45)]) : va_E))) H) (hD : va_D A ((iwT (tL a b c ++ [34]) ad cy bS a b c d (d + 1) I D K M).set q40 (ad 40, (.inr (5, [.ref (ad 0), .ref bS, .int (K 40 2), .ref (ad 47), .ref (ad 48), .ref (ad 49), .ref (ad 42), .ref (ad 34), .ref (ad 43), .ref (ad 44), .ref (ad 45)]) : va_E)))) (r1 : Nat) : ∃ ad1 : Nat → Nat, tOK (tL a b c) a b c (d + 1) bS ad1 ∧ va_P G vwCl (iwT (tL a b c) ad1 cy bS a b c (d + 1) r1 I D (va_up K 46 (K 34)) M) H ∧ (∀ k ∈ tL a b c, A (ad1 k)) ∧ ad1 40 = ad 40 ∧ ad1 0 = ad 0 ∧ (∀ k ∈ tL a b c, ∃ j ∈ (tL a b c ++ [34]), ad1 k = ad j) := by
  have hb3 := hM.2.2
  have hl : (iwT (tL a b c ++ [34]) ad cy bS a b c d (d + 1) I D K M).length = (tL a b c ++ [34]).length := List.length_map _
  have hql := (List.getElem?_eq_some_iff.mp hq).1
  have hin : ∀ k ∈ (tL a b c ++ [34]), ∃ i, i < (tL a b c ++ [34]).length ∧ ∃ e, ((iwT (tL a b c ++ [34]) ad cy bS a b c d (d + 1) I D K M).set q40 (ad 40, (.inr (5, [.ref (ad 0), .ref bS, .int (K 40 2), .ref (ad 47), .ref (ad 48), .ref (ad 49), .ref (ad 42), .ref (ad 34), .ref (ad 43), .ref (ad 44), .ref (ad 45)]) : va_E)))[i]? = some (ad k, e) ∧ (k ≠ 40 → e = cellA ad cy bS a b c d (d + 1) I D K M k) ∧ (k = 40 → e = .inr (5, [.ref (ad 0), .ref bS, .int (K 40 2), .ref (ad 47), .ref (ad 48), .ref (ad 49), .ref (ad 42), .ref (ad 34), .ref (ad 43), .ref (ad 44), .ref (ad 45)])) := fun k hk => by
    obtain ⟨i, hi⟩ := List.getElem?_of_mem hk
    have hil := (List.getElem?_eq_some_iff.mp hi).1
    by_cases e : i = q40
    · subst e
      have ek : k = 40 := Option.some.inj (hi.symm.trans hq)
      subst ek
      exact ⟨i, hil, _, List.getElem?_set_self (by rw [hl]; omega), fun z => absurd rfl z, fun _ => rfl⟩
    · have ek : k ≠ 40 := fun z => e (nd_inj hM.1.1 hi (z ▸ hq))
      exact ⟨i, hil, _, by rw [List.getElem?_set_ne (Ne.symm e)]; exact iw_get hi, fun _ => rfl, fun z => absurd z ek⟩
  have la : ∀ k ∈ (tL a b c ++ [34]), k ≠ 40 → va_at G vwCl (ad k, cellA ad cy bS a b c d (d + 1) I D K M k) H := fun k hk hn => by
    obtain ⟨i, -, e1, h1, h2, -⟩ := hin k hk
    rw [← h2 hn]
    exact hP _ _ h1
  have m0 : ∀ {k}, k ∈ tL a b c → k ∈ (tL a b c ++ [34]) := fun h => List.mem_append_left _ h
  have m34 : 34 ∈ (tL a b c ++ [34]) := List.mem_append_right _ (by decide)
  have e1 : va_up ad 46 (ad 34) 46 = ad 34 := va_up_self _ _ _
  have e3 : ∀ k, k ≠ 46 → va_up ad 46 (ad 34) k = ad k := fun k h => va_up_ne _ _ h
  generalize va_up ad 46 (ad 34) = ad1 at e1 e3
  have from_ : ∀ k, k ∈ tL a b c → ∃ j ∈ (tL a b c ++ [34]), ad1 k = ad j := fun k hk => by
    by_cases h : k = 46
    · subst h; exact ⟨34, m34, e1⟩
    · exact ⟨k, m0 hk, e3 k h⟩
  have n34 : ∀ k, k ∈ tL a b c → ad k ≠ ad 34 := fun k hk e => (tL_lt hb3.1 hb3.2.1 hb3.2.2.1 hk).1 (hM.1.2.2 k 34 (m0 hk) m34 e)
  refine ⟨ad1, ⟨⟨tL_nd hb3.1 hb3.2.1 hb3.2.2.1, fun k hk => hk, fun i j hi hj e => ?_⟩, fun k hk => ?_, by omega, by omega, by omega, by omega⟩, iw_mk (fun k hk => ?_), fun k hk => ?_, e3 40 (by decide), e3 0 (by decide), from_⟩
  · by_cases h1 : i = 46 <;> by_cases h2 : j = 46
    · rw [h1, h2]
    · rw [h1, e1, e3 j h2] at e; exact absurd e.symm (n34 j hj)
    · rw [h2, e1, e3 i h1] at e; exact absurd e (n34 i hi)
    · rw [e3 i h1, e3 j h2] at e; exact hM.1.2.2 i j (m0 hi) (m0 hj) e
  · obtain ⟨j, h1, h2⟩ := from_ k hk
    rw [h2]; exact hM.2.1 j h1
  · have h33 : ∀ j, j < 33 → ad1 j = ad j := fun j hj => e3 j (by omega)
    have l40 : va_at G vwCl (ad 40, .inr (5, [.ref (ad 0), .ref bS, .int (K 40 2), .ref (ad 47), .ref (ad 48), .ref (ad 49), .ref (ad 42), .ref (ad 34), .ref (ad 43), .ref (ad 44), .ref (ad 45)])) H := by
      obtain ⟨i, -, e9, h1, -, h2⟩ := hin 40 (m0 (tL_c (by decide)))
      rw [← h2 rfl]
      exact hP _ _ h1
    by_cases k33 : k < 33
    · have h := la k (m0 (tL_H k33)) (by omega)
      rw [cellA_H k33] at h ⊢
      rw [h33 k k33]
      exact at_low h33 k33 h
    rw [cellA_T (by omega)]
    by_cases k46 : k = 46
    · subst k46
      rw [e1, va_up_self, cellT_46]
      have h := la 34 m34 (by decide)
      rw [cellA_T (by decide), cellT_34] at h
      exact h
    rw [e3 k k46, va_up_ne _ _ k46]
    by_cases k40 : k = 40
    · subst k40
      rw [cellT_40, e3 0 (by decide), e3 47 (by decide), e3 48 (by decide), e3 49 (by decide), e3 42 (by decide), e1, e3 43 (by decide), e3 44 (by decide), e3 45 (by decide)]
      exact l40
    have h := la k (m0 hk) k40
    rw [cellA_T (by omega)] at h
    rcases tL_cases hk with hc | hc | ⟨i, hc, rfl⟩ | ⟨i, hc, rfl⟩ | ⟨i, hc, rfl⟩
    · simp only [List.mem_cons, List.not_mem_nil, or_false] at hc
      rcases hc with rfl | rfl | rfl | rfl | rfl | rfl | rfl | rfl | rfl
      · exact absurd rfl k40
      · exact h
      · exact h
      · exact h
      · exact h
      · exact absurd rfl k46
      · rw [cellT_47] at h ⊢; exact at_rf h (fun j hj => by rw [if_pos hj, if_pos hj, e3 _ (by omega)])
      · rw [cellT_48] at h ⊢; exact at_rf h (fun j hj => by rw [if_pos hj, if_pos hj, e3 _ (by omega)])
      · rw [cellT_49] at h ⊢; exact at_rf h (fun j hj => by rw [if_pos hj, if_pos hj, e3 _ (by omega)])
    · exact absurd hc k33
    all_goals
      rw [cellT_row (ad := ad) (a := a) (b := b) (c := c) (d := d) (r := d + 1) (Or.inr (Or.inr (Or.inr (Or.inr (by omega)))))]
      exact h
  · obtain ⟨j, h1, h2⟩ := from_ k hk
    obtain ⟨i, -, e9, h3, -⟩ := hin j h1
    rw [h2]; exact hD.2 _ _ h3
theorem plus_I (hM : tOK (tL a b c ++ [34]) a b c d bS ad) (hP : va_P G vwCl (iwT (tL a b c ++ [34]) ad cy bS a b c d r I D K M) H) : va_P G vwCl [(ad 47, .inl (cy 5, a, .inr (.inr (.inr (.inr (fun j => if j < a then some (ad (50 + j)) else none)))))), (ad 34, .inl (cy 0, r, .inl (K 34)))] H ∧ ∀ i : Nat, i < a → ∀ y : Nat, (if i < a then some (ad (50 + i)) else none) = some y → ∃ (k : Nat) (z : Nat → Value), H[y]? = some (arrV (cy 0) k z) := by
  have m0 : ∀ {k}, k ∈ tL a b c → k ∈ tL a b c ++ [34] := fun h => List.mem_append_left _ h
  have h1 := iw_of (c := cellA ad cy bS a b c d r I D K M) hP (m0 (tL_c (k := 47) (by decide)))
  have h2 := iw_of (c := cellA ad cy bS a b c d r I D K M) hP (List.mem_append_right (tL a b c) (show 34 ∈ [34] by decide))
  rw [cellA_T (by decide)] at h1 h2
  rw [cellT_47] at h1
  rw [cellT_34] at h2
  refine ⟨fun k x hx => ?_, fun i hi y hy => ?_⟩
  · match k, hx with
    | 0, hx => cases hx; exact h1
    | 1, hx => cases hx; exact h2
  · rw [if_pos hi] at hy
    cases hy
    have h3 := iw_of (c := cellA ad cy bS a b c d r I D K M) hP (m0 (tL_Ing hi))
    rw [cellA_T (by omega), cellT_Ing ad cy bS a b c d r (by have := hM.2.2; omega)] at h3
    have h4 : H[ad (50 + i)]? = some (vp_cell (cy 0) (5, .inl (K (50 + i)))) := h3
    exact ⟨5, fun j => .int (K (50 + i) j), by rw [h4, vp_cell_i]⟩
theorem plus_M (hM : tOK (tL a b c ++ [34]) a b c d bS ad) (hP : va_P G vwCl (iwT (tL a b c ++ [34]) ad cy bS a b c d r I D K M) H) : va_P G vwCl [(ad 48, .inl (cy 5, b, .inr (.inr (.inr (.inr (fun j => if j < b then some (ad (60 + j)) else none)))))), (ad 34, .inl (cy 0, r, .inl (K 34)))] H ∧ ∀ i : Nat, i < b → ∀ y : Nat, (if i < b then some (ad (60 + i)) else none) = some y → ∃ (k : Nat) (z : Nat → Value), H[y]? = some (arrV (cy 0) k z) := by
  have m0 : ∀ {k}, k ∈ tL a b c → k ∈ tL a b c ++ [34] := fun h => List.mem_append_left _ h
  have h1 := iw_of (c := cellA ad cy bS a b c d r I D K M) hP (m0 (tL_c (k := 48) (by decide)))
  have h2 := iw_of (c := cellA ad cy bS a b c d r I D K M) hP (List.mem_append_right (tL a b c) (show 34 ∈ [34] by decide))
  rw [cellA_T (by decide)] at h1 h2
  rw [cellT_48] at h1
  rw [cellT_34] at h2
  refine ⟨fun k x hx => ?_, fun i hi y hy => ?_⟩
  · match k, hx with
    | 0, hx => cases hx; exact h1
    | 1, hx => cases hx; exact h2
  · rw [if_pos hi] at hy
    cases hy
    have h3 := iw_of (c := cellA ad cy bS a b c d r I D K M) hP (m0 (tL_Mixr hi))
    rw [cellA_T (by omega), cellT_Mixr ad cy bS a b c d r (by have := hM.2.2; omega)] at h3
    have h4 : H[ad (60 + i)]? = some (vp_cell (cy 0) (10, .inl (K (60 + i)))) := h3
    exact ⟨10, fun j => .int (K (60 + i) j), by rw [h4, vp_cell_i]⟩
theorem plus_B (hM : tOK (tL a b c ++ [34]) a b c d bS ad) (hP : va_P G vwCl (iwT (tL a b c ++ [34]) ad cy bS a b c d r I D K M) H) : va_P G vwCl [(ad 49, .inl (cy 5, c, .inr (.inr (.inr (.inr (fun j => if j < c then some (ad (70 + j)) else none)))))), (ad 34, .inl (cy 0, r, .inl (K 34)))] H ∧ ∀ i : Nat, i < c → ∀ y : Nat, (if i < c then some (ad (70 + i)) else none) = some y → ∃ (k : Nat) (z : Nat → Value), H[y]? = some (arrV (cy 0) k z) := by
  have m0 : ∀ {k}, k ∈ tL a b c → k ∈ tL a b c ++ [34] := fun h => List.mem_append_left _ h
  have h1 := iw_of (c := cellA ad cy bS a b c d r I D K M) hP (m0 (tL_c (k := 49) (by decide)))
  have h2 := iw_of (c := cellA ad cy bS a b c d r I D K M) hP (List.mem_append_right (tL a b c) (show 34 ∈ [34] by decide))
  rw [cellA_T (by decide)] at h1 h2
  rw [cellT_49] at h1
  rw [cellT_34] at h2
  refine ⟨fun k x hx => ?_, fun i hi y hy => ?_⟩
  · match k, hx with
    | 0, hx => cases hx; exact h1
    | 1, hx => cases hx; exact h2
  · rw [if_pos hi] at hy
    cases hy
    have h3 := iw_of (c := cellA ad cy bS a b c d r I D K M) hP (m0 (tL_Bat hi))
    rw [cellA_T (by omega), cellT_Bat ad cy bS a b c d r (by have := hM.2.2; omega)] at h3
    have h4 : H[ad (70 + i)]? = some (vp_cell (cy 0) (4, .inl (K (70 + i)))) := h3
    exact ⟨4, fun j => .int (K (70 + i) j), by rw [h4, vp_cell_i]⟩
end TGE
/-- what a call that tells something more may do to the addresses -/
def tX (L L1 : List Nat) (ad ad1 : Nat → Nat) (sz : Nat) : Prop := (∀ k ∈ L1, AT L ad sz (ad1 k)) ∧ ad1 40 = ad 40 ∧ ad1 0 = ad 0
theorem tX.rf {L : List Nat} {ad : Nat → Nat} {sz : Nat} : tX L L ad ad sz := ⟨fun k hk => Or.inl ⟨k, hk, rfl⟩, rfl, rfl⟩
theorem tX.trans {L L1 L2 : List Nat} {ad ad1 ad2 : Nat → Nat} {sz sz1 : Nat} (h1 : tX L L1 ad ad1 sz) (h2 : tX L1 L2 ad1 ad2 sz1) (hs : sz ≤ sz1) : tX L L2 ad ad2 sz := ⟨fun k hk => by
    rcases h2.1 k hk with ⟨j, j1, j2⟩ | h
    · rw [← j2]; exact h1.1 j j1
    · exact Or.inr (Nat.le_trans hs h), h2.2.1.trans h1.2.1, h2.2.2.trans h1.2.2⟩
section RAL
variable {p : Program} {l : Launch} {e : Env} {R : Room} {s : State} {m : MethodId} {args : Array Value} {below : List Frame} {meth : Method} {c : Code} {H : Heap} {locs : List Loc} {cells slots : Nat} {Q : State → Prop}
variable {cc : ByteArray} {pc : Nat} {ls : Array Slot} {rest : List Value} {D : va_G} {cl : List vw_C} {a : Nat} {cy : Nat → ClassId} {ws : va_W}
theorem ra_lda (bs : Nat) {ad : Nat → Nat} (hexec : p.tables.exec = Jvm.exec) (hb : c.code = cc) (hK : va_K D cl (tysA cy) s) (hP : va_P D cl ws H) (q0 : Nat) {n : Nat} (ha : ws[q0]? = some (a, .inl (cy 5, n, .inr (.inr (.inr (.inr (fun j => if j < n then some (ad (bs + j)) else none))))))) {i : Int32} (hin : vp_in i n) (hdg : decode cc pc = .ok (.aaload, 1))
    (kk : W p l e R s m args below meth c H locs cells slots Q (F0 m (pc + 1) ls (.ref (ad (bs + i.toNatClampNeg)) :: rest))) : W p l e R s m args below meth c H locs cells slots Q (F0 m pc ls (.int i :: .ref a :: rest)) := by
  refine ra_ld hexec hb hK hP q0 ha hin hdg ?_
  rw [if_pos (Nat.not_le.mp fun q => hin (Or.inr q))]
  exact kk
end RAL
