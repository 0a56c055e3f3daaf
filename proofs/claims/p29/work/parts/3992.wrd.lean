/-! ===== what is put in: put, mix, ingredient ===== -/
section WRD
variable {x : Int32} {a b c d h : Nat} {I J : MI} {D E : MD}
/- RM1 of a mix that may still be empty, without the freezing -/
def RM0 (x : Int32) (a c k : Nat) (I J : MI) : Prop :=
  (J (20 + k) 1 = I (13 + k) 1 ∧ J (20 + k) 3 + x = I (13 + k) 8) ∧
  (∀ i, i < 6 → 0 ≤ (J (25 + k) i).toInt ∧ (J (25 + k) i).toInt ≤ (I (13 + k) 0).toInt ∧ (a ≤ i → J (25 + k) i = 0)) ∧
  (0 ≤ (I (13 + k) 0).toInt ∧ (I (13 + k) 0).toInt ≤ 500) ∧
  I (13 + k) 0 = sF (J (25 + k)) 0 6 ∧
  (∀ w, w < 4 → I (13 + k) (2 + w) = sF (fun i => J (25 + k) i * J (14 + i) w) 0 6) ∧
  (∀ w, w < 3 → 0 ≤ (I (13 + k) (2 + w)).toInt ∧ (I (13 + k) (2 + w)).toInt ≤ 1000 * (I (13 + k) 0).toInt) ∧
  I (13 + k) 6 = oF (fun i => if J (25 + k) i ≤ 0 then 0 else J (14 + i) 4) 0 6 ∧
  I (13 + k) 7 = oF (fun i => if J (25 + k) i ≤ 0 then 0 else (1 <<< (nI i &&& 31))) 0 6 ∧
  I (13 + k) 9 = nI (cB I k c)
set_option maxRecDepth 20000 in
theorem RM1.rm0 {k : Nat} (q : RM1 x a c k I D J) : RM0 x a c k I J := by
  obtain ⟨⟨m1, m2, m3, m4⟩, h5, ⟨h6, h7⟩, h8, h9, h10, h11, h12, h13, h14⟩ := q
  exact ⟨⟨m1, m4⟩, h5, ⟨by omega, h7⟩, h8, h9, h10, h11, h12, h13⟩
/- the class's mix k with w kilograms of ingredient i more -/
def aI (I : MI) (k i : Nat) (w : Int32) : MI := up2 (up2 (up2 (up2 (up2 (up2 (up2 (up2 (up2 I (13 + k) 0 (I (13 + k) 0 + w)) (13 + k) 1 (I (13 + k) 1 + w)) (13 + k) 2 (I (13 + k) 2 + w * I (7 + i) 0)) (13 + k) 3 (I (13 + k) 3 + w * I (7 + i) 1)) (13 + k) 4 (I (13 + k) 4 + w * I (7 + i) 2)) (13 + k) 5 (I (13 + k) 5 + w * I (7 + i) 3)) (13 + k) 6 (I (13 + k) 6 ||| I (7 + i) 4)) (13 + k) 7 (I (13 + k) 7 ||| (1 <<< (nI i &&& 31)))) (13 + k) 10 0
def aD (I : MI) (D : MD) (k i : Nat) (w : Int32) : MD := up2 D (13 + k) 11 (fF (I (13 + k) 4 + w * I (7 + i) 2) (I (13 + k) 3 + w * I (7 + i) 1) (I (13 + k) 0 + w))
def pJ (J : MI) (k i : Nat) (w : Int32) : MI := up2 (up2 (up2 J (25 + k) i (J (25 + k) i + w)) (20 + k) 1 (J (20 + k) 1 + w)) (20 + k) 2 0
set_option maxRecDepth 20000 in
theorem aI_k {k i : Nat} {w : Int32} {j n : Nat} (hj : j ≠ 13 + k) : aI I k i w j n = I j n := by
  unfold aI
  rw [up2_k _ _ _ _ hj, up2_k _ _ _ _ hj, up2_k _ _ _ _ hj, up2_k _ _ _ _ hj, up2_k _ _ _ _ hj, up2_k _ _ _ _ hj, up2_k _ _ _ _ hj, up2_k _ _ _ _ hj, up2_k _ _ _ _ hj]
set_option maxRecDepth 20000 in
theorem aI_0 {k i : Nat} {w : Int32} : aI I k i w (13 + k) 0 = I (13 + k) 0 + w := by
  unfold aI
  rw [up2_n _ _ _ (by decide), up2_n _ _ _ (by decide), up2_n _ _ _ (by decide), up2_n _ _ _ (by decide), up2_n _ _ _ (by decide), up2_n _ _ _ (by decide), up2_n _ _ _ (by decide), up2_n _ _ _ (by decide), up2_hit]
set_option maxRecDepth 20000 in
theorem aI_1 {k i : Nat} {w : Int32} : aI I k i w (13 + k) 1 = I (13 + k) 1 + w := by
  unfold aI
  rw [up2_n _ _ _ (by decide), up2_n _ _ _ (by decide), up2_n _ _ _ (by decide), up2_n _ _ _ (by decide), up2_n _ _ _ (by decide), up2_n _ _ _ (by decide), up2_n _ _ _ (by decide), up2_hit]
set_option maxRecDepth 20000 in
theorem aI_s {k i : Nat} {w : Int32} {q : Nat} (hq : q < 4) : aI I k i w (13 + k) (2 + q) = I (13 + k) (2 + q) + w * I (7 + i) q := by
  unfold aI
  rcases (show q = 0 ∨ q = 1 ∨ q = 2 ∨ q = 3 by omega) with rfl | rfl | rfl | rfl
  · rw [up2_n _ _ _ (by decide), up2_n _ _ _ (by decide), up2_n _ _ _ (by decide), up2_n _ _ _ (by decide), up2_n _ _ _ (by decide), up2_n _ _ _ (by decide), up2_hit]
  · rw [up2_n _ _ _ (by decide), up2_n _ _ _ (by decide), up2_n _ _ _ (by decide), up2_n _ _ _ (by decide), up2_n _ _ _ (by decide), up2_hit]
  · rw [up2_n _ _ _ (by decide), up2_n _ _ _ (by decide), up2_n _ _ _ (by decide), up2_n _ _ _ (by decide), up2_hit]
  · rw [up2_n _ _ _ (by decide), up2_n _ _ _ (by decide), up2_n _ _ _ (by decide), up2_hit]
set_option maxRecDepth 20000 in
theorem aI_6 {k i : Nat} {w : Int32} : aI I k i w (13 + k) 6 = I (13 + k) 6 ||| I (7 + i) 4 := by
  unfold aI
  rw [up2_n _ _ _ (by decide), up2_n _ _ _ (by decide), up2_hit]
set_option maxRecDepth 20000 in
theorem aI_7 {k i : Nat} {w : Int32} : aI I k i w (13 + k) 7 = I (13 + k) 7 ||| (1 <<< (nI i &&& 31)) := by
  unfold aI
  rw [up2_n _ _ _ (by decide), up2_hit]
set_option maxRecDepth 20000 in
theorem aI_8 {k i : Nat} {w : Int32} {n : Nat} (h1 : 8 ≤ n) (h2 : n ≠ 10) : aI I k i w (13 + k) n = I (13 + k) n := by
  unfold aI
  rw [up2_n _ _ _ h2, up2_n _ _ _ (by omega), up2_n _ _ _ (by omega), up2_n _ _ _ (by omega), up2_n _ _ _ (by omega), up2_n _ _ _ (by omega), up2_n _ _ _ (by omega), up2_n _ _ _ (by omega), up2_n _ _ _ (by omega)]
set_option maxRecDepth 20000 in
theorem aI_10 {k i : Nat} {w : Int32} : aI I k i w (13 + k) 10 = 0 := by
  unfold aI
  rw [up2_hit]
set_option maxRecDepth 20000 in
theorem addC {k i : Nat} (hk : k < 5) (hi : i < 6) {w : Int32} (h1 : 1 ≤ (I (13 + k) 0 + w).toInt) (m1 : 0 ≤ (I (13 + k) 3 + w * I (7 + i) 1).toInt) (m2 : (I (13 + k) 3 + w * I (7 + i) 1).toInt ≤ 1000 * (I (13 + k) 0 + w).toInt) (s1 : 0 ≤ (I (13 + k) 4 + w * I (7 + i) 2).toInt) (s2 : (I (13 + k) 4 + w * I (7 + i) 2).toInt ≤ 1000 * (I (13 + k) 0 + w).toInt) : f_X2_add I D k i (nI i) w = some (aI I k i w, aD I D k i w) := by
  have k7 : (7 + i = 13 + k) = False := eq_false (by omega)
  have e0 : aI I k i w (13 + k) 0 = I (13 + k) 0 + w := aI_0
  have e3 : aI I k i w (13 + k) 3 = I (13 + k) 3 + w * I (7 + i) 1 := aI_s (q := 1) (by decide)
  have e4 : aI I k i w (13 + k) 4 = I (13 + k) 4 + w * I (7 + i) 2 := aI_s (q := 2) (by decide)
  have p4 : f_X2_percent (aI I k i w) D k (I (13 + k) 4 + w * I (7 + i) 2) = some (fP (I (13 + k) 4 + w * I (7 + i) 2) (I (13 + k) 0 + w)) := by
    rw [perc (by rw [e0]; exact h1) s1 (by rw [e0]; exact s2), e0]
  have p3 : f_X2_percent (aI I k i w) D k (I (13 + k) 3 + w * I (7 + i) 1) = some (fP (I (13 + k) 3 + w * I (7 + i) 1) (I (13 + k) 0 + w)) := by
    rw [perc (by rw [e0]; exact h1) m1 (by rw [e0]; exact m2), e0]
  unfold f_X2_add
  simp only [nm_v]
  have c1 : up2 I (13 + k) 0 (I (13 + k) 0 + w) (13 + k) 1 = I (13 + k) 1 := up2_n _ _ _ (by decide)
  have hA : ∀ (F : MI → Option (MI × MD)), F (aI I k i w) = some (aI I k i w, aD I D k i w) → F (aI I k i w) = some (aI I k i w, aD I D k i w) := fun _ q => q
  simp only [up2_ap, k7, false_and, if_false, true_and, show ((1 : Nat) = 0) = False from eq_false (by decide), show ((2 : Nat) = 0) = False from eq_false (by decide), show ((2 : Nat) = 1) = False from eq_false (by decide), show ((3 : Nat) = 0) = False from eq_false (by decide), show ((3 : Nat) = 1) = False from eq_false (by decide), show ((3 : Nat) = 2) = False from eq_false (by decide), show ((4 : Nat) = 0) = False from eq_false (by decide), show ((4 : Nat) = 1) = False from eq_false (by decide), show ((4 : Nat) = 2) = False from eq_false (by decide), show ((4 : Nat) = 3) = False from eq_false (by decide), show ((5 : Nat) = 0) = False from eq_false (by decide), show ((5 : Nat) = 1) = False from eq_false (by decide), show ((5 : Nat) = 2) = False from eq_false (by decide), show ((5 : Nat) = 3) = False from eq_false (by decide), show ((5 : Nat) = 4) = False from eq_false (by decide), show ((6 : Nat) = 0) = False from eq_false (by decide), show ((6 : Nat) = 1) = False from eq_false (by decide), show ((6 : Nat) = 2) = False from eq_false (by decide), show ((6 : Nat) = 3) = False from eq_false (by decide), show ((6 : Nat) = 4) = False from eq_false (by decide), show ((6 : Nat) = 5) = False from eq_false (by decide), show ((7 : Nat) = 0) = False from eq_false (by decide), show ((7 : Nat) = 1) = False from eq_false (by decide), show ((7 : Nat) = 2) = False from eq_false (by decide), show ((7 : Nat) = 3) = False from eq_false (by decide), show ((7 : Nat) = 4) = False from eq_false (by decide), show ((7 : Nat) = 5) = False from eq_false (by decide), show ((7 : Nat) = 6) = False from eq_false (by decide), show ((4 : Nat) = 10) = False from eq_false (by decide), show ((4 : Nat) = 7) = False from eq_false (by decide), show ((4 : Nat) = 6) = False from eq_false (by decide), show ((4 : Nat) = 5) = False from eq_false (by decide), show ((3 : Nat) = 10) = False from eq_false (by decide), show ((3 : Nat) = 7) = False from eq_false (by decide), show ((3 : Nat) = 6) = False from eq_false (by decide), show ((3 : Nat) = 5) = False from eq_false (by decide), show ((3 : Nat) = 4) = False from eq_false (by decide), if_true]
  show bd (f_X2_percent (aI I k i w) D k (I (13 + k) 4 + w * I (7 + i) 2)) _ = _
  rw [p4, bd_s, (fF_1 h1 s1 s2).okD, ckt]
  show bd (f_X2_percent (aI I k i w) D k (I (13 + k) 3 + w * I (7 + i) 1)) _ = _
  rw [p3, bd_s, (fF_2 h1 m1 m2).okD, ckt, (fF_3 h1 s1 s2 m1 m2).okD, ckt]
  rfl
set_option maxRecDepth 20000 in
theorem RM_put {k i : Nat} (q : RM0 x a c k I J) (G : RIng a I J) (ha : a ≤ 6) (hk : k < 5) (hc : c ≤ 12) (hi : i < a) {w : Int32} (w1 : 1 ≤ w.toInt) (w2 : w.toInt ≤ 500) (w3 : (I (13 + k) 0).toInt + w.toInt ≤ 500) : RM1 x a c k (aI I k i w) (aD I D k i w) (pJ J k i w) ∧ f_X2_add I D k i (nI i) w = some (aI I k i w, aD I D k i w) ∧ sF (pJ J k i w (25 + k)) 0 6 = I (13 + k) 0 + w := by
  obtain ⟨⟨m1, m4⟩, h5, ⟨h6, h7⟩, h8, h9, h10, h11, h12, h13⟩ := q
  obtain ⟨g1, g2, g3, g4, g5⟩ := G i hi
  have xJ : ∀ j n, j ≠ 25 + k → j ≠ 20 + k → pJ J k i w j n = J j n := fun j n y1 y2 => by
    unfold pJ
    rw [up2_k _ _ _ _ y2, up2_k _ _ _ _ y2, up2_k _ _ _ _ y1]
  have xJk : ∀ n, n ≠ i → pJ J k i w (25 + k) n = J (25 + k) n := fun n y => by
    unfold pJ
    rw [up2_k _ _ _ _ (by omega), up2_k _ _ _ _ (by omega), up2_n _ _ _ y]
  have xJi : pJ J k i w (25 + k) i = J (25 + k) i + w := by
    unfold pJ
    rw [up2_k _ _ _ _ (by omega), up2_k _ _ _ _ (by omega), up2_hit]
  have eG : ∀ j, j < 6 → pJ J k i w (14 + j) = J (14 + j) := fun j hj => funext (fun n => xJ _ _ (by omega) (by omega))
  obtain ⟨k0, k1, k2⟩ := h5 i (by omega)
  have eK : (I (13 + k) 0 + w).toInt = (I (13 + k) 0).toInt + w.toInt := ia (by omega) (by omega)
  have eJ : (J (25 + k) i + w).toInt = (J (25 + k) i).toInt + w.toInt := ia (by omega) (by omega)
  have hS : ∀ q, q < 3 → (w * I (7 + i) q).toInt = w.toInt * (I (7 + i) q).toInt ∧ 0 ≤ w.toInt * (I (7 + i) q).toInt ∧ w.toInt * (I (7 + i) q).toInt ≤ 1000 * w.toInt := by
    intro q hq
    have y : 0 ≤ (I (7 + i) q).toInt ∧ (I (7 + i) q).toInt ≤ 1000 := by
      rcases (show q = 0 ∨ q = 1 ∨ q = 2 by omega) with rfl | rfl | rfl <;> exact ⟨by omega, by omega⟩
    have y1 : 0 ≤ w.toInt * (I (7 + i) q).toInt := Int.mul_nonneg (by omega) y.1
    have y2 : w.toInt * (I (7 + i) q).toInt ≤ w.toInt * 1000 := Int.mul_le_mul_of_nonneg_left y.2 (by omega)
    exact ⟨im (by omega) (by omega), y1, by omega⟩
  have hT : ∀ q, q < 3 → (I (13 + k) (2 + q) + w * I (7 + i) q).toInt = (I (13 + k) (2 + q)).toInt + w.toInt * (I (7 + i) q).toInt := by
    intro q hq
    obtain ⟨y1, y2, y3⟩ := hS q hq
    obtain ⟨z1, z2⟩ := h10 q hq
    rw [ia (by omega) (by omega), y1]
  have hU : ∀ q, q < 3 → 0 ≤ (I (13 + k) (2 + q) + w * I (7 + i) q).toInt ∧ (I (13 + k) (2 + q) + w * I (7 + i) q).toInt ≤ 1000 * (I (13 + k) 0 + w).toInt := by
    intro q hq
    obtain ⟨y1, y2, y3⟩ := hS q hq
    obtain ⟨z1, z2⟩ := h10 q hq
    rw [hT q hq, eK]
    omega
  have hsum : sF (pJ J k i w (25 + k)) 0 6 = I (13 + k) 0 + w := by
    rw [h8]
    exact sF_plus (p := i) 6 0 (by omega) (by omega) (fun j _ _ y => xJk j y) xJi
  have hpos : ¬ J (25 + k) i + w ≤ 0 := by
    rw [leI, eJ, show (0 : Int32).toInt = 0 by decide]
    omega
  have hor : ∀ (v : Int32), (if J (25 + k) i ≤ 0 then 0 else v) = 0 ∨ (if J (25 + k) i ≤ 0 then 0 else v) = v := by
    intro v
    split
    · exact Or.inl rfl
    · exact Or.inr rfl
  refine ⟨⟨⟨?_, ?_, ?_, ?_⟩, ?_, ⟨?_, ?_⟩, ?_, ?_, ?_, ?_, ?_, ?_, ?_⟩, ?_, hsum⟩
  · rw [aI_1, ← m1]
    unfold pJ
    rw [up2_n _ _ _ (by decide), up2_hit]
  · rw [aI_10]
    unfold pJ
    rw [up2_hit]
  · exact Or.inl aI_10
  · rw [aI_8 (by decide) (by decide)]
    have e : pJ J k i w (20 + k) 3 = J (20 + k) 3 := by
      unfold pJ
      rw [up2_n _ _ _ (by decide), up2_n _ _ _ (by decide), up2_k _ _ _ _ (by omega)]
    rw [e]
    exact m4
  · intro j hj
    obtain ⟨y1, y2, y3⟩ := h5 j hj
    rw [aI_0, eK]
    by_cases e : j = i
    · subst e
      rw [xJi, eJ]
      exact ⟨by omega, by omega, fun y => absurd hi (by omega)⟩
    · rw [xJk j e]
      exact ⟨y1, by omega, y3⟩
  · rw [aI_0, eK]; omega
  · rw [aI_0, eK]; omega
  · rw [aI_0]; exact hsum.symm
  · intro q hq
    rw [aI_s hq, h9 q hq]
    refine (sF_plus (p := i) 6 0 (by omega) (by omega) (fun j _ hj y => ?_) ?_).symm
    · rw [xJk j y, eG j (by omega)]
    · rw [xJi, eG i (by omega), Int32.add_mul, g1 q (by omega)]
  · intro q hq
    rw [aI_s (by omega), aI_0]
    exact hU q hq
  · rw [aI_6, h11]
    refine (oF_plus (p := i) 6 0 (by omega) (by omega) (fun j _ hj y => ?_) ?_ ?_).symm
    · rw [xJk j y, eG j (by omega)]
    · rw [xJi, if_neg hpos, eG i (by omega), g1 4 (by decide)]
    · rw [g1 4 (by decide)]; exact hor _
  · rw [aI_7, h12]
    refine (oF_plus (p := i) 6 0 (by omega) (by omega) (fun j _ hj y => ?_) ?_ ?_).symm
    · rw [xJk j y]
    · rw [xJi, if_neg hpos]
    · exact hor _
  · rw [aI_8 (by decide) (by decide), h13, cB_cong c (fun n hn => aI_k (by omega))]
  · rw [aI_s (q := 2) (by decide), aI_s (q := 1) (by decide), aI_0]
    unfold aD
    rw [up2_hit]
  · exact addC hk (by omega) (by rw [eK]; omega) (hU 1 (by decide)).1 (hU 1 (by decide)).2 (hU 2 (by decide)).1 (hU 2 (by decide)).2
end WRD
