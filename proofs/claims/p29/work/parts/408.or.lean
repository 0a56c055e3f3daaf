/-! ===== orders as functions: the best costs least, and is the least number of those ===== -/
section ORD
set_option maxRecDepth 20000 in
theorem bt_16 : ∀ m, m < 32 → ∀ i, i < 5 → m.testBit i = true → rm m i + 2 ^ i = m := by decide +kernel
def isP (b : Nat) : Nat → (Nat → Nat) → Nat → Prop
  | 0, _, m => m = 0
  | n + 1, g, m => g 0 < b ∧ m.testBit (g 0) = true ∧ isP b n (fun j => g (j + 1)) (rm m (g 0))
def cF (W : Nat → Nat → Nat) : Nat → (Nat → Nat) → Nat → Nat
  | 0, _, _ => 0
  | n + 1, g, l => W l (g 0) + cF W n (fun j => g (j + 1)) (g 0)
def nF : Nat → (Nat → Nat) → Nat → Nat
  | 0, _, o => o
  | n + 1, g, o => nF n (fun j => g (j + 1)) (10 * o + g 0 + 1)
set_option maxRecDepth 20000 in
theorem nF_last : ∀ (n : Nat) (g : Nat → Nat) (o : Nat), nF (n + 1) g o = 10 * nF n g o + g n + 1
  | 0, _, _ => rfl
  | n + 1, g, o => by
    show nF (n + 1) (fun j => g (j + 1)) (10 * o + g 0 + 1) = 10 * nF n (fun j => g (j + 1)) (10 * o + g 0 + 1) + g (n + 1) + 1
    rw [nF_last n]
set_option maxRecDepth 20000 in
theorem nF_ge : ∀ (n : Nat) (g : Nat → Nat) (o : Nat), o * 10 ^ n ≤ nF n g o
  | 0, _, o => by
    show o * 1 ≤ o
    omega
  | n + 1, g, o => by
    have h := nF_ge n (fun j => g (j + 1)) (10 * o + g 0 + 1)
    show o * 10 ^ (n + 1) ≤ nF n (fun j => g (j + 1)) (10 * o + g 0 + 1)
    refine Nat.le_trans ?_ h
    rw [Nat.pow_succ, show o * (10 ^ n * 10) = (10 * o) * 10 ^ n by ac_rfl]
    exact Nat.mul_le_mul_right _ (by omega)
set_option maxRecDepth 20000 in
theorem nF_lt : ∀ (n : Nat) (g : Nat → Nat) (o : Nat), (∀ j, j < n → g j < 9) → nF n g o < (o + 1) * 10 ^ n
  | 0, _, o, _ => by
    show o < (o + 1) * 1
    omega
  | n + 1, g, o, h => by
    have h1 := nF_lt n (fun j => g (j + 1)) (10 * o + g 0 + 1) (fun j hj => h (j + 1) (by omega))
    have h2 := h 0 (by omega)
    show nF n (fun j => g (j + 1)) (10 * o + g 0 + 1) < (o + 1) * 10 ^ (n + 1)
    refine Nat.lt_of_lt_of_le h1 ?_
    rw [Nat.pow_succ, show (o + 1) * (10 ^ n * 10) = ((o + 1) * 10) * 10 ^ n by ac_rfl]
    exact Nat.mul_le_mul_right _ (by omega)
set_option maxRecDepth 20000 in
theorem bN_1 (v : Nat → Nat) (m : Nat) : ∀ n, (bN v m n).1 ≤ n
  | 0 => Nat.le_refl _
  | n + 1 => by
    unfold bN
    split
    · exact Nat.le_succ n
    · exact Nat.le_succ_of_le (bN_1 v m n)
set_option maxRecDepth 20000 in
theorem bN_first (v : Nat → Nat) (m : Nat) : ∀ n i, i < (bN v m n).1 → m.testBit i = true → (bN v m n).2 < v i
  | 0, i, h, _ => absurd h (by unfold bN; omega)
  | n + 1, i, h, g => by
    unfold bN at h ⊢
    by_cases k : m.testBit n = true ∧ v n < (bN v m n).2
    · rw [if_pos k] at h ⊢
      have := bN_min v m n i h g
      have := k.2
      show v n < v i
      omega
    · rw [if_neg k] at h ⊢
      exact bN_first v m n i h g
set_option maxRecDepth 20000 in
theorem bO_lt {W : Nat → Nat → Nat} {b : Nat} (hb : b ≤ 5) : ∀ k o f m, bO W b k o f m < (o + 1) * 10 ^ k
  | 0, o, _, _ => by
    show o < (o + 1) * 1
    omega
  | k + 1, o, f, m => by
    show (if m = 0 then o else _) < _
    have hp : 1 ≤ 10 ^ (k + 1) := Nat.pow_le_pow_right (show 0 < 10 by decide) (Nat.zero_le (k + 1))
    by_cases e : m = 0
    · rw [if_pos e]
      have := Nat.mul_le_mul_left (o + 1) hp
      omega
    · rw [if_neg e]
      have h1 := bO_lt (W := W) hb k (10 * o + (bN (tV W b m f) m b).1 + 1) (bN (tV W b m f) m b).1 (rm m (bN (tV W b m f) m b).1)
      have h2 := bN_1 (tV W b m f) m b
      refine Nat.lt_of_lt_of_le h1 ?_
      rw [Nat.pow_succ, show (o + 1) * (10 ^ k * 10) = ((o + 1) * 10) * 10 ^ k by ac_rfl]
      exact Nat.mul_le_mul_right _ (by omega)
set_option maxRecDepth 20000 in
theorem isP_flat {b : Nat} (hb : b ≤ 5) : ∀ n g m, m < 32 → isP b n g m → (∀ j, j < n → g j < b) ∧ (∀ j, j < n → m.testBit (g j) = true) ∧ (∀ i j, i < n → j < n → g i = g j → i = j) ∧ pc m = n
  | 0, g, m, h32, h => by
    obtain rfl : m = 0 := h
    exact ⟨fun j hj => absurd hj (by omega), fun j hj => absurd hj (by omega), fun i j hi => absurd hi (by omega), by decide⟩
  | n + 1, g, m, h32, h => by
    obtain ⟨h1, h2, h3⟩ := h
    obtain ⟨y1, y2, y3⟩ := bt_5 m h32 (g 0) (by omega)
    obtain ⟨r1, r2, r3, r4⟩ := isP_flat hb n _ _ y1 h3
    have hp := bt_7 m h32 (g 0) (by omega) h2
    have hne : ∀ j, j < n → g (j + 1) ≠ g 0 := fun j hj e => by
      have := r2 j hj
      rw [show g (j + 1) = g 0 from e, y3] at this
      cases this
    refine ⟨fun j hj => ?_, fun j hj => ?_, fun i j hi hj e => ?_, by omega⟩
    · cases j with
      | zero => exact h1
      | succ j => exact r1 j (by omega)
    · cases j with
      | zero => exact h2
      | succ j =>
        have hlt := r1 j (by omega)
        rw [← bt_6 m h32 (g 0) (by omega) (g (j + 1)) (by omega) (hne j (by omega))]
        exact r2 j (by omega)
    · cases i with
      | zero =>
        cases j with
        | zero => rfl
        | succ j => exact absurd e.symm (hne j (by omega))
      | succ i =>
        cases j with
        | zero => exact absurd e (hne i (by omega))
        | succ j => rw [r3 i j (by omega) (by omega) e]
set_option maxRecDepth 20000 in
theorem isP_of {b : Nat} (hb : b ≤ 5) : ∀ n g m, m < 32 → (∀ j, j < n → g j < b) → (∀ j, j < n → m.testBit (g j) = true) → (∀ i j, i < n → j < n → g i = g j → i = j) → pc m = n → isP b n g m
  | 0, g, m, h32, _, _, _, h4 => show m = 0 from Decidable.byContradiction (fun z => by
      obtain ⟨i, hi, g⟩ := (bt_8 m h32).2.2.1 z
      have := bt_7 m h32 i hi g
      omega)
  | n + 1, g, m, h32, h1, h2, h3, h4 => by
    have g0 := h1 0 (by omega)
    obtain ⟨y1, y2, y3⟩ := bt_5 m h32 (g 0) (by omega)
    have hp := bt_7 m h32 (g 0) (by omega) (h2 0 (by omega))
    refine ⟨g0, h2 0 (by omega), isP_of hb n _ _ y1 (fun j hj => h1 (j + 1) (by omega)) (fun j hj => ?_) (fun i j hi hj e => by
      have := h3 (i + 1) (j + 1) (by omega) (by omega) e
      omega) (by omega)⟩
    have hlt := h1 (j + 1) (by omega)
    rw [bt_6 m h32 (g 0) (by omega) (g (j + 1)) (by omega) (fun e => by
      have := h3 (j + 1) 0 (by omega) (by omega) e
      omega)]
    exact h2 (j + 1) (by omega)
def swp (g : Nat → Nat) (x y : Nat) : Nat → Nat := fun j => if j = y then g x else if j = x then g y else g j
set_option maxRecDepth 20000 in
theorem isP_swp {b : Nat} (hb : b ≤ 5) {n m : Nat} {g : Nat → Nat} (h32 : m < 32) (h : isP b n g m) {x y : Nat} (hx : x < n) (hy : y < n) : isP b n (swp g x y) m := by
  obtain ⟨h1, h2, h3, h4⟩ := isP_flat hb n g m h32 h
  have key : ∀ j, j < n → ∃ j', j' < n ∧ swp g x y j = g j' ∧ (j' = if j = y then x else if j = x then y else j) := fun j hj => by
    unfold swp
    by_cases e1 : j = y
    · rw [if_pos e1, if_pos e1]; exact ⟨x, hx, rfl, rfl⟩
    · rw [if_neg e1, if_neg e1]
      by_cases e2 : j = x
      · rw [if_pos e2, if_pos e2]; exact ⟨y, hy, rfl, rfl⟩
      · rw [if_neg e2, if_neg e2]; exact ⟨j, hj, rfl, rfl⟩
  refine isP_of hb n _ m h32 (fun j hj => ?_) (fun j hj => ?_) (fun i j hi hj e => ?_) h4
  · obtain ⟨j', q1, q2, -⟩ := key j hj
    rw [q2]; exact h1 j' q1
  · obtain ⟨j', q1, q2, -⟩ := key j hj
    rw [q2]; exact h2 j' q1
  · obtain ⟨i', p1, p2, p3⟩ := key i hi
    obtain ⟨j', q1, q2, q3⟩ := key j hj
    rw [p2, q2] at e
    have := h3 i' j' p1 q1 e
    rw [p3, q3] at this
    have cs : ∀ i : Nat, (i = y ∧ (if i = y then x else if i = x then y else i) = x) ∨ (i ≠ y ∧ i = x ∧ (if i = y then x else if i = x then y else i) = y) ∨ (i ≠ y ∧ i ≠ x ∧ (if i = y then x else if i = x then y else i) = i) := fun i => by
      by_cases a1 : i = y
      · exact Or.inl ⟨a1, if_pos a1⟩
      · by_cases a2 : i = x
        · exact Or.inr (Or.inl ⟨a1, a2, by rw [if_neg a1, if_pos a2]⟩)
        · exact Or.inr (Or.inr ⟨a1, a2, by rw [if_neg a1, if_neg a2]⟩)
    rcases cs i with ⟨a1, a2⟩ | ⟨a1, a2, a3⟩ | ⟨a1, a2, a3⟩ <;> rcases cs j with ⟨b1, b2⟩ | ⟨b1, b2, b3⟩ | ⟨b1, b2, b3⟩ <;> omega
variable {W : Nat → Nat → Nat}
set_option maxRecDepth 20000 in
theorem or_opt (hW : WO W) {b : Nat} (hb : b ≤ 5) : ∀ n g l m o, isP b n g m → m < 2 ^ b → m < 32 → l < 6 → m.testBit l = false → tT W b m l ≤ cF W n g l ∧ (cF W n g l = tT W b m l → bO W b n o l m ≤ nF n g o)
  | 0, g, l, m, o, h, _, _, _, _ => by
    obtain rfl : m = 0 := h
    exact ⟨Nat.le_refl _, fun _ => Nat.le_refl _⟩
  | n + 1, g, l, m, o, h, hm, h32, hl, hlm => by
    obtain ⟨h1, h2, h3⟩ := h
    have e : m ≠ 0 := fun z => by rw [z, Nat.zero_testBit] at h2; cases h2
    obtain ⟨y1, y2, y3⟩ := bt_5 m h32 (g 0) (by omega)
    obtain ⟨r1, r2⟩ := or_opt hW hb n (fun j => g (j + 1)) (g 0) (rm m (g 0)) (10 * o + g 0 + 1) h3 (bt_11 b (by omega) m hm _ (by omega)) y1 (by omega) y3
    obtain ⟨w1, w2, w3, w4⟩ := bN_found hW hb hm h32 e hl hlm
    have z1 := bN_min (tV W b m l) m b (g 0) h1 h2
    have z2 : tV W b m l (g 0) = tT W b (rm m (g 0)) (g 0) + W l (g 0) := rfl
    have z3 := tT_m W hb h32 e l
    have z4 : cF W (n + 1) g l = W l (g 0) + cF W n (fun j => g (j + 1)) (g 0) := rfl
    refine ⟨by omega, fun hq => ?_⟩
    have q1 : cF W n (fun j => g (j + 1)) (g 0) = tT W b (rm m (g 0)) (g 0) := by omega
    have q2 : tV W b m l (g 0) = (bN (tV W b m l) m b).2 := by omega
    have hle : (bN (tV W b m l) m b).1 ≤ g 0 := Nat.le_of_not_lt (fun z => by
      have := bN_first (tV W b m l) m b (g 0) z h2
      omega)
    have e1 : bO W b (n + 1) o l m = bO W b n (10 * o + (bN (tV W b m l) m b).1 + 1) (bN (tV W b m l) m b).1 (rm m (bN (tV W b m l) m b).1) := by
      show (if m = 0 then o else _) = _
      rw [if_neg e]
    have e2 : nF (n + 1) g o = nF n (fun j => g (j + 1)) (10 * o + g 0 + 1) := rfl
    rw [e1, e2]
    by_cases ee : (bN (tV W b m l) m b).1 = g 0
    · rw [ee]; exact r2 q1
    · have s1 := bO_lt (W := W) hb n (10 * o + (bN (tV W b m l) m b).1 + 1) (bN (tV W b m l) m b).1 (rm m (bN (tV W b m l) m b).1)
      have s2 := nF_ge n (fun j => g (j + 1)) (10 * o + g 0 + 1)
      have s3 : (10 * o + (bN (tV W b m l) m b).1 + 1 + 1) * 10 ^ n ≤ (10 * o + g 0 + 1) * 10 ^ n := Nat.mul_le_mul_right _ (by omega)
      omega
set_option maxRecDepth 20000 in
theorem or_ex (hW : WO W) {b : Nat} (hb : b ≤ 5) : ∀ n l m o, pc m = n → m < 2 ^ b → m < 32 → l < 6 → m.testBit l = false → ∃ g, isP b n g m ∧ cF W n g l = tT W b m l ∧ bO W b n o l m = nF n g o
  | 0, l, m, o, h, _, h32, _, _ => by
    have e : m = 0 := Decidable.byContradiction (fun z => by
      obtain ⟨i, hi, g⟩ := (bt_8 m h32).2.2.1 z
      have := bt_7 m h32 i hi g
      omega)
    subst e
    exact ⟨fun _ => 0, rfl, rfl, rfl⟩
  | n + 1, l, m, o, h, hm, h32, hl, hlm => by
    have e : m ≠ 0 := (bt_8 m h32).2.2.2.2 (by omega)
    obtain ⟨w1, w2, w3, w4⟩ := bN_found hW hb hm h32 e hl hlm
    obtain ⟨i, hi⟩ : ∃ i, i = (bN (tV W b m l) m b).1 := ⟨_, rfl⟩
    have e1 : bO W b (n + 1) o l m = bO W b n (10 * o + i + 1) i (rm m i) := by
      show (if m = 0 then o else _) = _
      rw [if_neg e, hi]
    rw [← hi] at w2 w3 w4
    obtain ⟨y1, y2, y3⟩ := bt_5 m h32 i (by omega)
    have hp := bt_7 m h32 i (by omega) w3
    obtain ⟨g, g1, g2, g3⟩ := or_ex hW hb n i (rm m i) (10 * o + i + 1) (by omega) (bt_11 b (by omega) m hm _ (by omega)) y1 (by omega) y3
    refine ⟨fun j => match j with | 0 => i | j + 1 => g j, ⟨w2, w3, g1⟩, ?_, e1.trans g3⟩
    show W l i + cF W n g i = _
    rw [g2, ← w4]
    unfold tV
    omega
set_option maxRecDepth 20000 in
theorem cF_le (hW : WO W) : ∀ n g l, cF W n g l ≤ n
  | 0, _, _ => Nat.le_refl _
  | n + 1, g, l => by
    have h1 := cF_le hW n (fun j => g (j + 1)) (g 0)
    have h2 := hW.1 l (g 0)
    show W l (g 0) + cF W n (fun j => g (j + 1)) (g 0) ≤ n + 1
    omega
def sG (g : Nat → Nat) : Nat → Nat
  | 0 => 0
  | n + 1 => sG g n + 2 ^ g n
set_option maxRecDepth 20000 in
theorem sG_front : ∀ (n : Nat) (g : Nat → Nat), sG g (n + 1) = 2 ^ g 0 + sG (fun j => g (j + 1)) n
  | 0, g => by
    show 0 + 2 ^ g 0 = 2 ^ g 0 + 0
    omega
  | n + 1, g => by
    show sG g (n + 1) + 2 ^ g (n + 1) = 2 ^ g 0 + (sG (fun j => g (j + 1)) n + 2 ^ g (n + 1))
    rw [sG_front n g]
    omega
set_option maxRecDepth 20000 in
theorem sG_m {b : Nat} (hb : b ≤ 5) : ∀ n g m, m < 32 → isP b n g m → sG g n = m
  | 0, g, m, _, h => h.symm
  | n + 1, g, m, h32, h => by
    obtain ⟨h1, h2, h3⟩ := h
    obtain ⟨y1, y2, y3⟩ := bt_5 m h32 (g 0) (by omega)
    rw [sG_front, sG_m hb n _ _ y1 h3]
    have := bt_16 m h32 (g 0) (by omega) h2
    omega
set_option maxRecDepth 20000 in
theorem cF_ext : ∀ (n : Nat) (g g' : Nat → Nat) (l : Nat), (∀ j, j < n → g j = g' j) → cF W n g l = cF W n g' l
  | 0, _, _, _, _ => rfl
  | n + 1, g, g', l, h => by
    show W l (g 0) + cF W n (fun j => g (j + 1)) (g 0) = W l (g' 0) + cF W n (fun j => g' (j + 1)) (g' 0)
    rw [h 0 (by omega), cF_ext n (fun j => g (j + 1)) (fun j => g' (j + 1)) (g' 0) (fun j hj => h (j + 1) (by omega))]
end ORD
