/-! ===== days: sets, the fewest washes ===== -/
section DYY
def rm (m i : Nat) : Nat := if m.testBit i = true then m - 2 ^ i else m
def pc (m : Nat) : Nat := (if m.testBit 0 = true then 1 else 0) + (if m.testBit 1 = true then 1 else 0) + (if m.testBit 2 = true then 1 else 0) + (if m.testBit 3 = true then 1 else 0) + (if m.testBit 4 = true then 1 else 0)
set_option maxRecDepth 20000 in
theorem bt_1 : ∀ m, m < 32 → ∀ i, i < 6 → ((nI m &&& (1 <<< (nI i &&& 31)) = 0) ↔ m.testBit i = false) := by decide +kernel
set_option maxRecDepth 20000 in
theorem bt_2 : ∀ m, m < 32 → ∀ i, i < 5 → nI m &&& ((1 <<< (nI i &&& 31)) ^^^ (-1)) = nI (rm m i) := by decide +kernel
set_option maxRecDepth 20000 in
theorem bt_3 : ∀ m, m < 32 → ∀ i, i < 5 → (((nI m >>> (nI i &&& 31)) &&& 1 = 1) ↔ m.testBit i = true) := by decide +kernel
set_option maxRecDepth 20000 in
theorem bt_3z : ∀ m, m < 32 → ∀ i, i < 5 → (((nI m >>> (nI i &&& 31)) &&& 1 = 0) ↔ m.testBit i = false) := by decide +kernel
set_option maxRecDepth 20000 in
theorem bt_4 : ∀ m, m < 32 → ∀ i, i < 5 → nI m ||| (1 <<< (nI i &&& 31)) = nI (m ||| 2 ^ i) := by decide +kernel
set_option maxRecDepth 20000 in
theorem bt_5 : ∀ m, m < 32 → ∀ i, i < 5 → rm m i < 32 ∧ (m.testBit i = true → rm m i < m) ∧ (rm m i).testBit i = false := by decide +kernel
set_option maxRecDepth 20000 in
theorem bt_6 : ∀ m, m < 32 → ∀ i, i < 5 → ∀ j, j < 6 → j ≠ i → (rm m i).testBit j = m.testBit j := by decide +kernel
set_option maxRecDepth 20000 in
theorem bt_7 : ∀ m, m < 32 → ∀ i, i < 5 → m.testBit i = true → pc (rm m i) + 1 = pc m := by decide +kernel
set_option maxRecDepth 20000 in
theorem bt_8 : ∀ m, m < 32 → pc m ≤ 5 ∧ (pc m = 5 → ∀ j, j < 5 → m.testBit j = true) ∧ (m ≠ 0 → ∃ i, i < 5 ∧ m.testBit i = true) ∧ (m = 0 → pc m = 0) ∧ (0 < pc m → m ≠ 0) := by decide +kernel
set_option maxRecDepth 20000 in
theorem bt_9 : ∀ b, b < 6 → ((1 <<< (nI b &&& 31)) = nI (2 ^ b) ∧ 2 ^ b ≤ 32 ∧ nI (2 ^ b) - 1 = nI (2 ^ b - 1)) := by decide +kernel
set_option maxRecDepth 20000 in
theorem bt_10 : ∀ b, b < 6 → ∀ m, m < 2 ^ b → ∀ i, i < 5 → m.testBit i = true → i < b := by decide +kernel
set_option maxRecDepth 20000 in
theorem bt_11 : ∀ b, b < 6 → ∀ m, m < 2 ^ b → ∀ i, i < 5 → rm m i < 2 ^ b := by decide +kernel
set_option maxRecDepth 20000 in
theorem bt_12 : ∀ m, m < 32 → m.testBit 5 = false := by decide +kernel
set_option maxRecDepth 20000 in
theorem bt_13 : ∀ u, u < 32 → ∀ i, i < 5 → (u ||| 2 ^ i) < 32 ∧ (u ||| 2 ^ i).testBit i = true ∧ (∀ j, j < 5 → j ≠ i → (u ||| 2 ^ i).testBit j = u.testBit j) := by decide +kernel
/- the first of the best among the first n of set m, by the values v -/
def bN (v : Nat → Nat) (m : Nat) : Nat → Nat × Nat
  | 0 => (0, 5)
  | i + 1 => if m.testBit i = true ∧ v i < (bN v m i).2 then (i, v i) else bN v m i
set_option maxRecDepth 20000 in
theorem bN_le (v : Nat → Nat) (m : Nat) : ∀ n, (bN v m n).2 ≤ 5
  | 0 => Nat.le_refl _
  | i + 1 => by
    have ih := bN_le v m i
    unfold bN
    split
    · rename_i g
      show v i ≤ 5
      omega
    · exact ih
set_option maxRecDepth 20000 in
theorem bN_min (v : Nat → Nat) (m : Nat) : ∀ n i, i < n → m.testBit i = true → (bN v m n).2 ≤ v i
  | 0, i, h, _ => absurd h (by omega)
  | n + 1, i, h, g => by
    unfold bN
    split
    · rename_i k
      show v n ≤ v i
      by_cases e : i = n
      · subst e; exact Nat.le_refl _
      · have := bN_min v m n i (by omega) g
        omega
    · rename_i k
      by_cases e : i = n
      · subst e
        exact Nat.le_of_not_lt (fun q => k ⟨g, q⟩)
      · exact bN_min v m n i (by omega) g
set_option maxRecDepth 20000 in
theorem bN_in (v : Nat → Nat) (m : Nat) : ∀ n, (bN v m n).2 < 5 → (bN v m n).1 < n ∧ m.testBit (bN v m n).1 = true ∧ v (bN v m n).1 = (bN v m n).2
  | 0, h => absurd h (by unfold bN; decide)
  | n + 1, h => by
    unfold bN at h ⊢
    by_cases k : m.testBit n = true ∧ v n < (bN v m n).2
    · rw [if_pos k]
      exact ⟨Nat.lt_succ_self _, k.1, rfl⟩
    · rw [if_neg k] at h ⊢
      obtain ⟨y1, y2, y3⟩ := bN_in v m n h
      exact ⟨by omega, y2, y3⟩
set_option maxRecDepth 20000 in
theorem bN_cong {v v' : Nat → Nat} {m : Nat} : ∀ n, (∀ i, i < n → m.testBit i = true → v i = v' i) → bN v m n = bN v' m n
  | 0, _ => rfl
  | n + 1, h => by
    have ih := bN_cong n (fun i hi => h i (by omega))
    unfold bN
    rw [ih]
    by_cases k : m.testBit n = true
    · rw [h n (by omega) k]
    · rw [if_neg (fun q => k q.1), if_neg (fun q => k q.1)]
/- the fewest washes of set m behind f -/
def tF (W : Nat → Nat → Nat) (b : Nat) : Nat → Nat → Nat → Nat
  | 0, _, _ => 0
  | k + 1, m, f => if m = 0 then 0 else (bN (fun i => tF W b k (rm m i) i + W f i) m b).2
set_option maxRecDepth 20000 in
theorem tF_fuel (W : Nat → Nat → Nat) {b : Nat} (hb : b ≤ 5) : ∀ k k' m f, m < 32 → m ≤ k → m ≤ k' → tF W b (k + 1) m f = tF W b (k' + 1) m f := by
  intro k
  induction k with
  | zero =>
    intro k' m f h1 h2 h3
    obtain rfl : m = 0 := by omega
    rfl
  | succ k ih =>
    intro k' m f h1 h2 h3
    show (if m = 0 then 0 else _) = (if m = 0 then 0 else _)
    by_cases e : m = 0
    · rw [if_pos e, if_pos e]
    · rw [if_neg e, if_neg e]
      obtain ⟨k', rfl⟩ : ∃ q, k' = q + 1 := ⟨k' - 1, by omega⟩
      congr 1
      refine bN_cong b (fun i hi g => ?_)
      obtain ⟨y1, y2, -⟩ := bt_5 m h1 i (by omega)
      have := y2 g
      show tF W b (k + 1) (rm m i) i + W f i = tF W b (k' + 1) (rm m i) i + W f i
      rw [ih k' (rm m i) i y1 (by omega) (by omega)]
def tT (W : Nat → Nat → Nat) (b m f : Nat) : Nat := tF W b 32 m f
/- what the way by i costs -/
def tV (W : Nat → Nat → Nat) (b m f i : Nat) : Nat := tT W b (rm m i) i + W f i
set_option maxRecDepth 20000 in
theorem tT_0 (W : Nat → Nat → Nat) (b f : Nat) : tT W b 0 f = 0 := rfl
set_option maxRecDepth 20000 in
theorem tF_s (W : Nat → Nat → Nat) (b k m f : Nat) : tF W b (k + 1) m f = if m = 0 then 0 else (bN (fun i => tF W b k (rm m i) i + W f i) m b).2 := rfl
set_option maxRecDepth 20000 in
theorem tT_m (W : Nat → Nat → Nat) {b m : Nat} (hb : b ≤ 5) (hm : m < 32) (h0 : m ≠ 0) (f : Nat) : tT W b m f = (bN (tV W b m f) m b).2 := by
  have e : ∀ k, k = 31 → (bN (fun i => tF W b k (rm m i) i + W f i) m b) = bN (tV W b m f) m b := by
    intro k hk
    refine bN_cong b (fun i hi g => ?_)
    obtain ⟨y1, y2, -⟩ := bt_5 m hm i (by omega)
    have y := y2 g
    obtain ⟨q, rfl⟩ : ∃ q, k = q + 1 := ⟨k - 1, by omega⟩
    unfold tV tT
    rw [tF_fuel W hb q 31 (rm m i) i y1 (by omega) (by omega)]
  unfold tT
  rw [tF_s W b 31 m f, if_neg h0, e 31 rfl]
/- washes between two are 0 or 1, none behind a washed barrel -/
def WO (W : Nat → Nat → Nat) : Prop := (∀ f i, W f i ≤ 1) ∧ ∀ i, W 5 i = 0
set_option maxRecDepth 20000 in
theorem tT_pc {W : Nat → Nat → Nat} (hW : WO W) {b : Nat} (hb : b ≤ 5) : ∀ k m f, m ≤ k → m < 2 ^ b → m < 32 → tT W b m f ≤ pc m := by
  intro k
  induction k with
  | zero =>
    intro m f h1 h2 h3
    obtain rfl : m = 0 := by omega
    rw [tT_0]
    exact Nat.zero_le _
  | succ k ih =>
    intro m f h1 h2 h3
    by_cases e : m = 0
    · subst e
      rw [tT_0]
      exact Nat.zero_le _
    · obtain ⟨i, hi, g⟩ := (bt_8 m h3).2.2.1 e
      have hib := bt_10 b (by omega) m h2 i hi g
      obtain ⟨y1, y2, y3⟩ := bt_5 m h3 i hi
      have y4 := y2 g
      rw [tT_m W hb h3 e]
      have z1 := bN_min (tV W b m f) m b i hib g
      have z2 := ih (rm m i) i (by omega) (bt_11 b (by omega) m h2 i hi) y1
      have z3 := bt_7 m h3 i hi g
      have z4 := hW.1 f i
      have z5 : tV W b m f i = tT W b (rm m i) i + W f i := rfl
      omega
/- some way costs less than 5 -/
set_option maxRecDepth 20000 in
theorem tV_5 {W : Nat → Nat → Nat} (hW : WO W) {b m f i : Nat} (hb : b ≤ 5) (hm : m < 2 ^ b) (h32 : m < 32) (hf : f < 6) (hfm : m.testBit f = false) (hi : i < 5) (g : m.testBit i = true) : tV W b m f i < 5 := by
  obtain ⟨y1, y2, y3⟩ := bt_5 m h32 i hi
  have z2 := tT_pc hW hb (rm m i) (rm m i) i (Nat.le_refl _) (bt_11 b (by omega) m hm i hi) y1
  have z3 := bt_7 m h32 i hi g
  have z4 := hW.1 f i
  have z5 : tV W b m f i = tT W b (rm m i) i + W f i := rfl
  obtain ⟨w1, w2, -⟩ := bt_8 m h32
  by_cases e : pc m = 5
  · have hf5 : f = 5 := by
      by_cases q : f < 5
      · have := w2 e f q
        rw [hfm] at this
        cases this
      · omega
    rw [hf5, hW.2 i] at z5
    rw [hf5]
    omega
  · omega
set_option maxRecDepth 20000 in
theorem bN_found {W : Nat → Nat → Nat} (hW : WO W) {b m f : Nat} (hb : b ≤ 5) (hm : m < 2 ^ b) (h32 : m < 32) (h0 : m ≠ 0) (hf : f < 6) (hfm : m.testBit f = false) : (bN (tV W b m f) m b).2 < 5 ∧ (bN (tV W b m f) m b).1 < b ∧ m.testBit (bN (tV W b m f) m b).1 = true ∧ tV W b m f (bN (tV W b m f) m b).1 = tT W b m f := by
  obtain ⟨i, hi, g⟩ := (bt_8 m h32).2.2.1 h0
  have hib := bt_10 b (by omega) m hm i hi g
  have z1 := bN_min (tV W b m f) m b i hib g
  have z2 := tV_5 hW hb hm h32 hf hfm hi g
  have z3 : (bN (tV W b m f) m b).2 < 5 := by omega
  obtain ⟨y1, y2, y3⟩ := bN_in _ _ _ z3
  exact ⟨z3, y1, y2, by rw [y3, tT_m W hb h32 h0]⟩
/- the best order from (o, f) on -/
def bO (W : Nat → Nat → Nat) (b : Nat) : Nat → Nat → Nat → Nat → Nat
  | 0, o, _, _ => o
  | k + 1, o, f, m => if m = 0 then o else bO W b k (10 * o + (bN (tV W b m f) m b).1 + 1) (bN (tV W b m f) m b).1 (rm m (bN (tV W b m f) m b).1)
set_option maxRecDepth 20000 in
theorem bO_fuel {W : Nat → Nat → Nat} (hW : WO W) {b : Nat} (hb : b ≤ 5) : ∀ k k' o f m, pc m ≤ k → pc m ≤ k' → m < 2 ^ b → m < 32 → f < 6 → m.testBit f = false → bO W b k o f m = bO W b k' o f m := by
  intro k
  induction k with
  | zero =>
    intro k' o f m h1 h2 h3 h4 h5 h6
    have e : m = 0 := Decidable.byContradiction (fun q => by
      obtain ⟨i, hi, g⟩ := (bt_8 m h4).2.2.1 q
      have := bt_7 m h4 i hi g
      omega)
    subst e
    cases k' <;> rfl
  | succ k ih =>
    intro k' o f m h1 h2 h3 h4 h5 h6
    by_cases e : m = 0
    · subst e
      cases k' <;> rfl
    · obtain ⟨i, hi, g⟩ := (bt_8 m h4).2.2.1 e
      have hp := bt_7 m h4 i hi g
      obtain ⟨k', rfl⟩ : ∃ q, k' = q + 1 := ⟨k' - 1, by omega⟩
      obtain ⟨w1, w2, w3, w4⟩ := bN_found hW hb h3 h4 e h5 h6
      show (if m = 0 then o else _) = (if m = 0 then o else _)
      rw [if_neg e, if_neg e]
      have hq := bt_7 m h4 _ (by omega) w3
      obtain ⟨y1, y2, y3⟩ := bt_5 m h4 (bN (tV W b m f) m b).1 (by omega)
      exact ih k' _ _ _ (by omega) (by omega) (bt_11 b (by omega) m h3 _ (by omega)) y1 (by omega) y3
end DYY
