/-! ===== days: the class ===== -/
section DYC
def wW (I : MI) (f n : Nat) : Nat := if f = 5 then 0 else if I (13 + f) 6 &&& (I (13 + n) 6 ^^^ (-1)) = 0 then 0 else 1
set_option maxRecDepth 20000 in
theorem wW_O (I : MI) : WO (wW I) := by
  refine ⟨fun f i => ?_, fun i => rfl⟩
  unfold wW
  split
  · exact Nat.zero_le _
  · split
    · exact Nat.zero_le _
    · exact Nat.le_refl _
variable {b : Nat} {I : MI} {D : MD}
set_option maxRecDepth 20000 in
theorem nw_C (I : MI) (D : MD) {f n : Nat} (hf : f < 6) (hn : n < 5) : f_X4_needsWash I D (nI f) (nI n) = some (nI (wW I f n)) := by
  unfold f_X4_needsWash wW
  by_cases e : f = 5
  · subst e
    rw [if_pos rfl, if_pos (show nI 5 = 5 from rfl)]
    rfl
  · rw [if_neg e, if_neg (show ¬ nI f = 5 from fun q => e ((nI_eq (b := 5) (by omega) (by decide)).mp q)), inB_nI (show f < 5 by omega) (by decide), inB_nI hn (by decide), nI_clamp (show f < 2 ^ 31 by omega), nI_clamp (show n < 2 ^ 31 by omega), ckt, ckt]
    by_cases g : I (13 + f) 6 &&& (I (13 + n) 6 ^^^ (-1)) = 0
    · rw [if_pos g, if_pos g]; rfl
    · rw [if_neg g, if_neg g]; rfl
set_option maxRecDepth 20000 in
theorem cell_C (n m : Nat) : f_X4_cell (nI n) (nI m) = some (nI (m * 6 + n)) := by
  unfold f_X4_cell
  rw [show (6 : Int32) = nI 6 from rfl, pk_mul, nI_add]
set_option maxRecDepth 20000 in
theorem wo_C {m i : Nat} (hm : m < 32) (hi : i < 5) : f_X4_without (nI i) (nI m) = some (nI (rm m i)) := by
  unfold f_X4_without
  rw [bt_2 m hm i hi]
set_option maxRecDepth 20000 in
theorem wb_C (I : MI) (D : MD) {W : Nat → Nat → Nat} {m f i : Nat} (hm : m < 32) (hf : f < 6) (hi : i < 5) (hW : wW I f i = W f i) (hc : I 6 (rm m i * 6 + i) = nI (tT W b (rm m i) i)) : f_X4_washesBy I D (nI f) (nI i) (nI m) = some (nI (tV W b m f i)) := by
  have y := (bt_5 m hm i hi).1
  unfold f_X4_washesBy
  rw [wo_C hm hi, bd_s, cell_C, bd_s, inB_nI (show rm m i * 6 + i < 192 by omega) (by decide), ckt, nw_C I D hf hi, bd_s, nI_clamp (show rm m i * 6 + i < 2 ^ 31 by omega), hc, hW]
  unfold tV
  have h2 : W f i = 0 ∨ W f i = 1 := by
    have := (wW_O I).1 f i
    rw [hW] at this
    omega
  rcases h2 with e | e
  · rw [e, if_pos (show nI 0 = 0 from rfl)]
    rfl
  · rw [e, if_neg (show ¬ nI 1 = 0 by decide), nI_1]
/- the cells of the sets below x, and those of x below y, are right -/
def CT (W : Nat → Nat → Nat) (b : Nat) (I : MI) (x y : Nat) : Prop := ∀ m f, f < 6 → m < 2 ^ b → m.testBit f = false → (m < x ∨ (m = x ∧ f < y)) → I 6 (m * 6 + f) = nI (tT W b m f)
set_option maxRecDepth 20000 in
theorem bn_L {W : Nat → Nat → Nat} (hb : b ≤ 5) (h6 : I 0 6 = nI b) {m f x y : Nat} (hm : m < 2 ^ b) (h32 : m < 32) (hf : f < 6) (hx : m ≤ x) (hW : ∀ i, i < 5 → wW I f i = W f i) (C : CT W b I x y) : ∀ (q i n : Nat), i + q = b → q < n → f_X4_bestNext_L8 I D (nI f) (nI m) n (nI i) (nI (bN (tV W b m f) m i).2) (nI (bN (tV W b m f) m i).1) = some (nI (bN (tV W b m f) m b).1) := by
  intro q
  induction q with
  | zero =>
    intro i n h1 h2
    obtain ⟨n, rfl⟩ : ∃ n', n = n' + 1 := ⟨n - 1, by omega⟩
    obtain rfl : i = b := by omega
    rw [f_X4_bestNext_L8, h6, if_pos (nI_le (Nat.le_refl _) (by omega))]
  | succ q ih =>
    intro i n h1 h2
    obtain ⟨n, rfl⟩ : ∃ n', n = n' + 1 := ⟨n - 1, by omega⟩
    have hi : i < 5 := by omega
    have z := ih (i + 1) n (by omega) (by omega)
    have hle := bN_le (tV W b m f) m i
    have e : bN (tV W b m f) m (i + 1) = if m.testBit i = true ∧ tV W b m f i < (bN (tV W b m f) m i).2 then (i, tV W b m f i) else bN (tV W b m f) m i := rfl
    rw [f_X4_bestNext_L8, h6, if_neg (nI_ge (by omega) (by omega)), nI_1]
    by_cases g : m.testBit i = true
    · obtain ⟨y1, y2, y3⟩ := bt_5 m h32 i hi
      have y4 := y2 g
      rw [if_neg (show ¬ (nI m &&& (1 <<< (nI i &&& 31)) = 0) from fun k => by
        have := (bt_1 m h32 i (by omega)).mp k
        rw [g] at this
        cases this), wb_C I D h32 hf hi (hW i hi) (C (rm m i) i (by omega) (bt_11 b (by omega) m hm i hi) y3 (by omega)), bd_s]
      have hv : tV W b m f i < 2 ^ 31 := by
        unfold tV
        have k1 := (wW_O I).1 f i
        rw [hW i hi] at k1
        have k2 : tT W b (rm m i) i ≤ 5 := by
          by_cases e0 : rm m i = 0
          · rw [e0, tT_0]; omega
          · rw [tT_m W hb y1 e0]; exact bN_le _ _ _
        omega
      by_cases k : tV W b m f i < (bN (tV W b m f) m i).2
      · rw [if_neg (nI_ge k (by omega))]
        rw [if_pos ⟨g, k⟩] at e
        rw [e] at z
        exact z
      · rw [if_pos (nI_le (by omega) hv)]
        rw [if_neg (fun q => k q.2)] at e
        rw [e] at z
        exact z
    · rw [if_neg (fun q => g q.1)] at e
      rw [e] at z
      have g' : m.testBit i = false := by
        cases h : m.testBit i with
        | true => exact absurd h g
        | false => rfl
      rw [if_pos ((bt_1 m h32 i (by omega)).mpr g'), if_pos (show nI (bN (tV W b m f) m i).2 ≤ (5 : Int32) from nI_le (b := 5) hle (by decide))]
      exact z
set_option maxRecDepth 20000 in
theorem bn_C {W : Nat → Nat → Nat} (hb : b ≤ 5) (h6 : I 0 6 = nI b) {m f x y : Nat} (hm : m < 2 ^ b) (h32 : m < 32) (hf : f < 6) (hx : m ≤ x) (hW : ∀ i, i < 5 → wW I f i = W f i) (C : CT W b I x y) : f_X4_bestNext I D (nI f) (nI m) = some (nI (bN (tV W b m f) m b).1) := by
  unfold f_X4_bestNext
  exact bn_L hb h6 hm h32 hf hx hW C b 0 200 (by omega) (by omega)
set_option maxRecDepth 20000 in
theorem rk_in {I0 : MI} (hb : b ≤ 5) (h6 : I0 0 6 = nI b) {m : Nat} (hm : m < 2 ^ b) (h0 : 0 < m) (h32 : m < 32) (rec : Int32 → MI → MD → Option (MI × MD)) : ∀ (q f n : Nat) (I : MI), f + q = 6 → q < n → CT (wW I0) b I m f → (∀ k j, ¬ (k = 6 ∧ 6 ≤ j) → I k j = I0 k j) →
    ∃ I', f_X4_reckonWashes_L14 rec (nI m) n (nI f) I D = rec (nI (m + 1)) I' D ∧ CT (wW I0) b I' m 6 ∧ ∀ k j, ¬ (k = 6 ∧ 6 ≤ j) → I' k j = I0 k j := by
  intro q
  induction q with
  | zero =>
    intro f n I h1 h2 C F
    obtain ⟨n, rfl⟩ : ∃ n', n = n' + 1 := ⟨n - 1, by omega⟩
    obtain rfl : f = 6 := by omega
    refine ⟨I, ?_, C, F⟩
    rw [f_X4_reckonWashes_L14, if_pos (show (6 : Int32) ≤ nI 6 by decide), nI_1]
  | succ q ih =>
    intro f n I h1 h2 C F
    obtain ⟨n, rfl⟩ : ∃ n', n = n' + 1 := ⟨n - 1, by omega⟩
    have hf : f < 6 := by omega
    have hW : ∀ g i, g < 6 → i < 5 → wW I g i = wW I0 g i := fun g i hg hi => by
      unfold wW
      by_cases e : g = 5
      · rw [if_pos e, if_pos e]
      · rw [if_neg e, if_neg e, F _ _ (by omega), F _ _ (by omega)]
    rw [f_X4_reckonWashes_L14, if_neg (show ¬ (6 : Int32) ≤ nI f from nI_ge (a := f) (b := 6) hf (by decide)), nI_1]
    by_cases g : m.testBit f = false
    · obtain ⟨w1, w2, w3, w4⟩ := bN_found (wW_O I0) hb hm h32 (by omega) hf g
      have hbi : (bN (tV (wW I0) b m f) m b).1 < 5 := by omega
      obtain ⟨y1, y2, y3⟩ := bt_5 m h32 _ hbi
      have y4 := y2 w3
      rw [if_pos ((bt_1 m h32 f hf).mpr g), bn_C hb (by rw [F _ _ (by omega)]; exact h6) hm h32 hf (Nat.le_refl m) (fun i hi => hW f i hf hi) C, bd_s, cell_C, bd_s, wb_C I D h32 hf hbi (hW f _ hf hbi) (C _ _ (by omega) (bt_11 b (by omega) m hm _ hbi) y3 (Or.inl y4)), bd_s, w4, inB_nI (show m * 6 + f < 192 by omega) (by decide), ckt, nI_clamp (show m * 6 + f < 2 ^ 31 by omega), nm_v]
      refine ih (f + 1) n (up2 I 6 (m * 6 + f) (nI (tT (wW I0) b m f))) (by omega) (by omega) (fun m' f' k1 k2 k3 k4 => ?_) (fun k j k1 => ?_)
      · by_cases e : m' = m ∧ f' = f
        · obtain ⟨rfl, rfl⟩ := e
          rw [up2_hit]
        · rw [up2_n _ _ _ (by omega)]
          exact C m' f' k1 k2 k3 (by omega)
      · rw [up2_ap, if_neg (by omega)]
        exact F k j k1
    · rw [if_neg (fun k => g ((bt_1 m h32 f hf).mp k))]
      refine ih (f + 1) n I (by omega) (by omega) (fun m' f' k1 k2 k3 k4 => ?_) F
      by_cases e : m' = m ∧ f' = f
      · obtain ⟨rfl, rfl⟩ := e
        exact absurd k3 g
      · exact C m' f' k1 k2 k3 (by omega)
set_option maxRecDepth 20000 in
theorem rk_out {I0 : MI} (hb : b ≤ 5) (h6 : I0 0 6 = nI b) : ∀ (q m n : Nat) (I : MI), m + q = 2 ^ b → q < n → 0 < m → CT (wW I0) b I m 0 → (∀ k j, ¬ (k = 6 ∧ 6 ≤ j) → I k j = I0 k j) →
    ∃ I', f_X4_reckonWashes_L2 n (nI m) I D = some (I', D) ∧ CT (wW I0) b I' (2 ^ b) 0 ∧ ∀ k j, ¬ (k = 6 ∧ 6 ≤ j) → I' k j = I0 k j := by
  intro q
  obtain ⟨z1, z2, -⟩ := bt_9 b (by omega)
  induction q with
  | zero =>
    intro m n I h1 h2 h0 C F
    obtain ⟨n, rfl⟩ : ∃ n', n = n' + 1 := ⟨n - 1, by omega⟩
    have e : m = 2 ^ b := by omega
    subst e
    refine ⟨I, ?_, C, F⟩
    rw [f_X4_reckonWashes_L2, F _ _ (by omega), h6, z1, if_pos (nI_le (Nat.le_refl _) (by omega))]
  | succ q ih =>
    intro m n I h1 h2 h0 C F
    obtain ⟨n, rfl⟩ : ∃ n', n = n' + 1 := ⟨n - 1, by omega⟩
    obtain ⟨I1, r1, r2, r3⟩ := rk_in (D := D) hb h6 (m := m) (by omega) h0 (by omega) (f_X4_reckonWashes_L2 n) 6 0 200 I (by omega) (by omega) C F
    obtain ⟨I', p1, p2, p3⟩ := ih (m + 1) n I1 (by omega) (by omega) (by omega) (fun m' f' k1 k2 k3 k4 => r2 m' f' k1 k2 k3 (by omega)) r3
    refine ⟨I', ?_, p2, p3⟩
    rw [f_X4_reckonWashes_L2, F _ _ (by omega), h6, z1, if_neg (nI_ge (by omega) (by omega)), show (0 : Int32) = nI 0 from rfl]
    exact r1.trans p1
set_option maxRecDepth 20000 in
theorem rk_ok {I : MI} (hb : b ≤ 5) (h6 : I 0 6 = nI b) (hz : ∀ n, n < 6 → I 6 n = 0) : ∃ I', f_X4_reckonWashes I D = some (I', D) ∧ CT (wW I) b I' (2 ^ b) 0 ∧ ∀ k j, ¬ (k = 6 ∧ 6 ≤ j) → I' k j = I k j := by
  obtain ⟨-, z2, -⟩ := bt_9 b (by omega)
  have h1 := Nat.one_le_two_pow (n := b)
  unfold f_X4_reckonWashes
  rw [show (1 : Int32) = nI 1 from rfl]
  refine rk_out hb h6 (2 ^ b - 1) 1 200 I (by omega) (by omega) (by decide) (fun m f k1 k2 k3 k4 => ?_) (fun _ _ _ => rfl)
  have e : m = 0 := by omega
  subst e
  rw [tT_0, Nat.zero_mul, Nat.zero_add, hz f k1]
  rfl
set_option maxRecDepth 20000 in
theorem bo_L {W : Nat → Nat → Nat} (hW0 : WO W) (hb : b ≤ 5) (h6 : I 0 6 = nI b) (hW : ∀ f i, f < 6 → i < 5 → wW I f i = W f i) (C : CT W b I (2 ^ b) 0) : ∀ (q i n o f m : Nat), i + q = 5 → q < n → m < 2 ^ b → m < 32 → f < 6 → m.testBit f = false → f_X4_bestOrder_L10 I D n (nI i) (nI m) (nI f) (nI o) = some (nI (bO W b q o f m)) := by
  intro q
  induction q with
  | zero =>
    intro i n o f m h1 h2 hm h32 hf g
    obtain ⟨n, rfl⟩ : ∃ n', n = n' + 1 := ⟨n - 1, by omega⟩
    obtain rfl : i = 5 := by omega
    rw [f_X4_bestOrder_L10, if_pos (show (5 : Int32) ≤ nI 5 by decide)]
    rfl
  | succ q ih =>
    intro i n o f m h1 h2 hm h32 hf g
    obtain ⟨n, rfl⟩ : ∃ n', n = n' + 1 := ⟨n - 1, by omega⟩
    rw [f_X4_bestOrder_L10, if_neg (show ¬ (5 : Int32) ≤ nI i from nI_ge (a := i) (b := 5) (by omega) (by decide))]
    show _ = some (nI (if m = 0 then o else bO W b q (10 * o + (bN (tV W b m f) m b).1 + 1) (bN (tV W b m f) m b).1 (rm m (bN (tV W b m f) m b).1)))
    by_cases e : m = 0
    · subst e
      rw [if_pos (show nI 0 = 0 from rfl), if_pos rfl]
    · obtain ⟨w1, w2, w3, w4⟩ := bN_found hW0 hb hm h32 e hf g
      obtain ⟨y1, y2, y3⟩ := bt_5 m h32 (bN (tV W b m f) m b).1 (by omega)
      rw [if_neg (nI_ne0 (by omega) (by omega)), if_neg e, bn_C hb h6 hm h32 hf (show m ≤ 2 ^ b by omega) (fun i hi => hW f i hf hi) C, bd_s, wo_C h32 (show (bN (tV W b m f) m b).1 < 5 by omega), bd_s, show (10 : Int32) = nI 10 from rfl, pk_mul, nI_add, nI_1, nI_1, Nat.mul_comm o 10]
      exact ih (i + 1) n _ _ _ (by omega) (by omega) (bt_11 b (by omega) m hm _ (by omega)) y1 (by omega) y3
set_option maxRecDepth 20000 in
theorem day_C {I : MI} (hb : b ≤ 5) (h6 : I 0 6 = nI b) (hz : ∀ n, n < 6 → I 6 n = 0) {m : Nat} (hm : m < 2 ^ b) (p2 : Int32) (g : f_X4_checkRange (nI m) 0 ((1 <<< (nI b &&& 31)) - 1) = some (.ok ())) : ∃ I', f_X4_day I D (nI m) p2 = some (.ok (if p2 = 0 then nI (tT (wW I) b m 5) else nI (bO (wW I) b 5 0 5 m), I', D)) ∧ ∀ k j, ¬ (k = 6 ∧ 6 ≤ j) → I' k j = I k j := by
  obtain ⟨-, z2, -⟩ := bt_9 b (by omega)
  obtain ⟨I', r1, r2, r3⟩ := rk_ok (D := D) hb h6 hz
  refine ⟨I', ?_, r3⟩
  unfold f_X4_day
  rw [h6, g, bE_o, r1, bd_s]
  dsimp only
  by_cases e : p2 = 0
  · rw [if_pos e, if_pos e, show (5 : Int32) = nI 5 from rfl, cell_C, bd_s, inB_nI (show m * 6 + 5 < 192 by omega) (by decide), ckt, nI_clamp (show m * 6 + 5 < 2 ^ 31 by omega), r2 m 5 (by decide) hm (bt_12 m (by omega)) (Or.inl hm)]
  · rw [if_neg e, if_neg e]
    unfold f_X4_bestOrder
    rw [show (5 : Int32) = nI 5 from rfl, show (0 : Int32) = nI 0 from rfl, bo_L (wW_O I) hb (by rw [r3 _ _ (by omega)]; exact h6) (fun f i hf hi => by
      unfold wW
      by_cases q : f = 5
      · rw [if_pos q, if_pos q]
      · rw [if_neg q, if_neg q, r3 _ _ (by omega), r3 _ _ (by omega)]) r2 5 0 200 0 5 m (by decide) (by decide) hm (by omega) (by decide) (bt_12 m (by omega)), bd_s]
end DYC
