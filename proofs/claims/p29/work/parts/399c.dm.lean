/-! ===== days: the reference ===== -/
section DYM
set_option maxRecDepth 20000 in
theorem bt_14 : ∀ s, s < 32 → ∀ t, t < 32 → (∀ j, j < 5 → s.testBit j = t.testBit j) → s = t := by decide +kernel
set_option maxRecDepth 20000 in
theorem bt_15 : ∀ u, u < 32 → ∀ i, i < 5 → u.testBit i = false → pc (u ||| 2 ^ i) = pc u + 1 := by decide +kernel
/- (o, l, w, u): an order of k mixes, its last one, its washes, its set -/
def PO (W : Nat → Nat → Nat) (b : Nat) : Nat → Nat → Nat → Nat → Nat → Prop
  | 0, o, l, w, u => o = 0 ∧ l = 5 ∧ w = 0 ∧ u = 0
  | k + 1, o, l, w, u => ∃ o' l' w' u', PO W b k o' l' w' u' ∧ l < b ∧ u'.testBit l = false ∧ o = 10 * o' + l + 1 ∧ w = w' + W l' l ∧ u = (u' ||| 2 ^ l)
variable {a b : Nat} {J : MI} {E : MD} {W : Nat → Nat → Nat}
set_option maxRecDepth 20000 in
theorem PO_u (hb : b ≤ 5) : ∀ k o l w u, PO W b k o l w u → u < 32 ∧ pc u = k ∧ (k = 0 ∧ l = 5 ∨ l < b ∧ u.testBit l = true) ∧ o < 10 ^ k ∧ (0 < k → 0 < o) := by
  intro k
  induction k with
  | zero =>
    rintro o l w u ⟨rfl, rfl, rfl, rfl⟩
    exact ⟨by decide, by decide, Or.inl ⟨rfl, rfl⟩, by decide, fun q => absurd q (by omega)⟩
  | succ k ih =>
    rintro o l w u ⟨o', l', w', u', h1, h2, h3, rfl, rfl, rfl⟩
    obtain ⟨i1, i2, i3, i4, i5⟩ := ih o' l' w' u' h1
    obtain ⟨y1, y2, y3⟩ := bt_13 u' i1 l (by omega)
    refine ⟨y1, ?_, Or.inr ⟨h2, y2⟩, ?_, fun _ => by omega⟩
    · rw [bt_15 u' i1 l (by omega) h3, i2]
    · rw [Nat.pow_succ]
      omega
set_option maxRecDepth 20000 in
theorem PO_5 (hb : b ≤ 5) {k o l w u : Nat} (h : PO W b k o l w u) : k ≤ 5 ∧ o < 2 ^ 31 := by
  obtain ⟨h1, h2, h3, h4, h5⟩ := PO_u hb k o l w u h
  have h6 := (bt_8 u h1).1
  have h7 : k ≤ 5 := by omega
  have h8 : 10 ^ k ≤ 10 ^ 5 := Nat.pow_le_pow_right (by decide) h7
  exact ⟨h7, by omega⟩
set_option maxRecDepth 20000 in
theorem PO_w (hW : WO W) : ∀ k o l w u, PO W b k o l w u → (k = 0 ∧ w = 0 ∧ l = 5) ∨ w + 1 ≤ k := by
  intro k
  induction k with
  | zero =>
    rintro o l w u ⟨rfl, rfl, rfl, rfl⟩
    exact Or.inl ⟨rfl, rfl, rfl⟩
  | succ k ih =>
    rintro o l w u ⟨o', l', w', u', h1, h2, h3, rfl, rfl, rfl⟩
    right
    rcases ih o' l' w' u' h1 with ⟨rfl, rfl, rfl⟩ | q
    · rw [hW.2 l]; omega
    · have := hW.1 l' l
      omega
/- the harms of the mixes that there are -/
def HM (a b : Nat) (J : MI) (E : MD) (I : MI) : Prop := ∀ k, k < b → f_X6_harms a b J E k = some (I (13 + k) 6)
set_option maxRecDepth 20000 in
theorem wa_L {I : MI} (G : GT a b J) (H : HM a b J E I) : ∀ k o l w u, PO (wW I) b k o l w u → ∀ n acc, k < n → f_X7_washesOf_L4 a b J E n (nI o) (nI acc) = some (nI (acc + w)) := by
  have hb := G.2.2.2
  intro k
  induction k with
  | zero =>
    rintro o l w u ⟨rfl, rfl, rfl, rfl⟩ n acc hn
    obtain ⟨n, rfl⟩ : ∃ n', n = n' + 1 := ⟨n - 1, by omega⟩
    rw [f_X7_washesOf_L4, if_pos (show nI 0 ≤ 9 by decide)]
    rfl
  | succ k ih =>
    intro o l w u h n acc hn
    obtain ⟨k5, ho⟩ := PO_5 hb h
    obtain ⟨o', l', w', u', h1, h2, h3, rfl, rfl, rfl⟩ := h
    obtain ⟨n, rfl⟩ : ∃ n', n = n' + 1 := ⟨n - 1, by omega⟩
    cases k with
    | zero =>
      obtain ⟨rfl, rfl, rfl, rfl⟩ := h1
      rw [f_X7_washesOf_L4, if_pos (show nI (10 * 0 + l + 1) ≤ (9 : Int32) from nI_le (b := 9) (by omega) (by decide))]
      rfl
    | succ k =>
      have ih2 := ih o' l' w' u' h1
      obtain ⟨-, ho'⟩ := PO_5 hb h1
      obtain ⟨o2, l2, w2, u2, g1, g2, g3, rfl, rfl, rfl⟩ := h1
      have z1 : (10 * (10 * o2 + l' + 1) + l + 1) / 10 = 10 * o2 + l' + 1 := by omega
      have z2 : (10 * (10 * o2 + l' + 1) + l + 1) % 10 = l + 1 := by omega
      have z3 : (10 * o2 + l' + 1) % 10 = l' + 1 := by omega
      have e10 : (10 : Int32) = nI 10 := rfl
      rw [f_X7_washesOf_L4, if_neg (show ¬ nI (10 * (10 * o2 + l' + 1) + l + 1) ≤ (9 : Int32) from nI_ge (a := 9) (by omega) ho), e10, pk_rem ho (by decide) (by decide), pk_div ho (by decide) (by decide), z1, z2, pk_rem ho' (by decide) (by decide), z3, nI_pred, nI_pred, get2_ok G E g2, bd_s, H _ g2, bd_s, get2_ok G E h2, bd_s, H _ h2, bd_s]
      have hl5 : ¬ l' = 5 := by omega
      by_cases q : I (13 + l') 6 &&& (I (13 + l) 6 ^^^ (-1)) = 0
      · rw [if_pos q, Int32.add_zero, ih2 n acc (by omega)]
        unfold wW
        rw [if_neg hl5, if_pos q]
        congr 2
      · rw [if_neg q, nI_1, ih2 n (acc + 1) (by omega)]
        have e1 : wW I l' l = 1 := by
          unfold wW
          rw [if_neg hl5, if_neg q]
        rw [e1]
        congr 2
        omega
set_option maxRecDepth 20000 in
theorem wa_ok {I : MI} (G : GT a b J) (H : HM a b J E I) {k o l w u : Nat} (h : PO (wW I) b k o l w u) : f_X7_washesOf a b J E (nI o) = some (nI w) := by
  have k5 := (PO_5 G.2.2.2 h).1
  unfold f_X7_washesOf
  rw [show (0 : Int32) = nI 0 from rfl, wa_L G H k o l w u h 200 0 (by omega), Nat.zero_add]
set_option maxRecDepth 20000 in
theorem or_L (hb : b ≤ 5) {set : Nat} (hs : set < 32) : ∀ k o l w u, PO W b k o l w u → ∀ n seen, k < n → seen < 32 → (∀ j, j < 5 → u.testBit j = true → seen.testBit j = false) → (∀ j, j < 5 → set.testBit j = (seen.testBit j || u.testBit j)) → f_X7_isOrder_L4 (nI set) n (nI o) (nI seen) = some 1 := by
  intro k
  induction k with
  | zero =>
    rintro o l w u ⟨rfl, rfl, rfl, rfl⟩ n seen hn h32 hd hu
    obtain ⟨n, rfl⟩ : ∃ n', n = n' + 1 := ⟨n - 1, by omega⟩
    have e : seen = set := bt_14 seen h32 set hs (fun j hj => by
      rw [hu j hj, show (0 : Nat).testBit j = false from Nat.zero_testBit j, Bool.or_false])
    rw [f_X7_isOrder_L4, if_pos (show nI 0 ≤ 0 by decide), e, if_pos rfl]
  | succ k ih =>
    intro o l w u h n seen hn h32 hd hu
    obtain ⟨k5, ho⟩ := PO_5 hb h
    obtain ⟨o', l', w', u', h1, h2, h3, rfl, rfl, rfl⟩ := h
    obtain ⟨i1, i2, i3, i4, i5⟩ := PO_u hb _ _ _ _ _ h1
    obtain ⟨n, rfl⟩ : ∃ n', n = n' + 1 := ⟨n - 1, by omega⟩
    obtain ⟨y1, y2, y3⟩ := bt_13 u' i1 l (by omega)
    obtain ⟨s1, s2, s3⟩ := bt_13 seen h32 l (by omega)
    have z1 : (10 * o' + l + 1) / 10 = o' := by omega
    have z2 : (10 * o' + l + 1) % 10 = l + 1 := by omega
    have e10 : (10 : Int32) = nI 10 := rfl
    have hsl : seen.testBit l = false := hd l (by omega) y2
    have hset : set.testBit l = true := by rw [hu l (by omega), y2, Bool.or_true]
    rw [f_X7_isOrder_L4, if_neg (nI_nle (by omega) ho), e10, pk_rem ho (by decide) (by decide), z2, nI_pred, if_neg (nI_pos (show l < 2 ^ 31 by omega)), if_neg (fun q => by
      have := (bt_3z set hs l (by omega)).mp q
      rw [hset] at this
      cases this), if_neg (fun q => by
      have := (bt_3 seen h32 l (by omega)).mp q
      rw [hsl] at this
      cases this), pk_div ho (by decide) (by decide), z1, bt_4 seen h32 l (by omega)]
    refine ih o' l' w' u' h1 n (seen ||| 2 ^ l) (by omega) s1 (fun j hj q => ?_) (fun j hj => ?_)
    · by_cases e : j = l
      · subst e
        rw [h3] at q
        cases q
      · rw [s3 j hj e]
        exact hd j hj (by rw [y3 j hj e]; exact q)
    · rw [hu j hj]
      by_cases e : j = l
      · subst e
        rw [y2, s2, Bool.or_true, Bool.true_or]
      · rw [y3 j hj e, s3 j hj e]
set_option maxRecDepth 20000 in
theorem or_ok (hb : b ≤ 5) {set : Nat} (hs : set < 32) {k o l w u : Nat} (h : PO W b k o l w u) (hu : ∀ j, j < 5 → set.testBit j = u.testBit j) : f_X7_isOrder (nI o) (nI set) = some 1 := by
  have k5 := (PO_5 hb h).1
  unfold f_X7_isOrder
  rw [show (0 : Int32) = nI 0 from rfl]
  exact or_L hb hs k o l w u h 200 0 (by omega) (by decide) (fun j _ _ => Nat.zero_testBit j) (fun j hj => by rw [Nat.zero_testBit, Bool.false_or]; exact hu j hj)
/- the best order is one, with these washes -/
set_option maxRecDepth 20000 in
theorem bO_PO (hW : WO W) (hb : b ≤ 5) : ∀ k q o l w u m, PO W b q o l w u → pc m = k → m < 2 ^ b → m < 32 → (∀ j, j < 5 → u.testBit j = true → m.testBit j = false) → ∃ l' u', PO W b (q + k) (bO W b k o l m) l' (w + tT W b m l) u' := by
  intro k
  induction k with
  | zero =>
    intro q o l w u m h h1 h2 h3 h4
    have e : m = 0 := Decidable.byContradiction (fun z => by
      obtain ⟨i, hi, g⟩ := (bt_8 m h3).2.2.1 z
      have := bt_7 m h3 i hi g
      omega)
    subst e
    exact ⟨l, u, h⟩
  | succ k ih =>
    intro q o l w u m h h1 h2 h3 h4
    have e : m ≠ 0 := (bt_8 m h3).2.2.2.2 (by omega)
    obtain ⟨i1, i2, i3, i4, i5⟩ := PO_u hb _ _ _ _ _ h
    have hl : l < 6 ∧ m.testBit l = false := by
      rcases i3 with ⟨-, y⟩ | ⟨y1, y2⟩
      · exact ⟨by omega, by rw [y]; exact bt_12 m h3⟩
      · exact ⟨by omega, h4 l (by omega) y2⟩
    obtain ⟨w1, w2, w3, w4⟩ := bN_found hW hb h2 h3 e hl.1 hl.2
    have hbi : (bN (tV W b m l) m b).1 < 5 := by omega
    obtain ⟨y1, y2, y3⟩ := bt_5 m h3 _ hbi
    have hp := bt_7 m h3 _ hbi w3
    have hun : u.testBit (bN (tV W b m l) m b).1 = false := by
      cases hh : u.testBit (bN (tV W b m l) m b).1 with
      | false => rfl
      | true =>
        have := h4 _ hbi hh
        rw [w3] at this
        cases this
    have hPO : PO W b (q + 1) (10 * o + (bN (tV W b m l) m b).1 + 1) (bN (tV W b m l) m b).1 (w + W l (bN (tV W b m l) m b).1) (u ||| 2 ^ (bN (tV W b m l) m b).1) := ⟨o, l, w, u, h, w2, hun, rfl, rfl, rfl⟩
    obtain ⟨s1, s2, s3⟩ := bt_13 u i1 _ hbi
    obtain ⟨l', u', z⟩ := ih (q + 1) _ _ _ _ (rm m (bN (tV W b m l) m b).1) hPO (by omega) (bt_11 b (by omega) m h2 _ hbi) y1 (fun j hj k1 => by
      by_cases e : j = (bN (tV W b m l) m b).1
      · rw [e]; exact y3
      · rw [bt_6 m h3 _ hbi j (by omega) e]
        exact h4 j hj (by rw [← s3 j hj e]; exact k1))
    refine ⟨l', u', ?_⟩
    have e1 : bO W b (k + 1) o l m = bO W b k (10 * o + (bN (tV W b m l) m b).1 + 1) (bN (tV W b m l) m b).1 (rm m (bN (tV W b m l) m b).1) := by
      show (if m = 0 then o else _) = _
      rw [if_neg e]
    have e2 : w + tT W b m l = w + W l (bN (tV W b m l) m b).1 + tT W b (rm m (bN (tV W b m l) m b).1) (bN (tV W b m l) m b).1 := by
      rw [← w4]
      unfold tV
      omega
    rw [e1, e2, show q + (k + 1) = q + 1 + k by omega]
    exact z
set_option maxRecDepth 20000 in
theorem best_ok {I : MI} (G : GT a b J) (H : HM a b J E I) {set : Nat} (hs : set < 32) : ∀ k nr q o l w u m B wB, k < nr → PO (wW I) b q o l w u → pc m = k → m < 2 ^ b → m < 32 → (∀ j, j < 5 → u.testBit j = true → m.testBit j = false) → (∀ j, j < 5 → set.testBit j = (u.testBit j || m.testBit j)) → (B = 0 ∨ ∃ kB lB uB, 0 < kB ∧ PO (wW I) b kB B lB wB uB) →
    f_X7_bestOf nr a b J E (nI o) (nI set) (nI m) (nI B) = some (nI (if B = 0 then bO (wW I) b k o l m else if w + tT (wW I) b m l < wB then bO (wW I) b k o l m else B)) := by
  have hb := G.2.2.2
  have hW := wW_O I
  intro k
  induction k with
  | zero =>
    intro nr q o l w u m B wB hnr hP hpc hm h32 hd hu hB
    obtain ⟨nr, rfl⟩ : ∃ n', nr = n' + 1 := ⟨nr - 1, by omega⟩
    have e : m = 0 := Decidable.byContradiction (fun z => by
      obtain ⟨i, hi, g⟩ := (bt_8 m h32).2.2.1 z
      have := bt_7 m h32 i hi g
      omega)
    subst e
    rw [f_X7_bestOf, if_pos (show nI 0 = 0 from rfl)]
    rcases hB with rfl | ⟨kB, lB, uB, hkB, hPB⟩
    · rw [if_pos (show nI 0 = 0 from rfl), or_ok hb hs hP (fun j hj => by rw [hu j hj, Nat.zero_testBit, Bool.or_false]), bd_s, if10, if_pos rfl]
      rfl
    · obtain ⟨c1, c2, c3, c4, c5⟩ := PO_u hb _ _ _ _ _ hPB
      have hB0 := c5 hkB
      have hBb := (PO_5 hb hPB).2
      have w1 : w < 2 ^ 31 := by
        have := (PO_5 hb hP).1
        rcases PO_w hW _ _ _ _ _ hP with ⟨-, y, -⟩ | y <;> omega
      have w2 : wB < 2 ^ 31 := by
        have := (PO_5 hb hPB).1
        rcases PO_w hW _ _ _ _ _ hPB with ⟨-, y, -⟩ | y <;> omega
      rw [if_neg (nI_ne0 hB0 hBb), if_neg (nI_nle hB0 hBb), wa_ok G H hP, bd_s, wa_ok G H hPB, bd_s, if_neg (show ¬ B = 0 by omega), tT_0, Nat.add_zero]
      by_cases g : wB ≤ w
      · rw [if_pos (nI_le g w1), if_neg (show ¬ w < wB by omega)]
      · rw [if_neg (nI_ge (show w < wB by omega) w2), if_pos (show w < wB by omega)]
        rfl
  | succ k ih =>
    intro nr q o l w u m B wB hnr hP hpc hm h32 hd hu hB
    obtain ⟨nr, rfl⟩ : ∃ n', nr = n' + 1 := ⟨nr - 1, by omega⟩
    have e : m ≠ 0 := (bt_8 m h32).2.2.2.2 (by omega)
    obtain ⟨i1, i2, i3, i4, i5⟩ := PO_u hb _ _ _ _ _ hP
    have hl : l < 6 ∧ m.testBit l = false := by
      rcases i3 with ⟨-, y⟩ | ⟨y1, y2⟩
      · exact ⟨by omega, by rw [y]; exact bt_12 m h32⟩
      · exact ⟨by omega, hd l (by omega) y2⟩
    obtain ⟨w1, w2, w3, w4⟩ := bN_found hW hb hm h32 e hl.1 hl.2
    have hwB : B ≠ 0 → wB < 5 := fun z => by
      rcases hB with y | ⟨kB, lB, uB, hkB, hPB⟩
      · exact absurd y z
      · have y1 := (PO_5 hb hPB).1
        rcases PO_w hW _ _ _ _ _ hPB with ⟨y2, -⟩ | y2 <;> omega
    /- what a way by n gives -/
    have hg : ∀ n, n < b → m.testBit n = true → ∃ l' u', PO (wW I) b (q + (k + 1)) (bO (wW I) b k (10 * o + n + 1) n (rm m n)) l' (w + tV (wW I) b m l n) u' := by
      intro n hn g
      obtain ⟨y1, y2, y3⟩ := bt_5 m h32 n (by omega)
      have hp := bt_7 m h32 n (by omega) g
      have hun : u.testBit n = false := by
        cases hh : u.testBit n with
        | false => rfl
        | true =>
          have := hd n (by omega) hh
          rw [g] at this
          cases this
      obtain ⟨s1, s2, s3⟩ := bt_13 u i1 n (by omega)
      obtain ⟨l', u', z⟩ := bO_PO hW hb k (q + 1) (10 * o + n + 1) n (w + wW I l n) (u ||| 2 ^ n) (rm m n) ⟨o, l, w, u, hP, hn, hun, rfl, rfl, rfl⟩ (by omega) (bt_11 b (by omega) m hm n (by omega)) y1 (fun j hj k1 => by
        by_cases e : j = n
        · rw [e]; exact y3
        · rw [bt_6 m h32 n (by omega) j (by omega) e]
          exact hd j hj (by rw [← s3 j hj e]; exact k1))
      refine ⟨l', u', ?_⟩
      have e2 : w + tV (wW I) b m l n = w + wW I l n + tT (wW I) b (rm m n) n := by
        unfold tV
        omega
      rw [e2, show q + (k + 1) = q + 1 + k by omega]
      exact z
    obtain ⟨g, hgd⟩ : ∃ g : Nat → Nat, g = fun n => bO (wW I) b k (10 * o + n + 1) n (rm m n) := ⟨_, rfl⟩
    obtain ⟨v, hvd⟩ : ∃ v : Nat → Nat, v = tV (wW I) b m l := ⟨_, rfl⟩
    obtain ⟨mk, hmk⟩ : ∃ mk : Nat × Nat → Nat, mk = fun p => if B = 0 then (if p.2 = 5 then 0 else g p.1) else (if w + p.2 < wB then g p.1 else B) := ⟨_, rfl⟩
    have hrec : ∀ n M wM, n < b → m.testBit n = true → (M = 0 ∨ ∃ kB lB uB, 0 < kB ∧ PO (wW I) b kB M lB wM uB) → f_X7_bestOf nr a b J E (nI (10 * o + n + 1)) (nI set) (nI (rm m n)) (nI M) = some (nI (if M = 0 then g n else if w + v n < wM then g n else M)) := by
      intro n M wM hn gb hM
      obtain ⟨y1, y2, y3⟩ := bt_5 m h32 n (by omega)
      have hp := bt_7 m h32 n (by omega) gb
      have hun : u.testBit n = false := by
        cases hh : u.testBit n with
        | false => rfl
        | true =>
          have := hd n (by omega) hh
          rw [gb] at this
          cases this
      obtain ⟨s1, s2, s3⟩ := bt_13 u i1 n (by omega)
      have z := ih nr (q + 1) (10 * o + n + 1) n (w + wW I l n) (u ||| 2 ^ n) (rm m n) M wM (by omega) ⟨o, l, w, u, hP, hn, hun, rfl, rfl, rfl⟩ (by omega) (bt_11 b (by omega) m hm n (by omega)) y1 (fun j hj k1 => by
        by_cases e : j = n
        · rw [e]; exact y3
        · rw [bt_6 m h32 n (by omega) j (by omega) e]
          exact hd j hj (by rw [← s3 j hj e]; exact k1)) (fun j hj => by
        rw [hu j hj]
        by_cases e : j = n
        · rw [e, gb, s2, Bool.or_true, Bool.true_or]
        · rw [s3 j hj e, bt_6 m h32 n (by omega) j (by omega) e]) hM
      have e2 : w + wW I l n + tT (wW I) b (rm m n) n = w + v n := by
        rw [hvd]
        unfold tV
        omega
      rw [e2] at z
      rw [hgd]
      exact z
    have loop : ∀ (r i n : Nat), i + r = b → r < n → f_X7_bestOf_L50 a b J E (nI o) (nI set) (nI m) (f_X7_bestOf nr a b J E) n (nI i) (nI (mk (bN v m i))) = some (nI (mk (bN v m b))) := by
      intro r
      induction r with
      | zero =>
        intro i n h1 h2
        obtain ⟨n, rfl⟩ : ∃ n', n = n' + 1 := ⟨n - 1, by omega⟩
        obtain rfl : i = b := by omega
        rw [f_X7_bestOf_L50]
        unfold f_size2
        rw [bd_s, G.2.1, if_pos (nI_le (Nat.le_refl _) (by omega))]
      | succ r ihr =>
        intro i n h1 h2
        obtain ⟨n, rfl⟩ : ∃ n', n = n' + 1 := ⟨n - 1, by omega⟩
        have z := ihr (i + 1) n (by omega) (by omega)
        have hle := bN_le v m i
        have eb : bN v m (i + 1) = if m.testBit i = true ∧ v i < (bN v m i).2 then (i, v i) else bN v m i := rfl
        rw [f_X7_bestOf_L50]
        unfold f_size2
        rw [bd_s, G.2.1, if_neg (nI_ge (by omega) (by omega)), nI_1]
        by_cases gb : m.testBit i = true
        · have hv5 : v i < 5 := by
            rw [hvd]
            exact tV_5 hW hb hm h32 hl.1 hl.2 (by omega) gb
          have hcall : ∃ wM, (mk (bN v m i) = 0 ∨ ∃ kB lB uB, 0 < kB ∧ PO (wW I) b kB (mk (bN v m i)) lB wM uB) ∧ (if mk (bN v m i) = 0 then g i else if w + v i < wM then g i else mk (bN v m i)) = mk (bN v m (i + 1)) := by
            have hgp : (bN v m i).2 < 5 → ∃ l' u', PO (wW I) b (q + (k + 1)) (g (bN v m i).1) l' (w + (bN v m i).2) u' ∧ g (bN v m i).1 ≠ 0 := fun h5 => by
              obtain ⟨y1, y2, y3⟩ := bN_in v m i h5
              obtain ⟨l', u', y4⟩ := hg (bN v m i).1 (by omega) y2
              have y5 : w + tV (wW I) b m l (bN v m i).1 = w + (bN v m i).2 := by rw [← y3, hvd]
              rw [y5] at y4
              have y6 : bO (wW I) b k (10 * o + (bN v m i).1 + 1) (bN v m i).1 (rm m (bN v m i).1) = g (bN v m i).1 := by rw [hgd]
              rw [y6] at y4
              refine ⟨l', u', y4, fun q0 => ?_⟩
              have := (PO_u hb _ _ _ _ _ y4).2.2.2.2 (by omega)
              omega
            rw [eb]
            by_cases hB0 : B = 0
            · by_cases h5 : (bN v m i).2 = 5
              · have e0 : mk (bN v m i) = 0 := by rw [hmk]; show (if B = 0 then _ else _) = 0; rw [if_pos hB0, if_pos h5]
                refine ⟨0, Or.inl e0, ?_⟩
                rw [if_pos e0, if_pos ⟨gb, by omega⟩, hmk]
                show g i = (if B = 0 then (if v i = 5 then 0 else g i) else _)
                rw [if_pos hB0, if_neg (by omega)]
              · obtain ⟨l', u', y1, y2⟩ := hgp (by omega)
                have e0 : mk (bN v m i) = g (bN v m i).1 := by rw [hmk]; show (if B = 0 then _ else _) = _; rw [if_pos hB0, if_neg h5]
                refine ⟨w + (bN v m i).2, Or.inr ⟨q + (k + 1), l', u', by omega, by rw [e0]; exact y1⟩, ?_⟩
                rw [e0, if_neg y2]
                by_cases hlt : v i < (bN v m i).2
                · rw [if_pos (by omega), if_pos ⟨gb, hlt⟩, hmk]
                  show g i = (if B = 0 then (if v i = 5 then 0 else g i) else _)
                  rw [if_pos hB0, if_neg (by omega)]
                · rw [if_neg (by omega), if_neg (fun y => hlt y.2), e0]
            · have hwB5 := hwB hB0
              by_cases hlo : w + (bN v m i).2 < wB
              · obtain ⟨l', u', y1, y2⟩ := hgp (by omega)
                have e0 : mk (bN v m i) = g (bN v m i).1 := by rw [hmk]; show (if B = 0 then _ else _) = _; rw [if_neg hB0, if_pos hlo]
                refine ⟨w + (bN v m i).2, Or.inr ⟨q + (k + 1), l', u', by omega, by rw [e0]; exact y1⟩, ?_⟩
                rw [e0, if_neg y2]
                by_cases hlt : v i < (bN v m i).2
                · rw [if_pos (by omega), if_pos ⟨gb, hlt⟩, hmk]
                  show g i = (if B = 0 then _ else (if w + v i < wB then g i else B))
                  rw [if_neg hB0, if_pos (by omega)]
                · rw [if_neg (by omega), if_neg (fun y => hlt y.2), e0]
              · have e0 : mk (bN v m i) = B := by rw [hmk]; show (if B = 0 then _ else _) = _; rw [if_neg hB0, if_neg hlo]
                refine ⟨wB, ?_, ?_⟩
                · rw [e0]
                  exact hB
                · rw [e0, if_neg hB0]
                  by_cases hlt : v i < (bN v m i).2
                  · rw [if_pos (show m.testBit i = true ∧ v i < (bN v m i).2 from ⟨gb, hlt⟩), hmk]
                    show _ = (if B = 0 then _ else (if w + v i < wB then g i else B))
                    rw [if_neg hB0]
                  · rw [if_neg (show ¬ w + v i < wB by omega), if_neg (fun y => hlt y.2), e0]
          obtain ⟨wM, hM, hE⟩ := hcall
          rw [if_pos ((bt_3 m h32 i (by omega)).mpr gb), show (10 : Int32) = nI 10 from rfl, pk_mul, nI_add, nI_1, bt_2 m h32 i (by omega), hrec i _ wM (by omega) gb hM, hE, bd_s]
          exact z
        · rw [if_neg (fun y => gb y.1)] at eb
          rw [eb] at z
          rw [if_neg (fun y => gb ((bt_3 m h32 i (by omega)).mp y))]
          exact z
    have fin := loop b 0 200 (by omega) (by omega)
    have e0 : mk (bN v m 0) = B := by
      rw [hmk]
      show (if B = 0 then (if (5 : Nat) = 5 then 0 else g 0) else (if w + 5 < wB then g 0 else B)) = B
      by_cases hB0 : B = 0
      · rw [if_pos hB0, if_pos rfl, hB0]
      · have := hwB hB0
        rw [if_neg hB0, if_neg (by omega)]
    have e1 : g (bN v m b).1 = bO (wW I) b (k + 1) o l m := by
      rw [hgd, hvd]
      show _ = (if m = 0 then o else _)
      rw [if_neg e]
    have e2 : (bN v m b).2 = tT (wW I) b m l := by rw [hvd, tT_m (wW I) hb h32 e]
    rw [e0] at fin
    rw [f_X7_bestOf, if_neg (nI_ne0 (by omega) (by omega)), show (0 : Int32) = nI 0 from rfl, fin]
    congr 2
    rw [hmk]
    show (if B = 0 then (if (bN v m b).2 = 5 then 0 else g (bN v m b).1) else (if w + (bN v m b).2 < wB then g (bN v m b).1 else B)) = _
    have h5 : (bN v m b).2 < 5 := by rw [hvd]; exact w1
    rw [e1, e2]
    by_cases hB0 : B = 0
    · rw [if_pos hB0, if_pos hB0, if_neg (by omega)]
    · rw [if_neg hB0, if_neg hB0]
end DYM
