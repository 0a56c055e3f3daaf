/-! ===== the best orders, as the law asks for them ===== -/
section BES
variable {LS : Nat} {xs : Nat → Int32} {a b c d h : Nat} {I J : MI} {D E M : MD}
set_option maxRecDepth 20000 in
theorem wash_L (R : RR 0 a b c d h I D J E) {n : Nat} (hn : n ≤ 5) {g : Nat → Nat} (hg : ∀ j, j < n → g j < b) {K : MI} (hK : ∀ j, j < n → K 34 j = nI (g j)) : ∀ (m i fuel acc : Nat), (i + 1) + m = n → m < fuel → f_L_washes_L4 n I D K fuel (nI (i + 1)) (nI acc) = some (nI (acc + cF (wW I) m (fun j => g (i + 1 + j)) (g i)))
  | 0, i, fuel, acc, h1, h2 => by
    obtain ⟨fuel, rfl⟩ : ∃ n', fuel = n' + 1 := ⟨fuel - 1, by omega⟩
    obtain rfl : i + 1 = n := by omega
    rw [f_L_washes_L4, if_pos (nI_le (Nat.le_refl _) (by omega))]
    rfl
  | m + 1, i, fuel, acc, h1, h2 => by
    obtain ⟨fuel, rfl⟩ : ∃ n', fuel = n' + 1 := ⟨fuel - 1, by omega⟩
    have hb := R.b5
    have g1 := hg i (by omega)
    have g2 := hg (i + 1) (by omega)
    have z1 : f_X4_ofMix I D (nI (g i)) 3 = some (.ok (I (13 + g i) 6)) := mix_ok R g1 (w := 3) (by decide)
    have z2 : f_X4_ofMix I D (nI (g (i + 1))) 3 = some (.ok (I (13 + g (i + 1)) 6)) := mix_ok R g2 (w := 3) (by decide)
    rw [f_L_washes_L4, if_neg (nI_ge (by omega) (by omega)), nI_pred, inB_nI (show i < n by omega) (by omega), ckt, nI_clamp (show i < 2 ^ 31 by omega), hK i (by omega), z1, eO_ok, bd_s, inB_nI (show i + 1 < n by omega) (by omega), ckt, nI_clamp (show i + 1 < 2 ^ 31 by omega), hK (i + 1) (by omega), z2, eO_ok, bd_s]
    have e0 : cF (wW I) (m + 1) (fun j => g (i + 1 + j)) (g i) = wW I (g i) (g (i + 1)) + cF (wW I) m (fun j => g (i + 1 + 1 + j)) (g (i + 1)) := by
      show wW I (g i) (g (i + 1 + 0)) + cF (wW I) m (fun j => g (i + 1 + (j + 1))) (g (i + 1 + 0)) = _
      rw [Nat.add_zero]
      congr 1
      exact cF_ext m _ _ _ (fun j _ => by rw [show i + 1 + (j + 1) = i + 1 + 1 + j by omega])
    have e1 : wW I (g i) (g (i + 1)) = if I (13 + g i) 6 &&& (I (13 + g (i + 1)) 6 ^^^ (-1)) = 0 then 0 else 1 := by
      unfold wW
      rw [if_neg (show ¬ g i = 5 by omega)]
    rw [e0, e1]
    unfold f_L_washes_J46
    by_cases e : I (13 + g i) 6 &&& (I (13 + g (i + 1)) 6 ^^^ (-1)) = 0
    · rw [if_pos e, if_pos e, Int32.add_zero, nI_1, wash_L R hn hg hK m (i + 1) fuel acc (by omega) (by omega), Nat.zero_add]
    · rw [if_neg e, if_neg e, nI_1, nI_1, wash_L R hn hg hK m (i + 1) fuel (acc + 1) (by omega) (by omega), Nat.add_assoc]
set_option maxRecDepth 20000 in
theorem wash_ok (R : RR 0 a b c d h I D J E) {n : Nat} (h0 : 1 ≤ n) (hn : n ≤ 5) {g : Nat → Nat} (hg : ∀ j, j < n → g j < b) {K : MI} (hK : ∀ j, j < n → K 34 j = nI (g j)) : f_L_washes LS xs a b c d n I D K M = some (nI (cF (wW I) n g 5)) := by
  obtain ⟨n, rfl⟩ : ∃ n', n = n' + 1 := ⟨n - 1, by omega⟩
  unfold f_L_washes
  have h1 := wash_L R hn hg hK n 0 200 0 (by omega) (by omega)
  refine h1.trans ?_
  have e : cF (wW I) (n + 1) g 5 = wW I 5 (g 0) + cF (wW I) n (fun j => g (j + 1)) (g 0) := rfl
  rw [e, (wW_O I).2]
  exact congrArg (fun z => some (nI (0 + z))) (cF_ext n _ _ _ (fun j _ => by rw [show 0 + 1 + j = j + 1 by omega]))
set_option maxRecDepth 20000 in
theorem num_L {n : Nat} (hn : n ≤ 5) {g : Nat → Nat} {K : MI} (hK : ∀ j, j < n → K 34 j = nI (g j)) : ∀ (m i fuel v : Nat), i + m = n → m < fuel → f_L_number_L10 n K fuel (nI i) (nI v) = some (nI (nF m (fun j => g (i + j)) v))
  | 0, i, fuel, v, h1, h2 => by
    obtain ⟨fuel, rfl⟩ : ∃ n', fuel = n' + 1 := ⟨fuel - 1, by omega⟩
    obtain rfl : i = n := by omega
    rw [f_L_number_L10, if_pos (nI_le (Nat.le_refl _) (by omega))]
    rfl
  | m + 1, i, fuel, v, h1, h2 => by
    obtain ⟨fuel, rfl⟩ : ∃ n', fuel = n' + 1 := ⟨fuel - 1, by omega⟩
    have e10 : nI v * 10 = nI (10 * v) := by rw [Nat.mul_comm]; exact pk_mul v 10
    rw [f_L_number_L10, if_neg (nI_ge (by omega) (by omega)), inB_nI (show i < n by omega) (by omega), ckt, nI_clamp (show i < 2 ^ 31 by omega), hK i (by omega), e10, nI_add, nI_1, nI_1, num_L hn hK m (i + 1) fuel _ (by omega) (by omega)]
    have e0 : nF (m + 1) (fun j => g (i + j)) v = nF m (fun j => g (i + (j + 1))) (10 * v + g i + 1) := rfl
    rw [e0, show (fun j => g (i + (j + 1))) = fun j => g (i + 1 + j) from funext (fun j => by rw [show i + (j + 1) = i + 1 + j by omega])]
set_option maxRecDepth 20000 in
theorem num_ok {n : Nat} (hn : n ≤ 5) {g : Nat → Nat} {K : MI} (hK : ∀ j, j < n → K 34 j = nI (g j)) : f_L_number LS xs a b c d n I D K M = some (nI (nF n g 0)) := by
  unfold f_L_number
  refine (num_L hn hK n 0 200 0 (by omega) (by omega)).trans ?_
  rw [show (fun j => g (0 + j)) = g from funext (fun j => by rw [Nat.zero_add])]
/- what is known of a set's best order -/
def BST (b : Nat) (I : MI) (m n O T : Nat) (g : Nat → Nat) : Prop :=
  b ≤ 4 ∧ m < 32 ∧ m < 2 ^ b ∧ isP b n g m ∧ O = nF n g 0 ∧ T = cF (wW I) n g 5 ∧ (∀ g', isP b n g' m → T ≤ cF (wW I) n g' 5 ∧ (cF (wW I) n g' 5 = T → O ≤ nF n g' 0)) ∧ 1 ≤ n ∧ n ≤ 5 ∧ T < n
set_option maxRecDepth 20000 in
theorem BST.hb {m n O T : Nat} {g : Nat → Nat} (B : BST b I m n O T g) : b ≤ 4 := B.1
set_option maxRecDepth 20000 in
theorem BST.h32 {m n O T : Nat} {g : Nat → Nat} (B : BST b I m n O T g) : m < 32 := B.2.1
set_option maxRecDepth 20000 in
theorem BST.hm {m n O T : Nat} {g : Nat → Nat} (B : BST b I m n O T g) : m < 2 ^ b := B.2.2.1
set_option maxRecDepth 20000 in
theorem BST.hp {m n O T : Nat} {g : Nat → Nat} (B : BST b I m n O T g) : isP b n g m := B.2.2.2.1
set_option maxRecDepth 20000 in
theorem BST.hO {m n O T : Nat} {g : Nat → Nat} (B : BST b I m n O T g) : O = nF n g 0 := B.2.2.2.2.1
set_option maxRecDepth 20000 in
theorem BST.hT {m n O T : Nat} {g : Nat → Nat} (B : BST b I m n O T g) : T = cF (wW I) n g 5 := B.2.2.2.2.2.1
set_option maxRecDepth 20000 in
theorem BST.opt {m n O T : Nat} {g : Nat → Nat} (B : BST b I m n O T g) : ∀ g', isP b n g' m → T ≤ cF (wW I) n g' 5 ∧ (cF (wW I) n g' 5 = T → O ≤ nF n g' 0) := B.2.2.2.2.2.2.1
set_option maxRecDepth 20000 in
theorem BST.n1 {m n O T : Nat} {g : Nat → Nat} (B : BST b I m n O T g) : 1 ≤ n := B.2.2.2.2.2.2.2.1
set_option maxRecDepth 20000 in
theorem BST.n4 {m n O T : Nat} {g : Nat → Nat} (B : BST b I m n O T g) : n ≤ 5 := B.2.2.2.2.2.2.2.2.1
set_option maxRecDepth 20000 in
theorem BST.lt {m n O T : Nat} {g : Nat → Nat} (B : BST b I m n O T g) : T < n := B.2.2.2.2.2.2.2.2.2
variable {rec2 : Int32 → MI → MD → MI → Option (Int32 × MI × MD × MI)} {m n O T : Nat} {g : Nat → Nat}
set_option maxRecDepth 20000 in
theorem BST.gb (B : BST b I m n O T g) : ∀ g', isP b n g' m → ∀ j, j < n → g' j < b := fun g' h => (isP_flat (by have := B.hb; omega) n g' m B.h32 h).1
set_option maxRecDepth 20000 in
theorem BST.big (B : BST b I m n O T g) : ∀ g', isP b n g' m → nF n g' 0 < 2 ^ 31 := fun g' h => by
  have h1 := B.hb
  have h2 := nF_lt n g' 0 (fun j hj => by have := B.gb g' h j hj; omega)
  have h3 : 10 ^ n ≤ 10 ^ 5 := Nat.pow_le_pow_right (by decide) B.n4
  omega
set_option maxRecDepth 20000 in
theorem be_152 (R : RR 0 a b c d h I D J E) (B : BST b I m n O T g) {rec139 : Int32 → MI → Option (Int32 × MI × MD × MI)} {x : Nat} : ∀ (q y fuel : Nat) (K : MI), y + q = n → q < fuel → x < y → (∀ j, j < n → K 34 j = nI (g j)) → ∃ K', f_L_isBest_L152 rec139 LS xs a b c d M (nI O) I D (nI T) (nI n) (nI x) fuel (nI y) K = rec139 (nI (x + 1)) K' ∧ (∀ j, j < n → K' 34 j = nI (g j)) ∧ ∀ k j, k ≠ 34 → K' k j = K k j
  | 0, y, fuel, K, h1, h2, h3, hK => by
    obtain ⟨fuel, rfl⟩ : ∃ n', fuel = n' + 1 := ⟨fuel - 1, by omega⟩
    obtain rfl : y = n := by omega
    have := B.n4
    rw [f_L_isBest_L152, if_pos (nI_le (Nat.le_refl _) (by omega)), nI_1]
    exact ⟨K, rfl, hK, fun _ _ _ => rfl⟩
  | q + 1, y, fuel, K, h1, h2, h3, hK => by
    obtain ⟨fuel, rfl⟩ : ∃ n', fuel = n' + 1 := ⟨fuel - 1, by omega⟩
    have hn := B.n4
    have hb := B.hb
    have hp' := isP_swp (b := b) (by omega) B.h32 B.hp (x := x) (y := y) (by omega) (by omega)
    have hK1 : ∀ j, j < n → up2 (up2 K 34 x (K 34 y)) 34 y (K 34 x) 34 j = nI (swp g x y j) := fun j hj => by
      unfold swp
      by_cases e1 : j = y
      · rw [e1, up2_hit, if_pos rfl, hK x (by omega)]
      · rw [up2_n _ _ _ e1, if_neg e1]
        by_cases e2 : j = x
        · rw [e2, up2_hit, if_pos rfl, hK y (by omega)]
        · rw [up2_n _ _ _ e2, if_neg e2, hK j hj]
    have hK2 : ∀ k j, k ≠ 34 → up2 (up2 K 34 x (K 34 y)) 34 y (K 34 x) k j = K k j := fun k j z => by rw [up2_k _ _ _ _ z, up2_k _ _ _ _ z]
    have hx1 : up2 (up2 K 34 x (K 34 y)) 34 y (K 34 x) 34 x = K 34 y := by rw [up2_n _ _ _ (by omega), up2_hit]
    obtain ⟨o1, o2⟩ := B.opt _ hp'
    have hw := wash_ok (LS := LS) (xs := xs) (M := M) R B.n1 hn (B.gb _ hp') hK1
    have hnu := num_ok (LS := LS) (xs := xs) (a := a) (b := b) (c := c) (d := d) (I := I) (D := D) (M := M) hn hK1
    have hcl := cF_le (wW_O I) n (swp g x y) 5
    have hbig := B.big _ hp'
    have hbigO := B.big _ B.hp
    rw [← B.hO] at hbigO
    rw [f_L_isBest_L152, if_neg (nI_ge (by omega) (by omega)), nI_clamp (show n < 2 ^ 31 by omega), inB_nI (show x < n by omega) (by omega), ckt, inB_nI (show y < n by omega) (by omega), ckt, nI_clamp (show x < 2 ^ 31 by omega), nI_clamp (show y < 2 ^ 31 by omega)]
    simp only [nm_v, ckt]
    generalize hKf : up2 (up2 K 34 x (K 34 y)) 34 y (K 34 x) = Kf at hK1 hK2 hx1 hw hnu ⊢
    rw [hw, bd_s, if_neg (nI_nlt o1 (by omega)), hnu]
    have r34 : ∀ j, up2 (up2 Kf 34 y (Kf 34 x)) 34 x (K 34 x) 34 j = K 34 j := fun j => by
      by_cases e2 : j = x
      · rw [e2, up2_hit]
      · rw [up2_n _ _ _ e2]
        by_cases e1 : j = y
        · rw [e1, up2_hit, hx1]
        · rw [up2_n _ _ _ e1, ← hKf, up2_n _ _ _ e1, up2_n _ _ _ e2]
    have rk : ∀ k j, k ≠ 34 → up2 (up2 Kf 34 y (Kf 34 x)) 34 x (K 34 x) k j = K k j := fun k j z => by rw [up2_k _ _ _ _ z, up2_k _ _ _ _ z, hK2 k j z]
    obtain ⟨K', s1, s2, s3⟩ := be_152 R B (rec139 := rec139) (x := x) q (y + 1) fuel (up2 (up2 Kf 34 y (Kf 34 x)) 34 x (K 34 x)) (by omega) (by omega) (by omega) (fun j hj => by rw [r34]; exact hK j hj)
    refine ⟨K', ?_, s2, fun k j z => (s3 k j z).trans (rk k j z)⟩
    by_cases e : nI (cF (wW I) n (swp g x y) 5) = nI T
    · have e' := (nI_eq (show cF (wW I) n (swp g x y) 5 < 2 ^ 31 by omega) (show T < 2 ^ 31 by have := B.lt; omega)).mp e
      rw [if_pos e, bd_s, if_pos (nI_le (o2 e') hbig), nI_1]
      exact s1
    · rw [if_neg e, nI_1]
      exact s1
set_option maxRecDepth 20000 in
theorem be_139 (R : RR 0 a b c d h I D J E) (B : BST b I m n O T g) (x1 : Int32) : ∀ (q x fuel : Nat) (K : MI), x + q = n → q < fuel → (∀ j, j < n → K 34 j = nI (g j)) → ∃ K', f_L_isBest_L139 rec2 LS xs a b c d M x1 (nI O) I D (nI T) (nI n) fuel (nI x) K = rec2 (x1 + 1) I D K' ∧ ∀ k j, k ≠ 34 → K' k j = K k j
  | 0, x, fuel, K, h1, h2, hK => by
    obtain ⟨fuel, rfl⟩ : ∃ n', fuel = n' + 1 := ⟨fuel - 1, by omega⟩
    obtain rfl : x = n := by omega
    have := B.n4
    rw [f_L_isBest_L139, if_pos (nI_le (Nat.le_refl _) (by omega))]
    exact ⟨K, rfl, fun _ _ _ => rfl⟩
  | q + 1, x, fuel, K, h1, h2, hK => by
    obtain ⟨fuel, rfl⟩ : ∃ n', fuel = n' + 1 := ⟨fuel - 1, by omega⟩
    have hn := B.n4
    obtain ⟨K1, r1, r2, r3⟩ := be_152 (LS := LS) (xs := xs) (M := M) R B (rec139 := f_L_isBest_L139 rec2 LS xs a b c d M x1 (nI O) I D (nI T) (nI n) fuel) (x := x) (n - (x + 1)) (x + 1) 200 K (by omega) (by omega) (by omega) hK
    obtain ⟨K2, s1, s2⟩ := be_139 R B x1 q (x + 1) fuel K1 (by omega) (by omega) r2
    refine ⟨K2, ?_, fun k j z => (s2 k j z).trans (r3 k j z)⟩
    rw [f_L_isBest_L139, if_neg (nI_ge (by omega) (by omega)), nI_1]
    exact r1.trans s1
set_option maxRecDepth 20000 in
theorem be_70 (R : RR 0 a b c d h I D J E) (B : BST b I m n O T g) : ∀ (q fuel seen : Nat) (K : MI), q < fuel → q ≤ n → seen + sG g q = m → (∀ j, q ≤ j → j < n → K 34 j = nI (g j)) → ∃ K', f_L_isBest_L70 rec2 LS xs a b c d M (nI m) (nI O) I D (nI T) (nI n) fuel (nI q + (-1)) (nI (nF q g 0)) (nI seen) K = rec2 (nI m + 1) I D K' ∧ ∀ k j, k ≠ 34 → K' k j = K k j
  | 0, fuel, seen, K, h1, h2, h3, hK => by
    obtain ⟨fuel, rfl⟩ : ∃ n', fuel = n' + 1 := ⟨fuel - 1, by omega⟩
    have hn := B.n4
    have es : seen = m := h3
    have hw := wash_ok (LS := LS) (xs := xs) (M := M) R B.n1 hn (B.gb _ B.hp) (fun j hj => hK j (Nat.zero_le _) hj)
    rw [← B.hT] at hw
    rw [f_L_isBest_L70, if_pos (show nI (nF 0 g 0) ≤ 0 by show nI 0 ≤ 0; decide), es, if_pos rfl, nI_clamp (show n < 2 ^ 31 by omega), hw, bd_s, if_pos rfl, if_pos (nI_lt B.lt (by omega))]
    exact be_139 R B (nI m) n 0 200 K (by omega) (by omega) (fun j hj => hK j (Nat.zero_le _) hj)
  | q + 1, fuel, seen, K, h1, h2, h3, hK => by
    obtain ⟨fuel, rfl⟩ : ∃ n', fuel = n' + 1 := ⟨fuel - 1, by omega⟩
    have hn := B.n4
    have hb := B.hb
    have hg := B.gb _ B.hp q (by omega)
    have e1 := nF_last q g 0
    have hlt := nF_lt (q + 1) g 0 (fun j hj => by have := B.gb _ B.hp j (by omega); omega)
    have h105 : 10 ^ (q + 1) ≤ 10 ^ 5 := Nat.pow_le_pow_right (by decide) (by omega)
    have hdv : nI (nF (q + 1) g 0) / 10 = nI (nF q g 0) := by
      have z : nI (nF (q + 1) g 0) / nI 10 = _ := pk_div (by omega) (by decide) (by decide)
      rw [show nF (q + 1) g 0 / 10 = nF q g 0 by omega] at z
      exact z
    have hrm : nI (nF (q + 1) g 0) - nI (nF (q + 1) g 0) / 10 * 10 - 1 = nI (g q) := by
      have z : nI (nF (q + 1) g 0) - nI (nF (q + 1) g 0) / nI 10 * nI 10 = _ := pk_rem (by omega) (by decide) (by decide)
      rw [show nF (q + 1) g 0 % 10 = g q + 1 by omega] at z
      rw [show nI (nF (q + 1) g 0) - nI (nF (q + 1) g 0) / 10 * 10 = nI (g q + 1) from z, nI_pred]
    obtain ⟨K', s1, s2⟩ := be_70 R B q fuel (seen + 2 ^ g q) (up2 K 34 q (nI (g q))) (by omega) (by omega) (by
      have : sG g (q + 1) = sG g q + 2 ^ g q := rfl
      omega) (fun j y1 y2 => by
      by_cases e : j = q
      · rw [e, up2_hit]
      · rw [up2_n _ _ _ e]; exact hK j (by omega) y2)
    refine ⟨K', ?_, fun k j z => (s2 k j z).trans (up2_k _ _ _ _ z)⟩
    rw [f_L_isBest_L70, if_neg (nI_nle (by omega) (by omega)), pk_m1, nI_clamp (show n < 2 ^ 31 by omega), inB_nI (show q < n by omega) (by omega), ckt, nI_clamp (show q < 2 ^ 31 by omega), hrm, hdv]
    simp only [nm_v, ckt]
    rw [up2_hit, (bt_9 (g q) (by omega)).1, nI_add]
    exact s1
set_option maxRecDepth 20000 in
theorem be_34 (R : RR 0 a b c d h I D J E) (B : BST b I m n O T g) (KL : MI) : ∀ (p fuel q : Nat), p < fuel → q + p = n → ∃ K', f_L_isBest_L34 rec2 LS xs a b c d M (nI m) KL (nI O) I D (nI T) fuel (nI (nF p g 0)) (nI q) = rec2 (nI m + 1) I D K' ∧ ∀ k j, k ≠ 34 → K' k j = KL k j
  | 0, fuel, q, h1, h2 => by
    obtain ⟨fuel, rfl⟩ : ∃ n', fuel = n' + 1 := ⟨fuel - 1, by omega⟩
    obtain rfl : q = n := by omega
    have hn := B.n4
    have hl : lenB (nI q) = true := by
      have : q = 0 ∨ q = 1 ∨ q = 2 ∨ q = 3 ∨ q = 4 ∨ q = 5 := by omega
      rcases this with rfl | rfl | rfl | rfl | rfl | rfl <;> decide
    obtain ⟨K', s1, s2⟩ := be_70 (rec2 := rec2) (LS := LS) (xs := xs) (M := M) R B q 200 0 (va_up KL 34 (fun _ => 0)) (by omega) (Nat.le_refl _) (by rw [Nat.zero_add]; exact sG_m (by have := B.hb; omega) q g m B.h32 B.hp) (fun j y1 y2 => absurd y1 (by omega))
    refine ⟨K', ?_, fun k j z => (s2 k j z).trans (by rw [va_ap, if_neg z])⟩
    rw [f_L_isBest_L34, if_pos (show nI (nF 0 g 0) ≤ 0 by show nI 0 ≤ 0; decide), hl, ckt, nm_v, Int32.sub_eq_add_neg]
    rw [← B.hO] at s1
    exact s1
  | p + 1, fuel, q, h1, h2 => by
    obtain ⟨fuel, rfl⟩ : ∃ n', fuel = n' + 1 := ⟨fuel - 1, by omega⟩
    have hn := B.n4
    have hb := B.hb
    have hg := B.gb _ B.hp p (by omega)
    have e1 := nF_last p g 0
    have hlt := nF_lt (p + 1) g 0 (fun j hj => by have := B.gb _ B.hp j (by omega); omega)
    have h105 : 10 ^ (p + 1) ≤ 10 ^ 5 := Nat.pow_le_pow_right (by decide) (by omega)
    have hdv : nI (nF (p + 1) g 0) / 10 = nI (nF p g 0) := by
      have z : nI (nF (p + 1) g 0) / nI 10 = _ := pk_div (by omega) (by decide) (by decide)
      rw [show nF (p + 1) g 0 / 10 = nF p g 0 by omega] at z
      exact z
    rw [f_L_isBest_L34, if_neg (nI_nle (by omega) (by omega)), hdv, nI_1]
    exact be_34 R B KL p fuel (q + 1) (by omega) (by omega)
set_option maxRecDepth 20000 in
theorem BST_of (hz : ∀ f, f < 6 → True) {m : Nat} (h1 : 1 ≤ m) (h2 : m < 16) : ∃ n g, BST 4 I m n (bO (wW I) 4 5 0 5 m) (tT (wW I) 4 m 5) g := by
  have hW := wW_O I
  obtain ⟨w1, w2, w3, w4, w5⟩ := bt_8 m (by omega)
  have h5 : m.testBit 5 = false := bt_12 m (by omega)
  obtain ⟨g, g1, g2, g3⟩ := or_ex hW (b := 4) (by decide) (pc m) 5 m 0 rfl (by omega) (by omega) (by decide) h5
  have e5 : bO (wW I) 4 5 0 5 m = bO (wW I) 4 (pc m) 0 5 m := bO_fuel hW (by decide) 5 (pc m) 0 5 m w1 (Nat.le_refl _) (by omega) (by omega) (by decide) h5
  have hn : 1 ≤ pc m := by
    obtain ⟨i, hi, gi⟩ := w3 (by omega)
    have := bt_7 m (by omega) i hi gi
    omega
  refine ⟨pc m, g, ⟨by decide, by omega, by omega, g1, by rw [e5]; exact g3, g2.symm, fun g' hg' => ?_, hn, w1, ?_⟩⟩
  · obtain ⟨o1, o2⟩ := or_opt hW (b := 4) (by decide) (pc m) g' 5 m 0 hg' (by omega) (by omega) (by decide) h5
    rw [e5]
    exact ⟨o1, o2⟩
  · rw [← g2]
    obtain ⟨p, hp⟩ : ∃ p, pc m = p + 1 := ⟨pc m - 1, by omega⟩
    rw [hp]
    show wW I 5 (g 0) + cF (wW I) p (fun j => g (j + 1)) (g 0) < p + 1
    have := cF_le hW p (fun j => g (j + 1)) (g 0)
    rw [hW.2]
    omega
set_option maxRecDepth 20000 in
theorem be_2 : ∀ (q m fuel : Nat) (I : MI) (K : MI), m + q = 16 → q < fuel → 1 ≤ m → RR 0 a 4 c d h I D J E → ∃ I' K', f_L_isBest_L2 LS xs a 4 c d M fuel (nI m) I D K = some (1, I', D, K') ∧ RR 0 a 4 c d h I' D J E ∧ ∀ k j, k ≠ 34 → K' k j = K k j
  | 0, m, fuel, I, K, h1, h2, h3, R => by
    obtain ⟨fuel, rfl⟩ : ∃ n', fuel = n' + 1 := ⟨fuel - 1, by omega⟩
    obtain rfl : m = 16 := by omega
    rw [f_L_isBest_L2, if_pos (show (16 : Int32) ≤ nI 16 by decide)]
    exact ⟨I, K, rfl, R, fun _ _ _ => rfl⟩
  | q + 1, m, fuel, I, K, h1, h2, h3, R => by
    obtain ⟨fuel, rfl⟩ : ∃ n', fuel = n' + 1 := ⟨fuel - 1, by omega⟩
    have hck : f_X4_checkRange (nI m) 0 ((1 <<< (nI 4 &&& 31)) - 1) = some (.ok ()) := by
      rw [show ((1 : Int32) <<< (nI 4 &&& 31)) - 1 = nI 15 by decide]
      exact cr_ok (by omega) (by decide)
    obtain ⟨I1, y1, y2⟩ := day_C (D := D) (by decide) R.I6 R.1.2.2.2.2.2.2 (m := m) (by omega) 1 hck
    have R1 : RR 0 a 4 c d h I1 D J E := R.ask y2 (fun _ _ _ _ => rfl) (fun _ _ _ => rfl)
    obtain ⟨I2, z1, z2⟩ := day_C (D := D) (by decide) R1.I6 R1.1.2.2.2.2.2.2 (m := m) (by omega) 0 hck
    have R2 : RR 0 a 4 c d h I2 D J E := R1.ask z2 (fun _ _ _ _ => rfl) (fun _ _ _ => rfl)
    rw [if_neg (show ¬ (1 : Int32) = 0 by decide)] at y1
    rw [if_pos rfl] at z1
    have ew : wW I = wW I2 := by
      funext f n
      unfold wW
      rw [z2 (13 + f) 6 (by omega), z2 (13 + n) 6 (by omega), y2 (13 + f) 6 (by omega), y2 (13 + n) 6 (by omega)]
    have ew1 : wW I1 = wW I2 := by
      funext f n
      unfold wW
      rw [z2 (13 + f) 6 (by omega), z2 (13 + n) 6 (by omega)]
    rw [ew] at y1
    rw [ew1] at z1
    obtain ⟨n, g, B⟩ := BST_of (I := I2) (fun _ _ => trivial) h3 (show m < 16 by omega)
    obtain ⟨K1, s1, s2⟩ := be_34 (rec2 := f_L_isBest_L2 LS xs a 4 c d M fuel) (LS := LS) (xs := xs) (M := M) R2 B K n 200 0 (by have := B.n4; omega) (by omega)
    rw [← B.hO] at s1
    obtain ⟨I3, K3, t1, t2, t3⟩ := be_2 q (m + 1) fuel I2 K1 (by omega) (by omega) (by omega) R2
    refine ⟨I3, K3, ?_, t2, fun k j z => (t3 k j z).trans (s2 k j z)⟩
    rw [f_L_isBest_L2, if_neg (show ¬ (16 : Int32) ≤ nI m from nI_ge (a := m) (b := 16) (by omega) (by decide)), y1, eO_ok, bd_s]
    dsimp only
    rw [z1, eO_ok, bd_s]
    dsimp only
    refine Eq.trans s1 ?_
    rw [nI_1]
    exact t1
set_option maxRecDepth 20000 in
theorem isBest_ok {K : MI} (R : RR 0 a 4 c d h I D J E) : ∃ I' K', f_L_isBest LS xs a 4 c d I D K M = some (1, I', D, K') ∧ RR 0 a 4 c d h I' D J E ∧ ∀ k j, k ≠ 34 → K' k j = K k j := by
  unfold f_L_isBest
  exact be_2 15 1 17 I K (by decide) (by decide) (by decide) R
end BES
