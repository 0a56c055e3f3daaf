/-! ===== reading: what the small methods of both answer ===== -/
def GT (a b : Nat) (J : MI) : Prop := (J 1 2 = nI a ∧ (J 1 1 = 0 ↔ a = 0) ∧ a ≤ 6) ∧ (J 2 2 = nI b ∧ (J 2 1 = 0 ↔ b = 0) ∧ b ≤ 5)
set_option maxRecDepth 20000 in
theorem GT.cong {a b : Nat} {J J' : MI} (h : GT a b J) (h1 : ∀ n, J' 1 n = J 1 n) (h2 : ∀ n, J' 2 n = J 2 n) : GT a b J' := by
  unfold GT at h ⊢
  rw [h1, h1, h2, h2]
  exact h
set_option maxRecDepth 20000 in
theorem RR.gt {x : Int32} {a b c d h : Nat} {I J : MI} {D E : MD} (R : RR x a b c d h I D J E) : GT a b J := ⟨R.1.1.2, R.1.2.1.2⟩
set_option maxRecDepth 20000 in
theorem get1_ok {a b : Nat} {J : MI} (G : GT a b J) (E : MD) {i : Nat} (hi : i < a) : f_get1 a b J E (nI i) = some i := by
  obtain ⟨⟨g1, g2, g3⟩, -⟩ := G
  have h1 : ¬ J 1 1 = 0 := fun e => by have := g2.mp e; omega
  unfold f_get1 f_J15_checkIndex_7cf53 f_J3_checkIndex_8e157 f_elementData1
  rw [g1, if_neg (nI_pos (by omega)), if_pos (nI_lt hi (by omega)), decide_eq_true h1, inB_nI (show i < 10 by omega) (by decide), nI_clamp (by omega), decide_eq_true hi]
  rfl
set_option maxRecDepth 20000 in
theorem get2_ok {a b : Nat} {J : MI} (G : GT a b J) (E : MD) {i : Nat} (hi : i < b) : f_get2 a b J E (nI i) = some i := by
  obtain ⟨-, g1, g2, g3⟩ := G
  have h1 : ¬ J 2 1 = 0 := fun e => by have := g2.mp e; omega
  unfold f_get2 f_J15_checkIndex_7cf53 f_J3_checkIndex_8e157 f_elementData2
  rw [g1, if_neg (nI_pos (by omega)), if_pos (nI_lt hi (by omega)), decide_eq_true h1, inB_nI (show i < 10 by omega) (by decide), nI_clamp (by omega), decide_eq_true hi]
  rfl
set_option maxRecDepth 20000 in
theorem all_L (J : MI) (k : Nat) : ∀ (m i n : Nat) (acc : Int32), i + m = 6 → m < n → f_X6_all_L13 J k n (nI i) acc = some (acc + sF (J (25 + k)) i m)
  | 0, i, n, acc, h1, h2 => by
    obtain ⟨n, rfl⟩ : ∃ n', n = n' + 1 := ⟨n - 1, by omega⟩
    obtain rfl : i = 6 := by omega
    rw [f_X6_all_L13, if_pos (show (6 : Int32) ≤ nI 6 by decide)]
    show _ = some (acc + 0)
    rw [Int32.add_zero]
  | m + 1, i, n, acc, h1, h2 => by
    obtain ⟨n, rfl⟩ : ∃ n', n = n' + 1 := ⟨n - 1, by omega⟩
    rw [f_X6_all_L13, if_neg (show ¬ (6 : Int32) ≤ nI i from nI_ge (a := i) (b := 6) (by omega) (by decide)), inB_nI (show i < 6 by omega) (by decide), nI_clamp (by omega), nI_1]
    show f_X6_all_L13 J k n (nI (i + 1)) _ = _
    rw [all_L J k m (i + 1) n _ (by omega) (by omega)]
    show _ = some (acc + (J (25 + k) i + sF (J (25 + k)) (i + 1) m))
    rw [Int32.add_assoc]
set_option maxRecDepth 20000 in
theorem all_ok (a b : Nat) (J : MI) (E : MD) (k : Nat) : f_X6_all a b J E k = some (sF (J (25 + k)) 0 6) := by
  unfold f_X6_all
  rw [show (0 : Int32) = nI 0 from rfl, all_L J k 6 0 200 _ rfl (by decide), nI_0, Int32.zero_add]
set_option maxRecDepth 20000 in
theorem allx_L (J : MI) (k : Nat) : ∀ (n : Nat) (x acc : Int32), f_X6_allx_L13 J k n x acc = f_X6_all_L13 J k n x acc
  | 0, _, _ => rfl
  | n + 1, x, acc => by
    rw [f_X6_allx_L13, f_X6_all_L13, allx_L J k n]
set_option maxRecDepth 20000 in
theorem allx_ok (a b : Nat) (J : MI) (E : MD) (k : Nat) : f_X6_allx a b J E k = some (sF (J (25 + k)) 0 6) := by
  unfold f_X6_allx
  rw [allx_L]
  exact all_ok a b J E k
set_option maxRecDepth 20000 in
theorem sum_L {a b : Nat} {J : MI} (G : GT a b J) (E : MD) (k w : Nat) (hw : w < 5) : ∀ (m i n : Nat) (acc : Int32), i + m = a → m < n → f_X6_sum_L4 a b J E k (nI w) n (nI i) acc = some (acc + sF (fun i => J (25 + k) i * J (14 + i) w) i m)
  | 0, i, n, acc, h1, h2 => by
    have ha := G.1.2.2
    obtain ⟨n, rfl⟩ : ∃ n', n = n' + 1 := ⟨n - 1, by omega⟩
    obtain rfl : i = a := by omega
    rw [f_X6_sum_L4]
    show (if J 1 2 ≤ nI i then _ else _) = some (acc + 0)
    rw [G.1.1, if_pos (nI_le (Nat.le_refl _) (by omega)), Int32.add_zero]
  | m + 1, i, n, acc, h1, h2 => by
    have ha := G.1.2.2
    obtain ⟨n, rfl⟩ : ∃ n', n = n' + 1 := ⟨n - 1, by omega⟩
    rw [f_X6_sum_L4]
    show (if J 1 2 ≤ nI i then _ else _) = some (acc + (J (25 + k) i * J (14 + i) w + sF (fun i => J (25 + k) i * J (14 + i) w) (i + 1) m))
    rw [G.1.1, if_neg (nI_ge (by omega) (by omega)), inB_nI (show i < 6 by omega) (by decide), get1_ok G E (show i < a by omega), inB_nI hw (by decide), nI_clamp (by omega), nI_clamp (by omega), nI_1]
    show f_X6_sum_L4 a b J E k (nI w) n (nI (i + 1)) _ = _
    rw [sum_L G E k w hw m (i + 1) n _ (by omega) (by omega), Int32.add_assoc]
set_option maxRecDepth 20000 in
theorem sum_ok {a b : Nat} {J : MI} (G : GT a b J) (E : MD) (k w : Nat) (hw : w < 5) (hz : ∀ i, i < 6 → a ≤ i → J (25 + k) i = 0) : f_X6_sum a b J E k (nI w) = some (sF (fun i => J (25 + k) i * J (14 + i) w) 0 6) := by
  unfold f_X6_sum
  rw [show (0 : Int32) = nI 0 from rfl, sum_L G E k w hw a 0 200 _ (by omega) (by have := G.1.2.2; omega), nI_0, Int32.zero_add, sF_tail G.1.2.2 (fun j h1 h2 => by rw [hz j h2 h1, Int32.zero_mul])]
set_option maxRecDepth 20000 in
theorem harms_L {a b : Nat} {J : MI} (G : GT a b J) (E : MD) (k : Nat) : ∀ (m i n : Nat) (acc : Int32), i + m = a → m < n → f_X6_harms_L4 a b J E k n (nI i) acc = some (acc ||| oF (fun i => if J (25 + k) i ≤ 0 then 0 else J (14 + i) 4) i m)
  | 0, i, n, acc, h1, h2 => by
    have ha := G.1.2.2
    obtain ⟨n, rfl⟩ : ∃ n', n = n' + 1 := ⟨n - 1, by omega⟩
    obtain rfl : i = a := by omega
    rw [f_X6_harms_L4]
    show (if J 1 2 ≤ nI i then _ else _) = some (acc ||| 0)
    rw [G.1.1, if_pos (nI_le (Nat.le_refl _) (by omega)), Int32.or_zero]
  | m + 1, i, n, acc, h1, h2 => by
    have ha := G.1.2.2
    obtain ⟨n, rfl⟩ : ∃ n', n = n' + 1 := ⟨n - 1, by omega⟩
    rw [f_X6_harms_L4]
    show (if J 1 2 ≤ nI i then _ else _) = some (acc ||| ((if J (25 + k) i ≤ 0 then 0 else J (14 + i) 4) ||| oF (fun i => if J (25 + k) i ≤ 0 then 0 else J (14 + i) 4) (i + 1) m))
    rw [G.1.1, if_neg (nI_ge (by omega) (by omega)), inB_nI (show i < 6 by omega) (by decide), get1_ok G E (show i < a by omega), nI_clamp (by omega), nI_1]
    by_cases hc : J (25 + k) i ≤ 0
    · rw [if_pos hc, if_pos hc]
      show f_X6_harms_L4 a b J E k n (nI (i + 1)) (acc ||| 0) = _
      rw [harms_L G E k m (i + 1) n _ (by omega) (by omega), Int32.or_assoc]
    · rw [if_neg hc, if_neg hc]
      show f_X6_harms_L4 a b J E k n (nI (i + 1)) (acc ||| J (14 + i) 4) = _
      rw [harms_L G E k m (i + 1) n _ (by omega) (by omega), Int32.or_assoc]
set_option maxRecDepth 20000 in
theorem harms_ok {a b : Nat} {J : MI} (G : GT a b J) (E : MD) (k : Nat) (hz : ∀ i, i < 6 → a ≤ i → J (25 + k) i = 0) : f_X6_harms a b J E k = some (oF (fun i => if J (25 + k) i ≤ 0 then 0 else J (14 + i) 4) 0 6) := by
  unfold f_X6_harms
  rw [show (0 : Int32) = nI 0 from rfl, harms_L G E k a 0 200 _ (by omega) (by have := G.1.2.2; omega), nI_0, Int32.zero_or, oF_tail G.1.2.2 (fun j h1 h2 => by rw [hz j h2 h1, if_pos (by decide)])]
set_option maxRecDepth 20000 in
theorem set_L (J : MI) (k : Nat) : ∀ (m i n : Nat) (acc : Int32), i + m = 6 → m < n → f_X6_set_L4 J k n (nI i) acc = some (acc ||| oF (fun i => if J (25 + k) i ≤ 0 then 0 else (1 <<< (nI i &&& 31))) i m)
  | 0, i, n, acc, h1, h2 => by
    obtain ⟨n, rfl⟩ : ∃ n', n = n' + 1 := ⟨n - 1, by omega⟩
    obtain rfl : i = 6 := by omega
    rw [f_X6_set_L4, if_pos (show (6 : Int32) ≤ nI 6 by decide)]
    show _ = some (acc ||| 0)
    rw [Int32.or_zero]
  | m + 1, i, n, acc, h1, h2 => by
    obtain ⟨n, rfl⟩ : ∃ n', n = n' + 1 := ⟨n - 1, by omega⟩
    rw [f_X6_set_L4, if_neg (show ¬ (6 : Int32) ≤ nI i from nI_ge (a := i) (b := 6) (by omega) (by decide)), inB_nI (show i < 6 by omega) (by decide), nI_clamp (by omega), nI_1]
    show (if J (25 + k) i ≤ 0 then _ else _) = some (acc ||| ((if J (25 + k) i ≤ 0 then (0 : Int32) else (1 <<< (nI i &&& 31))) ||| oF (fun i => if J (25 + k) i ≤ 0 then 0 else (1 <<< (nI i &&& 31))) (i + 1) m))
    by_cases hc : J (25 + k) i ≤ 0
    · rw [if_pos hc, if_pos hc, set_L J k m (i + 1) n _ (by omega) (by omega), Int32.or_assoc]
    · rw [if_neg hc, if_neg hc, set_L J k m (i + 1) n _ (by omega) (by omega), Int32.or_assoc]
set_option maxRecDepth 20000 in
theorem set_ok (a b : Nat) (J : MI) (E : MD) (k : Nat) : f_X6_set a b J E k = some (oF (fun i => if J (25 + k) i ≤ 0 then 0 else (1 <<< (nI i &&& 31))) 0 6) := by
  unfold f_X6_set
  rw [show (0 : Int32) = nI 0 from rfl, set_L J k 6 0 200 _ rfl (by decide), nI_0, Int32.zero_or]
/- the reference's own facts of mix k: kilograms, and the sums of fat, milk, sugar -/
def MS (a k : Nat) (J : MI) (K F M S : Int32) : Prop :=
  (∀ i, i < 6 → a ≤ i → J (25 + k) i = 0) ∧ K = sF (J (25 + k)) 0 6 ∧ F = sF (fun i => J (25 + k) i * J (14 + i) 0) 0 6 ∧ M = sF (fun i => J (25 + k) i * J (14 + i) 1) 0 6 ∧ S = sF (fun i => J (25 + k) i * J (14 + i) 2) 0 6 ∧
  1 ≤ K.toInt ∧ (0 ≤ F.toInt ∧ F.toInt ≤ 1000 * K.toInt) ∧ (0 ≤ M.toInt ∧ M.toInt ≤ 1000 * K.toInt) ∧ (0 ≤ S.toInt ∧ S.toInt ≤ 1000 * K.toInt)
set_option maxRecDepth 20000 in
theorem MS.cong {a k : Nat} {J J' : MI} {K F M S : Int32} (h : MS a k J K F M S) (h1 : ∀ i n, 14 ≤ i → i < 20 → J' i n = J i n) (h2 : ∀ n, J' (25 + k) n = J (25 + k) n) : MS a k J' K F M S := by
  obtain ⟨q1, q2, q3, q4, q5, q6⟩ := h
  refine ⟨fun i hi ha => by rw [h2]; exact q1 i hi ha, ?_, ?_, ?_, ?_, q6⟩
  · rw [q2]; exact sF_cong 6 0 (fun j _ _ => (h2 j).symm)
  · rw [q3]; exact sF_cong 6 0 (fun j _ hj => by rw [h2, h1 _ _ (by omega) (by omega)])
  · rw [q4]; exact sF_cong 6 0 (fun j _ hj => by rw [h2, h1 _ _ (by omega) (by omega)])
  · rw [q5]; exact sF_cong 6 0 (fun j _ hj => by rw [h2, h1 _ _ (by omega) (by omega)])
set_option maxRecDepth 20000 in
theorem RM1.ms {x : Int32} {a c k : Nat} {I J : MI} {D : MD} (h : RM1 x a c k I D J) : MS a k J (I (13 + k) 0) (I (13 + k) 2) (I (13 + k) 3) (I (13 + k) 4) := by
  obtain ⟨-, h5, ⟨h6, h7⟩, h8, h9, h10, -⟩ := h
  exact ⟨fun i hi => (h5 i hi).2.2, h8, h9 0 (by decide), h9 1 (by decide), h9 2 (by decide), h6, h10 0 (by decide), h10 1 (by decide), h10 2 (by decide)⟩
section MSa
variable {a b k : Nat} {J : MI} {K F M S : Int32}
set_option maxRecDepth 20000 in
theorem part_of (G : GT a b J) (E : MD) {w : Nat} (hw : w < 5) {s : Int32} (hz : ∀ i, i < 6 → a ≤ i → J (25 + k) i = 0) (hK : K = sF (J (25 + k)) 0 6) (hs : s = sF (fun i => J (25 + k) i * J (14 + i) w) 0 6) (h1 : 1 ≤ K.toInt) (h2 : 0 ≤ s.toInt) (h3 : s.toInt ≤ 1000 * K.toInt) : f_X6_part a b J E k (nI w) = some (fP s K) := by
  unfold f_X6_part
  rw [sum_ok G E k w hw hz, all_ok, ← hs, ← hK]
  show ck (okD (FP.ddiv (FP.i2d s) (FP.i2d K))) (ck (okD (fP s K)) (some (fP s K))) = _
  rw [(fP_1 h1 h2 h3).okD, (fP_2 h1 h2 h3).okD]
  rfl
set_option maxRecDepth 20000 in
theorem MS.part0 (h : MS a k J K F M S) (G : GT a b J) (E : MD) : f_X6_part a b J E k 0 = some (fP F K) := part_of G E (w := 0) (by decide) h.1 h.2.1 h.2.2.1 h.2.2.2.2.2.1 h.2.2.2.2.2.2.1.1 h.2.2.2.2.2.2.1.2
set_option maxRecDepth 20000 in
theorem MS.part1 (h : MS a k J K F M S) (G : GT a b J) (E : MD) : f_X6_part a b J E k 1 = some (fP M K) := part_of G E (w := 1) (by decide) h.1 h.2.1 h.2.2.2.1 h.2.2.2.2.2.1 h.2.2.2.2.2.2.2.1.1 h.2.2.2.2.2.2.2.1.2
set_option maxRecDepth 20000 in
theorem MS.part2 (h : MS a k J K F M S) (G : GT a b J) (E : MD) : f_X6_part a b J E k 2 = some (fP S K) := part_of G E (w := 2) (by decide) h.1 h.2.1 h.2.2.2.2.1 h.2.2.2.2.2.1 h.2.2.2.2.2.2.2.2.1 h.2.2.2.2.2.2.2.2.2
set_option maxRecDepth 20000 in
theorem MS.frg (h : MS a k J K F M S) : rg (-300) 0 (fF S M K) := fF_4 h.2.2.2.2.2.1 h.2.2.2.2.2.2.2.2.1 h.2.2.2.2.2.2.2.2.2 h.2.2.2.2.2.2.2.1.1 h.2.2.2.2.2.2.2.1.2
set_option maxRecDepth 20000 in
theorem MS.freezes (h : MS a k J K F M S) (G : GT a b J) (E : MD) : f_X6_freezes a b J E k = some (fF S M K) := by
  have h1 := h.2.2.2.2.2.1
  obtain ⟨m1, m2⟩ := h.2.2.2.2.2.2.2.1
  obtain ⟨s1, s2⟩ := h.2.2.2.2.2.2.2.2
  unfold f_X6_freezes
  rw [h.part2 G E, h.part1 G E]
  show ck (okD (FP.dmul (fP S K) (4589168020290535424 : UInt64))) (ck (okD (FP.dmul (fP M K) (4584664420663164928 : UInt64))) (ck (okD (FP.dadd (FP.dmul (fP S K) (4589168020290535424 : UInt64)) (FP.dmul (fP M K) (4584664420663164928 : UInt64)))) (some (fF S M K)))) = _
  rw [(fF_1 h1 s1 s2).okD, (fF_2 h1 m1 m2).okD, (fF_3 h1 s1 s2 m1 m2).okD]
  rfl
set_option maxRecDepth 20000 in
theorem MS.ice (h : MS a k J K F M S) (G : GT a b J) (E : MD) {t : UInt64} (ht : FP.Core.DFin t) : f_X6_ice a b J E k t = some (fI (fF S M K) t) := by
  unfold f_X6_ice
  rw [h.freezes G E]
  exact fI_ck h.frg ht
def fCr (F M K : Int32) : Int32 := if (Op.cmpValue (FP.dcmp (fP F K) (4621819117588971520 : UInt64)) CmpOp.l) < 0 then 0 else if (Op.cmpValue (FP.dcmp (fP M K) (4620693217682128896 : UInt64)) CmpOp.l) < 0 then 0 else 1
set_option maxRecDepth 20000 in
theorem fCr_if (F M K : Int32) : (if (Op.cmpValue (FP.dcmp (fP F K) (4621819117588971520 : UInt64)) CmpOp.l) < 0 then some (0 : Int32) else if (Op.cmpValue (FP.dcmp (fP M K) (4620693217682128896 : UInt64)) CmpOp.l) < 0 then some 0 else some 1) = some (fCr F M K) := by
  unfold fCr
  split
  · rfl
  · split <;> rfl
set_option maxRecDepth 20000 in
theorem MS.cream (h : MS a k J K F M S) (G : GT a b J) (E : MD) : f_X6_isCream a b J E k = some (fCr F M K) := by
  unfold f_X6_isCream
  rw [h.part0 G E, h.part1 G E]
  exact fCr_if F M K
end MSa
/-! the class's -/
section CLa
variable {I : MI} {D : MD} {k : Nat}
set_option maxRecDepth 20000 in
theorem perc {v : Int32} (h1 : 1 ≤ (I (13 + k) 0).toInt) (h2 : 0 ≤ v.toInt) (h3 : v.toInt ≤ 1000 * (I (13 + k) 0).toInt) : f_X2_percent I D k v = some (fP v (I (13 + k) 0)) := by
  unfold f_X2_percent
  rw [if_neg (by rw [leI, show (0 : Int32).toInt = 0 by decide]; omega)]
  show ck (okD (FP.ddiv (FP.i2d v) (FP.i2d (I (13 + k) 0)))) (ck (okD (fP v (I (13 + k) 0))) (some (fP v (I (13 + k) 0)))) = _
  rw [(fP_1 h1 h2 h3).okD, (fP_2 h1 h2 h3).okD]
  rfl
set_option maxRecDepth 20000 in
theorem creamCc (h1 : 1 ≤ (I (13 + k) 0).toInt) (h2 : 0 ≤ (I (13 + k) 2).toInt) (h3 : (I (13 + k) 2).toInt ≤ 1000 * (I (13 + k) 0).toInt) (h4 : 0 ≤ (I (13 + k) 3).toInt) (h5 : (I (13 + k) 3).toInt ≤ 1000 * (I (13 + k) 0).toInt) : f_X2_isCream I D k = some (fCr (I (13 + k) 2) (I (13 + k) 3) (I (13 + k) 0)) := by
  unfold f_X2_isCream
  rw [perc h1 h2 h3, perc h1 h4 h5]
  exact fCr_if _ _ _
set_option maxRecDepth 20000 in
theorem iceC (hf : rg (-300) 0 (D (13 + k) 11)) {t : UInt64} (ht : FP.Core.DFin t) : f_X2_iceShare I D k t = some (fI (D (13 + k) 11) t) := fI_ck hf ht
set_option maxRecDepth 20000 in
theorem coarseC (hf : rg (-300) 0 (D (13 + k) 11)) {t n : UInt64} (ht : FP.Core.DFin t) (hn : FP.Core.DFin n) : f_X2_coarsening I D k t n = some (fC (D (13 + k) 11) t n) := by
  unfold f_X2_coarsening
  rw [iceC hf ht, iceC hf hn]
  show ck (okD (fX (D (13 + k) 11) t n)) (if 0 ≤ (Op.cmpValue (FP.dcmp (fX (D (13 + k) 11) t n) FP.dconst0) CmpOp.g) then ck (okD (FP.dmul (4627448617123184640 : UInt64) (fX (D (13 + k) 11) t n))) (some (FP.dmul (4627448617123184640 : UInt64) (fX (D (13 + k) 11) t n))) else ck (okD (FP.dmul (4627448617123184640 : UInt64) (FP.dneg (fX (D (13 + k) 11) t n)))) (some (FP.dmul (4627448617123184640 : UInt64) (FP.dneg (fX (D (13 + k) 11) t n))))) = _
  rw [(fX_rg hf ht hn).okD]
  unfold fC
  by_cases hc : 0 ≤ (Op.cmpValue (FP.dcmp (fX (D (13 + k) 11) t n) FP.dconst0) CmpOp.g)
  · rw [if_pos hc, if_pos hc, (fC_pos hf ht hn hc).okD]; rfl
  · rw [if_neg hc, if_neg hc, (fC_neg hf ht hn hc).okD]; rfl
set_option maxRecDepth 20000 in
theorem meltC (hf : FP.Core.DFin (D (13 + k) 11)) {t : UInt64} (ht : FP.Core.DFin t) : f_X2_meltsAt I D k t = some (if zv t < zv (D (13 + k) 11) then 0 else 1) := by
  unfold f_X2_meltsAt
  by_cases hc : zv t < zv (D (13 + k) 11)
  · rw [if_pos ((cm_lt ht hf _).mpr hc), if_pos hc]
  · rw [if_neg (fun q => hc ((cm_lt ht hf _).mp q)), if_neg hc]
set_option maxRecDepth 20000 in
theorem hourC {s : Nat} (h1 : -30 ≤ (I (30 + s) 0).toInt) (h2 : (I (30 + s) 0).toInt ≤ -10) {t : UInt64} (ht : rg (-1040) 256 t) : f_X3_hourLater I D s t = some (fH (I (30 + s) 0) t) := by
  obtain ⟨r1, r2, r3⟩ := fH_all h1 h2 ht
  unfold f_X3_hourLater
  rw [r1.okD, r2.okD]
  show ck (okD (fH (I (30 + s) 0) t)) (some (fH (I (30 + s) 0) t)) = _
  rw [r3.okD]
  rfl
end CLa
def opN : Nat → UInt64 → UInt64
  | 0, t => t
  | n + 1, t => opN n (fO t)
set_option maxRecDepth 20000 in
theorem opN_rg : ∀ (n : Nat) {t : UInt64}, rg (-1040) 256 t → rg (-1040) 256 (opN n t)
  | 0, _, h => h
  | n + 1, _, h => opN_rg n (fO_rg h)
set_option maxRecDepth 20000 in
theorem opened_L (N : Nat) (hN : N < 100) : ∀ (m i n : Nat) {t : UInt64}, rg (-1040) 256 t → i + m = N → m < n → f_X4_opened_L5 (nI N) n (nI i) t = some (opN m t)
  | 0, i, n, t, ht, h1, h2 => by
    obtain ⟨n, rfl⟩ : ∃ n', n = n' + 1 := ⟨n - 1, by omega⟩
    obtain rfl : i = N := by omega
    rw [f_X4_opened_L5, if_pos (nI_le (Nat.le_refl _) (by omega))]
    rfl
  | m + 1, i, n, t, ht, h1, h2 => by
    obtain ⟨n, rfl⟩ : ∃ n', n = n' + 1 := ⟨n - 1, by omega⟩
    have ih := opened_L N hN m (i + 1) n (fO_rg ht) (by omega) (by omega)
    rw [f_X4_opened_L5, if_neg (nI_ge (by omega) (by omega)), (fO_1 ht).okD, nI_1]
    show (if _ then _ else _) = some (opN m (fO t))
    unfold fO at ih ⊢
    by_cases hc : 0 ≤ (Op.cmpValue (FP.dcmp (FP.dadd t (4609434218613702656 : UInt64)) (4620693217682128896 : UInt64)) CmpOp.g)
    · rw [if_pos hc] at ih ⊢
      rw [if_pos hc]
      exact ih
    · rw [if_neg hc] at ih ⊢
      rw [if_neg hc]
      exact ih
set_option maxRecDepth 20000 in
theorem opened_ok {N : Nat} (hN : N < 100) {t : UInt64} (ht : rg (-1040) 256 t) : f_X4_opened t (nI N) = some (opN N t) := by
  unfold f_X4_opened
  rw [show (0 : Int32) = nI 0 from rfl]
  exact opened_L N hN N 0 200 ht (by omega) (by omega)
set_option maxRecDepth 20000 in
theorem open_L (kb s N : Nat) (hs : s < 3) (hN : N < 100) (J : MI) : ∀ (m i n : Nat) (E : MD), rg (-1040) 256 (E (kb + 7) s) → i + m = N → m < n → ∃ E', f_X5_open_L2 kb (nI s) (nI N) n (nI i) J E = some (J, E') ∧ E' (kb + 7) s = opN m (E (kb + 7) s) ∧ ∀ k j, ¬ (k = kb + 7 ∧ j = s) → E' k j = E k j
  | 0, i, n, E, ht, h1, h2 => by
    obtain ⟨n, rfl⟩ : ∃ n', n = n' + 1 := ⟨n - 1, by omega⟩
    obtain rfl : i = N := by omega
    rw [f_X5_open_L2, if_pos (nI_le (Nat.le_refl _) (by omega))]
    exact ⟨E, rfl, rfl, fun _ _ _ => rfl⟩
  | m + 1, i, n, E, ht, h1, h2 => by
    obtain ⟨n, rfl⟩ : ∃ n', n = n' + 1 := ⟨n - 1, by omega⟩
    obtain ⟨E', q1, q2, q3⟩ := open_L kb s N hs hN J m (i + 1) n (up2 E (kb + 7) s (fO (E (kb + 7) s))) (by rw [up2_hit]; exact fO_rg ht) (by omega) (by omega)
    refine ⟨E', ?_, ?_, ?_⟩
    · rw [f_X5_open_L2, if_neg (nI_ge (by omega) (by omega)), inB_nI hs (by decide), nI_clamp (by omega), (fO_1 ht).okD, fO_min ht, nI_1]
      exact q1
    · rw [q2, up2_hit]; rfl
    · intro k j hk
      rw [q3 k j hk, up2_ap, if_neg hk]
set_option maxRecDepth 20000 in
theorem open_ok (a b : Nat) {kb s N : Nat} (hs : s < 3) (hN : N < 100) (J : MI) {E : MD} (ht : rg (-1040) 256 (E (kb + 7) s)) : ∃ E', f_X5_open a b J E kb (nI s) (nI N) = some (J, E') ∧ E' (kb + 7) s = opN N (E (kb + 7) s) ∧ ∀ k j, ¬ (k = kb + 7 ∧ j = s) → E' k j = E k j := by
  unfold f_X5_open
  rw [show (0 : Int32) = nI 0 from rfl]
  exact open_L kb s N hs hN J N 0 200 E ht (by omega) (by omega)
/-! counting places -/
def cQ (f : Nat → Int32) (p : Int32) : Nat → Nat
  | 0 => 0
  | n + 1 => cQ f p n + (if f n = p then 1 else 0)
set_option maxRecDepth 20000 in
theorem cQ_cong {f g : Nat → Int32} {p : Int32} : ∀ c, (∀ i, i < c → f i = g i) → cQ f p c = cQ g p c
  | 0, _ => rfl
  | n + 1, h => by
    show cQ f p n + _ = cQ g p n + _
    rw [cQ_cong n (fun i hi => h i (by omega)), h n (by omega)]
set_option maxRecDepth 20000 in
theorem cntC_L (I : MI) (p : Int32) (c : Nat) (hc : c ≤ 12) (hI : I 0 7 = nI c) : ∀ (m i n : Nat), i + m = c → m < n → f_X4_countAt_L4 I p n (nI i) (nI (cQ (fun i => I (18 + i) 2) p i)) = some (nI (cQ (fun i => I (18 + i) 2) p c))
  | 0, i, n, h1, h2 => by
    obtain ⟨n, rfl⟩ : ∃ n', n = n' + 1 := ⟨n - 1, by omega⟩
    obtain rfl : i = c := by omega
    rw [f_X4_countAt_L4, hI, if_pos (nI_le (Nat.le_refl _) (by omega))]
  | m + 1, i, n, h1, h2 => by
    obtain ⟨n, rfl⟩ : ∃ n', n = n' + 1 := ⟨n - 1, by omega⟩
    have ih := cntC_L I p c hc hI m (i + 1) n (by omega) (by omega)
    rw [f_X4_countAt_L4, hI, if_neg (nI_ge (by omega) (by omega)), inB_nI (show i < 12 by omega) (by decide), nI_clamp (by omega), nI_1, nI_1]
    show (if I (18 + i) 2 = p then _ else _) = _
    have e : cQ (fun i => I (18 + i) 2) p (i + 1) = cQ (fun i => I (18 + i) 2) p i + (if I (18 + i) 2 = p then 1 else 0) := rfl
    rw [e] at ih
    by_cases hq : I (18 + i) 2 = p
    · rw [if_pos hq]; rw [if_pos hq] at ih; exact ih
    · rw [if_neg hq]; rw [if_neg hq] at ih; exact ih
set_option maxRecDepth 20000 in
theorem cntCc {I : MI} {c : Nat} (D : MD) (p : Int32) (hc : c ≤ 12) (hI : I 0 7 = nI c) : f_X4_countAt I D p = some (nI (cQ (fun i => I (18 + i) 2) p c)) := by
  unfold f_X4_countAt
  have h := cntC_L I p c hc hI c 0 200 (by omega) (by omega)
  exact h
set_option maxRecDepth 20000 in
theorem cntM_L (J : MI) (kb : Nat) (p : Int32) (c : Nat) (hc : c ≤ 12) (hJ : J kb 0 = nI c) : ∀ (m i n : Nat), i + m = c → m < n → f_X5_count_L4 J kb p n (nI i) (nI (cQ (J (kb + 4)) p i)) = some (nI (cQ (J (kb + 4)) p c))
  | 0, i, n, h1, h2 => by
    obtain ⟨n, rfl⟩ : ∃ n', n = n' + 1 := ⟨n - 1, by omega⟩
    obtain rfl : i = c := by omega
    rw [f_X5_count_L4, hJ, if_pos (nI_le (Nat.le_refl _) (by omega))]
  | m + 1, i, n, h1, h2 => by
    obtain ⟨n, rfl⟩ : ∃ n', n = n' + 1 := ⟨n - 1, by omega⟩
    have ih := cntM_L J kb p c hc hJ m (i + 1) n (by omega) (by omega)
    rw [f_X5_count_L4, hJ, if_neg (nI_ge (by omega) (by omega)), inB_nI (show i < 12 by omega) (by decide), nI_clamp (by omega), nI_1, nI_1, Int32.add_zero]
    show (if J (kb + 4) i = p then _ else _) = _
    have e : cQ (J (kb + 4)) p (i + 1) = cQ (J (kb + 4)) p i + (if J (kb + 4) i = p then 1 else 0) := rfl
    rw [e] at ih
    by_cases hq : J (kb + 4) i = p
    · rw [if_pos hq]; rw [if_pos hq] at ih; exact ih
    · rw [if_neg hq]; rw [if_neg hq] at ih; exact ih
set_option maxRecDepth 20000 in
theorem cntMm (a b : Nat) {J : MI} {c kb : Nat} (E : MD) (p : Int32) (hc : c ≤ 12) (hJ : J kb 0 = nI c) : f_X5_count a b J E kb p = some (nI (cQ (J (kb + 4)) p c)) := by
  unfold f_X5_count
  have h := cntM_L J kb p c hc hJ c 0 200 (by omega) (by omega)
  exact h
set_option maxRecDepth 20000 in
theorem batOf_L (J : MI) (k c : Nat) (hc : c ≤ 12) (hJ : J 5 0 = nI c) : ∀ (m i n : Nat), i + m = c → m < n → f_X7_batchesOf_L4 J (nI k) n (nI i) (nI (cQ (J 6) (nI k) i)) = some (nI (cQ (J 6) (nI k) c))
  | 0, i, n, h1, h2 => by
    obtain ⟨n, rfl⟩ : ∃ n', n = n' + 1 := ⟨n - 1, by omega⟩
    obtain rfl : i = c := by omega
    rw [f_X7_batchesOf_L4, hJ, if_pos (nI_le (Nat.le_refl _) (by omega))]
  | m + 1, i, n, h1, h2 => by
    obtain ⟨n, rfl⟩ : ∃ n', n = n' + 1 := ⟨n - 1, by omega⟩
    have ih := batOf_L J k c hc hJ m (i + 1) n (by omega) (by omega)
    rw [f_X7_batchesOf_L4, hJ, if_neg (nI_ge (by omega) (by omega)), inB_nI (show i < 12 by omega) (by decide), nI_clamp (by omega), nI_1, nI_1, Int32.add_zero]
    show (if J 6 i = nI k then _ else _) = _
    have e : cQ (J 6) (nI k) (i + 1) = cQ (J 6) (nI k) i + (if J 6 i = nI k then 1 else 0) := rfl
    rw [e] at ih
    by_cases hq : J 6 i = nI k
    · rw [if_pos hq]; rw [if_pos hq] at ih; exact ih
    · rw [if_neg hq]; rw [if_neg hq] at ih; exact ih
set_option maxRecDepth 20000 in
theorem cB_Q (I : MI) (k : Nat) : ∀ c, cB I k c = cQ (fun i => I (18 + i) 0) (nI k) c
  | 0 => rfl
  | n + 1 => by
    show cB I k n + _ = cQ _ _ n + _
    rw [cB_Q I k n]
