/-! ===== the teller's memory (K, M) beside the reference's (J, E): draws and reads ===== -/
def DR (K : MI) (N : Nat) : Prop := ∃ n, n ≤ N ∧ K 40 2 = nI n
def TKi (a : Nat) (J K : MI) : Prop := ∀ i, i < a → ∀ j, j < 5 → K (50 + i) j = J (14 + i) j
def TKm1 (k : Nat) (I J K : MI) : Prop := (∀ i, i < 6 → K (60 + k) i = J (25 + k) i) ∧ K (60 + k) 6 = J (20 + k) 1 ∧ K (60 + k) 7 = J (20 + k) 2 ∧ K (60 + k) 8 = J (20 + k) 3 ∧ K (60 + k) 9 = I (13 + k) 9
def TKm (b : Nat) (I J K : MI) : Prop := ∀ k, k < b → TKm1 k I J K
def TKb1 (j : Nat) (J K : MI) (E M : MD) : Prop := K (70 + j) 0 = J 6 j ∧ K (70 + j) 1 = J 7 j ∧ K (70 + j) 2 = J 8 j ∧ K (70 + j) 3 = J 9 j ∧ M 42 j = E 10 j
def TKb (c : Nat) (J K : MI) (E M : MD) : Prop := ∀ j, j < c → TKb1 j J K E M
def TKs (d : Nat) (J K : MI) (E M : MD) : Prop := ∀ s, s < d → K 46 s = J 11 s ∧ M 43 s = E 12 s
def TKr (J K : MI) : Prop := ∀ n, n < 2 → K 44 n = J 13 n
def TK (a b c d : Nat) (I J : MI) (E : MD) (K : MI) (M : MD) : Prop := TKi a J K ∧ TKm b I J K ∧ TKb c J K E M ∧ TKs d J K E M ∧ TKr J K
def TR (a b c d N : Nat) (I : MI) (D : MD) (K : MI) (M : MD) : Prop := DR K N ∧ ∃ h J E, h ≤ N ∧ RR 0 a b c d h I D J E ∧ TK a b c d I J E K M
set_option maxRecDepth 20000 in
theorem TK.cong {a b c d : Nat} {I J K K' : MI} {E M : MD} (T : TK a b c d I J E K M) (hk : ∀ k j, 44 ≤ k → K' k j = K k j) : TK a b c d I J E K' M := by
  obtain ⟨t1, t2, t3, t4, t5⟩ := T
  refine ⟨fun i hi j hj => ?_, fun k h => ?_, fun j hj => ?_, fun s hs => ?_, fun n hn => ?_⟩
  · rw [hk _ _ (by omega)]; exact t1 i hi j hj
  · obtain ⟨m1, m2, m3, m4, m5⟩ := t2 k h
    refine ⟨fun i hi => ?_, ?_, ?_, ?_, ?_⟩
    · rw [hk _ _ (by omega)]; exact m1 i hi
    · rw [hk _ _ (by omega)]; exact m2
    · rw [hk _ _ (by omega)]; exact m3
    · rw [hk _ _ (by omega)]; exact m4
    · rw [hk _ _ (by omega)]; exact m5
  · obtain ⟨m1, m2, m3, m4, m5⟩ := t3 j hj
    refine ⟨?_, ?_, ?_, ?_, m5⟩
    · rw [hk _ _ (by omega)]; exact m1
    · rw [hk _ _ (by omega)]; exact m2
    · rw [hk _ _ (by omega)]; exact m3
    · rw [hk _ _ (by omega)]; exact m4
  · rw [hk _ _ (by omega)]; exact t4 s hs
  · rw [hk _ _ (by omega)]; exact t5 n hn
set_option maxRecDepth 20000 in
theorem DR.cong {K K' : MI} {N N' : Nat} (h : DR K N) (hk : K' 40 2 = K 40 2) (hn : N ≤ N') : DR K' N' := by
  obtain ⟨n, h1, h2⟩ := h
  exact ⟨n, by omega, by rw [hk]; exact h2⟩
section DRW
variable {LS : Nat} {xs : Nat → Int32} {a b c d : Nat} {I K : MI} {D M : MD}
set_option maxRecDepth 20000 in
theorem draw_ok (hLS : LS < 2 ^ 31) {N n : Nat} (h : DR K N) (hN : N < 2 ^ 20) (h0 : 0 < n) (hn : n < 2 ^ 31) : ∃ v K', v < n ∧ f_T_draw LS xs a b c d I D K M (nI n) = some (nI v, K') ∧ DR K' (N + 1) ∧ ∀ k j, ¬ (k = 40 ∧ j = 2) → K' k j = K k j := by
  obtain ⟨q, hq, e⟩ := h
  have hr : nI q - nI q / 24 * 24 = nI (q % 24) := pk_rem (a := q) (d := 24) (by omega) (by decide) (by decide)
  have hcell : ∃ z, f_L_cell LS xs (nI (q % 24)) = some z := by
    unfold f_L_cell
    by_cases hl : nI LS ≤ nI (q % 24)
    · rw [if_pos hl]; exact ⟨_, rfl⟩
    · have hl' : q % 24 < LS := by
        rw [nI_leI hLS (by omega)] at hl
        omega
      rw [if_neg hl, inB_nI hl' hLS]
      exact ⟨_, rfl⟩
  obtain ⟨z, hz⟩ := hcell
  have hbel : ∀ x : Int32, ∃ v, v < n ∧ f_L_below x (nI n) = some (nI v) := fun x => by
    obtain ⟨j, hj, ej⟩ := pk_andE x (m := 2147483647) 31 (by decide)
    have hnz : nzB (nI n) = true := by
      unfold nzB
      rw [decide_eq_false (nI_ne0 h0 hn)]
      rfl
    refine ⟨j % n, Nat.mod_lt _ h0, ?_⟩
    unfold f_L_below
    rw [hnz, ckt, ej, pk_rem hj h0 hn]
  unfold f_T_draw
  rw [e, hr, hz, bd_s]
  obtain ⟨v, hv, ev⟩ := hbel ((z >>> ((nI q / 24 - nI q / 24 / 8 * 8) &&& 31)) + 389 * nI q)
  rw [ev, bd_s, nm_v]
  refine ⟨v, _, hv, rfl, ⟨q + 1, by omega, ?_⟩, fun k j hkj => ?_⟩
  · rw [up2_hit, nI_1]
  · rw [up2_ap, if_neg hkj]
/-! sums -/
set_option maxRecDepth 20000 in
theorem tsum_L (k : Nat) (hk : k < b) (hb : b ≤ 5) (ha : a ≤ 6) (p2 : Int32) (z : Nat → Int32) (hz : ∀ i, i < a → ∀ (rec : Int32 → Int32 → Option Int32) acc, (if 0 ≤ p2 then ck (inB (nI i) a) (ck (inB p2 5) (f_T_sum_J42 rec K (nI k) (nI i) acc (K (50 + (nI i).toNatClampNeg) (p2).toNatClampNeg))) else f_T_sum_J42 rec K (nI k) (nI i) acc 1) = rec (nI i + 1) (acc + K (60 + k) i * z i)) :
    ∀ (m i n : Nat) (acc : Int32), i + m = a → m < n → f_T_sum_L5 a b K (nI k) p2 n (nI i) acc = some (acc + sF (fun i => K (60 + k) i * z i) i m)
  | 0, i, n, acc, h1, h2 => by
    obtain ⟨n, rfl⟩ : ∃ n', n = n' + 1 := ⟨n - 1, by omega⟩
    obtain rfl : i = a := by omega
    rw [f_T_sum_L5, if_pos (nI_le (Nat.le_refl _) (by omega))]
    show _ = some (acc + 0)
    rw [Int32.add_zero]
  | m + 1, i, n, acc, h1, h2 => by
    obtain ⟨n, rfl⟩ : ∃ n', n = n' + 1 := ⟨n - 1, by omega⟩
    rw [f_T_sum_L5, if_neg (nI_ge (by omega) (by omega)), inB_nI hk (by omega), ckt, inB_nI (show i < 10 by omega) (by decide), ckt, hz i (by omega), nI_1]
    rw [tsum_L k hk hb ha p2 z hz m (i + 1) n _ (by omega) (by omega)]
    show _ = some (acc + (K (60 + k) i * z i + sF (fun i => K (60 + k) i * z i) (i + 1) m))
    rw [Int32.add_assoc]
set_option maxRecDepth 20000 in
theorem tsum_w {J : MI} (k : Nat) (hk : k < b) (hb : b ≤ 5) (ha : a ≤ 6) (w : Nat) (hw : w < 5) (h1 : TKi a J K) (h2 : ∀ i, i < 6 → K (60 + k) i = J (25 + k) i) (h3 : ∀ i, a ≤ i → i < 6 → J (25 + k) i = 0) : f_T_sum LS xs a b c d I D K M (nI k) (nI w) = some (sF (fun i => J (25 + k) i * J (14 + i) w) 0 6) := by
  unfold f_T_sum
  have hw0 : (0 : Int32) ≤ nI w := nI_le (a := 0) (Nat.zero_le _) (by omega)
  rw [show (0 : Int32) = nI 0 from rfl, tsum_L k hk hb ha (nI w) (fun i => K (50 + i) w) (fun i hi rec acc => by
    rw [if_pos hw0, inB_nI hi (by omega), ckt, inB_nI hw (by decide), ckt, nI_clamp (by omega), nI_clamp (by omega)]
    unfold f_T_sum_J42
    rw [nI_clamp (by omega), nI_clamp (by omega)]) a 0 200 _ (by omega) (by omega), nI_0, Int32.zero_add, sF_tail (f := fun i => J (25 + k) i * J (14 + i) w) ha (fun j g1 g2 => by rw [h3 j g1 g2, Int32.zero_mul])]
  congr 1
  exact sF_cong a 0 (fun j _ hj => by rw [h1 j (by omega) w hw, h2 j (by omega)])
set_option maxRecDepth 20000 in
theorem tsum_a {J : MI} (k : Nat) (hk : k < b) (hb : b ≤ 5) (ha : a ≤ 6) (h2 : ∀ i, i < 6 → K (60 + k) i = J (25 + k) i) (h3 : ∀ i, a ≤ i → i < 6 → J (25 + k) i = 0) : f_T_all LS xs a b c d I D K M (nI k) = some (sF (J (25 + k)) 0 6) := by
  unfold f_T_all f_T_sum
  rw [show (0 : Int32) = nI 0 from rfl, tsum_L k hk hb ha (-1) (fun i => 1) (fun i hi rec acc => by
    rw [if_neg (by decide)]
    unfold f_T_sum_J42
    rw [nI_clamp (by omega), nI_clamp (by omega)]) a 0 200 _ (by omega) (by omega), nI_0, Int32.zero_add, bd_s, sF_tail (f := J (25 + k)) ha (fun j g1 g2 => h3 j g1 g2)]
  congr 1
  exact sF_cong a 0 (fun j _ hj => by rw [Int32.mul_one, h2 j (by omega)])
set_option maxRecDepth 20000 in
theorem tharm_L (k : Nat) (hk : k < b) (hb : b ≤ 5) (ha : a ≤ 6) :
    ∀ (m i n : Nat) (acc : Int32), i + m = a → m < n → f_T_harms_L4 a b K (nI k) n (nI i) acc = some (acc ||| oF (fun i => if K (60 + k) i ≤ 0 then 0 else K (50 + i) 4) i m)
  | 0, i, n, acc, h1, h2 => by
    obtain ⟨n, rfl⟩ : ∃ n', n = n' + 1 := ⟨n - 1, by omega⟩
    obtain rfl : i = a := by omega
    rw [f_T_harms_L4, if_pos (nI_le (Nat.le_refl _) (by omega))]
    show _ = some (acc ||| 0)
    rw [Int32.or_zero]
  | m + 1, i, n, acc, h1, h2 => by
    obtain ⟨n, rfl⟩ : ∃ n', n = n' + 1 := ⟨n - 1, by omega⟩
    have e4 : (4 : Int32).toNatClampNeg = 4 := by decide
    rw [f_T_harms_L4, if_neg (nI_ge (by omega) (by omega)), inB_nI hk (by omega), ckt, inB_nI (show i < 10 by omega) (by decide), ckt, inB_nI (show i < a by omega) (by omega), ckt, show inB 4 5 = true by decide, ckt, nI_clamp (by omega), nI_clamp (by omega), e4, nI_1]
    show _ = some (acc ||| ((if K (60 + k) i ≤ 0 then 0 else K (50 + i) 4) ||| oF (fun i => if K (60 + k) i ≤ 0 then 0 else K (50 + i) 4) (i + 1) m))
    rw [tharm_L k hk hb ha m (i + 1) n _ (by omega) (by omega), tharm_L k hk hb ha m (i + 1) n _ (by omega) (by omega)]
    by_cases e : K (60 + k) i ≤ 0
    · rw [if_pos e, if_pos e, Int32.zero_or]
    · rw [if_neg e, if_neg e, Int32.or_assoc]
set_option maxRecDepth 20000 in
theorem tharms {J : MI} (k : Nat) (hk : k < b) (hb : b ≤ 5) (ha : a ≤ 6) (h1 : TKi a J K) (h2 : ∀ i, i < 6 → K (60 + k) i = J (25 + k) i) (h3 : ∀ i, a ≤ i → i < 6 → J (25 + k) i = 0) : f_T_harms LS xs a b c d I D K M (nI k) = some (oF (fun i => if J (25 + k) i ≤ 0 then 0 else J (14 + i) 4) 0 6) := by
  unfold f_T_harms
  rw [show (0 : Int32) = nI 0 from rfl, tharm_L k hk hb ha a 0 200 _ (by omega) (by omega), nI_0, Int32.zero_or, oF_tail (f := fun i => if J (25 + k) i ≤ 0 then 0 else J (14 + i) 4) ha (fun j g1 g2 => by rw [h3 j g1 g2, if_pos (by decide)])]
  congr 1
  exact oF_cong a 0 (fun j _ hj => by rw [h1 j (by omega) 4 (by decide), h2 j (by omega)])
set_option maxRecDepth 20000 in
theorem tin_L (p : Int32) (hc : c ≤ 12) : ∀ (m i n : Nat), i + m = c → m < n → f_T_in_L14 c K p n (nI i) (nI (cQ (fun j => K (70 + j) 3) p i)) = some (nI (cQ (fun j => K (70 + j) 3) p c))
  | 0, i, n, h1, h2 => by
    obtain ⟨n, rfl⟩ : ∃ n', n = n' + 1 := ⟨n - 1, by omega⟩
    obtain rfl : i = c := by omega
    rw [f_T_in_L14, if_pos (nI_le (Nat.le_refl _) (by omega))]
  | m + 1, i, n, h1, h2 => by
    obtain ⟨n, rfl⟩ : ∃ n', n = n' + 1 := ⟨n - 1, by omega⟩
    have e3 : (3 : Int32).toNatClampNeg = 3 := by decide
    rw [f_T_in_L14, if_neg (nI_ge (by omega) (by omega)), inB_nI (show i < c by omega) (by omega), ckt, show inB 3 4 = true by decide, ckt, nI_clamp (by omega), e3]
    have hs : cQ (fun j => K (70 + j) 3) p (i + 1) = cQ (fun j => K (70 + j) 3) p i + (if K (70 + i) 3 = p then 1 else 0) := rfl
    have ih := tin_L p hc m (i + 1) n (by omega) (by omega)
    unfold f_T_in_J41
    by_cases e : K (70 + i) 3 = p
    · rw [if_pos e, nI_1, nI_1]
      rw [hs, if_pos e] at ih
      exact ih
    · rw [if_neg e, nI_1, Int32.add_zero]
      rw [hs, if_neg e] at ih
      exact ih
set_option maxRecDepth 20000 in
theorem tin_ok (p : Int32) (hc : c ≤ 12) : f_T_in LS xs a b c d I D K M p = some (nI (cQ (fun j => K (70 + j) 3) p c)) := by
  unfold f_T_in
  exact tin_L p hc c 0 200 (by omega) (by omega)
end DRW
