/-! ===== day, digest ===== -/
section DGG
variable {a b c d h : Nat} {I J : MI} {D E : MD}
set_option maxRecDepth 20000 in
theorem RR.hm {x : Int32} (R : RR x a b c d h I D J E) : HM a b J E I := fun k hk => R.harms hk
set_option maxRecDepth 20000 in
theorem day_M (R : RR 0 a b c d h I D J E) {m : Nat} (hm : m < 2 ^ b) (p2 : Int32) : f_X7_dayNow a b J E (nI m) p2 = some (if p2 = 0 then nI (tT (wW I) b m 5) else nI (bO (wW I) b 5 0 5 m)) := by
  have hb := R.b5
  obtain ⟨-, z2, -⟩ := bt_9 b (by omega)
  have h32 : m < 32 := by omega
  have hp := (bt_8 m h32).1
  have hz : ∀ j, j < 5 → (0 : Nat).testBit j = true → m.testBit j = false := fun j _ q => by rw [Nat.zero_testBit] at q; cases q
  have k := best_ok R.gt R.hm h32 (pc m) 7 0 0 5 0 0 m 0 0 (by omega) ⟨rfl, rfl, rfl, rfl⟩ rfl hm h32 hz (fun j hj => by rw [Nat.zero_testBit, Bool.false_or]) (Or.inl rfl)
  obtain ⟨l', u', hPO⟩ := bO_PO (wW_O I) hb (pc m) 0 0 5 0 0 m ⟨rfl, rfl, rfl, rfl⟩ rfl hm h32 hz
  have ef := bO_fuel (wW_O I) hb (pc m) 5 0 5 m (Nat.le_refl _) hp hm h32 (by decide) (bt_12 m h32)
  rw [ef] at hPO
  rw [if_pos rfl, ef] at k
  have w := wa_ok R.gt R.hm hPO
  rw [Nat.zero_add] at w
  unfold f_X7_dayNow
  rw [show f_X7_bestOf 7 a b J E 0 (nI m) (nI m) 0 = _ from k, bd_s]
  by_cases e : p2 = 0
  · rw [if_pos e, if_pos e, w, bd_s]
  · rw [if_neg e, if_neg e]
set_option maxRecDepth 20000 in
theorem day_rng (hb : b ≤ 5) (p1 : Int32) : (∃ m, m < 2 ^ b ∧ p1 = nI m ∧ f_X4_checkRange (nI m) 0 ((1 <<< (nI b &&& 31)) - 1) = some (.ok ()) ∧ f_X7_in (nI m) 0 ((1 <<< (nI b &&& 31)) - 1) = some 1) ∨ (f_X4_checkRange p1 0 ((1 <<< (nI b &&& 31)) - 1) = some (.error IAE) ∧ f_X7_in p1 0 ((1 <<< (nI b &&& 31)) - 1) = some 0) := by
  obtain ⟨z1, z2, z3⟩ := bt_9 b (by omega)
  have hp := Nat.one_le_two_pow (n := b)
  rcases rng p1 0 ((1 <<< (nI b &&& 31)) - 1) with ⟨h3, h4, h5, h6⟩ | ⟨h3, h4⟩
  · left
    obtain ⟨m, hm, rfl⟩ := rgN_ (p := p1) (hi := ((1 <<< (nI b &&& 31)) - 1)) (n := 2 ^ b) (by omega) (by rw [z1, z3, nI_toInt (by omega)]; omega) h5 h6
    exact ⟨m, hm, rfl, h3, h4⟩
  · exact Or.inr ⟨h3, h4⟩
set_option maxRecDepth 20000 in
theorem a_day (R : RR 0 a b c d h I D J E) (p1 p2 : Int32) : agW (fun _ => True) (PP a b h) I D [IAE] (f_X4_day I D p1 p2) (f_X7_day a b J E p1 p2) := by
  have R0 := R.thr 0
  have t0 : up2 J 0 0 0 0 0 = 0 := up2_hit J 0 0 0
  unfold f_X7_day
  rw [nm_v]
  generalize up2 J 0 0 0 = J0 at R0 t0 ⊢
  have hb := R0.b5
  rw [show f_size2 a b J0 E = some (nI b) by unfold f_size2; rw [R0.J2], bd_s]
  rcases day_rng hb p1 with ⟨m, hm, rfl, g1, g2⟩ | ⟨g1, g2⟩
  · obtain ⟨I', r1, r2⟩ := day_C (D := D) hb R0.I6 R0.1.2.2.2.2.2.2 hm p2 g1
    rw [g2, bd_s, if10, day_M R0 hm, bd_s, r1]
    exact agW_ok rfl trivial t0 (R0.ask r2 (fun _ _ _ _ => rfl) (fun _ _ _ => rfl)).pp
  · unfold f_X4_day
    rw [R0.I6, g1, bE_e, g2, bd_s, if00, no_e, bd_s]
    exact agW_er 0 rfl (up2_hit J0 0 0 _) (R0.ppt 1)
set_option maxRecDepth 20000 in
theorem cr_ok {i n : Nat} (h : i ≤ n) (hn : n < 2 ^ 31) : f_X4_checkRange (nI i) 0 (nI n) = some (.ok ()) := by
  unfold f_X4_checkRange
  rw [if_neg (nI_pos (by omega)), if_pos (nI_le h hn)]
set_option maxRecDepth 20000 in
theorem cn_ok {i n : Nat} (h : i < n) (hn : n < 2 ^ 31) : f_X4_checkNumber (nI i) (nI n) = some (.ok ()) := by
  unfold f_X4_checkNumber
  rw [if_neg (nI_pos (by omega)), if_pos (nI_lt h hn)]
set_option maxRecDepth 20000 in
theorem dg_1 (R : RR 0 a b c d h I D J E) : ∀ (m i n n' : Nat) (v : Int64), i + m = 12 → m < n → m < n' → ∃ w, f_X4_digest_L6 I D n (nI i) v = f_X4_digest_L33 I D 200 (nI 0) w ∧ f_X7_digest_L11 a b E J n' (nI i) v = f_X7_digest_L38 a b E J 7 (nI 0) w := by
  intro m
  induction m with
  | zero =>
    intro i n n' v h1 h2 h3
    obtain ⟨n, rfl⟩ : ∃ q, n = q + 1 := ⟨n - 1, by omega⟩
    obtain ⟨n', rfl⟩ : ∃ q, n' = q + 1 := ⟨n' - 1, by omega⟩
    obtain rfl : i = 12 := by omega
    refine ⟨v, ?_, ?_⟩
    · rw [f_X4_digest_L6, if_pos (show (11 : Int32) < nI 12 by decide)]
      rfl
    · rw [f_X7_digest_L11, if_pos (show (11 : Int32) < nI 12 by decide)]
      rfl
  | succ m ih =>
    intro i n n' v h1 h2 h3
    obtain ⟨n, rfl⟩ : ∃ q, n = q + 1 := ⟨n - 1, by omega⟩
    obtain ⟨n', rfl⟩ : ∃ q, n' = q + 1 := ⟨n' - 1, by omega⟩
    obtain ⟨w, r1, r2⟩ := ih (i + 1) n n' (v * 31 + (manV c I J i).toInt64) (by omega) (by omega) (by omega)
    have hlt : ¬ (11 : Int32) < nI i := nI_nlt (a := 11) (b := i) (by omega) (by decide)
    refine ⟨w, ?_, ?_⟩
    · rw [f_X4_digest_L6, if_neg hlt, manV_C R (show i < 12 by omega) (show f_X4_checkRange (nI i) 0 11 = _ from cr_ok (n := 11) (by omega) (by decide)), bE_o, nI_1]
      exact r1
    · rw [f_X7_digest_L11, if_neg hlt, manV_M R (show i < 12 by omega), bd_s, nI_1]
      exact r2
set_option maxRecDepth 20000 in
theorem dg_2i (R : RR 0 a b c d h I D J E) {k : Nat} (hk : k < b) (rc : Int32 → Int64 → Option (Except String (Int64 × MI × MD))) (rm_ : Int32 → Int64 → Option (Int64 × MI × MD)) : ∀ (m i n n' : Nat) (v : Int64), i + m = 9 → m < n → m < n' → ∃ w, f_X4_digest_L44 rc I D (nI k) n (nI i) v = rc (nI (k + 1)) w ∧ f_X7_digest_L54 rm_ a b E J (nI k) n' (nI i) v = rm_ (nI (k + 1)) w := by
  have hb := R.b5
  intro m
  induction m with
  | zero =>
    intro i n n' v h1 h2 h3
    obtain ⟨n, rfl⟩ : ∃ q, n = q + 1 := ⟨n - 1, by omega⟩
    obtain ⟨n', rfl⟩ : ∃ q, n' = q + 1 := ⟨n' - 1, by omega⟩
    obtain rfl : i = 9 := by omega
    refine ⟨v * 31 + (barV I D 0 k 20 80).toInt64, ?_, ?_⟩
    · rw [f_X4_digest_L44, if_pos (show (8 : Int32) < nI 9 by decide), show f_X4_bars I D 0 (nI k) 20 80 = _ from barV_C R hk (i := 0) (by decide) (p3 := 20) (p4 := 80) rfl rfl rfl (cn_ok hk (by omega)), bE_o, nI_1]
    · rw [f_X7_digest_L54, if_pos (show (8 : Int32) < nI 9 by decide), get2_ok R.gt E hk, bd_s, show f_X7_barsNow a b J E 0 k 20 80 = _ from barV_M R hk (i := 0) (by decide), bd_s, nI_1]
  | succ m ih =>
    intro i n n' v h1 h2 h3
    obtain ⟨n, rfl⟩ : ∃ q, n = q + 1 := ⟨n - 1, by omega⟩
    obtain ⟨n', rfl⟩ : ∃ q, n' = q + 1 := ⟨n' - 1, by omega⟩
    obtain ⟨w, r1, r2⟩ := ih (i + 1) n n' (v * 31 + (mixV I k i).toInt64) (by omega) (by omega) (by omega)
    have hlt : ¬ (8 : Int32) < nI i := nI_nlt (a := 8) (b := i) (by omega) (by decide)
    refine ⟨w, ?_, ?_⟩
    · rw [f_X4_digest_L44, if_neg hlt, mixV_C R hk (show i < 9 by omega) (show f_X4_checkRange (nI i) 0 8 = _ from cr_ok (n := 8) (by omega) (by decide)) (cn_ok hk (by omega)), bE_o, nI_1]
      exact r1
    · rw [f_X7_digest_L54, if_neg hlt, mixV_M R hk (show i < 9 by omega), bd_s, nI_1]
      exact r2
set_option maxRecDepth 20000 in
theorem dg_2 (R : RR 0 a b c d h I D J E) : ∀ (m k n n' : Nat) (v : Int64), k + m = b → m < n → m < n' → ∃ w, f_X4_digest_L33 I D n (nI k) v = f_X4_digest_L98 I D 200 (nI 0) w ∧ f_X7_digest_L38 a b E J n' (nI k) v = f_X7_digest_L120 a b E J 13 (nI 0) w := by
  have hb := R.b5
  intro m
  induction m with
  | zero =>
    intro k n n' v h1 h2 h3
    obtain ⟨n, rfl⟩ : ∃ q, n = q + 1 := ⟨n - 1, by omega⟩
    obtain ⟨n', rfl⟩ : ∃ q, n' = q + 1 := ⟨n' - 1, by omega⟩
    obtain rfl : k = b := by omega
    refine ⟨v, ?_, ?_⟩
    · rw [f_X4_digest_L33, R.I6, if_pos (nI_le (Nat.le_refl _) (by omega))]
      rfl
    · rw [f_X7_digest_L38]
      unfold f_size2
      rw [bd_s, R.J2, if_pos (nI_le (Nat.le_refl _) (by omega))]
      rfl
  | succ m ih =>
    intro k n n' v h1 h2 h3
    obtain ⟨n, rfl⟩ : ∃ q, n = q + 1 := ⟨n - 1, by omega⟩
    obtain ⟨n', rfl⟩ : ∃ q, n' = q + 1 := ⟨n' - 1, by omega⟩
    obtain ⟨w1, r1, r2⟩ := dg_2i R (show k < b by omega) (f_X4_digest_L33 I D n) (f_X7_digest_L38 a b E J n') 9 0 200 10 v (by decide) (by decide) (by decide)
    obtain ⟨w, s1, s2⟩ := ih (k + 1) n n' w1 (by omega) (by omega) (by omega)
    refine ⟨w, ?_, ?_⟩
    · rw [f_X4_digest_L33, R.I6, if_neg (nI_ge (by omega) (by omega)), show (0 : Int32) = nI 0 from rfl]
      exact r1.trans s1
    · rw [f_X7_digest_L38]
      unfold f_size2
      rw [bd_s, R.J2, if_neg (nI_ge (by omega) (by omega)), show (0 : Int32) = nI 0 from rfl]
      exact r2.trans s2
set_option maxRecDepth 20000 in
theorem dg_3i (R : RR 0 a b c d h I D J E) {j : Nat} (hj : j < c) (rc : Int32 → Int64 → Option (Except String (Int64 × MI × MD))) (rm_ : Int32 → Int64 → Option (Int64 × MI × MD)) : ∀ (m i n n' : Nat) (v : Int64), i + m = 6 → m < n → m < n' → ∃ w, f_X4_digest_L109 rc I D (nI j) n (nI i) v = rc (nI (j + 1)) w ∧ f_X7_digest_L134 rm_ a b E J (nI j) n' (nI i) v = rm_ (nI (j + 1)) w := by
  have hc := R.c12
  obtain ⟨mx, hm, e0, -⟩ := R.ofB hj
  have h8 := rg_mul8 (R.crg hj) (by decide) (by unfold crM; have := R.h20; omega)
  have hd2 : FP.d2l (FP.dmul (D (18 + j) 4) (4620693217682128896 : UInt64)) = (FP.d2i (FP.dmul (D (18 + j) 4) (4620693217682128896 : UInt64))).toInt64 := d2_same (h8.mono (by decide) (by unfold crM; have := R.h20; omega))
  intro m
  induction m with
  | zero =>
    intro i n n' v h1 h2 h3
    obtain ⟨n, rfl⟩ : ∃ q, n = q + 1 := ⟨n - 1, by omega⟩
    obtain ⟨n', rfl⟩ : ∃ q, n' = q + 1 := ⟨n' - 1, by omega⟩
    obtain rfl : i = 6 := by omega
    refine ⟨v * 31 + (FP.d2i (FP.dmul (D (18 + j) 4) (4620693217682128896 : UInt64))).toInt64, ?_, ?_⟩
    · rw [f_X4_digest_L109, if_pos (show (5 : Int32) < nI 6 by decide), inB_nI (show j < 12 by omega) (by decide), nI_clamp (show j < 2 ^ 31 by omega), ckt, h8.okD, ckt, nI_1, hd2]
    · rw [f_X7_digest_L134, if_pos (show (5 : Int32) < nI 6 by decide), inB_nI (show j < 12 by omega) (by decide), nI_clamp (show j < 2 ^ 31 by omega), ckt, show E (5 + 5) j = D (18 + j) 4 from R.crys hj, h8.okD, ckt, nI_1]
  | succ m ih =>
    intro i n n' v h1 h2 h3
    obtain ⟨n, rfl⟩ : ∃ q, n = q + 1 := ⟨n - 1, by omega⟩
    obtain ⟨n', rfl⟩ : ∃ q, n' = q + 1 := ⟨n' - 1, by omega⟩
    obtain ⟨w, r1, r2⟩ := ih (i + 1) n n' (v * 31 + (batV I D j mx i).toInt64) (by omega) (by omega) (by omega)
    have hlt : ¬ (5 : Int32) < nI i := nI_nlt (a := 5) (b := i) (by omega) (by decide)
    refine ⟨w, ?_, ?_⟩
    · rw [f_X4_digest_L109, if_neg hlt, batV_C R hj hm e0 (show i < 6 by omega) (show f_X4_checkRange (nI i) 0 5 = _ from cr_ok (n := 5) (by omega) (by decide)) (cn_ok hj (by omega)), bE_o, nI_1]
      exact r1
    · rw [f_X7_digest_L134, if_neg hlt, batV_M R hj hm e0 (show i < 6 by omega), bd_s, nI_1]
      exact r2
set_option maxRecDepth 20000 in
theorem dg_3 (R : RR 0 a b c d h I D J E) : ∀ (m k n n' : Nat) (v : Int64), k + m = c → m < n → m < n' → ∃ w, f_X4_digest_L98 I D n (nI k) v = f_X4_digest_L165 I D 200 (nI 0) w ∧ f_X7_digest_L120 a b E J n' (nI k) v = f_X7_digest_L191 a b 4 (nI 0) w J E := by
  have hc := R.c12
  intro m
  induction m with
  | zero =>
    intro k n n' v h1 h2 h3
    obtain ⟨n, rfl⟩ : ∃ q, n = q + 1 := ⟨n - 1, by omega⟩
    obtain ⟨n', rfl⟩ : ∃ q, n' = q + 1 := ⟨n' - 1, by omega⟩
    obtain rfl : k = c := by omega
    refine ⟨v, ?_, ?_⟩
    · rw [f_X4_digest_L98, R.I7, if_pos (nI_le (Nat.le_refl _) (by omega))]
      rfl
    · rw [f_X7_digest_L120, R.J5, if_pos (nI_le (Nat.le_refl _) (by omega))]
      rfl
  | succ m ih =>
    intro k n n' v h1 h2 h3
    obtain ⟨n, rfl⟩ : ∃ q, n = q + 1 := ⟨n - 1, by omega⟩
    obtain ⟨n', rfl⟩ : ∃ q, n' = q + 1 := ⟨n' - 1, by omega⟩
    obtain ⟨w1, r1, r2⟩ := dg_3i R (show k < c by omega) (f_X4_digest_L98 I D n) (f_X7_digest_L120 a b E J n') 6 0 200 7 v (by decide) (by decide) (by decide)
    obtain ⟨w, s1, s2⟩ := ih (k + 1) n n' w1 (by omega) (by omega) (by omega)
    refine ⟨w, ?_, ?_⟩
    · rw [f_X4_digest_L98, R.I7, if_neg (nI_ge (by omega) (by omega)), show (0 : Int32) = nI 0 from rfl]
      exact r1.trans s1
    · rw [f_X7_digest_L120, R.J5, if_neg (nI_ge (by omega) (by omega)), show (0 : Int32) = nI 0 from rfl]
      exact r2.trans s2
set_option maxRecDepth 20000 in
theorem dg_5 (R : RR 0 a b c d h I D J E) (v : Int64) : ∃ w I', bE (f_X4_day I D ((1 <<< ((I 0 6) &&& 31)) - 1) 1) (fun (r_5, I_7, D_8) => bE (f_X4_day I_7 D_8 ((1 <<< ((I 0 6) &&& 31)) - 1) 0) (fun (r_9, I_11, D_12) => some (Except.ok (((((v * (31 : Int64)) + (r_5).toInt64) * (31 : Int64)) + (r_9).toInt64), I_11, D_12)))) = some (.ok (w, I', D)) ∧ bd (f_size2 a b J E) (fun r_16 => bd (f_X7_dayNow a b J E ((1 <<< (r_16 &&& 31)) - 1) 1) (fun r_19 => bd (f_X7_dayNow a b J E ((1 <<< (r_16 &&& 31)) - 1) 0) (fun r_22 => some (((((v * (31 : Int64)) + (r_19).toInt64) * (31 : Int64)) + (r_22).toInt64), J, E)))) = some (w, J, E) ∧ ∀ k j, ¬ (k = 6 ∧ 6 ≤ j) → I' k j = I k j := by
  have hb := R.b5
  obtain ⟨z1, z2, z3⟩ := bt_9 b (by omega)
  have hp := Nat.one_le_two_pow (n := b)
  have hm : 2 ^ b - 1 < 2 ^ b := by omega
  have eA : ((1 : Int32) <<< (nI b &&& 31)) - 1 = nI (2 ^ b - 1) := by rw [z1, z3]
  have g : f_X4_checkRange (nI (2 ^ b - 1)) 0 ((1 <<< (nI b &&& 31)) - 1) = some (.ok ()) := by
    rw [eA]
    exact cr_ok (Nat.le_refl _) (by omega)
  obtain ⟨I1, r1, r2⟩ := day_C (D := D) hb R.I6 R.1.2.2.2.2.2.2 hm 1 g
  have R1 := R.ask r2 (fun _ _ _ _ => rfl) (fun _ _ _ => rfl)
  obtain ⟨I2, s1, s2⟩ := day_C (D := D) hb R1.I6 R1.1.2.2.2.2.2.2 hm 0 g
  refine ⟨((v * 31 + (nI (bO (wW I) b 5 0 5 (2 ^ b - 1))).toInt64) * 31 + (nI (tT (wW I1) b (2 ^ b - 1) 5)).toInt64), I2, ?_, ?_, fun k j q => (s2 k j q).trans (r2 k j q)⟩
  · rw [R.I6, eA, r1, bE_o]
    dsimp only
    rw [s1, bE_o]
    rfl
  · unfold f_size2
    rw [bd_s, R.J2, eA, day_M R hm, bd_s, day_M R1 hm, bd_s]
    rfl
set_option maxRecDepth 20000 in
theorem dg_4 (a b c d h : Nat) (I : MI) (D : MD) : ∀ (m s n n' : Nat) (v : Int64) (J : MI) (E : MD), RR 0 a b c d h I D J E → s + m = d → m < n → m < n' → ∃ w I' J' E', f_X4_digest_L165 I D n (nI s) v = some (.ok (w, I', D)) ∧ f_X7_digest_L191 a b n' (nI s) v J E = some (w, J', E') ∧ (∀ k j, ¬ (k = 6 ∧ 6 ≤ j) → I' k j = I k j) ∧ (∀ k j, k < 30 → J' k j = J k j) ∧ ∀ k j, k < 30 → E' k j = E k j := by
  intro m
  induction m with
  | zero =>
    intro s n n' v J E R h1 h2 h3
    have hd := R.d3
    obtain ⟨n, rfl⟩ : ∃ q, n = q + 1 := ⟨n - 1, by omega⟩
    obtain ⟨n', rfl⟩ : ∃ q, n' = q + 1 := ⟨n' - 1, by omega⟩
    obtain rfl : s = d := by omega
    obtain ⟨w, I', r1, r2, r3⟩ := dg_5 R v
    refine ⟨w, I', J, E, ?_, ?_, r3, fun _ _ _ => rfl, fun _ _ _ => rfl⟩
    · rw [f_X4_digest_L165, R.I8, if_pos (nI_le (Nat.le_refl _) (by omega))]
      exact r1
    · rw [f_X7_digest_L191, R.J6, if_pos (nI_le (Nat.le_refl _) (by omega))]
      exact r2
  | succ m ih =>
    intro s n n' v J E R h1 h2 h3
    have hd := R.d3
    obtain ⟨n, rfl⟩ : ∃ q, n = q + 1 := ⟨n - 1, by omega⟩
    obtain ⟨n', rfl⟩ : ∃ q, n' = q + 1 := ⟨n' - 1, by omega⟩
    have hs : s < d := by omega
    obtain ⟨w1, w2, w3, w4, w5⟩ := R.sto s hs
    obtain ⟨sp, J1, E1, l1, l2, l3, l4⟩ := spoil_ok R hs (N := 0) (by decide) (cn_ok hs (by omega)) (show f_X4_checkRange (nI 0) 0 20 = _ from cr_ok (i := 0) (n := 20) (by decide) (by decide))
    have R1 := R.ask (I' := I) (J' := J1) (E' := E1) (fun _ _ _ => rfl) (fun k n g _ => l3 k n g) l4
    have h8 := rg_mul8 w5 (by decide) (by decide)
    have hd2 : FP.d2l (FP.dmul (D (30 + s) 1) (4620693217682128896 : UInt64)) = (FP.d2i (FP.dmul (D (30 + s) 1) (4620693217682128896 : UInt64))).toInt64 := d2_same (h8.mono (by decide) (by decide))
    obtain ⟨w, I', J', E', r1, r2, r3, r4, r5⟩ := ih (s + 1) n n' ((v * 31 + (FP.d2i (FP.dmul (D (30 + s) 1) (4620693217682128896 : UInt64))).toInt64) * 31 + sp.toInt64) J1 E1 R1 (by omega) (by omega) (by omega)
    refine ⟨w, I', J', E', ?_, ?_, r3, fun k j q => (r4 k j q).trans (l3 k j q), fun k j q => (r5 k j q).trans (l4 k j q)⟩
    · rw [f_X4_digest_L165, R.I8, if_neg (nI_ge (by omega) (by omega)), inB_nI (show s < 3 by omega) (by decide), nI_clamp (show s < 2 ^ 31 by omega), ckt, h8.okD, ckt, show f_X4_wouldSpoil I D (nI s) 0 = _ from l1, bE_o, nI_1, hd2]
      exact r1
    · rw [f_X7_digest_L191, R.J6, if_neg (nI_ge (by omega) (by omega)), inB_nI (show s < 3 by omega) (by decide), nI_clamp (show s < 2 ^ 31 by omega), ckt, show E (5 + 7) s = D (30 + s) 1 from w2, h8.okD, ckt, show f_X7_spoilNow a b J E (nI s) 0 = _ from l2, bd_s, nI_1]
      exact r2
set_option maxRecDepth 20000 in
theorem a_digest (R : RR 0 a b c d h I D J E) : ∃ w I' D' J' E', f_X4_digest I D = some (.ok (w, I', D')) ∧ f_X7_digest a b J E = some (w, J', E') ∧ PP a b h I' D' J' E' := by
  have R0 := R.thr 0
  unfold f_X7_digest
  rw [nm_v]
  generalize up2 J 0 0 0 = J0 at R0 ⊢
  have hb := R0.b5
  have hc := R0.c12
  have hd := R0.d3
  obtain ⟨v1, p1, q1⟩ := dg_1 R0 12 0 200 13 9606 (by decide) (by decide) (by decide)
  obtain ⟨v2, p2, q2⟩ := dg_2 R0 b 0 200 7 v1 (by omega) (by omega) (by omega)
  obtain ⟨v3, p3, q3⟩ := dg_3 R0 c 0 200 13 v2 (by omega) (by omega) (by omega)
  obtain ⟨w, I', J', E', p4, q4, r3, r4, r5⟩ := dg_4 a b c d h I D d 0 200 4 v3 J0 E R0 (by omega) (by omega) (by omega)
  refine ⟨w, I', D, J', E', ?_, ?_, (R0.ask r3 (fun k n g _ => r4 k n g) r5).pp⟩
  · unfold f_X4_digest
    rw [show (0 : Int32) = nI 0 from rfl]
    exact p1.trans (p2.trans (p3.trans p4))
  · rw [show (0 : Int32) = nI 0 from rfl]
    exact q1.trans (q2.trans (q3.trans q4))
end DGG
