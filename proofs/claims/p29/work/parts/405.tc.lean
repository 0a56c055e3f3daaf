/-! ===== the teller's calls: store, wash, pass ===== -/
section TLC
variable {LS : Nat} {xs : Nat → Int32} {x : Int32} {a b c d N h : Nat} {I J I' J' K K' : MI} {D E M E' M' : MD}
set_option maxRecDepth 20000 in
theorem T_store (hLS : LS < 2 ^ 31) (hT : TR a b c d N I D K M) (hN : N + 20 < 2 ^ 19) (hl : d < 3) : ∃ I' D' K' M', f_T_store LS xs a b c d I D K M = some (1, a, b, c, d + 1, I', D', K', M') ∧ TR a b c (d + 1) (N + 20) I' D' K' M' := by
  obtain ⟨hd, h, J, E, hh, R, T⟩ := hT
  have ha := R.a6
  have hb := R.b5
  have hc := R.c12
  obtain ⟨v, K1, h1, e1, d1, k1⟩ := draw_k (LS := LS) (xs := xs) (a := a) (b := b) (c := c) (d := d) (I := I) (D := D) (M := M) hLS hd (by omega) (show 0 < 21 by decide) (by decide) 21
  have z30 : (-30 : Int32).toInt = -30 := by decide
  have tv : ((-30 : Int32) + nI v).toInt = -30 + v := by rw [ia (by rw [z30, nI_toInt (by omega)]; omega) (by rw [z30, nI_toInt (by omega)]; omega), z30, nI_toInt (by omega)]
  unfold f_T_store
  rw [e1, bd_s]; dsimp only
  generalize (-30 : Int32) + nI v = p at tv ⊢
  have hx := x_store R hl (p1 := p) (by rw [tv]; omega) (by rw [tv]; omega)
  have hR := store_RR R hl (p1 := p) (by rw [tv]; omega) (by rw [tv]; omega)
  simp only [nm_v, tc0, nI_clamp (show d < 2 ^ 31 by omega), inB_nI (show d < d + 1 by omega) (show d + 1 < 2 ^ 31 by omega), inB_nI hl (show 3 < 2 ^ 31 by decide), ckt, decide_eq_true hl]
  rw [hx, eO_ok, bd_s]; dsimp only
  rw [nI_pred, if_pos rfl]
  refine ⟨_, _, _, _, rfl, d1.cong ?_ (by omega), h, _, _, by omega, hR, ?_⟩
  · simp [va_ap, up2_ap]
  · obtain ⟨t1, t2, t3, t4, t5⟩ := T
    have jk : ∀ q j, q ≠ 11 → q ≠ 5 → up2 (up2 J (5 + 6) d p) 5 6 (nI (d + 1)) q j = J q j := fun q j y1 y2 => by rw [up2_k _ _ _ _ y2, up2_k _ _ _ _ y1]
    refine ⟨t1.cong (fun q j hq => ?_) (fun q j hq => jk _ _ (by omega) (by omega)), fun q hq => (t2 q hq).cong (fun j => ?_) (fun j => jk _ _ (by omega) (by omega)) (fun j => jk _ _ (by omega) (by omega)) (by rw [up2_k _ _ _ _ (by omega), up2_k _ _ _ _ (by omega)]), t3.cong (fun q j hq => ?_) (fun q n _ _ _ => jk _ _ (by omega) (by omega)) (fun _ _ => by rw [up2_k _ _ _ _ (by decide)]) (fun _ _ => by rw [up2_k _ _ _ _ (by decide)]), fun s hs => ?_, t5.cong (fun q hq => ?_) (fun q _ => jk _ _ (by omega) (by omega))⟩
    · rw [va_ap, if_neg (by omega), up2_k _ _ _ _ (by omega), va_ap, if_neg (by omega), va_ap, if_neg (by omega), k1 _ _ (by omega)]
    · rw [va_ap, if_neg (by omega), up2_k _ _ _ _ (by omega), va_ap, if_neg (by omega), va_ap, if_neg (by omega), k1 _ _ (by omega)]
    · rw [va_ap, if_neg (by omega), up2_k _ _ _ _ (by omega), va_ap, if_neg (by omega), va_ap, if_neg (by omega), k1 _ _ (by omega)]
    · rw [va_ap, if_pos rfl]
      by_cases e : s = d
      · subst e
        rw [up2_hit, up2_hit, up2_k _ _ _ _ (by decide), up2_hit, show (5 + 7) = 12 from rfl, up2_hit]
        exact ⟨rfl, rfl⟩
      · rw [up2_n _ _ _ e, va_ap, if_pos rfl, pk_cpy_in (Nat.zero_le _) (by omega), Nat.sub_zero, Nat.zero_add, va_ap, if_neg (by decide), k1 _ _ (by decide), up2_n _ _ _ e, up2_k _ _ _ _ (by decide), show (5 + 6) = 11 from rfl, up2_n _ _ _ e, show (5 + 7) = 12 from rfl, up2_n _ _ _ e]
        exact t4 s (by omega)
    · rw [va_ap, if_neg (by omega), up2_k _ _ _ _ (by omega), va_ap, if_neg (by omega), va_ap, if_neg (by omega), k1 _ _ (by omega)]
set_option maxRecDepth 20000 in
theorem T_wash (hLS : LS < 2 ^ 31) (hT : TR a b c d N I D K M) (hN : N + 20 < 2 ^ 19) : ∃ I' D' K', f_T_wash LS xs a b c d I D K M = some (1, I', D', K') ∧ TR a b c d (N + 20) I' D' K' M := by
  obtain ⟨hd, h, J, E, hh, R, T⟩ := hT
  have ha := R.a6
  have hb := R.b5
  have hc := R.c12
  obtain ⟨i, K1, h1, e1, d1, k1⟩ := draw_k (LS := LS) (xs := xs) (a := a) (b := b) (c := c) (d := d) (I := I) (D := D) (M := M) hLS hd (by omega) (show 0 < 2 by decide) (by decide) 2
  have T1 : TK a b c d I J E K1 M := T.draws (fun k j q _ => k1 k j q)
  unfold f_T_wash
  rw [e1, bd_s]; dsimp only
  simp only [nm_v, inB_nI h1 (show 2 < 2 ^ 31 by decide), nI_clamp (show i < 2 ^ 31 by omega), ib2_4, ckt, tc2, x_wash R h1, eO_ok, bd_s]
  rw [if_pos (show I 5 i = K1 44 i from (R.1.2.2.2.2.2.1 i h1).trans (T1.2.2.2.2 i h1).symm)]
  refine ⟨_, _, _, rfl, d1.cong ?_ (by omega), h, _, _, by omega, wash_RR R h1, ?_⟩
  · simp [up2_ap]
  · obtain ⟨t1, t2, t3, t4, t5⟩ := T1
    have jk : ∀ q j, q ≠ 13 → q ≠ 0 → up2 (up2 J 13 i 0) 0 5 (up2 J 13 i 0 0 5 + 1) q j = J q j := fun q j y1 y2 => by rw [up2_k _ _ _ _ y2, up2_k _ _ _ _ y1]
    refine ⟨t1.cong (fun q j hq => ?_) (fun q j hq => jk _ _ (by omega) (by omega)), fun q hq => (t2 q hq).cong (fun j => ?_) (fun j => jk _ _ (by omega) (by omega)) (fun j => jk _ _ (by omega) (by omega)) (by rw [up2_k _ _ _ _ (by omega), up2_k _ _ _ _ (by omega)]), t3.cong (fun q j hq => ?_) (fun q n _ _ _ => jk _ _ (by omega) (by omega)) (fun _ _ => rfl) (fun _ _ => rfl), t4.cong (fun q hq => ?_) (fun q _ => jk _ _ (by omega) (by omega)) (fun _ _ => rfl) (fun _ _ => rfl), fun n hn => ?_⟩
    · rw [up2_k _ _ _ _ (by omega), up2_k _ _ _ _ (by omega)]
    · rw [up2_k _ _ _ _ (by omega), up2_k _ _ _ _ (by omega)]
    · rw [up2_k _ _ _ _ (by omega), up2_k _ _ _ _ (by omega)]
    · rw [up2_k _ _ _ _ (by omega), up2_k _ _ _ _ (by omega)]
    · rw [up2_k _ _ _ _ (by omega), up2_k _ _ _ _ (show 13 ≠ 0 by omega), up2_ap, up2_ap, t5 n hn]
      simp
/-! pass -/
def agJ (b : Nat) (x : Int32) (J : MI) : MI := fun k j => if j = 3 ∧ 20 ≤ k ∧ k < 20 + b then J k j + x else if k = 0 ∧ j = 7 then J k j + x else J k j
set_option maxRecDepth 20000 in
theorem agJ_k {q j : Nat} (h1 : ¬ (j = 3 ∧ 20 ≤ q ∧ q < 20 + b)) (h2 : ¬ (q = 0 ∧ j = 7)) : agJ b x J q j = J q j := by
  unfold agJ
  rw [if_neg h1, if_neg h2]
set_option maxRecDepth 20000 in
theorem RR.aged (R : RR x a b c d h I D J E) : RR 0 a b c d h I D (agJ b x J) E := by
  have hb := R.b5
  have hc := R.c12
  obtain ⟨⟨a1, a2, a3, a4⟩, ⟨b1, b2, b3, b4⟩, ⟨c1, c2, c3⟩, ⟨d1, d2, d3⟩, ⟨k1, k2, k3, k4⟩, r, f⟩ := R.1
  have xJ : ∀ k j, ¬ (j = 3 ∧ 20 ≤ k ∧ k < 20 + b) → ¬ (k = 0 ∧ j = 7) → agJ b x J k j = J k j := fun k j q1 q2 => agJ_k q1 q2
  refine ⟨?_, ?_, ?_, ?_, ?_, R.h20⟩
  · refine ⟨⟨a1, ?_, ?_, a4⟩, ⟨b1, ?_, ?_, b4⟩, ⟨c1, ?_, c3⟩, ⟨d1, ?_, d3⟩, ⟨?_, ?_, ?_, ?_⟩, fun n hn => ?_, f⟩
    · rw [xJ _ _ (by omega) (by omega)]; exact a2
    · rw [xJ _ _ (by omega) (by omega)]; exact a3
    · rw [xJ _ _ (by omega) (by omega)]; exact b2
    · rw [xJ _ _ (by omega) (by omega)]; exact b3
    · rw [xJ _ _ (by omega) (by omega)]; exact c2
    · rw [xJ _ _ (by omega) (by omega)]; exact d2
    · unfold agJ
      rw [if_neg (by omega), if_pos ⟨rfl, rfl⟩, Int32.add_zero]; exact k1
    · rw [xJ _ _ (by omega) (by omega)]; exact k2
    · rw [xJ _ _ (by omega) (by omega)]; exact k3
    · rw [xJ _ _ (by omega) (by omega)]; exact k4
    · rw [xJ _ _ (by omega) (by omega)]; exact r n hn
  · exact R.ing.cong R.a6 (fun _ _ _ _ => rfl) (fun j n _ _ => xJ j n (by omega) (by omega))
  · refine ⟨fun k hk => ?_, R.mix.2⟩
    obtain ⟨⟨m1, m2, m3, m4⟩, h5, h67, h8, h9, h10, h11, h12, h13, h14⟩ := R.mix.1 k hk
    have eK : agJ b x J (25 + k) = J (25 + k) := funext (fun n => xJ _ _ (by omega) (by omega))
    refine ⟨⟨?_, ?_, m3, ?_⟩, ?_, h67, ?_, ?_, h10, ?_, ?_, h13, h14⟩
    · rw [xJ _ _ (by omega) (by omega)]; exact m1
    · rw [xJ _ _ (by omega) (by omega)]; exact m2
    · unfold agJ
      rw [if_pos ⟨rfl, by omega, by omega⟩, Int32.add_zero]; exact m4
    · rw [eK]; exact h5
    · rw [eK]; exact h8
    · intro w hw
      rw [eK]
      exact (h9 w hw).trans (sF_cong 6 0 (fun i' _ hi => by rw [xJ _ _ (by omega) (by omega)]))
    · rw [eK]
      exact h11.trans (oF_cong 6 0 (fun i' _ hi => by rw [xJ _ _ (by omega) (by omega)]))
    · rw [eK]; exact h12
  · exact R.bat.cong hc (fun _ _ _ _ => rfl) (fun _ _ _ => rfl) (fun j n _ _ => xJ j n (by omega) (by omega)) (fun _ => rfl)
  · exact R.sto.cong R.d3 (fun _ _ _ => rfl) (fun _ _ _ => rfl) (fun n => xJ 11 n (by omega) (by omega)) (fun _ => rfl)
set_option maxRecDepth 20000 in
theorem th_10 (hb : b ≤ 5) (M : MD) : ∀ (m i n : Nat) (K : MI), i + m = b → m < n → ∃ K', f_T_hour_L10 b 0 d M n (nI i) K = f_T_hour_L83 0 d 200 0 K' M ∧ (∀ q j, ¬ (j = 8 ∧ 60 + i ≤ q ∧ q < 60 + b) → K' q j = K q j) ∧ ∀ k, i ≤ k → k < b → K' (60 + k) 8 = K (60 + k) 8 + 1
  | 0, i, n, K, h1, h2 => by
    obtain ⟨n, rfl⟩ : ∃ n', n = n' + 1 := ⟨n - 1, by omega⟩
    obtain rfl : i = b := by omega
    refine ⟨K, ?_, fun _ _ _ => rfl, fun k g1 g2 => absurd g1 (by omega)⟩
    rw [f_T_hour_L10, if_pos (nI_le (Nat.le_refl _) (by omega)), show f_T_hour_L45 0 d M 200 0 K = f_T_hour_L45 0 d M (199 + 1) 0 K from rfl, f_T_hour_L45, if_pos (show nI 0 ≤ 0 by decide)]
  | m + 1, i, n, K, h1, h2 => by
    obtain ⟨n, rfl⟩ : ∃ n', n = n' + 1 := ⟨n - 1, by omega⟩
    obtain ⟨K', r1, r2, r3⟩ := th_10 hb M m (i + 1) n (up2 K (60 + i) 8 (K (60 + i) 8 + 1)) (by omega) (by omega)
    refine ⟨K', ?_, fun q j hq => ?_, fun k g1 g2 => ?_⟩
    · rw [f_T_hour_L10, if_neg (nI_ge (by omega) (by omega)), inB_nI (show i < b by omega) (by omega), ckt, ib8, ckt, ckt, nm_v, nI_clamp (show i < 2 ^ 31 by omega), tc8, nI_1]
      exact r1
    · rw [r2 q j (by omega), up2_ap, if_neg (by omega)]
    · by_cases e : k = i
      · subst e
        rw [r2 _ _ (by omega), up2_hit]
      · rw [r3 k (by omega) g2, up2_k _ _ _ _ (by omega)]
set_option maxRecDepth 20000 in
theorem th_83 (hd3 : d ≤ 3) : ∀ (m i n : Nat) (K : MI) (M : MD), i + m = d → m < n → (∀ s, i ≤ s → s < d → -30 ≤ (K 46 s).toInt ∧ (K 46 s).toInt ≤ -10 ∧ rg (-1040) 256 (M 43 s)) → ∃ M', f_T_hour_L83 0 d n (nI i) K M = some (up2 K 45 0 (K 45 0 + 1), M') ∧ (∀ q j, ¬ (q = 43 ∧ i ≤ j ∧ j < d) → M' q j = M q j) ∧ ∀ s, i ≤ s → s < d → M' 43 s = fH (K 46 s) (M 43 s)
  | 0, i, n, K, M, h1, h2, hs => by
    obtain ⟨n, rfl⟩ : ∃ n', n = n' + 1 := ⟨n - 1, by omega⟩
    obtain rfl : i = d := by omega
    refine ⟨M, ?_, fun _ _ _ => rfl, fun k g1 g2 => absurd g1 (by omega)⟩
    rw [f_T_hour_L83, if_pos (nI_le (Nat.le_refl _) (by omega)), ib0_4, ckt, ckt, nm_v, tc0]
  | m + 1, i, n, K, M, h1, h2, hs => by
    obtain ⟨n, rfl⟩ : ∃ n', n = n' + 1 := ⟨n - 1, by omega⟩
    obtain ⟨s1, s2, s3⟩ := hs i (Nat.le_refl _) (by omega)
    obtain ⟨f1, f2, f3⟩ := fH_all s1 s2 s3
    obtain ⟨M', r1, r2, r3⟩ := th_83 hd3 m (i + 1) n K (up2 M 43 i (fH (K 46 i) (M 43 i))) (by omega) (by omega) (fun s g1 g2 => by
      rw [up2_n _ _ _ (by omega)]
      exact hs s (by omega) g2)
    refine ⟨M', ?_, fun q j hq => ?_, fun s g1 g2 => ?_⟩
    · have f3' : okD (FP.dadd (M 43 i) (FP.dmul (FP.dsub (FP.i2d (K 46 i)) (M 43 i)) (4598175219545276416 : UInt64))) = true := f3.okD
      rw [f_T_hour_L83, if_neg (nI_ge (by omega) (by omega)), inB_nI (show i < 3 by omega) (by decide), ckt, ckt, inB_nI (show i < d by omega) (by omega), ckt, nI_clamp (show i < 2 ^ 31 by omega), f1.okD, ckt, f2.okD, ckt, f3', ckt, ckt, nm_v]
      rw [show f_T_hour_L124 (f_T_hour_L83 0 d n) 0 (nI i) 200 0 = f_T_hour_L124 (f_T_hour_L83 0 d n) 0 (nI i) (199 + 1) 0 from rfl, f_T_hour_L124, if_pos (show nI 0 ≤ 0 by decide), nI_1]
      exact r1
    · rw [r2 q j (by omega), up2_ap, if_neg (by omega)]
    · by_cases e : s = i
      · subst e
        rw [r2 _ _ (by omega), up2_hit]
      · rw [r3 s (by omega) g2, up2_n _ _ _ e]
set_option maxRecDepth 20000 in
theorem T_passL (hN1 : N < 100) (P : Option (Except String (Int32 × MI × MD))) : ∀ (m i n q h : Nat) (I : MI) (D : MD) (J : MI) (E : MD) (K : MI) (M : MD) (N9 : Nat), i + m = N → m < n → m < q → h + m < 2 ^ 20 → RR (nI i) a b 0 d h I D J E → TK a b 0 d I (agJ b (nI i) J) E K M → DR K N9 → P = f_X4_pass_L9 (nI N) q (nI i) I D →
    ∀ (I0 : MI) (D0 : MD), P = f_X4_pass I0 D0 (nI N) → ∃ I' D' K' M', f_T_pass_L2 LS xs a b 0 d I0 D0 (nI N) n (nI i) K M = some (1, I', D', K', M') ∧ DR K' N9 ∧ ∃ J' E', RR 0 a b 0 d (h + m) I' D' J' E' ∧ TK a b 0 d I' J' E' K' M'
  | 0, i, n, q, h, I, D, J, E, K, M, N9, h1, h2, h3, h4, R, T, hd, hP, I0, D0, hP0 => by
    obtain ⟨n, rfl⟩ : ∃ n', n = n' + 1 := ⟨n - 1, by omega⟩
    obtain ⟨q, rfl⟩ : ∃ q', q = q' + 1 := ⟨q - 1, by omega⟩
    obtain rfl : i = N := by omega
    have hP2 : f_X4_pass I0 D0 (nI i) = some (.ok (0, I, D)) := by
      rw [← hP0, hP, f_X4_pass_L9, if_pos (nI_le (Nat.le_refl _) (by omega)), R.cntC, bd_s]
      rfl
    refine ⟨I, D, K, M, ?_, hd, _, E, R.aged, T⟩
    rw [f_T_pass_L2, if_pos (nI_le (Nat.le_refl _) (by omega)), hP2, eO_ok, bd_s]
    dsimp only
    rw [tin_ok 11 (by omega), bd_s]
    rfl
  | m + 1, i, n, q, h, I, D, J, E, K, M, N9, h1, h2, h3, h4, R, T, hd, hP, I0, D0, hP0 => by
    obtain ⟨n, rfl⟩ : ∃ n', n = n' + 1 := ⟨n - 1, by omega⟩
    obtain ⟨q, rfl⟩ : ∃ q', q = q' + 1 := ⟨q - 1, by omega⟩
    have ha := R.a6
    have hb := R.b5
    have hd3 := R.d3
    obtain ⟨I1, D1, J1, E1, o1, o2, o3, xJ, xE, p4, o4, o5, o6, o7⟩ := RR_hourX R (by omega)
    rw [nI_1] at o3
    obtain ⟨t1, t2, t3, t4, t5⟩ := T
    obtain ⟨K1, r1, r2, r3⟩ := th_10 (d := d) hb M b 0 200 K (by omega) (by omega)
    have es : ∀ s, s < d → K1 46 s = I (30 + s) 0 ∧ M 43 s = E 12 s ∧ K1 46 s = J 11 s ∧ E 12 s = D (30 + s) 1 := fun s hs => by
      obtain ⟨q1, q2⟩ := t4 s hs
      obtain ⟨w1, w2, -⟩ := R.sto s hs
      rw [agJ_k (by omega) (by omega)] at q1
      rw [r2 _ _ (by omega)]
      exact ⟨q1.trans w1, q2, q1, w2⟩
    obtain ⟨M1, s1, s2, s3⟩ := th_83 hd3 d 0 200 K1 M (by omega) (by omega) (fun s _ hs => by
      obtain ⟨w1, w2, w3, w4, w5⟩ := R.sto s hs
      obtain ⟨y1, y2, y3, y4⟩ := es s hs
      rw [y1, y2, y4]
      exact ⟨w3, w4, w5⟩)
    have hh : f_T_hour LS xs a b 0 d I0 D0 K M = some (up2 K1 45 0 (K1 45 0 + 1), M1) := by
      unfold f_T_hour
      exact r1.trans s1
    have T1 : TK a b 0 d I1 (agJ b (nI (i + 1)) J1) E1 (up2 K1 45 0 (K1 45 0 + 1)) M1 := by
      have jj : ∀ q j, q ≠ 9 → q ≠ 0 → ¬ (j = 3 ∧ 20 ≤ q ∧ q < 20 + b) → agJ b (nI (i + 1)) J1 q j = agJ b (nI i) J q j := fun q j y0 y1 y2 => by
        rw [agJ_k y2 (by omega), agJ_k y2 (by omega), xJ q j y0]
      refine ⟨t1.cong (fun q j hq => by rw [up2_k _ _ _ _ (by omega), r2 _ _ (by omega)]) (fun q j hq => jj _ _ (by omega) (by omega) (by omega)), fun k hk => ?_, fun j hj => absurd hj (by omega), fun s hs => ?_, t5.cong (fun n hn => by rw [up2_k _ _ _ _ (by omega), r2 _ _ (by omega)]) (fun n hn => jj _ _ (by omega) (by omega) (by omega))⟩
      · obtain ⟨m1, m2, m3, m4, m5⟩ := t2 k hk
        have kk : ∀ j, j ≠ 8 → up2 K1 45 0 (K1 45 0 + 1) (60 + k) j = K (60 + k) j := fun j hj => by rw [up2_k _ _ _ _ (by omega), r2 _ _ (by omega)]
        refine ⟨fun j hj => ?_, ?_, ?_, ?_, ?_⟩
        · rw [kk j (by omega), jj _ _ (by omega) (by omega) (by omega)]; exact m1 j hj
        · rw [kk 6 (by omega), jj _ _ (by omega) (by omega) (by omega)]; exact m2
        · rw [kk 7 (by omega), jj _ _ (by omega) (by omega) (by omega)]; exact m3
        · rw [up2_k _ _ _ _ (by omega), r3 k (Nat.zero_le _) hk, m4]
          unfold agJ
          rw [if_pos ⟨rfl, by omega, by omega⟩, if_pos ⟨rfl, by omega, by omega⟩, xJ _ _ (by omega), ← nI_1, Int32.add_assoc]
        · rw [kk 9 (by omega), o4 _ _ (by omega) (by omega) (by omega)]; exact m5
      · obtain ⟨y1, y2, y3, y4⟩ := es s hs
        rw [up2_k _ _ _ _ (by omega), agJ_k (by omega) (by omega), xJ _ _ (by omega), s3 s (Nat.zero_le _) hs, p4 s hs, y2, y3]
        exact ⟨rfl, rfl⟩
    have hd1 : DR (up2 K1 45 0 (K1 45 0 + 1)) N9 := hd.cong (by rw [up2_k _ _ _ _ (by decide), r2 _ _ (by omega)]) (Nat.le_refl _)
    obtain ⟨I', D', K', M', z1, z2, J', E', z3, z4⟩ := T_passL hN1 P m (i + 1) n q (h + 1) I1 D1 J1 E1 _ M1 N9 (by omega) (by omega) (by omega) (by omega) o3 T1 hd1 (by
      rw [hP, f_X4_pass_L9, if_neg (nI_ge (by omega) (by omega)), o1, bd_s, nI_1]) I0 D0 hP0
    refine ⟨I', D', K', M', ?_, z2, J', E', by rw [show h + (m + 1) = h + 1 + m by omega]; exact z3, z4⟩
    rw [f_T_pass_L2, if_neg (nI_ge (by omega) (by omega)), hh, bd_s, nI_1]
    exact z1
set_option maxRecDepth 20000 in
theorem T_pass (hT : TR a b 0 d N I D K M) (hN : N + 100 < 2 ^ 19) {n : Nat} (h1 : 1 ≤ n) (h2 : n ≤ 48) : ∃ I' D' K' M', f_T_pass LS xs a b 0 d I D K M (nI n) = some (1, I', D', K', M') ∧ TR a b 0 d (N + 100) I' D' K' M' := by
  obtain ⟨hd, h, J, E, hh, R, T⟩ := hT
  have e0 : agJ b (nI 0) J = J := by
    funext q j
    unfold agJ
    rw [show nI 0 = 0 from rfl, Int32.add_zero]
    simp
  obtain ⟨I', D', K', M', z1, z2, J', E', z3, z4⟩ := T_passL (LS := LS) (xs := xs) (N := n) (by omega) (f_X4_pass_L9 (nI n) 200 (nI 0) I D) n 0 200 200 h I D J E K M N (by omega) (by omega) (by omega) (by omega) R (by rw [e0]; exact T) hd rfl I D (by
    unfold f_X4_pass
    rw [crk (by rw [show (1 : Int32).toInt = 1 by decide, nI_toInt (by omega)]; omega) (by rw [show (48 : Int32).toInt = 48 by decide, nI_toInt (by omega)]; omega), bE_o]
    rfl)
  exact ⟨I', D', K', M', z1, z2.cong rfl (by omega), h + n, J', E', by omega, z3, z4⟩
end TLC
