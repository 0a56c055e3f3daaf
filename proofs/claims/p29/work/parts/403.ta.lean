/-! ===== the teller's calls: ingredient, put, heat ===== -/
section TLA
set_option maxRecDepth 20000 in
theorem eO_ok {α : Type} (v : α) : eO (some (Except.ok v)) = some v := rfl
set_option maxRecDepth 20000 in
theorem va_ap {α : Type} (I : Nat → Nat → α) (k : Nat) (f : Nat → α) (j m : Nat) : va_up I k f j m = if j = k then f m else I j m := by
  by_cases h : j = k
  · rw [h, va_up_self, if_pos rfl]
  · rw [va_up_ne _ _ h, if_neg h]
set_option maxRecDepth 20000 in
theorem tc0 : (0 : Int32).toNatClampNeg = 0 := by decide
set_option maxRecDepth 20000 in
theorem tc1 : (1 : Int32).toNatClampNeg = 1 := by decide
set_option maxRecDepth 20000 in
theorem tc2 : (2 : Int32).toNatClampNeg = 2 := by decide
set_option maxRecDepth 20000 in
theorem tc3 : (3 : Int32).toNatClampNeg = 3 := by decide
set_option maxRecDepth 20000 in
theorem tc4 : (4 : Int32).toNatClampNeg = 4 := by decide
set_option maxRecDepth 20000 in
theorem tc6 : (6 : Int32).toNatClampNeg = 6 := by decide
set_option maxRecDepth 20000 in
theorem tc7 : (7 : Int32).toNatClampNeg = 7 := by decide
set_option maxRecDepth 20000 in
theorem tc8 : (8 : Int32).toNatClampNeg = 8 := by decide
set_option maxRecDepth 20000 in
theorem tc9 : (9 : Int32).toNatClampNeg = 9 := by decide
set_option maxRecDepth 20000 in
theorem ib0_5 : inB 0 5 = true := by decide
set_option maxRecDepth 20000 in
theorem ib1_5 : inB 1 5 = true := by decide
set_option maxRecDepth 20000 in
theorem ib2_5 : inB 2 5 = true := by decide
set_option maxRecDepth 20000 in
theorem ib3_5 : inB 3 5 = true := by decide
set_option maxRecDepth 20000 in
theorem ib4_5 : inB 4 5 = true := by decide
set_option maxRecDepth 20000 in
theorem ib0_4 : inB 0 4 = true := by decide
set_option maxRecDepth 20000 in
theorem ib1_4 : inB 1 4 = true := by decide
set_option maxRecDepth 20000 in
theorem ib2_4 : inB 2 4 = true := by decide
set_option maxRecDepth 20000 in
theorem ib3_4 : inB 3 4 = true := by decide
set_option maxRecDepth 20000 in
theorem ib6 : inB 6 10 = true := by decide
set_option maxRecDepth 20000 in
theorem ib7 : inB 7 10 = true := by decide
set_option maxRecDepth 20000 in
theorem ib8 : inB 8 10 = true := by decide
set_option maxRecDepth 20000 in
theorem ib9 : inB 9 10 = true := by decide
variable {LS : Nat} {xs : Nat → Int32} {a b c d N : Nat} {I J I' J' K K' : MI} {D E M E' M' : MD}
set_option maxRecDepth 20000 in
theorem draw_k (hLS : LS < 2 ^ 31) {n : Nat} (h : DR K N) (hN : N < 2 ^ 19) (h0 : 0 < n) (hn : n < 2 ^ 31) (lit : Int32) (hl : nI n = lit := by rfl) : ∃ v K', v < n ∧ f_T_draw LS xs a b c d I D K M lit = some (nI v, K') ∧ DR K' (N + 1) ∧ ∀ k j, k ≠ 40 → K' k j = K k j := by
  subst hl
  obtain ⟨v, K', h1, h2, h3, h4⟩ := draw_ok (LS := LS) (xs := xs) (a := a) (b := b) (c := c) (d := d) (I := I) (D := D) (M := M) hLS h (by omega) h0 hn
  exact ⟨v, K', h1, h2, h3, fun k j q => h4 k j (by omega)⟩
set_option maxRecDepth 20000 in
theorem TKi.cong (h : TKi a J K) (hK : ∀ i j, i < a → K' (50 + i) j = K (50 + i) j) (hJ : ∀ i j, i < a → J' (14 + i) j = J (14 + i) j) : TKi a J' K' := fun i hi j hj => by
  rw [hK i j hi, hJ i j hi]; exact h i hi j hj
set_option maxRecDepth 20000 in
theorem TKm1.cong {k : Nat} (h : TKm1 k I J K) (hK : ∀ j, K' (60 + k) j = K (60 + k) j) (hJ : ∀ j, J' (20 + k) j = J (20 + k) j) (hL : ∀ j, J' (25 + k) j = J (25 + k) j) (hI : I' (13 + k) 9 = I (13 + k) 9) : TKm1 k I' J' K' := by
  unfold TKm1 at h ⊢
  simp only [hK, hJ, hL, hI]
  exact h
set_option maxRecDepth 20000 in
theorem TKb.cong (h : TKb c J K E M) (hK : ∀ j n, j < c → K' (70 + j) n = K (70 + j) n) (hJ : ∀ q n, 6 ≤ q → q < 10 → n < c → J' q n = J q n) (hM : ∀ n, n < c → M' 42 n = M 42 n) (hE : ∀ n, n < c → E' 10 n = E 10 n) : TKb c J' K' E' M' := fun j hj => by
  have q := h j hj
  unfold TKb1 at q ⊢
  rw [hK j _ hj, hK j _ hj, hK j _ hj, hK j _ hj, hJ 6 j (by decide) (by decide) hj, hJ 7 j (by decide) (by decide) hj, hJ 8 j (by decide) (by decide) hj, hJ 9 j (by decide) (by decide) hj, hM j hj, hE j hj]
  exact q
set_option maxRecDepth 20000 in
theorem TKs.cong (h : TKs d J K E M) (hK : ∀ s, s < d → K' 46 s = K 46 s) (hJ : ∀ s, s < d → J' 11 s = J 11 s) (hM : ∀ s, s < d → M' 43 s = M 43 s) (hE : ∀ s, s < d → E' 12 s = E 12 s) : TKs d J' K' E' M' := fun s hs => by
  rw [hK s hs, hJ s hs, hM s hs, hE s hs]; exact h s hs
set_option maxRecDepth 20000 in
theorem TKr.cong (h : TKr J K) (hK : ∀ n, n < 2 → K' 44 n = K 44 n) (hJ : ∀ n, n < 2 → J' 13 n = J 13 n) : TKr J' K' := fun n hn => by
  rw [hK n hn, hJ n hn]; exact h n hn
/- only the draws and the row in the making -/
set_option maxRecDepth 20000 in
theorem TK.draws (T : TK a b c d I J E K M) (hk : ∀ k j, k ≠ 40 → k ≠ 34 → K' k j = K k j) : TK a b c d I J E K' M := T.cong (fun k j q => hk k j (by omega) (by omega))
set_option maxRecDepth 20000 in
theorem TR_ing (hd : DR K' (N + 10)) (R : ∃ h J E, h ≤ N ∧ RR 0 a b c d h I D J E ∧ TK a b c d I J E K M) (hl : a < 6) {p1 p2 p3 p4 p5 : Int32} (v1 : 0 ≤ p1.toInt) (v2 : 0 ≤ p2.toInt) (v3 : 0 ≤ p3.toInt) (v4 : p1.toInt + p2.toInt + p3.toInt ≤ 1000)
    (hk : ∀ k j, k ≠ 40 → k ≠ 34 → k ≠ 50 + a → K' k j = K k j) (hr : K' (50 + a) 0 = p1 ∧ K' (50 + a) 1 = p2 ∧ K' (50 + a) 2 = p3 ∧ K' (50 + a) 3 = p4 ∧ K' (50 + a) 4 = p5) : TR (a + 1) b c d (N + 10) (inI I a p1 p2 p3 p4 p5) D K' M := by
  obtain ⟨h, J, E, hh, R, t1, t2, t3, t4, t5⟩ := R
  have hb := R.b5
  have hc := R.c12
  refine ⟨hd, h, _, E, by omega, in_RR R hl v1 v2 v3 v4, ?_, ?_, ?_, ?_, ?_⟩
  · intro i hi j hj
    by_cases e : i = a
    · subst e
      rw [upR_hit]
      obtain ⟨r0, r1, r2, r3, r4⟩ := hr
      have : j = 0 ∨ j = 1 ∨ j = 2 ∨ j = 3 ∨ j = 4 := by omega
      rcases this with rfl | rfl | rfl | rfl | rfl
      · exact r0
      · exact r1
      · exact r2
      · exact r3
      · exact r4
    · rw [upR_k _ _ (by omega), addI_k (by omega), hk _ _ (by omega) (by omega) (by omega)]
      exact t1 i (by omega) j hj
  · intro k hkb
    refine (t2 k hkb).cong (fun j => hk _ _ (by omega) (by omega) (by omega)) (fun j => ?_) (fun j => ?_) ?_
    · rw [upR_k _ _ (by omega), addI_k (by omega)]
    · rw [upR_k _ _ (by omega), addI_k (by omega)]
    · unfold inI
      rw [up2_k _ _ _ _ (by omega), up2_k _ _ _ _ (by omega), up2_k _ _ _ _ (by omega), up2_k _ _ _ _ (by omega), up2_k _ _ _ _ (by omega), up2_k _ _ _ _ (by omega)]
  · exact t3.cong (fun j n _ => hk _ _ (by omega) (by omega) (by omega)) (fun q n _ _ _ => by rw [upR_k _ _ (by omega), addI_k (by omega)]) (fun _ _ => rfl) (fun _ _ => rfl)
  · exact t4.cong (fun s _ => hk _ _ (by omega) (by omega) (by omega)) (fun s _ => by rw [upR_k _ _ (by omega), addI_k (by omega)]) (fun _ _ => rfl) (fun _ _ => rfl)
  · exact t5.cong (fun s _ => hk _ _ (by omega) (by omega) (by omega)) (fun s _ => by rw [upR_k _ _ (by omega), addI_k (by omega)])
set_option maxRecDepth 20000 in
theorem T_ingJ (hLS : LS < 2 ^ 31) (hd : DR K N) (R : ∃ h J E, h ≤ N ∧ RR 0 a b c d h I D J E ∧ TK a b c d I J E K M) (hN : N + 10 < 2 ^ 19) (hl : a < 6) (z : Nat) (hz : z < 300) : ∃ I' D' K', f_T_ingredient_J19 LS xs a b c d I D M (nI z) K = some (1, a + 1, b, c, d, I', D', K') ∧ TR (a + 1) b c d (N + 10) I' D' K' M := by
  obtain ⟨v1, K1, h1, e1, d1, k1⟩ := draw_k (LS := LS) (xs := xs) (a := a) (b := b) (c := c) (d := d) (I := I) (D := D) (M := M) hLS hd (by omega) (show 0 < 200 by decide) (by decide) 200
  obtain ⟨v2, K2, h2, e2, d2, k2⟩ := draw_k (LS := LS) (xs := xs) (a := a) (b := b) (c := c) (d := d) (I := I) (D := D) (M := M) hLS d1 (by omega) (show 0 < 2 by decide) (by decide) 2
  obtain ⟨v3, K3, h3, e3, d3, k3⟩ := draw_k (LS := LS) (xs := xs) (a := a) (b := b) (c := c) (d := d) (I := I) (D := D) (M := M) hLS d2 (by omega) (show 0 < 400 by decide) (by decide) 400
  obtain ⟨v4, K4, h4, e4, d4, k4⟩ := draw_k (LS := LS) (xs := xs) (a := a) (b := b) (c := c) (d := d) (I := I) (D := D) (M := M) hLS d3 (by omega) (show 0 < 30 by decide) (by decide) 30
  obtain ⟨v5, K5, h5, e5, d5, k5⟩ := draw_k (LS := LS) (xs := xs) (a := a) (b := b) (c := c) (d := d) (I := I) (D := D) (M := M) hLS d4 (by omega) (show 0 < 16 by decide) (by decide) 16
  have hm : v2 * v3 ≤ 1 * 399 := Nat.mul_le_mul (by omega) (by omega)
  unfold f_T_ingredient_J19
  rw [e1, bd_s]; dsimp only
  rw [e2, bd_s]; dsimp only
  rw [e3, bd_s]; dsimp only
  rw [e4, bd_s]; dsimp only
  rw [e5, bd_s]; dsimp only
  rw [pk_mul, show (1 : Int32) + nI v4 = nI (1 + v4) from nI_add 1 v4]
  obtain ⟨h, J, E, hh, R, T⟩ := R
  have tz {n : Nat} (hn : n < 2 ^ 31) : (nI n).toInt = (n : Int) := nI_toInt hn
  have hx := x_ing R hl (p1 := nI z) (p2 := nI v1) (p3 := nI (v2 * v3)) (p4 := nI (1 + v4)) (p5 := nI v5) (by rw [tz (by omega)]; omega) (by rw [tz (by omega)]; omega) (by rw [tz (by omega)]; omega) (by rw [tz (by omega), tz (by omega), tz (by omega)]; omega) (by rw [tz (by omega)]; omega) (by rw [tz (by omega)]; omega) (by rw [tz (by omega)]; omega) (by rw [tz (by omega)]; omega)
  simp only [nm_v, tc0, tc1, tc2, tc3, tc4, ib0_5, ib1_5, ib2_5, ib3_5, ib4_5, ckt, decide_eq_true hl, hx, eO_ok, bd_s, nI_pred, if_true]
  refine ⟨_, _, _, rfl, TR_ing (N := N) ?_ ⟨h, J, E, hh, R, T⟩ hl (by rw [tz (by omega)]; omega) (by rw [tz (by omega)]; omega) (by rw [tz (by omega)]; omega) (by rw [tz (by omega), tz (by omega), tz (by omega)]; omega) (fun k j q1 q2 q3 => ?_) ?_⟩
  · refine d5.cong ?_ (by omega)
    have q3 : ¬ 40 = 50 + a := by omega
    simp [va_ap, up2_ap, q3]
  · simp only [va_ap, up2_ap, q2, q3, if_false, false_and]
    rw [k5 k j q1, k4 k j q1, k3 k j q1, k2 k j q1, k1 k j q1]
  · simp [va_ap, up2_ap]
set_option maxRecDepth 20000 in
theorem T_ing (hLS : LS < 2 ^ 31) (hT : TR a b c d N I D K M) (hN : N + 20 < 2 ^ 19) (hl : a < 6) : ∃ I' D' K', f_T_ingredient LS xs a b c d I D K M = some (1, a + 1, b, c, d, I', D', K') ∧ TR (a + 1) b c d (N + 20) I' D' K' M := by
  obtain ⟨hd, h, J, E, hh, R, T⟩ := hT
  obtain ⟨v1, K1, h1, e1, d1, k1⟩ := draw_k (LS := LS) (xs := xs) (a := a) (b := b) (c := c) (d := d) (I := I) (D := D) (M := M) hLS hd (by omega) (show 0 < 3 by decide) (by decide) 3
  have mono : ∀ {N1 : Nat} {I' : MI} {D' : MD} {K' : MI}, N1 ≤ N + 20 → TR (a + 1) b c d N1 I' D' K' M → TR (a + 1) b c d (N + 20) I' D' K' M := fun hle ht => by
    obtain ⟨s1, h', s2, s3, s4, s5⟩ := ht
    exact ⟨s1.cong rfl hle, h', s2, s3, by omega, s5⟩
  unfold f_T_ingredient
  rw [e1, bd_s]; dsimp only
  by_cases e0 : nI v1 = 0
  · rw [if_pos e0]
    obtain ⟨I', D', K', r1, r2⟩ := T_ingJ (xs := xs) hLS (N := N + 1) d1 ⟨h, J, E, by omega, R, T.draws (fun k j q _ => k1 k j q)⟩ (by omega) hl 0 (by decide)
    exact ⟨I', D', K', r1, mono (by omega) r2⟩
  · rw [if_neg e0]
    obtain ⟨v2, K2, h2, e2, d2, k2⟩ := draw_k (LS := LS) (xs := xs) (a := a) (b := b) (c := c) (d := d) (I := I) (D := D) (M := M) hLS d1 (by omega) (show 0 < 300 by decide) (by decide) 300
    rw [e2, bd_s]; dsimp only
    obtain ⟨I', D', K', r1, r2⟩ := T_ingJ (xs := xs) hLS (N := N + 2) d2 ⟨h, J, E, by omega, R, T.draws (fun k j q _ => (k2 k j q).trans (k1 k j q))⟩ (by omega) hl v2 h2
    exact ⟨I', D', K', r1, mono (by omega) r2⟩
set_option maxRecDepth 20000 in
theorem TR.mono {N' : Nat} (h : TR a b c d N I D K M) (hn : N ≤ N') : TR a b c d N' I D K M := by
  obtain ⟨s1, h', s2, s3, s4, s5⟩ := h
  exact ⟨s1.cong rfl hn, h', s2, s3, by omega, s5⟩
/-! put -/
set_option maxRecDepth 20000 in
theorem T_put (hLS : LS < 2 ^ 31) (hT : TR a b c d N I D K M) (hN : N + 20 < 2 ^ 19) (ha0 : 0 < a) {k : Nat} (hk : k < b) : ∃ I' D' K', f_T_put LS xs a b c d I D K M (nI k) = some (1, I', D', K') ∧ TR a b c d (N + 20) I' D' K' M := by
  obtain ⟨hd, h, J, E, hh, R, T⟩ := hT
  have ha := R.a6
  have hb := R.b5
  have hc := R.c12
  obtain ⟨i, K1, h1, e1, d1, k1⟩ := draw_k (LS := LS) (xs := xs) (a := a) (b := b) (c := c) (d := d) (I := I) (D := D) (M := M) hLS hd (by omega) ha0 (by omega) (nI a)
  obtain ⟨w, K2, h2, e2, d2, k2⟩ := draw_k (LS := LS) (xs := xs) (a := a) (b := b) (c := c) (d := d) (I := I) (D := D) (M := M) hLS d1 (by omega) (show 0 < 80 by decide) (by decide) 80
  have T2 : TK a b c d I J E K2 M := T.draws (fun k j q _ => (k2 k j q).trans (k1 k j q))
  have hz : ∀ i, a ≤ i → i < 6 → J (25 + k) i = 0 := fun i g1 g2 => ((R.mix.1 k hk).2.1 i g2).2.2 g1
  have hall := tsum_a (LS := LS) (xs := xs) (c := c) (d := d) (I := I) (D := D) (M := M) k hk hb ha (T2.2.1 k hk).1 hz
  rw [← (R.mix.1 k hk).2.2.2.1] at hall
  have same : TR a b c d (N + 20) I D K2 M := ⟨d2.cong rfl (by omega), h, J, E, by omega, R, T2⟩
  unfold f_T_put
  rw [e1, bd_s]; dsimp only
  rw [e2, bd_s]; dsimp only
  rw [inB_nI hk (by omega), ckt, hall, bd_s, show (1 : Int32) + nI w = nI (1 + w) from nI_add 1 w]
  by_cases c1 : 500 < I (13 + k) 0 + nI (1 + w)
  · rw [if_pos c1]
    exact ⟨_, _, _, rfl, same⟩
  · have e9 : K2 (60 + k) 9 = I (13 + k) 9 := (T2.2.1 k hk).2.2.2.2
    rw [if_neg c1, ib9, ckt, tc9, nI_clamp (show k < 2 ^ 31 by omega)]
    by_cases c2 : I (13 + k) 9 ≤ 0
    · rw [if_pos (show K2 (60 + k) 9 ≤ 0 by rw [e9]; exact c2)]
      have w1 : 1 ≤ (nI (1 + w)).toInt := by rw [nI_toInt (by omega)]; omega
      have w2 : (nI (1 + w)).toInt ≤ 500 := by rw [nI_toInt (by omega)]; omega
      obtain ⟨x1, x2⟩ := x_put R hk h1 w1 w2 c1 c2
      have T' : ∀ Kf : MI, (∀ q j, ¬ (q = 60 + k) → Kf q j = K2 q j) → (∀ j, Kf (60 + k) j = if j = 7 then 0 else if j = 6 then K2 (60 + k) 6 + nI (1 + w) else if j = i then K2 (60 + k) i + nI (1 + w) else K2 (60 + k) j) → TK a b c d (aI I k i (nI (1 + w))) (pJ J k i (nI (1 + w))) E Kf M := by
        intro Kf g1 g2
        obtain ⟨t1, t2, t3, t4, t5⟩ := T2
        refine ⟨t1.cong (fun q j hq => g1 _ _ (by omega)) (fun q j hq => pJ_k (by omega) (by omega)), fun q hq => ?_, t3.cong (fun q j hq => g1 _ _ (by omega)) (fun q n _ _ _ => pJ_k (by omega) (by omega)) (fun _ _ => rfl) (fun _ _ => rfl), t4.cong (fun q hq => g1 _ _ (by omega)) (fun q _ => pJ_k (by omega) (by omega)) (fun _ _ => rfl) (fun _ _ => rfl), t5.cong (fun q hq => g1 _ _ (by omega)) (fun q _ => pJ_k (by omega) (by omega))⟩
        by_cases e : q = k
        · subst e
          obtain ⟨m1, m2, m3, m4, m5⟩ := t2 q hq
          refine ⟨fun j hj => ?_, ?_, ?_, ?_, ?_⟩
          · rw [g2, if_neg (by omega), if_neg (by omega)]
            unfold pJ
            rw [up2_k _ _ _ _ (by omega), up2_k _ _ _ _ (by omega), up2_ap]
            by_cases ej : j = i
            · subst ej
              rw [if_pos rfl, if_pos ⟨rfl, rfl⟩, m1 j hj]
            · rw [if_neg ej, if_neg (fun y => ej y.2), m1 j hj]
          · rw [g2, if_neg (by decide), if_pos rfl, m2]
            unfold pJ
            rw [up2_n _ _ _ (by decide), up2_hit]
          · rw [g2, if_pos rfl]
            unfold pJ
            rw [up2_hit]
          · rw [g2, if_neg (by decide), if_neg (by decide), if_neg (by omega), m4]
            unfold pJ
            rw [up2_n _ _ _ (by decide), up2_n _ _ _ (by decide), up2_k _ _ _ _ (by omega)]
          · rw [g2, if_neg (by decide), if_neg (by decide), if_neg (by omega), m5, aI_8 (by decide) (by decide)]
        · exact (t2 q hq).cong (fun j => g1 _ _ (by omega)) (fun j => pJ_k (by omega) (by omega)) (fun j => pJ_k (by omega) (by omega)) (aI_k (by omega))
      rw [inB_nI (show i < 10 by omega) (by decide), ckt, ckt, nI_clamp (show i < 2 ^ 31 by omega)]
      simp only [nm_v, ib6, ib7, ckt, tc6, tc7, x1, eO_ok, bd_s]
      have u6 : up2 K2 (60 + k) i (K2 (60 + k) i + nI (1 + w)) (60 + k) 6 = K2 (60 + k) 6 := up2_n _ _ _ (by omega)
      rw [u6]
      have T3 := T' (up2 (up2 (up2 K2 (60 + k) i (K2 (60 + k) i + nI (1 + w))) (60 + k) 6 (K2 (60 + k) 6 + nI (1 + w))) (60 + k) 7 0) (fun q j hq => by rw [up2_k _ _ _ _ hq, up2_k _ _ _ _ hq, up2_k _ _ _ _ hq]) (fun j => by
        rw [up2_ap, up2_ap, up2_ap]
        simp)
      have hall2 := tsum_a (LS := LS) (xs := xs) (c := c) (d := d) (I := aI I k i (nI (1 + w))) (D := aD I D k i (nI (1 + w))) (M := M) k hk hb ha (T3.2.1 k hk).1 (fun i g1 g2 => ((x2.mix.1 k hk).2.1 i g2).2.2 g1)
      rw [← (x2.mix.1 k hk).2.2.2.1, aI_0] at hall2
      rw [hall2, bd_s, if_pos rfl]
      exact ⟨_, _, _, rfl, d2.cong (by rw [up2_k _ _ _ _ (by omega), up2_k _ _ _ _ (by omega), up2_k _ _ _ _ (by omega)]) (by omega), h, _, E, by omega, x2, T3⟩
    · rw [if_neg (show ¬ K2 (60 + k) 9 ≤ 0 by rw [e9]; exact c2)]
      exact ⟨_, _, _, rfl, same⟩
end TLA
