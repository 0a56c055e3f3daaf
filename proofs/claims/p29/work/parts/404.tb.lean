/-! ===== the teller's calls: heat, mix, store, wash ===== -/
section TLB
variable {LS : Nat} {xs : Nat → Int32} {a b c d N h : Nat} {I J I' J' K K' : MI} {D E M E' M' : MD}
set_option maxRecDepth 20000 in
theorem heat_J33 (p1 r1 z : Int32) (KK : MI) (p2 : Int32) (hp : 60 + r1 = p2) : f_T_heat_J33 b I D p1 r1 z KK = f_T_heat_J89 b I D p1 r1 z KK (prV p2 z) := by
  unfold f_T_heat_J33
  rw [hp]
  have z80 : (80 : Int32).toInt = 80 := by decide
  have z75 : (75 : Int32).toInt = 75 := by decide
  have z70 : (70 : Int32).toInt = 70 := by decide
  have z65 : (65 : Int32).toInt = 65 := by decide
  have z15 : (15 : Int32).toInt = 15 := by decide
  have zA : (60 : Int32).toInt = 60 := by decide
  have zB : (300 : Int32).toInt = 300 := by decide
  have zC : (1800 : Int32).toInt = 1800 := by decide
  have hv : ∀ v w : Int32, v = w → f_T_heat_J89 b I D p1 r1 z KK v = f_T_heat_J89 b I D p1 r1 z KK w := fun v w e => by rw [e]
  unfold prV
  simp only [ltI, leI, z80, z75, z70, z65, z15, zA, zB, zC]
  by_cases q1 : p2.toInt < 65
  · simp only [if_pos q1, if_pos (show p2.toInt < 70 by omega), if_pos (show p2.toInt < 75 by omega), if_pos (show p2.toInt < 80 by omega)]
  · by_cases q2 : p2.toInt < 70
    · simp only [if_neg q1, if_pos q2, if_pos (show p2.toInt < 75 by omega), if_pos (show p2.toInt < 80 by omega)]
      by_cases s : z.toInt < 1800
      · simp only [if_pos s, if_neg (show ¬ 1800 ≤ z.toInt by omega)]
      · simp only [if_neg s, if_pos (show 1800 ≤ z.toInt by omega)]
    · by_cases q3 : p2.toInt < 75
      · simp only [if_neg q1, if_neg q2, if_pos q3, if_pos (show p2.toInt < 80 by omega)]
        by_cases s : z.toInt < 300
        · simp only [if_pos s, if_neg (show ¬ 300 ≤ z.toInt by omega), if_neg (show ¬ 1800 ≤ z.toInt by omega)]
        · simp only [if_neg s, if_pos (show 300 ≤ z.toInt by omega), ite_self]
      · by_cases q4 : p2.toInt < 80
        · simp only [if_neg q1, if_neg q2, if_neg q3, if_pos q4]
          by_cases s : z.toInt < 60
          · simp only [if_pos s, if_neg (show ¬ 60 ≤ z.toInt by omega), if_neg (show ¬ 300 ≤ z.toInt by omega), if_neg (show ¬ 1800 ≤ z.toInt by omega)]
          · simp only [if_neg s, if_pos (show 60 ≤ z.toInt by omega), ite_self]
        · simp only [if_neg q1, if_neg q2, if_neg q3, if_neg q4]
          by_cases s : z.toInt < 15
          · simp only [if_pos s, if_neg (show ¬ 60 ≤ z.toInt by omega), if_neg (show ¬ 300 ≤ z.toInt by omega), if_neg (show ¬ 1800 ≤ z.toInt by omega)]
          · simp only [if_neg s, ite_self]
/- behind a heating: the class's and the teller's rows -/
set_option maxRecDepth 20000 in
theorem TK_heat (T : TK a b c d I J E K M) {k : Nat} (hk : k < b) (ha : a ≤ 6) (hb : b ≤ 5) (v : Int32) {Kf : MI} (g1 : ∀ q j, q ≠ 60 + k → q ≠ 40 → q ≠ 34 → Kf q j = K q j) (g2 : ∀ j, Kf (60 + k) j = if j = 8 then 0 else if j = 7 then v else K (60 + k) j) : TK a b c d (up2 (up2 I (13 + k) 10 v) (13 + k) 8 0) (up2 (up2 J (20 + k) 2 v) (20 + k) 3 0) E Kf M := by
  obtain ⟨t1, t2, t3, t4, t5⟩ := T
  have jk : ∀ q j, q ≠ 20 + k → up2 (up2 J (20 + k) 2 v) (20 + k) 3 0 q j = J q j := fun q j h => by rw [up2_k _ _ _ _ h, up2_k _ _ _ _ h]
  refine ⟨t1.cong (fun q j hq => g1 _ _ (by omega) (by omega) (by omega)) (fun q j hq => jk _ _ (by omega)), fun q hq => ?_, t3.cong (fun q j hq => g1 _ _ (by omega) (by omega) (by omega)) (fun q n _ _ _ => jk _ _ (by omega)) (fun _ _ => rfl) (fun _ _ => rfl), t4.cong (fun q hq => g1 _ _ (by omega) (by omega) (by omega)) (fun q _ => jk _ _ (by omega)) (fun _ _ => rfl) (fun _ _ => rfl), t5.cong (fun q hq => g1 _ _ (by omega) (by omega) (by omega)) (fun q _ => jk _ _ (by omega))⟩
  by_cases e : q = k
  · subst e
    obtain ⟨m1, m2, m3, m4, m5⟩ := t2 q hq
    refine ⟨fun j hj => ?_, ?_, ?_, ?_, ?_⟩
    · rw [g2, if_neg (by omega), if_neg (by omega), jk _ _ (by omega)]; exact m1 j hj
    · rw [g2, if_neg (by decide), if_neg (by decide), up2_n _ _ _ (by decide), up2_n _ _ _ (by decide)]; exact m2
    · rw [g2, if_neg (by decide), if_pos rfl, up2_n _ _ _ (by decide), up2_hit]
    · rw [g2, if_pos rfl, up2_hit]
    · rw [g2, if_neg (by decide), if_neg (by decide), up2_n _ _ _ (by decide), up2_n _ _ _ (by decide)]; exact m5
  · exact (t2 q hq).cong (fun j => g1 _ _ (by omega) (by omega) (by omega)) (fun j => jk _ _ (by omega)) (fun j => jk _ _ (by omega)) (by rw [up2_k _ _ _ _ (by omega), up2_k _ _ _ _ (by omega)])
set_option maxRecDepth 20000 in
theorem T_heatJ (hd : DR K N) (R : RR 0 a b c d h I D J E) (hh : h ≤ N) (T : TK a b c d I J E K M) {k : Nat} (hk : k < b) {v z : Nat} (hv : v < 30) (hz0 : 1 ≤ z) (hz : z ≤ 2000) : ∃ I' D' K', f_T_heat_J33 b I D (nI k) (nI v) (nI z) K = some (1, I', D', K') ∧ TR a b c d N I' D' K' M := by
  have ha := R.a6
  have hb := R.b5
  have e60 : (60 : Int32) + nI v = nI (60 + v) := nI_add 60 v
  have tz {n : Nat} (hn : n < 2 ^ 31) : (nI n).toInt = (n : Int) := nI_toInt hn
  obtain ⟨hv1, x1, x2⟩ := x_heat R hk (p2 := nI (60 + v)) (p3 := nI z) (by rw [tz (by omega)]; omega) (by rw [tz (by omega)]; omega) (by rw [tz (by omega)]; omega) (by rw [tz (by omega)]; omega)
  rw [heat_J33 _ _ _ _ (nI (60 + v)) e60]
  unfold f_T_heat_J89
  have eK : K (60 + k) 7 = I (13 + k) 10 := (T.2.1 k hk).2.2.1.trans (R.mix.1 k hk).1.2.1
  have hw : (if prV (nI (60 + v)) (nI z) = 0 then f_T_heat_J111 b I D (nI k) (nI v) (nI z) K 0 else f_T_heat_J111 b I D (nI k) (nI v) (nI z) K 1) = f_T_heat_J111 b I D (nI k) (nI v) (nI z) K (prV (nI (60 + v)) (nI z)) := by
    rcases prV_01 (nI (60 + v)) (nI z) with e | e <;> rw [e] <;> rfl
  rw [inB_nI hk (by omega), ckt, ib7, ckt, hw]
  unfold f_T_heat_J111
  rw [ib7, ckt, tc7, tc8, ib8, inB_nI hk (by omega), nI_clamp (show k < 2 ^ 31 by omega)]
  simp only [nm_v, ckt, e60, x1, eO_ok, bd_s]
  have u7 : up2 (up2 K (60 + k) 7 (K (60 + k) 7 ||| prV (nI (60 + v)) (nI z))) (60 + k) 8 0 (60 + k) 7 = I (13 + k) 10 ||| prV (nI (60 + v)) (nI z) := by
    rw [up2_n _ _ _ (by decide), up2_hit, eK]
  generalize hKf : up2 (up2 K (60 + k) 7 (K (60 + k) 7 ||| prV (nI (60 + v)) (nI z))) (60 + k) 8 0 = Kf at u7
  have T' := TK_heat T hk ha hb (I (13 + k) 10 ||| prV (nI (60 + v)) (nI z)) (Kf := Kf) (fun q j h1 _ _ => by rw [← hKf, up2_k _ _ _ _ h1, up2_k _ _ _ _ h1]) (fun j => by
    rw [← hKf, up2_ap, up2_ap, eK]
    simp)
  have hd' : DR Kf N := hd.cong (by rw [← hKf, up2_k _ _ _ _ (by omega), up2_k _ _ _ _ (by omega)]) (Nat.le_refl _)
  refine ⟨_, _, _, ?_, hd', h, _, E, hh, x2, T'⟩
  unfold f_T_heat_J151
  rw [u7]
  rcases hv1 with e | e <;> rw [e] <;> rfl
set_option maxRecDepth 20000 in
theorem T_heat (hLS : LS < 2 ^ 31) (hT : TR a b c d N I D K M) (hN : N + 20 < 2 ^ 19) {k : Nat} (hk : k < b) : ∃ I' D' K', f_T_heat LS xs a b c d I D K M (nI k) = some (1, I', D', K') ∧ TR a b c d (N + 20) I' D' K' M := by
  obtain ⟨hd, h, J, E, hh, R, T⟩ := hT
  obtain ⟨v1, K1, h1, e1, d1, k1⟩ := draw_k (LS := LS) (xs := xs) (a := a) (b := b) (c := c) (d := d) (I := I) (D := D) (M := M) hLS hd (by omega) (show 0 < 30 by decide) (by decide) 30
  obtain ⟨v2, K2, h2, e2, d2, k2⟩ := draw_k (LS := LS) (xs := xs) (a := a) (b := b) (c := c) (d := d) (I := I) (D := D) (M := M) hLS d1 (by omega) (show 0 < 2 by decide) (by decide) 2
  unfold f_T_heat
  rw [e1, bd_s]; dsimp only
  rw [e2, bd_s]; dsimp only
  by_cases e0 : nI v2 = 0
  · rw [if_pos e0]
    obtain ⟨I', D', K', r1, r2⟩ := T_heatJ (N := N + 2) d2 R (by omega) (T.draws (fun k j q _ => (k2 k j q).trans (k1 k j q))) hk h1 (z := 2000) (by decide) (by decide)
    exact ⟨I', D', K', r1, r2.mono (by omega)⟩
  · rw [if_neg e0]
    obtain ⟨v3, K3, h3, e3, d3, k3⟩ := draw_k (LS := LS) (xs := xs) (a := a) (b := b) (c := c) (d := d) (I := I) (D := D) (M := M) hLS d2 (by omega) (show 0 < 400 by decide) (by decide) 400
    rw [e3, bd_s]; dsimp only
    rw [show (1 : Int32) + nI v3 = nI (1 + v3) from nI_add 1 v3]
    obtain ⟨I', D', K', r1, r2⟩ := T_heatJ (N := N + 3) d3 R (by omega) (T.draws (fun k j q _ => (k3 k j q).trans ((k2 k j q).trans (k1 k j q)))) hk h1 (z := 1 + v3) (by omega) (by omega)
    exact ⟨I', D', K', r1, r2.mono (by omega)⟩
/-! mix -/
set_option maxRecDepth 20000 in
theorem T_mixL (hLS : LS < 2 ^ 31) (ha0 : 0 < a) : ∀ (m n : Nat) (N : Nat) (I : MI) (D : MD) (K : MI), m < n → TR a (b + 1) c d N I D K M → N + 20 * m + 20 < 2 ^ 19 → ∃ I' D' K', f_T_mix_L76 LS xs a b c d M n (nI m) I D K = some (1, a, b + 1, c, d, I', D', K') ∧ TR a (b + 1) c d (N + 20 * m) I' D' K' M
  | 0, n, N, I, D, K, h1, hT, hN => by
    obtain ⟨n, rfl⟩ : ∃ n', n = n' + 1 := ⟨n - 1, by omega⟩
    rw [f_T_mix_L76, if_pos (show nI 0 ≤ 0 by decide)]
    exact ⟨_, _, _, rfl, hT⟩
  | m + 1, n, N, I, D, K, h1, hT, hN => by
    obtain ⟨n, rfl⟩ : ∃ n', n = n' + 1 := ⟨n - 1, by omega⟩
    obtain ⟨I1, D1, K1, r1, r2⟩ := T_put (xs := xs) hLS hT (by omega) ha0 (show b < b + 1 by omega)
    have hm : m < 2 ^ 30 := by omega
    rw [f_T_mix_L76, if_neg (nI_nle (by omega) (by omega)), nI_pred, r1, bd_s]
    dsimp only
    rw [if_neg (show ¬ (1 : Int32) = 0 by decide), pk_m1]
    obtain ⟨I2, D2, K2, s1, s2⟩ := T_mixL hLS ha0 m n (N + 20) I1 D1 K1 (by omega) r2 (by omega)
    exact ⟨I2, D2, K2, s1, s2.mono (by omega)⟩
set_option maxRecDepth 20000 in
theorem TK_mix (R : RR 0 a b c d h I D J E) (T : TK a b c d I J E K M) (hb : b < 5) {i : Nat} (hi : i < a) (w : Int32) {Kf : MI} (g1 : ∀ q j, q ≠ 60 + b → q ≠ 40 → q ≠ 34 → Kf q j = K q j) (g2 : ∀ j, Kf (60 + b) j = if j = 6 then w else if j = i then w else 0) : TK a (b + 1) c d (up2 (aI I b i w) 0 6 (nI (b + 1))) (addI (pJ (nM J b) b i w) 2) E Kf M := by
  obtain ⟨t1, t2, t3, t4, t5⟩ := T
  have ha := R.a6
  have hc := R.c12
  have jk : ∀ q j, q ≠ 2 → q ≠ 20 + b → q ≠ 25 + b → addI (pJ (nM J b) b i w) 2 q j = J q j := fun q j y1 y2 y3 => by
    rw [addI_k y1, pJ_k y3 y2, nM_k y2 y3]
  refine ⟨t1.cong (fun q j hq => g1 _ _ (by omega) (by omega) (by omega)) (fun q j hq => jk _ _ (by omega) (by omega) (by omega)), fun q hq => ?_, t3.cong (fun q j hq => g1 _ _ (by omega) (by omega) (by omega)) (fun q n _ _ _ => jk _ _ (by omega) (by omega) (by omega)) (fun _ _ => rfl) (fun _ _ => rfl), t4.cong (fun q hq => g1 _ _ (by omega) (by omega) (by omega)) (fun q _ => jk _ _ (by omega) (by omega) (by omega)) (fun _ _ => rfl) (fun _ _ => rfl), t5.cong (fun q hq => g1 _ _ (by omega) (by omega) (by omega)) (fun q _ => jk _ _ (by omega) (by omega) (by omega))⟩
  by_cases e : q = b
  · subst e
    refine ⟨fun j hj => ?_, ?_, ?_, ?_, ?_⟩
    · rw [g2, if_neg (by omega), addI_k (by omega)]
      unfold pJ
      rw [up2_k _ _ _ _ (by omega), up2_k _ _ _ _ (by omega), up2_ap, nM_25, nM_25, Int32.zero_add]
      by_cases ej : j = i
      · rw [if_pos ej, if_pos ⟨rfl, ej⟩]
      · rw [if_neg ej, if_neg (fun y => ej y.2)]
    · rw [g2, if_pos rfl, addI_k (by omega)]
      unfold pJ
      rw [up2_n _ _ _ (by decide), up2_hit, nM_20, Int32.zero_add]
    · rw [g2, if_neg (by decide), if_neg (by omega), addI_k (by omega)]
      unfold pJ
      rw [up2_hit]
    · rw [g2, if_neg (by decide), if_neg (by omega), addI_k (by omega)]
      unfold pJ
      rw [up2_n _ _ _ (by decide), up2_n _ _ _ (by decide), up2_k _ _ _ _ (by omega), nM_20]
    · rw [g2, if_neg (by decide), if_neg (by omega), up2_k _ _ _ _ (by omega), aI_8 (by decide) (by decide), R.mix.2 q (Nat.le_refl _) hb 9 (by decide)]
  · exact (t2 q (by omega)).cong (fun j => g1 _ _ (by omega) (by omega) (by omega)) (fun j => jk _ _ (by omega) (by omega) (by omega)) (fun j => jk _ _ (by omega) (by omega) (by omega)) (by rw [up2_k _ _ _ _ (by omega), aI_k (by omega)])
set_option maxRecDepth 20000 in
theorem T_mix (hLS : LS < 2 ^ 31) (hT : TR a b c d N I D K M) (hN : N + 100 < 2 ^ 19) (ha0 : 0 < a) (hb : b < 5) : ∃ I' D' K', f_T_mix LS xs a b c d I D K M = some (1, a, b + 1, c, d, I', D', K') ∧ TR a (b + 1) c d (N + 100) I' D' K' M := by
  obtain ⟨hd, h, J, E, hh, R, T⟩ := hT
  have ha := R.a6
  unfold f_T_mix
  rw [nm_v]
  have hd0 : DR (va_up K 34 (fun _ => 0)) N := hd.cong (by rw [va_ap, if_neg (by decide)]) (Nat.le_refl _)
  have k0 : ∀ q j, q ≠ 34 → va_up K 34 (fun _ => 0) q j = K q j := fun q j y => by rw [va_ap, if_neg y]
  have k9 : ∀ j, va_up K 34 (fun _ => 0) 34 j = 0 := fun j => by rw [va_ap, if_pos rfl]
  generalize va_up K 34 (fun _ => 0) = K0 at hd0 k0 k9 ⊢
  obtain ⟨i, K1, h1, e1, d1, k1⟩ := draw_k (LS := LS) (xs := xs) (a := a) (b := b) (c := c) (d := d) (I := I) (D := D) (M := M) hLS hd0 (by omega) ha0 (by omega) (nI a)
  obtain ⟨v, K2, h2, e2, d2, k2⟩ := draw_k (LS := LS) (xs := xs) (a := a) (b := b) (c := c) (d := d) (I := I) (D := D) (M := M) hLS d1 (by omega) (show 0 < 150 by decide) (by decide) 150
  rw [e1, bd_s]; dsimp only
  rw [e2, bd_s]; dsimp only
  have e20 : (20 : Int32) + nI v = nI (20 + v) := nI_add 20 v
  have tz {n : Nat} (hn : n < 2 ^ 31) : (nI n).toInt = (n : Int) := nI_toInt hn
  obtain ⟨x1, x2⟩ := x_mix R hb h1 (p2 := nI (20 + v)) (by rw [tz (by omega)]; omega) (by rw [tz (by omega)]; omega)
  rw [e20, inB_nI (show i < 10 by omega) (by decide), nI_clamp (show i < 2 ^ 31 by omega), tc6]
  have u1 : up2 K2 34 i (nI (20 + v)) 34 i = nI (20 + v) := up2_hit _ _ _ _
  simp only [nm_v, ckt, ib6, decide_eq_true hb, u1]
  have u2 : va_up (up2 (up2 K2 34 i (nI (20 + v))) 34 6 (nI (20 + v))) (60 + b) (up2 (up2 K2 34 i (nI (20 + v))) 34 6 (nI (20 + v)) 34) (60 + b) i = nI (20 + v) := by
    rw [va_ap, if_pos rfl, up2_n _ _ _ (by omega), up2_hit]
  rw [u2, x1]
  have g1 : ∀ q j, q ≠ 60 + b → q ≠ 40 → q ≠ 34 → va_up (up2 (up2 K2 34 i (nI (20 + v))) 34 6 (nI (20 + v))) (60 + b) (up2 (up2 K2 34 i (nI (20 + v))) 34 6 (nI (20 + v)) 34) q j = K q j := fun q j y1 y2 y3 => by
    rw [va_ap, if_neg y1, up2_k _ _ _ _ y3, up2_k _ _ _ _ y3, k2 _ _ y2, k1 _ _ y2, k0 _ _ y3]
  have g2 : ∀ j, va_up (up2 (up2 K2 34 i (nI (20 + v))) 34 6 (nI (20 + v))) (60 + b) (up2 (up2 K2 34 i (nI (20 + v))) 34 6 (nI (20 + v)) 34) (60 + b) j = if j = 6 then nI (20 + v) else if j = i then nI (20 + v) else 0 := fun j => by
    rw [va_ap, if_pos rfl, up2_ap, up2_ap, k2 _ _ (by decide), k1 _ _ (by decide), k9]
    simp
  have g3 : va_up (up2 (up2 K2 34 i (nI (20 + v))) 34 6 (nI (20 + v))) (60 + b) (up2 (up2 K2 34 i (nI (20 + v))) 34 6 (nI (20 + v)) 34) 40 2 = K2 40 2 := by
    rw [va_ap, if_neg (by omega), up2_k _ _ _ _ (by decide), up2_k _ _ _ _ (by decide)]
  generalize va_up (up2 (up2 K2 34 i (nI (20 + v))) 34 6 (nI (20 + v))) (60 + b) (up2 (up2 K2 34 i (nI (20 + v))) 34 6 (nI (20 + v)) 34) = Kf at g1 g2 g3 ⊢
  rw [eO_ok, bd_s]; dsimp only
  rw [nI_pred, if_pos rfl]
  have T' := TK_mix R T hb h1 (nI (20 + v)) g1 g2
  have df : DR Kf (N + 2) := d2.cong g3 (by omega)
  obtain ⟨m, K3, h3, e3, d3, k3⟩ := draw_k (LS := LS) (xs := xs) (a := a) (b := b + 1) (c := c) (d := d) (I := up2 (aI I b i (nI (20 + v))) 0 6 (nI (b + 1))) (D := aD I D b i (nI (20 + v))) (M := M) hLS df (by omega) (show 0 < 3 by decide) (by decide) 3
  rw [e3, bd_s]; dsimp only
  have hT1 : TR a (b + 1) c d (N + 3) (up2 (aI I b i (nI (20 + v))) 0 6 (nI (b + 1))) (aD I D b i (nI (20 + v))) K3 M := ⟨d3, h, _, E, by omega, x2, T'.draws (fun q j y _ => k3 q j y)⟩
  obtain ⟨I', D', K', r1, r2⟩ := T_mixL (xs := xs) hLS ha0 m 200 (N + 3) _ _ _ (by omega) hT1 (by omega)
  exact ⟨I', D', K', r1, r2.mono (by omega)⟩
end TLB
