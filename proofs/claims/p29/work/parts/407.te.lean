/-! ===== the law, up to the best orders ===== -/
section TLE
variable {LS : Nat} {xs : Nat → Int32} {a b c d N h : Nat} {I J I' J' K K' : MI} {D E M E' M' : MD}
set_option maxRecDepth 20000 in
theorem TR_0 {q : Nat} (hq : q ≤ N) : TR 0 0 0 0 N I0 D0 (kT0 (nI q)) D0 := by
  refine ⟨⟨q, hq, rfl⟩, 0, fun _ _ => 0, fun _ _ => 0, Nat.zero_le _, ⟨⟨⟨rfl, rfl, ⟨fun _ => rfl, fun _ => rfl⟩, by decide⟩, ⟨rfl, rfl, ⟨fun _ => rfl, fun _ => rfl⟩, by decide⟩, ⟨rfl, rfl, by decide⟩, ⟨rfl, rfl, by decide⟩, ⟨rfl, rfl, rfl, rfl⟩, fun n hn => ?_, fun n hn => ?_⟩, fun i hi => absurd hi (by omega), ⟨fun k hk => absurd hk (by omega), fun k _ hk n hn => ?_⟩, ⟨fun k hk => absurd hk (by omega), fun i _ hi => ⟨?_, ?_, rfl⟩⟩, fun s hs => absurd hs (by omega), by decide⟩, fun i hi => absurd hi (by omega), fun i hi => absurd hi (by omega), fun i hi => absurd hi (by omega), fun i hi => absurd hi (by omega), fun n hn => ?_⟩
  · unfold I0
    rw [if_neg (by omega)]
  · unfold I0
    rw [if_neg (by omega)]
  · unfold I0
    rw [if_neg (by omega)]
  · unfold I0
    rw [if_pos ⟨by omega, by omega, rfl⟩]
  · unfold I0
    rw [if_neg (by omega)]
  · unfold kT0
    rw [if_neg (by omega)]
set_option maxRecDepth 20000 in
theorem foundL2 (hLS : LS < 2 ^ 31) : ∀ (m i n N : Nat) (I : MI) (D : MD) (K : MI), i + m = 4 → m < n → TR i 0 0 0 N I D K M → N + 20 * m + 100 < 2 ^ 19 → ∃ I' D' K', f_T_founded_L2 LS xs M n (nI i) i 0 0 0 I D K = f_T_founded_L24 LS xs M 4 0 4 0 0 0 I' D' K' ∧ TR 4 0 0 0 (N + 20 * m) I' D' K' M
  | 0, i, n, N, I, D, K, h1, h2, T, hN => by
    obtain ⟨n, rfl⟩ : ∃ n', n = n' + 1 := ⟨n - 1, by omega⟩
    obtain rfl : i = 4 := by omega
    rw [f_T_founded_L2, if_pos (show (4 : Int32) ≤ nI 4 by decide)]
    exact ⟨I, D, K, rfl, T⟩
  | m + 1, i, n, N, I, D, K, h1, h2, T, hN => by
    obtain ⟨n, rfl⟩ : ∃ n', n = n' + 1 := ⟨n - 1, by omega⟩
    obtain ⟨I1, D1, K1, r1, r2⟩ := T_ing (xs := xs) hLS T (by omega) (by omega)
    obtain ⟨I2, D2, K2, s1, s2⟩ := foundL2 hLS m (i + 1) n (N + 20) I1 D1 K1 (by omega) (by omega) r2 (by omega)
    refine ⟨I2, D2, K2, ?_, s2.mono (by omega)⟩
    rw [f_T_founded_L2, if_neg (show ¬ (4 : Int32) ≤ nI i from nI_ge (a := i) (b := 4) (by omega) (by decide)), r1, bd_s]
    dsimp only
    rw [if_neg (show ¬ (1 : Int32) = 0 by decide), nI_1]
    exact s1
set_option maxRecDepth 20000 in
theorem foundL24 (hLS : LS < 2 ^ 31) : ∀ (m i n N : Nat) (I : MI) (D : MD) (K : MI), i + m = 3 → m < n → TR 4 i 0 0 N I D K M → N + 120 * m + 200 < 2 ^ 19 → ∃ I' D' K' M', f_T_founded_L24 LS xs M n (nI i) 4 i 0 0 I D K = some (1, 4, 3, 0, 2, I', D', K', M') ∧ TR 4 3 0 2 (N + 120 * m + 40) I' D' K' M'
  | 0, i, n, N, I, D, K, h1, h2, T, hN => by
    obtain ⟨n, rfl⟩ : ∃ n', n = n' + 1 := ⟨n - 1, by omega⟩
    obtain rfl : i = 3 := by omega
    obtain ⟨I1, D1, K1, M1, r1, r2⟩ := T_store (xs := xs) hLS T (by omega) (by decide)
    obtain ⟨I2, D2, K2, M2, s1, s2⟩ := T_store (xs := xs) hLS r2 (by omega) (by decide)
    refine ⟨I2, D2, K2, M2, ?_, s2.mono (by omega)⟩
    rw [f_T_founded_L24, if_pos (show (3 : Int32) ≤ nI 3 by decide), r1, bd_s]
    dsimp only
    rw [if_neg (show ¬ (1 : Int32) = 0 by decide), s1, bd_s]
    dsimp only
    rw [if_neg (show ¬ (1 : Int32) = 0 by decide)]
  | m + 1, i, n, N, I, D, K, h1, h2, T, hN => by
    obtain ⟨n, rfl⟩ : ∃ n', n = n' + 1 := ⟨n - 1, by omega⟩
    obtain ⟨I1, D1, K1, r1, r2⟩ := T_mix (xs := xs) hLS T (by omega) (by decide) (by omega)
    obtain ⟨I2, D2, K2, s1, s2⟩ := T_heat (xs := xs) hLS r2 (by omega) (show i < i + 1 by omega)
    obtain ⟨I3, D3, K3, M3, z1, z2⟩ := foundL24 hLS m (i + 1) n (N + 120) I2 D2 K2 (by omega) (by omega) (s2.mono (by omega)) (by omega)
    refine ⟨I3, D3, K3, M3, ?_, z2.mono (by omega)⟩
    rw [f_T_founded_L24, if_neg (show ¬ (3 : Int32) ≤ nI i from nI_ge (a := i) (b := 3) (by omega) (by decide)), r1, bd_s]
    dsimp only
    rw [if_neg (show ¬ (1 : Int32) = 0 by decide), s1, bd_s]
    dsimp only
    rw [if_neg (show ¬ (1 : Int32) = 0 by decide), nI_1]
    exact z1
set_option maxRecDepth 20000 in
theorem T_founded (hLS : LS < 2 ^ 31) (T : TR 0 0 0 0 N I D K M) (hN : N + 1000 < 2 ^ 19) : ∃ I' D' K' M', f_T_founded LS xs 0 0 0 0 I D K M = some (1, 4, 3, 0, 2, I', D', K', M') ∧ TR 4 3 0 2 (N + 500) I' D' K' M' := by
  obtain ⟨I1, D1, K1, r1, r2⟩ := foundL2 (xs := xs) hLS 4 0 5 N I D K (by omega) (by omega) T (by omega)
  obtain ⟨I2, D2, K2, M2, s1, s2⟩ := foundL24 (xs := xs) hLS 3 0 4 _ I1 D1 K1 (by omega) (by omega) r2 (by omega)
  exact ⟨I2, D2, K2, M2, r1.trans s1, s2.mono (by omega)⟩
set_option maxRecDepth 20000 in
theorem mix_ok (R : RR 0 a b c d h I D J E) {k w : Nat} (hk : k < b) (hw : w < 9) : f_X4_ofMix I D (nI k) (nI w) = some (.ok (mixV I k w)) := mixV_C R hk hw (cr_ok (n := 8) (by omega) (by decide)) (cn_ok hk (by have := R.b5; omega))
set_option maxRecDepth 20000 in
theorem bat_ok (R : RR 0 a b c d h I D J E) {i m w : Nat} (hi : i < c) (hm : m < b) (e : I (18 + i) 0 = nI m) (hw : w < 6) : f_X4_ofBatch I D (nI i) (nI w) = some (.ok (batV I D i m w)) := batV_C R hi hm e hw (cr_ok (n := 5) (by omega) (by decide)) (cn_ok hi (by have := R.c12; omega))
set_option maxRecDepth 20000 in
theorem law55 (rec2 : Int32 → Option Int32) (x1 : Int32) : ∀ (m i n : Nat) (I : MI) (D : MD) (K : MI), i + m = 3 → m < n → TR 4 4 0 2 N I D K M → N + 200 < 2 ^ 19 → ∃ I' D' K' M', f_L_law_L55 rec2 LS xs x1 4 4 0 2 M n (nI i) I D K = f_L_law_L138 rec2 LS xs x1 9 0 4 4 0 2 I' D' K' M' ∧ TR 4 4 0 2 (N + 100) I' D' K' M'
  | 0, i, n, I, D, K, h1, h2, T, hN => by
    obtain ⟨n, rfl⟩ : ∃ n', n = n' + 1 := ⟨n - 1, by omega⟩
    obtain rfl : i = 3 := by omega
    obtain ⟨I1, D1, K1, M1, r1, r2⟩ := T_pass (LS := LS) (xs := xs) T (by omega) (n := 5) (by decide) (by decide)
    refine ⟨I1, D1, K1, M1, ?_, r2⟩
    rw [f_L_law_L55, if_pos (show (3 : Int32) ≤ nI 3 by decide), show f_T_pass LS xs 4 4 0 2 I D K M 5 = _ from r1, bd_s]
    dsimp only
    rw [if_neg (show ¬ (1 : Int32) = 0 by decide)]
  | m + 1, i, n, I, D, K, h1, h2, T, hN => by
    obtain ⟨n, rfl⟩ : ∃ n', n = n' + 1 := ⟨n - 1, by omega⟩
    obtain ⟨hd, h, J, E, hh, R, T⟩ := T
    have hi : i < 4 := by omega
    obtain ⟨y1, y2, y3⟩ := x_heat R hi (p2 := 80) (p3 := 15) (by decide) (by decide) (by decide) (by decide)
    have ev : I (13 + i) 10 ||| prV 80 15 = 1 := by
      obtain ⟨⟨m1, m2, m3, m4⟩, -⟩ := R.mix.1 i hi
      rcases m3 with e | e <;> rw [e] <;> decide
    rw [ev] at y2 y3
    have z5 := mix_ok y3 hi (w := 5) (by decide)
    have z4 := mix_ok y3 hi (w := 4) (by decide)
    have w5 : mixV (up2 (up2 I (13 + i) 10 1) (13 + i) 8 0) i 5 = 0 := up2_hit _ _ _ _
    have w4 : mixV (up2 (up2 I (13 + i) 10 1) (13 + i) 8 0) i 4 = 1 := (up2_n _ _ _ (by decide)).trans (up2_hit _ _ _ _)
    rw [w5] at z5
    rw [w4] at z4
    have T' : TK 4 4 0 2 _ _ E (up2 (up2 K (60 + i) 7 1) (60 + i) 8 0) M := TK_heat T hi (by decide) (by decide) 1 (fun q j y1 _ _ => by rw [up2_k _ _ _ _ y1, up2_k _ _ _ _ y1]) (fun j => by rw [up2_ap, up2_ap]; simp)
    obtain ⟨I2, D2, K2, M2, s1, s2⟩ := law55 rec2 x1 m (i + 1) n _ _ _ (by omega) (by omega) ⟨hd.cong (by rw [up2_k _ _ _ _ (by omega), up2_k _ _ _ _ (by omega)]) (Nat.le_refl _), h, _, E, hh, y3, T'⟩ hN
    refine ⟨I2, D2, K2, M2, ?_, s2⟩
    rw [f_L_law_L55, if_neg (show ¬ (3 : Int32) ≤ nI i from nI_ge (a := i) (b := 3) (by omega) (by decide)), y2, eO_ok, bd_s]
    dsimp only
    rw [if_neg (show ¬ (1 : Int32) = 0 by decide), show f_X4_ofMix (up2 (up2 I (13 + i) 10 1) (13 + i) 8 0) D (nI i) 5 = _ from z5, eO_ok, bd_s, if_pos rfl, show f_X4_ofMix (up2 (up2 I (13 + i) 10 1) (13 + i) 8 0) D (nI i) 4 = _ from z4, eO_ok, bd_s, if_pos rfl, inB_nI hi (by decide), ckt, ib7, ckt, nm_v, ckt, ib8, ckt, nm_v, nI_clamp (show i < 2 ^ 31 by omega), tc7, tc8, nI_1]
    exact s1
set_option maxRecDepth 20000 in
theorem law138 (hLS : LS < 2 ^ 31) (rec2 : Int32 → Option Int32) (x1 : Int32) : ∀ (m i n c N : Nat) (I : MI) (D : MD) (K : MI) (M : MD), i + m = 8 → m < n → TR 4 4 c 2 N I D K M → N + 40 * m + 200 < 2 ^ 19 → ∃ c' I' D' K' M', f_L_law_L138 rec2 LS xs x1 n (nI i) 4 4 c 2 I D K M = f_L_law_L170 rec2 LS xs x1 4 4 c' 2 14 0 I' D' K' M' ∧ TR 4 4 c' 2 (N + 40 * m) I' D' K' M'
  | 0, i, n, c, N, I, D, K, M, h1, h2, T, hN => by
    obtain ⟨n, rfl⟩ : ∃ n', n = n' + 1 := ⟨n - 1, by omega⟩
    obtain rfl : i = 8 := by omega
    rw [f_L_law_L138, if_pos (show (8 : Int32) ≤ nI 8 by decide)]
    exact ⟨c, I, D, K, M, rfl, T⟩
  | m + 1, i, n, c, N, I, D, K, M, h1, h2, T, hN => by
    obtain ⟨n, rfl⟩ : ∃ n', n = n' + 1 := ⟨n - 1, by omega⟩
    obtain ⟨c1, I1, D1, K1, M1, r1, r2⟩ := T_run (xs := xs) hLS T (by omega) (by decide)
    obtain ⟨I2, D2, K2, s1, s2⟩ := T_wash (xs := xs) hLS r2 (by omega)
    obtain ⟨c3, I3, D3, K3, M3, z1, z2⟩ := law138 hLS rec2 x1 m (i + 1) n c1 (N + 40) I2 D2 K2 M1 (by omega) (by omega) (s2.mono (by omega)) (by omega)
    refine ⟨c3, I3, D3, K3, M3, ?_, z2.mono (by omega)⟩
    rw [f_L_law_L138, if_neg (show ¬ (8 : Int32) ≤ nI i from nI_ge (a := i) (b := 8) (by omega) (by decide)), r1, bd_s]
    dsimp only
    rw [if_neg (show ¬ (1 : Int32) = 0 by decide), s1, bd_s]
    dsimp only
    rw [if_neg (show ¬ (1 : Int32) = 0 by decide), nI_1]
    exact z1
/- behind the hardening -/
def lawD (rec2 : Int32 → Option Int32) (LS : Nat) (xs : Nat → Int32) (x1 : Int32) (c : Nat) (I : MI) (D : MD) (K : MI) (M : MD) : Option Int32 :=
  bd (eO (f_X4_digest I D)) (fun (r_68, I_70, D_71) => bd (f_L_isBest LS xs 4 4 c 2 I_70 D_71 K M) (fun (r_72, I_74, D_75, K_76) => (if r_72 = 0 then some 0 else bd (eO (f_X4_digest I_74 D_75)) (fun (r_78, I_80, D_81) => (if (lg_cmp r_78 r_68) = 0 then f_L_law_L242 rec2 LS xs x1 4 4 c 2 5 0 I_80 D_81 K_76 M else some 0)))))
set_option maxRecDepth 20000 in
theorem law170 (hLS : LS < 2 ^ 31) (rec2 : Int32 → Option Int32) (x1 : Int32) : ∀ (m i n N : Nat) (I : MI) (D : MD) (K : MI) (M : MD), i + m = c → m < n → TR 4 4 c 2 N I D K M → N + 60 * m + 200 < 2 ^ 19 → ∃ I' D' K' M', f_L_law_L170 rec2 LS xs x1 4 4 c 2 n (nI i) I D K M = lawD rec2 LS xs x1 c I' D' K' M' ∧ TR 4 4 c 2 (N + 60 * m) I' D' K' M'
  | 0, i, n, N, I, D, K, M, h1, h2, T, hN => by
    obtain ⟨n, rfl⟩ : ∃ n', n = n' + 1 := ⟨n - 1, by omega⟩
    obtain rfl : i = c := by omega
    obtain ⟨hd, h, J, E, hh, R, T'⟩ := id T
    have hc := R.c12
    rw [f_L_law_L170, if_pos (nI_le (Nat.le_refl _) (by omega))]
    exact ⟨I, D, K, M, rfl, T⟩
  | m + 1, i, n, N, I, D, K, M, h1, h2, T, hN => by
    obtain ⟨n, rfl⟩ : ∃ n', n = n' + 1 := ⟨n - 1, by omega⟩
    have hc : c ≤ 12 := by
      obtain ⟨hd, h, J, E, hh, R, T'⟩ := id T
      exact R.c12
    obtain ⟨I1, D1, K1, M1, r1, r2⟩ := T_harden (xs := xs) hLS T (by omega) (show i < c by omega)
    obtain ⟨hd1, h, J, E, hh, R, T1⟩ := r2
    obtain ⟨v, K2, hv, e2, d2, k2⟩ := draw_k (LS := LS) (xs := xs) (a := 4) (b := 4) (c := c) (d := 2) (I := I1) (D := D1) (M := M1) hLS hd1 (by omega) (show 0 < 4 by decide) (by decide) 4
    have T2 : TR 4 4 c 2 (N + 21) I1 D1 K2 M1 := ⟨d2, h, J, E, by omega, R, T1.draws (fun q j y _ => k2 q j y)⟩
    rw [f_L_law_L170, if_neg (nI_ge (by omega) (by omega)), r1, bd_s]
    dsimp only
    rw [if_neg (show ¬ (1 : Int32) = 0 by decide), e2, bd_s]
    dsimp only
    rw [nI_1]
    by_cases e0 : nI v ≤ 0
    · rw [if_pos e0]
      obtain ⟨I3, D3, K3, M3, z1, z2⟩ := law170 hLS rec2 x1 m (i + 1) n (N + 21) I1 D1 K2 M1 (by omega) (by omega) T2 (by omega)
      exact ⟨I3, D3, K3, M3, z1, z2.mono (by omega)⟩
    · rw [if_neg e0]
      obtain ⟨I2, D2, K3, s1, s2⟩ := T_lay (xs := xs) hLS T2 (by omega) (by decide) (show i < c by omega)
      obtain ⟨I3, D3, K4, M3, z1, z2⟩ := law170 hLS rec2 x1 m (i + 1) n (N + 41) I2 D2 K3 M1 (by omega) (by omega) s2 (by omega)
      rw [s1, bd_s]
      dsimp only
      rw [if_neg (show ¬ (1 : Int32) = 0 by decide)]
      exact ⟨I3, D3, K4, M3, z1, z2.mono (by omega)⟩
end TLE
