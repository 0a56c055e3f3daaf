/-! ===== the teller's calls: run, harden, lay ===== -/
section TLD
variable {LS : Nat} {xs : Nat → Int32} {a b c d N h : Nat} {I J I' J' K K' : MI} {D E M E' M' : MD}
set_option maxRecDepth 20000 in
theorem or_sub (r s : Int32) : (r ||| s = s) = (r &&& (s ^^^ (-1)) = 0) := propext (by
  rw [← Int32.toBitVec_inj, ← Int32.toBitVec_inj, Int32.toBitVec_or, Int32.toBitVec_and, Int32.toBitVec_xor]
  generalize r.toBitVec = x
  generalize s.toBitVec = y
  show x ||| y = y ↔ x &&& (y ^^^ BitVec.allOnes 32) = 0#32
  constructor
  · intro e
    refine BitVec.eq_of_getLsbD_eq (fun i hi => ?_)
    have h1 := congrArg (fun z : BitVec 32 => z.getLsbD i) e
    simp only [BitVec.getLsbD_or] at h1
    rw [BitVec.getLsbD_and, BitVec.getLsbD_xor, BitVec.getLsbD_allOnes, BitVec.getLsbD_zero, decide_eq_true hi]
    cases hx : x.getLsbD i <;> cases hy : y.getLsbD i <;> simp_all
  · intro e
    refine BitVec.eq_of_getLsbD_eq (fun i hi => ?_)
    have h1 := congrArg (fun z : BitVec 32 => z.getLsbD i) e
    simp only [BitVec.getLsbD_and, BitVec.getLsbD_xor, BitVec.getLsbD_allOnes, BitVec.getLsbD_zero, decide_eq_true hi] at h1
    rw [BitVec.getLsbD_or]
    cases hx : x.getLsbD i <;> cases hy : y.getLsbD i <;> simp_all)
set_option maxRecDepth 20000 in
theorem cm_rf {x : UInt64} (hx : FP.Core.DFin x) (o : CmpOp) : Op.cmpValue (FP.dcmp x x) o = 0 := by
  rw [cmv hx hx, if_neg (Int.lt_irrefl _), if_pos rfl]
set_option maxRecDepth 20000 in
theorem tbars (R : RR 0 a b c d h I D J E) (T : TK a b c d I J E K M) {i k : Nat} (hi : i < 2) (hk : k < b) (p3 p4 : Int32) : f_T_bars LS xs a b c d I D K M (nI i) (nI k) p3 p4 = some (barV I D i k p3 p4) := by
  have ha := R.a6
  have hb := R.b5
  have hc := R.c12
  obtain ⟨t1, t2, t3, t4, t5⟩ := T
  obtain ⟨m1, m2, m3, m4, m5⟩ := t2 k hk
  obtain ⟨⟨n1, n2, n3, n4⟩, n5, ⟨n6, n7⟩, n8, n9, n10, n11, n12, n13, n14⟩ := R.mix.1 k hk
  have hz : ∀ i, a ≤ i → i < 6 → J (25 + k) i = 0 := fun i g1 g2 => (n5 i g2).2.2 g1
  have e7 : K (60 + k) 7 = I (13 + k) 10 := m3.trans n2
  have e8 : K (60 + k) 8 = I (13 + k) 8 := m4.trans (by rw [← n4, Int32.add_zero])
  have e6 : K (60 + k) 6 = I (13 + k) 1 := m2.trans n1
  have e44 : K 44 i = I 5 i := (t5 i hi).trans (R.1.2.2.2.2.2.1 i hi).symm
  have hharm := tharms (LS := LS) (xs := xs) (c := c) (d := d) (I := I) (D := D) (M := M) k hk hb ha t1 m1 hz
  rw [← n11] at hharm
  have hall := tsum_a (LS := LS) (xs := xs) (c := c) (d := d) (I := I) (D := D) (M := M) k hk hb ha m1 hz
  rw [← n8] at hall
  have hs0 := tsum_w (LS := LS) (xs := xs) (c := c) (d := d) (I := I) (D := D) (M := M) k hk hb ha 0 (by decide) t1 m1 hz
  rw [← n9 0 (by decide)] at hs0
  have hs1 := tsum_w (LS := LS) (xs := xs) (c := c) (d := d) (I := I) (D := D) (M := M) k hk hb ha 1 (by decide) t1 m1 hz
  rw [← n9 1 (by decide)] at hs1
  have hcr : f_T_isCream LS xs a b c d I D K M (nI k) = some (fCr (I (13 + k) 2) (I (13 + k) 3) (I (13 + k) 0)) := by
    unfold f_T_isCream
    rw [show f_T_sum LS xs a b c d I D K M (nI k) 0 = _ from hs0, bd_s, hall, bd_s, cream_eq n6 n7 (n10 0 (by decide)).1 (n10 0 (by decide)).2 (n10 1 (by decide)).1 (n10 1 (by decide)).2, show f_T_sum LS xs a b c d I D K M (nI k) 1 = _ from hs1, bd_s, bd_s]
    by_cases c1 : I (13 + k) 2 < 100 * I (13 + k) 0
    · rw [if_pos c1, if_pos c1]
    · rw [if_neg c1, if_neg c1]
      by_cases c2 : I (13 + k) 3 < 80 * I (13 + k) 0
      · rw [if_pos c2, if_pos c2]
      · rw [if_neg c2, if_neg c2]
  have e12 : (nI c ≤ 11) = (I 0 7 < 12) := propext (by
    rw [R.I7, show (11 : Int32) = nI 11 from rfl, show (12 : Int32) = nI 12 from rfl, nI_leI (by omega) (by decide), nI_ltI (by omega) (by decide)]
    omega)
  unfold f_T_bars barV
  rw [inB_nI hk (by omega), ckt, ib7, ckt, ib8, ib6, tc7, tc8, tc6, nI_clamp (show k < 2 ^ 31 by omega), inB_nI hi (by decide), nI_clamp (show i < 2 ^ 31 by omega), hharm, hcr]
  simp only [ckt, bd_s, e44, or_sub, e12, e7, e8, e6]
  by_cases c1 : I (13 + k) 10 = 0
  · rw [if_pos c1, if_pos c1]
  · rw [if_neg c1, if_neg c1]
    by_cases c2 : 4 ≤ I (13 + k) 8
    · rw [if_pos c2, if_pos c2]
      by_cases c3 : I (13 + k) 8 ≤ 72
      · rw [if_pos c3, if_pos c3]
        by_cases c4 : p3 ≤ I (13 + k) 1
        · rw [if_pos c4, if_pos c4]
          by_cases c5 : (I 5 i) &&& ((I (13 + k) 6) ^^^ (-1)) = 0
          · rw [if_pos c5, if_pos c5]
            by_cases c6 : p4 ≤ 100
            · rw [if_pos c6, if_pos c6]
              by_cases c7 : I 0 7 < 12
              · rw [if_pos c7, if_pos c7]
              · rw [if_neg c7, if_neg c7]
            · rw [if_neg c6, if_neg c6]
              by_cases c8 : fCr (I (13 + k) 2) (I (13 + k) 3) (I (13 + k) 0) = 0
              · rw [if_pos c8, if_pos c8]
                by_cases c7 : I 0 7 < 12
                · rw [if_pos c7, if_pos c7]
                · rw [if_neg c7, if_neg c7]
              · rw [if_neg c8, if_neg c8]
          · rw [if_neg c5, if_neg c5]
        · rw [if_neg c4, if_neg c4]
      · rw [if_neg c3, if_neg c3]
    · rw [if_neg c2, if_neg c2]
set_option maxRecDepth 20000 in
theorem TK_run (R : RR 0 a b c d h I D J E) (T : TK a b c d I J E K M) {i k : Nat} (hi : i < 2) (hk : k < b) (hc : c < 12) (p3 li hm : Int32) {Kf : MI} (g1 : ∀ q j, q ≠ 60 + k → q ≠ 44 → q ≠ 70 + c → q ≠ 34 → q ≠ 40 → Kf q j = K q j) (g2 : ∀ j, Kf (60 + k) j = if j = 9 then K (60 + k) 9 + 1 else if j = 6 then K (60 + k) 6 - p3 else K (60 + k) j) (g3 : ∀ n, Kf 44 n = if n = i then hm else K 44 n) (g4 : Kf (70 + c) 0 = nI k ∧ Kf (70 + c) 1 = li ∧ Kf (70 + c) 2 = 0 ∧ Kf (70 + c) 3 = -1) : TK a b (c + 1) d (ruI I i k c p3 li) (ruJ J i k c p3 li hm) (up2 E 10 c 4626322717216342016) Kf (up2 M 42 c 4626322717216342016) := by
  have ha := R.a6
  have hb := R.b5
  have hd := R.d3
  obtain ⟨t1, t2, t3, t4, t5⟩ := T
  have jk : ∀ q j, q ≠ 20 + k → q ≠ 13 → q ≠ 5 → q ≠ 6 → q ≠ 7 → q ≠ 9 → ruJ J i k c p3 li hm q j = J q j := fun q j y1 y2 y3 y4 y5 y6 => by
    unfold ruJ
    rw [up2_k _ _ _ _ y6, up2_k _ _ _ _ y5, up2_k _ _ _ _ y4, up2_k _ _ _ _ y3, up2_k _ _ _ _ y2, up2_k _ _ _ _ y1]
  have j20 : ∀ j, ruJ J i k c p3 li hm (20 + k) j = up2 J (20 + k) 1 (J (20 + k) 1 - p3) (20 + k) j := fun j => by
    unfold ruJ
    rw [up2_k _ _ _ _ (by omega), up2_k _ _ _ _ (by omega), up2_k _ _ _ _ (by omega), up2_k _ _ _ _ (by omega), up2_k _ _ _ _ (by omega)]
  refine ⟨t1.cong (fun q j hq => g1 _ _ (by omega) (by omega) (by omega) (by omega) (by omega)) (fun q j hq => jk _ _ (by omega) (by omega) (by omega) (by omega) (by omega) (by omega)), fun q hq => ?_, fun j hj => ?_, t4.cong (fun q hq => g1 _ _ (by omega) (by omega) (by omega) (by omega) (by omega)) (fun q _ => jk _ _ (by omega) (by omega) (by omega) (by omega) (by omega) (by omega)) (fun _ _ => by rw [up2_k _ _ _ _ (by decide)]) (fun _ _ => by rw [up2_k _ _ _ _ (by decide)]), fun n hn => ?_⟩
  · by_cases e : q = k
    · subst e
      obtain ⟨m1, m2, m3, m4, m5⟩ := t2 q hq
      refine ⟨fun j hj => ?_, ?_, ?_, ?_, ?_⟩
      · rw [g2, if_neg (by omega), if_neg (by omega), jk _ _ (by omega) (by omega) (by omega) (by omega) (by omega) (by omega)]; exact m1 j hj
      · rw [g2, if_neg (by decide), if_pos rfl, j20, up2_hit, m2]
      · rw [g2, if_neg (by decide), if_neg (by decide), j20, up2_n _ _ _ (by decide)]; exact m3
      · rw [g2, if_neg (by decide), if_neg (by decide), j20, up2_n _ _ _ (by decide)]; exact m4
      · rw [g2, if_pos rfl, m5]
        unfold ruI
        rw [up2_k _ _ _ _ (by omega), up2_k _ _ _ _ (by omega), up2_k _ _ _ _ (by omega), up2_k _ _ _ _ (by omega), up2_hit]
    · refine (t2 q hq).cong (fun j => g1 _ _ (by omega) (by omega) (by omega) (by omega) (by omega)) (fun j => jk _ _ (by omega) (by omega) (by omega) (by omega) (by omega) (by omega)) (fun j => jk _ _ (by omega) (by omega) (by omega) (by omega) (by omega) (by omega)) ?_
      unfold ruI
      rw [up2_k _ _ _ _ (by omega), up2_k _ _ _ _ (by omega), up2_k _ _ _ _ (by omega), up2_k _ _ _ _ (by omega), up2_k _ _ _ _ (by omega), up2_k _ _ _ _ (by omega)]
  · have j6 : ∀ n, ruJ J i k c p3 li hm 6 n = if n = c then nI k else J 6 n := fun n => by
      unfold ruJ
      rw [up2_k _ _ _ _ (by decide), up2_k _ _ _ _ (by decide), up2_ap, up2_k _ _ _ _ (by decide), up2_k _ _ _ _ (by decide), up2_k _ _ _ _ (by omega)]
      simp
    have j7 : ∀ n, ruJ J i k c p3 li hm 7 n = if n = c then li else J 7 n := fun n => by
      unfold ruJ
      rw [up2_k _ _ _ _ (by decide), up2_ap, up2_k _ _ _ _ (by decide), up2_k _ _ _ _ (by decide), up2_k _ _ _ _ (by decide), up2_k _ _ _ _ (by omega)]
      simp
    have j9 : ∀ n, ruJ J i k c p3 li hm 9 n = if n = c then -1 else J 9 n := fun n => by
      unfold ruJ
      rw [up2_ap, up2_k _ _ _ _ (by decide), up2_k _ _ _ _ (by decide), up2_k _ _ _ _ (by decide), up2_k _ _ _ _ (by decide), up2_k _ _ _ _ (by omega)]
      simp
    have j8 : ∀ n, ruJ J i k c p3 li hm 8 n = J 8 n := fun n => jk _ _ (by omega) (by omega) (by omega) (by omega) (by omega) (by omega)
    unfold TKb1
    rw [j6, j7, j8, j9]
    by_cases e : j = c
    · subst e
      obtain ⟨y1, y2, y3, y4⟩ := g4
      rw [if_pos rfl, if_pos rfl, if_pos rfl, y1, y2, y3, y4, up2_hit, up2_hit]
      exact ⟨rfl, rfl, (R.bat.2 j (Nat.le_refl _) hc).2.2.symm, rfl, rfl⟩
    · obtain ⟨y1, y2, y3, y4, y5⟩ := t3 j (by omega)
      rw [if_neg e, if_neg e, if_neg e, up2_n _ _ _ e, up2_n _ _ _ e, g1 _ _ (by omega) (by omega) (by omega) (by omega) (by omega), g1 _ _ (by omega) (by omega) (by omega) (by omega) (by omega), g1 _ _ (by omega) (by omega) (by omega) (by omega) (by omega), g1 _ _ (by omega) (by omega) (by omega) (by omega) (by omega)]
      exact ⟨y1, y2, y3, y4, y5⟩
  · rw [g3]
    unfold ruJ
    rw [up2_k _ _ _ _ (by decide), up2_k _ _ _ _ (by decide), up2_k _ _ _ _ (by decide), up2_k _ _ _ _ (by decide), up2_ap, up2_k _ _ _ _ (by omega), t5 n hn]
    simp
set_option maxRecDepth 20000 in
theorem T_run (hLS : LS < 2 ^ 31) (hT : TR a b c d N I D K M) (hN : N + 20 < 2 ^ 19) (hb0 : 0 < b) : ∃ c' I' D' K' M', f_T_run LS xs a b c d I D K M = some (1, a, b, c', d, I', D', K', M') ∧ TR a b c' d (N + 20) I' D' K' M' := by
  obtain ⟨hd, h, J, E, hh, R, T⟩ := hT
  have ha := R.a6
  have hb := R.b5
  obtain ⟨i, K1, h1, e1, d1, k1⟩ := draw_k (LS := LS) (xs := xs) (a := a) (b := b) (c := c) (d := d) (I := I) (D := D) (M := M) hLS hd (by omega) (show 0 < 2 by decide) (by decide) 2
  obtain ⟨k, K2, hk, e2, d2, k2⟩ := draw_k (LS := LS) (xs := xs) (a := a) (b := b) (c := c) (d := d) (I := I) (D := D) (M := M) hLS d1 (by omega) hb0 (by omega) (nI b)
  obtain ⟨v3, K3, h3, e3, d3, k3⟩ := draw_k (LS := LS) (xs := xs) (a := a) (b := b) (c := c) (d := d) (I := I) (D := D) (M := M) hLS d2 (by omega) (show 0 < 30 by decide) (by decide) 30
  obtain ⟨v4, K4, h4, e4, d4, k4⟩ := draw_k (LS := LS) (xs := xs) (a := a) (b := b) (c := c) (d := d) (I := I) (D := D) (M := M) hLS d3 (by omega) (show 0 < 121 by decide) (by decide) 121
  have T4 : TK a b c d I J E K4 M := T.draws (fun q j y _ => (k4 q j y).trans ((k3 q j y).trans ((k2 q j y).trans (k1 q j y))))
  have f5 : ((5 : Int32) + nI v3).toInt = 5 + v3 := by rw [show (5 : Int32) + nI v3 = nI (5 + v3) from nI_add 5 v3, nI_toInt (by omega)]; omega
  have f20 : ((20 : Int32) + nI v4).toInt = 20 + v4 := by rw [show (20 : Int32) + nI v4 = nI (20 + v4) from nI_add 20 v4, nI_toInt (by omega)]; omega
  unfold f_T_run
  rw [e1, bd_s]; dsimp only
  rw [e2, bd_s]; dsimp only
  rw [e3, bd_s]; dsimp only
  rw [e4, bd_s]; dsimp only
  generalize (5 : Int32) + nI v3 = p3 at f5 ⊢
  generalize (20 : Int32) + nI v4 = p4 at f20 ⊢
  obtain ⟨x1, x2, x3⟩ := x_run0 R h1 hk (p3 := p3) (p4 := p4) (by omega) (by omega) (by omega) (by omega)
  have hbt := tbars (LS := LS) (xs := xs) R T4 h1 hk p3 p4
  rw [hbt, bd_s, x1, eO_ok, bd_s, if_pos rfl]
  obtain ⟨hv, -⟩ := barV_0 (I := I) (D := D) i k p3 p4
  by_cases e0 : barV I D i k p3 p4 = 0
  · obtain ⟨hc, y1⟩ := x2 e0
    have y2 := ru_RR R h1 hk hc p3 (((p3 - 2) * (100 + p4)) / 100)
    rw [if_pos (by rw [e0]; decide), y1]
    generalize ((p3 - 2) * (100 + p4)) / 100 = li at y1 y2 ⊢
    obtain ⟨t1, t2, t3, t4, t5⟩ := T4
    obtain ⟨m1, m2, m3, m4, m5⟩ := t2 k hk
    have hz : ∀ i, a ≤ i → i < 6 → J (25 + k) i = 0 := fun i g1 g2 => ((R.mix.1 k hk).2.1 i g2).2.2 g1
    have u6 : up2 K4 (60 + k) 6 (K4 (60 + k) 6 - p3) (60 + k) 9 = K4 (60 + k) 9 := up2_n _ _ _ (by decide)
    simp only [nm_v, inB_nI hk (show b < 2 ^ 31 by omega), ib6, ib9, ib0_4, ib1_4, ib2_4, ib3_4, ckt, tc0, tc1, tc2, tc3, tc6, tc9, nI_clamp (show k < 2 ^ 31 by omega), nI_clamp (show i < 2 ^ 31 by omega), nI_clamp (show c < 2 ^ 31 by omega), inB_nI h1 (show 2 < 2 ^ 31 by decide), inB_nI hc (show 12 < 2 ^ 31 by decide), decide_eq_true hc, u6]
    have hharm := tharms (LS := LS) (xs := xs) (c := c) (d := d) (I := I) (D := D) (M := M) (K := up2 (up2 K4 (60 + k) 6 (K4 (60 + k) 6 - p3)) (60 + k) 9 (K4 (60 + k) 9 + 1)) (J := J) k hk hb ha (t1.cong (fun q j hq => by rw [up2_k _ _ _ _ (by omega), up2_k _ _ _ _ (by omega)]) (fun _ _ _ => rfl)) (fun j hj => by rw [up2_n _ _ _ (by omega), up2_n _ _ _ (by omega)]; exact m1 j hj) hz
    rw [← (R.mix.1 k hk).2.2.2.2.2.2.1] at hharm
    rw [hharm, bd_s, eO_ok, bd_s]; dsimp only
    rw [nI_pred, if_pos rfl]
    refine ⟨_, _, _, _, _, rfl, d4.cong ?_ (by omega), h, _, _, by omega, y2, TK_run R (K := K4) ⟨t1, t2, t3, t4, t5⟩ h1 hk hc p3 li (I (13 + k) 6) (fun q j y1 y2 y3 y4 y5 => ?_) (fun j => ?_) (fun n => ?_) ⟨?_, ?_, ?_, ?_⟩⟩
    · rw [va_ap, if_neg (by omega)]
      simp [va_ap, up2_ap]
    · simp [va_ap, up2_ap, y1, y2, y3, y4]
    · have n1 : ¬ 60 + k = 70 + c := by omega
      have n2 : ¬ 60 + k = 34 := by omega
      have n3 : ¬ 60 + k = 44 := by omega
      simp [va_ap, up2_ap, n1, n2, n3]
    · have n1 : ¬ 44 = 70 + c := by omega
      have n3 : ¬ 44 = 60 + k := by omega
      simp [va_ap, up2_ap, n1, n3]
    · simp [va_ap, up2_ap]
    · simp [va_ap, up2_ap]
    · simp [va_ap, up2_ap]
    · simp [va_ap, up2_ap]
  · have hle : ¬ barV I D i k p3 p4 ≤ 0 := by
      rcases hv with e | e | e | e | e | e | e | e <;> rw [e] at e0 ⊢ <;> first | exact absurd rfl e0 | decide
    rw [if_neg hle, x3 e0, eO_ok, bd_s]; dsimp only
    rw [if_pos rfl]
    exact ⟨_, _, _, _, _, rfl, d4.cong rfl (by omega), h, J, E, by omega, R, T4⟩
set_option maxRecDepth 20000 in
theorem T_harden (hLS : LS < 2 ^ 31) (hT : TR a b c d N I D K M) (hN : N + 100 < 2 ^ 19) {j : Nat} (hj : j < c) : ∃ I' D' K' M', f_T_harden LS xs a b c d I D K M (nI j) = some (1, I', D', K', M') ∧ TR a b c d (N + 20) I' D' K' M' := by
  have same := hT.mono (N' := N + 20) (by omega)
  obtain ⟨hd, h, J, E, hh, R, T⟩ := hT
  have ha := R.a6
  have hb := R.b5
  have hc := R.c12
  have hd3 := R.d3
  obtain ⟨t1, t2, t3, t4, t5⟩ := id T
  obtain ⟨b0, b1, b2, b3, b4⟩ := t3 j hj
  obtain ⟨q1, q2, q3, q4, q5, q6, q7, q8, q9⟩ := R.bat.1 j hj
  have e3 : K (70 + j) 3 = I (18 + j) 2 := b3.trans q4
  have e2 : K (70 + j) 2 = I (18 + j) 3 := b2.trans q3
  have eM : M 42 j = D (18 + j) 4 := b4.trans q5
  unfold f_T_harden
  rw [inB_nI hj (by omega), ckt, ib3_4, ckt, ib2_4, tc3, tc2, nI_clamp (show j < 2 ^ 31 by omega), inB_nI (show j < 12 by omega) (by decide), ckt, ckt]
  by_cases c4 : K (70 + j) 3 = -1
  · rw [if_pos c4]
    by_cases c3 : K (70 + j) 2 = 1
    · rw [if_pos c3]
      exact ⟨_, _, _, _, rfl, same⟩
    · rw [if_neg c3]
      have c3' : I (18 + j) 3 = 0 := by
        rw [e2] at c3
        exact q8.resolve_right c3
      rw [e3] at c4
      obtain ⟨v, K1, h1, e1, d1, k1⟩ := draw_k (LS := LS) (xs := xs) (a := a) (b := b) (c := c) (d := d) (I := I) (D := D) (M := M) hLS hd (by omega) (show 0 < 81 by decide) (by decide) 81
      have f10 : ((10 : Int32) + nI v).toInt = 10 + v := by rw [show (10 : Int32) + nI v = nI (10 + v) from nI_add 10 v, nI_toInt (by omega)]; omega
      rw [e1, bd_s]; dsimp only
      generalize (10 : Int32) + nI v = p at f10 ⊢
      obtain ⟨x1, x2⟩ := x_harden R (by omega) hj c4 c3' (p2 := p) (by omega) (by omega)
      have y1 : rg 320 2880 (FP.i2d p) := rg_i2d (by omega) (by omega)
      have y2 := rg_mul y1 8 (by decide) rc_25.1 zc_25 80 720 (by decide) (by decide) (by decide) (by decide)
      have y3 := (x2.crg hj)
      rw [up2_hit] at y3
      rw [x1]
      simp only [ckt, nm_v, eM, y2.okD, y3.okD, eO_ok, bd_s, up2_hit, cm_rf y3.1, if_true]
      have T1 : TK a b c d I J E K1 M := T.draws (fun q j y _ => k1 q j y)
      obtain ⟨t1, t2, t3, t4, t5⟩ := T1
      have jk : ∀ q n, q ≠ 8 → up2 J (5 + 3) j 1 q n = J q n := fun q n y => by rw [up2_k _ _ _ _ y]
      refine ⟨_, _, _, _, rfl, d1.cong (by rw [up2_k _ _ _ _ (by omega)]) (by omega), h + 1, _, _, by omega, x2, t1.cong (fun q n hq => by rw [up2_k _ _ _ _ (by omega)]) (fun q n hq => jk _ _ (by omega)), fun q hq => (t2 q hq).cong (fun n => by rw [up2_k _ _ _ _ (by omega)]) (fun n => jk _ _ (by omega)) (fun n => jk _ _ (by omega)) (by rw [up2_k _ _ _ _ (by omega)]), fun q hq => ?_, t4.cong (fun q hq => by rw [up2_k _ _ _ _ (by omega)]) (fun q hq => jk _ _ (by omega)) (fun q hq => by rw [up2_k _ _ _ _ (by decide)]) (fun q hq => by rw [up2_k _ _ _ _ (by decide)]), t5.cong (fun q hq => by rw [up2_k _ _ _ _ (by omega)]) (fun q hq => jk _ _ (by omega))⟩
      obtain ⟨s0, s1, s2, s3, s4⟩ := t3 q hq
      unfold TKb1
      rw [jk 6 _ (by decide), jk 7 _ (by decide), jk 9 _ (by decide)]
      by_cases e : q = j
      · subst e
        exact ⟨by rw [up2_n _ _ _ (by decide)]; exact s0, by rw [up2_n _ _ _ (by decide)]; exact s1, (up2_hit K1 _ _ _).trans (up2_hit J 8 q 1).symm, by rw [up2_n _ _ _ (by decide)]; exact s3, (up2_hit M 42 q _).trans (up2_hit E 10 q _).symm⟩
      · have hne : 70 + q ≠ 70 + j := by omega
        exact ⟨by rw [up2_k _ _ _ _ hne]; exact s0, by rw [up2_k _ _ _ _ hne]; exact s1, by rw [up2_k _ _ _ _ hne, show (5 + 3) = 8 from rfl, up2_n _ _ _ e]; exact s2, by rw [up2_k _ _ _ _ hne]; exact s3, by rw [up2_n _ _ _ e, show (5 + 5) = 10 from rfl, up2_n _ _ _ e]; exact s4⟩
  · rw [if_neg c4]
    exact ⟨_, _, _, _, rfl, same⟩
set_option maxRecDepth 20000 in
theorem T_lay (hLS : LS < 2 ^ 31) (hT : TR a b c d N I D K M) (hN : N + 20 < 2 ^ 19) (hd0 : 0 < d) {j : Nat} (hj : j < c) : ∃ I' D' K', f_T_lay LS xs a b c d I D K M (nI j) = some (1, I', D', K') ∧ TR a b c d (N + 20) I' D' K' M := by
  have same := hT.mono (N' := N + 20) (by omega)
  obtain ⟨hd, h, J, E, hh, R, T⟩ := hT
  have ha := R.a6
  have hb := R.b5
  have hc := R.c12
  have hd3 := R.d3
  obtain ⟨t1, t2, t3, t4, t5⟩ := id T
  obtain ⟨b0, b1, b2, b3, b4⟩ := t3 j hj
  obtain ⟨q1, q2, q3, q4, q5, q6, q7, q8, q9⟩ := R.bat.1 j hj
  have e3 : K (70 + j) 3 = I (18 + j) 2 := b3.trans q4
  have e2 : K (70 + j) 2 = I (18 + j) 3 := b2.trans q3
  unfold f_T_lay
  rw [inB_nI hj (by omega), ckt, ib3_4, ib2_4, ckt, tc3, tc2, nI_clamp (show j < 2 ^ 31 by omega), ckt, ckt]
  by_cases c3 : K (70 + j) 2 = 0
  · rw [if_pos c3]
    exact ⟨_, _, _, rfl, same⟩
  · rw [if_neg c3]
    by_cases c4 : K (70 + j) 3 ≤ 9
    · rw [if_pos c4]
      obtain ⟨s, K1, h1, e1, d1, k1⟩ := draw_k (LS := LS) (xs := xs) (a := a) (b := b) (c := c) (d := d) (I := I) (D := D) (M := M) hLS hd (by omega) hd0 (by omega) (nI d)
      rw [e1, bd_s]; dsimp only
      have c4' : I (18 + j) 2 < 10 := by
        rw [e3, leI, show (9 : Int32).toInt = 9 by decide] at c4
        rw [ltI, show (10 : Int32).toInt = 10 by decide]
        omega
      have hx := x_lay R hj h1 (by rw [← e2]; exact c3) c4'
      have x2 := R.place hj (p := nI s) (Or.inr (Or.inl ⟨s, h1, rfl⟩))
      rw [hx]
      simp only [ckt, nm_v, eO_ok, bd_s, tin_ok _ hc]
      have T1 : TK a b c d I J E K1 M := T.draws (fun q j y _ => k1 q j y)
      obtain ⟨t1, t2, t3, t4, t5⟩ := T1
      have jk : ∀ q n, q ≠ 9 → up2 J 9 j (nI s) q n = J q n := fun q n y => by rw [up2_k _ _ _ _ y]
      have hb1 : TKb c (up2 J 9 j (nI s)) (up2 K1 (70 + j) 3 (nI s)) E M := fun q hq => by
        obtain ⟨s0, s1, s2, s3, s4⟩ := t3 q hq
        unfold TKb1
        rw [jk 6 _ (by decide), jk 7 _ (by decide), jk 8 _ (by decide)]
        by_cases e : q = j
        · subst e
          rw [up2_n _ _ _ (by decide), up2_n _ _ _ (by decide), up2_n _ _ _ (by decide), up2_hit, up2_hit]
          exact ⟨s0, s1, s2, rfl, s4⟩
        · rw [up2_k _ _ _ _ (by omega), up2_k _ _ _ _ (by omega), up2_k _ _ _ _ (by omega), up2_k _ _ _ _ (by omega), up2_n _ _ _ e]
          exact ⟨s0, s1, s2, s3, s4⟩
      rw [if_pos (congrArg nI (cQ_cong c (fun q hq => (hb1 q hq).2.2.2.1.symm)))]
      exact ⟨_, _, _, rfl, d1.cong (by rw [up2_k _ _ _ _ (by omega)]) (by omega), h, _, _, by omega, x2, t1.cong (fun q n hq => by rw [up2_k _ _ _ _ (by omega)]) (fun q n hq => jk _ _ (by omega)), fun q hq => (t2 q hq).cong (fun n => by rw [up2_k _ _ _ _ (by omega)]) (fun n => jk _ _ (by omega)) (fun n => jk _ _ (by omega)) (by rw [up2_k _ _ _ _ (by omega)]), hb1, t4.cong (fun q hq => by rw [up2_k _ _ _ _ (by omega)]) (fun q hq => jk _ _ (by omega)) (fun _ _ => rfl) (fun _ _ => rfl), t5.cong (fun q hq => by rw [up2_k _ _ _ _ (by omega)]) (fun q hq => jk _ _ (by omega))⟩
    · rw [if_neg c4]
      exact ⟨_, _, _, rfl, same⟩
end TLD
