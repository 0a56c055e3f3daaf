/-! ===== calls that write: call, run ===== -/
section WRC
variable {a b c d h : Nat} {I J : MI} {D E : MD}
set_option maxRecDepth 20000 in
theorem bits_k : ∀ b0 b1 b2 b3 b4 b5 : Bool, ∀ i, i < 6 → ((((if b0 = true then (0 : Int32) else (1 : Int32) <<< (nI 0 &&& 31)) ||| ((if b1 = true then (0 : Int32) else (1 : Int32) <<< (nI 1 &&& 31)) ||| ((if b2 = true then (0 : Int32) else (1 : Int32) <<< (nI 2 &&& 31)) ||| ((if b3 = true then (0 : Int32) else (1 : Int32) <<< (nI 3 &&& 31)) ||| ((if b4 = true then (0 : Int32) else (1 : Int32) <<< (nI 4 &&& 31)) ||| ((if b5 = true then (0 : Int32) else (1 : Int32) <<< (nI 5 &&& 31)) ||| 0)))))) &&& ((1 : Int32) <<< (nI i &&& 31)) = 0) ↔ (if i = 0 then b0 else if i = 1 then b1 else if i = 2 then b2 else if i = 3 then b3 else if i = 4 then b4 else b5) = true) := by decide +kernel
set_option maxRecDepth 20000 in
theorem bits6 (q : Nat → Bool) {i : Nat} (hi : i < 6) : (oF (fun j => if q j = true then (0 : Int32) else (1 : Int32) <<< (nI j &&& 31)) 0 6) &&& ((1 : Int32) <<< (nI i &&& 31)) = 0 ↔ q i = true := by
  have k := bits_k (q 0) (q 1) (q 2) (q 3) (q 4) (q 5) i hi
  refine Iff.trans k ?_
  rcases w6 hi with rfl | rfl | rfl | rfl | rfl | rfl <;> exact Iff.rfl
set_option maxRecDepth 20000 in
theorem RR.hold (R : RR 0 a b c d h I D J E) {m i : Nat} (hm : m < b) (hi : i < 6) : (I (13 + m) 7 &&& (1 <<< (nI i &&& 31)) = 0) ↔ J (25 + m) i ≤ 0 := by
  have k := bits6 (fun j => decide (J (25 + m) j ≤ 0)) hi
  rw [(R.mix.1 m hm).2.2.2.2.2.2.2.1]
  have e : oF (fun i => if J (25 + m) i ≤ 0 then 0 else (1 <<< (nI i &&& 31))) 0 6 = oF (fun j => if decide (J (25 + m) j ≤ 0) = true then (0 : Int32) else 1 <<< (nI j &&& 31)) 0 6 := oF_cong 6 0 (fun j _ _ => by
    by_cases g : J (25 + m) j ≤ 0
    · rw [if_pos g, if_pos (decide_eq_true g)]
    · rw [if_neg g, if_neg (by rw [decide_eq_false g]; decide)])
  rw [e]
  refine k.trans ?_
  show decide (J (25 + m) i ≤ 0) = true ↔ _
  exact decide_eq_true_iff
set_option maxRecDepth 20000 in
theorem call_L (R : RR 0 a b c d h I D J E) {i : Nat} (hi : i < 6) (vI vJ : Int32) : ∀ (m j n : Nat) (acc : Int32), j + m = c → m < n → ∃ v, f_X4_call_L27 D (nI i) (up2 I 0 12 vI) n (nI j) acc = some (.ok (v, up2 I 0 12 vI, D)) ∧ f_X7_call_L35 a b E (nI i) (up2 J 0 8 vJ) n (nI j) acc = some (v, up2 J 0 8 vJ, E)
  | 0, j, n, acc, h1, h2 => by
    have hc := R.c12
    obtain ⟨n, rfl⟩ : ∃ n', n = n' + 1 := ⟨n - 1, by omega⟩
    obtain rfl : j = c := by omega
    refine ⟨acc, ?_, ?_⟩
    · rw [f_X4_call_L27, up2_n _ _ _ (by decide), R.I7, if_pos (nI_le (Nat.le_refl _) (by omega))]
    · rw [f_X7_call_L35, up2_k _ _ _ _ (by decide), R.J5, if_pos (nI_le (Nat.le_refl _) (by omega))]
  | m + 1, j, n, acc, h1, h2 => by
    have hc := R.c12
    have hb := R.b5
    obtain ⟨n, rfl⟩ : ∃ n', n = n' + 1 := ⟨n - 1, by omega⟩
    have hj : j < c := by omega
    obtain ⟨q1, q2, q3, q4, q5, q6, q7, q8, q9⟩ := R.bat.1 j hj
    obtain ⟨mx, hmx, emx, -⟩ := R.ofB hj
    have u1 : up2 I 0 12 vI (18 + j) 2 = I (18 + j) 2 := up2_k _ _ _ _ (by omega)
    have u2 : up2 I 0 12 vI (18 + j) 1 = I (18 + j) 1 := up2_k _ _ _ _ (by omega)
    have u3 : up2 I 0 12 vI (18 + j) 0 = nI mx := by rw [up2_k _ _ _ _ (by omega)]; exact emx
    have u4 : up2 I 0 12 vI (13 + mx) 7 = I (13 + mx) 7 := up2_k _ _ _ _ (by omega)
    have u5 : up2 J 0 8 vJ (5 + 4) j = I (18 + j) 2 := by rw [up2_k _ _ _ _ (by omega)]; exact q4
    have u6 : up2 J 0 8 vJ (5 + 2) j = I (18 + j) 1 := by rw [up2_k _ _ _ _ (by omega)]; exact q2
    have u7 : up2 J 0 8 vJ (5 + 1) j = nI mx := by rw [up2_k _ _ _ _ (by omega)]; exact q1.trans emx
    have u8 : up2 J 0 8 vJ (25 + mx) i = J (25 + mx) i := up2_k _ _ _ _ (by omega)
    have hg : f_get2 a b (up2 J 0 8 vJ) E (nI mx) = some mx := get2_ok (R.gt.cong (fun n => up2_k _ _ _ _ (by omega)) (fun n => up2_k _ _ _ _ (by omega))) E hmx
    have hh : f_X4_holdsAnyOf (up2 I 0 12 vI) D j (1 <<< (nI i &&& 31)) = some (if J (25 + mx) i ≤ 0 then 0 else 1) := by
      unfold f_X4_holdsAnyOf
      rw [u3, inB_nI (show mx < 5 by omega) (by decide), nI_clamp (by omega), ckt, u4]
      by_cases g : J (25 + mx) i ≤ 0
      · rw [if_pos g, if_pos ((R.hold hmx hi).mpr g)]
      · rw [if_neg g, if_neg (fun q => g ((R.hold hmx hi).mp q))]
    have hcond : ∀ (w : Int32), f_X4_call_L27 D (nI i) (up2 I 0 12 vI) (n + 1) (nI j) acc = f_X4_call_L27 D (nI i) (up2 I 0 12 vI) n (nI (j + 1)) w → f_X7_call_L35 a b E (nI i) (up2 J 0 8 vJ) (n + 1) (nI j) acc = f_X7_call_L35 a b E (nI i) (up2 J 0 8 vJ) n (nI (j + 1)) w → ∃ v, f_X4_call_L27 D (nI i) (up2 I 0 12 vI) (n + 1) (nI j) acc = some (.ok (v, up2 I 0 12 vI, D)) ∧ f_X7_call_L35 a b E (nI i) (up2 J 0 8 vJ) (n + 1) (nI j) acc = some (v, up2 J 0 8 vJ, E) := by
      intro w e1 e2
      rw [e1, e2]
      exact call_L R hi vI vJ m (j + 1) n w (by omega) (by omega)
    have c1 : f_X4_call_L27 D (nI i) (up2 I 0 12 vI) (n + 1) (nI j) acc = (if I (18 + j) 2 = 10 then (if (if J (25 + mx) i ≤ 0 then (0 : Int32) else 1) = 0 then f_X4_call_L27 D (nI i) (up2 I 0 12 vI) n (nI (j + 1)) acc else f_X4_call_L27 D (nI i) (up2 I 0 12 vI) n (nI (j + 1)) (acc + I (18 + j) 1)) else f_X4_call_L27 D (nI i) (up2 I 0 12 vI) n (nI (j + 1)) acc) := by
      rw [f_X4_call_L27, up2_n _ _ _ (by decide), R.I7, if_neg (nI_ge (by omega) (by omega)), inB_nI (show j < 12 by omega) (by decide), nI_clamp (by omega), u1, u2, hh, nI_1]
      simp only [ckt, bd_s]
    have c2 : f_X7_call_L35 a b E (nI i) (up2 J 0 8 vJ) (n + 1) (nI j) acc = (if I (18 + j) 2 = 10 then (if J (25 + mx) i ≤ 0 then f_X7_call_L35 a b E (nI i) (up2 J 0 8 vJ) n (nI (j + 1)) (acc + 0) else f_X7_call_L35 a b E (nI i) (up2 J 0 8 vJ) n (nI (j + 1)) (acc + I (18 + j) 1)) else f_X7_call_L35 a b E (nI i) (up2 J 0 8 vJ) n (nI (j + 1)) (acc + 0)) := by
      rw [f_X7_call_L35, up2_k _ _ _ _ (by decide), R.J5, if_neg (nI_ge (by omega) (by omega)), inB_nI (show j < 12 by omega) (by decide), nI_clamp (show j < 2 ^ 31 by omega), u5, u6, u7, hg, nI_1, inB_nI hi (by decide), nI_clamp (show i < 2 ^ 31 by omega)]
      simp only [ckt, bd_s, u8]
    rw [Int32.add_zero] at c2
    by_cases g1 : I (18 + j) 2 = 10
    · rw [if_pos g1] at c1 c2
      by_cases g2 : J (25 + mx) i ≤ 0
      · rw [if_pos g2, if00] at c1
        rw [if_pos g2] at c2
        exact hcond _ c1 c2
      · rw [if_neg g2, if10] at c1
        rw [if_neg g2] at c2
        exact hcond _ c1 c2
    · rw [if_neg g1] at c1 c2
      exact hcond _ c1 c2
set_option maxRecDepth 20000 in
theorem a_call (R : RR 0 a b c d h I D J E) (p1 : Int32) : agW (fun _ => True) (PP a b h) I D [IOB] (f_X4_call I D p1) (f_X7_call a b J E p1) := by
  have R0 := R.thr 0
  have t0 : up2 J 0 0 0 0 0 = 0 := up2_hit J 0 0 0
  unfold f_X7_call
  rw [nm_v]
  generalize up2 J 0 0 0 = J0 at R0 t0 ⊢
  unfold f_X4_call
  have ha := R0.a6
  have hc := R0.c12
  rcases num p1 (b31 ha) with ⟨i, hi, rfl, h1, h2⟩ | ⟨h1, h2⟩
  · obtain ⟨⟨a1, a2, a3, a4⟩, ⟨b1, b2, b3, b4⟩, ⟨c1, c2, c3⟩, ⟨d1, d2, d3⟩, ⟨k1, k2, k3, k4⟩, r, f⟩ := R0.1
    obtain ⟨v, l1, l2⟩ := call_L R0 (show i < 6 by omega) (I 0 12 ||| (1 <<< (nI i &&& 31))) (J0 0 8 ||| (1 <<< (nI i &&& 31))) c 0 200 0 (by omega) (by omega)
    rw [R0.I5, h1, bE_o, ixI R0.J1 (by decide) h2, bd_s, if10]
    simp only [nm_v]
    rw [show f_X4_call_L27 D (nI i) (up2 I 0 12 (I 0 12 ||| (1 <<< (nI i &&& 31)))) 200 0 0 = _ from l1, show f_X7_call_L35 a b E (nI i) (up2 J0 0 8 (J0 0 8 ||| (1 <<< (nI i &&& 31)))) 200 0 0 = _ from l2]
    refine agW_ok rfl trivial (by rw [up2_n _ _ _ (by decide)]; exact t0) ⟨c, d, h, by omega, ⟨⟨?_, ?_, ?_, a4⟩, ⟨?_, ?_, ?_, b4⟩, ⟨?_, ?_, c3⟩, ⟨?_, ?_, d3⟩, ⟨?_, ?_, ?_, ?_⟩, fun n hn => ?_, fun n hn => ?_⟩, R0.ing.cong a4 (fun k n _ _ => by rw [up2_k _ _ _ _ (by omega)]) (fun k n _ _ => by rw [up2_k _ _ _ _ (by omega)]), R0.mix.cong b4 (fun k n _ _ => by rw [up2_k _ _ _ _ (by omega)]) (fun _ _ _ => rfl) (fun i _ => by rw [up2_k _ _ _ _ (by omega)]) (fun k n _ _ => by rw [up2_k _ _ _ _ (by omega)]), R0.bat.cong c3 (fun k n _ _ => by rw [up2_k _ _ _ _ (by omega)]) (fun _ _ _ => rfl) (fun k n _ _ => by rw [up2_k _ _ _ _ (by omega)]) (fun _ => rfl), R0.sto.cong d3 (fun k _ _ => by rw [up2_k _ _ _ _ (by omega)]) (fun _ _ _ => rfl) (fun n => by rw [up2_k _ _ _ _ (by omega)]) (fun _ => rfl), R0.h20⟩
    · rw [up2_n _ _ _ (by decide)]; exact a1
    · rw [up2_k _ _ _ _ (by decide)]; exact a2
    · rw [up2_k _ _ _ _ (by decide)]; exact a3
    · rw [up2_n _ _ _ (by decide)]; exact b1
    · rw [up2_k _ _ _ _ (by decide)]; exact b2
    · rw [up2_k _ _ _ _ (by decide)]; exact b3
    · rw [up2_n _ _ _ (by decide)]; exact c1
    · rw [up2_k _ _ _ _ (by decide)]; exact c2
    · rw [up2_n _ _ _ (by decide)]; exact d1
    · rw [up2_k _ _ _ _ (by decide)]; exact d2
    · rw [up2_n _ _ _ (by decide), up2_n _ _ _ (by decide)]; exact k1
    · rw [up2_n _ _ _ (by decide), up2_n _ _ _ (by decide)]; exact k2
    · rw [up2_n _ _ _ (by decide), up2_n _ _ _ (by decide)]; exact k3
    · rw [up2_hit, up2_hit, k4]
    · exact (up2_k _ _ _ _ (by decide)).trans ((r n hn).trans (up2_k _ _ _ _ (by decide)).symm)
    · rw [up2_k _ _ _ _ (by decide)]; exact f n hn
  · rw [R0.I5, h1, bE_e, ixI R0.J1 (by decide) h2, bd_s, if00, no_e, bd_s]
    exact agW_er 0 rfl (up2_hit J0 0 0 _) (R0.ppt 1)
/- a run that nothing bars -/
def ruI (I : MI) (i k c : Nat) (p3 li : Int32) : MI := up2 (up2 (up2 (up2 (up2 (up2 I (13 + k) 1 (I (13 + k) 1 - p3)) (13 + k) 9 (I (13 + k) 9 + 1)) 5 i (I (13 + k) 6)) (18 + c) 0 (nI k)) (18 + c) 1 li) 0 7 (nI (c + 1))
def ruJ (J : MI) (i k c : Nat) (p3 li hm : Int32) : MI := up2 (up2 (up2 (up2 (up2 (up2 J (20 + k) 1 (J (20 + k) 1 - p3)) 13 i hm) 5 0 (nI (c + 1))) (5 + 1) c (nI k)) (5 + 2) c li) (5 + 4) c (-1)
set_option maxRecDepth 20000 in
theorem ru_RR (R : RR 0 a b c d h I D J E) {i k : Nat} (hi : i < 2) (hk : k < b) (hc : c < 12) (p3 li : Int32) : RR 0 a b (c + 1) d h (ruI I i k c p3 li) (up2 D (18 + c) 4 4626322717216342016) (ruJ J i k c p3 li (I (13 + k) 6)) (up2 E 10 c 4626322717216342016) := by
  have hb := R.b5
  obtain ⟨⟨a1, a2, a3, a4⟩, ⟨b1, b2, b3, b4⟩, ⟨c1, c2, c3⟩, ⟨d1, d2, d3⟩, ⟨k1, k2, k3, k4⟩, r, f⟩ := R.1
  have xI : ∀ j n, j ≠ 0 → j ≠ 5 → j ≠ 13 + k → j ≠ 18 + c → ruI I i k c p3 li j n = I j n := fun j n g1 g2 g3 g4 => by
    unfold ruI
    rw [up2_k _ _ _ _ g1, up2_k _ _ _ _ g4, up2_k _ _ _ _ g4, up2_k _ _ _ _ g2, up2_k _ _ _ _ g3, up2_k _ _ _ _ g3]
  have xI0 : ∀ n, n ≠ 7 → ruI I i k c p3 li 0 n = I 0 n := fun n g => by
    unfold ruI
    rw [up2_n _ _ _ g, up2_k _ _ _ _ (by omega), up2_k _ _ _ _ (by omega), up2_k _ _ _ _ (by omega), up2_k _ _ _ _ (by omega), up2_k _ _ _ _ (by omega)]
  have xI5 : ∀ n, ruI I i k c p3 li 5 n = if n = i then I (13 + k) 6 else I 5 n := fun n => by
    unfold ruI
    rw [up2_k _ _ _ _ (by omega), up2_k _ _ _ _ (by omega), up2_k _ _ _ _ (by omega), up2_ap, up2_k _ _ _ _ (by omega), up2_k _ _ _ _ (by omega)]
    by_cases e : n = i
    · rw [if_pos ⟨rfl, e⟩, if_pos e]
    · rw [if_neg (fun q => e q.2), if_neg e]
  have xIk : ∀ n, n ≠ 1 → n ≠ 9 → ruI I i k c p3 li (13 + k) n = I (13 + k) n := fun n g1 g9 => by
    unfold ruI
    rw [up2_k _ _ _ _ (by omega), up2_k _ _ _ _ (by omega), up2_k _ _ _ _ (by omega), up2_k _ _ _ _ (by omega), up2_n _ _ _ g9, up2_n _ _ _ g1]
  have xIk1 : ruI I i k c p3 li (13 + k) 1 = I (13 + k) 1 - p3 := by
    unfold ruI
    rw [up2_k _ _ _ _ (by omega), up2_k _ _ _ _ (by omega), up2_k _ _ _ _ (by omega), up2_k _ _ _ _ (by omega), up2_n _ _ _ (by decide), up2_hit]
  have xIk9 : ruI I i k c p3 li (13 + k) 9 = I (13 + k) 9 + 1 := by
    unfold ruI
    rw [up2_k _ _ _ _ (by omega), up2_k _ _ _ _ (by omega), up2_k _ _ _ _ (by omega), up2_k _ _ _ _ (by omega), up2_hit]
  have xIc0 : ruI I i k c p3 li (18 + c) 0 = nI k := by
    unfold ruI
    rw [up2_k _ _ _ _ (by omega), up2_n _ _ _ (by decide), up2_hit]
  have xIc1 : ruI I i k c p3 li (18 + c) 1 = li := by
    unfold ruI
    rw [up2_k _ _ _ _ (by omega), up2_hit]
  have xIc : ∀ n, n ≠ 0 → n ≠ 1 → ruI I i k c p3 li (18 + c) n = I (18 + c) n := fun n g0 g1 => by
    unfold ruI
    rw [up2_k _ _ _ _ (by omega), up2_n _ _ _ g1, up2_n _ _ _ g0, up2_k _ _ _ _ (by omega), up2_k _ _ _ _ (by omega), up2_k _ _ _ _ (by omega)]
  have xJ : ∀ j n, j ≠ 5 → j ≠ 6 → j ≠ 7 → j ≠ 9 → j ≠ 13 → j ≠ 20 + k → ruJ J i k c p3 li (I (13 + k) 6) j n = J j n := fun j n g1 g2 g3 g4 g5 g6 => by
    unfold ruJ
    rw [up2_k _ _ _ _ g4, up2_k _ _ _ _ g3, up2_k _ _ _ _ g2, up2_k _ _ _ _ g1, up2_k _ _ _ _ g5, up2_k _ _ _ _ g6]
  have xJ5 : ∀ n, n ≠ 0 → ruJ J i k c p3 li (I (13 + k) 6) 5 n = J 5 n := fun n g => by
    unfold ruJ
    rw [up2_k _ _ _ _ (by omega), up2_k _ _ _ _ (by omega), up2_k _ _ _ _ (by omega), up2_n _ _ _ g, up2_k _ _ _ _ (by omega), up2_k _ _ _ _ (by omega)]
  have xJ13 : ∀ n, ruJ J i k c p3 li (I (13 + k) 6) 13 n = if n = i then I (13 + k) 6 else J 13 n := fun n => by
    unfold ruJ
    rw [up2_k _ _ _ _ (by omega), up2_k _ _ _ _ (by omega), up2_k _ _ _ _ (by omega), up2_k _ _ _ _ (by omega), up2_ap, up2_k _ _ _ _ (by omega)]
    by_cases e : n = i
    · rw [if_pos ⟨rfl, e⟩, if_pos e]
    · rw [if_neg (fun q => e q.2), if_neg e]
  have xJk : ∀ n, n ≠ 1 → ruJ J i k c p3 li (I (13 + k) 6) (20 + k) n = J (20 + k) n := fun n g => by
    unfold ruJ
    rw [up2_k _ _ _ _ (by omega), up2_k _ _ _ _ (by omega), up2_k _ _ _ _ (by omega), up2_k _ _ _ _ (by omega), up2_k _ _ _ _ (by omega), up2_n _ _ _ g]
  have xJk1 : ruJ J i k c p3 li (I (13 + k) 6) (20 + k) 1 = J (20 + k) 1 - p3 := by
    unfold ruJ
    rw [up2_k _ _ _ _ (by omega), up2_k _ _ _ _ (by omega), up2_k _ _ _ _ (by omega), up2_k _ _ _ _ (by omega), up2_k _ _ _ _ (by omega), up2_hit]
  have xJ6 : ∀ n, ruJ J i k c p3 li (I (13 + k) 6) 6 n = if n = c then nI k else J 6 n := fun n => by
    unfold ruJ
    rw [up2_k _ _ _ _ (by omega), up2_k _ _ _ _ (by omega), up2_ap, up2_k _ _ _ _ (by omega), up2_k _ _ _ _ (by omega), up2_k _ _ _ _ (by omega)]
    by_cases e : n = c
    · rw [if_pos ⟨rfl, e⟩, if_pos e]
    · rw [if_neg (fun q => e q.2), if_neg e]
  have xJ7 : ∀ n, ruJ J i k c p3 li (I (13 + k) 6) 7 n = if n = c then li else J 7 n := fun n => by
    unfold ruJ
    rw [up2_k _ _ _ _ (by omega), up2_ap, up2_k _ _ _ _ (by omega), up2_k _ _ _ _ (by omega), up2_k _ _ _ _ (by omega), up2_k _ _ _ _ (by omega)]
    by_cases e : n = c
    · rw [if_pos ⟨rfl, e⟩, if_pos e]
    · rw [if_neg (fun q => e q.2), if_neg e]
  have xJ9 : ∀ n, ruJ J i k c p3 li (I (13 + k) 6) 9 n = if n = c then -1 else J 9 n := fun n => by
    unfold ruJ
    rw [up2_ap, up2_k _ _ _ _ (by omega), up2_k _ _ _ _ (by omega), up2_k _ _ _ _ (by omega), up2_k _ _ _ _ (by omega), up2_k _ _ _ _ (by omega)]
    by_cases e : n = c
    · rw [if_pos ⟨rfl, e⟩, if_pos e]
    · rw [if_neg (fun q => e q.2), if_neg e]
  have hcB : ∀ j, j < b → cB (ruI I i k c p3 li) j (c + 1) = cB I j c + (if j = k then 1 else 0) := fun j hj => by
    show cB (ruI I i k c p3 li) j c + (if ruI I i k c p3 li (18 + c) 0 = nI j then 1 else 0) = _
    rw [cB_cong c (fun n hn => xI (18 + n) 0 (by omega) (by omega) (by omega) (by omega)), xIc0]
    by_cases e : j = k
    · subst e; rw [if_pos rfl, if_pos rfl]
    · rw [if_neg (fun q => e ((nI_eq (by omega) (by omega)).mp q).symm), if_neg e]
  obtain ⟨hB1, hB2⟩ := R.bat
  refine ⟨⟨⟨?_, ?_, ?_, a4⟩, ⟨?_, ?_, ?_, b4⟩, ⟨?_, ?_, hc⟩, ⟨?_, ?_, d3⟩, ⟨?_, ?_, ?_, ?_⟩, fun n hn => ?_, fun n hn => ?_⟩, R.ing.cong a4 (fun j n _ _ => xI j n (by omega) (by omega) (by omega) (by omega)) (fun j n _ _ => xJ j n (by omega) (by omega) (by omega) (by omega) (by omega) (by omega)), ⟨fun j hj => ?_, fun j g1 g2 n hn => ?_⟩, ⟨fun j hj => ?_, fun j g1 g2 => ?_⟩, R.sto.cong d3 (fun j _ _ => xI j 0 (by omega) (by omega) (by omega) (by omega)) (fun j _ _ => up2_k _ _ _ _ (by omega)) (fun n => xJ 11 n (by omega) (by omega) (by omega) (by omega) (by omega) (by omega)) (fun n => up2_k _ _ _ _ (by omega)), R.h20⟩
  · rw [xI0 _ (by decide)]; exact a1
  · rw [xJ _ _ (by omega) (by omega) (by omega) (by omega) (by omega) (by omega)]; exact a2
  · rw [xJ _ _ (by omega) (by omega) (by omega) (by omega) (by omega) (by omega)]; exact a3
  · rw [xI0 _ (by decide)]; exact b1
  · rw [xJ _ _ (by omega) (by omega) (by omega) (by omega) (by omega) (by omega)]; exact b2
  · rw [xJ _ _ (by omega) (by omega) (by omega) (by omega) (by omega) (by omega)]; exact b3
  · unfold ruI; rw [up2_hit]
  · unfold ruJ
    rw [up2_k _ _ _ _ (by omega), up2_k _ _ _ _ (by omega), up2_k _ _ _ _ (by omega), up2_hit]
  · rw [xI0 _ (by decide)]; exact d1
  · rw [xJ5 _ (by decide)]; exact d2
  · rw [xI0 _ (by decide), xJ _ _ (by omega) (by omega) (by omega) (by omega) (by omega) (by omega)]; exact k1
  · rw [xI0 _ (by decide), xJ _ _ (by omega) (by omega) (by omega) (by omega) (by omega) (by omega)]; exact k2
  · rw [xI0 _ (by decide), xJ _ _ (by omega) (by omega) (by omega) (by omega) (by omega) (by omega)]; exact k3
  · rw [xI0 _ (by decide), xJ _ _ (by omega) (by omega) (by omega) (by omega) (by omega) (by omega)]; exact k4
  · rw [xI5, xJ13, r n hn]
  · rw [xI _ _ (by omega) (by omega) (by omega) (by omega)]; exact f n hn
  · by_cases e : j = k
    · subst e
      obtain ⟨⟨m1, m2, m3, m4⟩, h5, ⟨h6, h7⟩, h8, h9, h10, h11, h12, h13, h14⟩ := R.mix.1 j hj
      have eK : ruJ J i j c p3 li (I (13 + j) 6) (25 + j) = J (25 + j) := funext (fun n => xJ _ _ (by omega) (by omega) (by omega) (by omega) (by omega) (by omega))
      have eG : ∀ i', i' < 6 → ruJ J i j c p3 li (I (13 + j) 6) (14 + i') = J (14 + i') := fun i' hi' => funext (fun n => xJ _ _ (by omega) (by omega) (by omega) (by omega) (by omega) (by omega))
      refine ⟨⟨?_, ?_, ?_, ?_⟩, ?_, ⟨?_, ?_⟩, ?_, ?_, ?_, ?_, ?_, ?_, ?_⟩
      · rw [xJk1, xIk1, m1]
      · rw [xJk _ (by decide), xIk _ (by decide) (by decide)]; exact m2
      · rw [xIk _ (by decide) (by decide)]; exact m3
      · rw [xJk _ (by decide), xIk _ (by decide) (by decide)]; exact m4
      · intro i' hi'
        rw [eK, xIk _ (by decide) (by decide)]; exact h5 i' hi'
      · rw [xIk _ (by decide) (by decide)]; exact h6
      · rw [xIk _ (by decide) (by decide)]; exact h7
      · rw [xIk _ (by decide) (by decide), eK]; exact h8
      · intro w hw
        rw [xIk _ (by omega) (by omega), eK, h9 w hw]
        exact sF_cong 6 0 (fun i' _ hi' => by rw [eG i' (by omega)])
      · intro w hw
        rw [xIk _ (by omega) (by omega), xIk _ (by decide) (by decide)]; exact h10 w hw
      · rw [xIk _ (by decide) (by decide), eK]
        exact h11.trans (oF_cong 6 0 (fun i' _ hi' => by rw [eG i' (by omega)]))
      · rw [xIk _ (by decide) (by decide), eK]; exact h12
      · rw [xIk9, hcB j hj, if_pos rfl, h13, nI_1]
      · rw [up2_k _ _ _ _ (by omega), xIk _ (by decide) (by decide), xIk _ (by decide) (by decide), xIk _ (by decide) (by decide)]; exact h14
    · have q := (R.mix.1 j hj)
      obtain ⟨⟨m1, m2, m3, m4⟩, h5, h67, h8, h9, h10, h11, h12, h13, h14⟩ := q.cong (I' := ruI I i k c p3 li) (D' := up2 D (18 + c) 4 4626322717216342016) (J' := ruJ J i k c p3 li (I (13 + k) 6)) (fun n _ => xI _ _ (by omega) (by omega) (by omega) (by omega)) (up2_k _ _ _ _ (by omega)) (cB_cong c (fun n hn => xI (18 + n) 0 (by omega) (by omega) (by omega) (by omega))) (fun i' n _ _ => xJ _ _ (by omega) (by omega) (by omega) (by omega) (by omega) (by omega)) (fun n _ _ => xJ _ _ (by omega) (by omega) (by omega) (by omega) (by omega) (by omega)) (fun n => xJ _ _ (by omega) (by omega) (by omega) (by omega) (by omega) (by omega))
      refine ⟨⟨m1, m2, m3, m4⟩, h5, h67, h8, h9, h10, h11, h12, ?_, h14⟩
      rw [xI _ _ (by omega) (by omega) (by omega) (by omega), hcB j hj, if_neg e, Nat.add_zero]
      exact q.2.2.2.2.2.2.2.2.1
  · rw [xI _ _ (by omega) (by omega) (by omega) (by omega)]
    exact R.mix.2 j g1 g2 n hn
  · by_cases e : j = c
    · subst e
      obtain ⟨g1, g2, g3⟩ := hB2 j (Nat.le_refl _) (by omega)
      refine ⟨?_, ?_, ?_, ?_, ?_, ⟨k, hk, xIc0⟩, ?_, ?_, ?_⟩
      · rw [xJ6, if_pos rfl, xIc0]
      · rw [xJ7, if_pos rfl, xIc1]
      · rw [xJ _ _ (by omega) (by omega) (by omega) (by omega) (by omega) (by omega), xIc _ (by decide) (by decide), g3, g2]
      · rw [xJ9, if_pos rfl, xIc _ (by decide) (by decide), g1]
      · rw [up2_hit, up2_hit]
      · rw [xIc _ (by decide) (by decide), g1]; exact Or.inl rfl
      · rw [xIc _ (by decide) (by decide), g2]; exact Or.inl rfl
      · rw [up2_hit]
        exact rc_20.mono (by decide) (by unfold crM; omega)
    · exact (hB1 j (by omega)).cong (fun n _ => xI _ _ (by omega) (by omega) (by omega) (by omega)) (up2_k _ _ _ _ (by omega)) (fun q g1 g2 => by
        rcases (show q = 6 ∨ q = 7 ∨ q = 8 ∨ q = 9 by omega) with rfl | rfl | rfl | rfl
        · rw [xJ6, if_neg e]
        · rw [xJ7, if_neg e]
        · exact xJ _ _ (by omega) (by omega) (by omega) (by omega) (by omega) (by omega)
        · rw [xJ9, if_neg e]) (up2_n _ _ _ e)
  · rw [xI _ _ (by omega) (by omega) (by omega) (by omega), xI _ _ (by omega) (by omega) (by omega) (by omega), xJ _ _ (by omega) (by omega) (by omega) (by omega) (by omega) (by omega)]
    exact hB2 j (by omega) g2
set_option maxRecDepth 20000 in
theorem barV_0 (i k : Nat) (p3 p4 : Int32) : (barV I D i k p3 p4 = 0 ∨ barV I D i k p3 p4 = 1 ∨ barV I D i k p3 p4 = 2 ∨ barV I D i k p3 p4 = 3 ∨ barV I D i k p3 p4 = 4 ∨ barV I D i k p3 p4 = 5 ∨ barV I D i k p3 p4 = 6 ∨ barV I D i k p3 p4 = 7) ∧ (barV I D i k p3 p4 = 0 → I 0 7 < 12) := by
  unfold barV
  repeat (first | exact ⟨by decide, fun q => absurd q (by decide)⟩ | (rename_i q; exact ⟨by decide, fun _ => by assumption⟩) | split)
set_option maxRecDepth 20000 in
theorem a_run (R : RR 0 a b c d h I D J E) (p1 p2 p3 p4 : Int32) : agW (fun _ => True) (PP a b h) I D [IOB, IAE] (f_X4_run I D p1 p2 p3 p4) (f_X7_run a b J E p1 p2 p3 p4) := by
  unfold f_X7_run
  rcases canAsk_ok R p1 p2 p3 p4 with ⟨i, k, hi, hk, rfl, rfl, g3, g4, g1, g2, -, -, hA⟩ | ⟨hA, hC⟩ | ⟨hA, hC⟩
  · have R0 := R.thr 0
    have t0 : up2 J 0 0 0 0 0 = 0 := up2_hit J 0 0 0
    rw [hA, bd_s]
    dsimp only
    generalize up2 J 0 0 0 = J0 at R0 t0 ⊢
    have hb := R0.b5
    rw [if10, get2_ok R0.gt E hk, bd_s, barV_M R0 hk hi, bd_s]
    unfold f_X4_run
    rw [barV_C R0 hk hi g3 g4 g1 g2, bE_o]
    obtain ⟨hv, hv0⟩ := barV_0 (I := I) (D := D) i k p3 p4
    have hle : (barV I D i k p3 p4 ≤ 0) = (barV I D i k p3 p4 = 0) := propext (by
      rcases hv with e | e | e | e | e | e | e | e <;> rw [e] <;> decide)
    by_cases e0 : barV I D i k p3 p4 = 0
    · have hc : c < 12 := by
        have q := hv0 e0
        rw [R0.I7] at q
        exact (nI_ltI (b := 12) (by have := R0.c12; omega) (by decide)).mp q
      rw [if_pos e0, if_pos (by rw [hle]; exact e0)]
      have R1 := ru_RR R0 hi hk hc p3 (((p3 - 2) * (100 + p4)) / 100)
      have u1 : up2 (up2 (up2 I (13 + k) 1 (I (13 + k) 1 - p3)) (13 + k) 9 (I (13 + k) 9 + 1)) 5 i (I (13 + k) 6) 0 7 = nI c := by
        rw [up2_k _ _ _ _ (by omega), up2_k _ _ _ _ (by omega), up2_k _ _ _ _ (by omega)]; exact R0.I7
      have u2 : ∀ v w, up2 (up2 (up2 (up2 (up2 I (13 + k) 1 (I (13 + k) 1 - p3)) (13 + k) 9 (I (13 + k) 9 + 1)) 5 i (I (13 + k) 6)) (18 + c) 0 v) (18 + c) 1 w 0 7 = nI c := fun v w => by
        rw [up2_k _ _ _ _ (by omega), up2_k _ _ _ _ (by omega)]; exact u1
      have u3 : up2 I (13 + k) 1 (I (13 + k) 1 - p3) (13 + k) 9 = I (13 + k) 9 := up2_n _ _ _ (by decide)
      have u4 : up2 (up2 I (13 + k) 1 (I (13 + k) 1 - p3)) (13 + k) 9 (I (13 + k) 9 + 1) (13 + k) 6 = I (13 + k) 6 := by
        rw [up2_n _ _ _ (by decide), up2_n _ _ _ (by decide)]
      have v1 : f_X6_harms a b (up2 J0 (20 + k) 1 (J0 (20 + k) 1 - p3)) E k = some (I (13 + k) 6) := by
        rw [harms_ok (R0.gt.cong (fun n => up2_k _ _ _ _ (by omega)) (fun n => up2_k _ _ _ _ (by omega))) E k (fun j h1 h2 => by rw [up2_k _ _ _ _ (by omega)]; exact (R0.ms hk).1 j h1 h2), (R0.mix.1 k hk).2.2.2.2.2.2.1]
        congr 1
        exact oF_cong 6 0 (fun j _ hj => by rw [up2_k _ _ _ _ (by omega), up2_k _ _ _ _ (by omega)])
      have v2 : ∀ v, up2 (up2 J0 (20 + k) 1 (J0 (20 + k) 1 - p3)) 13 i v 5 0 = nI c := fun v => by
        rw [up2_k _ _ _ _ (by omega), up2_k _ _ _ _ (by omega)]; exact R0.J5
      rw [inB_nI (show k < 5 by omega) (by decide), nI_clamp (show k < 2 ^ 31 by omega), nI_clamp (show i < 2 ^ 31 by omega), inB_nI hi (by decide)]
      simp only [ckt, nm_v, u3, u4, v1, bd_s, u1, v2, inB_nI hc (show 12 < 2 ^ 31 by decide), nI_clamp (show c < 2 ^ 31 by omega), u2, up2_hit, nI_1]
      exact agW_ok (nI_pred c) trivial (by
        rw [up2_k _ _ _ _ (by omega), up2_k _ _ _ _ (by omega), up2_k _ _ _ _ (by omega), up2_k _ _ _ _ (by omega), up2_k _ _ _ _ (by omega), up2_k _ _ _ _ (by omega)]
        exact t0) R1.pp
    · rw [if_neg e0, if_neg (by rw [hle]; exact e0)]
      exact agW_ok rfl trivial t0 R0.pp
  · rw [hA, bd_s]
    unfold f_X4_run
    rw [hC, bE_e]
    exact agW_er 0 rfl (up2_hit J 0 0 _) (R.ppt 1)
  · rw [hA, bd_s]
    unfold f_X4_run
    rw [hC, bE_e]
    exact agW_er 1 rfl (up2_hit J 0 0 _) (R.ppt 2)
end WRC
