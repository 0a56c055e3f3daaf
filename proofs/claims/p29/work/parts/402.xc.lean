/-! ===== the class's calls, where they answer: what they answer, what is behind them ===== -/
section XCC
variable {x : Int32} {a b c d h : Nat} {I J : MI} {D E : MD}
set_option maxRecDepth 20000 in
theorem crk {p lo hi : Int32} (h1 : lo.toInt ≤ p.toInt) (h2 : p.toInt ≤ hi.toInt) : f_X4_checkRange p lo hi = some (.ok ()) := by
  unfold f_X4_checkRange
  rw [if_neg (by rw [ltI]; omega), if_pos (by rw [leI]; omega)]
set_option maxRecDepth 20000 in
theorem crm {i n : Nat} (h : i < n) (hn : n < 2 ^ 31) : f_X4_checkRoom (nI i) (nI n) = some (.ok ()) := by
  unfold f_X4_checkRoom
  rw [if_pos (nI_lt h hn)]
set_option maxRecDepth 20000 in
theorem x_ing (R : RR 0 a b c d h I D J E) (hl : a < 6) {p1 p2 p3 p4 p5 : Int32} (v1 : 0 ≤ p1.toInt) (v2 : 0 ≤ p2.toInt) (v3 : 0 ≤ p3.toInt) (v4 : p1.toInt + p2.toInt + p3.toInt ≤ 1000) (w1 : 1 ≤ p4.toInt) (w2 : p4.toInt ≤ 99) (u1 : 0 ≤ p5.toInt) (u2 : p5.toInt ≤ 15) : f_X4_ingredient I D p1 p2 p3 p4 p5 = some (.ok (nI a, inI I a p1 p2 p3 p4 p5, D)) := by
  have z0 : (0 : Int32).toInt = 0 := by decide
  have zK : (1000 : Int32).toInt = 1000 := by decide
  have k1 : (1000 - p1).toInt = 1000 - p1.toInt := by rw [is_ (by rw [zK]; omega) (by rw [zK]; omega), zK]
  have k2 : (1000 - p1 - p2).toInt = 1000 - p1.toInt - p2.toInt := by rw [is_ (by rw [k1]; omega) (by rw [k1]; omega), k1]
  have g1 : f_X4_checkRoom (nI a) 6 = some (.ok ()) := crm (n := 6) hl (by decide)
  unfold f_X4_ingredient
  rw [crk (by rw [z0]; omega) (by rw [zK]; omega), bE_o, crk (by rw [z0]; omega) (by rw [k1]; omega), bE_o, crk (by rw [z0]; omega) (by rw [k2]; omega), bE_o, crk (by rw [show (1 : Int32).toInt = 1 by decide]; omega) (by rw [show (99 : Int32).toInt = 99 by decide]; omega), bE_o, crk (by rw [z0]; omega) (by rw [show (15 : Int32).toInt = 15 by decide]; omega), bE_o, R.I5, g1, bE_o, inB_nI hl (by decide), nI_clamp (show a < 2 ^ 31 by omega), ckt]
  simp only [nm_v]
  have u1 : up2 (up2 (up2 (up2 (up2 I (7 + a) 0 p1) (7 + a) 1 p2) (7 + a) 2 p3) (7 + a) 3 p4) (7 + a) 4 p5 0 5 = nI a := by
    rw [up2_k _ _ _ _ (by omega), up2_k _ _ _ _ (by omega), up2_k _ _ _ _ (by omega), up2_k _ _ _ _ (by omega), up2_k _ _ _ _ (by omega)]; exact R.I5
  rw [u1, nI_1, up2_hit, nI_pred]
  rfl
set_option maxRecDepth 20000 in
theorem x_mix (R : RR 0 a b c d h I D J E) (hl : b < 5) {i : Nat} (hi : i < a) {p2 : Int32} (h7 : 1 ≤ p2.toInt) (h8 : p2.toInt ≤ 500) : f_X4_mix I D (nI i) p2 = some (.ok (nI b, up2 (aI I b i p2) 0 6 (nI (b + 1)), aD I D b i p2)) ∧ RR 0 a (b + 1) c d h (up2 (aI I b i p2) 0 6 (nI (b + 1))) (aD I D b i p2) (addI (pJ (nM J b) b i p2) 2) E := by
  have ha := R.a6
  have hc := R.c12
  have q0 := rm0_new R hl
  have zK : (I (13 + b) 0).toInt = 0 := by rw [R.mix.2 b (Nat.le_refl _) hl 0 (by decide)]; decide
  have G' : RIng a I (nM J b) := R.ing.cong ha (fun _ _ _ _ => rfl) (fun j n _ _ => nM_k (by omega) (by omega) n)
  obtain ⟨r1, r2, r3⟩ := RM_put (D := D) q0 G' ha hl hc hi h7 h8 (by omega)
  have u2 : pJ (nM J b) b i p2 2 2 = nI b := by rw [pJ_k (by omega) (by omega), nM_k (by omega) (by omega)]; exact R.J2
  have xJ : ∀ j n, j ≠ 2 → j ≠ 20 + b → j ≠ 25 + b → addI (pJ (nM J b) b i p2) 2 j n = J j n := fun j n y1 y2 y3 => by
    rw [addI_k y1, pJ_k y3 y2, nM_k y2 y3]
  have xI : ∀ j n, j ≠ 0 → j ≠ 13 + b → up2 (aI I b i p2) 0 6 (nI (b + 1)) j n = I j n := fun j n y1 y2 => by
    rw [up2_k _ _ _ _ y1, aI_k y2]
  have xI0 : ∀ n, n ≠ 6 → up2 (aI I b i p2) 0 6 (nI (b + 1)) 0 n = I 0 n := fun n y => by
    rw [up2_n _ _ _ y, aI_k (by omega)]
  have R1 : RR 0 a (b + 1) c d h (up2 (aI I b i p2) 0 6 (nI (b + 1))) (aD I D b i p2) (addI (pJ (nM J b) b i p2) 2) E := by
    obtain ⟨⟨a1, a2, a3, a4⟩, ⟨b1, b2, b3, b4⟩, ⟨c1, c2, c3⟩, ⟨d1, d2, d3⟩, ⟨k1, k2, k3, k4⟩, r, f⟩ := R.1
    refine ⟨⟨⟨?_, ?_, ?_, a4⟩, ⟨?_, ?_, ?_, hl⟩, ⟨?_, ?_, c3⟩, ⟨?_, ?_, d3⟩, ⟨?_, ?_, ?_, ?_⟩, fun n hn => ?_, fun n hn => ?_⟩, R.ing.cong a4 (fun j n _ _ => xI j n (by omega) (by omega)) (fun j n _ _ => xJ j n (by omega) (by omega) (by omega)), ⟨fun j hj => ?_, fun j y1 y2 n hn => ?_⟩, ⟨fun j hj => ?_, fun j y1 y2 => ?_⟩, R.sto.cong d3 (fun j _ _ => xI j 0 (by omega) (by omega)) (fun j _ _ => aD_k (by omega)) (fun n => xJ 11 n (by omega) (by omega) (by omega)) (fun _ => rfl), R.h20⟩
    · rw [xI0 _ (by decide)]; exact a1
    · rw [xJ _ _ (by omega) (by omega) (by omega)]; exact a2
    · rw [xJ _ _ (by omega) (by omega) (by omega)]; exact a3
    · rw [up2_hit]
    · rw [addI_2, u2, nI_1]
    · rw [addI_1]
      exact ⟨fun q => absurd q (by decide), fun q => absurd q (by omega)⟩
    · rw [xI0 _ (by decide)]; exact c1
    · rw [xJ _ _ (by omega) (by omega) (by omega)]; exact c2
    · rw [xI0 _ (by decide)]; exact d1
    · rw [xJ _ _ (by omega) (by omega) (by omega)]; exact d2
    · rw [xI0 _ (by decide), xJ _ _ (by omega) (by omega) (by omega)]; exact k1
    · rw [xI0 _ (by decide), xJ _ _ (by omega) (by omega) (by omega)]; exact k2
    · rw [xI0 _ (by decide), xJ _ _ (by omega) (by omega) (by omega)]; exact k3
    · rw [xI0 _ (by decide), xJ _ _ (by omega) (by omega) (by omega)]; exact k4
    · rw [xI _ _ (by omega) (by omega), xJ _ _ (by omega) (by omega) (by omega)]; exact r n hn
    · rw [xI _ _ (by omega) (by omega)]; exact f n hn
    · by_cases e : j = b
      · subst e
        exact r1.cong (fun n _ => up2_k _ _ _ _ (by omega)) rfl (cB_cong c (fun n hn => up2_k _ _ _ _ (by omega))) (fun q n _ _ => addI_k (by omega) n) (fun n _ _ => addI_k (by omega) n) (fun n => addI_k (by omega) n)
      · exact (R.mix.1 j (by omega)).cong (fun n _ => xI _ _ (by omega) (by omega)) (aD_k (by omega)) (cB_cong c (fun n hn => xI _ _ (by omega) (by omega))) (fun q n _ _ => xJ _ _ (by omega) (by omega) (by omega)) (fun n _ _ => xJ _ _ (by omega) (by omega) (by omega)) (fun n => xJ _ _ (by omega) (by omega) (by omega))
    · rw [xI _ _ (by omega) (by omega)]
      exact R.mix.2 j (by omega) y2 n hn
    · obtain ⟨q1, q2, q3, q4, q5, ⟨m, hm, q6⟩, q7, q8, q9⟩ := (R.bat.1 j hj).cong (I' := up2 (aI I b i p2) 0 6 (nI (b + 1))) (D' := aD I D b i p2) (J' := addI (pJ (nM J b) b i p2) 2) (E' := E) (fun n _ => xI _ _ (by omega) (by omega)) (aD_k (by omega)) (fun q _ _ => xJ _ _ (by omega) (by omega) (by omega)) rfl
      exact ⟨q1, q2, q3, q4, q5, ⟨m, by omega, q6⟩, q7, q8, q9⟩
    · rw [xI _ _ (by omega) (by omega), xI _ _ (by omega) (by omega), xJ _ _ (by omega) (by omega) (by omega)]
      exact R.bat.2 j y1 y2
  refine ⟨?_, R1⟩
  have g1 : f_X4_checkRoom (nI b) 5 = some (.ok ()) := crm (n := 5) hl (by decide)
  unfold f_X4_mix
  rw [R.I5, cn_ok hi (by omega), bE_o, crk (by rw [show (1 : Int32).toInt = 1 by decide]; omega) (by rw [show (500 : Int32).toInt = 500 by decide]; omega), bE_o, R.I6, g1, bE_o, inB_nI hl (by decide), nI_clamp (show b < 2 ^ 31 by omega), ckt, inB_nI (show i < 6 by omega) (by decide), nI_clamp (show i < 2 ^ 31 by omega), ckt, r2, bd_s]
  dsimp only
  rw [nm_v, show aI I b i p2 0 6 = nI b by rw [aI_k (by omega)]; exact R.I6, nI_1, up2_hit, nI_pred]
set_option maxRecDepth 20000 in
theorem x_put (R : RR 0 a b c d h I D J E) {k i : Nat} (hk : k < b) (hi : i < a) {p3 : Int32} (h7 : 1 ≤ p3.toInt) (h8 : p3.toInt ≤ 500) (c1 : ¬ 500 < I (13 + k) 0 + p3) (c2 : I (13 + k) 9 ≤ 0) : f_X4_put I D (nI k) (nI i) p3 = some (.ok (I (13 + k) 0 + p3, aI I k i p3, aD I D k i p3)) ∧ RR 0 a b c d h (aI I k i p3) (aD I D k i p3) (pJ J k i p3) E := by
  have hb := R.b5
  have ha := R.a6
  have hc := R.c12
  have z5 : (500 : Int32).toInt = 500 := by decide
  have q := R.mix.1 k hk
  have kk := q.2.2.1
  have eK : (I (13 + k) 0 + p3).toInt = (I (13 + k) 0).toInt + p3.toInt := ia (by omega) (by omega)
  have c1' := c1
  rw [ltI, eK, z5] at c1'
  obtain ⟨r1, r2, r3⟩ := RM_put (D := D) q.rm0 R.ing ha (show k < 5 by omega) hc hi h7 h8 (by omega)
  refine ⟨?_, R.more hk hi r1⟩
  unfold f_X4_put
  rw [R.I6, cn_ok hk (by omega), bE_o, R.I5, cn_ok hi (by omega), bE_o, crk (by rw [show (1 : Int32).toInt = 1 by decide]; omega) (by rw [z5]; omega), bE_o, inB_nI (show k < 5 by omega) (by decide), nI_clamp (show k < 2 ^ 31 by omega), ckt, if_neg c1, if_pos c2, inB_nI (show i < 6 by omega) (by decide), nI_clamp (show i < 2 ^ 31 by omega), ckt, r2, bd_s]
  dsimp only
  rw [aI_0]
set_option maxRecDepth 20000 in
theorem x_heat (R : RR 0 a b c d h I D J E) {k : Nat} (hk : k < b) {p2 p3 : Int32} (h1 : 20 ≤ p2.toInt) (h2 : p2.toInt ≤ 120) (h3 : 1 ≤ p3.toInt) (h4 : p3.toInt ≤ 9999) : (I (13 + k) 10 ||| prV p2 p3 = 0 ∨ I (13 + k) 10 ||| prV p2 p3 = 1) ∧ f_X4_heat I D (nI k) p2 p3 = some (.ok (I (13 + k) 10 ||| prV p2 p3, up2 (up2 I (13 + k) 10 (I (13 + k) 10 ||| prV p2 p3)) (13 + k) 8 0, D)) ∧ RR 0 a b c d h (up2 (up2 I (13 + k) 10 (I (13 + k) 10 ||| prV p2 p3)) (13 + k) 8 0) D (up2 (up2 J (20 + k) 2 (I (13 + k) 10 ||| prV p2 p3)) (20 + k) 3 0) E := by
  have hb := R.b5
  obtain ⟨⟨m1, m2, m3, m4⟩, -⟩ := R.mix.1 k hk
  have hv : I (13 + k) 10 ||| prV p2 p3 = 0 ∨ I (13 + k) 10 ||| prV p2 p3 = 1 := by
    rcases m3 with e | e <;> rcases prV_01 p2 p3 with e2 | e2 <;> rw [e, e2] <;> decide
  refine ⟨hv, ?_, R.heated hk hv⟩
  unfold f_X4_heat
  rw [R.I6, cn_ok hk (by omega), bE_o, crk (by rw [show (20 : Int32).toInt = 20 by decide]; omega) (by rw [show (120 : Int32).toInt = 120 by decide]; omega), bE_o, crk (by rw [show (1 : Int32).toInt = 1 by decide]; omega) (by rw [show (9999 : Int32).toInt = 9999 by decide]; omega), bE_o, inB_nI (show k < 5 by omega) (by decide), nI_clamp (by omega), prV_C]
  have u1 : ∀ v w, up2 (up2 I (13 + k) 10 v) (13 + k) 8 w (13 + k) 10 = v := fun v w => by rw [up2_n _ _ _ (by decide), up2_hit]
  simp only [ckt, nm_v, bd_s, u1]
  rcases m3 with e | e <;> rcases prV_01 p2 p3 with e2 | e2 <;> rw [e, e2] <;> rfl
set_option maxRecDepth 20000 in
theorem x_wash (R : RR 0 a b c d h I D J E) {i : Nat} (hi : i < 2) : f_X4_wash I D (nI i) = some (.ok (I 5 i, up2 (up2 I 5 i 0) 0 11 (up2 I 5 i 0 0 11 + 1), D)) := by
  unfold f_X4_wash
  rw [show f_X4_checkNumber (nI i) 2 = some (.ok ()) from cn_ok (n := 2) hi (by decide), bE_o, inB_nI hi (by decide), nI_clamp (by omega)]
  simp only [ckt, nm_v]
set_option maxRecDepth 20000 in
theorem wash_RR (R : RR 0 a b c d h I D J E) {i : Nat} (hi : i < 2) : RR 0 a b c d h (up2 (up2 I 5 i 0) 0 11 (up2 I 5 i 0 0 11 + 1)) D (up2 (up2 J 13 i 0) 0 5 (up2 J 13 i 0 0 5 + 1)) E := by
  obtain ⟨⟨a1, a2, a3, a4⟩, ⟨b1, b2, b3, b4⟩, ⟨c1, c2, c3⟩, ⟨d1, d2, d3⟩, ⟨k1, k2, k3, k4⟩, r, f⟩ := R.1
  refine ⟨⟨⟨?_, ?_, ?_, a4⟩, ⟨?_, ?_, ?_, b4⟩, ⟨?_, ?_, c3⟩, ⟨?_, ?_, d3⟩, ⟨?_, ?_, ?_, ?_⟩, fun n hn => ?_, fun n hn => ?_⟩, R.ing.cong a4 (fun k n _ _ => by rw [up2_k _ _ _ _ (by omega), up2_k _ _ _ _ (by omega)]) (fun k n _ _ => by rw [up2_k _ _ _ _ (by omega), up2_k _ _ _ _ (by omega)]), R.mix.cong b4 (fun k n _ _ => by rw [up2_k _ _ _ _ (by omega), up2_k _ _ _ _ (by omega)]) (fun _ _ _ => rfl) (fun i _ => by rw [up2_k _ _ _ _ (by omega), up2_k _ _ _ _ (by omega)]) (fun k n _ _ => by rw [up2_k _ _ _ _ (by omega), up2_k _ _ _ _ (by omega)]), R.bat.cong c3 (fun k n _ _ => by rw [up2_k _ _ _ _ (by omega), up2_k _ _ _ _ (by omega)]) (fun _ _ _ => rfl) (fun k n _ _ => by rw [up2_k _ _ _ _ (by omega), up2_k _ _ _ _ (by omega)]) (fun _ => rfl), R.sto.cong d3 (fun k _ _ => by rw [up2_k _ _ _ _ (by omega), up2_k _ _ _ _ (by omega)]) (fun _ _ _ => rfl) (fun n => by rw [up2_k _ _ _ _ (by omega), up2_k _ _ _ _ (by omega)]) (fun _ => rfl), R.h20⟩
  all_goals simp [up2_ap, a1, a2, b1, b2, c1, c2, d1, d2, k1, k2, k3, k4]
  · exact a3
  · exact b3
  · rw [r n hn]
  · exact f n hn
set_option maxRecDepth 20000 in
theorem x_store (R : RR 0 a b c d h I D J E) (hl : d < 3) {p1 : Int32} (h5 : -30 ≤ p1.toInt) (h6 : p1.toInt ≤ -10) : f_X4_store I D p1 = some (.ok (nI d, up2 (up2 I (30 + d) 0 p1) 0 8 (nI (d + 1)), up2 D (30 + d) 1 (FP.i2d p1))) := by
  have g1 : f_X4_checkRoom (nI d) 3 = some (.ok ()) := crm (n := 3) hl (by decide)
  have u1 : up2 I (30 + d) 0 p1 0 8 = nI d := by rw [up2_k _ _ _ _ (by omega)]; exact R.I8
  unfold f_X4_store
  rw [crk (by rw [show (-30 : Int32).toInt = -30 by decide]; omega) (by rw [show (-10 : Int32).toInt = -10 by decide]; omega), bE_o, R.I8, g1, bE_o, inB_nI hl (by decide), nI_clamp (by omega)]
  simp only [ckt, nm_v]
  rw [u1, inB_nI hl (by decide), nI_clamp (by omega)]
  simp only [ckt, up2_hit, nI_1, nI_pred]
set_option maxRecDepth 20000 in
theorem store_RR (R : RR 0 a b c d h I D J E) (hl : d < 3) {p1 : Int32} (h5 : -30 ≤ p1.toInt) (h6 : p1.toInt ≤ -10) : RR 0 a b c (d + 1) h (up2 (up2 I (30 + d) 0 p1) 0 8 (nI (d + 1))) (up2 D (30 + d) 1 (FP.i2d p1)) (up2 (up2 J (5 + 6) d p1) 5 6 (nI (d + 1))) (up2 E (5 + 7) d (FP.i2d p1)) := by
  obtain ⟨⟨a1, a2, a3, a4⟩, ⟨b1, b2, b3, b4⟩, ⟨c1, c2, c3⟩, ⟨d1, d2, d3⟩, ⟨k1, k2, k3, k4⟩, r, f⟩ := R.1
  refine ⟨⟨⟨?_, ?_, ?_, a4⟩, ⟨?_, ?_, ?_, b4⟩, ⟨?_, ?_, c3⟩, ⟨?_, ?_, hl⟩, ⟨?_, ?_, ?_, ?_⟩, fun n hn => ?_, fun n hn => ?_⟩, R.ing.cong a4 (fun k n _ _ => by rw [up2_k _ _ _ _ (by omega), up2_k _ _ _ _ (by omega)]) (fun k n _ _ => by rw [up2_k _ _ _ _ (by omega), up2_k _ _ _ _ (by omega)]), R.mix.cong b4 (fun k n _ _ => by rw [up2_k _ _ _ _ (by omega), up2_k _ _ _ _ (by omega)]) (fun k _ _ => by rw [up2_k _ _ _ _ (by omega)]) (fun i _ => by rw [up2_k _ _ _ _ (by omega), up2_k _ _ _ _ (by omega)]) (fun k n _ _ => by rw [up2_k _ _ _ _ (by omega), up2_k _ _ _ _ (by omega)]), ⟨fun i hi => ?_, fun i h1 h2 => ?_⟩, fun s hs => ?_, R.h20⟩
  · simp [up2_ap, a1]
  · simp [up2_ap, a2]
  · simp [up2_ap]; exact a3
  · simp [up2_ap, b1]
  · simp [up2_ap, b2]
  · simp [up2_ap]; exact b3
  · simp [up2_ap, c1]
  · simp [up2_ap, c2]
  · simp [up2_ap]
  · simp [up2_ap]
  · simp [up2_ap, k1]
  · simp [up2_ap, k2]
  · simp [up2_ap, k3]
  · simp [up2_ap, k4]
  · rw [up2_k _ _ _ _ (by omega), up2_k _ _ _ _ (by omega), up2_k _ _ _ _ (by omega), up2_k _ _ _ _ (by omega)]; exact r n hn
  · rw [up2_k _ _ _ _ (by omega), up2_k _ _ _ _ (by omega)]; exact f n hn
  · have q := (R.bat.1 i hi).cong (I' := up2 (up2 I (30 + d) 0 p1) 0 8 (nI (d + 1))) (D' := up2 D (30 + d) 1 (FP.i2d p1)) (J' := up2 (up2 J (5 + 6) d p1) 5 6 (nI (d + 1))) (E' := up2 E (5 + 7) d (FP.i2d p1)) (fun n _ => by rw [up2_k _ _ _ _ (by omega), up2_k _ _ _ _ (by omega)]) (by rw [up2_k _ _ _ _ (by omega)]) (fun k _ _ => by rw [up2_k _ _ _ _ (by omega), up2_k _ _ _ _ (by omega)]) (by rw [up2_k _ _ _ _ (by omega)])
    obtain ⟨q1, q2, q3, q4, q5, q6, q7, q8, q9⟩ := q
    exact ⟨q1, q2, q3, q4, q5, q6, q7.mono, q8, q9⟩
  · rw [up2_k _ _ _ _ (by omega), up2_k _ _ _ _ (by omega), up2_k _ _ _ _ (by omega), up2_k _ _ _ _ (by omega), up2_k _ _ _ _ (by omega), up2_k _ _ _ _ (by omega)]
    exact R.bat.2 i h1 h2
  · rw [up2_k _ _ _ _ (show 30 + s ≠ 0 by omega), up2_k _ _ _ _ (show 11 ≠ 5 by omega)]
    by_cases e : s = d
    · subst e
      rw [show (5 + 6) = 11 from rfl, show (5 + 7) = 12 from rfl, up2_hit, up2_hit, up2_hit, up2_hit]
      exact ⟨rfl, rfl, h5, h6, rg_i2d (by omega) (by omega)⟩
    · rw [show (5 + 6) = 11 from rfl, show (5 + 7) = 12 from rfl, up2_n _ _ _ e, up2_n _ _ _ e, up2_k _ _ _ _ (by omega), up2_k _ _ _ _ (by omega)]
      exact R.sto s (by omega)
set_option maxRecDepth 20000 in
theorem x_harden (R : RR 0 a b c d h I D J E) (hh : h + 48 < 2 ^ 20) {i : Nat} (hi : i < c) (c4 : I (18 + i) 2 = -1) (c3 : I (18 + i) 3 = 0) {p2 : Int32} (h5 : 10 ≤ p2.toInt) (h6 : p2.toInt ≤ 90) : f_X4_harden I D (nI i) p2 = some (.ok (FP.dadd (D (18 + i) 4) (FP.dmul (FP.i2d p2) (4598175219545276416 : UInt64)), up2 I (18 + i) 3 1, up2 D (18 + i) 4 (FP.dadd (D (18 + i) 4) (FP.dmul (FP.i2d p2) (4598175219545276416 : UInt64))))) ∧ RR 0 a b c d (h + 1) (up2 I (18 + i) 3 1) (up2 D (18 + i) 4 (FP.dadd (D (18 + i) 4) (FP.dmul (FP.i2d p2) (4598175219545276416 : UInt64)))) (up2 J (5 + 3) i 1) (up2 E (5 + 5) i (FP.dadd (D (18 + i) 4) (FP.dmul (FP.i2d p2) (4598175219545276416 : UInt64)))) := by
  have hc := R.c12
  obtain ⟨q1, q2, q3, q4, q5, q6, q7, q8, q9⟩ := R.bat.1 i hi
  have x1 : rg 320 2880 (FP.i2d p2) := rg_i2d (by omega) (by omega)
  have x2 := rg_mul x1 8 (by decide) rc_25.1 zc_25 80 720 (by decide) (by decide) (by decide) (by decide)
  have hcm : crM (h + 1) = crM h + 768 := by unfold crM; omega
  have hcb : 0 ≤ crM h ∧ crM h < 2 ^ 40 := by unfold crM; omega
  have x3 := rg_add q9 x2 (by decide) (by omega)
  have x4 : rg 640 (crM (h + 1)) (FP.dadd (D (18 + i) 4) (FP.dmul (FP.i2d p2) (4598175219545276416 : UInt64))) := x3.mono (by omega) (by omega)
  have R1 := R.mono (h' := h + 1) (by omega) (by omega)
  refine ⟨?_, R1.1.cong (fun k n _ => by rw [up2_k _ _ _ _ (by omega)]) (fun k n _ => by rw [up2_k _ _ _ _ (by omega)]), R1.ing.cong R1.a6 (fun k n _ _ => by rw [up2_k _ _ _ _ (by omega)]) (fun k n _ _ => by rw [up2_k _ _ _ _ (by omega)]), R1.mix.cong R1.b5 (fun k n _ _ => by rw [up2_k _ _ _ _ (by omega)]) (fun _ _ _ => by rw [up2_k _ _ _ _ (by omega)]) (fun j _ => by rw [up2_ap, if_neg (by omega)]) (fun k n _ _ => by rw [up2_k _ _ _ _ (by omega)]), ⟨fun j hj => ?_, fun j g1 g2 => ?_⟩, R1.sto.cong R1.d3 (fun k _ _ => by rw [up2_k _ _ _ _ (by omega)]) (fun _ _ _ => by rw [up2_k _ _ _ _ (by omega)]) (fun n => by rw [up2_k _ _ _ _ (by omega)]) (fun _ => by rw [up2_k _ _ _ _ (by omega)]), R1.h20⟩
  · unfold f_X4_harden
    rw [R.I7, cn_ok hi (by omega), bE_o, crk (by rw [show (10 : Int32).toInt = 10 by decide]; omega) (by rw [show (90 : Int32).toInt = 90 by decide]; omega), bE_o, inB_nI (show i < 12 by omega) (by decide), nI_clamp (by omega), ckt, if_pos c4, if_pos c3, x2.okD, x3.okD]
    simp only [ckt, nm_v, up2_hit]
  · rw [show (5 + 3) = 8 from rfl, show (5 + 5) = 10 from rfl]
    by_cases e : j = i
    · subst e
      refine ⟨?_, ?_, ?_, ?_, ?_, ?_, ?_, ?_, ?_⟩
      · rw [up2_k _ _ _ _ (by omega), up2_n _ _ _ (by decide)]; exact q1
      · rw [up2_k _ _ _ _ (by omega), up2_n _ _ _ (by decide)]; exact q2
      · rw [up2_hit, up2_hit]
      · rw [up2_k _ _ _ _ (by omega), up2_n _ _ _ (by decide)]; exact q4
      · rw [up2_hit, up2_hit]
      · rw [up2_n _ _ _ (by decide)]; exact q6
      · rw [up2_n _ _ _ (by decide)]; exact q7
      · rw [up2_hit]; exact Or.inr rfl
      · rw [up2_hit]; exact x4
    · exact (R1.bat.1 j hj).cong (fun n _ => by rw [up2_k _ _ _ _ (by omega)]) (by rw [up2_k _ _ _ _ (by omega)]) (fun k _ _ => by rw [up2_ap, if_neg (by omega)]) (by rw [up2_ap, if_neg (by omega)])
  · rw [up2_k _ _ _ _ (by omega), up2_k _ _ _ _ (by omega), up2_ap, if_neg (by omega)]
    exact R1.bat.2 j g1 g2
set_option maxRecDepth 20000 in
theorem x_lay (R : RR 0 a b c d h I D J E) {i s : Nat} (hi : i < c) (hs : s < d) (c3 : ¬ I (18 + i) 3 = 0) (c4 : I (18 + i) 2 < 10) : f_X4_lay I D (nI i) (nI s) = some (.ok (nI (cQ (up2 J 9 i (nI s) 9) (nI s) c), up2 I (18 + i) 2 (nI s), D)) := by
  have hd := R.d3
  have hc := R.c12
  obtain ⟨q1, q2, q3, q4, q5, q6, q7, q8, q9⟩ := R.bat.1 i hi
  have c5 := (pl_10 hd q7).mp c4
  unfold f_X4_lay
  rw [R.I7, cn_ok hi (by omega), bE_o, R.I8, cn_ok hs (by omega), bE_o, inB_nI (show i < 12 by omega) (by decide), nI_clamp (by omega), ckt, if_neg (fun q => c5 (Or.inl q)), if_neg (fun q => c5 (Or.inr q)), if_neg c3, nm_v]
  have R1 := R.place hi (p := nI s) (Or.inr (Or.inl ⟨s, hs, rfl⟩))
  rw [R1.cntC, bd_s]
set_option maxRecDepth 20000 in
theorem x_run0 (R : RR 0 a b c d h I D J E) {i k : Nat} (hi : i < 2) (hk : k < b) {p3 p4 : Int32} (h1 : 5 ≤ p3.toInt) (h2 : p3.toInt ≤ 500) (h3 : 20 ≤ p4.toInt) (h4 : p4.toInt ≤ 140) : f_X4_bars I D (nI i) (nI k) p3 p4 = some (.ok (barV I D i k p3 p4)) ∧ (barV I D i k p3 p4 = 0 → c < 12 ∧ f_X4_run I D (nI i) (nI k) p3 p4 = some (.ok (nI c, ruI I i k c p3 (((p3 - 2) * (100 + p4)) / 100), up2 D (18 + c) 4 4626322717216342016))) ∧ (¬ barV I D i k p3 p4 = 0 → f_X4_run I D (nI i) (nI k) p3 p4 = some (.ok (-10 - barV I D i k p3 p4, I, D))) := by
  have hb := R.b5
  have g3 : f_X4_checkRange p3 5 500 = some (.ok ()) := crk (by rw [show (5 : Int32).toInt = 5 by decide]; omega) (by rw [show (500 : Int32).toInt = 500 by decide]; omega)
  have g4 : f_X4_checkRange p4 20 140 = some (.ok ()) := crk (by rw [show (20 : Int32).toInt = 20 by decide]; omega) (by rw [show (140 : Int32).toInt = 140 by decide]; omega)
  have hB := barV_C R hk hi g3 g4 (cn_ok (n := 2) hi (by decide)) (cn_ok hk (by omega))
  obtain ⟨hv, hv0⟩ := barV_0 (I := I) (D := D) i k p3 p4
  refine ⟨hB, fun e0 => ?_, fun e0 => ?_⟩
  · have hc : c < 12 := by
      have q := hv0 e0
      rw [R.I7] at q
      exact (nI_ltI (b := 12) (by have := R.c12; omega) (by decide)).mp q
    refine ⟨hc, ?_⟩
    have u1 : up2 (up2 (up2 I (13 + k) 1 (I (13 + k) 1 - p3)) (13 + k) 9 (I (13 + k) 9 + 1)) 5 i (I (13 + k) 6) 0 7 = nI c := by
      rw [up2_k _ _ _ _ (by omega), up2_k _ _ _ _ (by omega), up2_k _ _ _ _ (by omega)]; exact R.I7
    have u2 : ∀ v w, up2 (up2 (up2 (up2 (up2 I (13 + k) 1 (I (13 + k) 1 - p3)) (13 + k) 9 (I (13 + k) 9 + 1)) 5 i (I (13 + k) 6)) (18 + c) 0 v) (18 + c) 1 w 0 7 = nI c := fun v w => by
      rw [up2_k _ _ _ _ (by omega), up2_k _ _ _ _ (by omega)]; exact u1
    have u3 : up2 I (13 + k) 1 (I (13 + k) 1 - p3) (13 + k) 9 = I (13 + k) 9 := up2_n _ _ _ (by decide)
    have u4 : up2 (up2 I (13 + k) 1 (I (13 + k) 1 - p3)) (13 + k) 9 (I (13 + k) 9 + 1) (13 + k) 6 = I (13 + k) 6 := by
      rw [up2_n _ _ _ (by decide), up2_n _ _ _ (by decide)]
    unfold f_X4_run
    rw [hB, bE_o, if_pos e0, inB_nI (show k < 5 by omega) (by decide), nI_clamp (show k < 2 ^ 31 by omega), nI_clamp (show i < 2 ^ 31 by omega), inB_nI hi (by decide)]
    simp only [ckt, nm_v, u3, u4, u1, inB_nI hc (show 12 < 2 ^ 31 by decide), nI_clamp (show c < 2 ^ 31 by omega), u2, up2_hit, nI_1, nI_pred]
    rfl
  · unfold f_X4_run
    rw [hB, bE_o, if_neg e0]
set_option maxRecDepth 20000 in
theorem x_door (R : RR 0 a b c d h I D J E) {s N : Nat} (hs : s < d) (h1 : 1 ≤ N) (h2 : N ≤ 20) : f_X4_door I D (nI s) (nI N) = some (.ok (opN N (D (30 + s) 1), I, up2 D (30 + s) 1 (opN N (D (30 + s) 1)))) ∧ RR 0 a b c d h I (up2 D (30 + s) 1 (opN N (D (30 + s) 1))) J (up2 E 12 s (opN N (D (30 + s) 1))) := by
  have hd := R.d3
  obtain ⟨q1, q2, q3, q4, q5⟩ := R.sto s hs
  refine ⟨?_, R.1, R.ing, R.mix.cong R.b5 (fun _ _ _ _ => rfl) (fun k _ _ => by rw [up2_k _ _ _ _ (by omega)]) (fun _ _ => rfl) (fun _ _ _ _ => rfl), R.bat.cong R.c12 (fun _ _ _ _ => rfl) (fun k _ _ => by rw [up2_k _ _ _ _ (by omega)]) (fun _ _ _ _ => rfl) (fun n => by rw [up2_k _ _ _ _ (by omega)]), fun t ht => ?_, R.h20⟩
  · unfold f_X4_door
    rw [R.I8, cn_ok hs (by omega), bE_o, crk (by rw [show (1 : Int32).toInt = 1 by decide, nI_toInt (by omega)]; omega) (by rw [show (20 : Int32).toInt = 20 by decide, nI_toInt (by omega)]; omega), bE_o, inB_nI (show s < 3 by omega) (by decide), nI_clamp (by omega), opened_ok (by omega) q5]
    simp only [ckt, nm_v, bd_s, up2_hit]
  · by_cases e : t = s
    · subst e
      rw [up2_hit, up2_hit]
      exact ⟨q1, rfl, q3, q4, opN_rg N q5⟩
    · rw [up2_n _ _ _ e, up2_k _ _ _ _ (by omega)]
      exact R.sto t ht
set_option maxRecDepth 20000 in
theorem RR_hourX (R : RR x a b c d h I D J E) (hh : h + 1 < 2 ^ 20) : ∃ I' D' J' E', f_X4_passHour I D = some (I', D') ∧ f_X5_hour a b J E 5 = some (J', E') ∧ RR (x + 1) a b c d (h + 1) I' D' J' E' ∧ (∀ k j, k ≠ 9 → J' k j = J k j) ∧ (∀ k j, k ≠ 10 → k ≠ 12 → E' k j = E k j) ∧ (∀ t, t < d → E' 12 t = fH (J 11 t) (E 12 t)) ∧ (∀ k j, ¬ (k = 0 ∧ j = 9) → ¬ (j = 2 ∧ 18 ≤ k ∧ k < 18 + c) → ¬ (j = 8 ∧ 13 ≤ k ∧ k < 13 + b) → I' k j = I k j) ∧ (∀ k j, ¬ (j = 4 ∧ 18 ≤ k ∧ k < 18 + c) → ¬ (j = 1 ∧ 30 ≤ k ∧ k < 30 + d) → D' k j = D k j) ∧ (∀ t, t < d → D' (30 + t) 1 = fH (I (30 + t) 0) (D (30 + t) 1)) ∧ ∀ j mx, j < c → mx < b → I (18 + j) 0 = nI mx → I' (18 + j) 2 = plN (I (18 + j) 2) (I (18 + j) 3) (D (13 + mx) 11) (D (30 + (I (18 + j) 2).toNatClampNeg) 1) ∧ D' (18 + j) 4 = crN (I (18 + j) 2) (D (18 + j) 4) (D (13 + mx) 11) (D (30 + (I (18 + j) 2).toNatClampNeg) 1) (fH (I (30 + (I (18 + j) 2).toNatClampNeg) 0) (D (30 + (I (18 + j) 2).toNatClampNeg) 1)) := by
  have ha := R.a6
  have hb := R.b5
  have hc := R.c12
  have hd := R.d3
  have hcm : crM (h + 1) = crM h + 768 := by unfold crM; omega
  obtain ⟨J', E', p1, p2, p3, p4, p5⟩ := hour_M (Or.inl rfl) hc hd (crM_b R.h20) R.gz R.hc5
  obtain ⟨I', D', o1, o2, o3, o4, o5, o6, o7⟩ := hour_C hc hd (crM_b R.h20) R.fzc R.I6 R.I7 R.I8 (fun t ht => by
    obtain ⟨q1, q2, q3, q4, q5⟩ := R.sto t ht
    exact ⟨q3, q4, q5⟩) (fun j hj => by
    obtain ⟨q1, q2, q3, q4, q5, ⟨m, hm, q6⟩, q7, q8, q9⟩ := R.bat.1 j hj
    exact ⟨m, hm, q6, q7, q9⟩)
  have xJ : ∀ k j, k ≠ 9 → J' k j = J k j := fun k j q => p2 k j (by omega)
  have xE : ∀ k j, k ≠ 10 → k ≠ 12 → E' k j = E k j := fun k j q1 q2 => p3 k j (by omega) (by omega)
  have xI : ∀ k j, k ≠ 0 → j ≠ 2 → j ≠ 8 → I' k j = I k j := fun k j q1 q2 q3 => o4 k j (by omega) (by omega) (by omega)
  have xI0 : ∀ j, j ≠ 9 → I' 0 j = I 0 j := fun j q => o4 0 j (by omega) (by omega) (by omega)
  have xIr : ∀ k j, k ≠ 0 → (k < 13 ∨ 18 ≤ k) → (k < 18 ∨ 30 ≤ k) → I' k j = I k j := fun k j q1 q2 q3 => o4 k j (by omega) (by omega) (by omega)
  obtain ⟨⟨a1, a2, a3, a4⟩, ⟨b1, b2, b3, b4⟩, ⟨c1, c2, c3⟩, ⟨d1, d2, d3⟩, ⟨k1, k2, k3, k4⟩, r, f⟩ := R.1
  refine ⟨I', D', J', E', o1, p1, ⟨⟨⟨?_, ?_, ?_, a4⟩, ⟨?_, ?_, ?_, b4⟩, ⟨?_, ?_, c3⟩, ⟨?_, ?_, d3⟩, ⟨?_, ?_, ?_, ?_⟩, fun n hn => ?_, fun n hn => ?_⟩, R.ing.cong a4 (fun j n _ _ => xIr j n (by omega) (by omega) (by omega)) (fun j n _ _ => xJ j n (by omega)), ⟨fun k hk => ?_, fun k g1 g2 n hn => ?_⟩, ⟨fun j hj => ?_, fun j g1 g2 => ?_⟩, fun t ht => ?_, hh⟩, xJ, xE, fun t ht => p4 t ht, o4, o5, o6, o7⟩
  · rw [xI0 _ (by decide)]; exact a1
  · rw [xJ _ _ (by decide)]; exact a2
  · rw [xJ _ _ (by decide)]; exact a3
  · rw [xI0 _ (by decide)]; exact b1
  · rw [xJ _ _ (by decide)]; exact b2
  · rw [xJ _ _ (by decide)]; exact b3
  · rw [xI0 _ (by decide)]; exact c1
  · rw [xJ _ _ (by decide)]; exact c2
  · rw [xI0 _ (by decide)]; exact d1
  · rw [xJ _ _ (by decide)]; exact d2
  · rw [o2, xJ _ _ (by decide), k1, Int32.add_assoc]
  · rw [xI0 _ (by decide), xJ _ _ (by decide)]; exact k2
  · rw [xI0 _ (by decide), xJ _ _ (by decide)]; exact k3
  · rw [xI0 _ (by decide), xJ _ _ (by decide)]; exact k4
  · rw [xIr _ _ (by decide) (by decide) (by decide), xJ _ _ (by decide)]; exact r n hn
  · rw [xIr _ _ (by decide) (by decide) (by decide)]; exact f n hn
  · obtain ⟨⟨m1, m2, m3, m4⟩, h5, ⟨h6, h7⟩, h8, h9, h10, h11, h12, h13, h14⟩ := R.mix.1 k hk
    have yI : ∀ n, n ≠ 8 → I' (13 + k) n = I (13 + k) n := fun n q => o4 _ n (by omega) (by omega) (by omega)
    have eK : J' (25 + k) = J (25 + k) := funext (fun n => xJ _ _ (by omega))
    refine ⟨⟨?_, ?_, ?_, ?_⟩, ?_, ⟨?_, ?_⟩, ?_, ?_, ?_, ?_, ?_, ?_, ?_⟩
    · rw [xJ _ _ (by omega), yI _ (by decide)]; exact m1
    · rw [xJ _ _ (by omega), yI _ (by decide)]; exact m2
    · rw [yI _ (by decide)]; exact m3
    · rw [xJ _ _ (by omega), o3 k hk, ← m4, Int32.add_assoc]
    · intro i hi
      rw [eK, yI _ (by decide)]; exact h5 i hi
    · rw [yI _ (by decide)]; exact h6
    · rw [yI _ (by decide)]; exact h7
    · rw [yI _ (by decide), eK]; exact h8
    · intro w hw
      rw [yI _ (by omega), eK]
      exact (h9 w hw).trans (sF_cong 6 0 (fun i _ hi => by rw [xJ _ _ (by omega)]))
    · intro w hw
      rw [yI _ (by omega), yI _ (by decide)]; exact h10 w hw
    · rw [yI _ (by decide), eK]
      exact h11.trans (oF_cong 6 0 (fun i _ hi => by rw [xJ _ _ (by omega)]))
    · rw [yI _ (by decide), eK]; exact h12
    · rw [yI _ (by decide), cB_cong c (fun i _ => xI _ _ (by omega) (by decide) (by decide))]; exact h13
    · rw [o5 _ _ (by omega) (by omega), yI _ (by decide), yI _ (by decide), yI _ (by decide)]; exact h14
  · rw [o4 _ n (by omega) (by omega) (by omega)]
    exact R.mix.2 k g1 g2 n hn
  · obtain ⟨q1, q2, q3, q4, q5, ⟨m, hm, q6⟩, q7, q8, q9⟩ := R.bat.1 j hj
    obtain ⟨y1, y2⟩ := p5 j m hj hm (show J (5 + 1) j = nI m from q1.trans q6)
    obtain ⟨z1, z2⟩ := o7 j m hj hm q6
    have e4 : J (5 + 4) j = I (18 + j) 2 := q4
    have e3 : J (5 + 3) j = I (18 + j) 3 := q3
    have e5 : E (5 + 5) j = D (18 + j) 4 := q5
    have hsame : plN (I (18 + j) 2) (I (18 + j) 3) (D (13 + m) 11) (E (5 + 7) (I (18 + j) 2).toNatClampNeg) = plN (I (18 + j) 2) (I (18 + j) 3) (D (13 + m) 11) (D (30 + (I (18 + j) 2).toNatClampNeg) 1) ∧ crN (I (18 + j) 2) (D (18 + j) 4) (D (13 + m) 11) (E (5 + 7) (I (18 + j) 2).toNatClampNeg) (fH (J (5 + 6) (I (18 + j) 2).toNatClampNeg) (E (5 + 7) (I (18 + j) 2).toNatClampNeg)) = crN (I (18 + j) 2) (D (18 + j) 4) (D (13 + m) 11) (D (30 + (I (18 + j) 2).toNatClampNeg) 1) (fH (I (30 + (I (18 + j) 2).toNatClampNeg) 0) (D (30 + (I (18 + j) 2).toNatClampNeg) 1)) := by
      rcases q7 with q | ⟨s, hs, q⟩ | q | q
      · unfold plN crN
        rw [q, if_pos rfl, if_pos rfl, if_pos rfl, if_pos rfl]
        exact ⟨rfl, rfl⟩
      · obtain ⟨w1, w2, -⟩ := R.sto s hs
        rw [q, nI_clamp (show s < 2 ^ 31 by omega), show E (5 + 7) s = D (30 + s) 1 from w2, show J (5 + 6) s = I (30 + s) 0 from w1]
        exact ⟨rfl, rfl⟩
      · rw [q, plN_ge (by decide) (by decide), plN_ge (by decide) (by decide), crN_ge (by decide) (by decide), crN_ge (by decide) (by decide)]
        exact ⟨rfl, rfl⟩
      · rw [q, plN_ge (by decide) (by decide), plN_ge (by decide) (by decide), crN_ge (by decide) (by decide), crN_ge (by decide) (by decide)]
        exact ⟨rfl, rfl⟩
    rw [e4, e3] at y1
    rw [e4, e5] at y2
    refine ⟨?_, ?_, ?_, ?_, ?_, ⟨m, hm, ?_⟩, ?_, ?_, ?_⟩
    · rw [xJ _ _ (by decide), xI _ _ (by omega) (by decide) (by decide)]; exact q1
    · rw [xJ _ _ (by decide), xI _ _ (by omega) (by decide) (by decide)]; exact q2
    · rw [xJ _ _ (by decide), xI _ _ (by omega) (by decide) (by decide)]; exact q3
    · rw [z1]; exact y1.trans hsame.1
    · rw [z2]; exact y2.trans hsame.2
    · rw [xI _ _ (by omega) (by decide) (by decide)]; exact q6
    · rw [z1]; exact plN_ok _ _ q7
    · rw [xI _ _ (by omega) (by decide) (by decide)]; exact q8
    · rw [z2, hcm]
      exact crN_rg (crM_b R.h20) (R.frg hm) (fun s hs e => by
        obtain ⟨w1, w2, w3, w4, w5⟩ := R.sto s hs
        rw [e, nI_clamp (show s < 2 ^ 31 by omega)]
        exact ⟨w5.1, (fH_all w3 w4 w5).2.2.1⟩) q7 hd q9
  · have z := R.bat.2 j g1 g2
    rw [o4 _ 2 (by omega) (by omega) (by omega), xI _ 3 (by omega) (by decide) (by decide), xJ _ _ (by decide)]
    exact z
  · obtain ⟨w1, w2, w3, w4, w5⟩ := R.sto t ht
    have e := p4 t ht
    rw [show J (5 + 6) t = I (30 + t) 0 from w1, show E (5 + 7) t = D (30 + t) 1 from w2] at e
    rw [xJ _ _ (by decide), xI _ _ (by omega) (by decide) (by decide), o6 t ht]
    exact ⟨w1, e, w3, w4, (fH_all w3 w4 w5).2.2⟩
end XCC
