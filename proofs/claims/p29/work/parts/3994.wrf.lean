section WRF
variable {a b c d h : Nat} {I J : MI} {D E : MD}
set_option maxRecDepth 20000 in
theorem ing3 (p1 p2 p3 : Int32) : ((0 ≤ p1.toInt ∧ 0 ≤ p2.toInt ∧ 0 ≤ p3.toInt ∧ p1.toInt + p2.toInt + p3.toInt ≤ 1000) ∧ f_X4_checkRange p1 0 1000 = some (.ok ()) ∧ f_X4_checkRange p2 0 (1000 - p1) = some (.ok ()) ∧ f_X4_checkRange p3 0 ((1000 - p1) - p2) = some (.ok ()) ∧ ¬ p1 < 0 ∧ ¬ p2 < 0 ∧ ¬ p3 < 0 ∧ ¬ 0 < lg_cmp ((p1.toInt64 + p2.toInt64) + p3.toInt64) (1000 : Int64)) ∨
    ((∀ (K : Unit → Option (Except String (Int32 × MI × MD))), bE (f_X4_checkRange p1 0 1000) (fun _ => bE (f_X4_checkRange p2 0 (1000 - p1)) (fun _ => bE (f_X4_checkRange p3 0 ((1000 - p1) - p2)) K)) = some (.error IAE)) ∧ (∀ (X Y : Option (Int32 × Nat × MI × MD)), (if p1 < 0 then X else (if p2 < 0 then X else (if p3 < 0 then X else (if 0 < lg_cmp ((p1.toInt64 + p2.toInt64) + p3.toInt64) (1000 : Int64) then X else Y)))) = X)) := by
  have z0 : (0 : Int32).toInt = 0 := by decide
  have zK : (1000 : Int32).toInt = 1000 := by decide
  have zL : (1000 : Int64).toInt = 1000 := by decide
  have e1 := Int32.le_toInt p1
  have e2 := Int32.toInt_lt p1
  have e3 := Int32.le_toInt p2
  have e4 := Int32.toInt_lt p2
  have e5 := Int32.le_toInt p3
  have e6 := Int32.toInt_lt p3
  have hs : ((p1.toInt64 + p2.toInt64) + p3.toInt64).toInt = p1.toInt + p2.toInt + p3.toInt := by
    have y1 : (p1.toInt64 + p2.toInt64).toInt = p1.toInt + p2.toInt := by
      rw [FP.Core.int64_add (by rw [Int32.toInt_toInt64, Int32.toInt_toInt64]; omega) (by rw [Int32.toInt_toInt64, Int32.toInt_toInt64]; omega), Int32.toInt_toInt64, Int32.toInt_toInt64]
    rw [FP.Core.int64_add (by rw [y1, Int32.toInt_toInt64]; omega) (by rw [y1, Int32.toInt_toInt64]; omega), y1, Int32.toInt_toInt64]
  have hL : 0 < lg_cmp ((p1.toInt64 + p2.toInt64) + p3.toInt64) (1000 : Int64) ↔ 1000 < p1.toInt + p2.toInt + p3.toInt := by
    rw [lg_cmp_gt, Int64.lt_iff_toInt_lt, hs, zL]
  have l1 : p1 < 0 ↔ p1.toInt < 0 := by rw [ltI, z0]
  have l2 : p2 < 0 ↔ p2.toInt < 0 := by rw [ltI, z0]
  have l3 : p3 < 0 ↔ p3.toInt < 0 := by rw [ltI, z0]
  by_cases V : 0 ≤ p1.toInt ∧ 0 ≤ p2.toInt ∧ 0 ≤ p3.toInt ∧ p1.toInt + p2.toInt + p3.toInt ≤ 1000
  · obtain ⟨v1, v2, v3, v4⟩ := id V
    left
    have k1 : (1000 - p1).toInt = 1000 - p1.toInt := by rw [is_ (by rw [zK]; omega) (by rw [zK]; omega), zK]
    have k2 : (1000 - p1 - p2).toInt = 1000 - p1.toInt - p2.toInt := by rw [is_ (by rw [k1]; omega) (by rw [k1]; omega), k1]
    refine ⟨V, ?_, ?_, ?_, by rw [l1]; omega, by rw [l2]; omega, by rw [l3]; omega, by rw [hL]; omega⟩
    · unfold f_X4_checkRange
      rw [if_neg (by rw [l1]; omega), if_pos (by rw [leI, zK]; omega)]
    · unfold f_X4_checkRange
      rw [if_neg (by rw [l2]; omega), if_pos (by rw [leI, k1]; omega)]
    · unfold f_X4_checkRange
      rw [if_neg (by rw [l3]; omega), if_pos (by rw [leI, k2]; omega)]
  · right
    constructor
    · intro K
      rcases rng p1 0 1000 with ⟨q1, -, q3, q4⟩ | ⟨q1, -⟩
      · rw [z0] at q3
        rw [zK] at q4
        have k1 : (1000 - p1).toInt = 1000 - p1.toInt := by rw [is_ (by rw [zK]; omega) (by rw [zK]; omega), zK]
        rw [q1, bE_o]
        rcases rng p2 0 (1000 - p1) with ⟨r1, -, r3, r4⟩ | ⟨r1, -⟩
        · rw [z0] at r3
          rw [k1] at r4
          have k2 : (1000 - p1 - p2).toInt = 1000 - p1.toInt - p2.toInt := by rw [is_ (by rw [k1]; omega) (by rw [k1]; omega), k1]
          rw [r1, bE_o]
          rcases rng p3 0 (1000 - p1 - p2) with ⟨s1, -, s3, s4⟩ | ⟨s1, -⟩
          · rw [z0] at s3
            rw [k2] at s4
            exact absurd ⟨q3, r3, s3, by omega⟩ V
          · rw [s1, bE_e]
        · rw [r1, bE_e]
      · rw [q1, bE_e]
    · intro X Y
      by_cases c1 : p1 < 0
      · rw [if_pos c1]
      · rw [if_neg c1]
        by_cases c2 : p2 < 0
        · rw [if_pos c2]
        · rw [if_neg c2]
          by_cases c3 : p3 < 0
          · rw [if_pos c3]
          · rw [if_neg c3]
            rw [l1] at c1
            rw [l2] at c2
            rw [l3] at c3
            rw [if_pos (by rw [hL]; exact Decidable.byContradiction (fun q => V ⟨by omega, by omega, by omega, by omega⟩))]
def inI (I : MI) (a : Nat) (p1 p2 p3 p4 p5 : Int32) : MI := up2 (up2 (up2 (up2 (up2 (up2 I (7 + a) 0 p1) (7 + a) 1 p2) (7 + a) 2 p3) (7 + a) 3 p4) (7 + a) 4 p5) 0 5 (nI (a + 1))
def inT (p1 p2 p3 p4 p5 : Int32) : Nat → Int32 := upd (upd (upd (upd (upd (fun _ => (0 : Int32)) 0 p1) 1 p2) 2 p3) 3 p4) 4 p5
set_option maxRecDepth 20000 in
theorem in_RR (R : RR 0 a b c d h I D J E) (hl : a < 6) {p1 p2 p3 p4 p5 : Int32} (v1 : 0 ≤ p1.toInt) (v2 : 0 ≤ p2.toInt) (v3 : 0 ≤ p3.toInt) (v4 : p1.toInt + p2.toInt + p3.toInt ≤ 1000) : RR 0 (a + 1) b c d h (inI I a p1 p2 p3 p4 p5) D (upR (addI J 1) (14 + a) (inT p1 p2 p3 p4 p5)) E := by
  have xJ : ∀ j n, j ≠ 1 → j ≠ 14 + a → upR (addI J 1) (14 + a) (inT p1 p2 p3 p4 p5) j n = J j n := fun j n y1 y2 => by
    rw [upR_k _ _ y2, addI_k y1]
  have xI : ∀ j n, j ≠ 0 → j ≠ 7 + a → inI I a p1 p2 p3 p4 p5 j n = I j n := fun j n y1 y2 => by
    unfold inI
    rw [up2_k _ _ _ _ y1, up2_k _ _ _ _ y2, up2_k _ _ _ _ y2, up2_k _ _ _ _ y2, up2_k _ _ _ _ y2, up2_k _ _ _ _ y2]
  have xI0 : ∀ n, n ≠ 5 → inI I a p1 p2 p3 p4 p5 0 n = I 0 n := fun n y => by
    unfold inI
    rw [up2_n _ _ _ y, up2_k _ _ _ _ (by omega), up2_k _ _ _ _ (by omega), up2_k _ _ _ _ (by omega), up2_k _ _ _ _ (by omega), up2_k _ _ _ _ (by omega)]
  have xIa : ∀ n, n < 5 → inI I a p1 p2 p3 p4 p5 (7 + a) n = inT p1 p2 p3 p4 p5 n := fun n y => by
    unfold inI inT
    rw [up2_k _ _ _ _ (by omega)]
    rcases (show n = 0 ∨ n = 1 ∨ n = 2 ∨ n = 3 ∨ n = 4 by omega) with rfl | rfl | rfl | rfl | rfl
    · rw [up2_n _ _ _ (by decide), up2_n _ _ _ (by decide), up2_n _ _ _ (by decide), up2_n _ _ _ (by decide), up2_hit]; rfl
    · rw [up2_n _ _ _ (by decide), up2_n _ _ _ (by decide), up2_n _ _ _ (by decide), up2_hit]; rfl
    · rw [up2_n _ _ _ (by decide), up2_n _ _ _ (by decide), up2_hit]; rfl
    · rw [up2_n _ _ _ (by decide), up2_hit]; rfl
    · rw [up2_hit]; rfl
  have xJa : ∀ n, upR (addI J 1) (14 + a) (inT p1 p2 p3 p4 p5) (14 + a) n = inT p1 p2 p3 p4 p5 n := fun n => by rw [upR_hit]
  obtain ⟨⟨a1, a2, a3, a4⟩, ⟨b1, b2, b3, b4⟩, ⟨c1, c2, c3⟩, ⟨d1, d2, d3⟩, ⟨k1, k2, k3, k4⟩, r, f⟩ := R.1
  refine ⟨⟨⟨?_, ?_, ?_, hl⟩, ⟨?_, ?_, ?_, b4⟩, ⟨?_, ?_, c3⟩, ⟨?_, ?_, d3⟩, ⟨?_, ?_, ?_, ?_⟩, fun n hn => ?_, fun n hn => ?_⟩, fun i hi => ?_, ⟨fun j hj => ?_, fun j y1 y2 n hn => ?_⟩, R.bat.cong c3 (fun j n _ _ => xI j n (by omega) (by omega)) (fun _ _ _ => rfl) (fun j n _ _ => xJ j n (by omega) (by omega)) (fun _ => rfl), R.sto.cong d3 (fun j _ _ => xI j 0 (by omega) (by omega)) (fun _ _ _ => rfl) (fun n => xJ 11 n (by omega) (by omega)) (fun _ => rfl), R.h20⟩
  · unfold inI; rw [up2_hit]
  · rw [upR_k _ _ (by omega), addI_2, a2, nI_1]
  · rw [upR_k _ _ (by omega), addI_1]
    exact ⟨fun q => absurd q (by decide), fun q => absurd q (by omega)⟩
  · rw [xI0 _ (by decide)]; exact b1
  · rw [xJ _ _ (by omega) (by omega)]; exact b2
  · rw [xJ _ _ (by omega) (by omega)]; exact b3
  · rw [xI0 _ (by decide)]; exact c1
  · rw [xJ _ _ (by omega) (by omega)]; exact c2
  · rw [xI0 _ (by decide)]; exact d1
  · rw [xJ _ _ (by omega) (by omega)]; exact d2
  · rw [xI0 _ (by decide), xJ _ _ (by omega) (by omega)]; exact k1
  · rw [xI0 _ (by decide), xJ _ _ (by omega) (by omega)]; exact k2
  · rw [xI0 _ (by decide), xJ _ _ (by omega) (by omega)]; exact k3
  · rw [xI0 _ (by decide), xJ _ _ (by omega) (by omega)]; exact k4
  · rw [xI _ _ (by omega) (by omega), xJ _ _ (by omega) (by omega)]; exact r n hn
  · rw [xI _ _ (by omega) (by omega)]; exact f n hn
  · by_cases e : i = a
    · subst e
      refine ⟨fun j hj => by rw [xJa, xIa j hj], ?_, ?_, ?_, ?_⟩
      · rw [xIa 0 (by decide)]; exact v1
      · rw [xIa 1 (by decide)]; exact v2
      · rw [xIa 2 (by decide)]; exact v3
      · rw [xIa 0 (by decide), xIa 1 (by decide), xIa 2 (by decide)]; exact v4
    · obtain ⟨g1, g2, g3, g4, g5⟩ := R.ing i (by omega)
      refine ⟨fun j hj => by rw [xJ _ _ (by omega) (by omega), xI _ _ (by omega) (by omega)]; exact g1 j hj, ?_, ?_, ?_, ?_⟩
      · rw [xI _ _ (by omega) (by omega)]; exact g2
      · rw [xI _ _ (by omega) (by omega)]; exact g3
      · rw [xI _ _ (by omega) (by omega)]; exact g4
      · rw [xI _ _ (by omega) (by omega), xI _ _ (by omega) (by omega), xI _ _ (by omega) (by omega)]; exact g5
  · obtain ⟨⟨m1, m2, m3, m4⟩, h5, ⟨h6, h7⟩, h8, h9, h10, h11, h12, h13, h14⟩ := R.mix.1 j hj
    have eK : upR (addI J 1) (14 + a) (inT p1 p2 p3 p4 p5) (25 + j) = J (25 + j) := funext (fun n => xJ _ _ (by omega) (by omega))
    have za : J (25 + j) a = 0 := (h5 a hl).2.2 (Nat.le_refl _)
    have hx : ∀ n, n ≠ 1 → n < 14 ∨ 20 ≤ n → True := fun _ _ _ => trivial
    refine ⟨⟨?_, ?_, ?_, ?_⟩, ?_, ⟨?_, ?_⟩, ?_, ?_, ?_, ?_, ?_, ?_, ?_⟩
    · rw [xJ _ _ (by omega) (by omega), xI _ _ (by omega) (by omega)]; exact m1
    · rw [xJ _ _ (by omega) (by omega), xI _ _ (by omega) (by omega)]; exact m2
    · rw [xI _ _ (by omega) (by omega)]; exact m3
    · rw [xJ _ _ (by omega) (by omega), xI _ _ (by omega) (by omega)]; exact m4
    · intro i hi
      rw [eK, xI _ _ (by omega) (by omega)]
      obtain ⟨y1, y2, y3⟩ := h5 i hi
      exact ⟨y1, y2, fun q => y3 (by omega)⟩
    · rw [xI _ _ (by omega) (by omega)]; exact h6
    · rw [xI _ _ (by omega) (by omega)]; exact h7
    · rw [xI _ _ (by omega) (by omega), eK]; exact h8
    · intro w hw
      rw [xI _ _ (by omega) (by omega), eK]
      refine (h9 w hw).trans (sF_cong 6 0 (fun i _ hi => ?_))
      by_cases e : i = a
      · subst e
        rw [za, Int32.zero_mul, Int32.zero_mul]
      · rw [xJ _ _ (by omega) (by omega)]
    · intro w hw
      rw [xI _ _ (by omega) (by omega), xI _ _ (by omega) (by omega)]; exact h10 w hw
    · rw [xI _ _ (by omega) (by omega), eK]
      refine h11.trans (oF_cong 6 0 (fun i _ hi => ?_))
      by_cases e : i = a
      · subst e
        rw [za, if_pos (by decide), if_pos (by decide)]
      · rw [xJ _ _ (by omega) (by omega)]
    · rw [xI _ _ (by omega) (by omega), eK]; exact h12
    · rw [xI _ _ (by omega) (by omega), cB_cong c (fun n hn => xI _ _ (by omega) (by omega))]; exact h13
    · rw [xI _ _ (by omega) (by omega), xI _ _ (by omega) (by omega), xI _ _ (by omega) (by omega)]; exact h14
  · rw [xI _ _ (by omega) (by omega)]
    exact R.mix.2 j y1 y2 n hn
set_option maxRecDepth 20000 in
theorem a_ingredient (R : RR 0 a b c d h I D J E) (p1 p2 p3 p4 p5 : Int32) : agN (fun n9 => PP n9 b h) I D [IAE, ISE] (f_X4_ingredient I D p1 p2 p3 p4 p5) (f_X7_ingredient a b J E p1 p2 p3 p4 p5) := by
  have R0 := R.thr 0
  have t0 : up2 J 0 0 0 0 0 = 0 := up2_hit J 0 0 0
  unfold f_X7_ingredient
  rw [nm_v]
  generalize up2 J 0 0 0 = J0 at R0 t0 ⊢
  unfold f_X4_ingredient
  have ha := R0.a6
  have e6 : nI 6 = 6 := rfl
  simp only [no_e, bd_s]
  rcases ing3 p1 p2 p3 with ⟨⟨v1, v2, v3, v4⟩, q1, q2, q3, q4, q5, q6, q7⟩ | ⟨q1, q2⟩
  · rw [q1, bE_o, q2, bE_o, q3, bE_o, if_neg q4, if_neg q5, if_neg q6, if_neg q7]
    rcases rng p4 1 99 with ⟨r1, r2, -, -⟩ | ⟨r1, r2⟩
    · rw [r1, bE_o, r2, bd_s, if10]
      rcases rng p5 0 15 with ⟨s1, s2, -, -⟩ | ⟨s1, s2⟩
      · rw [s1, bE_o, s2, bd_s, if10, show f_size1 a b J0 E = some (nI a) by unfold f_size1; rw [R0.J1], bd_s, R0.I5]
        rcases room ha (show 6 < 2 ^ 31 by decide) with ⟨hl, g1, g2⟩ | ⟨g1, g2⟩
        · rw [e6] at g1 g2
          have R1 := in_RR (p4 := p4) (p5 := p5) R0 hl v1 v2 v3 v4
          rw [g1, bE_o, if_neg g2, inB_nI hl (by decide), nI_clamp (show a < 2 ^ 31 by omega), ckt]
          simp only [nm_v]
          have u1 : up2 (up2 (up2 (up2 (up2 I (7 + a) 0 p1) (7 + a) 1 p2) (7 + a) 2 p3) (7 + a) 3 p4) (7 + a) 4 p5 0 5 = nI a := by
            rw [up2_k _ _ _ _ (by omega), up2_k _ _ _ _ (by omega), up2_k _ _ _ _ (by omega), up2_k _ _ _ _ (by omega), up2_k _ _ _ _ (by omega)]; exact R0.I5
          rw [u1, nI_1, up2_hit, nI_pred, R0.J1]
          have t1 : upR (addI J0 1) (14 + a) (inT p1 p2 p3 p4 p5) 0 0 = 0 := by rw [upR_k _ _ (by omega), addI_k (by omega)]; exact t0
          by_cases e0 : J0 1 1 = 0
          · have eb : a = 0 := R0.1.1.2.2.1.mp e0
            subst eb
            rw [if_pos e0, decide_eq_true (show nI 0 = 0 by decide), ckt, decide_eq_true rfl, ckt]
            unfold f_X7_ingredient_tail f_size1
            rw [upR_k _ _ (by omega), addI_2, R0.J1, bd_s]
            exact agN_ok (by decide) t1 R1.pp
          · have eb : 0 < a := by
              rcases Nat.eq_zero_or_pos a with q | q
              · exact absurd (R0.1.1.2.2.1.mpr q) e0
              · exact q
            rw [if_neg e0, inB_nI (show a < 10 by omega) (by decide), ckt, decide_eq_true (show ¬ nI a = 10 from fun q => by have := (nI_eq (b := 10) (show a < 2 ^ 31 by omega) (by decide)).mp q; omega), ckt, nI_clamp (show a < 2 ^ 31 by omega), decide_eq_true rfl, ckt, decide_eq_true eb, ckt, decide_eq_true hl, ckt]
            unfold f_X7_ingredient_tail f_size1
            rw [upR_k _ _ (by omega), addI_2, R0.J1, bd_s, nI_1, nI_pred]
            exact agN_ok rfl t1 R1.pp
        · rw [e6] at g1 g2
          rw [g1, bE_e, if_pos g2]
          exact agN_er 1 rfl (up2_hit J0 0 0 _) (R0.ppt 2)
      · rw [s1, bE_e, s2, bd_s, if00]
        exact agN_er 0 rfl (up2_hit J0 0 0 _) (R0.ppt 1)
    · rw [r1, bE_e, r2, bd_s, if00]
      exact agN_er 0 rfl (up2_hit J0 0 0 _) (R0.ppt 1)
  · rw [q1, q2]
    exact agN_er 0 rfl (up2_hit J0 0 0 _) (R0.ppt 1)
end WRF
