/-! ===== an hour of both; pass ===== -/
section PSS
variable {a b c d h : Nat} {x : Int32} {I J : MI} {D E : MD}
set_option maxRecDepth 20000 in
theorem crM_b {h : Nat} (hh : h < 2 ^ 20) : 640 ≤ crM h ∧ crM h < 2 ^ 40 := by unfold crM; omega
set_option maxRecDepth 20000 in
theorem RR.fzc (R : RR x a b c d h I D J E) : FZ b D (fun m => D (13 + m) 11) := ⟨R.b5, fun m hm => ⟨rfl, R.frg hm⟩⟩
set_option maxRecDepth 20000 in
theorem RR.hc5 (R : RR x a b c d h I D J E) : HC b c d 5 (crM h) J E := by
  refine ⟨R.J5, R.J6, fun t ht => ?_, fun j hj => ?_⟩
  · obtain ⟨q1, q2, q3, q4, q5⟩ := R.sto t ht
    rw [show J (5 + 6) t = I (30 + t) 0 from q1, show E (5 + 7) t = D (30 + t) 1 from q2]
    exact ⟨q3, q4, q5⟩
  · obtain ⟨q1, q2, q3, q4, q5, ⟨m, hm, q6⟩, q7, q8, q9⟩ := R.bat.1 j hj
    refine ⟨m, hm, ?_, ?_, ?_⟩
    · rw [show J (5 + 1) j = I (18 + j) 0 from q1]; exact q6
    · rw [show J (5 + 4) j = I (18 + j) 2 from q4]; exact q7
    · rw [show E (5 + 5) j = D (18 + j) 4 from q5]; exact q9
set_option maxRecDepth 20000 in
theorem plN_ok {d : Nat} {p hard : Int32} (f t : UInt64) (h : plOK d p) : plOK d (plN p hard f t) := by
  unfold plN
  split
  · split
    · exact Or.inr (Or.inr (Or.inr rfl))
    · exact Or.inl rfl
  · split
    · exact h
    · split
      · exact h
      · exact Or.inr (Or.inr (Or.inr rfl))
set_option maxRecDepth 20000 in
theorem crN_rg {d : Nat} {p : Int32} {cr f t t' : UInt64} {hi : Int} (hhi : 640 ≤ hi ∧ hi < 2 ^ 40) (hf : rg (-300) 0 f) (ht : ∀ s, s < d → p = nI s → FP.Core.DFin t ∧ FP.Core.DFin t') (hp : plOK d p) (hd : d ≤ 3) (hc : rg 640 hi cr) : rg 640 (hi + 768) (crN p cr f t t') := by
  unfold crN
  split
  · exact hc.mono (Int.le_refl _) (by omega)
  · split
    · exact hc.mono (Int.le_refl _) (by omega)
    · rename_i n1 n2
      rcases hp with q | ⟨s, hs, q⟩ | q | q
      · exact absurd q n1
      · obtain ⟨y1, y2⟩ := ht s hs q
        have z := rg_add hc (fA_rg hf y1 y2) (by decide) (by omega)
        exact z.mono (by omega) (by omega)
      · exact absurd (by rw [q]; decide) n2
      · exact absurd (by rw [q]; decide) n2
set_option maxRecDepth 20000 in
theorem plN_ge {p hard : Int32} {f t : UInt64} (h1 : ¬ p = -1) (h2 : 10 ≤ p) : plN p hard f t = p := by
  unfold plN
  rw [if_neg h1, if_pos h2]
set_option maxRecDepth 20000 in
theorem crN_ge {p : Int32} {cr f t t' : UInt64} (h1 : ¬ p = -1) (h2 : 10 ≤ p) : crN p cr f t t' = cr := by
  unfold crN
  rw [if_neg h1, if_pos h2]
set_option maxRecDepth 20000 in
theorem RR_hour (R : RR x a b c d h I D J E) (hh : h + 1 < 2 ^ 20) : ∃ I' D' J' E', f_X4_passHour I D = some (I', D') ∧ f_X5_hour a b J E 5 = some (J', E') ∧ RR (x + 1) a b c d (h + 1) I' D' J' E' ∧ J' 0 0 = J 0 0 := by
  have ha := R.a6
  have hb := R.b5
  have hc := R.c12
  have hd := R.d3
  have hcm : crM (h + 1) = crM h + 768 := by unfold crM; omega
  obtain ⟨J', E', p1, p2, p3, p4, p5⟩ := hour_M (Or.inl rfl) hc hd (crM_b R.h20) R.gz R.hc5
  obtain ⟨I', D', o1, o2, o3, o4, o5, o6, o7⟩ := hour_C hc hd (crM_b R.h20) R.fzc R.I6 R.I7 R.I8 (fun t ht => by
    obtain ⟨q1, q2, q3, q4, q5⟩ := R.sto t ht
    exact ⟨q3, q4, q5⟩) (fun j hj => by
    obtain ⟨q1, q2, q3, q4, q5, ⟨m, hm, q6⟩, q7, q8, q9⟩ := R.bat.1 j hj
    exact ⟨m, hm, q6, q7, q9⟩)
  have xJ : ∀ k j, k ≠ 9 → J' k j = J k j := fun k j q => p2 k j (by omega)
  have xE : ∀ k j, k ≠ 10 → k ≠ 12 → E' k j = E k j := fun k j q1 q2 => p3 k j (by omega) (by omega)
  have xI : ∀ k j, k ≠ 0 → j ≠ 2 → j ≠ 8 → I' k j = I k j := fun k j q1 q2 q3 => o4 k j (by omega) (by omega) (by omega)
  have xI0 : ∀ j, j ≠ 9 → I' 0 j = I 0 j := fun j q => o4 0 j (by omega) (by omega) (by omega)
  have xIr : ∀ k j, k ≠ 0 → (k < 13 ∨ 18 ≤ k) → (k < 18 ∨ 30 ≤ k) → I' k j = I k j := fun k j q1 q2 q3 => o4 k j (by omega) (by omega) (by omega)
  obtain ⟨⟨a1, a2, a3, a4⟩, ⟨b1, b2, b3, b4⟩, ⟨c1, c2, c3⟩, ⟨d1, d2, d3⟩, ⟨k1, k2, k3, k4⟩, r, f⟩ := R.1
  refine ⟨I', D', J', E', o1, p1, ⟨⟨⟨?_, ?_, ?_, a4⟩, ⟨?_, ?_, ?_, b4⟩, ⟨?_, ?_, c3⟩, ⟨?_, ?_, d3⟩, ⟨?_, ?_, ?_, ?_⟩, fun n hn => ?_, fun n hn => ?_⟩, R.ing.cong a4 (fun j n _ _ => xIr j n (by omega) (by omega) (by omega)) (fun j n _ _ => xJ j n (by omega)), ⟨fun k hk => ?_, fun k g1 g2 n hn => ?_⟩, ⟨fun j hj => ?_, fun j g1 g2 => ?_⟩, fun t ht => ?_, hh⟩, xJ 0 0 (by decide)⟩
  · rw [xI0 _ (by decide)]; exact a1
  · rw [xJ _ _ (by decide)]; exact a2
  · rw [xJ _ _ (by decide)]; exact a3
  · rw [xI0 _ (by decide)]; exact b1
  · rw [xJ _ _ (by decide)]; exact b2
  · rw [xJ _ _ (by decide)]; exact b3
  · rw [xI0 _ (by decide)]; exact c1
  · rw [xJ _ _ (by decide)]; exact c2
  · rw [xI0 _ (by decide)]; exact d1
  · rw [xJ _ _ (by decide)]; exact d2
  · rw [o2, xJ _ _ (by decide), k1, Int32.add_assoc]
  · rw [xI0 _ (by decide), xJ _ _ (by decide)]; exact k2
  · rw [xI0 _ (by decide), xJ _ _ (by decide)]; exact k3
  · rw [xI0 _ (by decide), xJ _ _ (by decide)]; exact k4
  · rw [xIr _ _ (by decide) (by decide) (by decide), xJ _ _ (by decide)]; exact r n hn
  · rw [xIr _ _ (by decide) (by decide) (by decide)]; exact f n hn
  · obtain ⟨⟨m1, m2, m3, m4⟩, h5, ⟨h6, h7⟩, h8, h9, h10, h11, h12, h13, h14⟩ := R.mix.1 k hk
    have yI : ∀ n, n ≠ 8 → I' (13 + k) n = I (13 + k) n := fun n q => o4 _ n (by omega) (by omega) (by omega)
    have eK : J' (25 + k) = J (25 + k) := funext (fun n => xJ _ _ (by omega))
    refine ⟨⟨?_, ?_, ?_, ?_⟩, ?_, ⟨?_, ?_⟩, ?_, ?_, ?_, ?_, ?_, ?_, ?_⟩
    · rw [xJ _ _ (by omega), yI _ (by decide)]; exact m1
    · rw [xJ _ _ (by omega), yI _ (by decide)]; exact m2
    · rw [yI _ (by decide)]; exact m3
    · rw [xJ _ _ (by omega), o3 k hk, ← m4, Int32.add_assoc]
    · intro i hi
      rw [eK, yI _ (by decide)]; exact h5 i hi
    · rw [yI _ (by decide)]; exact h6
    · rw [yI _ (by decide)]; exact h7
    · rw [yI _ (by decide), eK]; exact h8
    · intro w hw
      rw [yI _ (by omega), eK]
      exact (h9 w hw).trans (sF_cong 6 0 (fun i _ hi => by rw [xJ _ _ (by omega)]))
    · intro w hw
      rw [yI _ (by omega), yI _ (by decide)]; exact h10 w hw
    · rw [yI _ (by decide), eK]
      exact h11.trans (oF_cong 6 0 (fun i _ hi => by rw [xJ _ _ (by omega)]))
    · rw [yI _ (by decide), eK]; exact h12
    · rw [yI _ (by decide), cB_cong c (fun i _ => xI _ _ (by omega) (by decide) (by decide))]; exact h13
    · rw [o5 _ _ (by omega) (by omega), yI _ (by decide), yI _ (by decide), yI _ (by decide)]; exact h14
  · rw [o4 _ n (by omega) (by omega) (by omega)]
    exact R.mix.2 k g1 g2 n hn
  · obtain ⟨q1, q2, q3, q4, q5, ⟨m, hm, q6⟩, q7, q8, q9⟩ := R.bat.1 j hj
    obtain ⟨y1, y2⟩ := p5 j m hj hm (show J (5 + 1) j = nI m from q1.trans q6)
    obtain ⟨z1, z2⟩ := o7 j m hj hm q6
    have e4 : J (5 + 4) j = I (18 + j) 2 := q4
    have e3 : J (5 + 3) j = I (18 + j) 3 := q3
    have e5 : E (5 + 5) j = D (18 + j) 4 := q5
    have hsame : plN (I (18 + j) 2) (I (18 + j) 3) (D (13 + m) 11) (E (5 + 7) (I (18 + j) 2).toNatClampNeg) = plN (I (18 + j) 2) (I (18 + j) 3) (D (13 + m) 11) (D (30 + (I (18 + j) 2).toNatClampNeg) 1) ∧ crN (I (18 + j) 2) (D (18 + j) 4) (D (13 + m) 11) (E (5 + 7) (I (18 + j) 2).toNatClampNeg) (fH (J (5 + 6) (I (18 + j) 2).toNatClampNeg) (E (5 + 7) (I (18 + j) 2).toNatClampNeg)) = crN (I (18 + j) 2) (D (18 + j) 4) (D (13 + m) 11) (D (30 + (I (18 + j) 2).toNatClampNeg) 1) (fH (I (30 + (I (18 + j) 2).toNatClampNeg) 0) (D (30 + (I (18 + j) 2).toNatClampNeg) 1)) := by
      rcases q7 with q | ⟨s, hs, q⟩ | q | q
      · unfold plN crN
        rw [q, if_pos rfl, if_pos rfl, if_pos rfl, if_pos rfl]
        exact ⟨rfl, rfl⟩
      · obtain ⟨w1, w2, -⟩ := R.sto s hs
        rw [q, nI_clamp (show s < 2 ^ 31 by omega), show E (5 + 7) s = D (30 + s) 1 from w2, show J (5 + 6) s = I (30 + s) 0 from w1]
        exact ⟨rfl, rfl⟩
      · rw [q, plN_ge (by decide) (by decide), plN_ge (by decide) (by decide), crN_ge (by decide) (by decide), crN_ge (by decide) (by decide)]
        exact ⟨rfl, rfl⟩
      · rw [q, plN_ge (by decide) (by decide), plN_ge (by decide) (by decide), crN_ge (by decide) (by decide), crN_ge (by decide) (by decide)]
        exact ⟨rfl, rfl⟩
    rw [e4, e3] at y1
    rw [e4, e5] at y2
    refine ⟨?_, ?_, ?_, ?_, ?_, ⟨m, hm, ?_⟩, ?_, ?_, ?_⟩
    · rw [xJ _ _ (by decide), xI _ _ (by omega) (by decide) (by decide)]; exact q1
    · rw [xJ _ _ (by decide), xI _ _ (by omega) (by decide) (by decide)]; exact q2
    · rw [xJ _ _ (by decide), xI _ _ (by omega) (by decide) (by decide)]; exact q3
    · rw [z1]; exact y1.trans hsame.1
    · rw [z2]; exact y2.trans hsame.2
    · rw [xI _ _ (by omega) (by decide) (by decide)]; exact q6
    · rw [z1]; exact plN_ok _ _ q7
    · rw [xI _ _ (by omega) (by decide) (by decide)]; exact q8
    · rw [z2, hcm]
      exact crN_rg (crM_b R.h20) (R.frg hm) (fun s hs e => by
        obtain ⟨w1, w2, w3, w4, w5⟩ := R.sto s hs
        rw [e, nI_clamp (show s < 2 ^ 31 by omega)]
        exact ⟨w5.1, (fH_all w3 w4 w5).2.2.1⟩) q7 hd q9
  · have z := R.bat.2 j g1 g2
    rw [o4 _ 2 (by omega) (by omega) (by omega), xI _ 3 (by omega) (by decide) (by decide), xJ _ _ (by decide)]
    exact z
  · obtain ⟨w1, w2, w3, w4, w5⟩ := R.sto t ht
    have e := p4 t ht
    rw [show J (5 + 6) t = I (30 + t) 0 from w1, show E (5 + 7) t = D (30 + t) 1 from w2] at e
    rw [xJ _ _ (by decide), xI _ _ (by omega) (by decide) (by decide), o6 t ht]
    exact ⟨w1, e, w3, w4, (fH_all w3 w4 w5).2.2⟩
/- the reference's ages, told at the end -/
set_option maxRecDepth 20000 in
theorem pass_age (R : RR x a b c d h I D J E) : ∀ (m i n : Nat) (J1 : MI), i + m = b → m < n → (∀ k, k < b → J1 (20 + k) 3 = if k < i then J (20 + k) 3 + x else J (20 + k) 3) → (∀ k j, ¬ (j = 3 ∧ 20 ≤ k ∧ k < 20 + b) → J1 k j = J k j) →
    ∃ J', f_X7_pass_L43 a b x n (nI i) J1 E = some (nI (cQ (J 9) 11 c), J', E) ∧ RR 0 a b c d h I D J' E ∧ J' 0 0 = J 0 0 := by
  intro m
  induction m with
  | zero =>
    intro i n J1 h1 h2 g1 g2
    obtain ⟨n, rfl⟩ : ∃ n', n = n' + 1 := ⟨n - 1, by omega⟩
    obtain rfl : i = b := by omega
    have hb := R.b5
    have hc := R.c12
    have xJ : ∀ k j, ¬ (j = 3 ∧ 20 ≤ k ∧ k < 20 + i) → ¬ (k = 0 ∧ j = 7) → up2 J1 0 7 (J1 0 7 + x) k j = J k j := fun k j q1 q2 => by rw [up2_ap, if_neg q2]; exact g2 k j q1
    refine ⟨up2 J1 0 7 (J1 0 7 + x), ?_, ⟨?_, ?_, ?_, ?_, ?_, R.h20⟩, xJ 0 0 (by omega) (by omega)⟩
    · rw [f_X7_pass_L43]
      unfold f_size2
      rw [bd_s, g2 2 2 (by omega), R.J2, if_pos (nI_le (Nat.le_refl _) (by omega)), nm_v]
      have e := cntMm a i (J := up2 J1 0 7 (J1 0 7 + x)) (kb := 5) E 11 hc (by rw [xJ _ _ (by omega) (by omega)]; exact R.J5)
      have e2 : up2 J1 0 7 (J1 0 7 + x) (5 + 4) = J 9 := funext (fun n => xJ _ _ (by omega) (by omega))
      rw [e2] at e
      rw [e, bd_s]
    · obtain ⟨⟨a1, a2, a3, a4⟩, ⟨b1, b2, b3, b4⟩, ⟨c1, c2, c3⟩, ⟨d1, d2, d3⟩, ⟨k1, k2, k3, k4⟩, r, f⟩ := R.1
      refine ⟨⟨a1, ?_, ?_, a4⟩, ⟨b1, ?_, ?_, b4⟩, ⟨c1, ?_, c3⟩, ⟨d1, ?_, d3⟩, ⟨?_, ?_, ?_, ?_⟩, fun n hn => ?_, f⟩
      · rw [xJ _ _ (by omega) (by omega)]; exact a2
      · rw [xJ _ _ (by omega) (by omega)]; exact a3
      · rw [xJ _ _ (by omega) (by omega)]; exact b2
      · rw [xJ _ _ (by omega) (by omega)]; exact b3
      · rw [xJ _ _ (by omega) (by omega)]; exact c2
      · rw [xJ _ _ (by omega) (by omega)]; exact d2
      · rw [up2_hit, g2 _ _ (by omega), Int32.add_zero]; exact k1
      · rw [xJ _ _ (by omega) (by omega)]; exact k2
      · rw [xJ _ _ (by omega) (by omega)]; exact k3
      · rw [xJ _ _ (by omega) (by omega)]; exact k4
      · rw [xJ _ _ (by omega) (by omega)]; exact r n hn
    · exact R.ing.cong R.a6 (fun _ _ _ _ => rfl) (fun j n _ _ => xJ j n (by omega) (by omega))
    · refine ⟨fun k hk => ?_, R.mix.2⟩
      obtain ⟨⟨m1, m2, m3, m4⟩, h5, h67, h8, h9, h10, h11, h12, h13, h14⟩ := R.mix.1 k hk
      have eK : up2 J1 0 7 (J1 0 7 + x) (25 + k) = J (25 + k) := funext (fun n => xJ _ _ (by omega) (by omega))
      refine ⟨⟨?_, ?_, m3, ?_⟩, ?_, h67, ?_, ?_, h10, ?_, ?_, h13, h14⟩
      · rw [xJ _ _ (by omega) (by omega)]; exact m1
      · rw [xJ _ _ (by omega) (by omega)]; exact m2
      · rw [up2_k _ _ _ _ (by omega), g1 k hk, if_pos hk, Int32.add_zero]; exact m4
      · rw [eK]; exact h5
      · rw [eK]; exact h8
      · intro w hw
        rw [eK]
        exact (h9 w hw).trans (sF_cong 6 0 (fun i' _ hi => by rw [xJ _ _ (by omega) (by omega)]))
      · rw [eK]
        exact h11.trans (oF_cong 6 0 (fun i' _ hi => by rw [xJ _ _ (by omega) (by omega)]))
      · rw [eK]; exact h12
    · exact R.bat.cong hc (fun _ _ _ _ => rfl) (fun _ _ _ => rfl) (fun j n _ _ => xJ j n (by omega) (by omega)) (fun _ => rfl)
    · exact R.sto.cong R.d3 (fun _ _ _ => rfl) (fun _ _ _ => rfl) (fun n => xJ 11 n (by omega) (by omega)) (fun _ => rfl)
  | succ m ih =>
    intro i n J1 h1 h2 g1 g2
    obtain ⟨n, rfl⟩ : ∃ n', n = n' + 1 := ⟨n - 1, by omega⟩
    have hb := R.b5
    obtain ⟨J', r1, r2, r3⟩ := ih (i + 1) n (up2 J1 (20 + i) 3 (J1 (20 + i) 3 + x)) (by omega) (by omega) (fun k hk => by
      by_cases e : k = i
      · subst e
        rw [up2_hit, g1 k hk, if_neg (by omega), if_pos (by omega)]
      · rw [up2_k _ _ _ _ (by omega), g1 k hk]
        by_cases e2 : k < i
        · rw [if_pos e2, if_pos (by omega)]
        · rw [if_neg e2, if_neg (by omega)]) (fun k j q => by rw [up2_ap, if_neg (by omega)]; exact g2 k j q)
    refine ⟨J', ?_, r2, r3⟩
    rw [f_X7_pass_L43]
    unfold f_size2
    rw [bd_s, g2 2 2 (by omega), R.J2, if_neg (nI_ge (by omega) (by omega)), get2_ok (R.gt.cong (fun n => g2 1 n (by omega)) (fun n => g2 2 n (by omega))) E (show i < b by omega), bd_s, nm_v, nI_1]
    exact r1
set_option maxRecDepth 20000 in
theorem pass_L (a b c d : Nat) {N : Nat} (hN : N < 100) : ∀ (m i n h : Nat) (I : MI) (D : MD) (J : MI) (E : MD), i + m = N → m < n → h + m < 2 ^ 20 → RR (nI i) a b c d h I D J E →
    ∃ v I' D' J' E', f_X4_pass_L9 (nI N) n (nI i) I D = some (.ok (v, I', D')) ∧ f_X7_pass_L23 a b (nI N) n (nI i) J E = some (v, J', E') ∧ RR 0 a b c d (h + m) I' D' J' E' ∧ J' 0 0 = J 0 0 := by
  intro m
  induction m with
  | zero =>
    intro i n h I D J E h1 h2 h3 R
    obtain ⟨n, rfl⟩ : ∃ n', n = n' + 1 := ⟨n - 1, by omega⟩
    obtain rfl : i = N := by omega
    obtain ⟨J', r1, r2, r3⟩ := pass_age R b 0 200 J (by omega) (by have := R.b5; omega) (fun k _ => by rw [if_neg (by omega)]) (fun _ _ _ => rfl)
    refine ⟨nI (cQ (J 9) 11 c), I, D, J', E, ?_, ?_, r2, r3⟩
    · rw [f_X4_pass_L9, if_pos (nI_le (Nat.le_refl _) (by omega)), R.cntC, bd_s]
    · rw [f_X7_pass_L23, if_pos (nI_le (Nat.le_refl _) (by omega))]
      exact r1
  | succ m ih =>
    intro i n h I D J E h1 h2 h3 R
    obtain ⟨n, rfl⟩ : ∃ n', n = n' + 1 := ⟨n - 1, by omega⟩
    obtain ⟨I1, D1, J1, E1, o1, o2, o3, o4⟩ := RR_hour R (by omega)
    rw [nI_1] at o3
    obtain ⟨v, I', D', J', E', r1, r2, r3, r4⟩ := ih (i + 1) n (h + 1) I1 D1 J1 E1 (by omega) (by omega) (by omega) o3
    refine ⟨v, I', D', J', E', ?_, ?_, by rw [show h + (m + 1) = h + 1 + m by omega]; exact r3, r4.trans o4⟩
    · rw [f_X4_pass_L9, if_neg (nI_ge (by omega) (by omega)), o1, bd_s, nI_1]
      exact r1
    · rw [f_X7_pass_L23, if_neg (nI_ge (by omega) (by omega)), o2, bd_s, nI_1]
      exact r2
set_option maxRecDepth 20000 in
theorem a_pass (R : RR 0 a b c d h I D J E) (hh : h + 48 < 2 ^ 20) (p1 : Int32) : agW (fun _ => True) (PP a b h) I D [IAE] (f_X4_pass I D p1) (f_X7_pass a b J E p1) := by
  have R0 := R.thr 0
  have t0 : up2 J 0 0 0 0 0 = 0 := up2_hit J 0 0 0
  unfold f_X7_pass
  rw [nm_v]
  generalize up2 J 0 0 0 = J0 at R0 t0 ⊢
  unfold f_X4_pass
  have z1 : (1 : Int32).toInt = 1 := by decide
  have z0 : (0 : Int32).toInt = 0 := by decide
  rcases rng p1 1 48 with ⟨h3, h4, h5, h6⟩ | ⟨h3, h4⟩
  · obtain ⟨N, hN, rfl⟩ := rgN_ (p := p1) (hi := 48) (n := 49) (by decide) (by decide) (by omega) h6
    obtain ⟨v, I', D', J', E', r1, r2, r3, r4⟩ := pass_L a b c d (show N < 100 by omega) N 0 200 h I D J0 E (by omega) (by omega) (by omega) R0
    rw [h3, bE_o, h4, bd_s, if10, show f_X4_pass_L9 (nI N) 200 0 I D = _ from r1, show f_X7_pass_L23 a b (nI N) 200 0 J0 E = _ from r2]
    exact agW_ok rfl trivial (r4.trans t0) ⟨c, d, h + N, by omega, r3⟩
  · rw [h3, bE_e, h4, bd_s, if00, no_e, bd_s]
    exact agW_er 0 rfl (up2_hit J0 0 0 _) (R0.ppt 1)
end PSS
