/-! ===== hours explicit: what becomes of each batch; what was foretold ===== -/
section HRX
variable {a b c d h : Nat} {x : Int32} {I J : MI} {D E : MD}
def EV (n d : Nat) (I : MI) (D : MD) (I' : MI) (D' : MD) (j mx : Nat) : Prop :=
  (∀ s, s < d → I (18 + j) 2 = nI s → (∀ v, cvN (D (13 + mx) 11) (I (30 + s) 0) n (D (30 + s) 1) (D (18 + j) 4) = some v → I' (18 + j) 2 = nI s ∧ D' (18 + j) 4 = v) ∧ (cvN (D (13 + mx) 11) (I (30 + s) 0) n (D (30 + s) 1) (D (18 + j) 4) = none → I' (18 + j) 2 = 11)) ∧
  (I (18 + j) 2 = -1 → I (18 + j) 3 = 0 → 1 ≤ n → I' (18 + j) 2 = 11) ∧
  (I (18 + j) 2 = -1 → I (18 + j) 3 ≠ 0 → I' (18 + j) 2 = -1 ∧ D' (18 + j) 4 = D (18 + j) 4) ∧
  ((I (18 + j) 2 = 10 ∨ I (18 + j) 2 = 11) → I' (18 + j) 2 = I (18 + j) 2 ∧ D' (18 + j) 4 = D (18 + j) 4)
set_option maxRecDepth 20000 in
theorem EV_0 (j mx : Nat) : EV 0 d I D I D j mx := ⟨fun s _ e => ⟨fun v hv => ⟨e, Option.some.inj hv⟩, fun hv => by cases hv⟩, fun _ _ h => absurd h (by decide), fun e _ => ⟨e, rfl⟩, fun _ => ⟨rfl, rfl⟩⟩
set_option maxRecDepth 20000 in
theorem hrs {N : Nat} (hN : N < 100) : ∀ (m i n h : Nat) (I : MI) (D : MD) (J : MI) (E : MD), i + m = N → m < n → h + m < 2 ^ 20 → RR (nI i) a b c d h I D J E →
    ∃ v I' D' J' E', f_X4_pass_L9 (nI N) n (nI i) I D = some (.ok (v, I', D')) ∧ RR 0 a b c d (h + m) I' D' J' E' ∧ (∀ k j, 18 ≤ k → k < 30 → j ≠ 2 → I' k j = I k j) ∧ ∀ j mx, j < c → mx < b → I (18 + j) 0 = nI mx → EV m d I D I' D' j mx := by
  intro m
  induction m with
  | zero =>
    intro i n h I D J E h1 h2 h3 R
    obtain ⟨n, rfl⟩ : ∃ n', n = n' + 1 := ⟨n - 1, by omega⟩
    obtain rfl : i = N := by omega
    refine ⟨nI (cQ (J 9) 11 c), I, D, _, E, ?_, R.aged, fun _ _ _ _ _ => rfl, fun j mx _ _ _ => EV_0 j mx⟩
    rw [f_X4_pass_L9, if_pos (nI_le (Nat.le_refl _) (by omega)), R.cntC, bd_s]
  | succ m ih =>
    intro i n h I D J E h1 h2 h3 R
    obtain ⟨n, rfl⟩ : ∃ n', n = n' + 1 := ⟨n - 1, by omega⟩
    have hb := R.b5
    have hc := R.c12
    have hd := R.d3
    obtain ⟨I1, D1, J1, E1, o1, o2, o3, xJ, xE, p4, o4, o5, o6, o7⟩ := RR_hourX R (by omega)
    rw [nI_1] at o3
    obtain ⟨v, I', D', J', E', r1, r2, r3, r4⟩ := ih (i + 1) n (h + 1) I1 D1 J1 E1 (by omega) (by omega) (by omega) o3
    have k1 : ∀ k j, 18 ≤ k → j ≠ 2 → I1 k j = I k j := fun k j y1 y2 => o4 k j (by omega) (by omega) (by omega)
    refine ⟨v, I', D', J', E', ?_, by rw [show h + (m + 1) = h + 1 + m by omega]; exact r2, fun k j y1 y2 y3 => (r3 k j y1 y2 y3).trans (k1 k j y1 y3), fun j mx hj hm e => ?_⟩
    · rw [f_X4_pass_L9, if_neg (nI_ge (by omega) (by omega)), o1, bd_s, nI_1]
      exact r1
    · obtain ⟨z1, z2⟩ := o7 j mx hj hm e
      obtain ⟨v1, v2, v3, v4⟩ := r4 j mx hj hm (by rw [k1 _ _ (by omega) (by decide)]; exact e)
      have eF : D1 (13 + mx) 11 = D (13 + mx) 11 := o5 _ _ (by omega) (by omega)
      have eH : I1 (18 + j) 3 = I (18 + j) 3 := k1 _ _ (by omega) (by decide)
      refine ⟨fun s hs q => ?_, fun q g _ => ?_, fun q g => ?_, fun q => ?_⟩
      · have n1 : ¬ nI s = -1 := fun y => by
          have := nI_pos (show s < 2 ^ 31 by omega)
          rw [y] at this
          exact this (by decide)
        have n2 : ¬ (10 : Int32) ≤ nI s := nI_ge (a := s) (b := 10) (by omega) (by decide)
        unfold plN at z1
        unfold crN at z2
        rw [q, if_neg n1, if_neg n2, nI_clamp (show s < 2 ^ 31 by omega)] at z1 z2
        have eC : cvN (D (13 + mx) 11) (I (30 + s) 0) (m + 1) (D (30 + s) 1) (D (18 + j) 4) = if zv (D (30 + s) 1) < zv (D (13 + mx) 11) then cvN (D (13 + mx) 11) (I (30 + s) 0) m (fH (I (30 + s) 0) (D (30 + s) 1)) (FP.dadd (D (18 + j) 4) (fA (D (13 + mx) 11) (D (30 + s) 1) (fH (I (30 + s) 0) (D (30 + s) 1)))) else none := rfl
        rw [eC]
        by_cases g : zv (D (30 + s) 1) < zv (D (13 + mx) 11)
        · rw [if_pos g] at z1 ⊢
          have w := v1 s hs z1
          rw [eF, k1 (30 + s) 0 (by omega) (by decide), o6 s hs, z2] at w
          exact w
        · rw [if_neg g] at z1 ⊢
          have w := v4 (Or.inr z1)
          exact ⟨fun v hv => (by cases hv), fun _ => w.1.trans z1⟩
      · unfold plN at z1
        rw [q, g, if_pos rfl, if_pos rfl] at z1
        exact (v4 (Or.inr z1)).1.trans z1
      · unfold plN at z1
        unfold crN at z2
        rw [q, if_pos rfl, if_neg g] at z1
        rw [q, if_pos rfl] at z2
        obtain ⟨w1, w2⟩ := v3 z1 (by rw [eH]; exact g)
        exact ⟨w1, w2.trans z2⟩
      · have n1 : ¬ I (18 + j) 2 = -1 := by rcases q with q | q <;> rw [q] <;> decide
        have n2 : (10 : Int32) ≤ I (18 + j) 2 := by rcases q with q | q <;> rw [q] <;> decide
        rw [plN_ge n1 n2] at z1
        rw [crN_ge n1 n2] at z2
        obtain ⟨w1, w2⟩ := v4 (by rw [z1]; exact q)
        exact ⟨w1.trans z1, w2.trans z2⟩
set_option maxRecDepth 20000 in
theorem pass_X (R : RR 0 a b c d h I D J E) {N : Nat} (h1 : 1 ≤ N) (h2 : N ≤ 48) (hh : h + 100 < 2 ^ 20) : ∃ v I' D' J' E', f_X4_pass I D (nI N) = some (.ok (v, I', D')) ∧ RR 0 a b c d (h + N) I' D' J' E' ∧ (∀ k j, 18 ≤ k → k < 30 → j ≠ 2 → I' k j = I k j) ∧ ∀ j mx, j < c → mx < b → I (18 + j) 0 = nI mx → EV N d I D I' D' j mx := by
  obtain ⟨v, I', D', J', E', r1, r2, r3, r4⟩ := hrs (a := a) (b := b) (c := c) (d := d) (N := N) (by omega) N 0 200 h I D J E (by omega) (by omega) (by omega) R
  refine ⟨v, I', D', J', E', ?_, r2, r3, r4⟩
  unfold f_X4_pass
  rw [crk (by rw [show (1 : Int32).toInt = 1 by decide, nI_toInt (by omega)]; omega) (by rw [show (48 : Int32).toInt = 48 by decide, nI_toInt (by omega)]; omega), bE_o]
  exact r1
set_option maxRecDepth 20000 in
theorem be_X (R : RR 0 a b c d h I D J E) {N : Nat} (h1 : 1 ≤ N) (h2 : N ≤ 48) {j : Nat} (hj : j < c) : ∃ mx w, mx < b ∧ I (18 + j) 0 = nI mx ∧ f_X4_wouldBe I D (nI j) (nI N) = some (.ok w) ∧ FP.Core.DFin w ∧ ∀ I' D', EV N d I D I' D' j mx → w = if I' (18 + j) 2 ≤ 9 then D' (18 + j) 4 else 13830554455654793216 := by
  have hc := R.c12
  have hd := R.d3
  have hb := R.b5
  have hcm := crM_b R.h20
  obtain ⟨q1, q2, q3, q4, q5, ⟨m, hm, q6⟩, q7, q8, q9⟩ := R.bat.1 j hj
  have f1 : f_X4_checkNumber (nI j) (nI c) = some (.ok ()) := cn_ok hj (by omega)
  have f2 : f_X4_checkRange (nI N) 1 48 = some (.ok ()) := crk (by rw [show (1 : Int32).toInt = 1 by decide, nI_toInt (by omega)]; omega) (by rw [show (48 : Int32).toInt = 48 by decide, nI_toInt (by omega)]; omega)
  have head : ∀ r, f_X0_isStored I D j = some r → f_X4_wouldBe I D (nI j) (nI N) = (if r = 0 then (if (I (18 + j) 2) = (-1) then (if (I (18 + j) 3) = 0 then some (Except.ok (13830554455654793216 : UInt64)) else some (Except.ok (D (18 + j) 4))) else some (Except.ok (13830554455654793216 : UInt64))) else ck (inB (I (18 + j) 2) 3) (bd (f_X4_crystalLater I D j (D (30 + ((I (18 + j) 2)).toNatClampNeg) 1) (nI N)) (fun r_12 => some (Except.ok r_12)))) := fun r hr => by
    unfold f_X4_wouldBe
    rw [R.I7, f1, bE_o, f2, bE_o, inB_nI (show j < 12 by omega) (by decide), nI_clamp (show j < 2 ^ 31 by omega), ckt, hr, bd_s]
  rcases q7 with q | ⟨t, ht, q⟩ | q | q
  · have e1 : f_X0_isStored I D j = some 0 := by
      unfold f_X0_isStored
      rw [q, if_pos (by decide)]
    by_cases g : I (18 + j) 3 = 0
    · refine ⟨m, _, hm, q6, by rw [head 0 e1, if_pos rfl, if_pos q, if_pos g], rc_m1.1, fun I' D' hv => ?_⟩
      rw [hv.2.1 q g h1, if_neg (by decide)]
    · refine ⟨m, _, hm, q6, by rw [head 0 e1, if_pos rfl, if_pos q, if_neg g], q9.1, fun I' D' hv => ?_⟩
      obtain ⟨y1, y2⟩ := hv.2.2.1 q g
      rw [y1, if_pos (by decide), y2]
  · obtain ⟨w1, w2, w3, w4, w5⟩ := R.sto t ht
    have e1 : f_X0_isStored I D j = some 1 := by
      unfold f_X0_isStored
      rw [q, if_neg (nI_pos (by omega)), if_neg (show ¬ (3 : Int32) ≤ nI t from nI_ge (a := t) (b := 3) (by omega) (by decide))]
    have e2 : f_X4_crystalLater I D j (D (30 + t) 1) (nI N) = some (cvR (cvN (D (13 + m) 11) (I (30 + t) 0) N (D (30 + t) 1) (D (18 + j) 4))) := by
      unfold f_X4_crystalLater
      rw [q6, q, inB_nI (show m < 5 by omega) (by decide), inB_nI (show t < 3 by omega) (by decide), ckt, ckt, show (0 : Int32) = nI 0 from rfl]
      exact later_L R.fzc hm (by omega) q6 q w3 w4 (by omega) N 0 200 _ _ (crM h) (by omega) (by omega) w5 hcm.1 (by unfold crM; have := R.h20; omega) q9
    refine ⟨m, cvR (cvN (D (13 + m) 11) (I (30 + t) 0) N (D (30 + t) 1) (D (18 + j) 4)), hm, q6, ?_, ?_, fun I' D' hv => ?_⟩
    · rw [head 1 e1, if10, q, inB_nI (show t < 3 by omega) (by decide), nI_clamp (show t < 2 ^ 31 by omega), ckt, e2, bd_s]
    · cases hcv : cvN (D (13 + m) 11) (I (30 + t) 0) N (D (30 + t) 1) (D (18 + j) 4) with
      | none => exact rc_m1.1
      | some v => exact (cvN_rg (R.frg hm) w3 w4 N _ _ (crM h) w5 hcm.1 (by unfold crM; have := R.h20; omega) q9 v hcv).1
    · obtain ⟨v1, v2⟩ := hv.1 t ht q
      cases hcv : cvN (D (13 + m) 11) (I (30 + t) 0) N (D (30 + t) 1) (D (18 + j) 4) with
      | none => rw [v2 hcv, if_neg (by decide)]; rfl
      | some v =>
        obtain ⟨y1, y2⟩ := v1 v hcv
        rw [y1, y2, if_pos (show nI t ≤ (9 : Int32) from nI_le (b := 9) (by omega) (by decide))]
        rfl
  · have e1 : f_X0_isStored I D j = some 0 := by
      unfold f_X0_isStored
      rw [q, if_neg (by decide), if_pos (by decide)]
    refine ⟨m, _, hm, q6, by rw [head 0 e1, if_pos rfl, if_neg (by rw [q]; decide)], rc_m1.1, fun I' D' hv => ?_⟩
    rw [(hv.2.2.2 (Or.inl q)).1, q, if_neg (by decide)]
  · have e1 : f_X0_isStored I D j = some 0 := by
      unfold f_X0_isStored
      rw [q, if_neg (by decide), if_pos (by decide)]
    refine ⟨m, _, hm, q6, by rw [head 0 e1, if_pos rfl, if_neg (by rw [q]; decide)], rc_m1.1, fun I' D' hv => ?_⟩
    rw [(hv.2.2.2 (Or.inr q)).1, q, if_neg (by decide)]
def sm (f : Nat → Nat) : Nat → Nat
  | 0 => 0
  | n + 1 => sm f n + f n
/- whether a batch of store s spoils, the store being at T -/
def spC (I : MI) (D : MD) (s : Nat) (T : UInt64) (j : Nat) : Nat :=
  if I (18 + j) 2 = nI s then (if coV (D (18 + j) 4) = 0 then (match cvN (D (13 + (I (18 + j) 0).toNatClampNeg) 11) (I (30 + s) 0) 24 T (D (18 + j) 4) with | none => 1 | some v => if coV v = 0 then 0 else 1) else 0) else 0
set_option maxRecDepth 20000 in
theorem spoil_LX (R : RR x a b c d h I D J E) {s : Nat} (hs : s < d) {T : UInt64} (hT : rg (-1040) 256 T) : ∀ (m j n : Nat), j + m = c → m < n → f_X4_wouldSpoil_L35 I D (nI s) T n (nI j) (nI (sm (spC I D s T) j)) = some (.ok (nI (sm (spC I D s T) c))) := by
  intro m
  have hc := R.c12
  have hd := R.d3
  have hb := R.b5
  have hcm := crM_b R.h20
  induction m with
  | zero =>
    intro j n h1 h2
    obtain ⟨n, rfl⟩ : ∃ n', n = n' + 1 := ⟨n - 1, by omega⟩
    obtain rfl : j = c := by omega
    rw [f_X4_wouldSpoil_L35, R.I7, if_pos (nI_le (Nat.le_refl _) (by omega))]
  | succ m ih =>
    intro j n h1 h2
    obtain ⟨n, rfl⟩ : ∃ n', n = n' + 1 := ⟨n - 1, by omega⟩
    have hj : j < c := by omega
    obtain ⟨q1, q2, q3, q4, q5, ⟨mx, hm, q6⟩, q7, q8, q9⟩ := R.bat.1 j hj
    have ihn := ih (j + 1) n (by omega) (by omega)
    have es : sm (spC I D s T) (j + 1) = sm (spC I D s T) j + spC I D s T j := rfl
    rw [es] at ihn
    have c1 : f_X4_wouldSpoil_L35 I D (nI s) T (n + 1) (nI j) (nI (sm (spC I D s T) j)) = (if I (18 + j) 2 = nI s then (if coV (D (18 + j) 4) = 0 then bd (f_X4_crystalLater I D j T 24) (fun r_16 => (if (Op.cmpValue (FP.dcmp r_16 FP.dconst0) CmpOp.g) < 0 then f_X4_wouldSpoil_L35 I D (nI s) T n (nI (j + 1)) (nI (sm (spC I D s T) j) + 1) else (if (Op.cmpValue (FP.dcmp r_16 (4632233691727265792 : UInt64)) CmpOp.l) ≤ 0 then f_X4_wouldSpoil_L35 I D (nI s) T n (nI (j + 1)) (nI (sm (spC I D s T) j)) else f_X4_wouldSpoil_L35 I D (nI s) T n (nI (j + 1)) (nI (sm (spC I D s T) j) + 1)))) else f_X4_wouldSpoil_L35 I D (nI s) T n (nI (j + 1)) (nI (sm (spC I D s T) j))) else f_X4_wouldSpoil_L35 I D (nI s) T n (nI (j + 1)) (nI (sm (spC I D s T) j))) := by
      rw [f_X4_wouldSpoil_L35, R.I7, if_neg (nI_ge (by omega) (by omega)), inB_nI (show j < 12 by omega) (by decide), nI_clamp (show j < 2 ^ 31 by omega), coarseCl, bd_s, nI_1]
      simp only [ckt]
    rw [nI_1] at c1
    by_cases g1 : I (18 + j) 2 = nI s
    · rw [if_pos g1] at c1
      by_cases g2 : coV (D (18 + j) 4) = 0
      · rw [if_pos g2] at c1
        obtain ⟨w1, w2, w3, w4, w5⟩ := R.sto s hs
        have e2 : f_X4_crystalLater I D j T 24 = some (cvR (cvN (D (13 + mx) 11) (I (30 + s) 0) 24 T (D (18 + j) 4))) := by
          unfold f_X4_crystalLater
          rw [q6, g1, inB_nI (show mx < 5 by omega) (by decide), inB_nI (show s < 3 by omega) (by decide), ckt, ckt, show (0 : Int32) = nI 0 from rfl, show (24 : Int32) = nI 24 from rfl]
          exact later_L R.fzc hm (by omega) q6 g1 w3 w4 (by decide) 24 0 200 _ _ (crM h) (by omega) (by omega) hT hcm.1 (by unfold crM; have := R.h20; omega) q9
        rw [e2, bd_s] at c1
        have eS : spC I D s T j = (match cvN (D (13 + mx) 11) (I (30 + s) 0) 24 T (D (18 + j) 4) with | none => 1 | some v => if coV v = 0 then 0 else 1) := by
          unfold spC
          rw [if_pos g1, if_pos g2, q6, nI_clamp (show mx < 2 ^ 31 by omega)]
        have hu := ue_pos
        cases hcv : cvN (D (13 + mx) 11) (I (30 + s) 0) 24 T (D (18 + j) 4) with
        | none =>
          rw [hcv] at c1 eS
          have k : (Op.cmpValue (FP.dcmp (cvR none) FP.dconst0) CmpOp.g) < 0 := (cm_lt rc_m1.1 rc_0.1 _).mpr (by
            show zv 13830554455654793216 < zv FP.dconst0
            rw [zc_m1, zc_0]; omega)
          rw [if_pos k] at c1
          rw [eS] at ihn
          exact c1.trans ihn
        | some v =>
          rw [hcv] at c1 eS
          have hv := cvN_rg (R.frg hm) w3 w4 24 _ _ (crM h) hT hcm.1 (by unfold crM; have := R.h20; omega) q9 v hcv
          have k : ¬ (Op.cmpValue (FP.dcmp (cvR (some v)) FP.dconst0) CmpOp.g) < 0 := fun q => by
            have := (cm_lt hv.1 rc_0.1 _).mp q
            have y := hv.2.1
            rw [zc_0] at this
            omega
          rw [if_neg k] at c1
          by_cases g3 : (Op.cmpValue (FP.dcmp v (4632233691727265792 : UInt64)) CmpOp.l) ≤ 0
          · have ec : coV v = 0 := by unfold coV; rw [if_pos g3]
            rw [show cvR (some v) = v from rfl, if_pos g3] at c1
            have eS' : spC I D s T j = 0 := by rw [eS]; exact if_pos ec
            rw [eS', Nat.add_zero] at ihn
            exact c1.trans ihn
          · have ec : ¬ coV v = 0 := by unfold coV; rw [if_neg g3]; decide
            rw [show cvR (some v) = v from rfl, if_neg g3] at c1
            have eS' : spC I D s T j = 1 := by rw [eS]; exact if_neg ec
            rw [eS'] at ihn
            exact c1.trans ihn
      · rw [if_neg g2] at c1
        have eS : spC I D s T j = 0 := by
          unfold spC
          rw [if_pos g1, if_neg g2]
        rw [eS, Nat.add_zero] at ihn
        exact c1.trans ihn
    · rw [if_neg g1] at c1
      have eS : spC I D s T j = 0 := by
        unfold spC
        rw [if_neg g1]
      rw [eS, Nat.add_zero] at ihn
      exact c1.trans ihn
set_option maxRecDepth 20000 in
theorem spoil_X (R : RR 0 a b c d h I D J E) {s N : Nat} (hs : s < d) (hN : N ≤ 20) : f_X4_wouldSpoil I D (nI s) (nI N) = some (.ok (nI (sm (spC I D s (opN N (D (30 + s) 1))) c))) := by
  have hd := R.d3
  obtain ⟨w1, w2, w3, w4, w5⟩ := R.sto s hs
  unfold f_X4_wouldSpoil
  rw [R.I8, cn_ok hs (by omega), bE_o, show f_X4_checkRange (nI N) 0 20 = some (.ok ()) from cr_ok (n := 20) hN (by decide), bE_o, inB_nI (show s < 3 by omega) (by decide), nI_clamp (show s < 2 ^ 31 by omega), ckt, opened_ok (by omega) w5, bd_s]
  exact spoil_LX R hs (opN_rg N w5) c 0 200 (by have := R.c12; omega) (by have := R.c12; omega)
/- what spoils did spoil -/
set_option maxRecDepth 20000 in
theorem spC_EV (hd : d ≤ 3) {s mx j : Nat} (hs : s < d) (hm : mx < 5) (e0 : I (18 + j) 0 = nI mx) {T : UInt64} {Dd D' : MD} {I' : MI} (k1 : Dd (13 + mx) 11 = D (13 + mx) 11) (k2 : Dd (30 + s) 1 = T) (k3 : Dd (18 + j) 4 = D (18 + j) 4) (hv : EV 24 d I Dd I' D' j mx) : spC I D s T j = if I (18 + j) 2 = nI s ∧ coV (D (18 + j) 4) = 0 then (if I' (18 + j) 2 = 11 then 1 else if coV (D' (18 + j) 4) = 1 then 1 else 0) else 0 := by
  unfold spC
  by_cases g1 : I (18 + j) 2 = nI s
  · rw [if_pos g1]
    by_cases g2 : coV (D (18 + j) 4) = 0
    · rw [if_pos g2, if_pos ⟨g1, g2⟩, e0, nI_clamp (show mx < 2 ^ 31 by omega)]
      obtain ⟨v1, v2⟩ := hv.1 s hs g1
      rw [k1, k2, k3] at v1 v2
      cases hcv : cvN (D (13 + mx) 11) (I (30 + s) 0) 24 T (D (18 + j) 4) with
      | none => rw [v2 hcv, if_pos rfl]
      | some v =>
        obtain ⟨y1, y2⟩ := v1 v hcv
        rw [y1, y2, if_neg (fun e => nI_11 (show s < 3 by omega) e.symm)]
        show (if coV v = 0 then 0 else 1) = _
        rcases coV_01 v with e | e
        · rw [e]; rfl
        · rw [e]; rfl
    · rw [if_neg g2, if_neg (fun q => g2 q.2)]
  · rw [if_neg g1, if_neg (fun q => g1 q.1)]
/- the digest of the same house is the same -/
set_option maxRecDepth 20000 in
theorem digest_X (R : RR 0 a b c d h I D J E) : ∃ w I' J' E', f_X4_digest I D = some (.ok (w, I', D)) ∧ f_X7_digest a b J E = some (w, J', E') ∧ RR 0 a b c d h I' D J E := by
  have R0 := R.thr 0
  unfold f_X7_digest
  rw [nm_v]
  obtain ⟨J0, hJ0⟩ : ∃ J0, J0 = up2 J 0 0 0 := ⟨_, rfl⟩
  rw [← hJ0] at R0 ⊢
  have hb := R0.b5
  have hc := R0.c12
  have hd := R0.d3
  obtain ⟨v1, p1, q1⟩ := dg_1 R0 12 0 200 13 9606 (by decide) (by decide) (by decide)
  obtain ⟨v2, p2, q2⟩ := dg_2 R0 b 0 200 7 v1 (by omega) (by omega) (by omega)
  obtain ⟨v3, p3, q3⟩ := dg_3 R0 c 0 200 13 v2 (by omega) (by omega) (by omega)
  obtain ⟨w, I', J', E', p4, q4, r3, r4, r5⟩ := dg_4 a b c d h I D d 0 200 4 v3 J0 E R0 (by omega) (by omega) (by omega)
  refine ⟨w, I', J', E', ?_, ?_, R.ask r3 (fun _ _ _ _ => rfl) (fun _ _ _ => rfl)⟩
  · unfold f_X4_digest
    rw [show (0 : Int32) = nI 0 from rfl]
    exact p1.trans (p2.trans (p3.trans p4))
  · rw [show (0 : Int32) = nI 0 from rfl]
    exact q1.trans (q2.trans (q3.trans q4))
end HRX
