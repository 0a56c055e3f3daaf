/-! ===== what would spoil ===== -/
section SPP
variable {a b c d h : Nat} {x : Int32} {I J : MI} {D E : MD}
set_option maxRecDepth 20000 in
theorem spoil_L (R : RR x a b c d h I D J E) {s : Nat} (hs : s < d) {T : UInt64} (hT : rg (-1040) 256 T) {J' : MI} {E' : MD} (k5 : ∀ j, J' 5 j = J 5 j) (k9 : ∀ j, J' 9 j = J 9 j) (k10 : ∀ j, E' 10 j = E 10 j)
    (hr : ∀ j m, j < c → m < b → I (18 + j) 0 = nI m → I (18 + j) 2 = nI s → (∀ v, cvN (D (13 + m) 11) (I (30 + s) 0) 24 T (D (18 + j) 4) = some v → J' 34 j = nI s ∧ E' 35 j = v) ∧ (cvN (D (13 + m) 11) (I (30 + s) 0) 24 T (D (18 + j) 4) = none → J' 34 j = 11)) :
    ∀ (m j n : Nat) (acc : Int32), j + m = c → m < n → ∃ v, f_X4_wouldSpoil_L35 I D (nI s) T n (nI j) acc = some (.ok v) ∧ f_X7_spoilNow_L40 a b (nI s) J' E' n (nI j) acc = some (v, J', E') := by
  intro m
  have hc := R.c12
  have hd := R.d3
  have hb := R.b5
  have hcm := crM_b R.h20
  induction m with
  | zero =>
    intro j n acc h1 h2
    obtain ⟨n, rfl⟩ : ∃ n', n = n' + 1 := ⟨n - 1, by omega⟩
    obtain rfl : j = c := by omega
    refine ⟨acc, ?_, ?_⟩
    · rw [f_X4_wouldSpoil_L35, R.I7, if_pos (nI_le (Nat.le_refl _) (by omega))]
    · rw [f_X7_spoilNow_L40, k5, R.J5, if_pos (nI_le (Nat.le_refl _) (by omega))]
  | succ m ih =>
    intro j n acc h1 h2
    obtain ⟨n, rfl⟩ : ∃ n', n = n' + 1 := ⟨n - 1, by omega⟩
    have hj : j < c := by omega
    obtain ⟨q1, q2, q3, q4, q5, ⟨mx, hm, q6⟩, q7, q8, q9⟩ := R.bat.1 j hj
    have hz : ∀ w, f_X4_wouldSpoil_L35 I D (nI s) T (n + 1) (nI j) acc = f_X4_wouldSpoil_L35 I D (nI s) T n (nI (j + 1)) w → f_X7_spoilNow_L40 a b (nI s) J' E' (n + 1) (nI j) acc = f_X7_spoilNow_L40 a b (nI s) J' E' n (nI (j + 1)) w → ∃ v, f_X4_wouldSpoil_L35 I D (nI s) T (n + 1) (nI j) acc = some (.ok v) ∧ f_X7_spoilNow_L40 a b (nI s) J' E' (n + 1) (nI j) acc = some (v, J', E') := by
      intro w e1 e2
      rw [e1, e2]
      exact ih (j + 1) n w (by omega) (by omega)
    have c1 : f_X4_wouldSpoil_L35 I D (nI s) T (n + 1) (nI j) acc = (if I (18 + j) 2 = nI s then (if coV (D (18 + j) 4) = 0 then bd (f_X4_crystalLater I D j T 24) (fun r_16 => (if (Op.cmpValue (FP.dcmp r_16 FP.dconst0) CmpOp.g) < 0 then f_X4_wouldSpoil_L35 I D (nI s) T n (nI (j + 1)) (acc + 1) else (if (Op.cmpValue (FP.dcmp r_16 (4632233691727265792 : UInt64)) CmpOp.l) ≤ 0 then f_X4_wouldSpoil_L35 I D (nI s) T n (nI (j + 1)) acc else f_X4_wouldSpoil_L35 I D (nI s) T n (nI (j + 1)) (acc + 1)))) else f_X4_wouldSpoil_L35 I D (nI s) T n (nI (j + 1)) acc) else f_X4_wouldSpoil_L35 I D (nI s) T n (nI (j + 1)) acc) := by
      rw [f_X4_wouldSpoil_L35, R.I7, if_neg (nI_ge (by omega) (by omega)), inB_nI (show j < 12 by omega) (by decide), nI_clamp (show j < 2 ^ 31 by omega), coarseCl, bd_s, nI_1]
      simp only [ckt]
    have c2 : f_X7_spoilNow_L40 a b (nI s) J' E' (n + 1) (nI j) acc = (if I (18 + j) 2 = nI s then (if coV (D (18 + j) 4) = 0 then (if J' 34 j = 11 then f_X7_spoilNow_L40 a b (nI s) J' E' n (nI (j + 1)) (acc + 1) else (if coV (E' 35 j) = 0 then f_X7_spoilNow_L40 a b (nI s) J' E' n (nI (j + 1)) (acc + 0) else f_X7_spoilNow_L40 a b (nI s) J' E' n (nI (j + 1)) (acc + 1))) else f_X7_spoilNow_L40 a b (nI s) J' E' n (nI (j + 1)) (acc + 0)) else f_X7_spoilNow_L40 a b (nI s) J' E' n (nI (j + 1)) (acc + 0)) := by
      rw [f_X7_spoilNow_L40, k5, R.J5, if_neg (nI_ge (by omega) (by omega)), inB_nI (show j < 12 by omega) (by decide), nI_clamp (show j < 2 ^ 31 by omega), coarseM a b J' E' 5 (show j < 12 by omega), coarseM a b J' E' 30 (show j < 12 by omega), bd_s, bd_s, nI_1, show (5 + 4) = 9 from rfl, k9, q4, show (5 + 5) = 10 from rfl, k10, q5]
      rfl
    rw [Int32.add_zero] at c2
    by_cases g1 : I (18 + j) 2 = nI s
    · rw [if_pos g1] at c1 c2
      by_cases g2 : coV (D (18 + j) 4) = 0
      · rw [if_pos g2] at c1 c2
        obtain ⟨w1, w2, w3, w4, w5⟩ := R.sto s hs
        obtain ⟨v1, v2⟩ := hr j mx hj hm q6 g1
        have e2 : f_X4_crystalLater I D j T 24 = some (cvR (cvN (D (13 + mx) 11) (I (30 + s) 0) 24 T (D (18 + j) 4))) := by
          unfold f_X4_crystalLater
          rw [q6, g1, inB_nI (show mx < 5 by omega) (by decide), inB_nI (show s < 3 by omega) (by decide), ckt, ckt, show (0 : Int32) = nI 0 from rfl, show (24 : Int32) = nI 24 from rfl]
          exact later_L R.fzc hm (by omega) q6 g1 w3 w4 (by decide) 24 0 200 _ _ (crM h) (by omega) (by omega) hT hcm.1 (by unfold crM; have := R.h20; omega) q9
        rw [e2, bd_s] at c1
        have hu := ue_pos
        cases hcv : cvN (D (13 + mx) 11) (I (30 + s) 0) 24 T (D (18 + j) 4) with
        | none =>
          rw [hcv] at c1
          have k : (Op.cmpValue (FP.dcmp (cvR none) FP.dconst0) CmpOp.g) < 0 := (cm_lt rc_m1.1 rc_0.1 _).mpr (by
            show zv 13830554455654793216 < zv FP.dconst0
            rw [zc_m1, zc_0]; omega)
          rw [if_pos k] at c1
          rw [if_pos (v2 hcv)] at c2
          exact hz _ c1 c2
        | some v =>
          rw [hcv] at c1
          obtain ⟨y1, y2⟩ := v1 v hcv
          have hv := cvN_rg (R.frg hm) w3 w4 24 _ _ (crM h) hT hcm.1 (by unfold crM; have := R.h20; omega) q9 v hcv
          have k : ¬ (Op.cmpValue (FP.dcmp (cvR (some v)) FP.dconst0) CmpOp.g) < 0 := fun q => by
            have := (cm_lt hv.1 rc_0.1 _).mp q
            have y := hv.2.1
            rw [zc_0] at this
            omega
          rw [if_neg k] at c1
          rw [if_neg (show ¬ J' 34 j = 11 by rw [y1]; exact fun e => nI_11 (show s < 3 by omega) e.symm), y2] at c2
          unfold coV at c2
          by_cases g3 : (Op.cmpValue (FP.dcmp v (4632233691727265792 : UInt64)) CmpOp.l) ≤ 0
          · rw [if_pos g3, if00] at c2
            rw [show cvR (some v) = v from rfl, if_pos g3] at c1
            exact hz _ c1 c2
          · rw [if_neg g3, if10] at c2
            rw [show cvR (some v) = v from rfl, if_neg g3] at c1
            exact hz _ c1 c2
      · rw [if_neg g2] at c1 c2
        exact hz _ c1 c2
    · rw [if_neg g1] at c1 c2
      exact hz _ c1 c2
set_option maxRecDepth 20000 in
theorem spoil_ok (R : RR x a b c d h I D J E) {s N : Nat} (hs : s < d) (hN : N < 100) (g1 : f_X4_checkNumber (nI s) (nI d) = some (.ok ())) (g2 : f_X4_checkRange (nI N) 0 20 = some (.ok ())) : ∃ v J' E', f_X4_wouldSpoil I D (nI s) (nI N) = some (.ok v) ∧ f_X7_spoilNow a b J E (nI s) (nI N) = some (v, J', E') ∧ (∀ k n, k < 30 → J' k n = J k n) ∧ ∀ k n, k < 30 → E' k n = E k n := by
  have hc := R.c12
  have hd := R.d3
  have hcm := crM_b R.h20
  obtain ⟨w1, w2, w3, w4, w5⟩ := R.sto s hs
  obtain ⟨G, H1, H2, H3, H4⟩ := copy_HC R
  have e37 : cN2 E 37 s = D (30 + s) 1 := by rw [cN2_37 E (by omega)]; exact w2
  obtain ⟨E1, o1, o2, o3⟩ := open_ok a b (kb := 30) (show s < 3 by omega) hN (cM6 J) (E := cN2 E) (by rw [show (30 + 7) = 37 from rfl, e37]; exact w5)
  have o2 : E1 37 s = opN N (D (30 + s) 1) := by rw [← e37]; exact o2
  have hT := opN_rg N w5
  obtain ⟨J', E', r1, r2, r3, r4⟩ := it_ex hc hd 24 (crM h) (cM6 J) E1 hcm.1 (by unfold crM; have := R.h20; omega) G ⟨H1, H2, fun t ht => by
    obtain ⟨y1, y2, y3⟩ := H3 t ht
    refine ⟨y1, y2, ?_⟩
    by_cases e : t = s
    · subst e
      rw [show (30 + 7) = 37 from rfl, o2]
      exact hT
    · rw [o3 _ _ (by omega)]
      exact y3, fun j hj => by
    rw [o3 _ _ (by omega)]
    exact H4 j hj⟩
  obtain ⟨v, l1, l2⟩ := spoil_L R hs hT (J' := J') (E' := E') (fun j => by rw [r2 _ _ (by decide), cM6_k J (by decide)]) (fun j => by rw [r2 _ _ (by decide), cM6_k J (by decide)]) (fun j => by rw [r3 _ _ (by decide) (by decide), o3 _ _ (by omega), cN2_k E (by decide)]) (fun j m hj hm e0 e2 => by
    obtain ⟨q1, q2, q3, q4, q5, q6, q7, q8, q9⟩ := R.bat.1 j hj
    obtain ⟨-, -, -, s4⟩ := r4 j m hj hm (by rw [cM6_31 J (by omega), q1]; exact e0)
    have z := s4 s hs (by rw [cM6_34 J (by omega), q4]; exact e2)
    rw [cM6_36 J (by omega), w1, o2, o3 35 j (by omega), cN2_35 E (by omega), q5] at z
    exact z) c 0 200 0 (by omega) (by omega)
  refine ⟨v, J', E', ?_, ?_, fun k n q => by rw [r2 _ _ (by omega), cM6_k J q], fun k n q => by rw [r3 _ _ (by omega) (by omega), o3 _ _ (by omega), cN2_k E q]⟩
  · unfold f_X4_wouldSpoil
    rw [R.I8, g1, bE_o, g2, bE_o, inB_nI (show s < 3 by omega) (by decide), nI_clamp (show s < 2 ^ 31 by omega), ckt, opened_ok hN w5, bd_s]
    exact l1
  · unfold f_X7_spoilNow
    rw [copy_ok R, bd_s]
    dsimp only
    rw [o1, bd_s]
    dsimp only
    rw [show (0 : Int32) = nI 0 from rfl, it_L17 (nI s) 24 0 200 _ _ J' E' r1 (by decide) (by decide)]
    exact l2
set_option maxRecDepth 20000 in
theorem a_wouldSpoil (R : RR 0 a b c d h I D J E) (p1 p2 : Int32) : agR (fun _ => True) (PP a b h) I D [IOB, IAE] (f_X4_wouldSpoil I D p1 p2) (f_X7_wouldSpoil a b J E p1 p2) := by
  have R0 := R.thr 0
  have t0 : up2 J 0 0 0 0 0 = 0 := up2_hit J 0 0 0
  unfold f_X7_wouldSpoil
  rw [nm_v]
  generalize up2 J 0 0 0 = J0 at R0 t0 ⊢
  have hd := R0.d3
  rcases num p1 (b31 hd) with ⟨s, hs, rfl, h1, h2⟩ | ⟨h1, h2⟩
  · rcases rng p2 0 20 with ⟨h3, h4, h5, h6⟩ | ⟨h3, h4⟩
    · obtain ⟨N, hN, rfl⟩ := rgN_ (p := p2) (hi := 20) (n := 21) (by decide) (by decide) h5 h6
      obtain ⟨v, J', E', l1, l2, l3, l4⟩ := spoil_ok R0 hs (show N < 100 by omega) h1 h3
      rw [ixS R0.J6 (by decide) h2, bd_s, if10, h4, bd_s, if10, l1, l2, bd_s]
      exact agR_ok rfl trivial (by rw [l3 0 0 (by decide)]; exact t0) (R0.ask (fun _ _ _ => rfl) (fun k n g _ => l3 k n g) l4).pp
    · unfold f_X4_wouldSpoil
      rw [R0.I8, h1, bE_o, h3, bE_e, ixS R0.J6 (by decide) h2, bd_s, if10, h4, bd_s, if00, no_e, bd_s]
      exact agR_er 1 rfl (up2_hit J0 0 0 _) (R0.ppt 2)
  · unfold f_X4_wouldSpoil
    rw [R0.I8, h1, bE_e, ixS R0.J6 (by decide) h2, bd_s, if00, no_e, bd_s]
    exact agR_er 0 rfl (up2_hit J0 0 0 _) (R0.ppt 1)
end SPP
