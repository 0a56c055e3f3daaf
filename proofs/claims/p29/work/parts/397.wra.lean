/-! ===== calls that write: wash, store, set, lay, door, harden ===== -/
section WRA
variable {a b c d h : Nat} {I J : MI} {D E : MD}
set_option maxRecDepth 20000 in
theorem a_wash (R : RR 0 a b c d h I D J E) (p1 : Int32) : agW (fun _ => True) (PP a b h) I D [IOB] (f_X4_wash I D p1) (f_X7_wash a b J E p1) := by
  have R0 := R.thr 0
  have t0 : up2 J 0 0 0 0 0 = 0 := up2_hit J 0 0 0
  unfold f_X7_wash
  rw [nm_v]
  generalize up2 J 0 0 0 = J0 at R0 t0 ⊢
  unfold f_X4_wash
  have e2 : nI 2 = 2 := rfl
  have e21 : (2 : Int32) - 1 = 1 := by decide
  rcases num p1 (show 2 < 2 ^ 31 by decide) with ⟨i, hi, rfl, h1, h2⟩ | ⟨h1, h2⟩
  · rw [e2] at h1 h2
    rw [e21] at h2
    rw [h1, bE_o, h2, bd_s, if10, inB_nI hi (by decide), nI_clamp (by omega)]
    simp only [ckt, nm_v]
    obtain ⟨⟨a1, a2, a3, a4⟩, ⟨b1, b2, b3, b4⟩, ⟨c1, c2, c3⟩, ⟨d1, d2, d3⟩, ⟨k1, k2, k3, k4⟩, r, f⟩ := R0.1
    refine agW_ok (r i hi) trivial (by simp [up2_ap, t0]) ⟨c, d, h, by omega, ⟨⟨?_, ?_, ?_, a4⟩, ⟨?_, ?_, ?_, b4⟩, ⟨?_, ?_, c3⟩, ⟨?_, ?_, d3⟩, ⟨?_, ?_, ?_, ?_⟩, fun n hn => ?_, fun n hn => ?_⟩, R0.ing.cong a4 (fun k n _ _ => by rw [up2_k _ _ _ _ (by omega), up2_k _ _ _ _ (by omega)]) (fun k n _ _ => by rw [up2_k _ _ _ _ (by omega), up2_k _ _ _ _ (by omega)]), R0.mix.cong b4 (fun k n _ _ => by rw [up2_k _ _ _ _ (by omega), up2_k _ _ _ _ (by omega)]) (fun _ _ _ => rfl) (fun i _ => by rw [up2_k _ _ _ _ (by omega), up2_k _ _ _ _ (by omega)]) (fun k n _ _ => by rw [up2_k _ _ _ _ (by omega), up2_k _ _ _ _ (by omega)]), R0.bat.cong c3 (fun k n _ _ => by rw [up2_k _ _ _ _ (by omega), up2_k _ _ _ _ (by omega)]) (fun _ _ _ => rfl) (fun k n _ _ => by rw [up2_k _ _ _ _ (by omega), up2_k _ _ _ _ (by omega)]) (fun _ => rfl), R0.sto.cong d3 (fun k _ _ => by rw [up2_k _ _ _ _ (by omega), up2_k _ _ _ _ (by omega)]) (fun _ _ _ => rfl) (fun n => by rw [up2_k _ _ _ _ (by omega), up2_k _ _ _ _ (by omega)]) (fun _ => rfl), R0.h20⟩
    all_goals simp [up2_ap, a1, a2, b1, b2, c1, c2, d1, d2, k1, k2, k3, k4]
    · exact a3
    · exact b3
    · rw [r n hn]
    · exact f n hn
  · rw [e2] at h1 h2
    rw [e21] at h2
    rw [h1, bE_e, h2, bd_s, if00, no_e, bd_s]
    exact agW_er 0 rfl (up2_hit J0 0 0 _) (R0.ppt 1)
set_option maxRecDepth 20000 in
theorem plOK.mono {d : Nat} {p : Int32} (h : plOK d p) : plOK (d + 1) p := by
  rcases h with h | ⟨s, hs, h⟩ | h | h
  · exact Or.inl h
  · exact Or.inr (Or.inl ⟨s, by omega, h⟩)
  · exact Or.inr (Or.inr (Or.inl h))
  · exact Or.inr (Or.inr (Or.inr h))
set_option maxRecDepth 20000 in
theorem a_store (R : RR 0 a b c d h I D J E) (p1 : Int32) : agW (fun _ => True) (PP a b h) I D [IAE, ISE] (f_X4_store I D p1) (f_X7_store a b J E p1) := by
  have R0 := R.thr 0
  have t0 : up2 J 0 0 0 0 0 = 0 := up2_hit J 0 0 0
  unfold f_X7_store
  rw [nm_v]
  generalize up2 J 0 0 0 = J0 at R0 t0 ⊢
  unfold f_X4_store
  have hd := R0.d3
  have e3 : nI 3 = 3 := rfl
  rcases rng p1 (-30) (-10) with ⟨h3, h4, h5, h6⟩ | ⟨h3, h4⟩
  · rw [h3, bE_o, h4, bd_s, if10, R0.I8, R0.J6]
    rcases room hd (show 3 < 2 ^ 31 by decide) with ⟨hl, g1, g2⟩ | ⟨g1, g2⟩
    · rw [e3] at g1 g2
      have z1 : (-30 : Int32).toInt = -30 := by decide
      have z2 : (-10 : Int32).toInt = -10 := by decide
      rw [z1] at h5
      rw [z2] at h6
      have u1 : up2 I (30 + d) 0 p1 0 8 = nI d := by rw [up2_k _ _ _ _ (by omega)]; exact R0.I8
      have u2 : up2 J0 (5 + 6) d p1 5 6 = nI d := by rw [up2_k _ _ _ _ (by omega)]; exact R0.J6
      rw [g1, bE_o, if_neg g2, inB_nI hl (by decide), nI_clamp (by omega)]
      simp only [ckt, nm_v]
      rw [u1, u2, inB_nI hl (by decide), nI_clamp (by omega)]
      simp only [ckt, up2_hit, nI_1]
      obtain ⟨⟨a1, a2, a3, a4⟩, ⟨b1, b2, b3, b4⟩, ⟨c1, c2, c3⟩, ⟨d1, d2, d3⟩, ⟨k1, k2, k3, k4⟩, r, f⟩ := R0.1
      refine agW_ok (nI_pred d) trivial (by simp [up2_ap, t0]) ⟨c, d + 1, h, by omega, ⟨⟨?_, ?_, ?_, a4⟩, ⟨?_, ?_, ?_, b4⟩, ⟨?_, ?_, c3⟩, ⟨?_, ?_, hl⟩, ⟨?_, ?_, ?_, ?_⟩, fun n hn => ?_, fun n hn => ?_⟩, R0.ing.cong a4 (fun k n _ _ => by rw [up2_k _ _ _ _ (by omega), up2_k _ _ _ _ (by omega)]) (fun k n _ _ => by rw [up2_k _ _ _ _ (by omega), up2_k _ _ _ _ (by omega)]), R0.mix.cong b4 (fun k n _ _ => by rw [up2_k _ _ _ _ (by omega), up2_k _ _ _ _ (by omega)]) (fun k _ _ => by rw [up2_k _ _ _ _ (by omega)]) (fun i _ => by rw [up2_k _ _ _ _ (by omega), up2_k _ _ _ _ (by omega)]) (fun k n _ _ => by rw [up2_k _ _ _ _ (by omega), up2_k _ _ _ _ (by omega)]), ⟨fun i hi => ?_, fun i h1 h2 => ?_⟩, fun s hs => ?_, R0.h20⟩
      · simp [up2_ap, a1]
      · simp [up2_ap, a2]
      · simp [up2_ap]; exact a3
      · simp [up2_ap, b1]
      · simp [up2_ap, b2]
      · simp [up2_ap]; exact b3
      · simp [up2_ap, c1]
      · simp [up2_ap, c2]
      · simp [up2_ap]
      · simp [up2_ap]
      · simp [up2_ap, k1]
      · simp [up2_ap, k2]
      · simp [up2_ap, k3]
      · simp [up2_ap, k4]
      · rw [up2_k _ _ _ _ (by omega), up2_k _ _ _ _ (by omega), up2_k _ _ _ _ (by omega), up2_k _ _ _ _ (by omega)]; exact r n hn
      · rw [up2_k _ _ _ _ (by omega), up2_k _ _ _ _ (by omega)]; exact f n hn
      · have q := (R0.bat.1 i hi).cong (I' := up2 (up2 I (30 + d) 0 p1) 0 8 (nI (d + 1))) (D' := up2 D (30 + d) 1 (FP.i2d p1)) (J' := up2 (up2 J0 (5 + 6) d p1) 5 6 (nI (d + 1))) (E' := up2 E (5 + 7) d (FP.i2d p1)) (fun n _ => by rw [up2_k _ _ _ _ (by omega), up2_k _ _ _ _ (by omega)]) (by rw [up2_k _ _ _ _ (by omega)]) (fun k _ _ => by rw [up2_k _ _ _ _ (by omega), up2_k _ _ _ _ (by omega)]) (by rw [up2_k _ _ _ _ (by omega)])
        obtain ⟨q1, q2, q3, q4, q5, q6, q7, q8, q9⟩ := q
        exact ⟨q1, q2, q3, q4, q5, q6, q7.mono, q8, q9⟩
      · rw [up2_k _ _ _ _ (by omega), up2_k _ _ _ _ (by omega), up2_k _ _ _ _ (by omega), up2_k _ _ _ _ (by omega), up2_k _ _ _ _ (by omega), up2_k _ _ _ _ (by omega)]
        exact R0.bat.2 i h1 h2
      · rw [up2_k _ _ _ _ (show 30 + s ≠ 0 by omega), up2_k _ _ _ _ (show 11 ≠ 5 by omega)]
        by_cases e : s = d
        · subst e
          rw [show (5 + 6) = 11 from rfl, show (5 + 7) = 12 from rfl, up2_hit, up2_hit, up2_hit, up2_hit]
          exact ⟨rfl, rfl, h5, h6, rg_i2d (by omega) (by omega)⟩
        · rw [show (5 + 6) = 11 from rfl, show (5 + 7) = 12 from rfl, up2_n _ _ _ e, up2_n _ _ _ e, up2_k _ _ _ _ (by omega), up2_k _ _ _ _ (by omega)]
          exact R0.sto s (by omega)
    · rw [e3] at g1 g2
      rw [g1, bE_e, if_pos g2, no_e, bd_s]
      exact agW_er 1 rfl (up2_hit J0 0 0 _) (R0.ppt 2)
  · rw [h3, bE_e, h4, bd_s, if00, no_e, bd_s]
    exact agW_er 0 rfl (up2_hit J0 0 0 _) (R0.ppt 1)
set_option maxRecDepth 20000 in
theorem a_set (R : RR 0 a b c d h I D J E) (p1 p2 : Int32) : agW (fun _ => True) (PP a b h) I D [IOB, IAE] (f_X4_set I D p1 p2) (f_X7_set a b J E p1 p2) := by
  have R0 := R.thr 0
  have t0 : up2 J 0 0 0 0 0 = 0 := up2_hit J 0 0 0
  unfold f_X7_set
  rw [nm_v]
  generalize up2 J 0 0 0 = J0 at R0 t0 ⊢
  unfold f_X4_set
  have hd := R0.d3
  rcases num p1 (b31 hd) with ⟨i, hi, rfl, h1, h2⟩ | ⟨h1, h2⟩
  · rcases rng p2 (-30) (-10) with ⟨h3, h4, h5, h6⟩ | ⟨h3, h4⟩
    · have z1 : (-30 : Int32).toInt = -30 := by decide
      have z2 : (-10 : Int32).toInt = -10 := by decide
      rw [z1] at h5
      rw [z2] at h6
      rw [R0.I8, h1, bE_o, h3, bE_o, ixS R0.J6 (by decide) h2, bd_s, if10, h4, bd_s, if10, inB_nI (show i < 3 by omega) (by decide), nI_clamp (by omega)]
      simp only [ckt, nm_v]
      refine agW_ok (R0.sto i hi).1.symm trivial (by simp [up2_ap, t0]) ⟨c, d, h, by omega, R0.1.cong (fun k n _ => by rw [up2_k _ _ _ _ (by omega)]) (fun k n _ => ?_), R0.ing.cong R0.a6 (fun k n _ _ => by rw [up2_k _ _ _ _ (by omega)]) (fun k n _ _ => by rw [up2_k _ _ _ _ (by omega)]), R0.mix.cong R0.b5 (fun k n _ _ => by rw [up2_k _ _ _ _ (by omega)]) (fun _ _ _ => rfl) (fun j _ => by have := R0.c12; rw [up2_k _ _ _ _ (by omega)]) (fun k n _ _ => by rw [up2_k _ _ _ _ (by omega)]), R0.bat.cong R0.c12 (fun k n _ _ => by rw [up2_k _ _ _ _ (by omega)]) (fun _ _ _ => rfl) (fun k n _ _ => by rw [up2_k _ _ _ _ (by omega)]) (fun _ => rfl), fun s hs => ?_, R0.h20⟩
      · rw [up2_k _ _ _ _ (by omega)]
      · rw [show (5 + 6) = 11 from rfl]
        obtain ⟨q1, q2, q3, q4, q5⟩ := R0.sto s hs
        by_cases e : s = i
        · subst e
          rw [up2_hit, up2_hit]
          exact ⟨rfl, q2, h5, h6, q5⟩
        · rw [up2_n _ _ _ e, up2_k _ _ _ _ (by omega)]
          exact ⟨q1, q2, q3, q4, q5⟩
    · rw [R0.I8, h1, bE_o, h3, bE_e, ixS R0.J6 (by decide) h2, bd_s, if10, h4, bd_s, if00, no_e, bd_s]
      exact agW_er 1 rfl (up2_hit J0 0 0 _) (R0.ppt 2)
  · rw [R0.I8, h1, bE_e, ixS R0.J6 (by decide) h2, bd_s, if00, no_e, bd_s]
    exact agW_er 0 rfl (up2_hit J0 0 0 _) (R0.ppt 1)
/- one batch has another place -/
set_option maxRecDepth 20000 in
theorem RR.place (R : RR 0 a b c d h I D J E) {i : Nat} (hi : i < c) {p : Int32} (hp : plOK d p) : RR 0 a b c d h (up2 I (18 + i) 2 p) D (up2 J 9 i p) E := by
  have hc := R.c12
  refine ⟨R.1.cong (fun k n _ => by rw [up2_k _ _ _ _ (by omega)]) (fun k n _ => by rw [up2_k _ _ _ _ (by omega)]), R.ing.cong R.a6 (fun k n _ _ => by rw [up2_k _ _ _ _ (by omega)]) (fun k n _ _ => by rw [up2_k _ _ _ _ (by omega)]), R.mix.cong R.b5 (fun k n _ _ => by rw [up2_k _ _ _ _ (by omega)]) (fun _ _ _ => rfl) (fun j _ => by rw [up2_ap, if_neg (by omega)]) (fun k n _ _ => by rw [up2_k _ _ _ _ (by omega)]), ⟨fun j hj => ?_, fun j h1 h2 => ?_⟩, R.sto.cong R.d3 (fun k _ _ => by rw [up2_k _ _ _ _ (by omega)]) (fun _ _ _ => rfl) (fun n => by rw [up2_k _ _ _ _ (by omega)]) (fun _ => rfl), R.h20⟩
  · by_cases e : j = i
    · subst e
      obtain ⟨q1, q2, q3, q4, q5, q6, q7, q8, q9⟩ := R.bat.1 j hj
      refine ⟨?_, ?_, ?_, ?_, q5, ?_, ?_, ?_, q9⟩
      · rw [up2_k _ _ _ _ (by omega), up2_n _ _ _ (by decide)]; exact q1
      · rw [up2_k _ _ _ _ (by omega), up2_n _ _ _ (by decide)]; exact q2
      · rw [up2_k _ _ _ _ (by omega), up2_n _ _ _ (by decide)]; exact q3
      · rw [up2_hit, up2_hit]
      · rw [up2_n _ _ _ (by decide)]; exact q6
      · rw [up2_hit]; exact hp
      · rw [up2_n _ _ _ (by decide)]; exact q8
    · exact (R.bat.1 j hj).cong (fun n _ => by rw [up2_k _ _ _ _ (by omega)]) rfl (fun k _ _ => by rw [up2_ap, if_neg (by omega)]) rfl
  · rw [up2_k _ _ _ _ (by omega), up2_k _ _ _ _ (by omega), up2_k _ _ _ _ (by omega)]
    exact R.bat.2 j h1 h2
set_option maxRecDepth 20000 in
theorem pl_10 {d : Nat} (hd : d ≤ 3) {p : Int32} (h : plOK d p) : p < 10 ↔ ¬ (p = 10 ∨ p = 11) := by
  rcases h with rfl | ⟨s, hs, rfl⟩ | rfl | rfl
  · decide
  · have h1 : nI s < 10 := nI_lt (b := 10) (by omega) (by decide)
    have h2 : ¬ nI s = 10 := fun e => by have := (nI_eq (b := 10) (show s < 2 ^ 31 by omega) (by decide)).mp e; omega
    have h3 : ¬ nI s = 11 := fun e => by have := (nI_eq (b := 11) (show s < 2 ^ 31 by omega) (by decide)).mp e; omega
    exact ⟨fun _ q => q.elim h2 h3, fun _ => h1⟩
  · decide
  · decide
set_option maxRecDepth 20000 in
theorem a_lay (R : RR 0 a b c d h I D J E) (p1 p2 : Int32) : agW (fun _ => True) (PP a b h) I D [IOB, ISE] (f_X4_lay I D p1 p2) (f_X7_lay a b J E p1 p2) := by
  have R0 := R.thr 0
  have t0 : up2 J 0 0 0 0 0 = 0 := up2_hit J 0 0 0
  unfold f_X7_lay
  rw [nm_v]
  generalize up2 J 0 0 0 = J0 at R0 t0 ⊢
  unfold f_X4_lay
  have hd := R0.d3
  have hc := R0.c12
  rcases num p1 (b31 hc) with ⟨i, hi, rfl, h1, h2⟩ | ⟨h1, h2⟩
  · rcases num p2 (b31 hd) with ⟨s, hs, rfl, h3, h4⟩ | ⟨h3, h4⟩
    · obtain ⟨q1, q2, q3, q4, q5, q6, q7, q8, q9⟩ := R0.bat.1 i hi
      have e3 : J0 (5 + 3) i = I (18 + i) 3 := q3
      have e4 : J0 (5 + 4) i = I (18 + i) 2 := q4
      rw [R0.I7, h1, bE_o, R0.I8, h3, bE_o, ixB R0.J5 (by decide) h2, bd_s, if10, ixS R0.J6 (by decide) h4, bd_s, if10, inB_nI (show i < 12 by omega) (by decide), nI_clamp (by omega)]
      simp only [ckt, nm_v, e3, e4]
      have hp := pl_10 hd q7
      by_cases c3 : I (18 + i) 3 = 0
      · rw [if_pos c3, if_pos c3, no_e, bd_s]
        have hx : (if I (18 + i) 2 = 10 then some (Except.error ISE : Except String (Int32 × MI × MD)) else if I (18 + i) 2 = 11 then some (Except.error ISE) else some (Except.error ISE)) = some (Except.error ISE) := by
          split
          · rfl
          · split <;> rfl
        rw [show (if I (18 + i) 2 = 10 then some (Except.error "java/lang/IllegalStateException" : Except String (Int32 × MI × MD)) else if I (18 + i) 2 = 11 then some (Except.error "java/lang/IllegalStateException") else some (Except.error "java/lang/IllegalStateException")) = some (Except.error ISE) from hx]
        exact agW_er 1 rfl (up2_hit J0 0 0 _) (R0.ppt 2)
      · rw [if_neg c3, if_neg c3]
        by_cases c4 : I (18 + i) 2 < 10
        · have c5 := hp.mp c4
          rw [if_neg (fun q => c5 (Or.inl q)), if_neg (fun q => c5 (Or.inr q)), if_pos c4]
          have R1 := R0.place hi (p := nI s) (Or.inr (Or.inl ⟨s, hs, rfl⟩))
          rw [R1.cntC, bd_s]
          rw [show f_X5_count a b (up2 J0 (5 + 4) i (nI s)) E 5 (nI s) = _ from R1.cntM (nI s), bd_s]
          exact agW_ok rfl trivial (by rw [up2_k _ _ _ _ (by omega)]; exact t0) R1.pp
        · rw [if_neg c4, no_e, bd_s]
          have c5 : I (18 + i) 2 = 10 ∨ I (18 + i) 2 = 11 := Decidable.byContradiction (fun q => c4 (hp.mpr q))
          rcases c5 with c5 | c5
          · rw [if_pos c5]
            exact agW_er 1 rfl (up2_hit J0 0 0 _) (R0.ppt 2)
          · rw [if_neg (by rw [c5]; decide), if_pos c5]
            exact agW_er 1 rfl (up2_hit J0 0 0 _) (R0.ppt 2)
    · rw [R0.I7, h1, bE_o, R0.I8, h3, bE_e, ixB R0.J5 (by decide) h2, bd_s, if10, ixS R0.J6 (by decide) h4, bd_s, if00, no_e, bd_s]
      exact agW_er 0 rfl (up2_hit J0 0 0 _) (R0.ppt 1)
  · rw [R0.I7, h1, bE_e, ixB R0.J5 (by decide) h2, bd_s, if00, no_e, bd_s]
    exact agW_er 0 rfl (up2_hit J0 0 0 _) (R0.ppt 1)
set_option maxRecDepth 20000 in
theorem a_door (R : RR 0 a b c d h I D J E) (p1 p2 : Int32) : agW FP.Core.DFin (PP a b h) I D [IOB, IAE] (f_X4_door I D p1 p2) (f_X7_door a b J E p1 p2) := by
  have R0 := R.thr 0
  have t0 : up2 J 0 0 0 0 0 = 0 := up2_hit J 0 0 0
  unfold f_X7_door
  rw [nm_v]
  generalize up2 J 0 0 0 = J0 at R0 t0 ⊢
  unfold f_X4_door
  have hd := R0.d3
  rcases num p1 (b31 hd) with ⟨s, hs, rfl, h1, h2⟩ | ⟨h1, h2⟩
  · rcases rng p2 1 20 with ⟨h3, h4, h5, h6⟩ | ⟨h3, h4⟩
    · have z1 : (1 : Int32).toInt = 1 := by decide
      have z0 : (0 : Int32).toInt = 0 := by decide
      obtain ⟨N, hN, rfl⟩ := rgN_ (p := p2) (hi := 20) (n := 21) (by decide) (by decide) (by omega) h6
      obtain ⟨q1, q2, q3, q4, q5⟩ := R0.sto s hs
      have q2' : E (5 + 7) s = D (30 + s) 1 := q2
      obtain ⟨E', o1, o2, o3⟩ := open_ok a b (kb := 5) (show s < 3 by omega) (show N < 100 by omega) J0 (E := E) (by rw [q2']; exact q5)
      rw [R0.I8, h1, bE_o, h3, bE_o, ixS R0.J6 (by decide) h2, bd_s, if10, h4, bd_s, if10, inB_nI (show s < 3 by omega) (by decide), nI_clamp (by omega), opened_ok (by omega) q5, o1, bd_s, bd_s]
      simp only [ckt, nm_v]
      rw [o2, q2', up2_hit]
      refine agW_ok rfl (opN_rg N q5).1 t0 ⟨c, d, h, by omega, R0.1, R0.ing, R0.mix.cong R0.b5 (fun _ _ _ _ => rfl) (fun k _ _ => by rw [up2_k _ _ _ _ (by omega)]) (fun _ _ => rfl) (fun _ _ _ _ => rfl), R0.bat.cong R0.c12 (fun _ _ _ _ => rfl) (fun k _ _ => by rw [up2_k _ _ _ _ (by omega)]) (fun _ _ _ _ => rfl) (fun n => o3 10 n (by omega)), fun t ht => ?_, R0.h20⟩
      by_cases e : t = s
      · subst e
        rw [up2_hit, show E' 12 t = _ from o2, q2']
        exact ⟨q1, rfl, q3, q4, opN_rg N q5⟩
      · rw [up2_k _ _ _ _ (by omega), o3 12 t (by omega)]
        exact R0.sto t ht
    · rw [R0.I8, h1, bE_o, h3, bE_e, ixS R0.J6 (by decide) h2, bd_s, if10, h4, bd_s, if00, no_e, bd_s]
      exact agW_er 1 rfl (up2_hit J0 0 0 _) (R0.ppt 2)
  · rw [R0.I8, h1, bE_e, ixS R0.J6 (by decide) h2, bd_s, if00, no_e, bd_s]
    exact agW_er 0 rfl (up2_hit J0 0 0 _) (R0.ppt 1)
end WRA
