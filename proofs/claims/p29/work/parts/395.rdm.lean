/-! ===== calls that read ===== -/
abbrev IOB : String := "java/lang/IndexOutOfBoundsException"
abbrev IAE : String := "java/lang/IllegalArgumentException"
abbrev ISE : String := "java/lang/IllegalStateException"
section RDM
variable {a b c d h : Nat} {I J : MI} {D E : MD}
set_option maxRecDepth 20000 in
theorem a_crystal (R : RR 0 a b c d h I D J E) (p1 : Int32) : agR FP.Core.DFin (PP a b h) I D [IOB] (f_X4_crystal I D p1) (f_X7_crystal a b J E p1) := by
  have R0 := R.thr 0
  have t0 : up2 J 0 0 0 0 0 = 0 := up2_hit J 0 0 0
  unfold f_X4_crystal f_X7_crystal
  rw [nm_v]
  generalize up2 J 0 0 0 = J0 at R0 t0 ⊢
  have hc := R0.c12
  rcases num p1 (b31 hc) with ⟨i, hi, rfl, h1, h2⟩ | ⟨h1, h2⟩
  · rw [R0.I7, h1, bE_o, ixB R0.J5 (by decide) h2, bd_s, if10, inB_nI (show i < 12 by omega) (by decide), nI_clamp (by omega), ckt, ckt]
    exact agR_ok (R0.crys hi).symm (by rw [show E (5 + 5) i = _ from R0.crys hi]; exact (R0.crg hi).1) t0 R0.pp
  · rw [R0.I7, h1, bE_e, ixB R0.J5 (by decide) h2, bd_s, if00, no_e, bd_s]
    exact agR_er 0 rfl (up2_hit _ _ _ _) (R0.ppt 1)
set_option maxRecDepth 20000 in
theorem a_temp (R : RR 0 a b c d h I D J E) (p1 : Int32) : agR FP.Core.DFin (PP a b h) I D [IOB] (f_X4_temp I D p1) (f_X7_temp a b J E p1) := by
  have R0 := R.thr 0
  have t0 : up2 J 0 0 0 0 0 = 0 := up2_hit J 0 0 0
  unfold f_X4_temp f_X7_temp
  rw [nm_v]
  generalize up2 J 0 0 0 = J0 at R0 t0 ⊢
  have hc := R0.d3
  rcases num p1 (b31 hc) with ⟨i, hi, rfl, h1, h2⟩ | ⟨h1, h2⟩
  · obtain ⟨-, q2, -, -, q5⟩ := R0.sto i hi
    rw [R0.I8, h1, bE_o, ixS R0.J6 (by decide) h2, bd_s, if10, inB_nI (show i < 3 by omega) (by decide), nI_clamp (by omega), ckt, ckt]
    exact agR_ok q2.symm (by rw [show E (5 + 7) i = _ from q2]; exact q5.1) t0 R0.pp
  · rw [R0.I8, h1, bE_e, ixS R0.J6 (by decide) h2, bd_s, if00, no_e, bd_s]
    exact agR_er 0 rfl (up2_hit _ _ _ _) (R0.ppt 1)
set_option maxRecDepth 20000 in
theorem a_ice (R : RR 0 a b c d h I D J E) (p1 p2 : Int32) : agR FP.Core.DFin (PP a b h) I D [IOB, IAE] (f_X4_ice I D p1 p2) (f_X7_ice a b J E p1 p2) := by
  have R0 := R.thr 0
  have t0 : up2 J 0 0 0 0 0 = 0 := up2_hit J 0 0 0
  unfold f_X4_ice f_X7_ice
  rw [nm_v]
  generalize up2 J 0 0 0 = J0 at R0 t0 ⊢
  have hc := R0.b5
  rcases num p1 (b31 hc) with ⟨i, hi, rfl, h1, h2⟩ | ⟨h1, h2⟩
  · rcases rng p2 (-40) 20 with ⟨h3, h4, h5, h6⟩ | ⟨h3, h4⟩
    · have ht : FP.Core.DFin (FP.i2d p2) := (rg_i2d (Int.le_refl _) (Int.le_refl _)).1
      rw [R0.I6, h1, bE_o, h3, bE_o, ixM R0.J2 (by decide) h2, bd_s, if10, h4, bd_s, if10, inB_nI (show i < 5 by omega) (by decide), nI_clamp (by omega), ckt, get2_ok R0.gt E hi, bd_s, iceC (R0.frg hi) ht, bd_s, (R0.ms hi).ice R0.gt E ht, bd_s, R0.frz hi]
      exact agR_ok rfl (by rw [← R0.frz hi]; exact (fI_rg (R0.frg hi) ht).1) t0 R0.pp
    · rw [R0.I6, h1, bE_o, h3, bE_e, ixM R0.J2 (by decide) h2, bd_s, if10, h4, bd_s, if00, no_e, bd_s]
      exact agR_er 1 rfl (up2_hit _ _ _ _) (R0.ppt 2)
  · rw [R0.I6, h1, bE_e, ixM R0.J2 (by decide) h2, bd_s, if00, no_e, bd_s]
    exact agR_er 0 rfl (up2_hit _ _ _ _) (R0.ppt 1)
set_option maxRecDepth 20000 in
theorem a_part (R : RR 0 a b c d h I D J E) (p1 p2 : Int32) : agR FP.Core.DFin (PP a b h) I D [IOB, IAE] (f_X4_part I D p1 p2) (f_X7_part a b J E p1 p2) := by
  have R0 := R.thr 0
  have t0 : up2 J 0 0 0 0 0 = 0 := up2_hit J 0 0 0
  unfold f_X4_part f_X7_part
  rw [nm_v]
  generalize up2 J 0 0 0 = J0 at R0 t0 ⊢
  have hc := R0.b5
  rcases num p1 (b31 hc) with ⟨i, hi, rfl, h1, h2⟩ | ⟨h1, h2⟩
  · rcases rng p2 0 3 with ⟨h3, h4, h5, h6⟩ | ⟨h3, h4⟩
    · have m := R0.ms hi
      obtain ⟨-, -, -, -, -, k1, ⟨f1, f2⟩, ⟨m1, m2⟩, ⟨s1, s2⟩⟩ := id m
      rw [R0.I6, h1, bE_o, h3, bE_o, ixM R0.J2 (by decide) h2, bd_s, if10, h4, bd_s, if10, inB_nI (show i < 5 by omega) (by decide), nI_clamp (by omega), ckt, get2_ok R0.gt E hi, bd_s, bd_s]
      have e0 : (0 : Int32).toInt = 0 := by decide
      have e3 : (3 : Int32).toInt = 3 := by decide
      have e1 : (1 : Int32).toInt = 1 := by decide
      have e2 : (2 : Int32).toInt = 2 := by decide
      rw [e0] at h5
      rw [e3] at h6
      have hq : p2 = 0 ∨ p2 = 1 ∨ p2 = 2 ∨ p2 = 3 := by
        rw [eqI, eqI, eqI, eqI, e0, e1, e2, e3]
        omega
      rcases hq with rfl | rfl | rfl | rfl
      · rw [if_pos rfl, if_neg (show ¬ (0 : Int32) = 3 by decide), perc k1 f1 f2, bd_s, m.part0 R0.gt E, bd_s]
        exact agR_ok rfl (fP_2 k1 f1 f2).1 t0 R0.pp
      · rw [if_neg (show ¬ (1 : Int32) = 0 by decide), if_pos rfl, if_neg (show ¬ (1 : Int32) = 3 by decide), perc k1 m1 m2, bd_s, m.part1 R0.gt E, bd_s]
        exact agR_ok rfl (fP_2 k1 m1 m2).1 t0 R0.pp
      · rw [if_neg (show ¬ (2 : Int32) = 0 by decide), if_neg (show ¬ (2 : Int32) = 1 by decide), if_pos rfl, if_neg (show ¬ (2 : Int32) = 3 by decide), perc k1 s1 s2, bd_s, m.part2 R0.gt E, bd_s]
        exact agR_ok rfl (fP_2 k1 s1 s2).1 t0 R0.pp
      · rw [if_neg (show ¬ (3 : Int32) = 0 by decide), if_neg (show ¬ (3 : Int32) = 1 by decide), if_neg (show ¬ (3 : Int32) = 2 by decide), if_pos rfl, m.freezes R0.gt E, bd_s]
        exact agR_ok (R0.frz hi) m.frg.1 t0 R0.pp
    · rw [R0.I6, h1, bE_o, h3, bE_e, ixM R0.J2 (by decide) h2, bd_s, if10, h4, bd_s, if00, no_e, bd_s]
      exact agR_er 1 rfl (up2_hit _ _ _ _) (R0.ppt 2)
  · rw [R0.I6, h1, bE_e, ixM R0.J2 (by decide) h2, bd_s, if00, no_e, bd_s]
    exact agR_er 0 rfl (up2_hit _ _ _ _) (R0.ppt 1)
/- what bars a run, where the numbers are in their ranges -/
def barV (I : MI) (D : MD) (p1 k : Nat) (p3 p4 : Int32) : Int32 :=
  if I (13 + k) 10 = 0 then 1 else if 4 ≤ I (13 + k) 8 then (if I (13 + k) 8 ≤ 72 then (if p3 ≤ I (13 + k) 1 then (if (I 5 p1) &&& ((I (13 + k) 6) ^^^ (-1)) = 0 then (if p4 ≤ 100 then (if I 0 7 < 12 then 0 else 7) else (if fCr (I (13 + k) 2) (I (13 + k) 3) (I (13 + k) 0) = 0 then (if I 0 7 < 12 then 0 else 7) else 6)) else 5) else 4) else 3) else 2
set_option maxRecDepth 20000 in
theorem fCr_01 (F M K : Int32) : fCr F M K = 0 ∨ fCr F M K = 1 := by
  unfold fCr
  split
  · exact Or.inl rfl
  · split
    · exact Or.inl rfl
    · exact Or.inr rfl
set_option maxRecDepth 20000 in
theorem barV_C (R : RR 0 a b c d h I D J E) {k i : Nat} (hk : k < b) (hi : i < 2) {p3 p4 : Int32} (g3 : f_X4_checkRange p3 5 500 = some (.ok ())) (g4 : f_X4_checkRange p4 20 140 = some (.ok ())) (g1 : f_X4_checkNumber (nI i) 2 = some (.ok ())) (g2 : f_X4_checkNumber (nI k) (nI b) = some (.ok ())) : f_X4_bars I D (nI i) (nI k) p3 p4 = some (.ok (barV I D i k p3 p4)) := by
  have hb := R.b5
  unfold f_X4_bars barV
  rw [g1, bE_o, R.I6, g2, bE_o, g3, bE_o, g4, bE_o, inB_nI (show k < 5 by omega) (by decide), nI_clamp (by omega), nI_clamp (by omega), ckt, inB_nI hi (by decide), ckt, R.creamC hk, bd_s]
  split
  · rfl
  · split
    · split
      · split
        · split
          · split
            · split <;> rfl
            · split
              · split <;> rfl
              · rfl
          · rfl
        · rfl
      · rfl
    · rfl
set_option maxRecDepth 20000 in
theorem barV_M (R : RR 0 a b c d h I D J E) {k i : Nat} (hk : k < b) (hi : i < 2) {p3 p4 : Int32} : f_X7_barsNow a b J E (nI i) k p3 p4 = some (barV I D i k p3 p4) := by
  have hb := R.b5
  have hc := R.c12
  obtain ⟨⟨m1, m2, m3, m4⟩, -⟩ := R.mix.1 k hk
  rw [Int32.add_zero] at m4
  unfold f_X7_barsNow barV
  rw [m2, m4, m1, nI_clamp (by omega), inB_nI hi (by decide), ckt, R.harms hk, bd_s, R.creamM hk, bd_s, ← R.1.2.2.2.2.2.1 i hi, R.J5, R.I7]
  have e12 : (nI c = 12) = (¬ nI c < 12) := propext ⟨fun e => by rw [e]; decide, fun e => by
    have e1 : ¬ c < 12 := fun q => e (nI_lt q (by decide))
    have e2 : c = 12 := by omega
    rw [e2]; rfl⟩
  have z4 : (4 : Int32).toInt = 4 := by decide
  have z72 : (72 : Int32).toInt = 72 := by decide
  unfold f_X7_in
  by_cases c1 : I (13 + k) 10 = 0
  · rw [if_pos c1, if_pos c1]
  · rw [if_neg c1, if_neg c1]
    by_cases c2 : 4 ≤ I (13 + k) 8
    · rw [if_neg (show ¬ I (13 + k) 8 < 4 by rw [leI] at c2; rw [ltI]; omega)]
      by_cases c3 : I (13 + k) 8 ≤ 72
      · rw [if_neg (show ¬ 72 < I (13 + k) 8 by rw [leI] at c3; rw [ltI]; omega), bd_s, if10, if_pos c2, if_pos c3]
        by_cases c4 : p3 ≤ I (13 + k) 1
        · rw [if_pos c4, if_pos c4]
          by_cases c5 : (I 5 i) &&& ((I (13 + k) 6) ^^^ (-1)) = 0
          · rw [if_pos c5, if_pos c5]
            by_cases c6 : p4 ≤ 100
            · rw [if_pos c6, if_pos c6]
              by_cases c7 : nI c < 12
              · rw [if_neg (by rw [e12]; exact fun q => q c7), if_pos c7]
              · rw [if_pos (by rw [e12]; exact c7), if_neg c7]
            · rw [if_neg c6, if_neg c6]
              by_cases c8 : fCr (I (13 + k) 2) (I (13 + k) 3) (I (13 + k) 0) = 0
              · rw [if_pos c8, if_pos c8]
                by_cases c7 : nI c < 12
                · rw [if_neg (by rw [e12]; exact fun q => q c7), if_pos c7]
                · rw [if_pos (by rw [e12]; exact c7), if_neg c7]
              · rw [if_neg c8, if_neg c8]
          · rw [if_neg c5, if_neg c5]
        · rw [if_neg c4, if_neg c4]
      · rw [if_pos (show 72 < I (13 + k) 8 by rw [leI] at c3; rw [ltI]; omega), bd_s, if00, if_pos c2, if_pos c2, if_neg c3]
    · rw [if_pos (show I (13 + k) 8 < 4 by rw [leI] at c2; rw [ltI]; omega), bd_s, if00, if_neg c2, if_neg c2]
/- canAsk: 1 and thrown 0, or 0 and thrown 1 or 2 -/
set_option maxRecDepth 20000 in
theorem canAsk_ok (R : RR 0 a b c d h I D J E) (p1 p2 p3 p4 : Int32) :
    (∃ i k, i < 2 ∧ k < b ∧ p1 = nI i ∧ p2 = nI k ∧ f_X4_checkRange p3 5 500 = some (.ok ()) ∧ f_X4_checkRange p4 20 140 = some (.ok ()) ∧ f_X4_checkNumber (nI i) 2 = some (.ok ()) ∧ f_X4_checkNumber (nI k) (nI b) = some (.ok ()) ∧ (5 ≤ p3.toInt ∧ p3.toInt ≤ 500) ∧ (20 ≤ p4.toInt ∧ p4.toInt ≤ 140) ∧ f_X7_canAsk a b J E p1 p2 p3 p4 = some (1, up2 J 0 0 0, E)) ∨
    (f_X7_canAsk a b J E p1 p2 p3 p4 = some (0, up2 J 0 0 1, E) ∧ f_X4_bars I D p1 p2 p3 p4 = some (.error IOB)) ∨
    (f_X7_canAsk a b J E p1 p2 p3 p4 = some (0, up2 J 0 0 2, E) ∧ f_X4_bars I D p1 p2 p3 p4 = some (.error IAE)) := by
  have hb := R.b5
  have e2 : nI 2 = 2 := rfl
  have e21 : (2 : Int32) - 1 = 1 := by decide
  unfold f_X7_canAsk f_X4_bars
  rw [R.I6]
  rcases num p1 (show 2 < 2 ^ 31 by decide) with ⟨i, hi, rfl, h1, h2⟩ | ⟨h1, h2⟩
  · rw [e2] at h1 h2
    rw [e21] at h2
    rw [h1, bE_o, h2, bd_s, if10]
    rcases num p2 (b31 hb) with ⟨k, hk, rfl, g1, g2⟩ | ⟨g1, g2⟩
    · rw [g1, bE_o, ixM R.J2 (by decide) g2, bd_s, if10]
      rcases rng p3 5 500 with ⟨k3, k4, k5, k6⟩ | ⟨k3, k4⟩
      · rw [k3, bE_o, k4, bd_s, if10]
        rcases rng p4 20 140 with ⟨l3, l4, l5, l6⟩ | ⟨l3, l4⟩
        · rw [l3, bE_o, l4, bd_s, if10]
          left
          refine ⟨i, k, hi, hk, rfl, rfl, rfl, rfl, h1, g1, ⟨k5, k6⟩, ⟨l5, l6⟩, ?_⟩
          rw [nm_v, up2_hit, if00]
        · rw [l3, bE_e, l4, bd_s, if00]
          right; right
          exact ⟨by rw [nm_v, up2_hit]; rfl, rfl⟩
      · rw [k3, bE_e, k4, bd_s, if00]
        right; right
        exact ⟨by rw [nm_v, up2_hit]; rfl, rfl⟩
    · rw [g1, bE_e, ixM R.J2 (by decide) g2, bd_s, if00]
      right; left
      exact ⟨by rw [nm_v, up2_hit]; rfl, rfl⟩
  · rw [e2] at h1 h2
    rw [e21] at h2
    rw [h1, bE_e, h2, bd_s, if00]
    right; left
    exact ⟨by rw [nm_v, up2_hit]; rfl, rfl⟩
set_option maxRecDepth 20000 in
theorem a_bars (R : RR 0 a b c d h I D J E) (p1 p2 p3 p4 : Int32) : agR (fun _ => True) (PP a b h) I D [IOB, IAE] (f_X4_bars I D p1 p2 p3 p4) (f_X7_bars a b J E p1 p2 p3 p4) := by
  unfold f_X7_bars
  rcases canAsk_ok R p1 p2 p3 p4 with ⟨i, k, hi, hk, rfl, rfl, g3, g4, g1, g2, -, -, hA⟩ | ⟨hA, hC⟩ | ⟨hA, hC⟩
  · have R0 := R.thr 0
    rw [hA, bd_s]
    show agR _ _ _ _ _ _ (if (1 : Int32) = 0 then _ else _)
    rw [if10, get2_ok R0.gt E hk, bd_s, barV_M R0 hk hi, bd_s, barV_C R hk hi g3 g4 g1 g2]
    exact agR_ok rfl trivial (up2_hit J 0 0 0) R0.pp
  · rw [hA, hC, bd_s]
    exact agR_er 0 rfl (up2_hit _ _ _ _) (R.ppt 1)
  · rw [hA, hC, bd_s]
    exact agR_er 1 rfl (up2_hit _ _ _ _) (R.ppt 2)
end RDM
