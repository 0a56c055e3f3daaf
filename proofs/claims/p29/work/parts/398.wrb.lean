/-! ===== calls that write: harden, heat, sell, call, run ===== -/
section WRB
variable {a b c d h : Nat} {I J : MI} {D E : MD}
set_option maxRecDepth 20000 in
theorem RR.mono {x : Int32} {h' : Nat} (R : RR x a b c d h I D J E) (h1 : h ≤ h') (h2 : h' < 2 ^ 20) : RR x a b c d h' I D J E := by
  obtain ⟨r1, r2, r3, r4, r5, r6⟩ := R
  refine ⟨r1, r2, r3, ⟨fun i hi => ?_, r4.2⟩, r5, h2⟩
  obtain ⟨q1, q2, q3, q4, q5, q6, q7, q8, q9⟩ := r4.1 i hi
  exact ⟨q1, q2, q3, q4, q5, q6, q7, q8, q9.mono (Int.le_refl _) (by unfold crM; omega)⟩
set_option maxRecDepth 20000 in
theorem a_harden (R : RR 0 a b c d h I D J E) (hh : h + 48 < 2 ^ 20) (p1 p2 : Int32) : agW FP.Core.DFin (PP a b h) I D [IOB, IAE, ISE] (f_X4_harden I D p1 p2) (f_X7_harden a b J E p1 p2) := by
  have R0 := R.thr 0
  have t0 : up2 J 0 0 0 0 0 = 0 := up2_hit J 0 0 0
  unfold f_X7_harden
  rw [nm_v]
  generalize up2 J 0 0 0 = J0 at R0 t0 ⊢
  unfold f_X4_harden
  have hc := R0.c12
  rcases num p1 (b31 hc) with ⟨i, hi, rfl, h1, h2⟩ | ⟨h1, h2⟩
  · rcases rng p2 10 90 with ⟨h3, h4, h5, h6⟩ | ⟨h3, h4⟩
    · obtain ⟨q1, q2, q3, q4, q5, q6, q7, q8, q9⟩ := R0.bat.1 i hi
      have e3 : J0 (5 + 3) i = I (18 + i) 3 := q3
      have e4 : J0 (5 + 4) i = I (18 + i) 2 := q4
      have e5 : E (5 + 5) i = D (18 + i) 4 := q5
      rw [R0.I7, h1, bE_o, h3, bE_o, ixB R0.J5 (by decide) h2, bd_s, if10, h4, bd_s, if10, inB_nI (show i < 12 by omega) (by decide), nI_clamp (by omega)]
      simp only [ckt, nm_v, e3, e4, e5]
      by_cases c4 : I (18 + i) 2 = -1
      · rw [if_pos c4, if_pos c4]
        by_cases c3 : I (18 + i) 3 = 0
        · have z10 : (10 : Int32).toInt = 10 := by decide
          have z90 : (90 : Int32).toInt = 90 := by decide
          rw [z10] at h5
          rw [z90] at h6
          have x1 : rg 320 2880 (FP.i2d p2) := rg_i2d (by omega) (by omega)
          have x2 := rg_mul x1 8 (by decide) rc_25.1 zc_25 80 720 (by decide) (by decide) (by decide) (by decide)
          have hcm : crM (h + 1) = crM h + 768 := by unfold crM; omega
          have hcb : 0 ≤ crM h ∧ crM h < 2 ^ 40 := by unfold crM; omega
          have x3 := rg_add q9 x2 (by decide) (by omega)
          have x4 : rg 640 (crM (h + 1)) (FP.dadd (D (18 + i) 4) (FP.dmul (FP.i2d p2) (4598175219545276416 : UInt64))) := x3.mono (by omega) (by omega)
          rw [if_pos c3, if_pos c3, x2.okD, x3.okD]
          simp only [ckt, nm_v, up2_hit, e5]
          have R1 := R0.mono (h' := h + 1) (by omega) (by omega)
          refine agW_ok rfl x4.1 (by rw [up2_k _ _ _ _ (by omega)]; exact t0) ⟨c, d, h + 1, by omega, R1.1.cong (fun k n _ => by rw [up2_k _ _ _ _ (by omega)]) (fun k n _ => by rw [up2_k _ _ _ _ (by omega)]), R1.ing.cong R1.a6 (fun k n _ _ => by rw [up2_k _ _ _ _ (by omega)]) (fun k n _ _ => by rw [up2_k _ _ _ _ (by omega)]), R1.mix.cong R1.b5 (fun k n _ _ => by rw [up2_k _ _ _ _ (by omega)]) (fun _ _ _ => by rw [up2_k _ _ _ _ (by omega)]) (fun j _ => by rw [up2_ap, if_neg (by omega)]) (fun k n _ _ => by rw [up2_k _ _ _ _ (by omega)]), ⟨fun j hj => ?_, fun j g1 g2 => ?_⟩, R1.sto.cong R1.d3 (fun k _ _ => by rw [up2_k _ _ _ _ (by omega)]) (fun _ _ _ => by rw [up2_k _ _ _ _ (by omega)]) (fun n => by rw [up2_k _ _ _ _ (by omega)]) (fun _ => by rw [up2_k _ _ _ _ (by omega)]), R1.h20⟩
          · rw [show (5 + 3) = 8 from rfl, show (5 + 5) = 10 from rfl]
            by_cases e : j = i
            · subst e
              refine ⟨?_, ?_, ?_, ?_, ?_, ?_, ?_, ?_, ?_⟩
              · rw [up2_k _ _ _ _ (by omega), up2_n _ _ _ (by decide)]; exact q1
              · rw [up2_k _ _ _ _ (by omega), up2_n _ _ _ (by decide)]; exact q2
              · rw [up2_hit, up2_hit]
              · rw [up2_k _ _ _ _ (by omega), up2_n _ _ _ (by decide)]; exact q4
              · rw [up2_hit, up2_hit]
              · rw [up2_n _ _ _ (by decide)]; exact q6
              · rw [up2_n _ _ _ (by decide)]; exact q7
              · rw [up2_hit]; exact Or.inr rfl
              · rw [up2_hit]; exact x4
            · exact (R1.bat.1 j hj).cong (fun n _ => by rw [up2_k _ _ _ _ (by omega)]) (by rw [up2_k _ _ _ _ (by omega)]) (fun k _ _ => by rw [up2_ap, if_neg (by omega)]) (by rw [up2_ap, if_neg (by omega)])
          · rw [up2_k _ _ _ _ (by omega), up2_k _ _ _ _ (by omega), up2_ap, if_neg (by omega)]
            exact R1.bat.2 j g1 g2
        · rw [if_neg c3, if_neg c3, no_e, bd_s]
          exact agW_er 2 rfl (up2_hit J0 0 0 _) (R0.ppt 3)
      · rw [if_neg c4, if_neg c4, no_e, bd_s]
        exact agW_er 2 rfl (up2_hit J0 0 0 _) (R0.ppt 3)
    · rw [R0.I7, h1, bE_o, h3, bE_e, ixB R0.J5 (by decide) h2, bd_s, if10, h4, bd_s, if00, no_e, bd_s]
      exact agW_er 1 rfl (up2_hit J0 0 0 _) (R0.ppt 2)
  · rw [R0.I7, h1, bE_e, ixB R0.J5 (by decide) h2, bd_s, if00, no_e, bd_s]
    exact agW_er 0 rfl (up2_hit J0 0 0 _) (R0.ppt 1)
/- one mix has another proof, and the age 0 -/
set_option maxRecDepth 20000 in
theorem RR.heated (R : RR 0 a b c d h I D J E) {k : Nat} (hk : k < b) {v : Int32} (hv : v = 0 ∨ v = 1) : RR 0 a b c d h (up2 (up2 I (13 + k) 10 v) (13 + k) 8 0) D (up2 (up2 J (20 + k) 2 v) (20 + k) 3 0) E := by
  have hb := R.b5
  refine ⟨R.1.cong (fun k n _ => by rw [up2_k _ _ _ _ (by omega), up2_k _ _ _ _ (by omega)]) (fun k n _ => by rw [up2_k _ _ _ _ (by omega), up2_k _ _ _ _ (by omega)]), R.ing.cong R.a6 (fun k n _ _ => by rw [up2_k _ _ _ _ (by omega), up2_k _ _ _ _ (by omega)]) (fun k n _ _ => by rw [up2_k _ _ _ _ (by omega), up2_k _ _ _ _ (by omega)]), ⟨fun j hj => ?_, fun j g1 g2 n hn => ?_⟩, R.bat.cong R.c12 (fun k n _ _ => by rw [up2_k _ _ _ _ (by omega), up2_k _ _ _ _ (by omega)]) (fun _ _ _ => rfl) (fun k n _ _ => by rw [up2_k _ _ _ _ (by omega), up2_k _ _ _ _ (by omega)]) (fun _ => rfl), R.sto.cong R.d3 (fun k _ _ => by rw [up2_k _ _ _ _ (by omega), up2_k _ _ _ _ (by omega)]) (fun _ _ _ => rfl) (fun n => by rw [up2_k _ _ _ _ (by omega), up2_k _ _ _ _ (by omega)]) (fun _ => rfl), R.h20⟩
  · have hcB : cB (up2 (up2 I (13 + k) 10 v) (13 + k) 8 0) j c = cB I j c := cB_cong c (fun i _ => by rw [up2_k _ _ _ _ (by omega), up2_k _ _ _ _ (by omega)])
    by_cases e : j = k
    · subst e
      obtain ⟨⟨m1, m2, m3, m4⟩, h5, ⟨h6, h7⟩, h8, h9, h10, h11, h12, h13, h14⟩ := R.mix.1 j hj
      have eI : ∀ n, n ≠ 10 → n ≠ 8 → up2 (up2 I (13 + j) 10 v) (13 + j) 8 0 (13 + j) n = I (13 + j) n := fun n g1 g2 => by rw [up2_n _ _ _ g2, up2_n _ _ _ g1]
      have eJ : ∀ i n, i ≠ 20 + j → up2 (up2 J (20 + j) 2 v) (20 + j) 3 0 i n = J i n := fun i n g => by rw [up2_k _ _ _ _ g, up2_k _ _ _ _ g]
      have eK : up2 (up2 J (20 + j) 2 v) (20 + j) 3 0 (25 + j) = J (25 + j) := funext (fun n => eJ _ n (by omega))
      have eG : ∀ i, i < 6 → up2 (up2 J (20 + j) 2 v) (20 + j) 3 0 (14 + i) = J (14 + i) := fun i hi => funext (fun n => eJ _ n (by omega))
      refine ⟨⟨?_, ?_, ?_, ?_⟩, ?_, ⟨?_, ?_⟩, ?_, ?_, ?_, ?_, ?_, ?_, ?_⟩
      · rw [up2_n _ _ _ (by decide), up2_n _ _ _ (by decide), eI 1 (by decide) (by decide)]; exact m1
      · rw [up2_n _ _ _ (by decide), up2_hit, up2_n _ _ _ (by decide), up2_hit]
      · rw [up2_n _ _ _ (by decide), up2_hit]; exact hv
      · rw [up2_hit, up2_hit]; rfl
      · intro i hi
        rw [eK, eI 0 (by decide) (by decide)]; exact h5 i hi
      · rw [eI 0 (by decide) (by decide)]; exact h6
      · rw [eI 0 (by decide) (by decide)]; exact h7
      · rw [eI 0 (by decide) (by decide), eK]; exact h8
      · intro w hw
        rw [eI (2 + w) (by omega) (by omega), eK, h9 w hw]
        exact sF_cong 6 0 (fun i _ hi => by rw [eG i (by omega)])
      · intro w hw
        rw [eI (2 + w) (by omega) (by omega), eI 0 (by decide) (by decide)]; exact h10 w hw
      · rw [eI 6 (by decide) (by decide), eK, h11]
        exact oF_cong 6 0 (fun i _ hi => by rw [eG i (by omega)])
      · rw [eI 7 (by decide) (by decide), eK]; exact h12
      · rw [eI 9 (by decide) (by decide), hcB]; exact h13
      · rw [eI 4 (by decide) (by decide), eI 3 (by decide) (by decide), eI 0 (by decide) (by decide)]; exact h14
    · exact (R.mix.1 j hj).cong (fun n _ => by rw [up2_k _ _ _ _ (by omega), up2_k _ _ _ _ (by omega)]) rfl hcB (fun i n _ _ => by rw [up2_k _ _ _ _ (by omega), up2_k _ _ _ _ (by omega)]) (fun n _ _ => by rw [up2_k _ _ _ _ (by omega), up2_k _ _ _ _ (by omega)]) (fun n => by rw [up2_k _ _ _ _ (by omega), up2_k _ _ _ _ (by omega)])
  · rw [up2_k _ _ _ _ (by omega), up2_k _ _ _ _ (by omega)]
    exact R.mix.2 j g1 g2 n hn
set_option maxRecDepth 20000 in
theorem or_0 (v : Int32) : v ||| 0 = v := Int32.or_zero
set_option maxRecDepth 20000 in
theorem isB_01 {v : Int32} (h : v = 0 ∨ v = 1) : isB v = true := by
  rcases h with rfl | rfl <;> rfl
/- the proof by degrees and seconds -/
def prV (p2 p3 : Int32) : Int32 := if p2 < 80 then (if p2 < 75 then (if p2 < 70 then (if p2 < 65 then 0 else (if p3 < 1800 then 0 else 1)) else (if p3 < 300 then 0 else 1)) else (if p3 < 60 then 0 else 1)) else (if p3 < 15 then 0 else 1)
set_option maxRecDepth 20000 in
theorem prV_C (p2 p3 : Int32) : f_X4_proves p2 p3 = some (prV p2 p3) := by
  unfold f_X4_proves prV
  repeat (first | rfl | split)
set_option maxRecDepth 20000 in
theorem prV_01 (p2 p3 : Int32) : prV p2 p3 = 0 ∨ prV p2 p3 = 1 := by
  unfold prV
  repeat (first | exact Or.inl rfl | exact Or.inr rfl | split)
set_option maxRecDepth 20000 in
theorem heat_M (G : GT a b J) {k : Nat} (hk : k < b) {p2 p3 : Int32} (h3 : p3.toInt ≤ 9999) (hm : J (20 + k) 2 = 0 ∨ J (20 + k) 2 = 1) (g2 : f_X7_isMix a b J E (nI k) = some 1) (g3 : f_X7_in p2 20 120 = some 1) (g4 : f_X7_in p3 1 9999 = some 1) (J1 : MI) (hJ : up2 J1 0 0 0 = J) : f_X7_heat a b J1 E (nI k) p2 p3 = some (J (20 + k) 2 ||| prV p2 p3, up2 (up2 J (20 + k) 2 (J (20 + k) 2 ||| prV p2 p3)) (20 + k) 3 0, E) := by
  have q1 : f_get2 a b J E (nI k) = some k := get2_ok G E hk
  have q2 : ∀ v, f_get2 a b (up2 J (20 + k) 2 v) E (nI k) = some k := fun v => get2_ok (G.cong (fun n => by rw [up2_k _ _ _ _ (by omega)]) (fun n => by rw [up2_k _ _ _ _ (by omega)])) E hk
  have q3 : ∀ v w, f_get2 a b (up2 (up2 J (20 + k) 2 v) (20 + k) 3 w) E (nI k) = some k := fun v w => get2_ok (G.cong (fun n => by rw [up2_k _ _ _ _ (by omega), up2_k _ _ _ _ (by omega)]) (fun n => by rw [up2_k _ _ _ _ (by omega), up2_k _ _ _ _ (by omega)])) E hk
  have u1 : ∀ v w, up2 (up2 J (20 + k) 2 v) (20 + k) 3 w (20 + k) 2 = v := fun v w => by rw [up2_n _ _ _ (by decide), up2_hit]
  have b0 : isB (J (20 + k) 2 ||| 0) = true := isB_01 (by rw [or_0]; exact hm)
  have b1 : isB (J (20 + k) 2 ||| 1) = true := isB_01 (by rcases hm with e | e <;> rw [e] <;> decide)
  have i10 : ∀ {α : Type} (x y : α), (if (1 : Int32) = 0 then x else y) = y := fun x y => if10 x y
  unfold f_X7_heat
  simp only [nm_v, hJ, g2, g3, g4, bd_s, i10, q1, q2, q3, u1, b0, b1, ckt]
  have z (n : Nat) (hn : n < 2 ^ 31) : (nI n).toInt = (n : Int) := nI_toInt hn
  have z80 : (80 : Int32).toInt = 80 := z 80 (by decide)
  have z75 : (75 : Int32).toInt = 75 := z 75 (by decide)
  have z70 : (70 : Int32).toInt = 70 := z 70 (by decide)
  have z65 : (65 : Int32).toInt = 65 := z 65 (by decide)
  have zK : (10000 : Int32).toInt = 10000 := z 10000 (by decide)
  have le80 : (80 ≤ p2) = ¬ (p2 < 80) := propext (by rw [leI, ltI]; omega)
  have le75 : (75 ≤ p2) = ¬ (p2 < 75) := propext (by rw [leI, ltI]; omega)
  have le70 : (70 ≤ p2) = ¬ (p2 < 70) := propext (by rw [leI, ltI]; omega)
  have le65 : (65 ≤ p2) = ¬ (p2 < 65) := propext (by rw [leI, ltI]; omega)
  have ltK : p3 < 10000 := by rw [ltI]; omega
  unfold prV
  by_cases c65 : p2 < 65
  · have n1 : ¬ 65 ≤ p2 := by rw [le65]; exact fun q => q c65
    have d1 : p2 < 70 := by rw [ltI] at c65 ⊢; omega
    have d2 : p2 < 75 := by rw [ltI] at c65 ⊢; omega
    have d3 : p2 < 80 := by rw [ltI] at c65 ⊢; omega
    rw [if_neg n1, if_pos ltK, if_pos d3, if_pos d2, if_pos d1, if_pos c65]
  · have y1 : 65 ≤ p2 := by rw [le65]; exact c65
    rw [if_pos y1]
    by_cases c70 : p2 < 70
    · have n1 : ¬ 70 ≤ p2 := by rw [le70]; exact fun q => q c70
      have d2 : p2 < 75 := by rw [ltI] at c70 ⊢; omega
      have d3 : p2 < 80 := by rw [ltI] at c70 ⊢; omega
      rw [if_neg n1, if_pos d3, if_pos d2, if_pos c70, if_neg c65]
      by_cases e : p3 < 1800
      · rw [if_pos e, if_pos e]
      · rw [if_neg e, if_neg e]
    · have y2 : 70 ≤ p2 := by rw [le70]; exact c70
      rw [if_pos y2]
      by_cases c75 : p2 < 75
      · have n1 : ¬ 75 ≤ p2 := by rw [le75]; exact fun q => q c75
        have d3 : p2 < 80 := by rw [ltI] at c75 ⊢; omega
        rw [if_neg n1, if_pos d3, if_pos c75, if_neg c70]
        by_cases e : p3 < 300
        · rw [if_pos e, if_pos e]
        · rw [if_neg e, if_neg e]
      · have y3 : 75 ≤ p2 := by rw [le75]; exact c75
        rw [if_pos y3]
        by_cases c80 : p2 < 80
        · have n1 : ¬ 80 ≤ p2 := by rw [le80]; exact fun q => q c80
          rw [if_neg n1, if_pos c80, if_neg c75]
          by_cases e : p3 < 60
          · rw [if_pos e, if_pos e]
          · rw [if_neg e, if_neg e]
        · have y4 : 80 ≤ p2 := by rw [le80]; exact c80
          rw [if_pos y4, if_neg c80]
          by_cases e : p3 < 15
          · rw [if_pos e, if_pos e]
          · rw [if_neg e, if_neg e]
set_option maxRecDepth 20000 in
theorem a_heat (R : RR 0 a b c d h I D J E) (p1 p2 p3 : Int32) : agW (fun v => v = 0 ∨ v = 1) (PP a b h) I D [IOB, IAE] (f_X4_heat I D p1 p2 p3) (f_X7_heat a b J E p1 p2 p3) := by
  have R0 := R.thr 0
  have t0 : up2 J 0 0 0 0 0 = 0 := up2_hit J 0 0 0
  have hb := R0.b5
  have i10 : ∀ {α : Type} (x y : α), (if (1 : Int32) = 0 then x else y) = y := fun x y => if10 x y
  have i00 : ∀ {α : Type} (x y : α), (if (0 : Int32) = 0 then x else y) = x := fun x y => if00 x y
  rcases num p1 (b31 hb) with ⟨k, hk, rfl, h1, h2⟩ | ⟨h1, h2⟩
  · rcases rng p2 20 120 with ⟨h3, h4, h5, h6⟩ | ⟨h3, h4⟩
    · rcases rng p3 1 9999 with ⟨h7, h8, h9, h10⟩ | ⟨h7, h8⟩
      · have z9 : (9999 : Int32).toInt = 9999 := by decide
        rw [z9] at h10
        obtain ⟨⟨m1, m2, m3, m4⟩, -⟩ := R0.mix.1 k hk
        have hM := heat_M R0.gt (E := E) hk h10 (by rw [m2]; exact m3) (ixM R0.J2 (by decide) h2) h4 h8 J rfl
        rw [m2] at hM
        have hv : I (13 + k) 10 ||| prV p2 p3 = 0 ∨ I (13 + k) 10 ||| prV p2 p3 = 1 := by
          rcases m3 with e | e <;> rcases prV_01 p2 p3 with e2 | e2 <;> rw [e, e2] <;> decide
        have R1 := R0.heated hk hv
        rw [hM]
        unfold f_X4_heat
        rw [R0.I6, h1, bE_o, h3, bE_o, h7, bE_o, inB_nI (show k < 5 by omega) (by decide), nI_clamp (by omega), prV_C]
        have u1 : ∀ v w, up2 (up2 I (13 + k) 10 v) (13 + k) 8 w (13 + k) 10 = v := fun v w => by rw [up2_n _ _ _ (by decide), up2_hit]
        simp only [ckt, nm_v, bd_s, u1]
        have hx : (if I (13 + k) 10 = 0 then if prV p2 p3 = 0 then ck (isB 0) (some (Except.ok ((0 : Int32), up2 (up2 I (13 + k) 10 0) (13 + k) 8 0, D) : Except String (Int32 × MI × MD))) else ck (isB 1) (some (Except.ok (1, up2 (up2 I (13 + k) 10 1) (13 + k) 8 0, D))) else ck (isB 1) (some (Except.ok (1, up2 (up2 I (13 + k) 10 1) (13 + k) 8 0, D)))) = some (Except.ok (I (13 + k) 10 ||| prV p2 p3, up2 (up2 I (13 + k) 10 (I (13 + k) 10 ||| prV p2 p3)) (13 + k) 8 0, D)) := by
          rcases m3 with e | e <;> rcases prV_01 p2 p3 with e2 | e2 <;> rw [e, e2] <;> rfl
        rw [hx]
        exact agW_ok rfl hv (by rw [up2_k _ _ _ _ (by omega), up2_k _ _ _ _ (by omega)]; exact t0) R1.pp
      · unfold f_X4_heat f_X7_heat
        simp only [R0.I6, h1, bE_o, h3, h7, bE_e, nm_v, ixM R0.J2 (show isB 1 = true by decide) h2, bd_s, i10, h4, h8, i00, no_e]
        exact agW_er 1 rfl (up2_hit (up2 J 0 0 0) 0 0 _) (R0.ppt 2)
    · unfold f_X4_heat f_X7_heat
      simp only [R0.I6, h1, bE_o, h3, bE_e, nm_v, ixM R0.J2 (show isB 1 = true by decide) h2, bd_s, i10, h4, i00, no_e]
      exact agW_er 1 rfl (up2_hit (up2 J 0 0 0) 0 0 _) (R0.ppt 2)
  · unfold f_X4_heat f_X7_heat
    simp only [R0.I6, h1, bE_e, nm_v, ixM R0.J2 (show isB 0 = true by decide) h2, bd_s, i00, no_e]
    exact agW_er 0 rfl (up2_hit (up2 J 0 0 0) 0 0 _) (R0.ppt 1)
set_option maxRecDepth 20000 in
theorem a_sell (R : RR 0 a b c d h I D J E) (p1 p2 : Int32) : agW (fun _ => True) (PP a b h) I D [IOB, IAE, ISE] (f_X4_sell I D p1 p2) (f_X7_sell a b J E p1 p2) := by
  have R0 := R.thr 0
  have t0 : up2 J 0 0 0 0 0 = 0 := up2_hit J 0 0 0
  unfold f_X7_sell
  rw [nm_v]
  generalize up2 J 0 0 0 = J0 at R0 t0 ⊢
  unfold f_X4_sell
  have hc := R0.c12
  have hd := R0.d3
  rcases num p1 (b31 hc) with ⟨i, hi, rfl, h1, h2⟩ | ⟨h1, h2⟩
  · rcases rng p2 1 99 with ⟨h3, h4, h5, h6⟩ | ⟨h3, h4⟩
    · obtain ⟨q1, q2, q3, q4, q5, q6, q7, q8, q9⟩ := R0.bat.1 i hi
      obtain ⟨m, hm, em, -⟩ := R0.ofB hi
      have e4 : J0 (5 + 4) i = I (18 + i) 2 := q4
      have e5 : E (5 + 5) i = D (18 + i) 4 := q5
      have hcl := R0.calledC hm em
      have hcm := R0.calledM hi hm em
      have h01 := if_01 (α := Nat) (I (13 + m) 7 &&& I 0 12 = 0)
      generalize (if I (13 + m) 7 &&& I 0 12 = 0 then (0 : Int32) else 1) = cl at hcl hcm h01
      rw [R0.I7, h1, bE_o, h3, bE_o, ixB R0.J5 (by decide) h2, bd_s, if10, h4, bd_s, if10, inB_nI (show i < 12 by omega) (by decide), nI_clamp (by omega), coarseCl, coarseM a b J0 E 5 (show i < 12 by omega), hcl, hcm]
      simp only [ckt, bd_s, e4, e5]
      have hst : (f_X0_isStored I D i = some 0 ∧ f_X7_in (I (18 + i) 2) 0 2 = some 0) ∨ (f_X0_isStored I D i = some 1 ∧ f_X7_in (I (18 + i) 2) 0 2 = some 1) := by
        unfold f_X0_isStored f_X7_in
        by_cases c1 : I (18 + i) 2 < 0
        · rw [if_pos c1, if_pos c1]; exact Or.inl ⟨rfl, rfl⟩
        · rw [if_neg c1, if_neg c1]
          have z2 : (2 : Int32).toInt = 2 := by decide
          have z3 : (3 : Int32).toInt = 3 := by decide
          by_cases c2 : 2 < I (18 + i) 2
          · rw [if_pos c2, if_pos (by rw [leI]; rw [ltI] at c2; omega)]; exact Or.inl ⟨rfl, rfl⟩
          · rw [if_neg c2, if_neg (by rw [leI]; rw [ltI] at c2; omega)]; exact Or.inr ⟨rfl, rfl⟩
      rcases hst with ⟨s1, s2⟩ | ⟨s1, s2⟩
      · rw [s1, s2, bd_s, bd_s, if00, if00, no_e, bd_s]
        exact agW_er 2 rfl (up2_hit J0 0 0 _) (R0.ppt 3)
      · rw [s1, s2, bd_s, bd_s, if10, if10]
        rcases coV_01 (D (18 + i) 4) with e6 | e6
        · rw [e6, if00, if00]
          rcases h01 with e7 | e7
          · have u1 : up2 J0 (5 + 4) i 10 (5 + 2) i = I (18 + i) 1 := by rw [up2_k _ _ _ _ (by omega)]; exact q2
            have u2 : up2 J0 (5 + 4) i 10 0 6 = J0 0 6 := up2_k _ _ _ _ (by omega)
            have u3 : up2 I (18 + i) 2 10 0 10 = J0 0 6 := by rw [up2_k _ _ _ _ (by omega)]; exact R0.1.2.2.2.2.1.2.1
            have u4 : up2 I (18 + i) 2 10 (18 + i) 1 = I (18 + i) 1 := up2_n _ _ _ (by decide)
            rw [e7, if00, if00]
            simp only [ckt, nm_v, up2_hit, u1, u2, u3, u4]
            have R1 := R0.place hi (p := 10) (Or.inr (Or.inr (Or.inl rfl)))
            obtain ⟨⟨a1, a2, a3, a4⟩, ⟨b1, b2, b3, b4⟩, ⟨c1, c2, c3⟩, ⟨d1, d2, d3⟩, ⟨k1, k2, k3, k4⟩, r, f⟩ := R1.1
            refine agW_ok rfl trivial (by rw [up2_n _ _ _ (by decide), up2_k _ _ _ _ (by omega)]; exact t0) ⟨c, d, h, by omega, ⟨⟨?_, ?_, ?_, a4⟩, ⟨?_, ?_, ?_, b4⟩, ⟨?_, ?_, c3⟩, ⟨?_, ?_, d3⟩, ⟨?_, ?_, ?_, ?_⟩, fun n hn => ?_, fun n hn => ?_⟩, R1.ing.cong a4 (fun k n _ _ => by rw [up2_k _ _ _ _ (by omega)]) (fun k n _ _ => by rw [up2_k _ _ _ _ (by omega)]), R1.mix.cong b4 (fun k n _ _ => by rw [up2_k _ _ _ _ (by omega)]) (fun _ _ _ => rfl) (fun i _ => by rw [up2_k _ _ _ _ (by omega)]) (fun k n _ _ => by rw [up2_k _ _ _ _ (by omega)]), R1.bat.cong c3 (fun k n _ _ => by rw [up2_k _ _ _ _ (by omega)]) (fun _ _ _ => rfl) (fun k n _ _ => by rw [up2_k _ _ _ _ (by omega)]) (fun _ => rfl), R1.sto.cong d3 (fun k _ _ => by rw [up2_k _ _ _ _ (by omega)]) (fun _ _ _ => rfl) (fun n => by rw [up2_k _ _ _ _ (by omega)]) (fun _ => rfl), R1.h20⟩
            · rw [up2_n _ _ _ (by decide)]; exact a1
            · rw [up2_k _ _ _ _ (by decide)]; exact a2
            · rw [up2_k _ _ _ _ (by decide)]; exact a3
            · rw [up2_n _ _ _ (by decide)]; exact b1
            · rw [up2_k _ _ _ _ (by decide)]; exact b2
            · rw [up2_k _ _ _ _ (by decide)]; exact b3
            · rw [up2_n _ _ _ (by decide)]; exact c1
            · rw [up2_k _ _ _ _ (by decide)]; exact c2
            · rw [up2_n _ _ _ (by decide)]; exact d1
            · rw [up2_k _ _ _ _ (by decide)]; exact d2
            · rw [up2_n _ _ _ (by decide), up2_n _ _ _ (by decide)]; exact k1
            · rw [up2_hit, up2_hit]
            · rw [up2_n _ _ _ (by decide), up2_n _ _ _ (by decide)]; exact k3
            · rw [up2_n _ _ _ (by decide), up2_n _ _ _ (by decide)]; exact k4
            · exact (up2_k _ _ _ _ (by decide)).trans ((r n hn).trans (up2_k _ _ _ _ (by decide)).symm)
            · rw [up2_k _ _ _ _ (by decide)]; exact f n hn
          · rw [e7, if10, if10, no_e, bd_s]
            exact agW_er 2 rfl (up2_hit J0 0 0 _) (R0.ppt 3)
        · rw [e6, if10, if10, no_e, bd_s]
          exact agW_er 2 rfl (up2_hit J0 0 0 _) (R0.ppt 3)
    · rw [R0.I7, h1, bE_o, h3, bE_e, ixB R0.J5 (by decide) h2, bd_s, if10, h4, bd_s, if00, no_e, bd_s]
      exact agW_er 1 rfl (up2_hit J0 0 0 _) (R0.ppt 2)
  · rw [R0.I7, h1, bE_e, ixB R0.J5 (by decide) h2, bd_s, if00, no_e, bd_s]
    exact agW_er 0 rfl (up2_hit J0 0 0 _) (R0.ppt 1)
end WRB
