section WRE
variable {a b c d h : Nat} {I J : MI} {D E : MD}
set_option maxRecDepth 20000 in
theorem pJ_k {k i : Nat} {w : Int32} {j n : Nat} (h1 : j ≠ 25 + k) (h2 : j ≠ 20 + k) : pJ J k i w j n = J j n := by
  unfold pJ
  rw [up2_k _ _ _ _ h2, up2_k _ _ _ _ h2, up2_k _ _ _ _ h1]
set_option maxRecDepth 20000 in
theorem aD_k {k i : Nat} {w : Int32} {j n : Nat} (h1 : j ≠ 13 + k) : aD I D k i w j n = D j n := by
  unfold aD
  rw [up2_k _ _ _ _ h1]
set_option maxRecDepth 20000 in
theorem put_J (a b : Nat) (J : MI) (E : MD) {k i : Nat} (hi : i < 6) (w : Int32) : f_X6_put a b J E k (nI i) w = some (sF (pJ J k i w (25 + k)) 0 6, pJ J k i w, E) := by
  have e : up2 J (25 + k) i (J (25 + k) i + w) (20 + k) 1 = J (20 + k) 1 := up2_k _ _ _ _ (by omega)
  unfold f_X6_put
  rw [inB_nI hi (by decide), nI_clamp (by omega)]
  simp only [ckt, nm_v, e, all_ok, bd_s]
  rfl
set_option maxRecDepth 20000 in
theorem put_x (a b : Nat) (J : MI) (E : MD) {k i : Nat} (hi : i < 6) (w : Int32) : f_X6_putx a b J E k (nI i) w = some (sF (pJ J k i w (25 + k)) 0 6, pJ J k i w, E) := by
  have e : up2 J (25 + k) i (J (25 + k) i + w) (20 + k) 1 = J (20 + k) 1 := up2_k _ _ _ _ (by omega)
  unfold f_X6_putx
  rw [inB_nI hi (by decide), nI_clamp (by omega)]
  simp only [ckt, nm_v, e, allx_ok, bd_s]
  rfl
/- a mix has w kilograms of i more -/
set_option maxRecDepth 20000 in
theorem RR.more (R : RR 0 a b c d h I D J E) {k i : Nat} (hk : k < b) (hi : i < a) {w : Int32} (h1 : RM1 0 a c k (aI I k i w) (aD I D k i w) (pJ J k i w)) : RR 0 a b c d h (aI I k i w) (aD I D k i w) (pJ J k i w) E := by
  have ha := R.a6
  have hb := R.b5
  have hc := R.c12
  refine ⟨R.1.cong (fun j n _ => aI_k (by omega)) (fun j n _ => pJ_k (by omega) (by omega)), R.ing.cong ha (fun j n _ _ => aI_k (by omega)) (fun j n _ _ => pJ_k (by omega) (by omega)), ⟨fun j hj => ?_, fun j g1 g2 n hn => ?_⟩, R.bat.cong hc (fun j n _ _ => aI_k (by omega)) (fun j _ _ => aD_k (by omega)) (fun j n _ _ => pJ_k (by omega) (by omega)) (fun _ => rfl), R.sto.cong R.d3 (fun j _ _ => aI_k (by omega)) (fun j _ _ => aD_k (by omega)) (fun n => pJ_k (by omega) (by omega)) (fun _ => rfl), R.h20⟩
  · by_cases e : j = k
    · subst e; exact h1
    · exact (R.mix.1 j hj).cong (fun n _ => aI_k (by omega)) (aD_k (by omega)) (cB_cong c (fun n hn => aI_k (by omega))) (fun q n _ _ => pJ_k (by omega) (by omega)) (fun n _ _ => pJ_k (by omega) (by omega)) (fun n => pJ_k (by omega) (by omega))
  · rw [aI_k (by omega)]
    exact R.mix.2 j g1 g2 n hn
set_option maxRecDepth 20000 in
theorem a_put (R : RR 0 a b c d h I D J E) (p1 p2 p3 : Int32) : agW (fun _ => True) (PP a b h) I D [IOB, IAE, ISE] (f_X4_put I D p1 p2 p3) (f_X7_put a b J E p1 p2 p3) := by
  have R0 := R.thr 0
  have t0 : up2 J 0 0 0 0 0 = 0 := up2_hit J 0 0 0
  unfold f_X7_put
  rw [nm_v]
  generalize up2 J 0 0 0 = J0 at R0 t0 ⊢
  unfold f_X4_put
  have hb := R0.b5
  have ha := R0.a6
  have hc := R0.c12
  rcases num p1 (b31 hb) with ⟨k, hk, rfl, h1, h2⟩ | ⟨h1, h2⟩
  · rcases num p2 (b31 ha) with ⟨i, hi, rfl, h3, h4⟩ | ⟨h3, h4⟩
    · rcases rng p3 1 500 with ⟨h5, h6, h7, h8⟩ | ⟨h5, h6⟩
      · have z1 : (1 : Int32).toInt = 1 := by decide
        have z5 : (500 : Int32).toInt = 500 := by decide
        rw [z1] at h7
        rw [z5] at h8
        have q := R0.mix.1 k hk
        have kk := q.2.2.1
        rw [R0.I6, h1, bE_o, R0.I5, h3, bE_o, h5, bE_o, ixM R0.J2 (by decide) h2, bd_s, if10, ixI R0.J1 (by decide) h4, bd_s, if10, h6, bd_s, if10, get2_ok R0.gt E hk, bd_s, R0.all hk, bd_s, R0.batOf hk, inB_nI (show k < 5 by omega) (by decide), nI_clamp (show k < 2 ^ 31 by omega), ckt]
        by_cases c1 : 500 < I (13 + k) 0 + p3
        · rw [if_pos c1, if_pos c1, no_e, bd_s]
          exact agW_er 2 rfl (up2_hit J0 0 0 _) (R0.ppt 3)
        · rw [if_neg c1, if_neg c1, bd_s]
          by_cases c2 : I (13 + k) 9 ≤ 0
          · have eK : (I (13 + k) 0 + p3).toInt = (I (13 + k) 0).toInt + p3.toInt := ia (by omega) (by omega)
            rw [ltI, eK, z5] at c1
            obtain ⟨r1, r2, r3⟩ := RM_put (D := D) q.rm0 R0.ing ha (show k < 5 by omega) hc hi h7 h8 (by omega)
            have R1 := R0.more hk hi r1
            rw [if_pos c2, if_pos c2, bd_s, put_J a b J0 E (show i < 6 by omega), bd_s, inB_nI (show i < 6 by omega) (by decide), nI_clamp (show i < 2 ^ 31 by omega), ckt, r2, bd_s, r3]
            exact agW_ok aI_0 trivial (by rw [pJ_k (by omega) (by omega)]; exact t0) R1.pp
          · rw [if_neg c2, if_neg c2, no_e, bd_s]
            exact agW_er 2 rfl (up2_hit J0 0 0 _) (R0.ppt 3)
      · rw [R0.I6, h1, bE_o, R0.I5, h3, bE_o, h5, bE_e, ixM R0.J2 (by decide) h2, bd_s, if10, ixI R0.J1 (by decide) h4, bd_s, if10, h6, bd_s, if00, no_e, bd_s]
        exact agW_er 1 rfl (up2_hit J0 0 0 _) (R0.ppt 2)
    · rw [R0.I6, h1, bE_o, R0.I5, h3, bE_e, ixM R0.J2 (by decide) h2, bd_s, if10, ixI R0.J1 (by decide) h4, bd_s, if00, no_e, bd_s]
      exact agW_er 0 rfl (up2_hit J0 0 0 _) (R0.ppt 1)
  · rw [R0.I6, h1, bE_e, ixM R0.J2 (by decide) h2, bd_s, if00, no_e, bd_s]
    exact agW_er 0 rfl (up2_hit J0 0 0 _) (R0.ppt 1)
/- a call that may make a row: the reference answers how many rows there are then -/
def agN {α : Type} (P : Nat → MI → MD → MI → MD → Prop) (I : MI) (D : MD) (cs : List String) (x : Option (Except String (α × MI × MD))) (y : Option (α × Nat × MI × MD)) : Prop :=
  ∃ v n9 J' E', y = some (v, n9, J', E') ∧ ((J' 0 0 = 0 ∧ ∃ I' D', x = some (.ok (v, I', D')) ∧ P n9 I' D' J' E') ∨ ∃ n e, cs[n]? = some e ∧ J' 0 0 = nI (n + 1) ∧ x = some (.error e) ∧ P n9 I D J' E')
set_option maxRecDepth 20000 in
theorem agN_ok {α : Type} {P : Nat → MI → MD → MI → MD → Prop} {I : MI} {D : MD} {cs : List String} {v w : α} {n9 : Nat} {I' J' : MI} {D' E' : MD} (hv : v = w) (h0 : J' 0 0 = 0) (hp : P n9 I' D' J' E') : agN P I D cs (some (.ok (v, I', D'))) (some (w, n9, J', E')) := ⟨w, n9, J', E', rfl, Or.inl ⟨h0, I', D', by rw [hv], hp⟩⟩
set_option maxRecDepth 20000 in
theorem agN_er {α : Type} {P : Nat → MI → MD → MI → MD → Prop} {I : MI} {D : MD} {cs : List String} {w : α} {n9 : Nat} {J' : MI} {E' : MD} (n : Nat) {e : String} (hc : cs[n]? = some e) (h0 : J' 0 0 = nI (n + 1)) (hp : P n9 I D J' E') : agN P I D cs (some (.error e)) (some (w, n9, J', E')) := ⟨w, n9, J', E', rfl, Or.inr ⟨n, e, hc, h0, rfl, hp⟩⟩
set_option maxRecDepth 20000 in
theorem upR_hit {α : Type} (I : Nat → Nat → α) (k : Nat) (f : Nat → α) : upR I k f k = f := va_up_self _ _ _
set_option maxRecDepth 20000 in
theorem upR_k {α : Type} (I : Nat → Nat → α) {k j : Nat} (f : Nat → α) (h : j ≠ k) : upR I k f j = I j := va_up_ne _ _ h
set_option maxRecDepth 20000 in
theorem cB_0 (I : MI) (k : Nat) (hk : k < 2 ^ 31) : ∀ c, (∀ i, i < c → ∃ m, m < k ∧ I (18 + i) 0 = nI m) → cB I k c = 0
  | 0, _ => rfl
  | n + 1, h => by
    show cB I k n + _ = 0
    obtain ⟨m, hm, e⟩ := h n (by omega)
    rw [cB_0 I k hk n (fun i hi => h i (by omega)), e, if_neg (fun q => by have := (nI_eq (show m < 2 ^ 31 by omega) hk).mp q; omega)]
/- the memory behind a new empty mix -/
abbrev nM (J : MI) (b : Nat) : MI := upR (upR J (20 + b) (fun _ => 0)) (25 + b) (fun _ => 0)
set_option maxRecDepth 20000 in
theorem nM_k {J : MI} {b j : Nat} (h1 : j ≠ 20 + b) (h2 : j ≠ 25 + b) (n : Nat) : nM J b j n = J j n := by
  show upR (upR J (20 + b) (fun _ => 0)) (25 + b) (fun _ => 0) j n = _
  rw [upR_k _ _ h2, upR_k _ _ h1]
set_option maxRecDepth 20000 in
theorem nM_20 {J : MI} {b : Nat} (n : Nat) : nM J b (20 + b) n = 0 := by
  show upR (upR J (20 + b) (fun _ => 0)) (25 + b) (fun _ => 0) (20 + b) n = _
  rw [upR_k _ _ (by omega), upR_hit]
set_option maxRecDepth 20000 in
theorem nM_25 {J : MI} {b : Nat} (n : Nat) : nM J b (25 + b) n = 0 := by
  show upR (upR J (20 + b) (fun _ => 0)) (25 + b) (fun _ => 0) (25 + b) n = _
  rw [upR_hit]
set_option maxRecDepth 20000 in
theorem rm0_new (R : RR 0 a b c d h I D J E) (hb : b < 5) : RM0 0 a c b I (nM J b) := by
  have z := R.mix.2 b (Nat.le_refl _) hb
  have z0 : (0 : Int32).toInt = 0 := by decide
  refine ⟨⟨?_, ?_⟩, ?_, ?_, ?_, ?_, ?_, ?_, ?_, ?_⟩
  · rw [nM_20, z 1 (by decide)]
  · rw [nM_20, z 8 (by decide)]; rfl
  · intro i hi
    rw [nM_25, z 0 (by decide), z0]
    exact ⟨Int.le_refl _, Int.le_refl _, fun _ => rfl⟩
  · rw [z 0 (by decide), z0]
    omega
  · rw [z 0 (by decide), sF_0 6 0 (fun j _ _ => nM_25 j)]
  · intro w hw
    rw [z (2 + w) (by omega), sF_0 6 0 (fun j _ _ => by rw [nM_25 j, Int32.zero_mul])]
  · intro w hw
    rw [z (2 + w) (by omega), z 0 (by decide), z0]
    omega
  · rw [z 6 (by decide), oF_0 6 0 (fun j _ _ => by rw [nM_25 j, if_pos (by decide)])]
  · rw [z 7 (by decide), oF_0 6 0 (fun j _ _ => by rw [nM_25 j, if_pos (by decide)])]
  · rw [z 9 (by decide), cB_0 I b (by omega) c (fun i hi => by
      obtain ⟨m, hm, e, -⟩ := R.ofB hi
      exact ⟨m, hm, e⟩)]
    rfl
set_option maxRecDepth 20000 in
theorem addI_k {J : MI} {l j : Nat} (h1 : j ≠ l) (n : Nat) : addI J l j n = J j n := by
  unfold addI
  rw [upR_k _ _ h1]
set_option maxRecDepth 20000 in
theorem addI_1 {J : MI} {l : Nat} : addI J l l 1 = 1 := by
  unfold addI
  rw [upR_hit, if_neg (by decide), if_pos rfl]
set_option maxRecDepth 20000 in
theorem addI_2 {J : MI} {l : Nat} : addI J l l 2 = J l 2 + 1 := by
  unfold addI
  rw [upR_hit, if_neg (by decide), if_neg (by decide)]
set_option maxRecDepth 20000 in
theorem a_mix (R : RR 0 a b c d h I D J E) (p1 p2 : Int32) : agN (fun n9 => PP a n9 h) I D [IOB, IAE, ISE] (f_X4_mix I D p1 p2) (f_X7_mix a b J E p1 p2) := by
  have R0 := R.thr 0
  have t0 : up2 J 0 0 0 0 0 = 0 := up2_hit J 0 0 0
  unfold f_X7_mix
  rw [nm_v]
  generalize up2 J 0 0 0 = J0 at R0 t0 ⊢
  unfold f_X4_mix
  have hb := R0.b5
  have ha := R0.a6
  have hc := R0.c12
  have e5 : nI 5 = 5 := rfl
  rcases num p1 (b31 ha) with ⟨i, hi, rfl, h1, h2⟩ | ⟨h1, h2⟩
  · rcases rng p2 1 500 with ⟨h5, h6, h7, h8⟩ | ⟨h5, h6⟩
    · rw [R0.I5, h1, bE_o, h5, bE_o, R0.I6, ixI R0.J1 (by decide) h2, bd_s, if10, h6, bd_s, if10, show f_size2 a b J0 E = some (nI b) by unfold f_size2; rw [R0.J2], bd_s]
      rcases room hb (show 5 < 2 ^ 31 by decide) with ⟨hl, g1, g2⟩ | ⟨g1, g2⟩
      · have z1 : (1 : Int32).toInt = 1 := by decide
        have z5 : (500 : Int32).toInt = 500 := by decide
        rw [z1] at h7
        rw [z5] at h8
        rw [e5] at g1 g2
        have q0 := rm0_new R0 hl
        have zK : (I (13 + b) 0).toInt = 0 := by rw [R0.mix.2 b (Nat.le_refl _) hl 0 (by decide)]; decide
        have G' : RIng a I (nM J0 b) := R0.ing.cong ha (fun _ _ _ _ => rfl) (fun j n _ _ => nM_k (by omega) (by omega) n)
        obtain ⟨r1, r2, r3⟩ := RM_put (D := D) q0 G' ha hl hc hi h7 h8 (by omega)
        rw [g1, bE_o, if_neg g2, decide_eq_true hl, ckt, nm_v, inB_nI hl (by decide), nI_clamp (show b < 2 ^ 31 by omega), ckt, inB_nI (show i < 6 by omega) (by decide), nI_clamp (show i < 2 ^ 31 by omega), ckt, r2, bd_s]
        dsimp only
        rw [nm_v, show aI I b i p2 0 6 = nI b by rw [aI_k (by omega)]; exact R0.I6, nI_1, up2_hit, nI_pred]
        unfold f_X7_mix_mid
        rw [put_x a b _ E (show i < 6 by omega), bd_s]
        dsimp only
        have u1 : pJ (nM J0 b) b i p2 2 1 = J0 2 1 := by rw [pJ_k (by omega) (by omega), nM_k (by omega) (by omega)]
        have u2 : pJ (nM J0 b) b i p2 2 2 = nI b := by rw [pJ_k (by omega) (by omega), nM_k (by omega) (by omega)]; exact R0.J2
        rw [u1, u2]
        /- the relation behind it -/
        have xJ : ∀ j n, j ≠ 2 → j ≠ 20 + b → j ≠ 25 + b → addI (pJ (nM J0 b) b i p2) 2 j n = J0 j n := fun j n y1 y2 y3 => by
          rw [addI_k y1, pJ_k y3 y2, nM_k y2 y3]
        have xI : ∀ j n, j ≠ 0 → j ≠ 13 + b → up2 (aI I b i p2) 0 6 (nI (b + 1)) j n = I j n := fun j n y1 y2 => by
          rw [up2_k _ _ _ _ y1, aI_k y2]
        have xI0 : ∀ n, n ≠ 6 → up2 (aI I b i p2) 0 6 (nI (b + 1)) 0 n = I 0 n := fun n y => by
          rw [up2_n _ _ _ y, aI_k (by omega)]
        have R1 : RR 0 a (b + 1) c d h (up2 (aI I b i p2) 0 6 (nI (b + 1))) (aD I D b i p2) (addI (pJ (nM J0 b) b i p2) 2) E := by
          obtain ⟨⟨a1, a2, a3, a4⟩, ⟨b1, b2, b3, b4⟩, ⟨c1, c2, c3⟩, ⟨d1, d2, d3⟩, ⟨k1, k2, k3, k4⟩, r, f⟩ := R0.1
          refine ⟨⟨⟨?_, ?_, ?_, a4⟩, ⟨?_, ?_, ?_, hl⟩, ⟨?_, ?_, c3⟩, ⟨?_, ?_, d3⟩, ⟨?_, ?_, ?_, ?_⟩, fun n hn => ?_, fun n hn => ?_⟩, R0.ing.cong a4 (fun j n _ _ => xI j n (by omega) (by omega)) (fun j n _ _ => xJ j n (by omega) (by omega) (by omega)), ⟨fun j hj => ?_, fun j y1 y2 n hn => ?_⟩, ⟨fun j hj => ?_, fun j y1 y2 => ?_⟩, R0.sto.cong d3 (fun j _ _ => xI j 0 (by omega) (by omega)) (fun j _ _ => aD_k (by omega)) (fun n => xJ 11 n (by omega) (by omega) (by omega)) (fun _ => rfl), R0.h20⟩
          · rw [xI0 _ (by decide)]; exact a1
          · rw [xJ _ _ (by omega) (by omega) (by omega)]; exact a2
          · rw [xJ _ _ (by omega) (by omega) (by omega)]; exact a3
          · rw [up2_hit]
          · rw [addI_2, u2, nI_1]
          · rw [addI_1]
            exact ⟨fun q => absurd q (by decide), fun q => absurd q (by omega)⟩
          · rw [xI0 _ (by decide)]; exact c1
          · rw [xJ _ _ (by omega) (by omega) (by omega)]; exact c2
          · rw [xI0 _ (by decide)]; exact d1
          · rw [xJ _ _ (by omega) (by omega) (by omega)]; exact d2
          · rw [xI0 _ (by decide), xJ _ _ (by omega) (by omega) (by omega)]; exact k1
          · rw [xI0 _ (by decide), xJ _ _ (by omega) (by omega) (by omega)]; exact k2
          · rw [xI0 _ (by decide), xJ _ _ (by omega) (by omega) (by omega)]; exact k3
          · rw [xI0 _ (by decide), xJ _ _ (by omega) (by omega) (by omega)]; exact k4
          · rw [xI _ _ (by omega) (by omega), xJ _ _ (by omega) (by omega) (by omega)]; exact r n hn
          · rw [xI _ _ (by omega) (by omega)]; exact f n hn
          · by_cases e : j = b
            · subst e
              exact r1.cong (fun n _ => up2_k _ _ _ _ (by omega)) rfl (cB_cong c (fun n hn => up2_k _ _ _ _ (by omega))) (fun q n _ _ => addI_k (by omega) n) (fun n _ _ => addI_k (by omega) n) (fun n => addI_k (by omega) n)
            · exact (R0.mix.1 j (by omega)).cong (fun n _ => xI _ _ (by omega) (by omega)) (aD_k (by omega)) (cB_cong c (fun n hn => xI _ _ (by omega) (by omega))) (fun q n _ _ => xJ _ _ (by omega) (by omega) (by omega)) (fun n _ _ => xJ _ _ (by omega) (by omega) (by omega)) (fun n => xJ _ _ (by omega) (by omega) (by omega))
          · rw [xI _ _ (by omega) (by omega)]
            exact R0.mix.2 j (by omega) y2 n hn
          · obtain ⟨q1, q2, q3, q4, q5, ⟨m, hm, q6⟩, q7, q8, q9⟩ := (R0.bat.1 j hj).cong (I' := up2 (aI I b i p2) 0 6 (nI (b + 1))) (D' := aD I D b i p2) (J' := addI (pJ (nM J0 b) b i p2) 2) (E' := E) (fun n _ => xI _ _ (by omega) (by omega)) (aD_k (by omega)) (fun q _ _ => xJ _ _ (by omega) (by omega) (by omega)) rfl
            exact ⟨q1, q2, q3, q4, q5, ⟨m, by omega, q6⟩, q7, q8, q9⟩
          · rw [xI _ _ (by omega) (by omega), xI _ _ (by omega) (by omega), xJ _ _ (by omega) (by omega) (by omega)]
            exact R0.bat.2 j y1 y2
        have t1 : addI (pJ (nM J0 b) b i p2) 2 0 0 = 0 := by rw [xJ _ _ (by omega) (by omega) (by omega)]; exact t0
        by_cases e0 : J0 2 1 = 0
        · have eb : b = 0 := R0.1.2.1.2.2.1.mp e0
          subst eb
          rw [if_pos e0, decide_eq_true (show nI 0 = 0 by decide), ckt, decide_eq_true rfl, ckt, nm_v]
          unfold f_X7_mix_tail f_size2
          rw [addI_2, u2, bd_s]
          exact agN_ok (by decide) t1 R1.pp
        · have eb : 0 < b := by
            rcases Nat.eq_zero_or_pos b with q | q
            · exact absurd (R0.1.2.1.2.2.1.mpr q) e0
            · exact q
          rw [if_neg e0, inB_nI (show b < 10 by omega) (by decide), ckt, decide_eq_true (show ¬ nI b = 10 from fun q => by have := (nI_eq (b := 10) (show b < 2 ^ 31 by omega) (by decide)).mp q; omega), ckt, nI_clamp (show b < 2 ^ 31 by omega), decide_eq_true rfl, ckt, decide_eq_true eb, ckt, decide_eq_true hl, ckt, nm_v]
          unfold f_X7_mix_tail f_size2
          rw [addI_2, u2, bd_s, nI_1, nI_pred]
          exact agN_ok rfl t1 R1.pp
      · rw [e5] at g1 g2
        rw [g1, bE_e, if_pos g2, no_e, bd_s]
        exact agN_er 2 rfl (up2_hit J0 0 0 _) (R0.ppt 3)
    · rw [R0.I5, h1, bE_o, h5, bE_e, ixI R0.J1 (by decide) h2, bd_s, if10, h6, bd_s, if00, no_e, bd_s]
      exact agN_er 1 rfl (up2_hit J0 0 0 _) (R0.ppt 2)
  · rw [R0.I5, h1, bE_e, ixI R0.J1 (by decide) h2, bd_s, if00, no_e, bd_s]
    exact agN_er 0 rfl (up2_hit J0 0 0 _) (R0.ppt 1)
end WRE
