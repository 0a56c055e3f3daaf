/-! ===== an hour of the class ===== -/
section HRC
variable {b c d : Nat}
/- the class's freezing points -/
def FZ (b : Nat) (D : MD) (fz : Nat → UInt64) : Prop := b ≤ 5 ∧ ∀ m, m < b → D (13 + m) 11 = fz m ∧ rg (-300) 0 (fz m)
set_option maxRecDepth 20000 in
theorem FZ.cong {D D' : MD} {fz : Nat → UInt64} (h : FZ b D fz) (h1 : ∀ j, 13 ≤ j → j < 18 → D' j 11 = D j 11) : FZ b D' fz := by
  obtain ⟨hb, h⟩ := h
  refine ⟨hb, fun m hm => ?_⟩
  rw [h1 _ (by omega) (by omega)]
  exact h m hm
set_option maxRecDepth 20000 in
theorem ch_in (fz : Nat → UInt64) {s : Nat} (hs : s < 3) (hc : c ≤ 12) {t0 t1 : UInt64} (ht0 : FP.Core.DFin t0) (ht1 : FP.Core.DFin t1) {hi : Int} (hhi : 640 ≤ hi ∧ hi < 2 ^ 40) (D0 : MD) (hD : D0 (30 + s) 1 = t0) :
    ∀ (m i n : Nat) (I : MI) (D : MD), i + m = c → m < n → FZ b D fz → I 0 7 = nI c → (∀ j, i ≤ j → j < c → I (18 + j) 2 = nI s → ∃ mx, mx < b ∧ I (18 + j) 0 = nI mx ∧ rg 640 hi (D (18 + j) 4)) →
    ∃ I' D', f_X4_passHourIn_L36 D0 (nI s) t1 n (nI i) I D = some (I', D') ∧ (∀ k j, ¬ (j = 2 ∧ 18 + i ≤ k ∧ k < 18 + c) → I' k j = I k j) ∧ (∀ k j, ¬ (j = 4 ∧ 18 + i ≤ k ∧ k < 18 + c) → D' k j = D k j) ∧
      ∀ j, i ≤ j → j < c → (∀ mx, I (18 + j) 2 = nI s → I (18 + j) 0 = nI mx → mx < b → I' (18 + j) 2 = meP s (fz mx) t0 ∧ D' (18 + j) 4 = FP.dadd (D (18 + j) 4) (fA (fz mx) t0 t1)) ∧ (I (18 + j) 2 ≠ nI s → I' (18 + j) 2 = I (18 + j) 2 ∧ D' (18 + j) 4 = D (18 + j) 4) := by
  intro m
  induction m with
  | zero =>
    intro i n I D h1 h2 F hI hB
    obtain ⟨n, rfl⟩ : ∃ n', n = n' + 1 := ⟨n - 1, by omega⟩
    obtain rfl : i = c := by omega
    refine ⟨I, D, ?_, fun _ _ _ => rfl, fun _ _ _ => rfl, fun j g1 g2 => absurd g1 (by omega)⟩
    rw [f_X4_passHourIn_L36, hI, if_pos (nI_le (Nat.le_refl _) (by omega))]
  | succ m ih =>
    intro i n I D h1 h2 F hI hB
    obtain ⟨n, rfl⟩ : ∃ n', n = n' + 1 := ⟨n - 1, by omega⟩
    have hic : i < c := by omega
    have go : ∀ (I1 : MI) (D1 : MD), (∀ k j, ¬ (j = 2 ∧ k = 18 + i) → I1 k j = I k j) → (∀ k j, ¬ (j = 4 ∧ k = 18 + i) → D1 k j = D k j) → f_X4_passHourIn_L36 D0 (nI s) t1 (n + 1) (nI i) I D = f_X4_passHourIn_L36 D0 (nI s) t1 n (nI (i + 1)) I1 D1 → ((∀ mx, I (18 + i) 2 = nI s → I (18 + i) 0 = nI mx → mx < b → I1 (18 + i) 2 = meP s (fz mx) t0 ∧ D1 (18 + i) 4 = FP.dadd (D (18 + i) 4) (fA (fz mx) t0 t1)) ∧ (I (18 + i) 2 ≠ nI s → I1 (18 + i) 2 = I (18 + i) 2 ∧ D1 (18 + i) 4 = D (18 + i) 4)) →
        ∃ I' D', f_X4_passHourIn_L36 D0 (nI s) t1 (n + 1) (nI i) I D = some (I', D') ∧ (∀ k j, ¬ (j = 2 ∧ 18 + i ≤ k ∧ k < 18 + c) → I' k j = I k j) ∧ (∀ k j, ¬ (j = 4 ∧ 18 + i ≤ k ∧ k < 18 + c) → D' k j = D k j) ∧ ∀ j, i ≤ j → j < c → (∀ mx, I (18 + j) 2 = nI s → I (18 + j) 0 = nI mx → mx < b → I' (18 + j) 2 = meP s (fz mx) t0 ∧ D' (18 + j) 4 = FP.dadd (D (18 + j) 4) (fA (fz mx) t0 t1)) ∧ (I (18 + j) 2 ≠ nI s → I' (18 + j) 2 = I (18 + j) 2 ∧ D' (18 + j) 4 = D (18 + j) 4) := by
      intro I1 D1 g1 g2 g3 g4
      obtain ⟨I', D', r1, r2, r3, r4⟩ := ih (i + 1) n I1 D1 (by omega) (by omega) (F.cong (fun j _ _ => g2 j 11 (by omega))) (by rw [g1 _ _ (by omega)]; exact hI) (fun j y1 y2 y3 => by
        rw [g1 _ _ (by omega)] at y3
        rw [g1 _ _ (by omega), g2 _ _ (by omega)]
        exact hB j (by omega) y2 y3)
      refine ⟨I', D', g3.trans r1, fun k j q => ?_, fun k j q => ?_, fun j y1 y2 => ?_⟩
      · rw [r2 k j (by omega), g1 k j (by omega)]
      · rw [r3 k j (by omega), g2 k j (by omega)]
      · by_cases e : j = i
        · subst e
          rw [r2 _ _ (by omega), r3 _ _ (by omega)]
          exact g4
        · have z := r4 j (by omega) y2
          rw [g1 _ _ (by omega), g1 _ _ (by omega), g2 _ _ (by omega)] at z
          exact z
    have st : f_X4_passHourIn_L36 D0 (nI s) t1 (n + 1) (nI i) I D = (if I (18 + i) 2 = nI s then ck (inB (I (18 + i) 0) 5) (bd (f_X2_coarsening I D ((I (18 + i) 0).toNatClampNeg) t0 t1) (fun r_11 => ck (okD (FP.dadd (D (18 + i) 4) r_11)) (bd (f_X2_meltsAt I (up2 D (18 + i) 4 (FP.dadd (D (18 + i) 4) r_11)) ((I (18 + i) 0).toNatClampNeg) t0) (fun r_15 => (if r_15 = 0 then f_X4_passHourIn_L36 D0 (nI s) t1 n (nI (i + 1)) I (up2 D (18 + i) 4 (FP.dadd (D (18 + i) 4) r_11)) else f_X4_passHourIn_L36 D0 (nI s) t1 n (nI (i + 1)) (up2 I (18 + i) 2 11) (up2 D (18 + i) 4 (FP.dadd (D (18 + i) 4) r_11))))))) else f_X4_passHourIn_L36 D0 (nI s) t1 n (nI (i + 1)) I D) := by
      rw [f_X4_passHourIn_L36, hI, if_neg (nI_ge (by omega) (by omega)), inB_nI (show i < 12 by omega) (by decide), nI_clamp (show i < 2 ^ 31 by omega), nI_clamp (show s < 2 ^ 31 by omega), hD, nI_1]
      simp only [ckt, nm_v]
    by_cases hq : I (18 + i) 2 = nI s
    · obtain ⟨mx, hmx, emx, hcr⟩ := hB i (Nat.le_refl _) hic hq
      obtain ⟨hb5, hF⟩ := id F
      obtain ⟨ef, hf⟩ := hF mx hmx
      have hA := fA_rg hf ht0 ht1
      have hS := rg_add hcr hA (by decide) (by omega)
      have hCA : FP.dadd (D (18 + i) 4) (fC (fz mx) t0 t1) = FP.dadd (D (18 + i) 4) (fA (fz mx) t0 t1) := fC_add hf ht0 ht1 hcr
      have hco : f_X2_coarsening I D mx t0 t1 = some (fC (fz mx) t0 t1) := by
        rw [coarseC (by rw [ef]; exact hf) ht0 ht1, ef]
      have hme : ∀ v, f_X2_meltsAt I (up2 D (18 + i) 4 v) mx t0 = some (if zv t0 < zv (fz mx) then 0 else 1) := by
        intro v
        have e2 : up2 D (18 + i) 4 v (13 + mx) 11 = fz mx := by rw [up2_k _ _ _ _ (by omega)]; exact ef
        rw [meltC (by rw [e2]; exact hf.1) ht0, e2]
      rw [if_pos hq, emx, inB_nI (show mx < 5 by omega) (by decide), nI_clamp (show mx < 2 ^ 31 by omega), ckt, hco, bd_s, hCA, hS.okD, ckt, hme, bd_s] at st
      have hval : ∀ mx', I (18 + i) 0 = nI mx' → mx' < b → mx' = mx := fun mx' e1 e2 => by
        rw [emx] at e1
        exact ((nI_eq (by omega) (by omega)).mp e1).symm
      by_cases hm : zv t0 < zv (fz mx)
      · rw [if_pos hm, if00] at st
        refine go _ _ (fun _ _ _ => rfl) (fun k j q => by rw [up2_ap, if_neg (by omega)]) st ⟨fun mx' e0 e1 e2 => ?_, fun q => absurd hq q⟩
        rw [hval mx' e1 e2]
        refine ⟨?_, up2_hit _ _ _ _⟩
        unfold meP
        rw [if_pos hm]
        exact hq
      · rw [if_neg hm, if10] at st
        refine go _ _ (fun k j q => by rw [up2_ap, if_neg (by omega)]) (fun k j q => by rw [up2_ap, if_neg (by omega)]) st ⟨fun mx' e0 e1 e2 => ?_, fun q => absurd hq q⟩
        rw [hval mx' e1 e2]
        refine ⟨?_, up2_hit _ _ _ _⟩
        unfold meP
        rw [if_neg hm, up2_hit]
    · rw [if_neg hq] at st
      exact go _ _ (fun _ _ _ => rfl) (fun _ _ _ => rfl) st ⟨fun mx q => absurd q hq, fun _ => ⟨rfl, rfl⟩⟩
set_option maxRecDepth 20000 in
theorem ch_out (fz : Nat → UInt64) (hc : c ≤ 12) (hd : d ≤ 3) {hi : Int} (hhi : 640 ≤ hi ∧ hi < 2 ^ 40) :
    ∀ (m s n : Nat) (I : MI) (D : MD), s + m = d → m < n → FZ b D fz → I 0 7 = nI c → I 0 8 = nI d → (∀ t, s ≤ t → t < d → -30 ≤ (I (30 + t) 0).toInt ∧ (I (30 + t) 0).toInt ≤ -10 ∧ rg (-1040) 256 (D (30 + t) 1)) → (∀ j, j < c → ∃ mx, mx < b ∧ I (18 + j) 0 = nI mx ∧ ∀ t, s ≤ t → t < d → I (18 + j) 2 = nI t → rg 640 hi (D (18 + j) 4)) →
    ∃ I' D', f_X4_passHour_L85 n (nI s) I D = some (up2 I' 0 9 (I 0 9 + 1), D') ∧ (∀ k j, ¬ (j = 2 ∧ 18 ≤ k ∧ k < 18 + c) → I' k j = I k j) ∧ (∀ k j, ¬ (j = 4 ∧ 18 ≤ k ∧ k < 18 + c) → ¬ (j = 1 ∧ 30 + s ≤ k ∧ k < 30 + d) → D' k j = D k j) ∧
      (∀ t, s ≤ t → t < d → D' (30 + t) 1 = fH (I (30 + t) 0) (D (30 + t) 1)) ∧
      ∀ j, j < c → (∀ mx t, s ≤ t → t < d → I (18 + j) 2 = nI t → I (18 + j) 0 = nI mx → mx < b → I' (18 + j) 2 = meP t (fz mx) (D (30 + t) 1) ∧ D' (18 + j) 4 = FP.dadd (D (18 + j) 4) (fA (fz mx) (D (30 + t) 1) (fH (I (30 + t) 0) (D (30 + t) 1)))) ∧ ((∀ t, s ≤ t → t < d → I (18 + j) 2 ≠ nI t) → I' (18 + j) 2 = I (18 + j) 2 ∧ D' (18 + j) 4 = D (18 + j) 4) := by
  intro m
  induction m with
  | zero =>
    intro s n I D h1 h2 F hI hI8 hS hB
    obtain ⟨n, rfl⟩ : ∃ n', n = n' + 1 := ⟨n - 1, by omega⟩
    obtain rfl : s = d := by omega
    refine ⟨I, D, ?_, fun _ _ _ => rfl, fun _ _ _ _ => rfl, fun t g1 g2 => absurd g1 (by omega), fun j _ => ⟨fun mx t g1 g2 => absurd g1 (by omega), fun _ => ⟨rfl, rfl⟩⟩⟩
    rw [f_X4_passHour_L85, hI8, if_pos (nI_le (Nat.le_refl _) (by omega)), nm_v]
  | succ m ih =>
    intro s n I D h1 h2 F hI hI8 hS hB
    obtain ⟨n, rfl⟩ : ∃ n', n = n' + 1 := ⟨n - 1, by omega⟩
    obtain ⟨s1, s2, s3⟩ := hS s (Nat.le_refl _) (by omega)
    obtain ⟨f1, f2, f3⟩ := fH_all s1 s2 s3
    have hs3 : s < 3 := by omega
    obtain ⟨I1, D1, r1, r2, r3, r4⟩ := ch_in (b := b) fz hs3 hc s3.1 f3.1 hhi D rfl c 0 200 I (up2 D (30 + s) 1 (fH (I (30 + s) 0) (D (30 + s) 1))) (by omega) (by omega) (F.cong (fun j _ _ => up2_k _ _ _ _ (by omega))) hI (fun j _ g2 g3 => by
      obtain ⟨mx, y1, y2, y3⟩ := hB j g2
      exact ⟨mx, y1, y2, by rw [up2_k _ _ _ _ (by omega)]; exact y3 s (Nat.le_refl _) (by omega) g3⟩)
    have st : f_X4_passHour_L85 (n + 1) (nI s) I D = f_X4_passHour_L85 n (nI (s + 1)) I1 D1 := by
      rw [f_X4_passHour_L85, hI8, if_neg (nI_ge (by omega) (by omega))]
      have hin : f_X4_passHourIn I D (nI s) = some (I1, D1) := by
        unfold f_X4_passHourIn
        rw [inB_nI hs3 (by decide), nI_clamp (show s < 2 ^ 31 by omega), ckt, ckt, hourC s1 s2 s3, bd_s, ckt, nm_v, show (0 : Int32) = nI 0 from rfl]
        exact r1
      rw [hin, bd_s, nI_1]
    have k1 : ∀ k j, ¬ (j = 2 ∧ 18 ≤ k ∧ k < 30) → I1 k j = I k j := fun k j q => r2 k j (by omega)
    have k7 : ∀ t, t ≠ s → D1 (30 + t) 1 = D (30 + t) 1 := fun t q => by rw [r3 _ _ (by omega), up2_k _ _ _ _ (by omega)]
    have u5 : ∀ j, j < c → up2 D (30 + s) 1 (fH (I (30 + s) 0) (D (30 + s) 1)) (18 + j) 4 = D (18 + j) 4 := fun j hj => up2_k _ _ _ _ (by omega)
    have later : ∀ j, j < c → ∀ t, s + 1 ≤ t → t < d → I1 (18 + j) 2 = nI t → I (18 + j) 2 = nI t ∧ D1 (18 + j) 4 = D (18 + j) 4 := by
      intro j hj t g1 g2 g3
      obtain ⟨mx, y1, y2, -⟩ := hB j hj
      obtain ⟨z1, z2⟩ := r4 j (Nat.zero_le _) hj
      by_cases e : I (18 + j) 2 = nI s
      · exfalso
        obtain ⟨w1, -⟩ := z1 mx e y2 y1
        rw [g3] at w1
        unfold meP at w1
        split at w1
        · have := (nI_eq (show t < 2 ^ 31 by omega) (show s < 2 ^ 31 by omega)).mp w1
          omega
        · exact nI_11 (show t < 3 by omega) w1.symm
      · obtain ⟨w1, w2⟩ := z2 e
        rw [u5 j hj] at w2
        exact ⟨by rw [← w1]; exact g3, w2⟩
    obtain ⟨I', D', p1, p2, p3, p4, p5⟩ := ih (s + 1) n I1 D1 (by omega) (by omega) (F.cong (fun j _ _ => by rw [r3 _ _ (by omega), up2_k _ _ _ _ (by omega)])) (by rw [k1 _ _ (by omega)]; exact hI) (by rw [k1 _ _ (by omega)]; exact hI8) (fun t g1 g2 => by rw [k1 _ _ (by omega), k7 t (by omega)]; exact hS t (by omega) g2) (fun j hj => by
      obtain ⟨mx, y1, y2, y3⟩ := hB j hj
      refine ⟨mx, y1, by rw [k1 _ _ (by omega)]; exact y2, fun t g1 g2 g3 => ?_⟩
      obtain ⟨w1, w2⟩ := later j hj t g1 g2 g3
      rw [w2]
      exact y3 t (by omega) g2 w1)
    rw [k1 0 9 (by omega)] at p1
    refine ⟨I', D', st.trans p1, fun k j q => ?_, fun k j q1 q2 => ?_, fun t g1 g2 => ?_, fun j hj => ⟨fun mx t g1 g2 g3 g4 g5 => ?_, fun g => ?_⟩⟩
    · rw [p2 k j q, r2 k j (by omega)]
    · rw [p3 k j q1 (by omega), r3 k j (by omega), up2_ap, if_neg (by omega)]
    · by_cases e : t = s
      · subst e
        rw [p3 _ _ (by omega) (by omega), r3 _ _ (by omega), up2_hit]
      · rw [p4 t (by omega) g2, k1 _ _ (by omega), k7 t e]
    · by_cases e : t = s
      · subst e
        obtain ⟨w1, w2⟩ := (r4 j (Nat.zero_le _) hj).1 mx g3 g4 g5
        rw [u5 j hj] at w2
        have hno : ∀ t', t + 1 ≤ t' → t' < d → I1 (18 + j) 2 ≠ nI t' := by
          intro t' y1 y2 y3
          obtain ⟨v1, -⟩ := later j hj t' y1 y2 y3
          rw [g3] at v1
          have := (nI_eq (show t < 2 ^ 31 by omega) (show t' < 2 ^ 31 by omega)).mp v1
          omega
        obtain ⟨v1, v2⟩ := (p5 j hj).2 hno
        exact ⟨v1.trans w1, v2.trans w2⟩
      · have hne : I (18 + j) 2 ≠ nI s := fun q => by
          rw [g3] at q
          have := (nI_eq (show t < 2 ^ 31 by omega) (show s < 2 ^ 31 by omega)).mp q
          omega
        obtain ⟨w1, w2⟩ := (r4 j (Nat.zero_le _) hj).2 hne
        rw [u5 j hj] at w2
        obtain ⟨v1, v2⟩ := (p5 j hj).1 mx t (by omega) g2 (by rw [w1]; exact g3) (by rw [k1 _ _ (by omega)]; exact g4) g5
        rw [k7 t e] at v1 v2
        rw [k1 _ _ (by omega), w2] at v2
        exact ⟨v1, v2⟩
    · obtain ⟨w1, w2⟩ := (r4 j (Nat.zero_le _) hj).2 (g s (Nat.le_refl _) (by omega))
      rw [u5 j hj] at w2
      obtain ⟨v1, v2⟩ := (p5 j hj).2 (fun t g1 g2 => by rw [w1]; exact g t (by omega) g2)
      exact ⟨v1.trans w1, v2.trans w2⟩
set_option maxRecDepth 20000 in
theorem ch_belt (hc : c ≤ 12) (D : MD) : ∀ (m i n : Nat) (I : MI), i + m = c → m < n → I 0 7 = nI c →
    ∃ I', f_X4_passHour_L33 n (nI i) I D = f_X4_passHour_L85 200 (nI 0) I' D ∧ (∀ k j, ¬ (j = 2 ∧ 18 + i ≤ k ∧ k < 18 + c) → I' k j = I k j) ∧ ∀ j, i ≤ j → j < c → I' (18 + j) 2 = (if I (18 + j) 2 = -1 ∧ I (18 + j) 3 = 0 then 11 else I (18 + j) 2) := by
  intro m
  induction m with
  | zero =>
    intro i n I h1 h2 hI
    obtain ⟨n, rfl⟩ : ∃ n', n = n' + 1 := ⟨n - 1, by omega⟩
    obtain rfl : i = c := by omega
    refine ⟨I, ?_, fun _ _ _ => rfl, fun j g1 g2 => absurd g1 (by omega)⟩
    rw [f_X4_passHour_L33, hI, if_pos (nI_le (Nat.le_refl _) (by omega)), show (0 : Int32) = nI 0 from rfl]
  | succ m ih =>
    intro i n I h1 h2 hI
    obtain ⟨n, rfl⟩ : ∃ n', n = n' + 1 := ⟨n - 1, by omega⟩
    have go : ∀ (I1 : MI), (∀ k j, ¬ (j = 2 ∧ k = 18 + i) → I1 k j = I k j) → f_X4_passHour_L33 (n + 1) (nI i) I D = f_X4_passHour_L33 n (nI (i + 1)) I1 D → I1 (18 + i) 2 = (if I (18 + i) 2 = -1 ∧ I (18 + i) 3 = 0 then 11 else I (18 + i) 2) →
        ∃ I', f_X4_passHour_L33 (n + 1) (nI i) I D = f_X4_passHour_L85 200 (nI 0) I' D ∧ (∀ k j, ¬ (j = 2 ∧ 18 + i ≤ k ∧ k < 18 + c) → I' k j = I k j) ∧ ∀ j, i ≤ j → j < c → I' (18 + j) 2 = (if I (18 + j) 2 = -1 ∧ I (18 + j) 3 = 0 then 11 else I (18 + j) 2) := by
      intro I1 g1 g3 g4
      obtain ⟨I', r1, r2, r4⟩ := ih (i + 1) n I1 (by omega) (by omega) (by rw [g1 _ _ (by omega)]; exact hI)
      refine ⟨I', g3.trans r1, fun k j q => ?_, fun j y1 y2 => ?_⟩
      · rw [r2 k j (by omega), g1 k j (by omega)]
      · by_cases e : j = i
        · subst e
          rw [r2 _ _ (by omega)]
          exact g4
        · have z := r4 j (by omega) y2
          rw [g1 _ _ (by omega), g1 _ _ (by omega)] at z
          exact z
    have st : f_X4_passHour_L33 (n + 1) (nI i) I D = (if I (18 + i) 2 = -1 then (if I (18 + i) 3 = 0 then f_X4_passHour_L33 n (nI (i + 1)) (up2 I (18 + i) 2 11) D else f_X4_passHour_L33 n (nI (i + 1)) I D) else f_X4_passHour_L33 n (nI (i + 1)) I D) := by
      rw [f_X4_passHour_L33, hI, if_neg (nI_ge (by omega) (by omega)), inB_nI (show i < 12 by omega) (by decide), nI_clamp (show i < 2 ^ 31 by omega), nI_1]
      simp only [ckt, nm_v]
    by_cases c1 : I (18 + i) 2 = -1
    · rw [if_pos c1] at st
      by_cases c2 : I (18 + i) 3 = 0
      · rw [if_pos c2] at st
        exact go _ (fun k j q => by rw [up2_ap, if_neg (by omega)]) st (by rw [up2_hit, if_pos ⟨c1, c2⟩])
      · rw [if_neg c2] at st
        exact go _ (fun _ _ _ => rfl) st (by rw [if_neg (fun q => c2 q.2)])
    · rw [if_neg c1] at st
      exact go _ (fun _ _ _ => rfl) st (by rw [if_neg (fun q => c1 q.1)])
set_option maxRecDepth 20000 in
theorem ch_age (hb : b ≤ 5) (D : MD) : ∀ (m i n : Nat) (I : MI), i + m = b → m < n → I 0 6 = nI b →
    ∃ I', f_X4_passHour_L2 n (nI i) I D = f_X4_passHour_L33 200 (nI 0) I' D ∧ (∀ k j, ¬ (j = 8 ∧ 13 + i ≤ k ∧ k < 13 + b) → I' k j = I k j) ∧ ∀ j, i ≤ j → j < b → I' (13 + j) 8 = I (13 + j) 8 + 1 := by
  intro m
  induction m with
  | zero =>
    intro i n I h1 h2 hI
    obtain ⟨n, rfl⟩ : ∃ n', n = n' + 1 := ⟨n - 1, by omega⟩
    obtain rfl : i = b := by omega
    refine ⟨I, ?_, fun _ _ _ => rfl, fun j g1 g2 => absurd g1 (by omega)⟩
    rw [f_X4_passHour_L2, hI, if_pos (nI_le (Nat.le_refl _) (by omega)), show (0 : Int32) = nI 0 from rfl]
  | succ m ih =>
    intro i n I h1 h2 hI
    obtain ⟨n, rfl⟩ : ∃ n', n = n' + 1 := ⟨n - 1, by omega⟩
    obtain ⟨I', r1, r2, r4⟩ := ih (i + 1) n (up2 I (13 + i) 8 (I (13 + i) 8 + 1)) (by omega) (by omega) (by rw [up2_k _ _ _ _ (by omega)]; exact hI)
    refine ⟨I', ?_, fun k j q => ?_, fun j y1 y2 => ?_⟩
    · rw [f_X4_passHour_L2, hI, if_neg (nI_ge (by omega) (by omega)), inB_nI (show i < 5 by omega) (by decide), nI_clamp (show i < 2 ^ 31 by omega), nI_1, ckt, nm_v]
      exact r1
    · rw [r2 k j (by omega), up2_ap, if_neg (by omega)]
    · by_cases e : j = i
      · subst e
        rw [r2 _ _ (by omega), up2_hit]
      · rw [r4 j (by omega) y2, up2_k _ _ _ _ (by omega)]
set_option maxRecDepth 20000 in
theorem hour_C {fz : Nat → UInt64} (hc : c ≤ 12) (hd : d ≤ 3) {hi : Int} (hhi : 640 ≤ hi ∧ hi < 2 ^ 40) {I : MI} {D : MD} (F : FZ b D fz) (H6 : I 0 6 = nI b) (H7 : I 0 7 = nI c) (H8 : I 0 8 = nI d) (HS : ∀ t, t < d → -30 ≤ (I (30 + t) 0).toInt ∧ (I (30 + t) 0).toInt ≤ -10 ∧ rg (-1040) 256 (D (30 + t) 1)) (HB : ∀ j, j < c → ∃ mx, mx < b ∧ I (18 + j) 0 = nI mx ∧ plOK d (I (18 + j) 2) ∧ rg 640 hi (D (18 + j) 4)) :
    ∃ I' D', f_X4_passHour I D = some (I', D') ∧ I' 0 9 = I 0 9 + 1 ∧ (∀ k, k < b → I' (13 + k) 8 = I (13 + k) 8 + 1) ∧ (∀ k j, ¬ (k = 0 ∧ j = 9) → ¬ (j = 2 ∧ 18 ≤ k ∧ k < 18 + c) → ¬ (j = 8 ∧ 13 ≤ k ∧ k < 13 + b) → I' k j = I k j) ∧ (∀ k j, ¬ (j = 4 ∧ 18 ≤ k ∧ k < 18 + c) → ¬ (j = 1 ∧ 30 ≤ k ∧ k < 30 + d) → D' k j = D k j) ∧
      (∀ t, t < d → D' (30 + t) 1 = fH (I (30 + t) 0) (D (30 + t) 1)) ∧
      ∀ j mx, j < c → mx < b → I (18 + j) 0 = nI mx → I' (18 + j) 2 = plN (I (18 + j) 2) (I (18 + j) 3) (fz mx) (D (30 + (I (18 + j) 2).toNatClampNeg) 1) ∧ D' (18 + j) 4 = crN (I (18 + j) 2) (D (18 + j) 4) (fz mx) (D (30 + (I (18 + j) 2).toNatClampNeg) 1) (fH (I (30 + (I (18 + j) 2).toNatClampNeg) 0) (D (30 + (I (18 + j) 2).toNatClampNeg) 1)) := by
  have hb := F.1
  obtain ⟨I0, o1, o2, o3⟩ := ch_age hb D b 0 200 I (by omega) (by omega) H6
  have x0 : ∀ k j, j ≠ 8 → I0 k j = I k j := fun k j q => o2 k j (by omega)
  obtain ⟨I1, r1, r2, r3⟩ := ch_belt hc D c 0 200 I0 (by omega) (by omega) (by rw [x0 _ _ (by decide)]; exact H7)
  have k1 : ∀ k j, j ≠ 2 → I1 k j = I0 k j := fun k j q => r2 k j (by omega)
  obtain ⟨I', D', p1, p2, p3, p4, p5⟩ := ch_out (b := b) fz hc hd hhi d 0 200 I1 D (by omega) (by omega) F (by rw [k1 _ _ (by decide), x0 _ _ (by decide)]; exact H7) (by rw [k1 _ _ (by decide), o2 _ _ (by omega)]; exact H8) (fun t _ g2 => by rw [k1 _ _ (by decide), x0 _ _ (by decide)]; exact HS t g2) (fun j hj => by
    obtain ⟨mx, y1, y2, y3, y4⟩ := HB j hj
    exact ⟨mx, y1, by rw [k1 _ _ (by decide), x0 _ _ (by decide)]; exact y2, fun _ _ _ _ => y4⟩)
  refine ⟨up2 I' 0 9 (I1 0 9 + 1), D', ?_, ?_, fun k hk => ?_, fun k j q1 q2 q3 => ?_, fun k j q1 q2 => p3 k j q1 (by omega), fun t g => ?_, fun j mx hj hm e => ?_⟩
  · unfold f_X4_passHour
    rw [show (0 : Int32) = nI 0 from rfl]
    exact o1.trans (r1.trans p1)
  · rw [up2_hit, k1 _ _ (by decide), x0 _ _ (by decide)]
  · rw [up2_k _ _ _ _ (by omega), p2 _ _ (by omega), k1 _ _ (by decide), o3 k (Nat.zero_le _) hk]
  · rw [up2_ap, if_neg q1, p2 k j q2, r2 k j (by omega), o2 k j (by omega)]
  · rw [p4 t (Nat.zero_le _) g, k1 _ _ (by decide), x0 _ _ (by decide)]
  · obtain ⟨mx', y1, y2, y3, y4⟩ := HB j hj
    obtain ⟨z1, z2⟩ := p5 j hj
    have e1 : I1 (18 + j) 0 = nI mx := by rw [k1 _ _ (by decide), x0 _ _ (by decide)]; exact e
    have e6 : ∀ t, I1 (30 + t) 0 = I (30 + t) 0 := fun t => by rw [k1 _ _ (by decide), x0 _ _ (by decide)]
    have e4 := r3 j (Nat.zero_le _) hj
    rw [x0 _ 2 (by decide), x0 _ 3 (by decide)] at e4
    rw [up2_k _ _ _ _ (show 18 + j ≠ 0 by omega)]
    have nost : ∀ p : Int32, (p = -1 ∨ 10 ≤ p) → ∀ t, 0 ≤ t → t < d → p ≠ nI t := by
      intro p hp t _ g2 q
      subst q
      rcases hp with hp | hp
      · have := nI_pos (show t < 2 ^ 31 by omega)
        rw [hp] at this
        exact this (by decide)
      · exact nI_ge (a := t) (b := 10) (by omega) (by decide) hp
    unfold plN crN
    rcases y3 with q | ⟨t, ht, q⟩ | q | q
    · rw [q, if_pos rfl, if_pos rfl]
      rw [q] at e4
      by_cases g : I (18 + j) 3 = 0
      · rw [if_pos ⟨rfl, g⟩] at e4
        obtain ⟨w1, w2⟩ := z2 (by rw [e4]; exact nost 11 (Or.inr (by decide)))
        rw [if_pos g]
        exact ⟨w1.trans e4, w2⟩
      · rw [if_neg (fun y => g y.2)] at e4
        obtain ⟨w1, w2⟩ := z2 (by rw [e4]; exact nost _ (Or.inl rfl))
        rw [if_neg g]
        exact ⟨w1.trans e4, w2⟩
    · have n1 : ¬ nI t = -1 := fun y => nost (-1) (Or.inl rfl) t (Nat.zero_le _) ht y.symm
      have n2 : ¬ (10 : Int32) ≤ nI t := nI_ge (a := t) (b := 10) (by omega) (by decide)
      rw [q, if_neg (fun y => n1 y.1)] at e4
      obtain ⟨w1, w2⟩ := z1 mx t (Nat.zero_le _) ht e4 e1 hm
      rw [q, if_neg n1, if_neg n2, if_neg n1, if_neg n2, nI_clamp (show t < 2 ^ 31 by omega)]
      rw [e6] at w2
      exact ⟨w1, w2⟩
    · have n1 : ¬ (10 : Int32) = -1 := by decide
      rw [q, if_neg (fun y => n1 y.1)] at e4
      obtain ⟨w1, w2⟩ := z2 (by rw [e4]; exact nost _ (Or.inr (by decide)))
      rw [q, if_neg n1, if_pos (by decide), if_neg n1, if_pos (by decide)]
      exact ⟨w1.trans e4, w2⟩
    · have n1 : ¬ (11 : Int32) = -1 := by decide
      rw [q, if_neg (fun y => n1 y.1)] at e4
      obtain ⟨w1, w2⟩ := z2 (by rw [e4]; exact nost _ (Or.inr (by decide)))
      rw [q, if_neg n1, if_pos (by decide), if_neg n1, if_pos (by decide)]
      exact ⟨w1.trans e4, w2⟩
end HRC
