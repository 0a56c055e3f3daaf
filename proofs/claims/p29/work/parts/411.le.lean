/-! ===== the law's end ===== -/
section LEN
variable {LS : Nat} {xs : Nat → Int32} {c h : Nat} {I J : MI} {D E : MD}
def wasB (I : MI) (D : MD) (s j : Nat) : Int32 := if I (18 + j) 2 = nI s ∧ coV (D (18 + j) 4) = 0 then 1 else 0
set_option maxRecDepth 20000 in
theorem bat3 {a b d : Nat} (R : RR 0 a b c d h I D J E) {j : Nat} (hj : j < c) : f_X4_ofBatch I D (nI j) 3 = some (.ok (I (18 + j) 2)) ∧ f_X4_ofBatch I D (nI j) 4 = some (.ok (coV (D (18 + j) 4))) ∧ f_X4_ofBatch I D (nI j) 2 = some (.ok (I (18 + j) 3)) ∧ f_X4_crystal I D (nI j) = some (.ok (D (18 + j) 4)) := by
  obtain ⟨q1, q2, q3, q4, q5, ⟨m, hm, q6⟩, q7, q8, q9⟩ := R.bat.1 j hj
  refine ⟨bat_ok R hj hm q6 (w := 3) (by decide), bat_ok R hj hm q6 (w := 4) (by decide), bat_ok R hj hm q6 (w := 2) (by decide), ?_⟩
  have hc := R.c12
  unfold f_X4_crystal
  rw [R.I7, cn_ok hj (by omega), bE_o, inB_nI (show j < 12 by omega) (by decide), nI_clamp (show j < 2 ^ 31 by omega), ckt]
set_option maxRecDepth 20000 in
theorem law275 (R : RR 0 4 4 c 2 h I D J E) (rec242 : Int32 → MI → MD → MI → MD → Option Int32) (x6 : Int32) (M : MD) {s : Nat} (r88 : Int32) : ∀ (m i n : Nat) (K : MI), i + m = c → m < n → (∀ j, j < i → K 35 j = wasB I D s j) → ∃ K', f_L_law_L275 rec242 LS xs 4 4 c 2 x6 I D M (nI s) r88 n (nI i) K = bd (eO (f_X4_wouldSpoil I D (nI s) r88)) (fun r_106 => f_L_law_L341 rec242 LS xs 4 4 c 2 x6 I D (nI s) r88 K' r_106 14 0 (va_up M 36 (fun _ => 0))) ∧ (∀ j, j < c → K' 35 j = wasB I D s j) ∧ ∀ k j, k ≠ 35 → K' k j = K k j
  | 0, i, n, K, h1, h2, hK => by
    obtain ⟨n, rfl⟩ : ∃ n', n = n' + 1 := ⟨n - 1, by omega⟩
    obtain rfl : i = c := by omega
    have hc := R.c12
    rw [f_L_law_L275, if_pos (nI_le (Nat.le_refl _) (by omega))]
    exact ⟨K, rfl, hK, fun _ _ _ => rfl⟩
  | m + 1, i, n, K, h1, h2, hK => by
    obtain ⟨n, rfl⟩ : ∃ n', n = n' + 1 := ⟨n - 1, by omega⟩
    have hc := R.c12
    have hi : i < c := by omega
    obtain ⟨b3, b4, -, -⟩ := bat3 R hi
    obtain ⟨K', r1, r2, r3⟩ := law275 R rec242 x6 M (s := s) r88 m (i + 1) n (up2 K 35 i (wasB I D s i)) (by omega) (by omega) (fun j hj => by
      by_cases e : j = i
      · rw [e, up2_hit]
      · rw [up2_n _ _ _ e]; exact hK j (by omega))
    refine ⟨K', ?_, r2, fun k j z => (r3 k j z).trans (up2_k _ _ _ _ z)⟩
    rw [f_L_law_L275, if_neg (nI_ge (by omega) (by omega)), b3, eO_ok, bd_s, b4, eO_ok, bd_s]
    unfold f_L_law_J314
    rw [inB_nI hi (by omega), ckt, ckt, nI_clamp (show i < 2 ^ 31 by omega), nI_1]
    refine Eq.trans ?_ r1
    unfold wasB
    by_cases e1 : I (18 + i) 2 = nI s
    · rw [if_pos e1]
      by_cases e2 : coV (D (18 + i) 4) = 0
      · rw [if_pos e2, if_pos ⟨e1, e2⟩, nm_v]
      · rw [if_neg e2, if_neg (fun q => e2 q.2), nm_v]
    · rw [if_neg e1, if_neg (fun q => e1 q.1), nm_v]
def beP (I : MI) (D : MD) (j : Nat) (v : UInt64) : Prop := ∃ mx, mx < 4 ∧ I (18 + j) 0 = nI mx ∧ FP.Core.DFin v ∧ ∀ I' D', EV 24 2 I D I' D' j mx → v = if I' (18 + j) 2 ≤ 9 then D' (18 + j) 4 else 13830554455654793216
def lawP (rec242 : Int32 → MI → MD → MI → MD → Option Int32) (LS : Nat) (xs : Nat → Int32) (c : Nat) (x6 : Int32) (I : MI) (D : MD) (r84 r88 : Int32) (K : MI) (r106 : Int32) (M : MD) : Option Int32 :=
  (if r88 ≤ 0 then f_L_law_J390 rec242 LS xs 4 4 c 2 x6 r88 K r106 M I D else bd (eO (f_X4_door I D r84 r88)) (fun (r_167, I_169, D_170) => (if (Op.cmpValue (FP.dcmp r_167 (4620693217682128896 : UInt64)) CmpOp.l) ≤ 0 then f_L_law_J390 rec242 LS xs 4 4 c 2 x6 r88 K r106 M I_169 D_170 else some 0)))
set_option maxRecDepth 20000 in
theorem law341 (R : RR 0 4 4 c 2 h I D J E) (rec242 : Int32 → MI → MD → MI → MD → Option Int32) (x6 r84 r88 : Int32) (K : MI) (r106 : Int32) : ∀ (m i n : Nat) (M : MD), i + m = c → m < n → (∀ j, j < i → beP I D j (M 36 j)) → ∃ M', f_L_law_L341 rec242 LS xs 4 4 c 2 x6 I D r84 r88 K r106 n (nI i) M = lawP rec242 LS xs c x6 I D r84 r88 K r106 M' ∧ ∀ j, j < c → beP I D j (M' 36 j)
  | 0, i, n, M, h1, h2, hM => by
    obtain ⟨n, rfl⟩ : ∃ n', n = n' + 1 := ⟨n - 1, by omega⟩
    obtain rfl : i = c := by omega
    have hc := R.c12
    rw [f_L_law_L341, if_pos (nI_le (Nat.le_refl _) (by omega))]
    exact ⟨M, rfl, hM⟩
  | m + 1, i, n, M, h1, h2, hM => by
    obtain ⟨n, rfl⟩ : ∃ n', n = n' + 1 := ⟨n - 1, by omega⟩
    have hc := R.c12
    have hi : i < c := by omega
    obtain ⟨mx, w, w1, w2, w3, w4, w5⟩ := be_X R (N := 24) (by decide) (by decide) hi
    obtain ⟨M', r1, r2⟩ := law341 R rec242 x6 r84 r88 K r106 m (i + 1) n (up2 M 36 i w) (by omega) (by omega) (fun j hj => by
      by_cases e : j = i
      · rw [e, up2_hit]; exact ⟨mx, w1, w2, w4, w5⟩
      · rw [up2_n _ _ _ e]; exact hM j (by omega))
    refine ⟨M', ?_, r2⟩
    rw [f_L_law_L341, if_neg (nI_ge (by omega) (by omega)), show f_X4_wouldBe I D (nI i) 24 = _ from w3, eO_ok, bd_s, inB_nI hi (by omega), ckt, nm_v, nI_clamp (show i < 2 ^ 31 by omega), nI_1]
    exact r1
set_option maxRecDepth 20000 in
theorem law403 (R : RR 0 4 4 c 2 h I D J E) (rec242 : Int32 → MI → MD → MI → MD → Option Int32) (x6 r88 : Int32) (K : MI) (M : MD) (f : Nat → Nat) (was : Nat → Int32) (hw : ∀ j, was j = 0 ∨ was j = 1) (hK : ∀ j, j < c → K 35 j = was j) (hf : ∀ j, j < c → f j = if was j = 1 then (if I (18 + j) 2 = 11 then 1 else if coV (D (18 + j) 4) = 1 then 1 else 0) else 0) (hM : r88 = 0 → ∀ j, j < c → FP.Core.DFin (M 36 j) ∧ M 36 j = if I (18 + j) 2 ≤ 9 then D (18 + j) 4 else 13830554455654793216) : ∀ (m i n : Nat), i + m = c → m < n → f_L_law_L403 rec242 LS xs 4 4 c 2 x6 r88 K (nI (sm f c)) M I D n (nI i) (nI (sm f i)) = f_L_law_L540 rec242 LS xs 4 4 c 2 x6 M 14 0 I D K
  | 0, i, n, h1, h2 => by
    obtain ⟨n, rfl⟩ : ∃ n', n = n' + 1 := ⟨n - 1, by omega⟩
    obtain rfl : i = c := by omega
    have hc := R.c12
    rw [f_L_law_L403, if_pos (nI_le (Nat.le_refl _) (by omega)), if_pos rfl]
  | m + 1, i, n, h1, h2 => by
    obtain ⟨n, rfl⟩ : ∃ n', n = n' + 1 := ⟨n - 1, by omega⟩
    have hc := R.c12
    have hi : i < c := by omega
    obtain ⟨b3, b4, -, b5⟩ := bat3 R hi
    have ih := law403 R rec242 x6 r88 K M f was hw hK hf hM m (i + 1) n (by omega) (by omega)
    have es : sm f (i + 1) = sm f i + f i := rfl
    have hJ : ∀ z : Nat, z = f i → f_L_law_J454 (f_L_law_L403 rec242 LS xs 4 4 c 2 x6 r88 K (nI (sm f c)) M I D n) c r88 M I D (nI i) (nI (sm f i)) (I (18 + i) 2) (nI z) = f_L_law_L540 rec242 LS xs 4 4 c 2 x6 M 14 0 I D K := by
      intro z hz
      have h516 : ∀ v, (r88 = 0 → FP.Core.DFin (M 36 i) ∧ M 36 i = v) → r88 = 0 → f_L_law_J516 (f_L_law_L403 rec242 LS xs 4 4 c 2 x6 r88 K (nI (sm f c)) M I D n) M (nI i) (nI (sm f i)) (nI z) v = f_L_law_L540 rec242 LS xs 4 4 c 2 x6 M 14 0 I D K := by
        intro v hv h0
        obtain ⟨d1, d2⟩ := hv h0
        unfold f_L_law_J516
        rw [nI_clamp (show i < 2 ^ 31 by omega), ← d2, cm_rf d1, if_pos rfl, nI_1, nI_add, hz, ← es]
        exact ih
      have h482 : f_L_law_J482 (f_L_law_L403 rec242 LS xs 4 4 c 2 x6 r88 K (nI (sm f c)) M I D n) c r88 M I D (nI i) (nI (sm f i)) (I (18 + i) 2) (nI z) (coV (D (18 + i) 4)) (coV (D (18 + i) 4)) = f_L_law_L540 rec242 LS xs 4 4 c 2 x6 M 14 0 I D K := by
        unfold f_L_law_J482
        rw [if_pos rfl]
        by_cases h0 : r88 = 0
        · rw [if_pos h0, inB_nI hi (by omega), ckt, b5, eO_ok, bd_s]
          have hm := hM h0 i hi
          by_cases h9 : I (18 + i) 2 ≤ 9
          · rw [if_pos h9] at hm ⊢
            exact h516 _ (fun _ => hm) h0
          · rw [if_neg h9] at hm ⊢
            exact h516 _ (fun _ => hm) h0
        · rw [if_neg h0, nI_1, nI_add, hz, ← es]
          exact ih
      unfold f_L_law_J454
      rw [b4, eO_ok, bd_s, b5, eO_ok, bd_s]
      by_cases g : (Op.cmpValue (FP.dcmp (D (18 + i) 4) (4632233691727265792 : UInt64)) CmpOp.l) ≤ 0
      · have e : coV (D (18 + i) 4) = 0 := by unfold coV; rw [if_pos g]
        rw [if_pos g]
        rw [e] at h482 ⊢
        exact h482
      · have e : coV (D (18 + i) 4) = 1 := by unfold coV; rw [if_neg g]
        rw [if_neg g]
        rw [e] at h482 ⊢
        exact h482
    rw [f_L_law_L403, if_neg (nI_ge (by omega) (by omega)), b3, eO_ok, bd_s, inB_nI hi (by omega), ckt, nI_clamp (show i < 2 ^ 31 by omega), b4, eO_ok, bd_s, hK i hi]
    have hfi := hf i hi
    by_cases e1 : was i = 1
    · rw [if_pos e1] at hfi ⊢
      by_cases e2 : I (18 + i) 2 = 11
      · rw [if_pos e2] at hfi ⊢
        exact hJ 1 hfi.symm
      · rw [if_neg e2] at hfi ⊢
        by_cases e3 : coV (D (18 + i) 4) = 1
        · rw [if_pos e3] at hfi ⊢
          exact hJ 1 hfi.symm
        · rw [if_neg e3] at hfi ⊢
          exact hJ 0 hfi.symm
    · rw [if_neg e1] at hfi ⊢
      exact hJ 0 hfi.symm
set_option maxRecDepth 20000 in
theorem law540 (hLS : LS < 2 ^ 31) (rec242 : Int32 → MI → MD → MI → MD → Option Int32) (x6 : Int32) (M : MD) : ∀ (m i n N : Nat) (I : MI) (D : MD) (K : MI) (J : MI) (E : MD), i + m = c → m < n → N + m < 2 ^ 19 → RR 0 4 4 c 2 h I D J E → DR K N → ∃ I' D' K' J' E', f_L_law_L540 rec242 LS xs 4 4 c 2 x6 M n (nI i) I D K = rec242 (x6 + 1) I' D' K' M ∧ RR 0 4 4 c 2 h I' D' J' E' ∧ DR K' (N + m)
  | 0, i, n, N, I, D, K, J, E, h1, h2, hN, R, hd => by
    obtain ⟨n, rfl⟩ : ∃ n', n = n' + 1 := ⟨n - 1, by omega⟩
    obtain rfl : i = c := by omega
    have hc := R.c12
    rw [f_L_law_L540, if_pos (nI_le (Nat.le_refl _) (by omega))]
    exact ⟨I, D, K, J, E, rfl, R, hd⟩
  | m + 1, i, n, N, I, D, K, J, E, h1, h2, hN, R, hd => by
    obtain ⟨n, rfl⟩ : ∃ n', n = n' + 1 := ⟨n - 1, by omega⟩
    have hc := R.c12
    have hi : i < c := by omega
    obtain ⟨b3, b4, b2, b5⟩ := bat3 R hi
    rw [f_L_law_L540, if_neg (nI_ge (by omega) (by omega)), b3, eO_ok, bd_s, b2, eO_ok, bd_s, nI_1]
    by_cases e1 : 3 ≤ I (18 + i) 2
    · rw [if_pos e1]
      obtain ⟨I', D', K', J', E', r1, r2, r3⟩ := law540 hLS rec242 x6 M m (i + 1) n N I D K J E (by omega) (by omega) (by omega) R hd
      exact ⟨I', D', K', J', E', r1, r2, r3.cong rfl (by omega)⟩
    · rw [if_neg e1]
      by_cases e2 : I (18 + i) 3 = 1
      · rw [if_pos e2]
        obtain ⟨v, K1, hv, e3, d1, k1⟩ := draw_k (LS := LS) (xs := xs) (a := 4) (b := 4) (c := c) (d := 2) (I := I) (D := D) (M := M) hLS hd (by omega) (show 0 < 2 by decide) (by decide) 2
        have hl := x_lay R hi hv (by rw [e2]; decide) (by
          rw [leI, show (3 : Int32).toInt = 3 by decide] at e1
          rw [ltI, show (10 : Int32).toInt = 10 by decide]
          omega)
        have R1 := R.place hi (p := nI v) (Or.inr (Or.inl ⟨v, hv, rfl⟩))
        rw [e3, bd_s]
        dsimp only
        rw [hl, eO_ok, bd_s]
        dsimp only
        obtain ⟨I', D', K', J', E', r1, r2, r3⟩ := law540 hLS rec242 x6 M m (i + 1) n (N + 1) _ D K1 _ E (by omega) (by omega) (by omega) R1 d1
        exact ⟨I', D', K', J', E', r1, r2, r3.cong rfl (by omega)⟩
      · rw [if_neg e2]
        obtain ⟨I', D', K', J', E', r1, r2, r3⟩ := law540 hLS rec242 x6 M m (i + 1) n N I D K J E (by omega) (by omega) (by omega) R hd
        exact ⟨I', D', K', J', E', r1, r2, r3.cong rfl (by omega)⟩
set_option maxRecDepth 20000 in
theorem wasB_01 (I : MI) (D : MD) (s j : Nat) : wasB I D s j = 0 ∨ wasB I D s j = 1 := by
  unfold wasB
  split
  · exact Or.inr rfl
  · exact Or.inl rfl
/- behind the door: a day, what spoilt, what is laid -/
set_option maxRecDepth 20000 in
theorem law390 (hLS : LS < 2 ^ 31) (rec242 : Int32 → MI → MD → MI → MD → Option Int32) (x6 : Int32) {N s o : Nat} {K : MI} {M Dd : MD} (hs : s < 2) (ho : o ≤ 20) (hN : N + 20 < 2 ^ 19) (hh : h + 200 < 2 ^ 20) (hd : DR K N) (R0 : RR 0 4 4 c 2 h I D J E) {Ed : MD} (R : RR 0 4 4 c 2 h I Dd J Ed) (k1 : ∀ k j, ¬ (k = 30 + s ∧ j = 1) → Dd k j = D k j) (k2 : Dd (30 + s) 1 = opN o (D (30 + s) 1)) (hK : ∀ j, j < c → K 35 j = wasB I D s j) (hM : ∀ j, j < c → beP I D j (M 36 j)) :
    ∃ I' D' K' J' E', f_L_law_J390 rec242 LS xs 4 4 c 2 x6 (nI o) K (nI (sm (spC I D s (opN o (D (30 + s) 1))) c)) M I Dd = rec242 (x6 + 1) I' D' K' M ∧ RR 0 4 4 c 2 (h + 24) I' D' J' E' ∧ DR K' (N + 12) := by
  have hc := R.c12
  obtain ⟨v, I1, D1, J1, E1, p1, p2, p3, p4⟩ := pass_X R (N := 24) (by decide) (by decide) (by omega)
  unfold f_L_law_J390
  rw [show f_X4_pass I Dd 24 = _ from p1, eO_ok, bd_s]
  dsimp only
  have h403 := law403 (LS := LS) (xs := xs) p2 rec242 x6 (nI o) K M (spC I D s (opN o (D (30 + s) 1))) (wasB I D s) (wasB_01 I D s) hK (fun j hj => by
    obtain ⟨q1, q2, q3, q4, q5, ⟨m, hm, q6⟩, q7, q8, q9⟩ := R.bat.1 j hj
    rw [spC_EV (by decide) hs (by omega) q6 (k1 _ _ (by omega)) k2 (k1 _ _ (by omega)) (p4 j m hj hm q6)]
    unfold wasB
    by_cases e : I (18 + j) 2 = nI s ∧ coV (D (18 + j) 4) = 0
    · rw [if_pos e, if_pos e, if_pos rfl]
    · rw [if_neg e, if_neg e, if_neg (by decide)]) (fun h0 j hj => by
    have ho0 : o = 0 := (nI_eq (b := 0) (show o < 2 ^ 31 by omega) (by decide)).mp h0
    have eD : Dd = D := by
      funext k j
      by_cases e : k = 30 + s ∧ j = 1
      · rw [e.1, e.2, k2, ho0]; rfl
      · exact k1 k j e
    obtain ⟨mx, m1, m2, m3, m4⟩ := hM j hj
    refine ⟨m3, m4 I1 D1 ?_⟩
    have z := p4 j mx hj m1 m2
    rw [eD] at z
    exact z) c 0 14 (by omega) (by omega)
  have e0 : f_L_law_L403 rec242 LS xs 4 4 c 2 x6 (nI o) K (nI (sm (spC I D s (opN o (D (30 + s) 1))) c)) M I1 D1 14 0 0 = f_L_law_L540 rec242 LS xs 4 4 c 2 x6 M 14 0 I1 D1 K := h403
  rw [e0]
  obtain ⟨I', D', K', J', E', r1, r2, r3⟩ := law540 (xs := xs) hLS rec242 x6 M c 0 14 N I1 D1 K J1 E1 (by omega) (by omega) (by omega) p2 hd
  exact ⟨I', D', K', J', E', r1, r2, r3.cong rfl (by omega)⟩
set_option maxRecDepth 20000 in
theorem law242 (hLS : LS < 2 ^ 31) (rec2 : Int32 → Option Int32) (x1 : Int32) : ∀ (m i n N h : Nat) (I : MI) (D : MD) (K : MI) (M : MD) (J : MI) (E : MD), i + m = 4 → m < n → N + 20 * m + 100 < 2 ^ 19 → h + 24 * m + 300 < 2 ^ 20 → RR 0 4 4 c 2 h I D J E → DR K N → f_L_law_L242 rec2 LS xs x1 4 4 c 2 n (nI i) I D K M = rec2 (x1 + 1)
  | 0, i, n, N, h, I, D, K, M, J, E, h1, h2, hN, hh, R, hd => by
    obtain ⟨n, rfl⟩ : ∃ n', n = n' + 1 := ⟨n - 1, by omega⟩
    obtain rfl : i = 4 := by omega
    rw [f_L_law_L242, if_pos (show (4 : Int32) ≤ nI 4 by decide)]
  | m + 1, i, n, N, h, I, D, K, M, J, E, h1, h2, hN, hh, R, hd => by
    obtain ⟨n, rfl⟩ : ∃ n', n = n' + 1 := ⟨n - 1, by omega⟩
    have hc := R.c12
    obtain ⟨s, K1, hs, e1, d1, k1⟩ := draw_k (LS := LS) (xs := xs) (a := 4) (b := 4) (c := c) (d := 2) (I := I) (D := D) (M := M) hLS hd (by omega) (show 0 < 2 by decide) (by decide) 2
    obtain ⟨o, K2, ho, e2, d2, k2⟩ := draw_k (LS := LS) (xs := xs) (a := 4) (b := 4) (c := c) (d := 2) (I := I) (D := D) (M := M) hLS d1 (by omega) (show 0 < 9 by decide) (by decide) 9
    rw [f_L_law_L242, if_neg (show ¬ (4 : Int32) ≤ nI i from nI_ge (a := i) (b := 4) (by omega) (by decide)), e1, bd_s]
    dsimp only
    rw [e2, bd_s]
    dsimp only
    rw [nm_v]
    have d3 : DR (va_up K2 35 (fun _ => 0)) (N + 2) := d2.cong (by rw [va_ap, if_neg (by decide)]) (Nat.le_refl _)
    obtain ⟨K3, r1, r2, r3⟩ := law275 (LS := LS) (xs := xs) R (f_L_law_L242 rec2 LS xs x1 4 4 c 2 n) (nI i) M (s := s) (nI o) c 0 14 (va_up K2 35 (fun _ => 0)) (by omega) (by omega) (fun j hj => absurd hj (by omega))
    have d4 : DR K3 (N + 2) := d3.cong (r3 40 2 (by decide)) (Nat.le_refl _)
    rw [show f_L_law_L275 (f_L_law_L242 rec2 LS xs x1 4 4 c 2 n) LS xs 4 4 c 2 (nI i) I D M (nI s) (nI o) 14 0 (va_up K2 35 (fun _ => 0)) = _ from r1, spoil_X R hs (show o ≤ 20 by omega), eO_ok, bd_s]
    obtain ⟨M1, s1, s2⟩ := law341 (LS := LS) (xs := xs) R (f_L_law_L242 rec2 LS xs x1 4 4 c 2 n) (nI i) (nI s) (nI o) K3 (nI (sm (spC I D s (opN o (D (30 + s) 1))) c)) c 0 14 (va_up M 36 (fun _ => 0)) (by omega) (by omega) (fun j hj => absurd hj (by omega))
    rw [show f_L_law_L341 (f_L_law_L242 rec2 LS xs x1 4 4 c 2 n) LS xs 4 4 c 2 (nI i) I D (nI s) (nI o) K3 (nI (sm (spC I D s (opN o (D (30 + s) 1))) c)) 14 0 (va_up M 36 (fun _ => 0)) = _ from s1]
    unfold lawP
    by_cases e0 : nI o ≤ 0
    · have ho0 : o = 0 := by
        have := (nI_leI (b := 0) (show o < 2 ^ 31 by omega) (by decide)).mp e0
        omega
      rw [if_pos e0]
      obtain ⟨I', D', K', J', E', z1, z2, z3⟩ := law390 (xs := xs) hLS (f_L_law_L242 rec2 LS xs x1 4 4 c 2 n) (nI i) (N := N + 2) (s := s) (o := o) (K := K3) (M := M1) (Dd := D) hs (by omega) (by omega) (by omega) d4 R R (fun _ _ _ => rfl) (by rw [ho0]; rfl) r2 s2
      rw [z1, nI_1]
      exact law242 hLS rec2 x1 m (i + 1) n (N + 14) (h + 24) I' D' K' M1 J' E' (by omega) (by omega) (by omega) (by omega) z2 (z3.cong rfl (by omega))
    · have ho1 : 1 ≤ o := Decidable.byContradiction (fun q => e0 (by
        obtain rfl : o = 0 := by omega
        decide))
      rw [if_neg e0]
      obtain ⟨x1', x2⟩ := x_door R hs ho1 (show o ≤ 20 by omega)
      obtain ⟨w1, w2, w3, w4, w5⟩ := R.sto s hs
      have hop := opN_rg o w5
      rw [x1', eO_ok, bd_s]
      dsimp only
      rw [if_pos ((cm_le hop.1 rc_8.1 _).mpr (by rw [zc_8]; exact hop.2.2))]
      obtain ⟨I', D', K', J', E', z1, z2, z3⟩ := law390 (xs := xs) hLS (f_L_law_L242 rec2 LS xs x1 4 4 c 2 n) (nI i) (N := N + 2) (s := s) (o := o) (K := K3) (M := M1) (Dd := up2 D (30 + s) 1 (opN o (D (30 + s) 1))) hs (by omega) (by omega) (by omega) d4 R x2 (fun k j q => by rw [up2_ap, if_neg q]) (up2_hit _ _ _ _) r2 s2
      rw [z1, nI_1]
      exact law242 hLS rec2 x1 m (i + 1) n (N + 14) (h + 24) I' D' K' M1 J' E' (by omega) (by omega) (by omega) (by omega) z2 (z3.cong rfl (by omega))
set_option maxRecDepth 20000 in
theorem lawD_ok (hLS : LS < 2 ^ 31) (rec2 : Int32 → Option Int32) (x1 : Int32) {N : Nat} {K : MI} {M : MD} (T : TR 4 4 c 2 N I D K M) (hN : N + 1000 < 2 ^ 19) : lawD rec2 LS xs x1 c I D K M = rec2 (x1 + 1) := by
  obtain ⟨hd, h, J, E, hh, R, T⟩ := T
  obtain ⟨w, I1, J1, E1, y1, y2, y3⟩ := digest_X R
  obtain ⟨I2, K2, z1, z2, z3⟩ := isBest_ok (LS := LS) (xs := xs) (M := M) (K := K) y3
  obtain ⟨w', I3, J3, E3, v1, v2, v3⟩ := digest_X z2
  have ew : w' = w := by
    rw [y2] at v2
    have := Option.some.inj v2
    exact (congrArg Prod.fst this).symm
  subst ew
  unfold lawD
  rw [y1, eO_ok, bd_s]
  dsimp only
  rw [z1, bd_s]
  dsimp only
  rw [if_neg (show ¬ (1 : Int32) = 0 by decide), v1, eO_ok, bd_s]
  dsimp only
  have hcmp : lg_cmp w' w' = 0 := by simp [lg_cmp]
  rw [if_pos hcmp]
  exact law242 hLS rec2 x1 4 0 5 N h I3 D K2 M J E (by decide) (by decide) (by omega) (by omega) v3 (hd.cong (z3 40 2 (by decide)) (Nat.le_refl _))
set_option maxRecDepth 20000 in
theorem law2 (hLS : LS < 2 ^ 31) : ∀ (m i n : Nat), i + m = 3 → m < n → f_L_law_L2 LS xs n (nI i) = some 1
  | 0, i, n, h1, h2 => by
    obtain ⟨n, rfl⟩ : ∃ n', n = n' + 1 := ⟨n - 1, by omega⟩
    obtain rfl : i = 3 := by omega
    rw [f_L_law_L2, if_pos (show (3 : Int32) ≤ nI 3 by decide)]
  | m + 1, i, n, h1, h2 => by
    obtain ⟨n, rfl⟩ : ∃ n', n = n' + 1 := ⟨n - 1, by omega⟩
    have ih := law2 hLS m (i + 1) n (by omega) (by omega)
    have eq : (31 : Int32) * nI i + 7 = nI (31 * i + 7) := by
      rw [show (31 : Int32) * nI i = nI (31 * i) from pk_mul 31 i]
      exact nI_add (31 * i) 7
    rw [f_L_law_L2, if_neg (show ¬ (3 : Int32) ≤ nI i from nI_ge (a := i) (b := 3) (by omega) (by decide)), eq, nm_v]
    have T0 : TR 0 0 0 0 100 I0 D0 (kT0 (nI (31 * i + 7))) D0 := TR_0 (by omega)
    obtain ⟨I1, D1, K1, M1, r1, r2⟩ := T_founded (xs := xs) hLS T0 (by decide)
    obtain ⟨I2, D2, K2, s1, s2⟩ := T_mix (xs := xs) hLS r2 (by decide) (by decide) (by decide)
    obtain ⟨I3, D3, K3, M3, t1, t2⟩ := T_pass (LS := LS) (xs := xs) s2 (by decide) (n := 4) (by decide) (by decide)
    obtain ⟨I4, D4, K4, M4, u1, u2⟩ := law55 (LS := LS) (xs := xs) (f_L_law_L2 LS xs n) (nI i) 3 0 4 I3 D3 K3 (by decide) (by decide) t2 (by decide)
    obtain ⟨c, I5, D5, K5, M5, v1, v2⟩ := law138 (xs := xs) hLS (f_L_law_L2 LS xs n) (nI i) 8 0 9 0 _ I4 D4 K4 M4 (by decide) (by decide) u2 (by decide)
    have hc : c ≤ 12 := by
      obtain ⟨-, h, J, E, -, R, -⟩ := v2
      exact R.c12
    obtain ⟨I6, D6, K6, M6, w1, w2⟩ := law170 (xs := xs) hLS (f_L_law_L2 LS xs n) (nI i) c 0 14 _ I5 D5 K5 M5 (by omega) (by omega) v2 (by omega)
    have z := lawD_ok (xs := xs) hLS (f_L_law_L2 LS xs n) (nI i) (w2.mono (N' := 3000) (by omega)) (by decide)
    rw [r1, bd_s]
    dsimp only
    rw [if_neg (show ¬ (1 : Int32) = 0 by decide), s1, bd_s]
    dsimp only
    rw [if_neg (show ¬ (1 : Int32) = 0 by decide), show f_T_pass LS xs 4 (3 + 1) 0 2 I2 D2 K2 M1 4 = _ from t1, bd_s]
    dsimp only
    rw [if_neg (show ¬ (1 : Int32) = 0 by decide)]
    refine Eq.trans u1 (v1.trans (w1.trans (z.trans ?_)))
    rw [nI_1]
    exact ih
set_option maxRecDepth 20000 in
theorem law_all (hLS : LS < 2 ^ 31) : f_L_law LS xs = some 1 := by
  unfold f_L_law
  exact law2 hLS 3 0 4 (by decide) (by decide)
end LEN
