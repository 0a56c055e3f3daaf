/-! ===== an hour of the reference's cold at kb ===== -/
section HRM
variable {a b c d : Nat}
/- the freezing points, as the reference reckons them -/
def GZ (a b : Nat) (J : MI) (fz : Nat → UInt64) : Prop := GT a b J ∧ ∀ m, m < b → ∃ K F M S, MS a m J K F M S ∧ fz m = fF S M K
set_option maxRecDepth 20000 in
theorem GZ.cong {J J' : MI} {fz : Nat → UInt64} (h : GZ a b J fz) (h1 : ∀ j n, j = 1 ∨ j = 2 ∨ (14 ≤ j ∧ j < 30) → J' j n = J j n) : GZ a b J' fz := by
  refine ⟨h.1.cong (fun n => h1 1 n (Or.inl rfl)) (fun n => h1 2 n (Or.inr (Or.inl rfl))), fun m hm => ?_⟩
  obtain ⟨K, F, M, S, q, e⟩ := h.2 m hm
  have hb := h.1.2.2.2
  exact ⟨K, F, M, S, q.cong (fun i n g1 g2 => h1 i n (by omega)) (fun n => h1 _ n (by omega)), e⟩
set_option maxRecDepth 20000 in
theorem GZ.ice {J : MI} {fz : Nat → UInt64} (h : GZ a b J fz) (E : MD) {m : Nat} (hm : m < b) {t : UInt64} (ht : FP.Core.DFin t) : f_X6_ice a b J E m t = some (fI (fz m) t) := by
  obtain ⟨K, F, M, S, q, e⟩ := h.2 m hm
  rw [q.ice h.1 E ht, e]
set_option maxRecDepth 20000 in
theorem GZ.frz {J : MI} {fz : Nat → UInt64} (h : GZ a b J fz) (E : MD) {m : Nat} (hm : m < b) : f_X6_freezes a b J E m = some (fz m) := by
  obtain ⟨K, F, M, S, q, e⟩ := h.2 m hm
  rw [q.freezes h.1 E, e]
set_option maxRecDepth 20000 in
theorem GZ.rg {J : MI} {fz : Nat → UInt64} (h : GZ a b J fz) {m : Nat} (hm : m < b) : rg (-300) 0 (fz m) := by
  obtain ⟨K, F, M, S, q, e⟩ := h.2 m hm
  rw [e]
  exact q.frg
set_option maxRecDepth 20000 in
theorem RR.gz {x : Int32} {h : Nat} {I J : MI} {D E : MD} (R : RR x a b c d h I D J E) : GZ a b J (fun m => D (13 + m) 11) := ⟨R.gt, fun m hm => ⟨_, _, _, _, R.ms hm, R.frz hm⟩⟩
/- where a batch of store s is behind the hour, by the freezing point and the temperature ahead -/
def meP (s : Nat) (f t : UInt64) : Int32 := if zv t < zv f then nI s else 11
set_option maxRecDepth 20000 in
theorem hr_in (kb : Nat) (hkb : kb = 5 ∨ kb = 30) (rec : Int32 → MI → MD → Option (MI × MD)) (fz : Nat → UInt64) {s : Nat} (hs : s < 3) (hc : c ≤ 12) {t0 t1 : UInt64} (ht0 : FP.Core.DFin t0) (ht1 : FP.Core.DFin t1) {hi : Int} (hhi : 640 ≤ hi ∧ hi < 2 ^ 40) (D45 : MD) (hD : D45 (kb + 7) s = t0) :
    ∀ (m i n : Nat) (J : MI) (E : MD), i + m = c → m < n → GZ a b J fz → J kb 0 = nI c → E (kb + 7) s = t1 → (∀ j, i ≤ j → j < c → J (kb + 4) j = nI s → ∃ mx, mx < b ∧ J (kb + 1) j = nI mx ∧ rg 640 hi (E (kb + 5) j)) →
    ∃ J' E', f_X5_hour_L84 rec a b kb (nI s) D45 n (nI i) J E = rec (nI s + 1) J' E' ∧ (∀ k j, ¬ (k = kb + 4 ∧ i ≤ j ∧ j < c) → J' k j = J k j) ∧ (∀ k j, ¬ (k = kb + 5 ∧ i ≤ j ∧ j < c) → E' k j = E k j) ∧
      ∀ j, i ≤ j → j < c → (∀ mx, J (kb + 4) j = nI s → J (kb + 1) j = nI mx → mx < b → J' (kb + 4) j = meP s (fz mx) t0 ∧ E' (kb + 5) j = FP.dadd (E (kb + 5) j) (fA (fz mx) t0 t1)) ∧ (J (kb + 4) j ≠ nI s → J' (kb + 4) j = J (kb + 4) j ∧ E' (kb + 5) j = E (kb + 5) j) := by
  intro m
  induction m with
  | zero =>
    intro i n J E h1 h2 G hJ hE hB
    obtain ⟨n, rfl⟩ : ∃ n', n = n' + 1 := ⟨n - 1, by omega⟩
    obtain rfl : i = c := by omega
    refine ⟨J, E, ?_, fun _ _ _ => rfl, fun _ _ _ => rfl, fun j g1 g2 => absurd g1 (by omega)⟩
    rw [f_X5_hour_L84, hJ, if_pos (nI_le (Nat.le_refl _) (by omega))]
  | succ m ih =>
    intro i n J E h1 h2 G hJ hE hB
    obtain ⟨n, rfl⟩ : ∃ n', n = n' + 1 := ⟨n - 1, by omega⟩
    have hic : i < c := by omega
    /- one step to (J1, E1) that differ at batch i alone -/
    have go : ∀ (J1 : MI) (E1 : MD), (∀ k j, ¬ (k = kb + 4 ∧ j = i) → J1 k j = J k j) → (∀ k j, ¬ (k = kb + 5 ∧ j = i) → E1 k j = E k j) → f_X5_hour_L84 rec a b kb (nI s) D45 (n + 1) (nI i) J E = f_X5_hour_L84 rec a b kb (nI s) D45 n (nI (i + 1)) J1 E1 → ((∀ mx, J (kb + 4) i = nI s → J (kb + 1) i = nI mx → mx < b → J1 (kb + 4) i = meP s (fz mx) t0 ∧ E1 (kb + 5) i = FP.dadd (E (kb + 5) i) (fA (fz mx) t0 t1)) ∧ (J (kb + 4) i ≠ nI s → J1 (kb + 4) i = J (kb + 4) i ∧ E1 (kb + 5) i = E (kb + 5) i)) →
        ∃ J' E', f_X5_hour_L84 rec a b kb (nI s) D45 (n + 1) (nI i) J E = rec (nI s + 1) J' E' ∧ (∀ k j, ¬ (k = kb + 4 ∧ i ≤ j ∧ j < c) → J' k j = J k j) ∧ (∀ k j, ¬ (k = kb + 5 ∧ i ≤ j ∧ j < c) → E' k j = E k j) ∧ ∀ j, i ≤ j → j < c → (∀ mx, J (kb + 4) j = nI s → J (kb + 1) j = nI mx → mx < b → J' (kb + 4) j = meP s (fz mx) t0 ∧ E' (kb + 5) j = FP.dadd (E (kb + 5) j) (fA (fz mx) t0 t1)) ∧ (J (kb + 4) j ≠ nI s → J' (kb + 4) j = J (kb + 4) j ∧ E' (kb + 5) j = E (kb + 5) j) := by
      intro J1 E1 g1 g2 g3 g4
      obtain ⟨J', E', r1, r2, r3, r4⟩ := ih (i + 1) n J1 E1 (by omega) (by omega) (G.cong (fun j n' q => g1 j n' (by omega))) (by rw [g1 _ _ (by omega)]; exact hJ) (by rw [g2 _ _ (by omega)]; exact hE) (fun j y1 y2 y3 => by
        rw [g1 _ _ (by omega)] at y3
        rw [g1 _ _ (by omega), g2 _ _ (by omega)]
        exact hB j (by omega) y2 y3)
      refine ⟨J', E', g3.trans r1, fun k j q => ?_, fun k j q => ?_, fun j y1 y2 => ?_⟩
      · rw [r2 k j (by omega), g1 k j (by omega)]
      · rw [r3 k j (by omega), g2 k j (by omega)]
      · by_cases e : j = i
        · subst e
          rw [r2 _ _ (by omega), r3 _ _ (by omega)]
          exact g4
        · have z := r4 j (by omega) y2
          rw [g1 _ _ (by omega), g1 _ _ (by omega), g2 _ _ (by omega)] at z
          exact z
    have st : f_X5_hour_L84 rec a b kb (nI s) D45 (n + 1) (nI i) J E = (if J (kb + 4) i = nI s then bd (f_get2 a b J E (J (kb + 1) i)) (fun r_29 => bd (f_X6_ice a b J E r_29 t0) (fun r_36 => bd (f_X6_ice a b J E r_29 t1) (fun r_42 => ck (okD (FP.dsub r_36 r_42)) (bd (f_J9_abs_294c1 (FP.dsub r_36 r_42)) (fun r_46 => ck (okD (FP.dmul (4627448617123184640 : UInt64) r_46)) (ck (okD (FP.dadd (E (kb + 5) i) (FP.dmul (4627448617123184640 : UInt64) r_46))) (bd (f_X6_freezes a b J (up2 E (kb + 5) i (FP.dadd (E (kb + 5) i) (FP.dmul (4627448617123184640 : UInt64) r_46))) r_29) (fun r_53 => (if (Op.cmpValue (FP.dcmp t0 r_53) CmpOp.g) < 0 then f_X5_hour_L84 rec a b kb (nI s) D45 n (nI (i + 1)) J (up2 E (kb + 5) i (FP.dadd (E (kb + 5) i) (FP.dmul (4627448617123184640 : UInt64) r_46))) else f_X5_hour_L84 rec a b kb (nI s) D45 n (nI (i + 1)) (up2 J (kb + 4) i 11) (up2 E (kb + 5) i (FP.dadd (E (kb + 5) i) (FP.dmul (4627448617123184640 : UInt64) r_46)))))))))))) else f_X5_hour_L84 rec a b kb (nI s) D45 n (nI (i + 1)) J E) := by
      rw [f_X5_hour_L84, hJ, if_neg (nI_ge (by omega) (by omega)), inB_nI (show i < 12 by omega) (by decide), nI_clamp (show i < 2 ^ 31 by omega), inB_nI hs (by decide), nI_clamp (show s < 2 ^ 31 by omega), hD, hE, nI_1]
      simp only [ckt, nm_v]
    by_cases hq : J (kb + 4) i = nI s
    · obtain ⟨mx, hmx, emx, hcr⟩ := hB i (Nat.le_refl _) hic hq
      have hf := G.rg hmx
      have hX := fX_rg hf ht0 ht1
      have hA := fA_rg hf ht0 ht1
      have hS := rg_add hcr hA (by decide) (by omega)
      have hab : f_J9_abs_294c1 (FP.dsub (fI (fz mx) t0) (fI (fz mx) t1)) = some ((fX (fz mx) t0 t1) &&& 0x7fffffffffffffff) := by
        have k := hX.okD
        unfold okD at k
        unfold f_J9_abs_294c1
        rw [show decide ((FP.dsub (fI (fz mx) t0) (fI (fz mx) t1)) &&& 0x7fffffffffffffff ≤ 0x7ff0000000000000) = true from k, ckt]
        rfl
      rw [if_pos hq, emx, get2_ok G.1 E hmx, bd_s, G.ice E hmx ht0, bd_s, G.ice E hmx ht1, bd_s, show okD (FP.dsub (fI (fz mx) t0) (fI (fz mx) t1)) = true from hX.okD, ckt, hab, bd_s, show okD (FP.dmul (4627448617123184640 : UInt64) (fX (fz mx) t0 t1 &&& 0x7fffffffffffffff)) = true from hA.okD, ckt, show okD (FP.dadd (E (kb + 5) i) (FP.dmul (4627448617123184640 : UInt64) (fX (fz mx) t0 t1 &&& 0x7fffffffffffffff))) = true from hS.okD, ckt, G.frz _ hmx, bd_s] at st
      have hval : ∀ mx', J (kb + 1) i = nI mx' → mx' < b → mx' = mx := fun mx' e1 e2 => by
        rw [emx] at e1
        have hb := G.1.2.2.2
        exact ((nI_eq (by omega) (by omega)).mp e1).symm
      by_cases hm : zv t0 < zv (fz mx)
      · rw [if_pos ((cm_lt ht0 hf.1 _).mpr hm)] at st
        refine go _ _ (fun _ _ _ => rfl) (fun k j q => by rw [up2_ap, if_neg q]) st ⟨fun mx' e0 e1 e2 => ?_, fun q => absurd hq q⟩
        rw [hval mx' e1 e2]
        refine ⟨?_, up2_hit _ _ _ _⟩
        unfold meP
        rw [if_pos hm]
        exact hq
      · rw [if_neg (fun q => hm ((cm_lt ht0 hf.1 _).mp q))] at st
        refine go _ _ (fun k j q => by rw [up2_ap, if_neg q]) (fun k j q => by rw [up2_ap, if_neg q]) st ⟨fun mx' e0 e1 e2 => ?_, fun q => absurd hq q⟩
        rw [hval mx' e1 e2]
        refine ⟨?_, up2_hit _ _ _ _⟩
        unfold meP
        rw [if_neg hm, up2_hit]
    · rw [if_neg hq] at st
      exact go _ _ (fun _ _ _ => rfl) (fun _ _ _ => rfl) st ⟨fun mx q => absurd q hq, fun _ => ⟨rfl, rfl⟩⟩
set_option maxRecDepth 20000 in
theorem nI_11 {s : Nat} (hs : s < 3) : (11 : Int32) ≠ nI s := fun e => by
  have := (nI_eq (a := 11) (by decide) (show s < 2 ^ 31 by omega)).mp e
  omega
set_option maxRecDepth 20000 in
theorem hr_out (kb : Nat) (hkb : kb = 5 ∨ kb = 30) (fz : Nat → UInt64) (hc : c ≤ 12) (hd : d ≤ 3) {hi : Int} (hhi : 640 ≤ hi ∧ hi < 2 ^ 40) :
    ∀ (m s n : Nat) (J : MI) (E : MD), s + m = d → m < n → GZ a b J fz → J kb 0 = nI c → J kb 6 = nI d → (∀ t, s ≤ t → t < d → -30 ≤ (J (kb + 6) t).toInt ∧ (J (kb + 6) t).toInt ≤ -10 ∧ rg (-1040) 256 (E (kb + 7) t)) → (∀ j, j < c → ∃ mx, mx < b ∧ J (kb + 1) j = nI mx ∧ ∀ t, s ≤ t → t < d → J (kb + 4) j = nI t → rg 640 hi (E (kb + 5) j)) →
    ∃ J' E', f_X5_hour_L45 a b kb n (nI s) J E = some (J', E') ∧ (∀ k j, ¬ (k = kb + 4 ∧ j < c) → J' k j = J k j) ∧ (∀ k j, ¬ (k = kb + 5 ∧ j < c) → ¬ (k = kb + 7 ∧ s ≤ j ∧ j < d) → E' k j = E k j) ∧
      (∀ t, s ≤ t → t < d → E' (kb + 7) t = fH (J (kb + 6) t) (E (kb + 7) t)) ∧
      ∀ j, j < c → (∀ mx t, s ≤ t → t < d → J (kb + 4) j = nI t → J (kb + 1) j = nI mx → mx < b → J' (kb + 4) j = meP t (fz mx) (E (kb + 7) t) ∧ E' (kb + 5) j = FP.dadd (E (kb + 5) j) (fA (fz mx) (E (kb + 7) t) (fH (J (kb + 6) t) (E (kb + 7) t)))) ∧ ((∀ t, s ≤ t → t < d → J (kb + 4) j ≠ nI t) → J' (kb + 4) j = J (kb + 4) j ∧ E' (kb + 5) j = E (kb + 5) j) := by
  intro m
  induction m with
  | zero =>
    intro s n J E h1 h2 G hJ hJ6 hS hB
    obtain ⟨n, rfl⟩ : ∃ n', n = n' + 1 := ⟨n - 1, by omega⟩
    obtain rfl : s = d := by omega
    refine ⟨J, E, ?_, fun _ _ _ => rfl, fun _ _ _ _ => rfl, fun t g1 g2 => absurd g1 (by omega), fun j _ => ⟨fun mx t g1 g2 => absurd g1 (by omega), fun _ => ⟨rfl, rfl⟩⟩⟩
    rw [f_X5_hour_L45, hJ6, if_pos (nI_le (Nat.le_refl _) (by omega))]
  | succ m ih =>
    intro s n J E h1 h2 G hJ hJ6 hS hB
    obtain ⟨n, rfl⟩ : ∃ n', n = n' + 1 := ⟨n - 1, by omega⟩
    obtain ⟨s1, s2, s3⟩ := hS s (Nat.le_refl _) (by omega)
    obtain ⟨f1, f2, f3⟩ := fH_all s1 s2 s3
    have hs3 : s < 3 := by omega
    have st : f_X5_hour_L45 a b kb (n + 1) (nI s) J E = f_X5_hour_L84 (f_X5_hour_L45 a b kb n) a b kb (nI s) E 200 (nI 0) J (up2 E (kb + 7) s (fH (J (kb + 6) s) (E (kb + 7) s))) := by
      rw [f_X5_hour_L45, hJ6, if_neg (nI_ge (by omega) (by omega)), inB_nI hs3 (by decide), nI_clamp (show s < 2 ^ 31 by omega), f1.okD, f2.okD, show FP.dadd (E (kb + 7) s) (FP.dmul (FP.dsub (FP.i2d (J (kb + 6) s)) (E (kb + 7) s)) (4598175219545276416 : UInt64)) = fH (J (kb + 6) s) (E (kb + 7) s) from rfl, f3.okD, ckt, ckt, ckt, ckt, ckt, ckt, nm_v, show (0 : Int32) = nI 0 from rfl]
    obtain ⟨J1, E1, r1, r2, r3, r4⟩ := hr_in kb hkb (f_X5_hour_L45 a b kb n) fz hs3 hc s3.1 f3.1 hhi E rfl c 0 200 J (up2 E (kb + 7) s (fH (J (kb + 6) s) (E (kb + 7) s))) (by omega) (by omega) G hJ (up2_hit _ _ _ _) (fun j _ g2 g3 => by
      obtain ⟨mx, y1, y2, y3⟩ := hB j g2
      exact ⟨mx, y1, y2, by rw [up2_k _ _ _ _ (by omega)]; exact y3 s (Nat.le_refl _) (by omega) g3⟩)
    rw [nI_1] at r1
    have k1 : ∀ k j, k ≠ kb + 4 → J1 k j = J k j := fun k j q => r2 k j (by omega)
    have k7 : ∀ t, t ≠ s → E1 (kb + 7) t = E (kb + 7) t := fun t q => by rw [r3 _ _ (by omega), up2_n _ _ _ q]
    have u5 : ∀ j, up2 E (kb + 7) s (fH (J (kb + 6) s) (E (kb + 7) s)) (kb + 5) j = E (kb + 5) j := fun j => up2_k _ _ _ _ (by omega)
    /- a batch that stands in a later store behind this one's turn stood there ahead, unchanged -/
    have later : ∀ j, j < c → ∀ t, s + 1 ≤ t → t < d → J1 (kb + 4) j = nI t → J (kb + 4) j = nI t ∧ E1 (kb + 5) j = E (kb + 5) j := by
      intro j hj t g1 g2 g3
      obtain ⟨mx, y1, y2, -⟩ := hB j hj
      obtain ⟨z1, z2⟩ := r4 j (Nat.zero_le _) hj
      by_cases e : J (kb + 4) j = nI s
      · exfalso
        obtain ⟨w1, -⟩ := z1 mx e y2 y1
        rw [g3] at w1
        unfold meP at w1
        split at w1
        · have := (nI_eq (show t < 2 ^ 31 by omega) (show s < 2 ^ 31 by omega)).mp w1
          omega
        · exact nI_11 (show t < 3 by omega) w1.symm
      · obtain ⟨w1, w2⟩ := z2 e
        rw [u5] at w2
        exact ⟨by rw [← w1]; exact g3, w2⟩
    obtain ⟨J', E', p1, p2, p3, p4, p5⟩ := ih (s + 1) n J1 E1 (by omega) (by omega) (G.cong (fun j n' q => k1 j n' (by omega))) (by rw [k1 _ _ (by omega)]; exact hJ) (by rw [k1 _ _ (by omega)]; exact hJ6) (fun t g1 g2 => by rw [k1 _ _ (by omega), k7 t (by omega)]; exact hS t (by omega) g2) (fun j hj => by
      obtain ⟨mx, y1, y2, y3⟩ := hB j hj
      refine ⟨mx, y1, by rw [k1 _ _ (by omega)]; exact y2, fun t g1 g2 g3 => ?_⟩
      obtain ⟨w1, w2⟩ := later j hj t g1 g2 g3
      rw [w2]
      exact y3 t (by omega) g2 w1)
    refine ⟨J', E', st.trans (r1.trans p1), fun k j q => ?_, fun k j q1 q2 => ?_, fun t g1 g2 => ?_, fun j hj => ⟨fun mx t g1 g2 g3 g4 g5 => ?_, fun g => ?_⟩⟩
    · rw [p2 k j q, r2 k j (by omega)]
    · rw [p3 k j q1 (by omega), r3 k j (by omega), up2_ap, if_neg (by omega)]
    · by_cases e : t = s
      · subst e
        rw [p3 _ _ (by omega) (by omega), r3 _ _ (by omega), up2_hit]
      · rw [p4 t (by omega) g2, k1 _ _ (by omega), k7 t e]
    · by_cases e : t = s
      · subst e
        obtain ⟨w1, w2⟩ := (r4 j (Nat.zero_le _) hj).1 mx g3 g4 g5
        rw [u5] at w2
        have hno : ∀ t', t + 1 ≤ t' → t' < d → J1 (kb + 4) j ≠ nI t' := by
          intro t' y1 y2 y3
          obtain ⟨v1, -⟩ := later j hj t' y1 y2 y3
          rw [g3] at v1
          have := (nI_eq (show t < 2 ^ 31 by omega) (show t' < 2 ^ 31 by omega)).mp v1
          omega
        obtain ⟨v1, v2⟩ := (p5 j hj).2 hno
        exact ⟨v1.trans w1, v2.trans w2⟩
      · have hne : J (kb + 4) j ≠ nI s := fun q => by
          rw [g3] at q
          have := (nI_eq (show t < 2 ^ 31 by omega) (show s < 2 ^ 31 by omega)).mp q
          omega
        obtain ⟨w1, w2⟩ := (r4 j (Nat.zero_le _) hj).2 hne
        rw [u5] at w2
        obtain ⟨v1, v2⟩ := (p5 j hj).1 mx t (by omega) g2 (by rw [w1]; exact g3) (by rw [k1 _ _ (by omega)]; exact g4) g5
        rw [k7 t e] at v1 v2
        rw [k1 _ _ (by omega), w2] at v2
        exact ⟨v1, v2⟩
    · obtain ⟨w1, w2⟩ := (r4 j (Nat.zero_le _) hj).2 (g s (Nat.le_refl _) (by omega))
      rw [u5] at w2
      obtain ⟨v1, v2⟩ := (p5 j hj).2 (fun t g1 g2 => by rw [w1]; exact g t (by omega) g2)
      exact ⟨v1.trans w1, v2.trans w2⟩
/- the belt -/
set_option maxRecDepth 20000 in
theorem hr_belt (kb : Nat) (hkb : kb = 5 ∨ kb = 30) (hc : c ≤ 12) (E : MD) : ∀ (m i n : Nat) (J : MI), i + m = c → m < n → J kb 0 = nI c →
    ∃ J', f_X5_hour_L2 a b kb n (nI i) J E = f_X5_hour_L45 a b kb 200 (nI 0) J' E ∧ (∀ k j, ¬ (k = kb + 4 ∧ i ≤ j ∧ j < c) → J' k j = J k j) ∧ ∀ j, i ≤ j → j < c → J' (kb + 4) j = (if J (kb + 4) j = -1 ∧ J (kb + 3) j = 0 then 11 else J (kb + 4) j) := by
  intro m
  induction m with
  | zero =>
    intro i n J h1 h2 hJ
    obtain ⟨n, rfl⟩ : ∃ n', n = n' + 1 := ⟨n - 1, by omega⟩
    obtain rfl : i = c := by omega
    refine ⟨J, ?_, fun _ _ _ => rfl, fun j g1 g2 => absurd g1 (by omega)⟩
    rw [f_X5_hour_L2, hJ, if_pos (nI_le (Nat.le_refl _) (by omega)), show (0 : Int32) = nI 0 from rfl]
  | succ m ih =>
    intro i n J h1 h2 hJ
    obtain ⟨n, rfl⟩ : ∃ n', n = n' + 1 := ⟨n - 1, by omega⟩
    have go : ∀ (J1 : MI), (∀ k j, ¬ (k = kb + 4 ∧ j = i) → J1 k j = J k j) → f_X5_hour_L2 a b kb (n + 1) (nI i) J E = f_X5_hour_L2 a b kb n (nI (i + 1)) J1 E → J1 (kb + 4) i = (if J (kb + 4) i = -1 ∧ J (kb + 3) i = 0 then 11 else J (kb + 4) i) →
        ∃ J', f_X5_hour_L2 a b kb (n + 1) (nI i) J E = f_X5_hour_L45 a b kb 200 (nI 0) J' E ∧ (∀ k j, ¬ (k = kb + 4 ∧ i ≤ j ∧ j < c) → J' k j = J k j) ∧ ∀ j, i ≤ j → j < c → J' (kb + 4) j = (if J (kb + 4) j = -1 ∧ J (kb + 3) j = 0 then 11 else J (kb + 4) j) := by
      intro J1 g1 g3 g4
      obtain ⟨J', r1, r2, r4⟩ := ih (i + 1) n J1 (by omega) (by omega) (by rw [g1 _ _ (by omega)]; exact hJ)
      refine ⟨J', g3.trans r1, fun k j q => ?_, fun j y1 y2 => ?_⟩
      · rw [r2 k j (by omega), g1 k j (by omega)]
      · by_cases e : j = i
        · subst e
          rw [r2 _ _ (by omega)]
          exact g4
        · have z := r4 j (by omega) y2
          rw [g1 _ _ (by omega), g1 _ _ (by omega)] at z
          exact z
    have st : f_X5_hour_L2 a b kb (n + 1) (nI i) J E = (if J (kb + 4) i = -1 then (if J (kb + 3) i = 0 then f_X5_hour_L2 a b kb n (nI (i + 1)) (up2 J (kb + 4) i 11) E else f_X5_hour_L2 a b kb n (nI (i + 1)) J E) else f_X5_hour_L2 a b kb n (nI (i + 1)) J E) := by
      rw [f_X5_hour_L2, hJ, if_neg (nI_ge (by omega) (by omega)), inB_nI (show i < 12 by omega) (by decide), nI_clamp (show i < 2 ^ 31 by omega), nI_1]
      rfl
    by_cases c1 : J (kb + 4) i = -1
    · rw [if_pos c1] at st
      by_cases c2 : J (kb + 3) i = 0
      · rw [if_pos c2] at st
        exact go _ (fun k j q => by rw [up2_ap, if_neg q]) st (by rw [up2_hit, if_pos ⟨c1, c2⟩])
      · rw [if_neg c2] at st
        exact go _ (fun _ _ _ => rfl) st (by rw [if_neg (fun q => c2 q.2)])
    · rw [if_neg c1] at st
      exact go _ (fun _ _ _ => rfl) st (by rw [if_neg (fun q => c1 q.1)])
/- where a batch is behind the hour -/
def plN (p hard : Int32) (f t : UInt64) : Int32 := if p = -1 then (if hard = 0 then 11 else -1) else if 10 ≤ p then p else (if zv t < zv f then p else 11)
/- its crystal -/
def crN (p : Int32) (cr f t t' : UInt64) : UInt64 := if p = -1 then cr else if 10 ≤ p then cr else FP.dadd cr (fA f t t')
/- what one must know of the cold at kb -/
def HC (b c d kb : Nat) (hi : Int) (J : MI) (E : MD) : Prop := J kb 0 = nI c ∧ J kb 6 = nI d ∧ (∀ t, t < d → -30 ≤ (J (kb + 6) t).toInt ∧ (J (kb + 6) t).toInt ≤ -10 ∧ rg (-1040) 256 (E (kb + 7) t)) ∧ ∀ j, j < c → ∃ mx, mx < b ∧ J (kb + 1) j = nI mx ∧ plOK d (J (kb + 4) j) ∧ rg 640 hi (E (kb + 5) j)
set_option maxRecDepth 20000 in
theorem hour_M {kb : Nat} (hkb : kb = 5 ∨ kb = 30) {fz : Nat → UInt64} (hc : c ≤ 12) (hd : d ≤ 3) {hi : Int} (hhi : 640 ≤ hi ∧ hi < 2 ^ 40) {J : MI} {E : MD} (G : GZ a b J fz) (H : HC b c d kb hi J E) :
    ∃ J' E', f_X5_hour a b J E kb = some (J', E') ∧ (∀ k j, ¬ (k = kb + 4 ∧ j < c) → J' k j = J k j) ∧ (∀ k j, ¬ (k = kb + 5 ∧ j < c) → ¬ (k = kb + 7 ∧ j < d) → E' k j = E k j) ∧
      (∀ t, t < d → E' (kb + 7) t = fH (J (kb + 6) t) (E (kb + 7) t)) ∧
      ∀ j mx, j < c → mx < b → J (kb + 1) j = nI mx → J' (kb + 4) j = plN (J (kb + 4) j) (J (kb + 3) j) (fz mx) (E (kb + 7) (J (kb + 4) j).toNatClampNeg) ∧ E' (kb + 5) j = crN (J (kb + 4) j) (E (kb + 5) j) (fz mx) (E (kb + 7) (J (kb + 4) j).toNatClampNeg) (fH (J (kb + 6) (J (kb + 4) j).toNatClampNeg) (E (kb + 7) (J (kb + 4) j).toNatClampNeg)) := by
  obtain ⟨H1, H2, H3, H4⟩ := H
  unfold f_X5_hour
  rw [show (0 : Int32) = nI 0 from rfl]
  obtain ⟨J1, r1, r2, r3⟩ := hr_belt (a := a) (b := b) kb hkb hc E c 0 200 J (by omega) (by omega) H1
  have k1 : ∀ k j, k ≠ kb + 4 → J1 k j = J k j := fun k j q => r2 k j (by omega)
  obtain ⟨J', E', p1, p2, p3, p4, p5⟩ := hr_out (a := a) (b := b) kb hkb fz hc hd hhi d 0 200 J1 E (by omega) (by omega) (G.cong (fun j n q => k1 j n (by omega))) (by rw [k1 _ _ (by omega)]; exact H1) (by rw [k1 _ _ (by omega)]; exact H2) (fun t _ g2 => by rw [k1 _ _ (by omega)]; exact H3 t g2) (fun j hj => by
    obtain ⟨mx, y1, y2, y3, y4⟩ := H4 j hj
    exact ⟨mx, y1, by rw [k1 _ _ (by omega)]; exact y2, fun _ _ _ _ => y4⟩)
  refine ⟨J', E', r1.trans p1, fun k j q => ?_, fun k j q1 q2 => p3 k j q1 (by omega), fun t g => ?_, fun j mx hj hm e => ?_⟩
  · rw [p2 k j q, r2 k j (by omega)]
  · rw [p4 t (Nat.zero_le _) g, k1 _ _ (by omega)]
  · obtain ⟨mx', y1, y2, y3, y4⟩ := H4 j hj
    obtain ⟨z1, z2⟩ := p5 j hj
    have hb := G.1.2.2.2
    have e1 : J1 (kb + 1) j = nI mx := by rw [k1 _ _ (by omega)]; exact e
    have e6 : ∀ t, J1 (kb + 6) t = J (kb + 6) t := fun t => k1 _ _ (by omega)
    have e4 := r3 j (Nat.zero_le _) hj
    have nost : ∀ p : Int32, (p = -1 ∨ 10 ≤ p) → ∀ t, 0 ≤ t → t < d → p ≠ nI t := by
      intro p hp t _ g2 q
      subst q
      rcases hp with hp | hp
      · have := nI_pos (show t < 2 ^ 31 by omega)
        rw [hp] at this
        exact this (by decide)
      · exact nI_ge (a := t) (b := 10) (by omega) (by decide) hp
    unfold plN crN
    rcases y3 with q | ⟨t, ht, q⟩ | q | q
    · rw [q, if_pos rfl, if_pos rfl]
      rw [q] at e4
      by_cases g : J (kb + 3) j = 0
      · rw [if_pos ⟨rfl, g⟩] at e4
        obtain ⟨w1, w2⟩ := z2 (by rw [e4]; exact nost 11 (Or.inr (by decide)))
        rw [if_pos g]
        exact ⟨w1.trans e4, w2⟩
      · rw [if_neg (fun y => g y.2)] at e4
        obtain ⟨w1, w2⟩ := z2 (by rw [e4]; exact nost _ (Or.inl rfl))
        rw [if_neg g]
        exact ⟨w1.trans e4, w2⟩
    · have n1 : ¬ nI t = -1 := fun y => nost (-1) (Or.inl rfl) t (Nat.zero_le _) ht y.symm
      have n2 : ¬ (10 : Int32) ≤ nI t := nI_ge (a := t) (b := 10) (by omega) (by decide)
      rw [q, if_neg (fun y => n1 y.1)] at e4
      obtain ⟨w1, w2⟩ := z1 mx t (Nat.zero_le _) ht e4 e1 hm
      rw [q, if_neg n1, if_neg n2, if_neg n1, if_neg n2, nI_clamp (show t < 2 ^ 31 by omega)]
      rw [e6] at w2
      exact ⟨w1, w2⟩
    · have n1 : ¬ (10 : Int32) = -1 := by decide
      rw [q, if_neg (fun y => n1 y.1)] at e4
      obtain ⟨w1, w2⟩ := z2 (by rw [e4]; exact nost _ (Or.inr (by decide)))
      rw [q, if_neg n1, if_pos (by decide), if_neg n1, if_pos (by decide)]
      exact ⟨w1.trans e4, w2⟩
    · have n1 : ¬ (11 : Int32) = -1 := by decide
      rw [q, if_neg (fun y => n1 y.1)] at e4
      obtain ⟨w1, w2⟩ := z2 (by rw [e4]; exact nost _ (Or.inr (by decide)))
      rw [q, if_neg n1, if_pos (by decide), if_neg n1, if_pos (by decide)]
      exact ⟨w1.trans e4, w2⟩
end HRM
