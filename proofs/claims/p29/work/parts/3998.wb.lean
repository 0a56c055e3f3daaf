/-! ===== what would be: the reference's copy, hours of it, the class's look ahead ===== -/
section WBB
variable {a b c d h : Nat} {x : Int32} {I J : MI} {D E : MD}
set_option maxRecDepth 20000 in
theorem clr_k {α : Type} (z : α) (I : Nat → Nat → α) {k : Nat} (h : k < 30) : clr z I k = I k := by
  unfold clr
  rw [if_neg (by omega)]
set_option maxRecDepth 20000 in
theorem cpy0 {α : Type} {f g : Nat → α} {n j : Nat} (h : j < n) : va_cpy f g 0 0 n j = f j := by
  rw [pk_cpy_in (Nat.zero_le _) (by omega), Nat.sub_zero, Nat.zero_add]
def cM1 (J : MI) : MI := up2 (clr 0 J) 30 0 (clr 0 J 5 0)
def cM2 (J : MI) : MI := upR (cM1 J) (30 + 1) (va_cpy (cM1 J (5 + 1)) (cM1 J (30 + 1)) 0 0 12)
def cM3 (J : MI) : MI := upR (cM2 J) (30 + 3) (va_cpy (cM2 J (5 + 3)) (cM2 J (30 + 3)) 0 0 12)
def cM4 (J : MI) : MI := upR (cM3 J) (30 + 4) (va_cpy (cM3 J (5 + 4)) (cM3 J (30 + 4)) 0 0 12)
def cM5 (J : MI) : MI := up2 (cM4 J) 30 6 (cM4 J 5 6)
def cM6 (J : MI) : MI := upR (cM5 J) (30 + 6) (va_cpy (cM5 J (5 + 6)) (cM5 J (30 + 6)) 0 0 3)
def cN1 (E : MD) : MD := upR (clr 0 E) (30 + 5) (va_cpy (clr 0 E (5 + 5)) (clr 0 E (30 + 5)) 0 0 12)
def cN2 (E : MD) : MD := upR (cN1 E) (30 + 7) (va_cpy (cN1 E (5 + 7)) (cN1 E (30 + 7)) 0 0 3)
set_option maxRecDepth 20000 in
theorem cM1_k (J : MI) {k : Nat} (h : k < 30) : cM1 J k = J k := by
  unfold cM1
  rw [up2_ne _ _ _ (by omega), clr_k _ _ h]
set_option maxRecDepth 20000 in
theorem cM2_k (J : MI) {k : Nat} (h : k < 30) : cM2 J k = J k := by
  unfold cM2
  rw [upR_k _ _ (by omega), cM1_k J h]
set_option maxRecDepth 20000 in
theorem cM3_k (J : MI) {k : Nat} (h : k < 30) : cM3 J k = J k := by
  unfold cM3
  rw [upR_k _ _ (by omega), cM2_k J h]
set_option maxRecDepth 20000 in
theorem cM4_k (J : MI) {k : Nat} (h : k < 30) : cM4 J k = J k := by
  unfold cM4
  rw [upR_k _ _ (by omega), cM3_k J h]
set_option maxRecDepth 20000 in
theorem cM5_k (J : MI) {k : Nat} (h : k < 30) : cM5 J k = J k := by
  unfold cM5
  rw [up2_ne _ _ _ (by omega), cM4_k J h]
set_option maxRecDepth 20000 in
theorem cM6_k (J : MI) {k : Nat} (h : k < 30) : cM6 J k = J k := by
  unfold cM6
  rw [upR_k _ _ (by omega), cM5_k J h]
set_option maxRecDepth 20000 in
theorem cN1_k (E : MD) {k : Nat} (h : k < 30) : cN1 E k = E k := by
  unfold cN1
  rw [upR_k _ _ (by omega), clr_k _ _ h]
set_option maxRecDepth 20000 in
theorem cN2_k (E : MD) {k : Nat} (h : k < 30) : cN2 E k = E k := by
  unfold cN2
  rw [upR_k _ _ (by omega), cN1_k E h]
set_option maxRecDepth 20000 in
theorem cM6_30 (J : MI) : cM6 J 30 0 = J 5 0 ∧ cM6 J 30 6 = J 5 6 := by
  constructor
  · unfold cM6
    rw [upR_k _ _ (by omega)]
    unfold cM5
    rw [up2_n _ _ _ (by decide)]
    unfold cM4
    rw [upR_k _ _ (by omega)]
    unfold cM3
    rw [upR_k _ _ (by omega)]
    unfold cM2
    rw [upR_k _ _ (by omega)]
    unfold cM1
    rw [up2_hit, clr_k _ _ (by omega)]
  · unfold cM6
    rw [upR_k _ _ (by omega)]
    unfold cM5
    rw [up2_hit, cM4_k J (by omega)]
set_option maxRecDepth 20000 in
theorem cM6_31 (J : MI) {j : Nat} (h : j < 12) : cM6 J 31 j = J 6 j := by
  unfold cM6
  rw [upR_k _ _ (by omega)]
  unfold cM5
  rw [up2_ne _ _ _ (by omega)]
  unfold cM4
  rw [upR_k _ _ (by omega)]
  unfold cM3
  rw [upR_k _ _ (by omega)]
  unfold cM2
  rw [show (30 + 1) = 31 from rfl, upR_hit, cpy0 h, cM1_k J (by omega)]
set_option maxRecDepth 20000 in
theorem cM6_33 (J : MI) {j : Nat} (h : j < 12) : cM6 J 33 j = J 8 j := by
  unfold cM6
  rw [upR_k _ _ (by omega)]
  unfold cM5
  rw [up2_ne _ _ _ (by omega)]
  unfold cM4
  rw [upR_k _ _ (by omega)]
  unfold cM3
  rw [show (30 + 3) = 33 from rfl, upR_hit, cpy0 h, cM2_k J (by omega)]
set_option maxRecDepth 20000 in
theorem cM6_34 (J : MI) {j : Nat} (h : j < 12) : cM6 J 34 j = J 9 j := by
  unfold cM6
  rw [upR_k _ _ (by omega)]
  unfold cM5
  rw [up2_ne _ _ _ (by omega)]
  unfold cM4
  rw [show (30 + 4) = 34 from rfl, upR_hit, cpy0 h, cM3_k J (by omega)]
set_option maxRecDepth 20000 in
theorem cM6_36 (J : MI) {j : Nat} (h : j < 3) : cM6 J 36 j = J 11 j := by
  unfold cM6
  rw [show (30 + 6) = 36 from rfl, upR_hit, cpy0 h, cM5_k J (by omega)]
set_option maxRecDepth 20000 in
theorem cN2_35 (E : MD) {j : Nat} (h : j < 12) : cN2 E 35 j = E 10 j := by
  unfold cN2
  rw [upR_k _ _ (by omega)]
  unfold cN1
  rw [show (30 + 5) = 35 from rfl, upR_hit, cpy0 h, clr_k _ _ (by omega)]
set_option maxRecDepth 20000 in
theorem cN2_37 (E : MD) {j : Nat} (h : j < 3) : cN2 E 37 j = E 12 j := by
  unfold cN2
  rw [show (30 + 7) = 37 from rfl, upR_hit, cpy0 h, cN1_k E (by omega)]
set_option maxRecDepth 20000 in
theorem copy_ok (R : RR x a b c d h I D J E) : f_X5_copy a b J E = some (cM6 J, cN2 E) := by
  have hall : allB (cM2 J (5 + 3)) 12 = true := by
    rw [cM2_k J (by omega)]
    unfold allB
    rw [List.all_eq_true]
    intro i hi
    have hi := List.mem_range.mp hi
    by_cases e : i < c
    · obtain ⟨q1, q2, q3, q4, q5, q6, q7, q8, q9⟩ := R.bat.1 i e
      exact isB_01 (by rw [show J (5 + 3) i = I (18 + i) 3 from q3]; exact q8)
    · exact isB_01 (Or.inl (R.bat.2 i (by omega) hi).2.2)
  unfold f_X5_copy
  simp only [nm_v]
  rw [show allB (upR (up2 (clr 0 J) 30 0 (clr 0 J 5 0)) (30 + 1) (va_cpy (up2 (clr 0 J) 30 0 (clr 0 J 5 0) (5 + 1)) (up2 (clr 0 J) 30 0 (clr 0 J 5 0) (30 + 1)) 0 0 12) (5 + 3)) 12 = true from hall, ckt]
  rfl
set_option maxRecDepth 20000 in
theorem copy_HC (R : RR x a b c d h I D J E) : GZ a b (cM6 J) (fun m => D (13 + m) 11) ∧ HC b c d 30 (crM h) (cM6 J) (cN2 E) := by
  have hc := R.c12
  have hd := R.d3
  obtain ⟨H1, H2, H3, H4⟩ := R.hc5
  refine ⟨R.gz.cong (fun j n q => by rw [cM6_k J (by omega)]), ⟨by rw [(cM6_30 J).1]; exact H1, by rw [(cM6_30 J).2]; exact H2, fun t ht => ?_, fun j hj => ?_⟩⟩
  · rw [show (30 + 6) = 36 from rfl, show (30 + 7) = 37 from rfl, cM6_36 J (by omega), cN2_37 E (by omega)]
    exact H3 t ht
  · rw [show (30 + 1) = 31 from rfl, show (30 + 4) = 34 from rfl, show (30 + 5) = 35 from rfl, cM6_31 J (by omega), cM6_34 J (by omega), cN2_35 E (by omega)]
    exact H4 j hj
/- the class's look ahead: none = lost -/
def cvN (f : UInt64) (s : Int32) : Nat → UInt64 → UInt64 → Option UInt64
  | 0, _, cr => some cr
  | n + 1, t, cr => if zv t < zv f then cvN f s n (fH s t) (FP.dadd cr (fA f t (fH s t))) else none
def cvR : Option UInt64 → UInt64
  | some v => v
  | none => 13830554455654793216
set_option maxRecDepth 20000 in
theorem cvN_rg {f : UInt64} {s : Int32} (hf : rg (-300) 0 f) (h1 : -30 ≤ s.toInt) (h2 : s.toInt ≤ -10) : ∀ (m : Nat) (t cr : UInt64) (hi : Int), rg (-1040) 256 t → 640 ≤ hi → hi + 768 * m < 2 ^ 40 → rg 640 hi cr → ∀ v, cvN f s m t cr = some v → rg 640 (hi + 768 * m) v := by
  intro m
  induction m with
  | zero =>
    intro t cr hi ht h0 hhi hc v e
    cases e
    exact hc.mono (Int.le_refl _) (by omega)
  | succ m ih =>
    intro t cr hi ht h0 hhi hc v e
    unfold cvN at e
    by_cases g : zv t < zv f
    · rw [if_pos g] at e
      have ht1 := (fH_all h1 h2 ht).2.2
      have z := ih (fH s t) _ (hi + 768) ht1 (by omega) (by omega) ((rg_add hc (fA_rg hf ht.1 ht1.1) (by decide) (by omega)).mono (by omega) (by omega)) v e
      exact z.mono (Int.le_refl _) (by omega)
    · rw [if_neg g] at e
      cases e
set_option maxRecDepth 20000 in
theorem later_L {fz : Nat → UInt64} (F : FZ b D fz) {j mx t : Nat} (hm : mx < b) (ht : t < 3) (e0 : I (18 + j) 0 = nI mx) (e2 : I (18 + j) 2 = nI t) (h1 : -30 ≤ (I (30 + t) 0).toInt) (h2 : (I (30 + t) 0).toInt ≤ -10) {N : Nat} (hN : N < 100) : ∀ (m i n : Nat) (T cr : UInt64) (hi : Int), i + m = N → m < n → rg (-1040) 256 T → 640 ≤ hi → hi + 768 * m < 2 ^ 40 → rg 640 hi cr → f_X4_crystalLater_L34 I D j (nI N) n (nI i) T cr = some (cvR (cvN (fz mx) (I (30 + t) 0) m T cr)) := by
  intro m
  have hb := F.1
  obtain ⟨ef, hf⟩ := F.2 mx hm
  induction m with
  | zero =>
    intro i n T cr hi g1 g2 hT h0 hhi hc
    obtain ⟨n, rfl⟩ : ∃ n', n = n' + 1 := ⟨n - 1, by omega⟩
    obtain rfl : i = N := by omega
    rw [f_X4_crystalLater_L34, if_pos (nI_le (Nat.le_refl _) (by omega))]
    rfl
  | succ m ih =>
    intro i n T cr hi g1 g2 hT h0 hhi hc
    obtain ⟨n, rfl⟩ : ∃ n', n = n' + 1 := ⟨n - 1, by omega⟩
    have hT1 := (fH_all h1 h2 hT).2.2
    rw [f_X4_crystalLater_L34, if_neg (nI_ge (by omega) (by omega)), e0, e2, nI_clamp (show mx < 2 ^ 31 by omega), nI_clamp (show t < 2 ^ 31 by omega), meltC (by rw [ef]; exact hf.1) hT.1, bd_s, ef]
    unfold cvN
    by_cases g : zv T < zv (fz mx)
    · have hA := rg_add hc (fA_rg hf hT.1 hT1.1) (by decide) (by omega)
      rw [if_pos g, if_pos g, if00, hourC h1 h2 hT, bd_s, coarseC (by rw [ef]; exact hf) hT.1 hT1.1, bd_s, ef, fC_add hf hT.1 hT1.1 hc, hA.okD, ckt, nI_1]
      exact ih (i + 1) n _ _ (hi + 768) (by omega) (by omega) hT1 (by omega) (by omega) (hA.mono (by omega) (by omega))
    · rw [if_neg g, if_neg g, if10]
      rfl
/- n hours of the copy -/
def itH (a b : Nat) : Nat → MI → MD → MI → MD → Prop
  | 0, J, E, J', E' => J' = J ∧ E' = E
  | n + 1, J, E, J', E' => ∃ J1 E1, f_X5_hour a b J E 30 = some (J1, E1) ∧ itH a b n J1 E1 J' E'
set_option maxRecDepth 20000 in
theorem it_ex {fz : Nat → UInt64} (hc : c ≤ 12) (hd : d ≤ 3) : ∀ (n : Nat) (hi : Int) (J : MI) (E : MD), 640 ≤ hi → hi + 768 * n < 2 ^ 40 → GZ a b J fz → HC b c d 30 hi J E →
    ∃ J' E', itH a b n J E J' E' ∧ (∀ k j, k ≠ 34 → J' k j = J k j) ∧ (∀ k j, k ≠ 35 → k ≠ 37 → E' k j = E k j) ∧ ∀ j mx, j < c → mx < b → J 31 j = nI mx →
      (J 34 j = -1 → J 33 j ≠ 0 → J' 34 j = -1 ∧ E' 35 j = E 35 j) ∧ (J 34 j = -1 → J 33 j = 0 → 0 < n → J' 34 j = 11) ∧ (¬ J 34 j = -1 → 10 ≤ J 34 j → J' 34 j = J 34 j) ∧ (∀ t, t < d → J 34 j = nI t → (∀ v, cvN (fz mx) (J 36 t) n (E 37 t) (E 35 j) = some v → J' 34 j = nI t ∧ E' 35 j = v) ∧ (cvN (fz mx) (J 36 t) n (E 37 t) (E 35 j) = none → J' 34 j = 11)) := by
  intro n
  induction n with
  | zero =>
    intro hi J E h0 hhi G H
    refine ⟨J, E, ⟨rfl, rfl⟩, fun _ _ _ => rfl, fun _ _ _ _ => rfl, fun j mx hj hm e => ⟨fun q _ => ⟨q, rfl⟩, fun _ _ q => absurd q (by omega), fun _ _ => rfl, fun t ht q => ⟨fun v e2 => ?_, fun e2 => ?_⟩⟩⟩
    · cases e2
      exact ⟨q, rfl⟩
    · cases e2
  | succ n ih =>
    intro hi J E h0 hhi G H
    obtain ⟨J1, E1, p1, p2, p3, p4, p5⟩ := hour_M (Or.inr rfl) hc hd (hi := hi) ⟨h0, by omega⟩ G H
    obtain ⟨H1, H2, H3, H4⟩ := H
    have xJ : ∀ k j, k ≠ 34 → J1 k j = J k j := fun k j q => p2 k j (by omega)
    have xE : ∀ k j, k ≠ 35 → k ≠ 37 → E1 k j = E k j := fun k j q1 q2 => p3 k j (by omega) (by omega)
    have G1 : GZ a b J1 fz := G.cong (fun j n q => xJ j n (by omega))
    have HC1 : HC b c d 30 (hi + 768) J1 E1 := by
      refine ⟨by rw [xJ _ _ (by decide)]; exact H1, by rw [xJ _ _ (by decide)]; exact H2, fun t ht => ?_, fun j hj => ?_⟩
      · obtain ⟨y1, y2, y3⟩ := H3 t ht
        rw [xJ _ _ (by decide), p4 t ht]
        exact ⟨y1, y2, (fH_all y1 y2 y3).2.2⟩
      · obtain ⟨mx, y1, y2, y3, y4⟩ := H4 j hj
        obtain ⟨z1, z2⟩ := p5 j mx hj y1 y2
        refine ⟨mx, y1, by rw [xJ _ _ (by decide)]; exact y2, by rw [z1]; exact plN_ok _ _ y3, ?_⟩
        rw [z2]
        exact crN_rg ⟨h0, by omega⟩ (G.rg y1) (fun s hs e => by
          obtain ⟨w1, w2, w3⟩ := H3 s hs
          rw [e, nI_clamp (show s < 2 ^ 31 by omega)]
          exact ⟨w3.1, (fH_all w1 w2 w3).2.2.1⟩) y3 hd y4
    obtain ⟨J', E', r1, r2, r3, r4⟩ := ih (hi + 768) J1 E1 (by omega) (by omega) G1 HC1
    refine ⟨J', E', ⟨J1, E1, p1, r1⟩, fun k j q => (r2 k j q).trans (xJ k j q), fun k j q1 q2 => (r3 k j q1 q2).trans (xE k j q1 q2), fun j mx hj hm e => ?_⟩
    obtain ⟨z1, z2⟩ := p5 j mx hj hm e
    have z1 : J1 34 j = plN (J 34 j) (J 33 j) (fz mx) (E 37 (J 34 j).toNatClampNeg) := z1
    have z2 : E1 35 j = crN (J 34 j) (E 35 j) (fz mx) (E 37 (J 34 j).toNatClampNeg) (fH (J 36 (J 34 j).toNatClampNeg) (E 37 (J 34 j).toNatClampNeg)) := z2
    have p4 : ∀ t, t < d → E1 37 t = fH (J 36 t) (E 37 t) := p4
    obtain ⟨s1, s2, s3, s4⟩ := r4 j mx hj hm (by rw [xJ _ _ (by decide)]; exact e)
    refine ⟨fun q g => ?_, fun q g _ => ?_, fun q g => ?_, fun t ht q => ?_⟩
    · have u1 : J1 34 j = -1 := by
        rw [z1, q]
        unfold plN
        rw [if_pos rfl, if_neg g]
      have u2 : E1 35 j = E 35 j := by
        rw [z2, q]
        unfold crN
        rw [if_pos rfl]
      obtain ⟨v1, v2⟩ := s1 u1 (by rw [xJ _ _ (by decide)]; exact g)
      exact ⟨v1, v2.trans u2⟩
    · have u1 : J1 34 j = 11 := by
        rw [z1, q]
        unfold plN
        rw [if_pos rfl, if_pos g]
      exact (s3 (by rw [u1]; decide) (by rw [u1]; decide)).trans u1
    · have u1 : J1 34 j = J 34 j := by rw [z1, plN_ge q g]
      exact (s3 (by rw [u1]; exact q) (by rw [u1]; exact g)).trans u1
    · have n1 : ¬ nI t = -1 := fun y => by
        have := nI_pos (show t < 2 ^ 31 by omega)
        rw [y] at this
        exact this (by decide)
      have n2 : ¬ (10 : Int32) ≤ nI t := nI_ge (a := t) (b := 10) (by omega) (by decide)
      rw [q, nI_clamp (show t < 2 ^ 31 by omega)] at z1 z2
      unfold plN at z1
      unfold crN at z2
      rw [if_neg n1, if_neg n2] at z1 z2
      unfold cvN
      by_cases g : zv (E 37 t) < zv (fz mx)
      · rw [if_pos g] at z1 ⊢
        have w := s4 t ht z1
        rw [xJ _ _ (by decide), p4 t ht, z2] at w
        exact w
      · rw [if_neg g] at z1 ⊢
        refine ⟨fun v y => (by cases y), fun _ => ?_⟩
        exact (s3 (by rw [z1]; decide) (by rw [z1]; decide)).trans z1
set_option maxRecDepth 20000 in
theorem it_L48 (p1 : Int32) {N : Nat} (hN : N < 100) : ∀ (m i n : Nat) (J : MI) (E : MD) (J' : MI) (E' : MD), itH a b m J E J' E' → i + m = N → m < n → f_X7_wouldBe_L48 a b p1 (nI N) n (nI i) J E = ck (inB p1 12) (if J' (30 + 4) p1.toNatClampNeg < 10 then ck (inB p1 12) (some (E' (30 + 5) p1.toNatClampNeg, J', E')) else some (13830554455654793216, J', E')) := by
  intro m
  induction m with
  | zero =>
    intro i n J E J' E' hi g1 g2
    obtain ⟨n, rfl⟩ : ∃ n', n = n' + 1 := ⟨n - 1, by omega⟩
    obtain rfl : i = N := by omega
    obtain ⟨rfl, rfl⟩ := hi
    rw [f_X7_wouldBe_L48, if_pos (nI_le (Nat.le_refl _) (by omega))]
  | succ m ih =>
    intro i n J E J' E' hi g1 g2
    obtain ⟨n, rfl⟩ : ∃ n', n = n' + 1 := ⟨n - 1, by omega⟩
    obtain ⟨J1, E1, q1, q2⟩ := hi
    rw [f_X7_wouldBe_L48, if_neg (nI_ge (by omega) (by omega)), q1, bd_s, nI_1]
    exact ih (i + 1) n J1 E1 J' E' q2 (by omega) (by omega)
set_option maxRecDepth 20000 in
theorem it_L17 (p1 : Int32) : ∀ (m i n : Nat) (J : MI) (E : MD) (J' : MI) (E' : MD), itH a b m J E J' E' → i + m = 24 → m < n → f_X7_spoilNow_L17 a b p1 n (nI i) J E = f_X7_spoilNow_L40 a b p1 J' E' 200 0 0 := by
  intro m
  induction m with
  | zero =>
    intro i n J E J' E' hi g1 g2
    obtain ⟨n, rfl⟩ : ∃ n', n = n' + 1 := ⟨n - 1, by omega⟩
    obtain rfl : i = 24 := by omega
    obtain ⟨rfl, rfl⟩ := hi
    rw [f_X7_spoilNow_L17, if_pos (show (24 : Int32) ≤ nI 24 by decide)]
  | succ m ih =>
    intro i n J E J' E' hi g1 g2
    obtain ⟨n, rfl⟩ : ∃ n', n = n' + 1 := ⟨n - 1, by omega⟩
    obtain ⟨J1, E1, q1, q2⟩ := hi
    rw [f_X7_spoilNow_L17, if_neg (show ¬ (24 : Int32) ≤ nI i from nI_ge (a := i) (b := 24) (by omega) (by decide)), q1, bd_s, nI_1]
    exact ih (i + 1) n J1 E1 J' E' q2 (by omega) (by omega)
set_option maxRecDepth 20000 in
theorem a_wouldBe (R : RR 0 a b c d h I D J E) (p1 p2 : Int32) : agR FP.Core.DFin (PP a b h) I D [IOB, IAE] (f_X4_wouldBe I D p1 p2) (f_X7_wouldBe a b J E p1 p2) := by
  have R0 := R.thr 0
  have t0 : up2 J 0 0 0 0 0 = 0 := up2_hit J 0 0 0
  unfold f_X7_wouldBe
  rw [nm_v]
  generalize up2 J 0 0 0 = J0 at R0 t0 ⊢
  unfold f_X4_wouldBe
  have hc := R0.c12
  have hd := R0.d3
  have hb := R0.b5
  have z1 : (1 : Int32).toInt = 1 := by decide
  have z0 : (0 : Int32).toInt = 0 := by decide
  have hcm := crM_b R0.h20
  rcases num p1 (b31 hc) with ⟨i, hi, rfl, h1, h2⟩ | ⟨h1, h2⟩
  · rcases rng p2 1 48 with ⟨h3, h4, h5, h6⟩ | ⟨h3, h4⟩
    · have hN0 : 1 ≤ p2.toInt := by rw [z1] at h5; exact h5
      obtain ⟨N, hN, rfl⟩ := rgN_ (p := p2) (hi := 48) (n := 49) (by decide) (by decide) (by omega) h6
      rw [nI_toInt (by omega)] at hN0
      obtain ⟨q1, q2, q3, q4, q5, ⟨m, hm, q6⟩, q7, q8, q9⟩ := R0.bat.1 i hi
      obtain ⟨G, H⟩ := copy_HC R0
      obtain ⟨J', E', r1, r2, r3, r4⟩ := it_ex hc hd N (crM h) (cM6 J0) (cN2 E) hcm.1 (by unfold crM; have := R0.h20; omega) G H
      have RK : PP a b h I D J' E' := (R0.ask (I' := I) (J' := J') (E' := E') (fun _ _ _ => rfl) (fun k n g _ => by rw [r2 k n (by omega), cM6_k J0 g]) (fun k n g => by rw [r3 k n (by omega) (by omega), cN2_k E g])).pp
      have tK : J' 0 0 = 0 := by rw [r2 _ _ (by decide), cM6_k J0 (by decide)]; exact t0
      obtain ⟨s1, s2, s3, s4⟩ := r4 i m hi hm (by rw [cM6_31 J0 (by omega), q1]; exact q6)
      rw [cM6_34 J0 (by omega), cM6_33 J0 (by omega), q4, q3] at s1
      rw [cM6_34 J0 (by omega), cM6_33 J0 (by omega), q4, q3] at s2
      rw [cM6_34 J0 (by omega), q4] at s3 s4
      rw [cN2_35 E (by omega), q5] at s1 s4
      rw [R0.I7, h1, bE_o, h3, bE_o, ixB R0.J5 (by decide) h2, bd_s, if10, h4, bd_s, if10, inB_nI (show i < 12 by omega) (by decide), nI_clamp (show i < 2 ^ 31 by omega), ckt, copy_ok R0, bd_s]
      dsimp only
      rw [show (0 : Int32) = nI 0 from rfl, it_L48 (nI i) (show N < 100 by omega) N 0 200 _ _ J' E' r1 (by omega) (by omega), inB_nI (show i < 12 by omega) (by decide), nI_clamp (show i < 2 ^ 31 by omega), ckt, ckt]
      show agR _ _ _ _ _ _ (if J' 34 i < 10 then some (E' 35 i, J', E') else _)
      rcases q7 with q | ⟨t, ht, q⟩ | q | q
      · have e1 : f_X0_isStored I D i = some 0 := by
          unfold f_X0_isStored
          rw [q, if_pos (by decide)]
        rw [e1, bd_s, nI_0, if00, if_pos q]
        by_cases g : I (18 + i) 3 = 0
        · rw [if_pos g, s2 q g (by omega), if_neg (by decide)]
          exact agR_ok rfl rc_m1.1 tK RK
        · obtain ⟨v1, v2⟩ := s1 q g
          rw [if_neg g, v1, if_pos (by decide), v2]
          exact agR_ok rfl q9.1 tK RK
      · obtain ⟨w1, w2, w3, w4, w5⟩ := R0.sto t ht
        have e1 : f_X0_isStored I D i = some 1 := by
          unfold f_X0_isStored
          rw [q, if_neg (nI_pos (by omega)), if_neg (show ¬ (3 : Int32) ≤ nI t from nI_ge (a := t) (b := 3) (by omega) (by decide))]
        have e2 : f_X4_crystalLater I D i (D (30 + t) 1) (nI N) = some (cvR (cvN (D (13 + m) 11) (I (30 + t) 0) N (D (30 + t) 1) (D (18 + i) 4))) := by
          unfold f_X4_crystalLater
          rw [q6, q, inB_nI (show m < 5 by omega) (by decide), inB_nI (show t < 3 by omega) (by decide), ckt, ckt, show (0 : Int32) = nI 0 from rfl]
          exact later_L R0.fzc hm (by omega) q6 q w3 w4 (by omega) N 0 200 _ _ (crM h) (by omega) (by omega) w5 hcm.1 (by unfold crM; have := R0.h20; omega) q9
        obtain ⟨v1, v2⟩ := s4 t ht q
        rw [cM6_36 J0 (by omega), w1, cN2_37 E (by omega), w2] at v1 v2
        rw [e1, bd_s, nI_0, if10, q, inB_nI (show t < 3 by omega) (by decide), nI_clamp (show t < 2 ^ 31 by omega), ckt, e2, bd_s]
        cases hcv : cvN (D (13 + m) 11) (I (30 + t) 0) N (D (30 + t) 1) (D (18 + i) 4) with
        | none =>
          rw [v2 hcv, if_neg (by decide)]
          exact agR_ok rfl rc_m1.1 tK RK
        | some v =>
          obtain ⟨y1, y2⟩ := v1 v hcv
          rw [y1, y2, if_pos (show nI t < (10 : Int32) from nI_lt (b := 10) (by omega) (by decide))]
          exact agR_ok rfl (cvN_rg (R0.frg hm) w3 w4 N _ _ (crM h) w5 hcm.1 (by unfold crM; have := R0.h20; omega) q9 v hcv).1 tK RK
      · have e1 : f_X0_isStored I D i = some 0 := by
          unfold f_X0_isStored
          rw [q, if_neg (by decide), if_pos (by decide)]
        rw [e1, bd_s, nI_0, if00, if_neg (by rw [q]; decide), s3 (by rw [q]; decide) (by rw [q]; decide), q, if_neg (by decide)]
        exact agR_ok rfl rc_m1.1 tK RK
      · have e1 : f_X0_isStored I D i = some 0 := by
          unfold f_X0_isStored
          rw [q, if_neg (by decide), if_pos (by decide)]
        rw [e1, bd_s, nI_0, if00, if_neg (by rw [q]; decide), s3 (by rw [q]; decide) (by rw [q]; decide), q, if_neg (by decide)]
        exact agR_ok rfl rc_m1.1 tK RK
    · rw [R0.I7, h1, bE_o, h3, bE_e, ixB R0.J5 (by decide) h2, bd_s, if10, h4, bd_s, if00, no_e, bd_s]
      exact agR_er 1 rfl (up2_hit J0 0 0 _) (R0.ppt 2)
  · rw [R0.I7, h1, bE_e, ixB R0.J5 (by decide) h2, bd_s, if00, no_e, bd_s]
    exact agR_er 0 rfl (up2_hit J0 0 0 _) (R0.ppt 1)
end WBB
