/-! ===== doubles: their value in units of 2^-1074; ranges in 32nds ===== -/
abbrev zv (x : UInt64) : Int := FP.Core.zval FP.Core.b64 (FP.Core.val64 x)
abbrev zm (x : UInt64) : Nat := FP.Core.zmag FP.Core.b64 (FP.Core.val64 x)
def ueN : Nat := 2 ^ 1069
def ue : Int := (ueN : Int)
set_option maxRecDepth 20000 in
theorem ueN_pos : 0 < ueN := Nat.two_pow_pos _
set_option maxRecDepth 20000 in
theorem ue_pos : 0 < ue := by
  have h := ueN_pos
  unfold ue
  omega
set_option maxRecDepth 20000 in
theorem ue_nn : 0 ≤ ue := Int.le_of_lt ue_pos
set_option maxRecDepth 20000 in
theorem ueN_one : 32 * ueN = FP.Core.one64 := by decide +kernel
set_option maxRecDepth 20000 in
theorem ue_one : ((FP.Core.one64 : Nat) : Int) = 32 * ue := by
  rw [← ueN_one]
  unfold ue
  omega
set_option maxRecDepth 20000 in
theorem ue_le {a b : Int} (h : a ≤ b) : a * ue ≤ b * ue := Int.mul_le_mul_of_nonneg_right h ue_nn
set_option maxRecDepth 20000 in
theorem fq_rep (k : Int) (h : k.natAbs < 2 ^ 53) : ∃ V : FP.Core.Datum, FP.Core.fits FP.Core.b64 V ∧ V ≠ .nan ∧ FP.Core.zval FP.Core.b64 V = k * ue := by
  obtain ⟨c, q, h1, h2⟩ := FP.Core.round_exact FP.Core.good_b64 (decide (k < 0)) (c := k.natAbs) (q := -5) h (by decide) (by decide)
  refine ⟨.fin (decide (k < 0)) c q, h1 ▸ FP.Core.round_fits FP.Core.good_b64 _, fun z => FP.Core.Datum.noConfusion z, ?_⟩
  show FP.Core.signed (decide (k < 0)) (FP.Core.inUnits c q FP.Core.b64.qmin) = _
  rw [h2]
  show FP.Core.signed (decide (k < 0)) (k.natAbs * 2 ^ ((-5 : Int) - FP.Core.b64.qmin).toNat) = _
  rw [FP.Core.signed_mul]
  have e1 : FP.Core.signed (decide (k < 0)) k.natAbs = k := by
    unfold FP.Core.signed
    by_cases hk : k < 0
    · rw [decide_eq_true hk, if_pos rfl]; omega
    · rw [decide_eq_false hk, if_neg (by decide)]; omega
  have e2 : 2 ^ ((-5 : Int) - FP.Core.b64.qmin).toNat = ueN := by decide +kernel
  rw [e1, e2]
  rfl
set_option maxRecDepth 20000 in
theorem fq_repN (k : Nat) (h : k < 2 ^ 53) : ∃ V : FP.Core.Datum, FP.Core.fits FP.Core.b64 V ∧ V ≠ .nan ∧ FP.Core.zmag FP.Core.b64 V = k * ueN := by
  obtain ⟨V, fV, nV, zV⟩ := fq_rep (k : Int) (by omega)
  refine ⟨V, fV, nV, ?_⟩
  have h1 := congrArg Int.natAbs zV
  unfold FP.Core.zval at h1
  rw [FP.Core.natAbs_signed] at h1
  rw [h1]
  unfold ue
  rw [← Int.natCast_mul, Int.natAbs_natCast]
set_option maxRecDepth 20000 in
theorem fq_top : 2 ^ 53 * ueN < FP.Core.b64.tails * 2 ^ (FP.Core.b64.exps - 2) := by decide +kernel
set_option maxRecDepth 20000 in
theorem fq_fin {x : UInt64} (hn : FP.Core.val64 x ≠ .nan) (K : Nat) (hK : K < 2 ^ 53) (h1 : -(K : Int) * ue ≤ zv x) (h2 : zv x ≤ (K : Int) * ue) : FP.Core.DFin x := by
  unfold FP.Core.DFin
  cases hv : FP.Core.val64 x with
  | nan => exact absurd hv hn
  | inf s =>
    exfalso
    unfold zv at h1 h2
    rw [hv] at h1 h2
    have ht := fq_top
    have hk : K * ueN ≤ 2 ^ 53 * ueN := Nat.mul_le_mul_right _ (Nat.le_of_lt hK)
    have e : FP.Core.zval FP.Core.b64 (.inf s) = FP.Core.signed s (FP.Core.b64.tails * 2 ^ (FP.Core.b64.exps - 2)) := rfl
    rw [e] at h1 h2
    generalize FP.Core.b64.tails * 2 ^ (FP.Core.b64.exps - 2) = T at ht h1 h2
    have e3 : (K : Int) * ue = ((K * ueN : Nat) : Int) := by unfold ue; rw [Int.natCast_mul]
    rw [Int.neg_mul, e3] at h1
    rw [e3] at h2
    generalize K * ueN = W at hk h1 h2
    generalize 2 ^ 53 * ueN = W2 at hk ht
    cases s
    · have e4 : FP.Core.signed false T = (T : Int) := rfl
      rw [e4] at h2
      omega
    · have e4 : FP.Core.signed true T = -(T : Int) := rfl
      rw [e4] at h1
      omega
  | fin s c q => exact ⟨s, c, q, rfl⟩
def rg (lo hi : Int) (x : UInt64) : Prop := FP.Core.DFin x ∧ lo * ue ≤ zv x ∧ zv x ≤ hi * ue
set_option maxRecDepth 20000 in
theorem rg.mono {a b c d : Int} {x : UInt64} (h : rg a b x) (h1 : c ≤ a) (h2 : b ≤ d) : rg c d x := ⟨h.1, Int.le_trans (ue_le h1) h.2.1, Int.le_trans h.2.2 (ue_le h2)⟩
set_option maxRecDepth 20000 in
theorem rg.fin {a b : Int} {x : UInt64} (h : rg a b x) : FP.Core.DFin x := h.1
set_option maxRecDepth 20000 in
theorem rg_mk {x : UInt64} {lo hi : Int} (hn : FP.Core.val64 x ≠ .nan) (h1 : lo.natAbs < 2 ^ 53) (h2 : hi.natAbs < 2 ^ 53) (l1 : lo * ue ≤ zv x) (l2 : zv x ≤ hi * ue) : rg lo hi x := by
  refine ⟨fq_fin hn (max lo.natAbs hi.natAbs) (by omega) (Int.le_trans (ue_le (by omega)) l1) (Int.le_trans l2 (ue_le (by omega))), l1, l2⟩
set_option maxRecDepth 20000 in
theorem fin_nan {x : UInt64} (h : FP.Core.DFin x) : FP.Core.val64 x ≠ .nan := h.ne_nan
set_option maxRecDepth 20000 in
theorem rg_add {a b c d : Int} {x y : UInt64} (hx : rg a b x) (hy : rg c d y) (h1 : (a + c).natAbs < 2 ^ 53) (h2 : (b + d).natAbs < 2 ^ 53) : rg (a + c) (b + d) (FP.dadd x y) := by
  obtain ⟨fx, x1, x2⟩ := hx
  obtain ⟨fy, y1, y2⟩ := hy
  obtain ⟨V, fV, nV, zV⟩ := fq_rep (a + c) h1
  obtain ⟨W, fW, nW, zW⟩ := fq_rep (b + d) h2
  have e : FP.Core.val64 (FP.dadd x y) = FP.Core.round FP.Core.b64 (FP.Core.exactSum (FP.Core.val64 x) (FP.Core.val64 y)) := FP.Core.val64_dadd x y
  have l1 := FP.Core.sum_ge FP.Core.good_b64 fx fy (FP.Core.val64_fits x) (FP.Core.val64_fits y) fV nV (by rw [zV, Int.add_mul]; exact Int.add_le_add x1 y1)
  have l2 := FP.Core.sum_le FP.Core.good_b64 fx fy (FP.Core.val64_fits x) (FP.Core.val64_fits y) fW nW (by rw [zW, Int.add_mul]; exact Int.add_le_add x2 y2)
  rw [← e, zV] at l1
  rw [← e, zW] at l2
  exact rg_mk ((FP.Core.notNaN_iff _).mp (FP.Core.dadd_out fx.notNaN fy)) h1 h2 l1 l2
set_option maxRecDepth 20000 in
theorem fin_neg {x : UInt64} (h : FP.Core.DFin x) : FP.Core.DFin (FP.Core.dneg x) := by
  obtain ⟨s, c, q, e⟩ := h
  exact ⟨!s, c, q, by rw [FP.Core.val64_dneg, e]; rfl⟩
set_option maxRecDepth 20000 in
theorem zv_neg (x : UInt64) : zv (FP.Core.dneg x) = -zv x := by
  unfold zv
  rw [FP.Core.val64_dneg, FP.Core.zval_negate]
set_option maxRecDepth 20000 in
theorem neg_core {x : UInt64} (h : FP.Core.DFin x) : FP.dneg x = FP.Core.dneg x := FP.dneg_core h.notNaN
set_option maxRecDepth 20000 in
theorem rg_neg {a b : Int} {x : UInt64} (h : rg a b x) : rg (-b) (-a) (FP.Core.dneg x) := by
  refine ⟨fin_neg h.1, ?_, ?_⟩
  · rw [zv_neg, Int.neg_mul]; have := h.2.2; omega
  · rw [zv_neg, Int.neg_mul]; have := h.2.1; omega
set_option maxRecDepth 20000 in
theorem rg_sub {a b c d : Int} {x y : UInt64} (hx : rg a b x) (hy : rg c d y) (h1 : (a - d).natAbs < 2 ^ 53) (h2 : (b - c).natAbs < 2 ^ 53) : rg (a - d) (b - c) (FP.dsub x y) := by
  have h := rg_add hx (rg_neg hy) (by omega) (by omega)
  have e : FP.dsub x y = FP.dadd x (FP.Core.dneg y) := FP.Core.dsub_eq x y
  rw [e]
  exact h.mono (by omega) (by omega)
set_option maxRecDepth 20000 in
theorem rg_mul {a b : Int} {x y : UInt64} (hx : rg a b x) (p : Int) (hp : 0 ≤ p) (hyf : FP.Core.DFin y) (hy : zv y = p * ue) (lo hi : Int) (b1 : lo.natAbs < 2 ^ 53) (b2 : hi.natAbs < 2 ^ 53) (h1 : 32 * lo ≤ a * p) (h2 : b * p ≤ 32 * hi) : rg lo hi (FP.dmul x y) := by
  obtain ⟨fx, x1, x2⟩ := hx
  obtain ⟨s, c, q, ex⟩ := id fx
  obtain ⟨t, d, r, ey⟩ := id hyf
  have gx := FP.Core.val64_fits x
  have gy := FP.Core.val64_fits y
  rw [ex] at gx
  rw [ey] at gy
  obtain ⟨p1, p2, p3⟩ := FP.Core.product_units gx gy
  have hq := FP.Core.qmin_neg FP.Core.good_b64
  have e : FP.Core.val64 (FP.dmul x y) = FP.Core.round FP.Core.b64 (.fin (s != t) (c * d) (q + r)) := by
    rw [show FP.Core.val64 (FP.dmul x y) = _ from FP.Core.val64_dmul x y, ex, ey, p1]
  have prod : FP.Core.signed (s != t) (FP.Core.inUnits (c * d) (q + r) (2 * FP.Core.b64.qmin)) = zv x * zv y := by
    rw [p3, FP.Core.signed_xor]
    unfold zv
    rw [ex, ey]
    rfl
  have u2 : ((2 ^ (FP.Core.b64.qmin - 2 * FP.Core.b64.qmin).toNat : Nat) : Int) = 32 * ue := by
    rw [show (FP.Core.b64.qmin - 2 * FP.Core.b64.qmin).toNat = (-FP.Core.b64.qmin).toNat by omega, FP.Core.pow_qmin64]
    exact ue_one
  have hpu : 0 ≤ p * ue := Int.mul_nonneg hp ue_nn
  have huu : 0 ≤ ue * ue := Int.mul_nonneg ue_nn ue_nn
  obtain ⟨V, fV, nV, zV⟩ := fq_rep lo b1
  obtain ⟨W, fW, nW, zW⟩ := fq_rep hi b2
  have l1 := FP.Core.zval_round_ge FP.Core.good_b64 (s := s != t) (c := c * d) (q := q + r) (e0 := 2 * FP.Core.b64.qmin) fV nV (by omega) p2 (by
    rw [prod, zV, u2, hy]
    refine Int.le_trans ?_ (Int.mul_le_mul_of_nonneg_right x1 hpu)
    have h3 := Int.mul_le_mul_of_nonneg_right h1 huu
    have e1 : lo * ue * (32 * ue) = 32 * lo * (ue * ue) := by ac_rfl
    have e2 : a * ue * (p * ue) = a * p * (ue * ue) := by ac_rfl
    rw [e1, e2]
    exact h3)
  have l2 := FP.Core.zval_round_le FP.Core.good_b64 (s := s != t) (c := c * d) (q := q + r) (e0 := 2 * FP.Core.b64.qmin) fW nW (by omega) p2 (by
    rw [prod, zW, u2, hy]
    refine Int.le_trans (Int.mul_le_mul_of_nonneg_right x2 hpu) ?_
    have h3 := Int.mul_le_mul_of_nonneg_right h2 huu
    have e1 : hi * ue * (32 * ue) = 32 * hi * (ue * ue) := by ac_rfl
    have e2 : b * ue * (p * ue) = b * p * (ue * ue) := by ac_rfl
    rw [e1, e2]
    exact h3)
  rw [zV, ← e] at l1
  rw [zW, ← e] at l2
  refine rg_mk ?_ b1 b2 l1 l2
  rw [e]
  exact FP.Core.roundRatio_ne_nan _ _ _ _ _
set_option maxRecDepth 20000 in
theorem dv_mag {x y : UInt64} (hx : FP.Core.DFin x) (hy : FP.Core.DFin y) (k : Nat) (hk : k < 2 ^ 53) (hp : 0 < zm y) (h : 32 * zm x ≤ k * zm y) :
    FP.Core.val64 (FP.ddiv x y) ≠ .nan ∧ zm (FP.ddiv x y) ≤ k * ueN ∧ FP.Core.sgn (FP.Core.val64 (FP.ddiv x y)) = (FP.Core.sgn (FP.Core.val64 x) != FP.Core.sgn (FP.Core.val64 y)) := by
  obtain ⟨s, c, q, ex⟩ := hx
  obtain ⟨t, d, r, ey⟩ := hy
  have fx := FP.Core.val64_fits x
  have fy := FP.Core.val64_fits y
  unfold zm at hp h ⊢
  rw [ex] at fx h
  rw [ey] at fy h hp
  have hd0 : d ≠ 0 := by
    rintro rfl
    have h1 : FP.Core.zmag FP.Core.b64 (.fin t 0 r) = 0 := Nat.zero_mul _
    omega
  have hd : FP.Core.val64 (FP.ddiv x y) = FP.Core.roundRatio FP.Core.b64 (s != t) c d (q - r) := by
    rw [show FP.Core.val64 (FP.ddiv x y) = _ from FP.Core.val64_ddiv x y, ex, ey]
    simp only [FP.Core.quotient, if_neg hd0]
  rw [hd, ex, ey]
  refine ⟨FP.Core.roundRatio_ne_nan _ _ _ _ _, ?_, FP.Core.sgn_roundRatio _ _ _ _ _⟩
  obtain ⟨V, fV, nV, zV⟩ := fq_repN k hk
  have hx1 := fx.2.1
  have hy1 := fy.2.1
  have hq := FP.Core.qmin_neg FP.Core.good_b64
  rw [← zV]
  refine FP.Core.zmag_roundRatio_le FP.Core.good_b64 (e0 := 2 * FP.Core.b64.qmin - r) (Nat.pos_of_ne_zero hd0) fV nV (by omega) (by omega) ?_
  have e1 : FP.Core.inUnits c (q - r) (2 * FP.Core.b64.qmin - r) = FP.Core.zmag FP.Core.b64 (.fin s c q) * 2 ^ (-FP.Core.b64.qmin).toNat := by
    show c * _ = c * _ * _
    rw [Nat.mul_assoc, ← Nat.pow_add]; congr 2; omega
  have e2 : 2 ^ (FP.Core.b64.qmin - (2 * FP.Core.b64.qmin - r)).toNat * d = FP.Core.zmag FP.Core.b64 (.fin t d r) := by
    show _ = d * _
    rw [Nat.mul_comm]; congr 2; omega
  rw [e1, Nat.mul_assoc, e2, zV, FP.Core.pow_qmin64, ← ueN_one]
  have h3 := Nat.mul_le_mul_right ueN h
  have e4 : FP.Core.zmag FP.Core.b64 (.fin s c q) * (32 * ueN) = 32 * FP.Core.zmag FP.Core.b64 (.fin s c q) * ueN := by ac_rfl
  have e5 : k * ueN * FP.Core.zmag FP.Core.b64 (.fin t d r) = k * FP.Core.zmag FP.Core.b64 (.fin t d r) * ueN := by ac_rfl
  rw [e4, e5]
  exact h3
set_option maxRecDepth 20000 in
theorem zv_sm (x : UInt64) : zv x = FP.Core.signed (FP.Core.sgn (FP.Core.val64 x)) (zm x) := rfl
set_option maxRecDepth 20000 in
theorem sg_f (m : Nat) : FP.Core.signed false m = (m : Int) := rfl
set_option maxRecDepth 20000 in
theorem sg_t (m : Nat) : FP.Core.signed true m = -(m : Int) := rfl
set_option maxRecDepth 20000 in
theorem rg_div0 {x y : UInt64} (hx : FP.Core.DFin x) (hy : FP.Core.DFin y) (k : Nat) (hk : k < 2 ^ 53) (hp : 0 < zm y) (h : 32 * zm x ≤ k * zm y) (hs : zm x = 0 ∨ FP.Core.sgn (FP.Core.val64 x) = FP.Core.sgn (FP.Core.val64 y)) : rg 0 k (FP.ddiv x y) := by
  obtain ⟨h1, h2, h3⟩ := dv_mag hx hy k hk hp h
  have hkk : (k : Int) * ue = ((k * ueN : Nat) : Int) := by unfold ue; rw [Int.natCast_mul]
  rcases hs with hs | hs
  · obtain ⟨-, h4, -⟩ := dv_mag hx hy 0 (by decide) hp (by omega)
    have h5 : zm (FP.ddiv x y) = 0 := by omega
    have h6 : zv (FP.ddiv x y) = 0 := by rw [zv_sm, h5, FP.Core.signed_zero]
    refine rg_mk h1 (by decide) (by omega) (by rw [h6]; omega) ?_
    rw [h6, hkk]
    omega
  · rw [hs, bne_self_eq_false] at h3
    have h6 : zv (FP.ddiv x y) = (zm (FP.ddiv x y) : Int) := by rw [zv_sm, h3, sg_f]
    refine rg_mk h1 (by decide) (by omega) (by rw [h6]; omega) ?_
    rw [h6, hkk]
    omega
set_option maxRecDepth 20000 in
theorem rg_div_pos {x y : UInt64} (hx : FP.Core.DFin x) (hy : FP.Core.DFin y) (k : Nat) (hk : k < 2 ^ 53) (hx0 : 0 ≤ zv x) (hy0 : 0 < zv y) (h : 32 * zv x ≤ (k : Int) * zv y) : rg 0 k (FP.ddiv x y) := by
  rw [zv_sm] at hx0 hy0 h
  rw [zv_sm y] at h
  have ty : FP.Core.sgn (FP.Core.val64 y) = false := by
    cases hh : FP.Core.sgn (FP.Core.val64 y) with
    | false => rfl
    | true => rw [hh, sg_t] at hy0; omega
  rw [ty, sg_f] at hy0 h
  cases tx : FP.Core.sgn (FP.Core.val64 x) with
  | false =>
    rw [tx, sg_f] at h
    refine rg_div0 hx hy k hk (by omega) ?_ (Or.inr (by rw [tx, ty]))
    rw [← Int.natCast_mul] at h
    omega
  | true =>
    rw [tx, sg_t] at hx0
    have h0 : zm x = 0 := by omega
    exact rg_div0 hx hy k hk (by omega) (by rw [h0]; exact Nat.zero_le _) (Or.inl h0)
set_option maxRecDepth 20000 in
theorem rg_div_neg {x y : UInt64} (hx : FP.Core.DFin x) (hy : FP.Core.DFin y) (k : Nat) (hk : k < 2 ^ 53) (hx0 : zv x ≤ 0) (hy0 : zv y < 0) (h : (k : Int) * zv y ≤ 32 * zv x) : rg 0 k (FP.ddiv x y) := by
  rw [zv_sm] at hx0 hy0
  rw [zv_sm, zv_sm x] at h
  have ty : FP.Core.sgn (FP.Core.val64 y) = true := by
    cases hh : FP.Core.sgn (FP.Core.val64 y) with
    | true => rfl
    | false => rw [hh, sg_f] at hy0; omega
  rw [ty, sg_t] at hy0 h
  cases tx : FP.Core.sgn (FP.Core.val64 x) with
  | true =>
    rw [tx, sg_t, Int.mul_neg] at h
    refine rg_div0 hx hy k hk (by omega) ?_ (Or.inr (by rw [tx, ty]))
    rw [← Int.natCast_mul] at h
    omega
  | false =>
    rw [tx, sg_f] at hx0
    have h0 : zm x = 0 := by omega
    exact rg_div0 hx hy k hk (by omega) (by rw [h0]; exact Nat.zero_le _) (Or.inl h0)
/-! comparisons, checks -/
set_option maxRecDepth 20000 in
theorem cmv {x y : UInt64} (hx : FP.Core.DFin x) (hy : FP.Core.DFin y) (o : CmpOp) : Op.cmpValue (FP.dcmp x y) o = if zv x < zv y then -1 else if zv x = zv y then 0 else 1 := by
  have e : FP.dcmp x y = some (compare (zv x) (zv y)) := FP.Core.dcmp_zval hx.ne_nan hy.ne_nan
  rw [e, FP.Core.compare_ite]
  by_cases h1 : zv x < zv y
  · rw [if_pos h1, if_pos h1]; rfl
  · rw [if_neg h1, if_neg h1]
    by_cases h2 : zv x = zv y
    · rw [if_pos h2, if_pos h2]; rfl
    · rw [if_neg h2, if_neg h2]; rfl
set_option maxRecDepth 20000 in
theorem cm_ge {x y : UInt64} (hx : FP.Core.DFin x) (hy : FP.Core.DFin y) (o : CmpOp) : 0 ≤ Op.cmpValue (FP.dcmp x y) o ↔ zv y ≤ zv x := by
  rw [cmv hx hy]
  by_cases h1 : zv x < zv y
  · rw [if_pos h1]; exact ⟨fun h => absurd h (by decide), fun h => by omega⟩
  · rw [if_neg h1]
    by_cases h2 : zv x = zv y
    · rw [if_pos h2]; exact ⟨fun _ => by omega, fun _ => by decide⟩
    · rw [if_neg h2]; exact ⟨fun _ => by omega, fun _ => by decide⟩
set_option maxRecDepth 20000 in
theorem cm_lt {x y : UInt64} (hx : FP.Core.DFin x) (hy : FP.Core.DFin y) (o : CmpOp) : Op.cmpValue (FP.dcmp x y) o < 0 ↔ zv x < zv y := by
  rw [cmv hx hy]
  by_cases h1 : zv x < zv y
  · rw [if_pos h1]; exact ⟨fun _ => h1, fun _ => by decide⟩
  · rw [if_neg h1]
    by_cases h2 : zv x = zv y
    · rw [if_pos h2]; exact ⟨fun h => absurd h (by decide), fun h => by omega⟩
    · rw [if_neg h2]; exact ⟨fun h => absurd h (by decide), fun h => by omega⟩
set_option maxRecDepth 20000 in
theorem cm_le {x y : UInt64} (hx : FP.Core.DFin x) (hy : FP.Core.DFin y) (o : CmpOp) : Op.cmpValue (FP.dcmp x y) o ≤ 0 ↔ zv x ≤ zv y := by
  rw [cmv hx hy]
  by_cases h1 : zv x < zv y
  · rw [if_pos h1]; exact ⟨fun _ => by omega, fun _ => by decide⟩
  · rw [if_neg h1]
    by_cases h2 : zv x = zv y
    · rw [if_pos h2]; exact ⟨fun _ => by omega, fun _ => by decide⟩
    · rw [if_neg h2]; exact ⟨fun h => absurd h (by decide), fun h => by omega⟩
set_option maxRecDepth 20000 in
theorem okD_f {x : UInt64} (h : FP.Core.DFin x) : okD x = true := by
  unfold okD
  apply decide_eq_true
  rw [UInt64.le_iff_toNat_le, FP.Core.mask_toNat]
  have h1 := (FP.Core.fin_bits x).mp h
  have e : (0x7ff0000000000000 : UInt64).toNat = 9218868437227405312 := by decide
  rw [e]
  omega
set_option maxRecDepth 20000 in
theorem rg.okD {a b : Int} {x : UInt64} (h : rg a b x) : okD x = true := okD_f h.1
set_option maxRecDepth 20000 in
theorem zv_i2d (a : Int32) : zv (FP.i2d a) = 32 * a.toInt * ue := by
  have h := FP.Core.DInt_zval (FP.Core.i2d_int a)
  rw [ue_one] at h
  rw [show zv (FP.i2d a) = _ from h]
  ac_rfl
set_option maxRecDepth 20000 in
theorem rg_i2d {a : Int32} {lo hi : Int} (h1 : lo ≤ 32 * a.toInt) (h2 : 32 * a.toInt ≤ hi) : rg lo hi (FP.i2d a) := by
  have b1 := Int32.le_toInt a
  have b2 := Int32.toInt_lt a
  have h : rg (32 * a.toInt) (32 * a.toInt) (FP.i2d a) := rg_mk (FP.Core.DInt_ne_nan (FP.Core.i2d_int a)) (by omega) (by omega) (by rw [zv_i2d]; exact Int.le_refl _) (by rw [zv_i2d]; exact Int.le_refl _)
  exact h.mono h1 h2
set_option maxRecDepth 20000 in
theorem rg_c {C : UInt64} (k : Int) (h : zv C = k * ue) (hf : C.toNat % 2 ^ 63 < 9218868437227405312) : rg k k C := ⟨(FP.Core.fin_bits C).mpr hf, by rw [h]; exact Int.le_refl _, by rw [h]; exact Int.le_refl _⟩
set_option maxRecDepth 20000 in
theorem zc_0 : zv FP.dconst0 = 0 * ue := by decide +kernel
set_option maxRecDepth 20000 in
theorem zc_1 : zv FP.dconst1 = 32 * ue := by decide +kernel
set_option maxRecDepth 20000 in
theorem zc_m1 : zv 13830554455654793216 = -32 * ue := by decide +kernel
set_option maxRecDepth 20000 in
theorem zc_10 : zv 4621819117588971520 = 320 * ue := by decide +kernel
set_option maxRecDepth 20000 in
theorem zc_8 : zv 4620693217682128896 = 256 * ue := by decide +kernel
set_option maxRecDepth 20000 in
theorem zc_24 : zv 4627448617123184640 = 768 * ue := by decide +kernel
set_option maxRecDepth 20000 in
theorem zc_20 : zv 4626322717216342016 = 640 * ue := by decide +kernel
set_option maxRecDepth 20000 in
theorem zc_15 : zv 4609434218613702656 = 48 * ue := by decide +kernel
set_option maxRecDepth 20000 in
theorem zc_50 : zv 4632233691727265792 = 1600 * ue := by decide +kernel
set_option maxRecDepth 20000 in
theorem zc_25 : zv 4598175219545276416 = 8 * ue := by decide +kernel
set_option maxRecDepth 20000 in
theorem zc_62 : zv 4589168020290535424 = 2 * ue := by decide +kernel
set_option maxRecDepth 20000 in
theorem zc_31 : zv 4584664420663164928 = 1 * ue := by decide +kernel
set_option maxRecDepth 20000 in
theorem rc_0 : rg 0 0 FP.dconst0 := rg_c 0 zc_0 (by decide)
set_option maxRecDepth 20000 in
theorem rc_1 : rg 32 32 FP.dconst1 := rg_c 32 zc_1 (by decide)
set_option maxRecDepth 20000 in
theorem rc_m1 : rg (-32) (-32) 13830554455654793216 := rg_c (-32) zc_m1 (by decide)
set_option maxRecDepth 20000 in
theorem rc_10 : rg 320 320 4621819117588971520 := rg_c 320 zc_10 (by decide)
set_option maxRecDepth 20000 in
theorem rc_8 : rg 256 256 4620693217682128896 := rg_c 256 zc_8 (by decide)
set_option maxRecDepth 20000 in
theorem rc_24 : rg 768 768 4627448617123184640 := rg_c 768 zc_24 (by decide)
set_option maxRecDepth 20000 in
theorem rc_20 : rg 640 640 4626322717216342016 := rg_c 640 zc_20 (by decide)
set_option maxRecDepth 20000 in
theorem rc_15 : rg 48 48 4609434218613702656 := rg_c 48 zc_15 (by decide)
set_option maxRecDepth 20000 in
theorem rc_50 : rg 1600 1600 4632233691727265792 := rg_c 1600 zc_50 (by decide)
set_option maxRecDepth 20000 in
theorem rc_25 : rg 8 8 4598175219545276416 := rg_c 8 zc_25 (by decide)
set_option maxRecDepth 20000 in
theorem rc_62 : rg 2 2 4589168020290535424 := rg_c 2 zc_62 (by decide)
set_option maxRecDepth 20000 in
theorem rc_31 : rg 1 1 4584664420663164928 := rg_c 1 zc_31 (by decide)
/-! percents, freezing -/
def fP (s k : Int32) : UInt64 := FP.ddiv (FP.ddiv (FP.i2d s) (FP.i2d k)) (4621819117588971520 : UInt64)
set_option maxRecDepth 20000 in
theorem fP_1 {s k : Int32} (hk : 1 ≤ k.toInt) (h0 : 0 ≤ s.toInt) (h : s.toInt ≤ 1000 * k.toInt) : rg 0 32000 (FP.ddiv (FP.i2d s) (FP.i2d k)) := by
  refine rg_div_pos (rg_i2d (Int.le_refl _) (Int.le_refl _)).1 (rg_i2d (Int.le_refl _) (Int.le_refl _)).1 32000 (by decide) ?_ ?_ ?_
  · rw [zv_i2d]; exact Int.mul_nonneg (by omega) ue_nn
  · rw [zv_i2d]; exact Int.mul_pos (by omega) ue_pos
  · rw [zv_i2d, zv_i2d]
    have h1 : (32 * (32 * s.toInt)) * ue ≤ (32000 * (32 * k.toInt)) * ue := ue_le (by omega)
    rw [Int.mul_assoc] at h1
    rw [show ((32000 : Nat) : Int) * (32 * k.toInt * ue) = 32000 * (32 * k.toInt) * ue from (Int.mul_assoc _ _ _).symm]
    exact h1
set_option maxRecDepth 20000 in
theorem fP_2 {s k : Int32} (hk : 1 ≤ k.toInt) (h0 : 0 ≤ s.toInt) (h : s.toInt ≤ 1000 * k.toInt) : rg 0 3200 (fP s k) := by
  have h1 := fP_1 hk h0 h
  have hu := ue_pos
  refine rg_div_pos h1.1 rc_10.1 3200 (by decide) ?_ ?_ ?_
  · have := h1.2.1; omega
  · rw [zc_10]; omega
  · rw [zc_10]; have := h1.2.2; omega
def fF (su mi k : Int32) : UInt64 := FP.dneg (FP.dadd (FP.dmul (fP su k) (4589168020290535424 : UInt64)) (FP.dmul (fP mi k) (4584664420663164928 : UInt64)))
set_option maxRecDepth 20000 in
theorem fF_1 {s k : Int32} (hk : 1 ≤ k.toInt) (h0 : 0 ≤ s.toInt) (h : s.toInt ≤ 1000 * k.toInt) : rg 0 200 (FP.dmul (fP s k) (4589168020290535424 : UInt64)) := rg_mul (fP_2 hk h0 h) 2 (by decide) rc_62.1 zc_62 0 200 (by decide) (by decide) (by decide) (by decide)
set_option maxRecDepth 20000 in
theorem fF_2 {s k : Int32} (hk : 1 ≤ k.toInt) (h0 : 0 ≤ s.toInt) (h : s.toInt ≤ 1000 * k.toInt) : rg 0 100 (FP.dmul (fP s k) (4584664420663164928 : UInt64)) := rg_mul (fP_2 hk h0 h) 1 (by decide) rc_31.1 zc_31 0 100 (by decide) (by decide) (by decide) (by decide)
set_option maxRecDepth 20000 in
theorem fF_3 {s m k : Int32} (hk : 1 ≤ k.toInt) (h0 : 0 ≤ s.toInt) (h : s.toInt ≤ 1000 * k.toInt) (g0 : 0 ≤ m.toInt) (g : m.toInt ≤ 1000 * k.toInt) : rg 0 300 (FP.dadd (FP.dmul (fP s k) (4589168020290535424 : UInt64)) (FP.dmul (fP m k) (4584664420663164928 : UInt64))) := rg_add (fF_1 hk h0 h) (fF_2 hk g0 g) (by decide) (by decide)
set_option maxRecDepth 20000 in
theorem fF_4 {s m k : Int32} (hk : 1 ≤ k.toInt) (h0 : 0 ≤ s.toInt) (h : s.toInt ≤ 1000 * k.toInt) (g0 : 0 ≤ m.toInt) (g : m.toInt ≤ 1000 * k.toInt) : rg (-300) 0 (fF s m k) := by
  have h1 := fF_3 hk h0 h g0 g
  unfold fF
  rw [neg_core h1.1]
  exact rg_neg h1
/-! ice, what coarsens, an hour, a door -/
def fI (f t : UInt64) : UInt64 := if 0 ≤ (Op.cmpValue (FP.dcmp t f) CmpOp.g) then FP.dconst0 else FP.dsub FP.dconst1 (FP.ddiv f t)
set_option maxRecDepth 20000 in
theorem fI_1 {f t : UInt64} (hf : rg (-300) 0 f) (ht : FP.Core.DFin t) (hc : ¬ 0 ≤ (Op.cmpValue (FP.dcmp t f) CmpOp.g)) : rg 0 32 (FP.ddiv f t) := by
  rw [cm_ge ht hf.1] at hc
  have h2 := hf.2.2
  refine rg_div_neg hf.1 ht 32 (by decide) (by omega) (by omega) ?_
  show 32 * zv t ≤ 32 * zv f
  omega
set_option maxRecDepth 20000 in
theorem fI_2 {f t : UInt64} (hf : rg (-300) 0 f) (ht : FP.Core.DFin t) (hc : ¬ 0 ≤ (Op.cmpValue (FP.dcmp t f) CmpOp.g)) : rg 0 32 (FP.dsub FP.dconst1 (FP.ddiv f t)) := rg_sub rc_1 (fI_1 hf ht hc) (by decide) (by decide)
set_option maxRecDepth 20000 in
theorem fI_rg {f t : UInt64} (hf : rg (-300) 0 f) (ht : FP.Core.DFin t) : rg 0 32 (fI f t) := by
  unfold fI
  split
  · exact rc_0.mono (by decide) (by decide)
  · rename_i hc
    exact fI_2 hf ht hc
set_option maxRecDepth 20000 in
theorem fI_ck {f t : UInt64} (hf : rg (-300) 0 f) (ht : FP.Core.DFin t) : (if 0 ≤ (Op.cmpValue (FP.dcmp t f) CmpOp.g) then some FP.dconst0 else ck (okD (FP.ddiv f t)) (ck (okD (FP.dsub FP.dconst1 (FP.ddiv f t))) (some (FP.dsub FP.dconst1 (FP.ddiv f t))))) = some (fI f t) := by
  unfold fI
  by_cases hc : 0 ≤ (Op.cmpValue (FP.dcmp t f) CmpOp.g)
  · rw [if_pos hc, if_pos hc]
  · rw [if_neg hc, if_neg hc, (fI_1 hf ht hc).okD, (fI_2 hf ht hc).okD]
    rfl
/- the change of the ice -/
def fX (f b n : UInt64) : UInt64 := FP.dsub (fI f b) (fI f n)
set_option maxRecDepth 20000 in
theorem fX_rg {f b n : UInt64} (hf : rg (-300) 0 f) (hb : FP.Core.DFin b) (hn : FP.Core.DFin n) : rg (-32) 32 (fX f b n) := rg_sub (fI_rg hf hb) (fI_rg hf hn) (by decide) (by decide)
def fC (f b n : UInt64) : UInt64 := if 0 ≤ (Op.cmpValue (FP.dcmp (fX f b n) FP.dconst0) CmpOp.g) then FP.dmul (4627448617123184640 : UInt64) (fX f b n) else FP.dmul (4627448617123184640 : UInt64) (FP.dneg (fX f b n))
def fA (f b n : UInt64) : UInt64 := FP.dmul (4627448617123184640 : UInt64) ((fX f b n) &&& 0x7fffffffffffffff)
set_option maxRecDepth 20000 in
theorem rg_mul24 {x : UInt64} (h : rg 0 32 x) : rg 0 768 (FP.dmul (4627448617123184640 : UInt64) x) := by
  rw [show FP.dmul (4627448617123184640 : UInt64) x = FP.dmul x (4627448617123184640 : UInt64) from FP.Core.dmul_comm _ _]
  exact rg_mul h 768 (by decide) rc_24.1 zc_24 0 768 (by decide) (by decide) (by decide) (by decide)
set_option maxRecDepth 20000 in
theorem dcz {x : UInt64} (h : FP.Core.DFin x) : FP.Core.dcmp x 0 = some (compare (zv x) 0) := by
  have e := FP.Core.dcmp_zval (a := x) (b := 0) h.ne_nan (by rw [FP.Core.val64_zero]; exact fun z => FP.Core.Datum.noConfusion z)
  rw [FP.Core.zval64_zero] at e
  exact e
set_option maxRecDepth 20000 in
theorem mask_pos {x : UInt64} (h : FP.Core.DFin x) (h0 : 0 < zv x) : x &&& 0x7fffffffffffffff = x := FP.Core.abs_pos (by rw [dcz h, (FP.Core.compare_gt_iff _ _).mpr h0])
set_option maxRecDepth 20000 in
theorem mask_neg {x : UInt64} (h : FP.Core.DFin x) (h0 : zv x < 0) : x &&& 0x7fffffffffffffff = FP.Core.dneg x := FP.Core.abs_neg (by rw [dcz h, (FP.Core.compare_lt_iff _ _).mpr h0])
set_option maxRecDepth 20000 in
theorem mask_zero {x : UInt64} (h : FP.Core.DFin x) (h0 : zv x = 0) : x &&& 0x7fffffffffffffff = 0 ∧ (x = 0 ∨ x = 9223372036854775808) := by
  have e : FP.Core.dcmp x 0 = some .eq := by rw [dcz h, (FP.Core.compare_eq_iff _ _).mpr h0]
  exact ⟨FP.Core.abs_zero e, FP.Core.zero_bits e⟩
set_option maxRecDepth 20000 in
theorem mask_rg {x : UInt64} (h : rg (-32) 32 x) : rg 0 32 (x &&& 0x7fffffffffffffff) := by
  rcases Int.lt_trichotomy (zv x) 0 with h0 | h0 | h0
  · rw [mask_neg h.1 h0]
    have h1 := rg_neg h
    exact ⟨h1.1, by rw [zv_neg]; omega, h1.2.2⟩
  · rw [(mask_zero h.1 h0).1]
    exact rc_0.mono (by decide) (by decide)
  · rw [mask_pos h.1 h0]
    exact ⟨h.1, by omega, h.2.2⟩
set_option maxRecDepth 20000 in
theorem fA_rg {f b n : UInt64} (hf : rg (-300) 0 f) (hb : FP.Core.DFin b) (hn : FP.Core.DFin n) : rg 0 768 (fA f b n) := rg_mul24 (mask_rg (fX_rg hf hb hn))
set_option maxRecDepth 20000 in
theorem fC_pos {f b n : UInt64} (hf : rg (-300) 0 f) (hb : FP.Core.DFin b) (hn : FP.Core.DFin n) (hc : 0 ≤ (Op.cmpValue (FP.dcmp (fX f b n) FP.dconst0) CmpOp.g)) : rg 0 768 (FP.dmul (4627448617123184640 : UInt64) (fX f b n)) := by
  have h := fX_rg hf hb hn
  rw [cm_ge h.1 rc_0.1, zc_0] at hc
  exact rg_mul24 ⟨h.1, by omega, h.2.2⟩
set_option maxRecDepth 20000 in
theorem fC_neg {f b n : UInt64} (hf : rg (-300) 0 f) (hb : FP.Core.DFin b) (hn : FP.Core.DFin n) (hc : ¬ 0 ≤ (Op.cmpValue (FP.dcmp (fX f b n) FP.dconst0) CmpOp.g)) : rg 0 768 (FP.dmul (4627448617123184640 : UInt64) (FP.dneg (fX f b n))) := by
  have h := fX_rg hf hb hn
  rw [cm_ge h.1 rc_0.1, zc_0] at hc
  rw [neg_core h.1]
  have h1 := rg_neg h
  exact rg_mul24 ⟨h1.1, by rw [zv_neg]; omega, h1.2.2⟩
set_option maxRecDepth 20000 in
theorem fC_rg {f b n : UInt64} (hf : rg (-300) 0 f) (hb : FP.Core.DFin b) (hn : FP.Core.DFin n) : rg 0 768 (fC f b n) := by
  unfold fC
  split
  · rename_i hc; exact fC_pos hf hb hn hc
  · rename_i hc; exact fC_neg hf hb hn hc
set_option maxRecDepth 20000 in
theorem m24_0 : FP.dmul (4627448617123184640 : UInt64) 0 = 0 := by decide +kernel
set_option maxRecDepth 20000 in
theorem m24_n : FP.dmul (4627448617123184640 : UInt64) 9223372036854775808 = 9223372036854775808 := by decide +kernel
set_option maxRecDepth 20000 in
theorem fC_add {f b n c : UInt64} {hi : Int} (hf : rg (-300) 0 f) (hb : FP.Core.DFin b) (hn : FP.Core.DFin n) (hcr : rg 640 hi c) : FP.dadd c (fC f b n) = FP.dadd c (fA f b n) := by
  have h := fX_rg hf hb hn
  have hz : zv FP.dconst0 = 0 := by rw [zc_0]; omega
  have hu := ue_pos
  unfold fC fA
  have hq : 0 ≤ (Op.cmpValue (FP.dcmp (fX f b n) FP.dconst0) CmpOp.g) ↔ 0 ≤ zv (fX f b n) := by rw [cm_ge h.1 rc_0.1, hz]
  rcases Int.lt_trichotomy (zv (fX f b n)) 0 with h0 | h0 | h0
  · rw [if_neg (fun q => by have := hq.mp q; omega), mask_neg h.1 h0, neg_core h.1]
  · rw [if_pos (hq.mpr (by omega)), (mask_zero h.1 h0).1]
    rcases (mask_zero h.1 h0).2 with e | e
    · rw [e]
    · rw [e, m24_0, m24_n]
      rw [show FP.dadd c 9223372036854775808 = c from FP.Core.dadd_zeroNeg hcr.1.ne_nan]
      refine (FP.Core.dadd_zero hcr.1.ne_nan ?_).symm
      intro e2
      have h5 := hcr.2.1
      have h6 : zv c = 0 := by
        rw [e2]
        decide +kernel
      omega
  · rw [if_pos (hq.mpr (by omega)), mask_pos h.1 h0]
def fH (s : Int32) (t : UInt64) : UInt64 := FP.dadd t (FP.dmul (FP.dsub (FP.i2d s) t) (4598175219545276416 : UInt64))
set_option maxRecDepth 20000 in
theorem fH_all {s : Int32} {t : UInt64} (h1 : -30 ≤ s.toInt) (h2 : s.toInt ≤ -10) (ht : rg (-1040) 256 t) : rg (-2000) 2000 (FP.dsub (FP.i2d s) t) ∧ rg (-500) 500 (FP.dmul (FP.dsub (FP.i2d s) t) (4598175219545276416 : UInt64)) ∧ rg (-1040) 256 (fH s t) := by
  have hs : rg (32 * s.toInt) (32 * s.toInt) (FP.i2d s) := rg_i2d (Int.le_refl _) (Int.le_refl _)
  unfold fH
  by_cases c1 : zv t ≤ 32 * s.toInt * ue
  · have t1 : rg (-1040) (32 * s.toInt) t := ⟨ht.1, ht.2.1, c1⟩
    have x1 := rg_sub hs t1 (by omega) (by omega)
    have x2 : rg 0 720 (FP.dsub (FP.i2d s) t) := x1.mono (by omega) (by omega)
    have x3 := rg_mul x2 8 (by decide) rc_25.1 zc_25 0 180 (by decide) (by decide) (by decide) (by decide)
    have x4 := rg_add t1 x3 (by decide) (by omega)
    exact ⟨x2.mono (by decide) (by decide), x3.mono (by decide) (by decide), x4.mono (by decide) (by omega)⟩
  · by_cases c2 : -640 * ue ≤ zv t
    · have t1 : rg (-640) 256 t := ⟨ht.1, c2, ht.2.2⟩
      have t2 : rg (32 * s.toInt) 256 t := ⟨ht.1, by omega, ht.2.2⟩
      have x1 := rg_sub hs t2 (by omega) (by omega)
      have x2 : rg (-1216) 0 (FP.dsub (FP.i2d s) t) := x1.mono (by omega) (by omega)
      have x3 := rg_mul x2 8 (by decide) rc_25.1 zc_25 (-304) 0 (by decide) (by decide) (by decide) (by decide)
      have x4 := rg_add t1 x3 (by decide) (by decide)
      exact ⟨x2.mono (by decide) (by decide), x3.mono (by decide) (by decide), x4.mono (by decide) (by decide)⟩
    · have t2 : rg (32 * s.toInt) (-640) t := ⟨ht.1, by omega, by omega⟩
      have x1 := rg_sub hs t2 (by omega) (by omega)
      have x2 : rg (-320) 0 (FP.dsub (FP.i2d s) t) := x1.mono (by omega) (by omega)
      have x3 := rg_mul x2 8 (by decide) rc_25.1 zc_25 (-80) 0 (by decide) (by decide) (by decide) (by decide)
      have x4 := rg_add t2 x3 (by omega) (by decide)
      exact ⟨x2.mono (by decide) (by decide), x3.mono (by decide) (by decide), x4.mono (by omega) (by decide)⟩
def fO (t : UInt64) : UInt64 := if 0 ≤ (Op.cmpValue (FP.dcmp (FP.dadd t (4609434218613702656 : UInt64)) (4620693217682128896 : UInt64)) CmpOp.g) then (4620693217682128896 : UInt64) else FP.dadd t (4609434218613702656 : UInt64)
set_option maxRecDepth 20000 in
theorem fO_1 {t : UInt64} (ht : rg (-1040) 256 t) : rg (-992) 304 (FP.dadd t (4609434218613702656 : UInt64)) := rg_add ht rc_15 (by decide) (by decide)
set_option maxRecDepth 20000 in
theorem fO_rg {t : UInt64} (ht : rg (-1040) 256 t) : rg (-1040) 256 (fO t) := by
  have h := fO_1 ht
  unfold fO
  split
  · exact rc_8.mono (by decide) (by decide)
  · rename_i hc
    rw [cm_ge h.1 rc_8.1, zc_8] at hc
    have hu := ue_pos
    have h3 := h.2.1
    exact ⟨h.1, by omega, by omega⟩
set_option maxRecDepth 20000 in
theorem fO_min {t : UInt64} (ht : rg (-1040) 256 t) : f_J9_min_eb370 (4620693217682128896 : UInt64) (FP.dadd t (4609434218613702656 : UInt64)) = some (fO t) := by
  have h := fO_1 ht
  unfold f_J9_min_eb370
  have n1 : FP.dIsNaN (4620693217682128896 : UInt64) = false := rc_8.1.notNaN
  have n2 : FP.dIsNaN (FP.dadd t (4609434218613702656 : UInt64)) = false := h.1.notNaN
  rw [n1, n2]
  show some _ = some _
  congr 1
  unfold Native.java_lang_Math.nans.pick64 fO
  have e : FP.dcmp (4620693217682128896 : UInt64) (FP.dadd t (4609434218613702656 : UInt64)) = some (compare (zv 4620693217682128896) (zv (FP.dadd t (4609434218613702656 : UInt64)))) := FP.Core.dcmp_zval rc_8.1.ne_nan h.1.ne_nan
  have hq : 0 ≤ (Op.cmpValue (FP.dcmp (FP.dadd t (4609434218613702656 : UInt64)) (4620693217682128896 : UInt64)) CmpOp.g) ↔ zv 4620693217682128896 ≤ zv (FP.dadd t (4609434218613702656 : UInt64)) := cm_ge h.1 rc_8.1 _
  rcases Int.lt_trichotomy (zv 4620693217682128896) (zv (FP.dadd t (4609434218613702656 : UInt64))) with h0 | h0 | h0
  · rw [if_pos (hq.mpr (by omega)), e, (FP.Core.compare_lt_iff _ _).mpr h0]
    rfl
  · rw [if_pos (hq.mpr (by omega)), e, (FP.Core.compare_eq_iff _ _).mpr h0]
    have h7 : FP.dadd t (4609434218613702656 : UInt64) = 4620693217682128896 := by
      refine FP.Core.eq_bits ?_ ?_
      · rw [FP.Core.zero_bits2]; decide
      · rw [show FP.Core.dcmp (FP.dadd t (4609434218613702656 : UInt64)) 4620693217682128896 = some (compare (zv (FP.dadd t (4609434218613702656 : UInt64))) (zv 4620693217682128896)) from FP.Core.dcmp_zval h.1.ne_nan rc_8.1.ne_nan, (FP.Core.compare_eq_iff _ _).mpr h0.symm]
    rw [h7]
    rfl
  · have hn : ¬ 0 ≤ (Op.cmpValue (FP.dcmp (FP.dadd t (4609434218613702656 : UInt64)) (4620693217682128896 : UInt64)) CmpOp.g) := fun q => by have := hq.mp q; omega
    rw [if_neg hn, e, (FP.Core.compare_gt_iff _ _).mpr h0]
    rfl
/-! to whole numbers -/
set_option maxRecDepth 20000 in
theorem d2_same {x : UInt64} (h : rg (-2 ^ 34) (2 ^ 34) x) : FP.d2l x = (FP.d2i x).toInt64 := by
  have h1 := FP.Core.d2i_val h.1.ne_nan
  have h2 := FP.Core.d2l_val h.1.ne_nan
  have h3 : zm x ≤ 2 ^ 34 * ueN := by
    have a1 := h.2.1
    have a2 := h.2.2
    rw [zv_sm] at a1 a2
    have e3 : (2 : Int) ^ 34 * ue = ((2 ^ 34 * ueN : Nat) : Int) := by unfold ue; rw [Int.natCast_mul]; rfl
    rw [e3] at a2
    rw [Int.neg_mul, e3] at a1
    cases hs : FP.Core.sgn (FP.Core.val64 x) with
    | false => rw [hs, sg_f] at a2; omega
    | true => rw [hs, sg_t] at a1; omega
  have h4 : zm x / FP.Core.one64 ≤ 2 ^ 29 := by
    rw [← ueN_one]
    refine Nat.div_le_of_le_mul ?_
    have e : 32 * ueN * 2 ^ 29 = 2 ^ 34 * ueN := by omega
    rw [e]
    exact h3
  refine Int64.toInt.inj ?_
  rw [Int32.toInt_toInt64]
  rw [show (FP.d2l x).toInt = _ from h2, show (FP.d2i x).toInt = _ from h1]
  unfold zm at h4
  generalize FP.Core.zmag FP.Core.b64 (FP.Core.val64 x) / FP.Core.one64 = w at h4 ⊢
  cases FP.Core.sgn (FP.Core.val64 x)
  · rw [sg_f]; omega
  · rw [sg_t]; omega
set_option maxRecDepth 20000 in
theorem rg_mul8 {a b : Int} {x : UInt64} (h : rg a b x) (h1 : (8 * a).natAbs < 2 ^ 53) (h2 : (8 * b).natAbs < 2 ^ 53) : rg (8 * a) (8 * b) (FP.dmul x (4620693217682128896 : UInt64)) := rg_mul h 256 (by decide) rc_8.1 zc_8 (8 * a) (8 * b) h1 h2 (by omega) (by omega)
