/-! ===== the cream of ints and that of doubles ===== -/
def u13 : Nat := 2 ^ 1061
set_option maxRecDepth 20000 in
theorem u13_pos : 0 < u13 := Nat.two_pow_pos _
set_option maxRecDepth 20000 in
theorem u13_one : 8192 * u13 = FP.Core.one64 := by decide +kernel
set_option maxRecDepth 20000 in
theorem u13_ue : ueN = 256 * u13 := by decide +kernel
set_option maxRecDepth 20000 in
theorem fq13 (k : Nat) (h : k < 2 ^ 53) : ∃ V : FP.Core.Datum, FP.Core.fits FP.Core.b64 V ∧ V ≠ .nan ∧ FP.Core.zmag FP.Core.b64 V = k * u13 := by
  obtain ⟨c, q, h1, h2⟩ := FP.Core.round_exact FP.Core.good_b64 false (c := k) (q := -13) h (by decide) (by decide)
  refine ⟨.fin false c q, h1 ▸ FP.Core.round_fits FP.Core.good_b64 _, fun z => FP.Core.Datum.noConfusion z, ?_⟩
  show FP.Core.inUnits c q FP.Core.b64.qmin = _
  rw [h2]
  show k * 2 ^ ((-13 : Int) - FP.Core.b64.qmin).toNat = _
  rw [show 2 ^ ((-13 : Int) - FP.Core.b64.qmin).toNat = u13 by decide +kernel]
set_option maxRecDepth 20000 in
theorem dv13 {x y : UInt64} (hx : FP.Core.DFin x) (hy : FP.Core.DFin y) (k : Nat) (hk : k < 2 ^ 53) (hp : 0 < zm y) :
    (8192 * zm x ≤ k * zm y → zm (FP.ddiv x y) ≤ k * u13) ∧ (k * zm y ≤ 8192 * zm x → k * u13 ≤ zm (FP.ddiv x y)) := by
  obtain ⟨s, c, q, ex⟩ := hx
  obtain ⟨t, d, r, ey⟩ := hy
  have fx := FP.Core.val64_fits x
  have fy := FP.Core.val64_fits y
  unfold zm at hp ⊢
  rw [ex] at fx
  rw [ey] at fy hp
  have hd0 : d ≠ 0 := by
    rintro rfl
    have h1 : FP.Core.zmag FP.Core.b64 (.fin t 0 r) = 0 := Nat.zero_mul _
    omega
  have hd : FP.Core.val64 (FP.ddiv x y) = FP.Core.roundRatio FP.Core.b64 (s != t) c d (q - r) := by
    rw [show FP.Core.val64 (FP.ddiv x y) = _ from FP.Core.val64_ddiv x y, ex, ey]
    simp only [FP.Core.quotient, if_neg hd0]
  rw [hd, ex, ey]
  obtain ⟨V, fV, nV, zV⟩ := fq13 k hk
  have hx1 := fx.2.1
  have hy1 := fy.2.1
  have hq := FP.Core.qmin_neg FP.Core.good_b64
  have e1 : FP.Core.inUnits c (q - r) (2 * FP.Core.b64.qmin - r) = FP.Core.zmag FP.Core.b64 (.fin s c q) * 2 ^ (-FP.Core.b64.qmin).toNat := by
    show c * _ = c * _ * _
    rw [Nat.mul_assoc, ← Nat.pow_add]; congr 2; omega
  have e2 : 2 ^ (FP.Core.b64.qmin - (2 * FP.Core.b64.qmin - r)).toNat * d = FP.Core.zmag FP.Core.b64 (.fin t d r) := by
    show _ = d * _
    rw [Nat.mul_comm]; congr 2; omega
  have e4 : FP.Core.zmag FP.Core.b64 (.fin s c q) * (8192 * u13) = 8192 * FP.Core.zmag FP.Core.b64 (.fin s c q) * u13 := by ac_rfl
  have e5 : k * u13 * FP.Core.zmag FP.Core.b64 (.fin t d r) = k * FP.Core.zmag FP.Core.b64 (.fin t d r) * u13 := by ac_rfl
  refine ⟨fun h => ?_, fun h => ?_⟩
  · rw [← zV]
    refine FP.Core.zmag_roundRatio_le FP.Core.good_b64 (e0 := 2 * FP.Core.b64.qmin - r) (Nat.pos_of_ne_zero hd0) fV nV (by omega) (by omega) ?_
    rw [e1, Nat.mul_assoc, e2, zV, FP.Core.pow_qmin64, ← u13_one, e4, e5]
    exact Nat.mul_le_mul_right u13 h
  · rw [← zV]
    refine FP.Core.zmag_roundRatio_ge FP.Core.good_b64 (e0 := 2 * FP.Core.b64.qmin - r) (Nat.pos_of_ne_zero hd0) fV (by omega) (by omega) ?_
    rw [e1, Nat.mul_assoc, e2, zV, FP.Core.pow_qmin64, ← u13_one, e4, e5]
    exact Nat.mul_le_mul_right u13 h
set_option maxRecDepth 20000 in
theorem zm_abs (x : UInt64) : zm x = (zv x).natAbs := by
  rw [zv_sm, FP.Core.natAbs_signed]
set_option maxRecDepth 20000 in
theorem fP_lt {s k : Int32} (t : Nat) (ht : t ≤ 10) (ht0 : 1 ≤ t) (hk1 : 1 ≤ k.toInt) (hk5 : k.toInt ≤ 500) (h0 : 0 ≤ s.toInt) (h : s.toInt ≤ 1000 * k.toInt) : zv (fP s k) < ((32 * t : Nat) : Int) * ue ↔ s.toInt < 10 * t * k.toInt := by
  have r1 := fP_1 hk1 h0 h
  have r2 := fP_2 hk1 h0 h
  have hue : ue = ((256 * u13 : Nat) : Int) := by unfold ue; rw [u13_ue]
  have hup := u13_pos
  have DV : ∀ {x y : UInt64} (_ : FP.Core.DFin x) (_ : FP.Core.DFin y) (k : Nat) (_ : k < 2 ^ 53) (_ : 0 < zm y), (8192 * zm x ≤ k * zm y → zm (FP.ddiv x y) ≤ k * u13) ∧ (k * zm y ≤ 8192 * zm x → k * u13 ≤ zm (FP.ddiv x y)) := fun hx hy k hk hp => dv13 hx hy k hk hp
  generalize u13 = u at hue hup DV
  obtain ⟨S, hS⟩ : ∃ S : Nat, s.toInt = S := ⟨s.toInt.toNat, by omega⟩
  obtain ⟨K, hK⟩ : ∃ K : Nat, k.toInt = K := ⟨k.toInt.toNat, by omega⟩
  have fs : FP.Core.DFin (FP.i2d s) := (rg_i2d (a := s) (lo := 32 * s.toInt) (hi := 32 * s.toInt) (Int.le_refl _) (Int.le_refl _)).1
  have fk : FP.Core.DFin (FP.i2d k) := (rg_i2d (a := k) (lo := 32 * k.toInt) (hi := 32 * k.toInt) (Int.le_refl _) (Int.le_refl _)).1
  have e32 : ∀ n : Nat, 32 * n * (256 * u) = n * (8192 * u) := fun n => by
    rw [show 8192 * u = 32 * (256 * u) by omega]
    ac_rfl
  have cast : ∀ n : Nat, 32 * (n : Int) * ue = ((n * (8192 * u) : Nat) : Int) := fun n => by
    rw [← e32, hue, Int.natCast_mul (32 * n), Int.natCast_mul 32 n]
    rfl
  have zs : zm (FP.i2d s) = S * (8192 * u) := by
    rw [zm_abs, zv_i2d, hS, cast, Int.natAbs_natCast]
  have zk : zm (FP.i2d k) = K * (8192 * u) := by
    rw [zm_abs, zv_i2d, hK, cast, Int.natAbs_natCast]
  have zT : zm 4621819117588971520 = 10 * (8192 * u) := by
    rw [zm_abs, zc_10, show (320 : Int) = 32 * ((10 : Nat) : Int) by decide, cast, Int.natAbs_natCast]
  have hKp : 0 < zm (FP.i2d k) := by rw [zk]; exact Nat.mul_pos (by omega) (by omega)
  have hTp : 0 < zm 4621819117588971520 := by rw [zT]; omega
  have zr : zv (fP s k) = (zm (fP s k) : Int) := by
    have h1 := r2.2.1
    rw [zm_abs]
    have : (0 : Int) * ue = 0 := Int.zero_mul _
    omega
  have e3 : ((32 * t : Nat) : Int) * ue = ((t * 8192 * u : Nat) : Int) := by
    rw [Int.natCast_mul 32 t, show ((32 : Nat) : Int) = 32 from rfl, cast, Nat.mul_assoc]
  have e10 : ((10 * t * K : Nat) : Int) = 10 * (t : Int) * K := by rw [Int.natCast_mul, Int.natCast_mul]; rfl
  have e9 : zm (fP s k) = zm (FP.ddiv (FP.ddiv (FP.i2d s) (FP.i2d k)) 4621819117588971520) := rfl
  rw [zr, e3, hS, hK, ← e10]
  constructor
  · intro hl
    refine Decidable.byContradiction (fun hc => ?_)
    have hc' : 10 * t * K ≤ S := by omega
    have s1 := (DV fs fk (10 * t * 8192) (by omega) hKp).2 (by
      rw [zs, zk]
      have := Nat.mul_le_mul_right (8192 * (8192 * u)) hc'
      have g1 : 10 * t * 8192 * (K * (8192 * u)) = 10 * t * K * (8192 * (8192 * u)) := by ac_rfl
      have g2 : 8192 * (S * (8192 * u)) = S * (8192 * (8192 * u)) := by ac_rfl
      rw [g1, g2]
      exact this)
    have s2 := (DV r1.1 rc_10.1 (t * 8192) (by omega) hTp).2 (by
      rw [zT]
      have := Nat.mul_le_mul_left 8192 s1
      have g1 : t * 8192 * (10 * (8192 * u)) = 8192 * (10 * t * 8192 * u) := by ac_rfl
      rw [g1]
      exact this)
    omega
  · intro hc
    have hc' : S + 1 ≤ 10 * t * K := by omega
    have s1 := (DV fs fk (10 * t * 8192 - 16) (by omega) hKp).1 (by
      rw [zs, zk]
      have g1 : (10 * t * 8192 - 16) * (K * (8192 * u)) = (10 * t * 8192 - 16) * K * (8192 * u) := by ac_rfl
      have g2 : 8192 * (S * (8192 * u)) = 8192 * S * (8192 * u) := by ac_rfl
      rw [g1, g2]
      refine Nat.mul_le_mul_right _ ?_
      rw [Nat.sub_mul]
      have g3 : 10 * t * 8192 * K = 8192 * (10 * t * K) := by ac_rfl
      rw [g3]
      have hK5 : K ≤ 500 := by omega
      omega)
    have s2 := (DV r1.1 rc_10.1 (t * 8192 - 1) (by omega) hTp).1 (by
      rw [zT]
      refine Nat.le_trans (Nat.mul_le_mul_left 8192 s1) ?_
      have g1 : (t * 8192 - 1) * (10 * (8192 * u)) = 8192 * ((t * 8192 - 1) * 10 * u) := by ac_rfl
      rw [g1]
      exact Nat.mul_le_mul_left 8192 (Nat.mul_le_mul_right u (by omega)))
    have h8 : (t * 8192 - 1) * u < t * 8192 * u := Nat.mul_lt_mul_of_pos_right (by omega) hup
    omega
set_option maxRecDepth 20000 in
theorem cream_eq {F M k : Int32} (hk1 : 1 ≤ k.toInt) (hk5 : k.toInt ≤ 500) (f0 : 0 ≤ F.toInt) (f1 : F.toInt ≤ 1000 * k.toInt) (m0 : 0 ≤ M.toInt) (m1 : M.toInt ≤ 1000 * k.toInt) : fCr F M k = if F < 100 * k then 0 else if M < 80 * k then 0 else 1 := by
  have z100 : (100 : Int32).toInt = 100 := by decide
  have z80 : (80 : Int32).toInt = 80 := by decide
  have h1 : (Op.cmpValue (FP.dcmp (fP F k) (4621819117588971520 : UInt64)) CmpOp.l < 0) = (F < 100 * k) := propext (by
    rw [cm_lt (fP_2 hk1 f0 f1).1 rc_10.1, zc_10, ltI, im (by rw [z100]; omega) (by rw [z100]; omega), z100]
    exact fP_lt 10 (by decide) (by decide) hk1 hk5 f0 f1)
  have h2 : (Op.cmpValue (FP.dcmp (fP M k) (4620693217682128896 : UInt64)) CmpOp.l < 0) = (M < 80 * k) := propext (by
    rw [cm_lt (fP_2 hk1 m0 m1).1 rc_8.1, zc_8, ltI, im (by rw [z80]; omega) (by rw [z80]; omega), z80]
    exact fP_lt 8 (by decide) (by decide) hk1 hk5 m0 m1)
  unfold fCr
  by_cases c1 : F < 100 * k
  · rw [if_pos c1, if_pos (by rw [h1]; exact c1)]
  · rw [if_neg c1, if_neg (by rw [h1]; exact c1)]
    by_cases c2 : M < 80 * k
    · rw [if_pos c2, if_pos (by rw [h2]; exact c2)]
    · rw [if_neg c2, if_neg (by rw [h2]; exact c2)]
