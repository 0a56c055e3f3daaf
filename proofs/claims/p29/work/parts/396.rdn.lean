section RDN
variable {a b c d h : Nat} {I J : MI} {D E : MD}
set_option maxRecDepth 20000 in
theorem w9 {w : Nat} (h : w < 9) : w = 0 ∨ w = 1 ∨ w = 2 ∨ w = 3 ∨ w = 4 ∨ w = 5 ∨ w = 6 ∨ w = 7 ∨ w = 8 := by omega
set_option maxRecDepth 20000 in
theorem w12 {w : Nat} (h : w < 12) : w = 0 ∨ w = 1 ∨ w = 2 ∨ w = 3 ∨ w = 4 ∨ w = 5 ∨ w = 6 ∨ w = 7 ∨ w = 8 ∨ w = 9 ∨ w = 10 ∨ w = 11 := by omega
set_option maxRecDepth 20000 in
theorem w6 {w : Nat} (h : w < 6) : w = 0 ∨ w = 1 ∨ w = 2 ∨ w = 3 ∨ w = 4 ∨ w = 5 := by omega
/- a number in a range from 0 on -/
set_option maxRecDepth 20000 in
theorem rgN_ {p hi : Int32} {n : Nat} (hn : n < 2 ^ 31) (e : hi.toInt + 1 = n) (h0 : (0 : Int32).toInt ≤ p.toInt) (h1 : p.toInt ≤ hi.toInt) : ∃ w, w < n ∧ p = nI w := by
  have z : (0 : Int32).toInt = 0 := by decide
  rw [z] at h0
  refine ⟨p.toInt.toNat, by omega, ?_⟩
  rw [eqI, nI_toInt (by omega)]
  omega
def mixV (I : MI) (k : Nat) (w : Nat) : Int32 := match w with
  | 0 => I (13 + k) 0
  | 1 => I (13 + k) 1
  | 2 => I (13 + k) 5
  | 3 => I (13 + k) 6
  | 4 => I (13 + k) 10
  | 5 => I (13 + k) 8
  | 6 => fCr (I (13 + k) 2) (I (13 + k) 3) (I (13 + k) 0)
  | 7 => I (13 + k) 7
  | _ => I (13 + k) 9
set_option maxRecDepth 20000 in
theorem if01 {x : Int32} (h : x = 0 ∨ x = 1) : (if x = 0 then some (0 : Int32) else some 1) = some x := by
  rcases h with rfl | rfl
  · rfl
  · rfl
set_option maxRecDepth 20000 in
theorem if01E {x : Int32} (h : x = 0 ∨ x = 1) : (if x = 0 then some (Except.ok 0 : Except String Int32) else some (Except.ok 1)) = some (Except.ok x) := by
  rcases h with rfl | rfl
  · rfl
  · rfl
set_option maxRecDepth 20000 in
theorem mixV_C (R : RR 0 a b c d h I D J E) {k w : Nat} (hk : k < b) (hw : w < 9) (g : f_X4_checkRange (nI w) 0 8 = some (.ok ())) (g2 : f_X4_checkNumber (nI k) (nI b) = some (.ok ())) : f_X4_ofMix I D (nI k) (nI w) = some (.ok (mixV I k w)) := by
  have hb := R.b5
  unfold f_X4_ofMix
  rw [R.I6, g2, bE_o, g, bE_o, inB_nI (show k < 5 by omega) (by decide), nI_clamp (by omega), ckt, R.creamC hk, bd_s, if01E (fCr_01 _ _ _), if01E (R.mix.1 k hk).1.2.2.1]
  rcases w9 hw with rfl | rfl | rfl | rfl | rfl | rfl | rfl | rfl | rfl <;> rfl
set_option maxRecDepth 20000 in
theorem mixV_M (R : RR 0 a b c d h I D J E) {k w : Nat} (hk : k < b) (hw : w < 9) : f_X7_mixNow a b J E (nI k) (nI w) = some (mixV I k w) := by
  have hb := R.b5
  obtain ⟨⟨m1, m2, m3, m4⟩, -⟩ := R.mix.1 k hk
  rw [Int32.add_zero] at m4
  have hT : ∀ f4 f6, f4 = I (13 + k) 10 → f6 = fCr (I (13 + k) 2) (I (13 + k) 3) (I (13 + k) 0) → (upd (upd (upd (upd (upd (upd (upd (upd (upd (fun _ => (0 : Int32)) 0 (I (13 + k) 0)) 1 (I (13 + k) 1)) 2 (I (13 + k) 5)) 3 (I (13 + k) 6)) 4 f4) 5 (I (13 + k) 8)) 6 f6) 7 (I (13 + k) 7)) 8 (I (13 + k) 9)) w = mixV I k w := by
    rintro f4 f6 rfl rfl
    rcases w9 hw with rfl | rfl | rfl | rfl | rfl | rfl | rfl | rfl | rfl <;> rfl
  unfold f_X7_mixNow
  simp only [nm_v, bd_s, get2_ok R.gt E hk, R.all hk, R.cost hk, R.harms hk, R.creamM hk, R.set hk, R.batOf hk, m1, m2, m4, inB_nI hw (show 9 < 2 ^ 31 by decide), nI_clamp (show w < 2 ^ 31 by omega), ckt]
  rcases m3 with e4 | e4 <;> rcases fCr_01 (I (13 + k) 2) (I (13 + k) 3) (I (13 + k) 0) with e6 | e6
  · rw [if_pos e4, if_pos e6, hT _ _ e4.symm e6.symm]
  · rw [if_pos e4, if_neg (by rw [e6]; decide), hT _ _ e4.symm e6.symm]
  · rw [if_neg (by rw [e4]; decide), if_pos e6, hT _ _ e4.symm e6.symm]
  · rw [if_neg (by rw [e4]; decide), if_neg (by rw [e6]; decide), hT _ _ e4.symm e6.symm]
set_option maxRecDepth 20000 in
theorem a_ofMix (R : RR 0 a b c d h I D J E) (p1 p2 : Int32) : agR (fun _ => True) (PP a b h) I D [IOB, IAE] (f_X4_ofMix I D p1 p2) (f_X7_ofMix a b J E p1 p2) := by
  have R0 := R.thr 0
  have t0 : up2 J 0 0 0 0 0 = 0 := up2_hit J 0 0 0
  unfold f_X7_ofMix
  rw [nm_v]
  generalize up2 J 0 0 0 = J0 at R0 t0 ⊢
  have hc := R0.b5
  rcases num p1 (b31 hc) with ⟨i, hi, rfl, h1, h2⟩ | ⟨h1, h2⟩
  · rcases rng p2 0 8 with ⟨h3, h4, h5, h6⟩ | ⟨h3, h4⟩
    · obtain ⟨w, hw, rfl⟩ := rgN_ (n := 9) (by decide) (by decide) h5 h6
      rw [ixM R0.J2 (by decide) h2, bd_s, if10, h4, bd_s, if10, mixV_M R0 hi hw, bd_s, mixV_C R0 hi hw h3 h1]
      exact agR_ok rfl trivial t0 R0.pp
    · unfold f_X4_ofMix
      rw [R0.I6, h1, bE_o, h3, bE_e, ixM R0.J2 (by decide) h2, bd_s, if10, h4, bd_s, if00, no_e, bd_s]
      exact agR_er 1 rfl (up2_hit _ _ _ _) (R0.ppt 2)
  · unfold f_X4_ofMix
    rw [R0.I6, h1, bE_e, ixM R0.J2 (by decide) h2, bd_s, if00, no_e, bd_s]
    exact agR_er 0 rfl (up2_hit _ _ _ _) (R0.ppt 1)
def batV (I : MI) (D : MD) (i m : Nat) (w : Nat) : Int32 := match w with
  | 0 => I (18 + i) 0
  | 1 => I (18 + i) 1
  | 2 => I (18 + i) 3
  | 3 => I (18 + i) 2
  | 4 => coV (D (18 + i) 4)
  | _ => if I (13 + m) 7 &&& I 0 12 = 0 then 0 else 1
set_option maxRecDepth 20000 in
theorem if_01 {α : Type} (q : Prop) [Decidable q] : (if q then (0 : Int32) else 1) = 0 ∨ (if q then (0 : Int32) else 1) = 1 := by
  split
  · exact Or.inl rfl
  · exact Or.inr rfl
set_option maxRecDepth 20000 in
theorem batV_C (R : RR 0 a b c d h I D J E) {i m w : Nat} (hi : i < c) (hm : m < b) (e : I (18 + i) 0 = nI m) (hw : w < 6) (g : f_X4_checkRange (nI w) 0 5 = some (.ok ())) (g2 : f_X4_checkNumber (nI i) (nI c) = some (.ok ())) : f_X4_ofBatch I D (nI i) (nI w) = some (.ok (batV I D i m w)) := by
  have hc := R.c12
  unfold f_X4_ofBatch
  rw [R.I7, g2, bE_o, g, bE_o, inB_nI (show i < 12 by omega) (by decide), nI_clamp (by omega), ckt, coarseCl, bd_s, if01E (coV_01 _), R.calledC hm e, bd_s, if01E (if_01 (α := Nat) _), if01E (R.bat.1 i hi).2.2.2.2.2.2.2.1]
  rcases w6 hw with rfl | rfl | rfl | rfl | rfl | rfl <;> rfl
set_option maxRecDepth 20000 in
theorem batV_M (R : RR 0 a b c d h I D J E) {i m w : Nat} (hi : i < c) (hm : m < b) (e : I (18 + i) 0 = nI m) (hw : w < 6) : f_X7_batchNow a b J E (nI i) (nI w) = some (batV I D i m w) := by
  have hc := R.c12
  obtain ⟨q1, q2, q3, q4, q5, q6, q7, q8, q9⟩ := R.bat.1 i hi
  have e1 : J (5 + 1) i = I (18 + i) 0 := q1
  have e2 : J (5 + 2) i = I (18 + i) 1 := q2
  have e3 : J (5 + 3) i = I (18 + i) 3 := q3
  have e4 : J (5 + 4) i = I (18 + i) 2 := q4
  have e5 : E (5 + 5) i = D (18 + i) 4 := q5
  have hT : ∀ f2 f4 f5, f2 = I (18 + i) 3 → f4 = coV (D (18 + i) 4) → f5 = (if I (13 + m) 7 &&& I 0 12 = 0 then 0 else 1) → (upd (upd (upd (upd (upd (upd (fun _ => (0 : Int32)) 0 (I (18 + i) 0)) 1 (I (18 + i) 1)) 2 f2) 3 (I (18 + i) 2)) 4 f4) 5 f5) w = batV I D i m w := by
    rintro f2 f4 f5 rfl rfl rfl
    rcases w6 hw with rfl | rfl | rfl | rfl | rfl | rfl <;> rfl
  unfold f_X7_batchNow
  have hcl := R.calledM hi hm e
  have h01 := if_01 (α := Nat) (I (13 + m) 7 &&& I 0 12 = 0)
  generalize (if I (13 + m) 7 &&& I 0 12 = 0 then (0 : Int32) else 1) = cl at hcl h01 hT
  simp only [nm_v, bd_s, coarseM a b J E 5 (show i < 12 by omega), hcl, e1, e2, e3, e4, e5, inB_nI (show i < 12 by omega) (show 12 < 2 ^ 31 by decide), nI_clamp (show i < 2 ^ 31 by omega), inB_nI hw (show 6 < 2 ^ 31 by decide), nI_clamp (show w < 2 ^ 31 by omega), ckt]
  rcases q8 with e8 | e8 <;> rcases coV_01 (D (18 + i) 4) with e6 | e6 <;> rcases h01 with e7 | e7
  · rw [if_pos e8, if_pos e6, if_pos e7, hT _ _ _ e8.symm e6.symm e7.symm]
  · rw [if_pos e8, if_pos e6, if_neg (by rw [e7]; decide), hT _ _ _ e8.symm e6.symm e7.symm]
  · rw [if_pos e8, if_neg (by rw [e6]; decide), if_pos e7, hT _ _ _ e8.symm e6.symm e7.symm]
  · rw [if_pos e8, if_neg (by rw [e6]; decide), if_neg (by rw [e7]; decide), hT _ _ _ e8.symm e6.symm e7.symm]
  · rw [if_neg (by rw [e8]; decide), if_pos e6, if_pos e7, hT _ _ _ e8.symm e6.symm e7.symm]
  · rw [if_neg (by rw [e8]; decide), if_pos e6, if_neg (by rw [e7]; decide), hT _ _ _ e8.symm e6.symm e7.symm]
  · rw [if_neg (by rw [e8]; decide), if_neg (by rw [e6]; decide), if_pos e7, hT _ _ _ e8.symm e6.symm e7.symm]
  · rw [if_neg (by rw [e8]; decide), if_neg (by rw [e6]; decide), if_neg (by rw [e7]; decide), hT _ _ _ e8.symm e6.symm e7.symm]
set_option maxRecDepth 20000 in
theorem a_ofBatch (R : RR 0 a b c d h I D J E) (p1 p2 : Int32) : agR (fun _ => True) (PP a b h) I D [IOB, IAE] (f_X4_ofBatch I D p1 p2) (f_X7_ofBatch a b J E p1 p2) := by
  have R0 := R.thr 0
  have t0 : up2 J 0 0 0 0 0 = 0 := up2_hit J 0 0 0
  unfold f_X7_ofBatch
  rw [nm_v]
  generalize up2 J 0 0 0 = J0 at R0 t0 ⊢
  have hc := R0.c12
  rcases num p1 (b31 hc) with ⟨i, hi, rfl, h1, h2⟩ | ⟨h1, h2⟩
  · rcases rng p2 0 5 with ⟨h3, h4, h5, h6⟩ | ⟨h3, h4⟩
    · obtain ⟨w, hw, rfl⟩ := rgN_ (n := 6) (by decide) (by decide) h5 h6
      obtain ⟨m, hm, e, -⟩ := R0.ofB hi
      rw [ixB R0.J5 (by decide) h2, bd_s, if10, h4, bd_s, if10, batV_M R0 hi hm e hw, bd_s, batV_C R0 hi hm e hw h3 h1]
      exact agR_ok rfl trivial t0 R0.pp
    · unfold f_X4_ofBatch
      rw [R0.I7, h1, bE_o, h3, bE_e, ixB R0.J5 (by decide) h2, bd_s, if10, h4, bd_s, if00, no_e, bd_s]
      exact agR_er 1 rfl (up2_hit _ _ _ _) (R0.ppt 2)
  · unfold f_X4_ofBatch
    rw [R0.I7, h1, bE_e, ixB R0.J5 (by decide) h2, bd_s, if00, no_e, bd_s]
    exact agR_er 0 rfl (up2_hit _ _ _ _) (R0.ppt 1)
def manV (c : Nat) (I J : MI) (w : Nat) : Int32 := match w with
  | 0 => I 0 5
  | 1 => I 0 6
  | 2 => I 0 7
  | 3 => nI (cQ (J 9) 11 c)
  | 4 => nI (cQ (J 9) 10 c)
  | 5 => I 0 8
  | 6 => I 0 9
  | 7 => I 0 10
  | 8 => I 5 0
  | 9 => I 5 1
  | 10 => I 0 11
  | _ => I 0 12
set_option maxRecDepth 20000 in
theorem manV_C (R : RR 0 a b c d h I D J E) {w : Nat} (hw : w < 12) (g : f_X4_checkRange (nI w) 0 11 = some (.ok ())) : f_X4_many I D (nI w) = some (.ok (manV c I J w)) := by
  unfold f_X4_many
  rw [g, bE_o, R.cntC, R.cntC, bd_s, bd_s]
  rcases w12 hw with rfl | rfl | rfl | rfl | rfl | rfl | rfl | rfl | rfl | rfl | rfl | rfl <;> rfl
set_option maxRecDepth 20000 in
theorem manV_M (R : RR 0 a b c d h I D J E) {w : Nat} (hw : w < 12) : f_X7_manyNow a b J E (nI w) = some (manV c I J w) := by
  obtain ⟨k1, k2, k3, k4⟩ := R.1.2.2.2.2.1
  have r0 := R.1.2.2.2.2.2.1 0 (by decide)
  have r1 := R.1.2.2.2.2.2.1 1 (by decide)
  rw [Int32.add_zero] at k1
  have e0 : inB 0 2 = true := inB_nI (i := 0) (by decide) (by decide)
  have e1 : inB 1 2 = true := inB_nI (i := 1) (by decide) (by decide)
  have c0 : (0 : Int32).toNatClampNeg = 0 := nI_clamp (n := 0) (by decide)
  have c1 : (1 : Int32).toNatClampNeg = 1 := nI_clamp (n := 1) (by decide)
  unfold f_X7_manyNow f_size1 f_size2
  simp only [nm_v, bd_s, R.cntM, e0, e1, c0, c1, inB_nI hw (show 12 < 2 ^ 31 by decide), nI_clamp (show w < 2 ^ 31 by omega), ckt, R.J1, R.J2, R.J5, R.J6, ← k1, ← k2, ← k3, ← k4, ← r0, ← r1]
  rw [← R.I5, ← R.I6, ← R.I7, ← R.I8]
  rcases w12 hw with rfl | rfl | rfl | rfl | rfl | rfl | rfl | rfl | rfl | rfl | rfl | rfl <;> rfl
set_option maxRecDepth 20000 in
theorem a_many (R : RR 0 a b c d h I D J E) (p1 : Int32) : agR (fun _ => True) (PP a b h) I D [IAE] (f_X4_many I D p1) (f_X7_many a b J E p1) := by
  have R0 := R.thr 0
  have t0 : up2 J 0 0 0 0 0 = 0 := up2_hit J 0 0 0
  unfold f_X7_many
  rw [nm_v]
  generalize up2 J 0 0 0 = J0 at R0 t0 ⊢
  rcases rng p1 0 11 with ⟨h3, h4, h5, h6⟩ | ⟨h3, h4⟩
  · obtain ⟨w, hw, rfl⟩ := rgN_ (n := 12) (by decide) (by decide) h5 h6
    rw [h4, bd_s, if10, manV_M R0 hw, bd_s, manV_C R0 hw h3]
    exact agR_ok rfl trivial t0 R0.pp
  · unfold f_X4_many
    rw [h3, bE_e, h4, bd_s, if00, no_e, bd_s]
    exact agR_er 0 rfl (up2_hit _ _ _ _) (R0.ppt 1)
end RDN
