/-! ===== how the two agree on a call ===== -/
set_option maxRecDepth 20000 in
theorem ckt {β : Type} (x : Option β) : ck true x = x := rfl
set_option maxRecDepth 20000 in
theorem bd_s {α β : Type} (v : α) (k : α → Option β) : bd (some v) k = k v := rfl
set_option maxRecDepth 20000 in
theorem nm_v {α β : Type} (v : α) (k : α → β) : nm v k = k v := rfl
set_option maxRecDepth 20000 in
theorem bE_o {α β : Type} (v : α) (k : α → Option (Except String β)) : bE (some (.ok v)) k = k v := rfl
set_option maxRecDepth 20000 in
theorem bE_e {α β : Type} (e : String) (k : α → Option (Except String β)) : bE (some (.error e)) k = some (.error e) := rfl
set_option maxRecDepth 20000 in
theorem i10 : ¬ (1 : Int32) = 0 := by decide
set_option maxRecDepth 20000 in
theorem if10 {α : Type} {i : Decidable ((1 : Int32) = 0)} (x y : α) : @ite α ((1 : Int32) = 0) i x y = y := if_neg i10
set_option maxRecDepth 20000 in
theorem if00 {α : Type} {i : Decidable ((0 : Int32) = 0)} (x y : α) : @ite α ((0 : Int32) = 0) i x y = x := if_pos rfl
/- a call that may write -/
def agW {α : Type} (Q : α → Prop) (P : MI → MD → MI → MD → Prop) (I : MI) (D : MD) (cs : List String) (x : Option (Except String (α × MI × MD))) (y : Option (α × MI × MD)) : Prop :=
  ∃ v J' E', y = some (v, J', E') ∧ ((J' 0 0 = 0 ∧ Q v ∧ ∃ I' D', x = some (.ok (v, I', D')) ∧ P I' D' J' E') ∨ ∃ n e, cs[n]? = some e ∧ J' 0 0 = nI (n + 1) ∧ x = some (.error e) ∧ P I D J' E')
/- a call that only reads, on the class's side -/
def agR {α : Type} (Q : α → Prop) (P : MI → MD → MI → MD → Prop) (I : MI) (D : MD) (cs : List String) (x : Option (Except String α)) (y : Option (α × MI × MD)) : Prop :=
  ∃ v J' E', y = some (v, J', E') ∧ P I D J' E' ∧ ((J' 0 0 = 0 ∧ Q v ∧ x = some (.ok v)) ∨ ∃ n e, cs[n]? = some e ∧ J' 0 0 = nI (n + 1) ∧ x = some (.error e))
set_option maxRecDepth 20000 in
theorem agW_ok {α : Type} {Q : α → Prop} {P : MI → MD → MI → MD → Prop} {I : MI} {D : MD} {cs : List String} {v w : α} {I' J' : MI} {D' E' : MD} (hv : v = w) (hq : Q w) (h0 : J' 0 0 = 0) (hp : P I' D' J' E') : agW Q P I D cs (some (.ok (v, I', D'))) (some (w, J', E')) := ⟨w, J', E', rfl, Or.inl ⟨h0, hq, I', D', by rw [hv], hp⟩⟩
set_option maxRecDepth 20000 in
theorem agW_er {α : Type} {Q : α → Prop} {P : MI → MD → MI → MD → Prop} {I : MI} {D : MD} {cs : List String} {w : α} {J' : MI} {E' : MD} (n : Nat) {e : String} (hc : cs[n]? = some e) (h0 : J' 0 0 = nI (n + 1)) (hp : P I D J' E') : agW Q P I D cs (some (.error e)) (some (w, J', E')) := ⟨w, J', E', rfl, Or.inr ⟨n, e, hc, h0, rfl, hp⟩⟩
set_option maxRecDepth 20000 in
theorem agR_ok {α : Type} {Q : α → Prop} {P : MI → MD → MI → MD → Prop} {I : MI} {D : MD} {cs : List String} {v w : α} {J' : MI} {E' : MD} (hv : v = w) (hq : Q w) (h0 : J' 0 0 = 0) (hp : P I D J' E') : agR Q P I D cs (some (.ok v)) (some (w, J', E')) := ⟨w, J', E', rfl, hp, Or.inl ⟨h0, hq, by rw [hv]⟩⟩
set_option maxRecDepth 20000 in
theorem agR_er {α : Type} {Q : α → Prop} {P : MI → MD → MI → MD → Prop} {I : MI} {D : MD} {cs : List String} {w : α} {J' : MI} {E' : MD} (n : Nat) {e : String} (hc : cs[n]? = some e) (h0 : J' 0 0 = nI (n + 1)) (hp : P I D J' E') : agR Q P I D cs (some (.error e)) (some (w, J', E')) := ⟨w, J', E', rfl, hp, Or.inr ⟨n, e, hc, h0, rfl⟩⟩
/- related again, with at most 48 hours more -/
def PP (a b h : Nat) : MI → MD → MI → MD → Prop := fun I D J E => ∃ c d h', h' ≤ h + 48 ∧ RR 0 a b c d h' I D J E
set_option maxRecDepth 20000 in
theorem RR.pp {a b c d h : Nat} {I J : MI} {D E : MD} (R : RR 0 a b c d h I D J E) : PP a b h I D J E := ⟨c, d, h, by omega, R⟩
set_option maxRecDepth 20000 in
theorem RR.ppt {a b c d h : Nat} {I J : MI} {D E : MD} (R : RR 0 a b c d h I D J E) (v : Int32) : PP a b h I D (up2 J 0 0 v) E := (R.thr v).pp
set_option maxRecDepth 20000 in
theorem no_e (a b : Nat) (J : MI) (E : MD) (v : Int32) : f_X7_no a b J E v = some (0, up2 J 0 0 v, E) := rfl
section IXA
variable {a b c d : Nat} {J : MI} {E : MD} {p r : Int32}
set_option maxRecDepth 20000 in
theorem ixI (g : J 1 2 = nI a) (hr : isB r = true) (h : f_X7_in p 0 (nI a - 1) = some r) : f_X7_isIngredient a b J E p = some r := by
  unfold f_X7_isIngredient f_size1
  rw [g, bd_s, h, bd_s, hr, ckt]
set_option maxRecDepth 20000 in
theorem ixM (g : J 2 2 = nI b) (hr : isB r = true) (h : f_X7_in p 0 (nI b - 1) = some r) : f_X7_isMix a b J E p = some r := by
  unfold f_X7_isMix f_size2
  rw [g, bd_s, h, bd_s, hr, ckt]
set_option maxRecDepth 20000 in
theorem ixB (g : J 5 0 = nI c) (hr : isB r = true) (h : f_X7_in p 0 (nI c - 1) = some r) : f_X7_isBatch a b J E p = some r := by
  unfold f_X7_isBatch
  rw [g, h, bd_s, hr, ckt]
set_option maxRecDepth 20000 in
theorem ixS (g : J 5 6 = nI d) (hr : isB r = true) (h : f_X7_in p 0 (nI d - 1) = some r) : f_X7_isStore a b J E p = some r := by
  unfold f_X7_isStore
  rw [g, h, bd_s, hr, ckt]
end IXA
set_option maxRecDepth 20000 in
theorem b31 {n k : Nat} (h : n ≤ k) (hk : k < 100 := by decide) : n < 2 ^ 31 := by omega
section RRc
variable {x : Int32} {a b c d h : Nat} {I J : MI} {D E : MD}
set_option maxRecDepth 20000 in
theorem RR.ms (R : RR x a b c d h I D J E) {k : Nat} (hk : k < b) : MS a k J (I (13 + k) 0) (I (13 + k) 2) (I (13 + k) 3) (I (13 + k) 4) := (R.mix.1 k hk).ms
set_option maxRecDepth 20000 in
theorem RR.frz (R : RR x a b c d h I D J E) {k : Nat} (hk : k < b) : D (13 + k) 11 = fF (I (13 + k) 4) (I (13 + k) 3) (I (13 + k) 0) := (R.mix.1 k hk).2.2.2.2.2.2.2.2.2
set_option maxRecDepth 20000 in
theorem RR.frg (R : RR x a b c d h I D J E) {k : Nat} (hk : k < b) : rg (-300) 0 (D (13 + k) 11) := by
  rw [R.frz hk]
  exact (R.ms hk).frg
set_option maxRecDepth 20000 in
theorem RR.creamC (R : RR x a b c d h I D J E) {k : Nat} (hk : k < b) : f_X2_isCream I D k = some (fCr (I (13 + k) 2) (I (13 + k) 3) (I (13 + k) 0)) := by
  have q := R.ms hk
  exact creamCc q.2.2.2.2.2.1 q.2.2.2.2.2.2.1.1 q.2.2.2.2.2.2.1.2 q.2.2.2.2.2.2.2.1.1 q.2.2.2.2.2.2.2.1.2
set_option maxRecDepth 20000 in
theorem RR.creamM (R : RR x a b c d h I D J E) {k : Nat} (hk : k < b) : f_X6_isCream a b J E k = some (fCr (I (13 + k) 2) (I (13 + k) 3) (I (13 + k) 0)) := (R.ms hk).cream R.gt E
set_option maxRecDepth 20000 in
theorem RR.harms (R : RR x a b c d h I D J E) {k : Nat} (hk : k < b) : f_X6_harms a b J E k = some (I (13 + k) 6) := by
  rw [harms_ok R.gt E k (R.ms hk).1, (R.mix.1 k hk).2.2.2.2.2.2.1]
set_option maxRecDepth 20000 in
theorem RR.set (R : RR x a b c d h I D J E) {k : Nat} (hk : k < b) : f_X6_set a b J E k = some (I (13 + k) 7) := by
  rw [set_ok, (R.mix.1 k hk).2.2.2.2.2.2.2.1]
set_option maxRecDepth 20000 in
theorem RR.all (R : RR x a b c d h I D J E) {k : Nat} (hk : k < b) : f_X6_all a b J E k = some (I (13 + k) 0) := by
  rw [all_ok, (R.ms hk).2.1]
set_option maxRecDepth 20000 in
theorem RR.cost (R : RR x a b c d h I D J E) {k : Nat} (hk : k < b) : f_X6_sum a b J E k 3 = some (I (13 + k) 5) := by
  rw [show (3 : Int32) = nI 3 from rfl, sum_ok R.gt E k 3 (by decide) (R.ms hk).1, ← (R.mix.1 k hk).2.2.2.2.1 3 (by decide)]
set_option maxRecDepth 20000 in
theorem RR.batOf (R : RR x a b c d h I D J E) {k : Nat} (hk : k < b) : f_X7_batchesOf a b J E (nI k) = some (I (13 + k) 9) := by
  unfold f_X7_batchesOf
  have h1 := batOf_L J k c R.c12 R.J5 c 0 200 (by omega) (by have := R.c12; omega)
  rw [show (0 : Int32) = nI 0 from rfl]
  refine h1.trans ?_
  rw [(R.mix.1 k hk).2.2.2.2.2.2.2.2.1, cB_Q, cQ_cong c (f := J 6) (g := fun i => I (18 + i) 0) (fun i hi => (R.bat.1 i hi).1)]
set_option maxRecDepth 20000 in
theorem RR.cntC (R : RR x a b c d h I D J E) (p : Int32) : f_X4_countAt I D p = some (nI (cQ (J 9) p c)) := by
  rw [cntCc D p R.c12 R.I7, cQ_cong c (f := J 9) (g := fun i => I (18 + i) 2) (fun i hi => (R.bat.1 i hi).2.2.2.1)]
set_option maxRecDepth 20000 in
theorem RR.cntM (R : RR x a b c d h I D J E) (p : Int32) : f_X5_count a b J E 5 p = some (nI (cQ (J 9) p c)) := cntMm a b E p R.c12 R.J5
/- what stands of batch i -/
set_option maxRecDepth 20000 in
theorem RR.ofB (R : RR x a b c d h I D J E) {i : Nat} (hi : i < c) : ∃ m, m < b ∧ I (18 + i) 0 = nI m ∧ J 6 i = nI m := by
  obtain ⟨h1, -, -, -, -, ⟨m, hm, h6⟩, -⟩ := R.bat.1 i hi
  exact ⟨m, hm, h6, by rw [h1, h6]⟩
set_option maxRecDepth 20000 in
theorem RR.crys (R : RR x a b c d h I D J E) {i : Nat} (hi : i < c) : E 10 i = D (18 + i) 4 := (R.bat.1 i hi).2.2.2.2.1
set_option maxRecDepth 20000 in
theorem RR.crg (R : RR x a b c d h I D J E) {i : Nat} (hi : i < c) : rg 640 (crM h) (D (18 + i) 4) := (R.bat.1 i hi).2.2.2.2.2.2.2.2
set_option maxRecDepth 20000 in
theorem RR.calledC (R : RR x a b c d h I D J E) {i m : Nat} (hm : m < b) (e : I (18 + i) 0 = nI m) : f_X4_isCalled I D i = some (if I (13 + m) 7 &&& I 0 12 = 0 then 0 else 1) := by
  have hb := R.b5
  unfold f_X4_isCalled f_X4_holdsAnyOf
  rw [e, inB_nI (show m < 5 by omega) (by decide), nI_clamp (by omega), ckt]
  by_cases hq : I (13 + m) 7 &&& I 0 12 = 0
  · rw [if_pos hq, if_pos hq]; rfl
  · rw [if_neg hq, if_neg hq]; rfl
set_option maxRecDepth 20000 in
theorem RR.calledM (R : RR x a b c d h I D J E) {i m : Nat} (hi : i < c) (hm : m < b) (e : I (18 + i) 0 = nI m) : f_X7_isCalled a b J E (nI i) = some (if I (13 + m) 7 &&& I 0 12 = 0 then 0 else 1) := by
  have hc := R.c12
  unfold f_X7_isCalled
  rw [inB_nI (show i < 12 by omega) (by decide), nI_clamp (by omega), ckt, show J (5 + 1) i = nI m from (R.bat.1 i hi).1.trans e, get2_ok R.gt E hm, bd_s, R.set hm, bd_s, ← R.1.2.2.2.2.1.2.2.2]
  by_cases hq : I (13 + m) 7 &&& I 0 12 = 0
  · rw [if_pos hq, if_pos hq]
  · rw [if_neg hq, if_neg hq]
def coV (cr : UInt64) : Int32 := if (Op.cmpValue (FP.dcmp cr (4632233691727265792 : UInt64)) CmpOp.l) ≤ 0 then 0 else 1
set_option maxRecDepth 20000 in
theorem coV_if (cr : UInt64) : (if (Op.cmpValue (FP.dcmp cr (4632233691727265792 : UInt64)) CmpOp.l) ≤ 0 then some (0 : Int32) else some 1) = some (coV cr) := by
  unfold coV
  split <;> rfl
set_option maxRecDepth 20000 in
theorem coarseCl (I : MI) (D : MD) (i : Nat) : f_X0_isCoarse I D i = some (coV (D (18 + i) 4)) := coV_if _
set_option maxRecDepth 20000 in
theorem coarseM (a b : Nat) (J : MI) (E : MD) (kb : Nat) {i : Nat} (hi : i < 12) : f_X5_isCoarse a b J E kb (nI i) = some (coV (E (kb + 5) i)) := by
  unfold f_X5_isCoarse
  rw [inB_nI hi (by decide), nI_clamp (by omega), ckt]
  exact coV_if _
set_option maxRecDepth 20000 in
theorem coV_01 (cr : UInt64) : coV cr = 0 ∨ coV cr = 1 := by
  unfold coV
  split
  · exact Or.inl rfl
  · exact Or.inr rfl
end RRc
