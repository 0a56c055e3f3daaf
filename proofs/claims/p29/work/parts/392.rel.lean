/-! ===== memories: what an update changes ===== -/
set_option maxRecDepth 20000 in
theorem up2_hit {α : Type} (I : Nat → Nat → α) (k n : Nat) (v : α) : up2 I k n v k n = v := by unfold up2; rw [va_up_self, va_up_self]
set_option maxRecDepth 20000 in
theorem up2_k {α : Type} (I : Nat → Nat → α) {k j : Nat} (n m : Nat) (v : α) (h : j ≠ k) : up2 I k n v j m = I j m := by rw [up2_ne I n v h]
set_option maxRecDepth 20000 in
theorem up2_n {α : Type} (I : Nat → Nat → α) (k : Nat) {n m : Nat} (v : α) (h : m ≠ n) : up2 I k n v k m = I k m := by rw [up2_self, va_up_ne _ _ h]
set_option maxRecDepth 20000 in
theorem up2_ap {α : Type} (I : Nat → Nat → α) (k n j m : Nat) (v : α) : up2 I k n v j m = if j = k ∧ m = n then v else I j m := by
  by_cases h : j = k
  · subst h
    by_cases h2 : m = n
    · subst h2; rw [up2_hit, if_pos ⟨rfl, rfl⟩]
    · rw [up2_n I j v h2, if_neg (fun q => h2 q.2)]
  · rw [up2_k I n m v h, if_neg (fun q => h q.1)]
/-! ===== Int32 ===== -/
set_option maxRecDepth 20000 in
theorem ltI (a b : Int32) : a < b ↔ a.toInt < b.toInt := Int32.lt_iff_toInt_lt
set_option maxRecDepth 20000 in
theorem leI (a b : Int32) : a ≤ b ↔ a.toInt ≤ b.toInt := Int32.le_iff_toInt_le
set_option maxRecDepth 20000 in
theorem eqI (a b : Int32) : a = b ↔ a.toInt = b.toInt := Int32.toInt_inj.symm
set_option maxRecDepth 20000 in
theorem ia {x y : Int32} (h1 : -2147483648 ≤ x.toInt + y.toInt) (h2 : x.toInt + y.toInt < 2147483648) : (x + y).toInt = x.toInt + y.toInt := by
  rw [Int32.toInt_add]
  exact Int.bmod_eq_of_le (by omega) (by omega)
set_option maxRecDepth 20000 in
theorem is_ {x y : Int32} (h1 : -2147483648 ≤ x.toInt - y.toInt) (h2 : x.toInt - y.toInt < 2147483648) : (x - y).toInt = x.toInt - y.toInt := by
  rw [Int32.toInt_sub]
  exact Int.bmod_eq_of_le (by omega) (by omega)
set_option maxRecDepth 20000 in
theorem im {x y : Int32} (h1 : -2147483648 ≤ x.toInt * y.toInt) (h2 : x.toInt * y.toInt < 2147483648) : (x * y).toInt = x.toInt * y.toInt := by
  rw [Int32.toInt_mul]
  exact Int.bmod_eq_of_le (by omega) (by omega)
set_option maxRecDepth 20000 in
theorem inB_nI {i n : Nat} (h : i < n) (hn : n < 2 ^ 31) : inB (nI i) n = true := by
  unfold inB
  rw [nI_clamp (by omega), decide_eq_false (nI_pos (by omega)), decide_eq_false (by omega)]
  rfl
set_option maxRecDepth 20000 in
theorem num (p : Int32) {n : Nat} (hn : n < 2 ^ 31) : (∃ i, i < n ∧ p = nI i ∧ f_X4_checkNumber (nI i) (nI n) = some (.ok ()) ∧ f_X7_in (nI i) 0 (nI n - 1) = some 1) ∨ (f_X4_checkNumber p (nI n) = some (.error "java/lang/IndexOutOfBoundsException") ∧ f_X7_in p 0 (nI n - 1) = some 0) := by
  have hneg : nI n - 1 < nI n := by
    cases n with
    | zero => decide
    | succ m => rw [nI_pred]; exact nI_lt (by omega) hn
  rcases pk_ix p hn with h | h | ⟨i, hi, rfl⟩
  · right
    unfold f_X4_checkNumber f_X7_in
    rw [if_pos h, if_pos h]
    exact ⟨rfl, rfl⟩
  · right
    have h0 : ¬ p < 0 := by
      have := nI_toInt hn
      have z : (0 : Int32).toInt = 0 := by decide
      rw [ltI, z]; rw [leI, this] at h; omega
    unfold f_X4_checkNumber f_X7_in
    rw [if_neg h0, if_neg h0, if_neg (by rw [ltI]; rw [leI] at h; omega), if_pos (by rw [ltI] at hneg ⊢; rw [leI] at h; omega)]
    exact ⟨rfl, rfl⟩
  · left
    refine ⟨i, hi, rfl, ?_, ?_⟩
    · unfold f_X4_checkNumber
      rw [if_neg (nI_pos (by omega)), if_pos (nI_lt hi hn)]
    · unfold f_X7_in
      obtain ⟨m, rfl⟩ : ∃ m, n = m + 1 := ⟨n - 1, by omega⟩
      rw [if_neg (nI_pos (by omega)), nI_pred, if_neg (nI_nlt (by omega) (by omega))]
set_option maxRecDepth 20000 in
theorem rng (p lo hi : Int32) : (f_X4_checkRange p lo hi = some (.ok ()) ∧ f_X7_in p lo hi = some 1 ∧ lo.toInt ≤ p.toInt ∧ p.toInt ≤ hi.toInt) ∨ (f_X4_checkRange p lo hi = some (.error "java/lang/IllegalArgumentException") ∧ f_X7_in p lo hi = some 0) := by
  unfold f_X4_checkRange f_X7_in
  by_cases h1 : p < lo
  · right
    rw [if_pos h1, if_pos h1]
    exact ⟨rfl, rfl⟩
  · by_cases h2 : p ≤ hi
    · left
      rw [if_neg h1, if_neg h1, if_pos h2, if_neg (by rw [ltI]; rw [leI] at h2; omega)]
      rw [ltI] at h1; rw [leI] at h2
      exact ⟨rfl, rfl, by omega, by omega⟩
    · right
      rw [if_neg h1, if_neg h1, if_neg h2, if_pos (by rw [ltI]; rw [leI] at h2; omega)]
      exact ⟨rfl, rfl⟩
set_option maxRecDepth 20000 in
theorem room {i n : Nat} (hi : i ≤ n) (hn : n < 2 ^ 31) : (i < n ∧ f_X4_checkRoom (nI i) (nI n) = some (.ok ()) ∧ ¬ nI i = nI n) ∨ (f_X4_checkRoom (nI i) (nI n) = some (.error "java/lang/IllegalStateException") ∧ nI i = nI n) := by
  unfold f_X4_checkRoom
  by_cases h : i < n
  · left
    rw [if_pos (nI_lt h hn)]
    exact ⟨h, rfl, fun e => by have := (nI_eq (by omega) hn).mp e; omega⟩
  · right
    have e : i = n := by omega
    subst e
    rw [if_neg (nI_nlt (Nat.le_refl _) (by omega))]
    exact ⟨rfl, rfl⟩
/-! ===== sums and unions over a row ===== -/
def sF (f : Nat → Int32) : Nat → Nat → Int32
  | _, 0 => 0
  | i, m + 1 => f i + sF f (i + 1) m
def oF (f : Nat → Int32) : Nat → Nat → Int32
  | _, 0 => 0
  | i, m + 1 => f i ||| oF f (i + 1) m
set_option maxRecDepth 20000 in
theorem sF_cong {f g : Nat → Int32} : ∀ (m i : Nat), (∀ j, i ≤ j → j < i + m → f j = g j) → sF f i m = sF g i m
  | 0, _, _ => rfl
  | m + 1, i, h => by
    unfold sF
    rw [h i (Nat.le_refl _) (by omega), sF_cong m (i + 1) (fun j h1 h2 => h j (by omega) (by omega))]
set_option maxRecDepth 20000 in
theorem oF_cong {f g : Nat → Int32} : ∀ (m i : Nat), (∀ j, i ≤ j → j < i + m → f j = g j) → oF f i m = oF g i m
  | 0, _, _ => rfl
  | m + 1, i, h => by
    unfold oF
    rw [h i (Nat.le_refl _) (by omega), oF_cong m (i + 1) (fun j h1 h2 => h j (by omega) (by omega))]
set_option maxRecDepth 20000 in
theorem sF_0 {f : Nat → Int32} : ∀ (m i : Nat), (∀ j, i ≤ j → j < i + m → f j = 0) → sF f i m = 0
  | 0, _, _ => rfl
  | m + 1, i, h => by
    unfold sF
    rw [h i (Nat.le_refl _) (by omega), sF_0 m (i + 1) (fun j h1 h2 => h j (by omega) (by omega))]
    rfl
set_option maxRecDepth 20000 in
theorem oF_0 {f : Nat → Int32} : ∀ (m i : Nat), (∀ j, i ≤ j → j < i + m → f j = 0) → oF f i m = 0
  | 0, _, _ => rfl
  | m + 1, i, h => by
    unfold oF
    rw [h i (Nat.le_refl _) (by omega), oF_0 m (i + 1) (fun j h1 h2 => h j (by omega) (by omega))]
    rfl
set_option maxRecDepth 20000 in
theorem sF_app {f : Nat → Int32} : ∀ (m n i : Nat), sF f i (m + n) = sF f i m + sF f (i + m) n
  | 0, n, i => by
    rw [Nat.zero_add, Nat.add_zero]
    show _ = 0 + _
    rw [Int32.zero_add]
  | m + 1, n, i => by
    rw [show m + 1 + n = (m + n) + 1 by omega]
    show f i + sF f (i + 1) (m + n) = f i + sF f (i + 1) m + sF f (i + (m + 1)) n
    rw [sF_app m n (i + 1), show i + 1 + m = i + (m + 1) by omega, Int32.add_assoc]
set_option maxRecDepth 20000 in
theorem oF_app {f : Nat → Int32} : ∀ (m n i : Nat), oF f i (m + n) = oF f i m ||| oF f (i + m) n
  | 0, n, i => by
    rw [Nat.zero_add, Nat.add_zero]
    show _ = 0 ||| _
    rw [Int32.zero_or]
  | m + 1, n, i => by
    rw [show m + 1 + n = (m + n) + 1 by omega]
    show f i ||| oF f (i + 1) (m + n) = f i ||| oF f (i + 1) m ||| oF f (i + (m + 1)) n
    rw [oF_app m n (i + 1), show i + 1 + m = i + (m + 1) by omega, Int32.or_assoc]
set_option maxRecDepth 20000 in
theorem sF_tail {f : Nat → Int32} {a : Nat} (ha : a ≤ 6) (h : ∀ j, a ≤ j → j < 6 → f j = 0) : sF f 0 6 = sF f 0 a := by
  rw [show 6 = a + (6 - a) by omega, sF_app, sF_0 (6 - a) (0 + a) (fun j h1 h2 => h j (by omega) (by omega)), Int32.add_zero]
set_option maxRecDepth 20000 in
theorem oF_tail {f : Nat → Int32} {a : Nat} (ha : a ≤ 6) (h : ∀ j, a ≤ j → j < 6 → f j = 0) : oF f 0 6 = oF f 0 a := by
  rw [show 6 = a + (6 - a) by omega, oF_app, oF_0 (6 - a) (0 + a) (fun j h1 h2 => h j (by omega) (by omega)), Int32.or_zero]
/- one place of a row has grown by v -/
set_option maxRecDepth 20000 in
theorem sF_plus {f g : Nat → Int32} {p : Nat} {v : Int32} : ∀ (m i : Nat), i ≤ p → p < i + m → (∀ j, i ≤ j → j < i + m → j ≠ p → g j = f j) → g p = f p + v → sF g i m = sF f i m + v
  | 0, i, h1, h2, _, _ => by omega
  | m + 1, i, h1, h2, h, hp => by
    show g i + sF g (i + 1) m = f i + sF f (i + 1) m + v
    by_cases e : i = p
    · subst e
      rw [hp, sF_cong (f := g) (g := f) m (i + 1) (fun j a1 a2 => h j (by omega) (by omega) (by omega))]
      ac_rfl
    · rw [h i (Nat.le_refl _) (by omega) e, sF_plus m (i + 1) (by omega) (by omega) (fun j a1 a2 a3 => h j (by omega) (by omega) a3) hp]
      ac_rfl
set_option maxRecDepth 20000 in
theorem oF_plus {f g : Nat → Int32} {p : Nat} {v : Int32} : ∀ (m i : Nat), i ≤ p → p < i + m → (∀ j, i ≤ j → j < i + m → j ≠ p → g j = f j) → g p = v → (f p = 0 ∨ f p = v) → oF g i m = oF f i m ||| v
  | 0, i, h1, h2, _, _, _ => by omega
  | m + 1, i, h1, h2, h, hp, hq => by
    show g i ||| oF g (i + 1) m = f i ||| oF f (i + 1) m ||| v
    by_cases e : i = p
    · subst e
      rw [hp, oF_cong (f := g) (g := f) m (i + 1) (fun j a1 a2 => h j (by omega) (by omega) (by omega))]
      rcases hq with hq | hq
      · rw [hq, Int32.zero_or, Int32.or_comm]
      · rw [hq, Int32.or_comm v, Int32.or_assoc, Int32.or_self]
    · rw [h i (Nat.le_refl _) (by omega) e, oF_plus m (i + 1) (by omega) (by omega) (fun j a1 a2 a3 => h j (by omega) (by omega) a3) hp hq, Int32.or_assoc]
/-! ===== the relation of the class's memory (I, D) and the reference's (a, b, J, E) ===== -/
abbrev MI : Type := Nat → Nat → Int32
abbrev MD : Type := Nat → Nat → UInt64
/- how many of the first c batches are of mix k -/
def cB (I : MI) (k : Nat) : Nat → Nat
  | 0 => 0
  | n + 1 => cB I k n + (if I (18 + n) 0 = nI k then 1 else 0)
set_option maxRecDepth 20000 in
theorem cB_cong {I I' : MI} {k : Nat} : ∀ c, (∀ i, i < c → I' (18 + i) 0 = I (18 + i) 0) → cB I' k c = cB I k c
  | 0, _ => rfl
  | n + 1, h => by
    show cB I' k n + _ = cB I k n + _
    rw [cB_cong n (fun i hi => h i (by omega)), h n (by omega)]
set_option maxRecDepth 20000 in
theorem cB_le (I : MI) (k : Nat) : ∀ c, cB I k c ≤ c
  | 0 => Nat.le_refl _
  | n + 1 => by
    show cB I k n + _ ≤ _
    have h := cB_le I k n
    split <;> omega
def RSca (x : Int32) (a b c d : Nat) (I J : MI) : Prop :=
  (I 0 5 = nI a ∧ J 1 2 = nI a ∧ (J 1 1 = 0 ↔ a = 0) ∧ a ≤ 6) ∧ (I 0 6 = nI b ∧ J 2 2 = nI b ∧ (J 2 1 = 0 ↔ b = 0) ∧ b ≤ 5) ∧ (I 0 7 = nI c ∧ J 5 0 = nI c ∧ c ≤ 12) ∧ (I 0 8 = nI d ∧ J 5 6 = nI d ∧ d ≤ 3) ∧ (I 0 9 = J 0 7 + x ∧ I 0 10 = J 0 6 ∧ I 0 11 = J 0 5 ∧ I 0 12 = J 0 8) ∧ (∀ n, n < 2 → I 5 n = J 13 n) ∧ (∀ n, n < 6 → I 6 n = 0)
def RIng (a : Nat) (I J : MI) : Prop := ∀ i, i < a → (∀ j, j < 5 → J (14 + i) j = I (7 + i) j) ∧ 0 ≤ (I (7 + i) 0).toInt ∧ 0 ≤ (I (7 + i) 1).toInt ∧ 0 ≤ (I (7 + i) 2).toInt ∧ (I (7 + i) 0).toInt + (I (7 + i) 1).toInt + (I (7 + i) 2).toInt ≤ 1000
def RM1 (x : Int32) (a c k : Nat) (I : MI) (D : MD) (J : MI) : Prop :=
  (J (20 + k) 1 = I (13 + k) 1 ∧ J (20 + k) 2 = I (13 + k) 10 ∧ (I (13 + k) 10 = 0 ∨ I (13 + k) 10 = 1) ∧ J (20 + k) 3 + x = I (13 + k) 8) ∧
  (∀ i, i < 6 → 0 ≤ (J (25 + k) i).toInt ∧ (J (25 + k) i).toInt ≤ (I (13 + k) 0).toInt ∧ (a ≤ i → J (25 + k) i = 0)) ∧
  (1 ≤ (I (13 + k) 0).toInt ∧ (I (13 + k) 0).toInt ≤ 500) ∧
  I (13 + k) 0 = sF (J (25 + k)) 0 6 ∧
  (∀ w, w < 4 → I (13 + k) (2 + w) = sF (fun i => J (25 + k) i * J (14 + i) w) 0 6) ∧
  (∀ w, w < 3 → 0 ≤ (I (13 + k) (2 + w)).toInt ∧ (I (13 + k) (2 + w)).toInt ≤ 1000 * (I (13 + k) 0).toInt) ∧
  I (13 + k) 6 = oF (fun i => if J (25 + k) i ≤ 0 then 0 else J (14 + i) 4) 0 6 ∧
  I (13 + k) 7 = oF (fun i => if J (25 + k) i ≤ 0 then 0 else (1 <<< (nI i &&& 31))) 0 6 ∧
  I (13 + k) 9 = nI (cB I k c) ∧
  D (13 + k) 11 = fF (I (13 + k) 4) (I (13 + k) 3) (I (13 + k) 0)
def RMix (x : Int32) (a b c : Nat) (I : MI) (D : MD) (J : MI) : Prop := (∀ k, k < b → RM1 x a c k I D J) ∧ (∀ k, b ≤ k → k < 5 → ∀ n, n < 11 → I (13 + k) n = 0)
def plOK (d : Nat) (p : Int32) : Prop := p = -1 ∨ (∃ s, s < d ∧ p = nI s) ∨ p = 10 ∨ p = 11
/- the most that a crystal can be behind h hours, in 32nds -/
def crM (h : Nat) : Int := 32 * (43 + 24 * (h : Int))
def RB1 (b d h i : Nat) (I : MI) (D : MD) (J : MI) (E : MD) : Prop :=
  J 6 i = I (18 + i) 0 ∧ J 7 i = I (18 + i) 1 ∧ J 8 i = I (18 + i) 3 ∧ J 9 i = I (18 + i) 2 ∧ E 10 i = D (18 + i) 4 ∧ (∃ m, m < b ∧ I (18 + i) 0 = nI m) ∧ plOK d (I (18 + i) 2) ∧ (I (18 + i) 3 = 0 ∨ I (18 + i) 3 = 1) ∧ rg 640 (crM h) (D (18 + i) 4)
def RBat (b c d h : Nat) (I : MI) (D : MD) (J : MI) (E : MD) : Prop := (∀ i, i < c → RB1 b d h i I D J E) ∧ (∀ i, c ≤ i → i < 12 → I (18 + i) 2 = -1 ∧ I (18 + i) 3 = 0 ∧ J 8 i = 0)
def RSto (d : Nat) (I : MI) (D : MD) (J : MI) (E : MD) : Prop := ∀ s, s < d → J 11 s = I (30 + s) 0 ∧ E 12 s = D (30 + s) 1 ∧ -30 ≤ (I (30 + s) 0).toInt ∧ (I (30 + s) 0).toInt ≤ -10 ∧ rg (-1040) 256 (D (30 + s) 1)
def RR (x : Int32) (a b c d h : Nat) (I : MI) (D : MD) (J : MI) (E : MD) : Prop := RSca x a b c d I J ∧ RIng a I J ∧ RMix x a b c I D J ∧ RBat b c d h I D J E ∧ RSto d I D J E ∧ h < 2 ^ 20
/-! what does not change them -/
set_option maxRecDepth 20000 in
theorem RSca.cong {x : Int32} {a b c d : Nat} {I J I' J' : MI} (h : RSca x a b c d I J) (hI : ∀ k n, k = 0 ∨ k = 5 ∨ (k = 6 ∧ n < 6) → I' k n = I k n) (hJ : ∀ k n, (k = 0 ∧ n ≠ 0) ∨ k = 1 ∨ k = 2 ∨ k = 5 ∨ k = 13 → J' k n = J k n) : RSca x a b c d I' J' := by
  unfold RSca at h ⊢
  simp only [hI 0 _ (Or.inl rfl), hI 5 _ (Or.inr (Or.inl rfl)), hJ 1 _ (Or.inr (Or.inl rfl)), hJ 2 _ (Or.inr (Or.inr (Or.inl rfl))), hJ 5 _ (Or.inr (Or.inr (Or.inr (Or.inl rfl)))), hJ 13 _ (Or.inr (Or.inr (Or.inr (Or.inr rfl)))), hJ 0 5 (Or.inl ⟨rfl, by decide⟩), hJ 0 6 (Or.inl ⟨rfl, by decide⟩), hJ 0 7 (Or.inl ⟨rfl, by decide⟩), hJ 0 8 (Or.inl ⟨rfl, by decide⟩)]
  obtain ⟨h1, h2, h3, h4, h5, h6, h7⟩ := h
  exact ⟨h1, h2, h3, h4, h5, h6, fun n hn => by rw [hI 6 n (Or.inr (Or.inr ⟨rfl, hn⟩))]; exact h7 n hn⟩
set_option maxRecDepth 20000 in
theorem RIng.cong {a : Nat} {I J I' J' : MI} (h : RIng a I J) (ha : a ≤ 6) (hI : ∀ k n, 7 ≤ k → k < 13 → I' k n = I k n) (hJ : ∀ k n, 14 ≤ k → k < 20 → J' k n = J k n) : RIng a I' J' := by
  intro i hi
  obtain ⟨h1, h2, h3, h4, h5⟩ := h i hi
  refine ⟨fun j hj => ?_, ?_, ?_, ?_, ?_⟩
  · rw [hI _ _ (by omega) (by omega), hJ _ _ (by omega) (by omega)]; exact h1 j hj
  · rw [hI _ _ (by omega) (by omega)]; exact h2
  · rw [hI _ _ (by omega) (by omega)]; exact h3
  · rw [hI _ _ (by omega) (by omega)]; exact h4
  · rw [hI _ _ (by omega) (by omega), hI _ _ (by omega) (by omega), hI _ _ (by omega) (by omega)]; exact h5
set_option maxRecDepth 20000 in
theorem RM1.cong {x : Int32} {a c k : Nat} {I J I' J' : MI} {D D' : MD} (h : RM1 x a c k I D J) (hI : ∀ n, n < 11 → I' (13 + k) n = I (13 + k) n) (hD : D' (13 + k) 11 = D (13 + k) 11) (hc : cB I' k c = cB I k c) (hJ : ∀ i n, 14 ≤ i → i < 20 → J' i n = J i n) (hJ2 : ∀ n, 0 < n → n < 4 → J' (20 + k) n = J (20 + k) n) (hJ3 : ∀ n, J' (25 + k) n = J (25 + k) n) : RM1 x a c k I' D' J' := by
  obtain ⟨⟨h1, h2, h3, h4⟩, h5, ⟨h6, h7⟩, h8, h9, h10, h11, h12, h13, h14⟩ := h
  refine ⟨⟨?_, ?_, ?_, ?_⟩, ?_, ⟨?_, ?_⟩, ?_, ?_, ?_, ?_, ?_, ?_, ?_⟩
  · rw [hJ2 1 (by decide) (by decide), hI 1 (by decide)]; exact h1
  · rw [hJ2 2 (by decide) (by decide), hI 10 (by decide)]; exact h2
  · rw [hI 10 (by decide)]; exact h3
  · rw [hJ2 3 (by decide) (by decide), hI 8 (by decide)]; exact h4
  · intro i hi
    rw [hJ3, hI 0 (by decide)]
    exact h5 i hi
  · rw [hI 0 (by decide)]; exact h6
  · rw [hI 0 (by decide)]; exact h7
  · rw [hI 0 (by decide), h8]
    exact sF_cong 6 0 (fun j _ _ => (hJ3 j).symm)
  · intro w hw
    rw [hI (2 + w) (by omega), h9 w hw]
    exact sF_cong 6 0 (fun j _ hj => by rw [hJ3 j, hJ (14 + j) w (by omega) (by omega)])
  · intro w hw
    rw [hI (2 + w) (by omega), hI 0 (by decide)]
    exact h10 w hw
  · rw [hI 6 (by decide), h11]
    exact oF_cong 6 0 (fun j _ hj => by rw [hJ3 j, hJ (14 + j) 4 (by omega) (by omega)])
  · rw [hI 7 (by decide), h12]
    exact oF_cong 6 0 (fun j _ hj => by rw [hJ3 j])
  · rw [hI 9 (by decide), hc]; exact h13
  · rw [hD, hI 4 (by decide), hI 3 (by decide), hI 0 (by decide)]; exact h14
set_option maxRecDepth 20000 in
theorem RMix.cong {x : Int32} {a b c : Nat} {I J I' J' : MI} {D D' : MD} (h : RMix x a b c I D J) (hb : b ≤ 5) (hI : ∀ k n, 13 ≤ k → k < 18 → I' k n = I k n) (hD : ∀ k, 13 ≤ k → k < 18 → D' k 11 = D k 11) (hc : ∀ i, i < c → I' (18 + i) 0 = I (18 + i) 0) (hJ : ∀ k n, 14 ≤ k → k < 30 → J' k n = J k n) : RMix x a b c I' D' J' := by
  refine ⟨fun k hk => (h.1 k hk).cong (fun n _ => hI _ _ (by omega) (by omega)) (hD _ (by omega) (by omega)) (cB_cong c hc) (fun i n h1 h2 => hJ i n h1 (by omega)) (fun n _ _ => hJ _ _ (by omega) (by omega)) (fun n => hJ _ _ (by omega) (by omega)), fun k hk h5 n hn => ?_⟩
  rw [hI _ _ (by omega) (by omega)]
  exact h.2 k hk h5 n hn
set_option maxRecDepth 20000 in
theorem RB1.cong {b d h i : Nat} {I J I' J' : MI} {D D' E E' : MD} (hh : RB1 b d h i I D J E) (hI : ∀ n, n < 4 → I' (18 + i) n = I (18 + i) n) (hD : D' (18 + i) 4 = D (18 + i) 4) (hJ : ∀ k, 6 ≤ k → k < 10 → J' k i = J k i) (hE : E' 10 i = E 10 i) : RB1 b d h i I' D' J' E' := by
  unfold RB1 at hh ⊢
  rw [hI 0 (by decide), hI 1 (by decide), hI 2 (by decide), hI 3 (by decide), hD, hE, hJ 6 (by decide) (by decide), hJ 7 (by decide) (by decide), hJ 8 (by decide) (by decide), hJ 9 (by decide) (by decide)]
  exact hh
set_option maxRecDepth 20000 in
theorem RBat.cong {b c d h : Nat} {I J I' J' : MI} {D D' E E' : MD} (hh : RBat b c d h I D J E) (hc : c ≤ 12) (hI : ∀ k n, 18 ≤ k → k < 30 → I' k n = I k n) (hD : ∀ k, 18 ≤ k → k < 30 → D' k 4 = D k 4) (hJ : ∀ k n, 6 ≤ k → k < 10 → J' k n = J k n) (hE : ∀ n, E' 10 n = E 10 n) : RBat b c d h I' D' J' E' := by
  refine ⟨fun i hi => (hh.1 i hi).cong (fun n _ => hI _ _ (by omega) (by omega)) (hD _ (by omega) (by omega)) (fun k h1 h2 => hJ k i h1 h2) (hE i), fun i h1 h2 => ?_⟩
  rw [hI _ _ (by omega) (by omega), hI _ _ (by omega) (by omega), hJ 8 i (by decide) (by decide)]
  exact hh.2 i h1 h2
set_option maxRecDepth 20000 in
theorem RSto.cong {d : Nat} {I J I' J' : MI} {D D' E E' : MD} (hh : RSto d I D J E) (hd : d ≤ 3) (hI : ∀ k, 30 ≤ k → k < 33 → I' k 0 = I k 0) (hD : ∀ k, 30 ≤ k → k < 33 → D' k 1 = D k 1) (hJ : ∀ n, J' 11 n = J 11 n) (hE : ∀ n, E' 12 n = E 12 n) : RSto d I' D' J' E' := by
  intro s hs
  rw [hI _ (by omega) (by omega), hD _ (by omega) (by omega), hJ s, hE s]
  exact hh s hs
section RRa
variable {x : Int32} {a b c d h : Nat} {I J : MI} {D E : MD}
set_option maxRecDepth 20000 in
theorem RR.a6 (R : RR x a b c d h I D J E) : a ≤ 6 := R.1.1.2.2.2
set_option maxRecDepth 20000 in
theorem RR.b5 (R : RR x a b c d h I D J E) : b ≤ 5 := R.1.2.1.2.2.2
set_option maxRecDepth 20000 in
theorem RR.c12 (R : RR x a b c d h I D J E) : c ≤ 12 := R.1.2.2.1.2.2
set_option maxRecDepth 20000 in
theorem RR.d3 (R : RR x a b c d h I D J E) : d ≤ 3 := R.1.2.2.2.1.2.2
set_option maxRecDepth 20000 in
theorem RR.I5 (R : RR x a b c d h I D J E) : I 0 5 = nI a := R.1.1.1
set_option maxRecDepth 20000 in
theorem RR.I6 (R : RR x a b c d h I D J E) : I 0 6 = nI b := R.1.2.1.1
set_option maxRecDepth 20000 in
theorem RR.I7 (R : RR x a b c d h I D J E) : I 0 7 = nI c := R.1.2.2.1.1
set_option maxRecDepth 20000 in
theorem RR.I8 (R : RR x a b c d h I D J E) : I 0 8 = nI d := R.1.2.2.2.1.1
set_option maxRecDepth 20000 in
theorem RR.J1 (R : RR x a b c d h I D J E) : J 1 2 = nI a := R.1.1.2.1
set_option maxRecDepth 20000 in
theorem RR.J2 (R : RR x a b c d h I D J E) : J 2 2 = nI b := R.1.2.1.2.1
set_option maxRecDepth 20000 in
theorem RR.J5 (R : RR x a b c d h I D J E) : J 5 0 = nI c := R.1.2.2.1.2.1
set_option maxRecDepth 20000 in
theorem RR.J6 (R : RR x a b c d h I D J E) : J 5 6 = nI d := R.1.2.2.2.1.2.1
set_option maxRecDepth 20000 in
theorem RR.ing (R : RR x a b c d h I D J E) : RIng a I J := R.2.1
set_option maxRecDepth 20000 in
theorem RR.mix (R : RR x a b c d h I D J E) : RMix x a b c I D J := R.2.2.1
set_option maxRecDepth 20000 in
theorem RR.bat (R : RR x a b c d h I D J E) : RBat b c d h I D J E := R.2.2.2.1
set_option maxRecDepth 20000 in
theorem RR.sto (R : RR x a b c d h I D J E) : RSto d I D J E := R.2.2.2.2.1
set_option maxRecDepth 20000 in
theorem RR.h20 (R : RR x a b c d h I D J E) : h < 2 ^ 20 := R.2.2.2.2.2
/- what asking alone can change: the class's scratch, the reference's thrown and its copy -/
set_option maxRecDepth 20000 in
theorem RR.ask {I' J' : MI} {E' : MD} (R : RR x a b c d h I D J E) (hI : ∀ k n, ¬ (k = 6 ∧ 6 ≤ n) → I' k n = I k n) (hJ : ∀ k n, k < 30 → ¬ (k = 0 ∧ n = 0) → J' k n = J k n) (hE : ∀ k n, k < 30 → E' k n = E k n) : RR x a b c d h I' D J' E' := by
  have ha := R.a6
  have hb := R.b5
  have hc := R.c12
  have hd := R.d3
  refine ⟨R.1.cong (fun k n q => hI k n (by omega)) (fun k n q => hJ k n (by omega) (by omega)), R.ing.cong ha (fun k n _ _ => hI k n (by omega)) (fun k n _ _ => hJ k n (by omega) (by omega)), R.mix.cong hb (fun k n _ _ => hI k n (by omega)) (fun _ _ _ => rfl) (fun i _ => hI _ _ (by omega)) (fun k n _ _ => hJ k n (by omega) (by omega)), R.bat.cong hc (fun k n _ _ => hI k n (by omega)) (fun _ _ _ => rfl) (fun k n _ _ => hJ k n (by omega) (by omega)) (fun n => hE 10 n (by decide)), R.sto.cong hd (fun k _ _ => hI k 0 (by omega)) (fun _ _ _ => rfl) (fun n => hJ 11 n (by decide) (by omega)) (fun n => hE 12 n (by decide)), R.h20⟩
set_option maxRecDepth 20000 in
theorem RR.thr (R : RR x a b c d h I D J E) (v : Int32) : RR x a b c d h I D (up2 J 0 0 v) E := R.ask (fun _ _ _ => rfl) (fun k n _ q => by rw [up2_ap, if_neg q]) (fun _ _ _ => rfl)
end RRa
