def f_L_law_L540 (rec242 : Int32 → (Nat → Nat → Int32) → (Nat → Nat → UInt64) → (Nat → Nat → Int32) → (Nat → Nat → UInt64) → Option Int32) (LS : Nat) (xs : Nat → Int32) (a_138 : Nat) (b_138 : Nat) (c_138 : Nat) (d_138 : Nat) (x6_242 : Int32) (M_L341 : Nat → Nat → UInt64) : Nat → Int32 → (Nat → Nat → Int32) → (Nat → Nat → UInt64) → (Nat → Nat → Int32) → Option Int32
  | 0, _, _, _, _ => none
  | n540 + 1, x13_540, I_L540, D_L540, K_L540 => (if (nI c_138) ≤ x13_540 then rec242 (x6_242 + 1) I_L540 D_L540 K_L540 M_L341 else bd (eO (f_X4_ofBatch I_L540 D_L540 x13_540 3)) (fun r_130 => (if 3 ≤ r_130 then f_L_law_L540 rec242 LS xs a_138 b_138 c_138 d_138 x6_242 M_L341 n540 (x13_540 + 1) I_L540 D_L540 K_L540 else bd (eO (f_X4_ofBatch I_L540 D_L540 x13_540 2)) (fun r_133 => (if r_133 = 1 then bd (f_T_draw LS xs a_138 b_138 c_138 d_138 I_L540 D_L540 K_L540 M_L341 2) (fun (r_136, K_138) => bd (eO (f_X4_lay I_L540 D_L540 x13_540 r_136)) (fun (r_140, I_142, D_143) => f_L_law_L540 rec242 LS xs a_138 b_138 c_138 d_138 x6_242 M_L341 n540 (x13_540 + 1) I_142 D_143 K_138)) else f_L_law_L540 rec242 LS xs a_138 b_138 c_138 d_138 x6_242 M_L341 n540 (x13_540 + 1) I_L540 D_L540 K_L540)))))
def f_L_law_J516 (rec403 : Int32 → Int32 → Option Int32) (M_L341 : Nat → Nat → UInt64) (x13_403 : Int32) (x12_403 : Int32) (z0_454 : Int32) (z0_516 : UInt64) : Option Int32 :=
  (if (Op.cmpValue (FP.dcmp (M_L341 36 (x13_403).toNatClampNeg) z0_516) CmpOp.l) = 0 then rec403 (x13_403 + 1) (x12_403 + z0_454) else some 0)
def f_L_law_J482 (rec403 : Int32 → Int32 → Option Int32) (c_138 : Nat) (r_88 : Int32) (M_L341 : Nat → Nat → UInt64) (I_123 : Nat → Nat → Int32) (D_124 : Nat → Nat → UInt64) (x13_403 : Int32) (x12_403 : Int32) (r_144 : Int32) (z0_454 : Int32) (r_148 : Int32) (z0_482 : Int32) : Option Int32 :=
  (if r_148 = z0_482 then (if r_88 = 0 then ck (inB x13_403 c_138) ((if r_144 ≤ 9 then bd (eO (f_X4_crystal I_123 D_124 x13_403)) (fun r_158 => f_L_law_J516 (rec403) M_L341 x13_403 x12_403 z0_454 r_158) else f_L_law_J516 (rec403) M_L341 x13_403 x12_403 z0_454 (13830554455654793216 : UInt64))) else rec403 (x13_403 + 1) (x12_403 + z0_454)) else some 0)
def f_L_law_J454 (rec403 : Int32 → Int32 → Option Int32) (c_138 : Nat) (r_88 : Int32) (M_L341 : Nat → Nat → UInt64) (I_123 : Nat → Nat → Int32) (D_124 : Nat → Nat → UInt64) (x13_403 : Int32) (x12_403 : Int32) (r_144 : Int32) (z0_454 : Int32) : Option Int32 :=
  bd (eO (f_X4_ofBatch I_123 D_124 x13_403 4)) (fun r_148 => bd (eO (f_X4_crystal I_123 D_124 x13_403)) (fun r_150 => (if (Op.cmpValue (FP.dcmp r_150 (4632233691727265792 : UInt64)) CmpOp.l) ≤ 0 then f_L_law_J482 (rec403) c_138 r_88 M_L341 I_123 D_124 x13_403 x12_403 r_144 z0_454 r_148 0 else f_L_law_J482 (rec403) c_138 r_88 M_L341 I_123 D_124 x13_403 x12_403 r_144 z0_454 r_148 1)))
def f_L_law_L403 (rec242 : Int32 → (Nat → Nat → Int32) → (Nat → Nat → UInt64) → (Nat → Nat → Int32) → (Nat → Nat → UInt64) → Option Int32) (LS : Nat) (xs : Nat → Int32) (a_138 : Nat) (b_138 : Nat) (c_138 : Nat) (d_138 : Nat) (x6_242 : Int32) (r_88 : Int32) (K_L275 : Nat → Nat → Int32) (r_106 : Int32) (M_L341 : Nat → Nat → UInt64) (I_123 : Nat → Nat → Int32) (D_124 : Nat → Nat → UInt64) : Nat → Int32 → Int32 → Option Int32
  | 0, _, _ => none
  | n403 + 1, x13_403, x12_403 => (if (nI c_138) ≤ x13_403 then (if x12_403 = r_106 then f_L_law_L540 rec242 LS xs a_138 b_138 c_138 d_138 x6_242 M_L341 14 0 I_123 D_124 K_L275 else some 0) else bd (eO (f_X4_ofBatch I_123 D_124 x13_403 3)) (fun r_144 => ck (inB x13_403 c_138) ((if (K_L275 35 (x13_403).toNatClampNeg) = 1 then (if r_144 = 11 then f_L_law_J454 (f_L_law_L403 rec242 LS xs a_138 b_138 c_138 d_138 x6_242 r_88 K_L275 r_106 M_L341 I_123 D_124 n403) c_138 r_88 M_L341 I_123 D_124 x13_403 x12_403 r_144 1 else bd (eO (f_X4_ofBatch I_123 D_124 x13_403 4)) (fun r_163 => (if r_163 = 1 then f_L_law_J454 (f_L_law_L403 rec242 LS xs a_138 b_138 c_138 d_138 x6_242 r_88 K_L275 r_106 M_L341 I_123 D_124 n403) c_138 r_88 M_L341 I_123 D_124 x13_403 x12_403 r_144 1 else f_L_law_J454 (f_L_law_L403 rec242 LS xs a_138 b_138 c_138 d_138 x6_242 r_88 K_L275 r_106 M_L341 I_123 D_124 n403) c_138 r_88 M_L341 I_123 D_124 x13_403 x12_403 r_144 0))) else f_L_law_J454 (f_L_law_L403 rec242 LS xs a_138 b_138 c_138 d_138 x6_242 r_88 K_L275 r_106 M_L341 I_123 D_124 n403) c_138 r_88 M_L341 I_123 D_124 x13_403 x12_403 r_144 0))))
def f_L_law_J390 (rec242 : Int32 → (Nat → Nat → Int32) → (Nat → Nat → UInt64) → (Nat → Nat → Int32) → (Nat → Nat → UInt64) → Option Int32) (LS : Nat) (xs : Nat → Int32) (a_138 : Nat) (b_138 : Nat) (c_138 : Nat) (d_138 : Nat) (x6_242 : Int32) (r_88 : Int32) (K_L275 : Nat → Nat → Int32) (r_106 : Int32) (M_L341 : Nat → Nat → UInt64) (I_J390 : Nat → Nat → Int32) (D_J390 : Nat → Nat → UInt64) : Option Int32 :=
  bd (eO (f_X4_pass I_J390 D_J390 24)) (fun (r_121, I_123, D_124) => f_L_law_L403 rec242 LS xs a_138 b_138 c_138 d_138 x6_242 r_88 K_L275 r_106 M_L341 I_123 D_124 14 0 0)
def f_L_law_L341 (rec242 : Int32 → (Nat → Nat → Int32) → (Nat → Nat → UInt64) → (Nat → Nat → Int32) → (Nat → Nat → UInt64) → Option Int32) (LS : Nat) (xs : Nat → Int32) (a_138 : Nat) (b_138 : Nat) (c_138 : Nat) (d_138 : Nat) (x6_242 : Int32) (I_L242 : Nat → Nat → Int32) (D_L242 : Nat → Nat → UInt64) (r_84 : Int32) (r_88 : Int32) (K_L275 : Nat → Nat → Int32) (r_106 : Int32) : Nat → Int32 → (Nat → Nat → UInt64) → Option Int32
  | 0, _, _ => none
  | n341 + 1, x12_341, M_L341 => (if (nI c_138) ≤ x12_341 then (if r_88 ≤ 0 then f_L_law_J390 rec242 LS xs a_138 b_138 c_138 d_138 x6_242 r_88 K_L275 r_106 M_L341 I_L242 D_L242 else bd (eO (f_X4_door I_L242 D_L242 r_84 r_88)) (fun (r_167, I_169, D_170) => (if (Op.cmpValue (FP.dcmp r_167 (4620693217682128896 : UInt64)) CmpOp.l) ≤ 0 then f_L_law_J390 rec242 LS xs a_138 b_138 c_138 d_138 x6_242 r_88 K_L275 r_106 M_L341 I_169 D_170 else some 0))) else bd (eO (f_X4_wouldBe I_L242 D_L242 x12_341 24)) (fun r_172 => ck (inB x12_341 c_138) (nm (up2 M_L341 36 (x12_341).toNatClampNeg r_172) (fun M_176 => f_L_law_L341 rec242 LS xs a_138 b_138 c_138 d_138 x6_242 I_L242 D_L242 r_84 r_88 K_L275 r_106 n341 (x12_341 + 1) M_176))))
def f_L_law_J314 (rec275 : Int32 → (Nat → Nat → Int32) → Option Int32) (c_138 : Nat) (x10_275 : Int32) (K_L275 : Nat → Nat → Int32) (z0_314 : Int32) : Option Int32 :=
  ck (inB x10_275 c_138) (nm (up2 K_L275 35 (x10_275).toNatClampNeg z0_314) (fun K_181 => rec275 (x10_275 + 1) K_181))
def f_L_law_L275 (rec242 : Int32 → (Nat → Nat → Int32) → (Nat → Nat → UInt64) → (Nat → Nat → Int32) → (Nat → Nat → UInt64) → Option Int32) (LS : Nat) (xs : Nat → Int32) (a_138 : Nat) (b_138 : Nat) (c_138 : Nat) (d_138 : Nat) (x6_242 : Int32) (I_L242 : Nat → Nat → Int32) (D_L242 : Nat → Nat → UInt64) (M_L242 : Nat → Nat → UInt64) (r_84 : Int32) (r_88 : Int32) : Nat → Int32 → (Nat → Nat → Int32) → Option Int32
  | 0, _, _ => none
  | n275 + 1, x10_275, K_L275 => (if (nI c_138) ≤ x10_275 then bd (eO (f_X4_wouldSpoil I_L242 D_L242 r_84 r_88)) (fun r_106 => nm (va_up M_L242 36 (fun _ => 0)) (fun M_117 => f_L_law_L341 rec242 LS xs a_138 b_138 c_138 d_138 x6_242 I_L242 D_L242 r_84 r_88 K_L275 r_106 14 0 M_117)) else bd (eO (f_X4_ofBatch I_L242 D_L242 x10_275 3)) (fun r_177 => (if r_177 = r_84 then bd (eO (f_X4_ofBatch I_L242 D_L242 x10_275 4)) (fun r_183 => (if r_183 = 0 then f_L_law_J314 (f_L_law_L275 rec242 LS xs a_138 b_138 c_138 d_138 x6_242 I_L242 D_L242 M_L242 r_84 r_88 n275) c_138 x10_275 K_L275 1 else f_L_law_J314 (f_L_law_L275 rec242 LS xs a_138 b_138 c_138 d_138 x6_242 I_L242 D_L242 M_L242 r_84 r_88 n275) c_138 x10_275 K_L275 0)) else f_L_law_J314 (f_L_law_L275 rec242 LS xs a_138 b_138 c_138 d_138 x6_242 I_L242 D_L242 M_L242 r_84 r_88 n275) c_138 x10_275 K_L275 0)))
def f_L_law_L242 (rec2 : Int32 → Option Int32) (LS : Nat) (xs : Nat → Int32) (x1_2 : Int32) (a_138 : Nat) (b_138 : Nat) (c_138 : Nat) (d_138 : Nat) : Nat → Int32 → (Nat → Nat → Int32) → (Nat → Nat → UInt64) → (Nat → Nat → Int32) → (Nat → Nat → UInt64) → Option Int32
  | 0, _, _, _, _, _ => none
  | n242 + 1, x6_242, I_L242, D_L242, K_L242, M_L242 => (if 4 ≤ x6_242 then rec2 (x1_2 + 1) else bd (f_T_draw LS xs a_138 b_138 c_138 d_138 I_L242 D_L242 K_L242 M_L242 2) (fun (r_84, K_86) => bd (f_T_draw LS xs a_138 b_138 c_138 d_138 I_L242 D_L242 K_86 M_L242 9) (fun (r_88, K_90) => nm (va_up K_90 35 (fun _ => 0)) (fun K_102 => f_L_law_L275 (f_L_law_L242 rec2 LS xs x1_2 a_138 b_138 c_138 d_138 n242) LS xs a_138 b_138 c_138 d_138 x6_242 I_L242 D_L242 M_L242 r_84 r_88 14 0 K_102))))
def f_L_law_L170 (rec2 : Int32 → Option Int32) (LS : Nat) (xs : Nat → Int32) (x1_2 : Int32) (a_138 : Nat) (b_138 : Nat) (c_138 : Nat) (d_138 : Nat) : Nat → Int32 → (Nat → Nat → Int32) → (Nat → Nat → UInt64) → (Nat → Nat → Int32) → (Nat → Nat → UInt64) → Option Int32
  | 0, _, _, _, _, _ => none
  | n170 + 1, x4_170, I_L170, D_L170, K_L170, M_L170 => (if (nI c_138) ≤ x4_170 then bd (eO (f_X4_digest I_L170 D_L170 )) (fun (r_68, I_70, D_71) => bd (f_L_isBest LS xs a_138 b_138 c_138 d_138 I_70 D_71 K_L170 M_L170 ) (fun (r_72, I_74, D_75, K_76) => (if r_72 = 0 then some 0 else bd (eO (f_X4_digest I_74 D_75 )) (fun (r_78, I_80, D_81) => (if (lg_cmp r_78 r_68) = 0 then f_L_law_L242 rec2 LS xs x1_2 a_138 b_138 c_138 d_138 5 0 I_80 D_81 K_76 M_L170 else some 0))))) else bd (f_T_harden LS xs a_138 b_138 c_138 d_138 I_L170 D_L170 K_L170 M_L170 x4_170) (fun (r_186, I_188, D_189, K_190, M_191) => (if r_186 = 0 then some 0 else bd (f_T_draw LS xs a_138 b_138 c_138 d_138 I_188 D_189 K_190 M_191 4) (fun (r_194, K_196) => (if r_194 ≤ 0 then f_L_law_L170 rec2 LS xs x1_2 a_138 b_138 c_138 d_138 n170 (x4_170 + 1) I_188 D_189 K_196 M_191 else bd (f_T_lay LS xs a_138 b_138 c_138 d_138 I_188 D_189 K_196 M_191 x4_170) (fun (r_199, I_201, D_202, K_203) => (if r_199 = 0 then some 0 else f_L_law_L170 rec2 LS xs x1_2 a_138 b_138 c_138 d_138 n170 (x4_170 + 1) I_201 D_202 K_203 M_191)))))))
def f_L_law_L138 (rec2 : Int32 → Option Int32) (LS : Nat) (xs : Nat → Int32) (x1_2 : Int32) : Nat → Int32 → Nat → Nat → Nat → Nat → (Nat → Nat → Int32) → (Nat → Nat → UInt64) → (Nat → Nat → Int32) → (Nat → Nat → UInt64) → Option Int32
  | 0, _, _, _, _, _, _, _, _, _ => none
  | n138 + 1, x4_138, a_138, b_138, c_138, d_138, I_L138, D_L138, K_L138, M_L138 => (if 8 ≤ x4_138 then f_L_law_L170 rec2 LS xs x1_2 a_138 b_138 c_138 d_138 14 0 I_L138 D_L138 K_L138 M_L138 else bd (f_T_run LS xs a_138 b_138 c_138 d_138 I_L138 D_L138 K_L138 M_L138 ) (fun (r_206, a_208, b_209, c_210, d_211, I_212, D_213, K_214, M_215) => (if r_206 = 0 then some 0 else bd (f_T_wash LS xs a_208 b_209 c_210 d_211 I_212 D_213 K_214 M_215 ) (fun (r_225, I_227, D_228, K_229) => (if r_225 = 0 then some 0 else f_L_law_L138 rec2 LS xs x1_2 n138 (x4_138 + 1) a_208 b_209 c_210 d_211 I_227 D_228 K_229 M_215)))))
def f_L_law_L55 (rec2 : Int32 → Option Int32) (LS : Nat) (xs : Nat → Int32) (x1_2 : Int32) (a_31 : Nat) (b_32 : Nat) (c_33 : Nat) (d_34 : Nat) (M_52 : Nat → Nat → UInt64) : Nat → Int32 → (Nat → Nat → Int32) → (Nat → Nat → UInt64) → (Nat → Nat → Int32) → Option Int32
  | 0, _, _, _, _ => none
  | n55 + 1, x4_55, I_L55, D_L55, K_L55 => (if 3 ≤ x4_55 then bd (f_T_pass LS xs a_31 b_32 c_33 d_34 I_L55 D_L55 K_L55 M_52 5) (fun (r_56, I_58, D_59, K_60, M_61) => (if r_56 = 0 then some 0 else f_L_law_L138 rec2 LS xs x1_2 9 0 a_31 b_32 c_33 d_34 I_58 D_59 K_60 M_61)) else bd (eO (f_X4_heat I_L55 D_L55 x4_55 80 15)) (fun (r_232, I_234, D_235) => (if r_232 = 0 then some 0 else bd (eO (f_X4_ofMix I_234 D_235 x4_55 5)) (fun r_237 => (if r_237 = 0 then bd (eO (f_X4_ofMix I_234 D_235 x4_55 4)) (fun r_240 => (if r_240 = 1 then ck (inB x4_55 b_32) (ck (inB 7 10) (nm (up2 K_L55 (60 + (x4_55).toNatClampNeg) (7 : Int32).toNatClampNeg 1) (fun K_248 => ck (inB x4_55 b_32) (ck (inB 8 10) (nm (up2 K_248 (60 + (x4_55).toNatClampNeg) (8 : Int32).toNatClampNeg 0) (fun K_254 => f_L_law_L55 rec2 LS xs x1_2 a_31 b_32 c_33 d_34 M_52 n55 (x4_55 + 1) I_234 D_235 K_254)))))) else some 0)) else some 0)))))
def f_L_law_L2 (LS : Nat) (xs : Nat → Int32) : Nat → Int32 → Option Int32
  | 0, _ => none
  | n2 + 1, x1_2 => (if 3 ≤ x1_2 then some 1 else nm (kT0 ((31 * x1_2) + 7)) (fun K_8 => bd (f_T_founded LS xs 0 0 0 0 I0 D0 K_8 D0 ) (fun (r_10, a_12, b_13, c_14, d_15, I_16, D_17, K_18, M_19) => (if r_10 = 0 then some 0 else bd (f_T_mix LS xs a_12 b_13 c_14 d_15 I_16 D_17 K_18 M_19 ) (fun (r_29, a_31, b_32, c_33, d_34, I_35, D_36, K_37) => (if r_29 = 0 then some 0 else bd (f_T_pass LS xs a_31 b_32 c_33 d_34 I_35 D_36 K_37 M_19 4) (fun (r_47, I_49, D_50, K_51, M_52) => (if r_47 = 0 then some 0 else f_L_law_L55 (f_L_law_L2 LS xs n2) LS xs x1_2 a_31 b_32 c_33 d_34 M_52 4 0 I_49 D_50 K_51))))))))
def f_L_law (LS : Nat) (xs : Nat → Int32) : Option Int32 :=
  f_L_law_L2 LS xs 4 0
set_option maxHeartbeats 8000000 in
set_option maxRecDepth 100000 in
theorem law_walk {p : Program} {e : Env} {s : State} {m : MethodId} {below : List Frame} {meth : Method} {cX : Code} (l : Launch) {bS LS : Nat} {xs : Nat → Int32} (hf : f_L_law LS xs = some 1) (C0 : lw_At p s m meth cX bS LS xs) {dC : Nat → ClassId} {dI : Nat → Nat → Nat} {cy : Nat → ClassId} (hK : va_K (dC, dI) vwCl (tysA cy) s) (hN : nestS s ∧ aoA s) (hO : aoS s) : W p l e room_1 s m #[Value.ref bS] below meth cX s.heap [] 0 0 (lw_Z below #[Value.ref bS] s) (entryFrame m ([Value.ref bS] : List Value).toArray 15) := by
  obtain ⟨hx, hb, hr, hml, hown0, hts0, hX0, hbl, hlocks, -⟩ := id C0
  have hown : s.vm.findClass RL = some m.cls := hown0
  have hts : ∀ w ∈ wsL_law, w.before #[Value.ref bS] s = true := fun w h => hts0 w (wsL_law_in w h)
  generalize hAe : (fun q : Nat => s.heap.size ≤ q) = A
  have hA : ∀ q : Nat, s.heap.size ≤ q → A q := fun q h => by rw [← hAe]; exact h
  have hbA : ¬ A bS := fun h => by rw [← hAe] at h; exact Nat.lt_irrefl _ (Nat.lt_of_lt_of_le hbl h)
  obtain ⟨H, hH⟩ : ∃ H : Heap, H = s.heap := ⟨_, rfl⟩
  have hS : va_S A s.heap H [] := by rw [hH]; exact va_S.rf
  suffices hgo : ∀ locs, va_S A s.heap H locs → W p l e room_1 s m #[Value.ref bS] below meth cX H locs 0 0 (lw_Z below #[Value.ref bS] s) (entryFrame m ([Value.ref bS] : List Value).toArray 15) by subst hH; exact hgo [] hS
  clear hS hH
  intro locs hS
  have hl := lv_entry ([.ref bS]) (n := 15) (Nat.le_of_ble_eq_true rfl)
  rw [lg_entry_eq]
  generalize (lg_sl ([.ref bS]) ++ List.replicate (15 - (lg_sl ([.ref bS])).length) Slot.unset).toArray = ls at hl ⊢
  have hl : lv_has ls 15 [(0, .ref bS)] := hl
  unfold f_L_law at hf
  refine lv_iconst (v := 0) hx hb dL_law_0 (by decide) ?_
  refine lv_istore_n (lv' := [(1, .int 0), (0, .ref bS)]) hx hb dL_law_1 rfl hl (by decide) rfl (fun ls hl => ?_)
  have L2 : ∀ (n2 : Nat) (x1_2 : Int32), f_L_law_L2 LS xs n2 x1_2 = some 1 → ∀ (H : Heap) (locs : List Loc) (ls : Array Slot), va_S A s.heap H locs → lv_has ls 15 [(1, .int x1_2), (0, .ref bS)] → ∀ (cu2 su2 : Nat), cu2 + n2 * 200 ≤ 800 → su2 + n2 * 3000 ≤ 12000 → W p l e room_1 s m #[Value.ref bS] below meth cX H locs cu2 su2 (lw_Z below #[Value.ref bS] s) (F0 m 2 ls []) := by
    intro n2
    induction n2 with
    | zero => intro x1_2 hf; exact nomatch hf
    | succ n2 ih2 =>
      intro x1_2 hf H locs ls hS hl cu2 su2 hcu2 hsu2
      unfold f_L_law_L2 at hf
      refine lv_iload_n hx hb dL_law_2 rfl (lv_at hl 0 rfl) ?_
      refine lv_iconst (v := 3) hx hb dL_law_3 (by decide) ?_
      refine lv_icmp_ge (tgt := 600) hx hb dL_law_4 (by decide) (fun c_1 => ?_) (fun c_1 => ?_)
      · have hf := it_t hf c_1
        refine W.widen (k := 800) (n := 12000) (by omega) (by omega) ?_
        refine lv_iconst (v := 1) hx hb dL_law_600 (by decide) ?_
        refine W.widen (k := 600086) (n := 7301441) (by omega) (by omega) ?_
        refine va_forget (fun q hq => by have h := hS.2.2 q hq; rw [← hAe] at h; exact h) ?_
        refine W.base ?_
        exact lw_ret (Drawn.sameBut.refl s.drawn lw_cs) hx hb hr hlocks dL_law_601
      · have hf := it_f hf c_1
        refine va_new (ci := 5) (fs := [.null, .null, .int 0, .null, .null, .null, .null, .null, .null, .null, .null]) (C := RX5) (T := TX5) (N := 11) (ws := []) hx hb hts inlX5 tyX5 tyX5_ok hown (hts (.classLink RL 9 RX5) (List.mem_append_left _ (List.mem_append_left _ (List.mem_append_left _ (List.mem_append_left _ (List.mem_append_left _ (List.mem_append_left _ (List.mem_append_left _ (List.mem_append_left _ (List.mem_append_left _ (List.mem_append_left _ (List.mem_append_left _ (List.mem_of_getElem? (i := 0) rfl))))))))))))) (hts (.instantiable RX5 11) (List.mem_append_left _ (List.mem_append_left _ (List.mem_append_left _ (List.mem_append_left _ (List.mem_append_left _ (List.mem_append_left _ (List.mem_append_left _ (List.mem_append_left _ (List.mem_append_left _ (List.mem_append_left _ (List.mem_append_left _ (List.mem_of_getElem? (i := 1) rfl))))))))))))) (hts (.initialized RX5) (List.mem_append_left _ (List.mem_append_left _ (List.mem_append_left _ (List.mem_append_left _ (List.mem_append_left _ (List.mem_append_left _ (List.mem_append_left _ (List.mem_append_left _ (List.mem_append_left _ (List.mem_append_left _ (List.mem_append_left _ (List.mem_of_getElem? (i := 2) rfl))))))))))))) hK va_P0 va_D0 hS hA rfl (fun j hj => nw_Told j hj) (by show cu2 + 1 ≤ 600086; omega) (by show su2 + 11 ≤ 7301441; omega) dL_law_7 (fun h0_2 H hPn hDn hS => ?_)
        refine lv_dup hx hb dL_law_10 rfl ?_
        refine lv_aload_n hx hb dL_law_11 rfl (lv_at hl 1 rfl) ?_
        refine lv_bipush (v := 31) hx hb dL_law_12 (by decide) ?_
        refine lv_iload_n hx hb dL_law_14 rfl (lv_at hl 0 rfl) ?_
        refine lv_imul hx hb dL_law_15 ?_
        refine lv_bipush (v := 7) hx hb dL_law_16 (by decide) ?_
        refine lv_iadd hx hb dL_law_18 ?_
        have hPn : va_P (dC, dI) vwCl [(h0_2, .inr (5, [.null, .null, .int 0, .null, .null, .null, .null, .null, .null, .null, .null]))] H := hPn
        have hDn : va_D A [(h0_2, .inr (5, [.null, .null, .int 0, .null, .null, .null, .null, .null, .null, .null, .null]))] := hDn
        have hFc := va_free (wc := [(h0_2, .inr (5, [.null, .null, .int 0, .null, .null, .null, .null, .null, .null, .null, .null]))]) hDn hS hA [0] rfl
        refine va_callv (va_runI (As := [.ref bS, .int ((31 * x1_2) + 7)]) (rest := [.ref h0_2]) ⟨hx, hb, hml, hown, hts⟩ (mi_X5_init l dC dI cy h0_2 bS ((31 * x1_2) + 7) H.size) (cwI 2 hts gL_law_X5_init rfl rfl rfl (hts (.initialized RX5) (List.mem_append_left _ (List.mem_append_left _ (List.mem_append_left _ (List.mem_append_left _ (List.mem_append_left _ (List.mem_append_left _ (List.mem_append_left _ (List.mem_append_left _ (List.mem_append_left _ (List.mem_append_left _ (List.mem_append_left _ (List.mem_of_getElem? (i := 2) rfl))))))))))))) (hts (.methodLink RL 11 yX5_init) (List.mem_append_left _ (List.mem_append_left _ (List.mem_append_left _ (List.mem_append_left _ (List.mem_append_left _ (List.mem_append_left _ (List.mem_append_left _ (List.mem_append_left _ (List.mem_append_left _ (List.mem_append_left _ (List.mem_append_left _ (List.mem_of_getElem? (i := 11) rfl))))))))))))) (hts (.instanceMethod yX5_init) (List.mem_append_left _ (List.mem_append_left _ (List.mem_append_left _ (List.mem_append_left _ (List.mem_append_left _ (List.mem_append_left _ (List.mem_append_left _ (List.mem_append_left _ (List.mem_append_left _ (List.mem_append_left _ (List.mem_append_left _ (List.mem_of_getElem? (i := 12) rfl))))))))))))) rfl (by decide +kernel) ⟨(Nat.le_of_ble_eq_true rfl), (Nat.le_of_ble_eq_true rfl)⟩) ⟨fun a U g mk q => by obtain ⟨q0, q1, q2, q3, q4, q5, q6, q7⟩ := q; exact ⟨q0, q1, q2, va_K.moved (u := U) (U := U.calling g mk a) (Vm.Alike.refl U.vm) q3, q4, nestS.same (u := U) (U := U.calling g mk a) rfl q5, aoS.moved (u := U) (U := U.calling g mk a) (Vm.Alike.refl U.vm) q6, aoA.moved (u := U) (U := U.calling g mk a) (Vm.Alike.refl U.vm) q7⟩, fun U hU hW1 => ⟨rfl, by rw [hU], by rw [hU]; exact hPn, va_K.moved hW1.alike hK, hDn.weaken (fun _ _ _ _ => trivial), hN.1.warm hW1, hO.moved hW1.alike, hN.2.moved hW1.alike⟩⟩ rfl rfl hl.1 rfl (lv_room (Nat.le_of_ble_eq_true rfl)) dL_law_19 ⟨by show cu2 + 1 + 41 ≤ 600086; omega, by show su2 + 11 + 411 ≤ 7301441; omega⟩) hS (fun q _ h => hFc q h) hFc (fun u t H1 locs ht hvm hw hB hz1 hk1 hS9 => ?_)
        obtain ⟨q1, q2, q3, q4, q5, q6, q7, q8, q9, q10, q11, q12, q13, q14, q15, q16, q17, q18, q19, q20, q21, q22, q23, q24, q25, q26, q27, q28, q29, q30, q31, q32, q33, q34, q35, q36, q37, q39, q41, q43, q45, hP1, hD1⟩ := hB
        rw [ht] at hP1
        obtain ⟨ad_3, hP, hM_4, hAL_5, e4_7⟩ := init_T q1 q2 q3 q4 q5 q6 q7 q8 q9 q10 q11 q12 q13 q14 q15 q16 q17 q18 q19 q20 q21 q22 q23 q24 q25 q26 q27 q28 q29 q30 q31 q32 q33 q34 q35 q36 q37 q39 q41 q43 q45 hP1 hD1 hFc hbA 0
        obtain ⟨K_8, eK_8, hf⟩ := nm_out hf
        rw [← eK_8] at hP
        have hDD_6 : ∀ r I D K M, va_D A (iwT (tL 0 0 0) ad_3 cy bS 0 0 0 0 r I D K M) := fun r I D K M => iwT_D hM_4 hAL_5 I D K M
        have hS := hS9
        clear hP1 hD1 hz1 hk1 hvm ht hFc hPn hDn hS9
        generalize H1 = H at hP hS ⊢
        subst e4_7
        refine lv_astore_n (lv' := [(2, .ref (ad_3 40)), (1, .int x1_2), (0, .ref bS)]) hx hb dL_law_22 rfl hl (by decide) rfl (fun ls hl => ?_)
        refine lv_aload_n hx hb dL_law_23 rfl (lv_at hl 0 rfl) ?_
        obtain ⟨q_9, wq_9, heq_9⟩ := heT_40 (L := (tL 0 0 0)) (ad := ad_3) (cy := cy) (bS := bS) (a := 0) (b := 0) (c := 0) (d := 0) (r := 0) (I := I0) (D := D0) (K := K_8) (M := D0) hM_4
        refine va_get (D := (dC, dI)) (ci := 5) (v := .ref (ad_3 0)) (C := RX5) (T := TX5) (N := 11) hx hb hts inlX5 hown hK hP q_9 heq_9 rfl 0 (by decide) (hts (.fieldLink RL 14 "OverrunHouseLaw$Told" "m" "LOverrunHouse;") (List.mem_append_left _ (List.mem_append_left _ (List.mem_append_left _ (List.mem_append_left _ (List.mem_append_left _ (List.mem_append_left _ (List.mem_append_left _ (List.mem_append_left _ (List.mem_append_left _ (List.mem_append_left _ (List.mem_append_left _ (List.mem_of_getElem? (i := 3) rfl))))))))))))) (fun _ h9 => h9) rfl dL_law_24 ?_
        refine lv_astore_n (lv' := [(3, .ref (ad_3 0)), (2, .ref (ad_3 40)), (1, .int x1_2), (0, .ref bS)]) hx hb dL_law_27 rfl hl (by decide) rfl (fun ls hl => ?_)
        refine lv_aload_n hx hb dL_law_28 rfl (lv_at hl 1 rfl) ?_
        obtain ⟨⟨r_10, a_12, b_13, c_14, d_15, I_16, D_17, K_18, M_19⟩, g_11, hf⟩ := bd_out hf
        have hAW : ∀ q, AT (tL 0 0 0) ad_3 H.size q → A q := fun q h => h.elim (fun ⟨k, k1, k2⟩ => k2 ▸ hAL_5 k k1) (fun h => hA q (Nat.le_trans hS.1 h))
        obtain ⟨q_20, wq_20, heq_20⟩ := heT_40 (L := (tL 0 0 0)) (ad := ad_3) (cy := cy) (bS := bS) (a := 0) (b := 0) (c := 0) (d := 0) (r := 0) (I := I0) (D := D0) (K := K_8) (M := D0) hM_4
        refine va_calli (va_runV (As := []) (rest := []) ⟨hx, hb, hml, hown, hts⟩ (mt_T_founded l dC dI 0 0 0 0 bS ad_3 cy hM_4 0 LS xs H.size I0 D0 K_8 D0  r_10 a_12 b_13 c_14 d_15 I_16 D_17 K_18 M_19 g_11) (cwV 0 hts gL_law_X5_founded rfl rfl rfl (by decide +kernel) ⟨(Nat.le_of_ble_eq_true rfl), (Nat.le_of_ble_eq_true rfl)⟩) ⟨(tW.pre [.ref (ad_3 40)] hP hK hN (hX0.kept (hS.2.1 bS hbl hbA))).1, tW.recv (C := RX5) (T := TX5) (N := 11) hP hK heq_20 rfl, (tW.pre [.ref (ad_3 40)] hP hK hN (hX0.kept (hS.2.1 bS hbl hbA))).2⟩ rfl rfl hl.1 rfl (lv_room (Nat.le_of_ble_eq_true rfl)) dL_law_29 ⟨by show cu2 + 1 + 41 + 20 ≤ 600086; omega, by show su2 + 11 + 411 + 240 ≤ 7301441; omega⟩) hS (fun q _ h => hAW q h) (fun q h => hAW q h) (fun r9 u t H1 locs ht hvm hw hB hz1 hk1 hS9 => ?_)
        subst hw
        obtain ⟨ad_21, hM_22, hX_27, hB⟩ := hB
        have hP : va_P (dC, dI) vwCl (iwT (tL a_12 b_13 c_14) ad_21 cy bS a_12 b_13 c_14 d_15 0 I_16 D_17 K_18 M_19) H1 := by rw [← ht]; exact hB.1
        have hAL_23 : ∀ k, k ∈ (tL a_12 b_13 c_14) → A (ad_21 k) := fun k hk => hAW _ (hX_27.1 k hk)
        have hDD_24 : ∀ r I D K M, va_D A (iwT (tL a_12 b_13 c_14) ad_21 cy bS a_12 b_13 c_14 d_15 r I D K M) := fun r I D K M => iwT_D hM_22 hAL_23 I D K M
        have hl : lv_has ls 15 [(3, .ref (ad_21 0)), (2, .ref (ad_21 40)), (1, .int x1_2), (0, .ref bS)] := by rw [hX_27.2.2, hX_27.2.1]; exact lv_sub hl [0, 1, 2, 3] rfl
        have hS := hS9
        clear hB hz1 hk1 hvm ht hS9
        generalize H1 = H at hP hS ⊢
        refine lv_if_eq (tgt := 50) hx hb dL_law_32 (by decide) (fun c_28 => ?_) (fun c_28 => ?_)
        · have hf := it_t hf c_28
          refine lv_iconst (v := 0) hx hb dL_law_50 (by decide) ?_
          exact absurd (Option.some.inj hf) (by decide)
        · have hf := it_f hf c_28
          refine lv_aload_n hx hb dL_law_35 rfl (lv_at hl 1 rfl) ?_
          obtain ⟨⟨r_29, a_31, b_32, c_33, d_34, I_35, D_36, K_37⟩, g_30, hf⟩ := bd_out hf
          have hAW : ∀ q, AT (tL a_12 b_13 c_14) ad_21 H.size q → A q := fun q h => h.elim (fun ⟨k, k1, k2⟩ => k2 ▸ hAL_23 k k1) (fun h => hA q (Nat.le_trans hS.1 h))
          obtain ⟨q_38, wq_38, heq_38⟩ := heT_40 (L := (tL a_12 b_13 c_14)) (ad := ad_21) (cy := cy) (bS := bS) (a := a_12) (b := b_13) (c := c_14) (d := d_15) (r := 0) (I := I_16) (D := D_17) (K := K_18) (M := M_19) hM_22
          refine va_calli (va_runV (As := []) (rest := []) ⟨hx, hb, hml, hown, hts⟩ (mt_T_mix l dC dI a_12 b_13 c_14 d_15 bS ad_21 cy hM_22 0 LS xs H.size I_16 D_17 K_18 M_19  r_29 a_31 b_32 c_33 d_34 I_35 D_36 K_37 g_30) (cwV 0 hts gL_law_X5_mix rfl rfl rfl (by decide +kernel) ⟨(Nat.le_of_ble_eq_true rfl), (Nat.le_of_ble_eq_true rfl)⟩) ⟨(tW.pre [.ref (ad_21 40)] hP hK hN (hX0.kept (hS.2.1 bS hbl hbA))).1, tW.recv (C := RX5) (T := TX5) (N := 11) hP hK heq_38 rfl, (tW.pre [.ref (ad_21 40)] hP hK hN (hX0.kept (hS.2.1 bS hbl hbA))).2⟩ rfl rfl hl.1 rfl (lv_room (Nat.le_of_ble_eq_true rfl)) dL_law_36 ⟨by show cu2 + 1 + 41 + 20 + 2 ≤ 600086; omega, by show su2 + 11 + 411 + 240 + 26 ≤ 7301441; omega⟩) hS (fun q _ h => hAW q h) (fun q h => hAW q h) (fun r9 u t H1 locs ht hvm hw hB hz1 hk1 hS9 => ?_)
          subst hw
          obtain ⟨ad_39, hM_40, hX_45, hB⟩ := hB
          have hP : va_P (dC, dI) vwCl (iwT (tL a_31 b_32 c_33) ad_39 cy bS a_31 b_32 c_33 d_34 0 I_35 D_36 K_37 M_19) H1 := by rw [← ht]; exact hB.1
          have hAL_41 : ∀ k, k ∈ (tL a_31 b_32 c_33) → A (ad_39 k) := fun k hk => hAW _ (hX_45.1 k hk)
          have hDD_42 : ∀ r I D K M, va_D A (iwT (tL a_31 b_32 c_33) ad_39 cy bS a_31 b_32 c_33 d_34 r I D K M) := fun r I D K M => iwT_D hM_40 hAL_41 I D K M
          have hl : lv_has ls 15 [(3, .ref (ad_39 0)), (2, .ref (ad_39 40)), (1, .int x1_2), (0, .ref bS)] := by rw [hX_45.2.2, hX_45.2.1]; exact lv_sub hl [0, 1, 2, 3] rfl
          have hS := hS9
          clear hB hz1 hk1 hvm ht hS9
          generalize H1 = H at hP hS ⊢
          refine lv_if_eq (tgt := 50) hx hb dL_law_39 (by decide) (fun c_46 => ?_) (fun c_46 => ?_)
          · have hf := it_t hf c_46
            refine lv_iconst (v := 0) hx hb dL_law_50 (by decide) ?_
            exact absurd (Option.some.inj hf) (by decide)
          · have hf := it_f hf c_46
            refine lv_aload_n hx hb dL_law_42 rfl (lv_at hl 1 rfl) ?_
            refine lv_iconst (v := 4) hx hb dL_law_43 (by decide) ?_
            obtain ⟨⟨r_47, I_49, D_50, K_51, M_52⟩, g_48, hf⟩ := bd_out hf
            have hAW : ∀ q, AT (tL a_31 b_32 c_33) ad_39 H.size q → A q := fun q h => h.elim (fun ⟨k, k1, k2⟩ => k2 ▸ hAL_41 k k1) (fun h => hA q (Nat.le_trans hS.1 h))
            obtain ⟨q_53, wq_53, heq_53⟩ := heT_40 (L := (tL a_31 b_32 c_33)) (ad := ad_39) (cy := cy) (bS := bS) (a := a_31) (b := b_32) (c := c_33) (d := d_34) (r := 0) (I := I_35) (D := D_36) (K := K_37) (M := M_19) hM_40
            refine va_calli (va_runV (As := [.int 4]) (rest := []) ⟨hx, hb, hml, hown, hts⟩ (mt_T_pass l dC dI (tL a_31 b_32 c_33) a_31 b_32 c_33 d_34 bS ad_39 cy hM_40 0 LS xs H.size I_35 D_36 K_37 M_19 4 r_47 I_49 D_50 K_51 M_52 g_48) (cwV 1 hts gL_law_X5_pass rfl rfl rfl (by decide +kernel) ⟨(Nat.le_of_ble_eq_true rfl), (Nat.le_of_ble_eq_true rfl)⟩) ⟨(tW.pre [.ref (ad_39 40), .int 4] hP hK hN (hX0.kept (hS.2.1 bS hbl hbA))).1, tW.recv (C := RX5) (T := TX5) (N := 11) hP hK heq_53 rfl, (tW.pre [.ref (ad_39 40), .int 4] hP hK hN (hX0.kept (hS.2.1 bS hbl hbA))).2⟩ rfl rfl hl.1 rfl (lv_room (Nat.le_of_ble_eq_true rfl)) dL_law_44 ⟨by show cu2 + 1 + 41 + 20 + 2 + 0 ≤ 600086; omega, by show su2 + 11 + 411 + 240 + 26 + 0 ≤ 7301441; omega⟩) hS (fun q _ h => hAW q h) (fun q h => hAW q h) (fun r9 u t H1 locs ht hvm hw hB hz1 hk1 hS9 => ?_)
            subst hw
            have hP : va_P (dC, dI) vwCl (iwT (tL a_31 b_32 c_33) ad_39 cy bS a_31 b_32 c_33 d_34 0 I_49 D_50 K_51 M_52) H1 := by rw [← ht]; exact hB.1
            have hS := hS9
            clear hB hz1 hk1 hvm ht hS9
            generalize H1 = H at hP hS ⊢
            refine lv_if_ne (tgt := 52) hx hb dL_law_47 (by decide) (fun c_54 => ?_) (fun c_54 => ?_)
            · have hf := it_f hf c_54
              refine lv_iconst (v := 0) hx hb dL_law_52 (by decide) ?_
              refine lv_istore (lv' := [(4, .int 0), (3, .ref (ad_39 0)), (2, .ref (ad_39 40)), (1, .int x1_2), (0, .ref bS)]) hx hb dL_law_53 hl (by decide) rfl (fun ls hl => ?_)
              have L55 : ∀ (n55 : Nat) (x4_55 : Int32) (I_L55 : Nat → Nat → Int32) (D_L55 : Nat → Nat → UInt64) (K_L55 : Nat → Nat → Int32), f_L_law_L55 (f_L_law_L2 LS xs n2) LS xs x1_2 a_31 b_32 c_33 d_34 M_52 n55 x4_55 I_L55 D_L55 K_L55 = some 1 → ∀ (H : Heap) (locs : List Loc) (ls : Array Slot), va_P (dC, dI) vwCl (iwT (tL a_31 b_32 c_33) ad_39 cy bS a_31 b_32 c_33 d_34 0 I_L55 D_L55 K_L55 M_52) H → va_S A s.heap H locs → lv_has ls 15 [(4, .int x4_55), (3, .ref (ad_39 0)), (2, .ref (ad_39 40)), (1, .int x1_2), (0, .ref bS)] → W p l e room_1 s m #[Value.ref bS] below meth cX H locs (cu2 + 1 + 41 + 20 + 2) (su2 + 11 + 411 + 240 + 26) (lw_Z below #[Value.ref bS] s) (F0 m 55 ls []) := by
                intro n55
                induction n55 with
                | zero => intro x4_55 I_L55 D_L55 K_L55 hf; exact nomatch hf
                | succ n55 ih55 =>
                  intro x4_55 I_L55 D_L55 K_L55 hf H locs ls hP hS hl
                  unfold f_L_law_L55 at hf
                  refine lv_iload hx hb dL_law_55 (lv_at hl 0 rfl) ?_
                  refine lv_iconst (v := 3) hx hb dL_law_57 (by decide) ?_
                  refine lv_icmp_ge (tgt := 125) hx hb dL_law_58 (by decide) (fun c_55 => ?_) (fun c_55 => ?_)
                  · have hf := it_t hf c_55
                    refine lv_aload_n hx hb dL_law_125 rfl (lv_at hl 2 rfl) ?_
                    refine lv_iconst (v := 5) hx hb dL_law_126 (by decide) ?_
                    obtain ⟨⟨r_56, I_58, D_59, K_60, M_61⟩, g_57, hf⟩ := bd_out hf
                    have hAW : ∀ q, AT (tL a_31 b_32 c_33) ad_39 H.size q → A q := fun q h => h.elim (fun ⟨k, k1, k2⟩ => k2 ▸ hAL_41 k k1) (fun h => hA q (Nat.le_trans hS.1 h))
                    obtain ⟨q_62, wq_62, heq_62⟩ := heT_40 (L := (tL a_31 b_32 c_33)) (ad := ad_39) (cy := cy) (bS := bS) (a := a_31) (b := b_32) (c := c_33) (d := d_34) (r := 0) (I := I_L55) (D := D_L55) (K := K_L55) (M := M_52) hM_40
                    refine va_calli (va_runV (As := [.int 5]) (rest := []) ⟨hx, hb, hml, hown, hts⟩ (mt_T_pass l dC dI (tL a_31 b_32 c_33) a_31 b_32 c_33 d_34 bS ad_39 cy hM_40 0 LS xs H.size I_L55 D_L55 K_L55 M_52 5 r_56 I_58 D_59 K_60 M_61 g_57) (cwV 1 hts gL_law_X5_pass rfl rfl rfl (by decide +kernel) ⟨(Nat.le_of_ble_eq_true rfl), (Nat.le_of_ble_eq_true rfl)⟩) ⟨(tW.pre [.ref (ad_39 40), .int 5] hP hK hN (hX0.kept (hS.2.1 bS hbl hbA))).1, tW.recv (C := RX5) (T := TX5) (N := 11) hP hK heq_62 rfl, (tW.pre [.ref (ad_39 40), .int 5] hP hK hN (hX0.kept (hS.2.1 bS hbl hbA))).2⟩ rfl rfl hl.1 rfl (lv_room (Nat.le_of_ble_eq_true rfl)) dL_law_127 ⟨by show cu2 + 1 + 41 + 20 + 2 + 0 ≤ 600086; omega, by show su2 + 11 + 411 + 240 + 26 + 0 ≤ 7301441; omega⟩) hS (fun q _ h => hAW q h) (fun q h => hAW q h) (fun r9 u t H1 locs ht hvm hw hB hz1 hk1 hS9 => ?_)
                    subst hw
                    have hP : va_P (dC, dI) vwCl (iwT (tL a_31 b_32 c_33) ad_39 cy bS a_31 b_32 c_33 d_34 0 I_58 D_59 K_60 M_61) H1 := by rw [← ht]; exact hB.1
                    have hS := hS9
                    clear hB hz1 hk1 hvm ht hS9
                    generalize H1 = H at hP hS ⊢
                    refine lv_if_ne (tgt := 135) hx hb dL_law_130 (by decide) (fun c_63 => ?_) (fun c_63 => ?_)
                    · have hf := it_f hf c_63
                      refine lv_iconst (v := 0) hx hb dL_law_135 (by decide) ?_
                      refine lv_istore (lv' := [(4, .int 0), (3, .ref (ad_39 0)), (2, .ref (ad_39 40)), (1, .int x1_2), (0, .ref bS)]) hx hb dL_law_136 hl (by decide) rfl (fun ls hl => ?_)
                      have L138 : ∀ (n138 : Nat) (x4_138 : Int32) (a_138 : Nat) (b_138 : Nat) (c_138 : Nat) (d_138 : Nat) (I_L138 : Nat → Nat → Int32) (D_L138 : Nat → Nat → UInt64) (K_L138 : Nat → Nat → Int32) (M_L138 : Nat → Nat → UInt64), f_L_law_L138 (f_L_law_L2 LS xs n2) LS xs x1_2 n138 x4_138 a_138 b_138 c_138 d_138 I_L138 D_L138 K_L138 M_L138 = some 1 → ∀ (ad_138 : Nat → Nat) (hM_138 : tOK (tL a_138 b_138 c_138) a_138 b_138 c_138 d_138 bS ad_138) (hALx_138 : ∀ k, k ∈ (tL a_138 b_138 c_138) → A (ad_138 k)), ∀ (H : Heap) (locs : List Loc) (ls : Array Slot), va_P (dC, dI) vwCl (iwT (tL a_138 b_138 c_138) ad_138 cy bS a_138 b_138 c_138 d_138 0 I_L138 D_L138 K_L138 M_L138) H → va_S A s.heap H locs → lv_has ls 15 [(4, .int x4_138), (3, .ref (ad_138 0)), (2, .ref (ad_138 40)), (1, .int x1_2), (0, .ref bS)] → ∀ (cu138 su138 : Nat), cu138 + n138 * 2 ≤ cu2 + 1 + 41 + 20 + 2 + 18 → su138 + n138 * 20 ≤ su2 + 11 + 411 + 240 + 26 + 180 → W p l e room_1 s m #[Value.ref bS] below meth cX H locs cu138 su138 (lw_Z below #[Value.ref bS] s) (F0 m 138 ls []) := by
                        intro n138
                        induction n138 with
                        | zero => intro x4_138 a_138 b_138 c_138 d_138 I_L138 D_L138 K_L138 M_L138 hf; exact nomatch hf
                        | succ n138 ih138 =>
                          intro x4_138 a_138 b_138 c_138 d_138 I_L138 D_L138 K_L138 M_L138 hf ad_138 hM_138 hALx_138 H locs ls hP hS hl cu138 su138 hcu138 hsu138
                          unfold f_L_law_L138 at hf
                          have hAL_138 := hALx_138
                          have hDD_138 : ∀ r I D K M, va_D A (iwT (tL a_138 b_138 c_138) ad_138 cy bS a_138 b_138 c_138 d_138 r I D K M) := fun r I D K M => iwT_D hM_138 hAL_138 I D K M
                          refine lv_iload hx hb dL_law_138 (lv_at hl 0 rfl) ?_
                          refine lv_bipush (v := 8) hx hb dL_law_140 (by decide) ?_
                          refine lv_icmp_ge (tgt := 167) hx hb dL_law_142 (by decide) (fun c_64 => ?_) (fun c_64 => ?_)
                          · have hf := it_t hf c_64
                            refine W.widen (k := cu2 + 1 + 41 + 20 + 2 + 18) (n := su2 + 11 + 411 + 240 + 26 + 180) (by omega) (by omega) ?_
                            refine lv_iconst (v := 0) hx hb dL_law_167 (by decide) ?_
                            refine lv_istore (lv' := [(4, .int 0), (3, .ref (ad_138 0)), (2, .ref (ad_138 40)), (1, .int x1_2), (0, .ref bS)]) hx hb dL_law_168 hl (by decide) rfl (fun ls hl => ?_)
                            have L170 : ∀ (n170 : Nat) (x4_170 : Int32) (I_L170 : Nat → Nat → Int32) (D_L170 : Nat → Nat → UInt64) (K_L170 : Nat → Nat → Int32) (M_L170 : Nat → Nat → UInt64), f_L_law_L170 (f_L_law_L2 LS xs n2) LS xs x1_2 a_138 b_138 c_138 d_138 n170 x4_170 I_L170 D_L170 K_L170 M_L170 = some 1 → ∀ (H : Heap) (locs : List Loc) (ls : Array Slot), va_P (dC, dI) vwCl (iwT (tL a_138 b_138 c_138) ad_138 cy bS a_138 b_138 c_138 d_138 0 I_L170 D_L170 K_L170 M_L170) H → va_S A s.heap H locs → lv_has ls 15 [(4, .int x4_170), (3, .ref (ad_138 0)), (2, .ref (ad_138 40)), (1, .int x1_2), (0, .ref bS)] → W p l e room_1 s m #[Value.ref bS] below meth cX H locs (cu2 + 1 + 41 + 20 + 2 + 18) (su2 + 11 + 411 + 240 + 26 + 180) (lw_Z below #[Value.ref bS] s) (F0 m 170 ls []) := by
                              intro n170
                              induction n170 with
                              | zero => intro x4_170 I_L170 D_L170 K_L170 M_L170 hf; exact nomatch hf
                              | succ n170 ih170 =>
                                intro x4_170 I_L170 D_L170 K_L170 M_L170 hf H locs ls hP hS hl
                                unfold f_L_law_L170 at hf
                                refine lv_iload hx hb dL_law_170 (lv_at hl 0 rfl) ?_
                                refine lv_aload_n hx hb dL_law_172 rfl (lv_at hl 2 rfl) ?_
                                obtain ⟨q_65, wq_65, heq_65⟩ := heT_40 (L := (tL a_138 b_138 c_138)) (ad := ad_138) (cy := cy) (bS := bS) (a := a_138) (b := b_138) (c := c_138) (d := d_138) (r := 0) (I := I_L170) (D := D_L170) (K := K_L170) (M := M_L170) hM_138
                                refine va_get (D := (dC, dI)) (ci := 5) (v := .ref (ad_138 49)) (C := RX5) (T := TX5) (N := 11) hx hb hts inlX5 hown hK hP q_65 heq_65 rfl 5 (by decide) (hts (.fieldLink RL 49 "OverrunHouseLaw$Told" "batches" "[[I") (List.mem_append_left _ (List.mem_append_left _ (List.mem_append_left _ (List.mem_append_left _ (List.mem_append_left _ (List.mem_append_left _ (List.mem_append_left _ (List.mem_append_left _ (List.mem_append_left _ (List.mem_append_left _ (List.mem_append_left _ (List.mem_of_getElem? (i := 5) rfl))))))))))))) (fun _ h9 => h9) rfl dL_law_173 ?_
                                obtain ⟨q_66, wq_66, heq_66⟩ := heT_49 (L := (tL a_138 b_138 c_138)) (ad := ad_138) (cy := cy) (bS := bS) (a := a_138) (b := b_138) (c := c_138) (d := d_138) (r := 0) (I := I_L170) (D := D_L170) (K := K_L170) (M := M_L170) hM_138
                                refine va_alen (v := nI c_138) hx hb hK hP q_66 5 heq_66 rfl rfl dL_law_176 ?_
                                refine lv_icmp_ge (tgt := 214) hx hb dL_law_177 (by decide) (fun c_67 => ?_) (fun c_67 => ?_)
                                · have hf := it_t hf c_67
                                  refine lv_aload_n hx hb dL_law_214 rfl (lv_at hl 1 rfl) ?_
                                  obtain ⟨⟨r_68, I_70, D_71⟩, g_69, hf⟩ := bd_out hf
                                  have hPH := iwT_H hM_138 hP
                                  have hAW : ∀ q, AW ad_138 H.size q → A q := fun q h => h.elim (fun ⟨k, k1, k2⟩ => k2 ▸ hAL_138 k (hM_138.1.2.1 _ (tL_H k1))) (fun h => hA q (Nat.le_trans hS.1 h))
                                  refine va_calll (va_runV (As := []) (rest := []) ⟨hx, hb, hml, hown, hts⟩ (mt_X4_digest l dC dI ad_138 cy hM_138.J H.size I_L170 D_L170  r_68 I_70 D_71 (eO_out g_69)) (cwV 0 hts gL_law_X4_digest rfl rfl rfl (by decide +kernel) ⟨(Nat.le_of_ble_eq_true rfl), (Nat.le_of_ble_eq_true rfl)⟩) ⟨(hW.pre [.ref (ad_138 0)] hPH hK hN.1).1, hW.recv (C := RX4) (T := TX4) (N := 14) hPH hK heH_0 rfl, (hW.pre [.ref (ad_138 0)] hPH hK hN.1).2⟩ rfl rfl hl.1 rfl (lv_room (Nat.le_of_ble_eq_true rfl)) dL_law_215 ⟨by show cu2 + 1 + 41 + 20 + 2 + 18 + 0 ≤ 600086; omega, by show su2 + 11 + 411 + 240 + 26 + 180 + 0 ≤ 7301441; omega⟩) hS (fun q _ h => hAW q h) (fun q h => hAW q h) (fun r9 u t H1 locs ht hvm hw hB hz1 hk1 hS9 => ?_)
                                  subst hw
                                  have hP : va_P (dC, dI) vwCl (iwT (tL a_138 b_138 c_138) ad_138 cy bS a_138 b_138 c_138 d_138 0 I_70 D_71 K_L170 M_L170) H1 := iwT_join hM_138 hP (by rw [← ht]; exact hB.1) hk1
                                  have hS := hS9
                                  clear hB hz1 hk1 hvm ht hS9
                                  generalize H1 = H at hP hS ⊢
                                  refine lv_lstore (lv' := [(4, .long r_68), (3, .ref (ad_138 0)), (2, .ref (ad_138 40)), (1, .int x1_2), (0, .ref bS)]) hx hb dL_law_218 hl (by decide) rfl (fun ls hl => ?_)
                                  refine lv_aload_n hx hb dL_law_220 rfl (lv_at hl 2 rfl) ?_
                                  obtain ⟨⟨r_72, I_74, D_75, K_76⟩, g_73, hf⟩ := bd_out hf
                                  have hAW : ∀ q, AT (tL a_138 b_138 c_138) ad_138 H.size q → A q := fun q h => h.elim (fun ⟨k, k1, k2⟩ => k2 ▸ hAL_138 k k1) (fun h => hA q (Nat.le_trans hS.1 h))
                                  refine va_calli (va_runS (As := [.ref (ad_138 40)]) (rest := []) ⟨hx, hb, hml, hown, hts⟩ (mt_L_isBest l dC dI a_138 b_138 c_138 d_138 bS ad_138 cy hM_138 0 LS xs H.size I_70 D_71 K_L170 M_L170  r_72 I_74 D_75 K_76 g_73) (va_cwS 1 hts gL_law_L_isBest rfl rfl rfl (by decide +kernel) ⟨(Nat.le_of_ble_eq_true rfl), (Nat.le_of_ble_eq_true rfl)⟩) (tW.pre [.ref (ad_138 40)] hP hK hN (hX0.kept (hS.2.1 bS hbl hbA))) rfl rfl hl.1 rfl (lv_room (Nat.le_of_ble_eq_true rfl)) dL_law_221 ⟨by show cu2 + 1 + 41 + 20 + 2 + 18 + 17 ≤ 600086; omega, by show su2 + 11 + 411 + 240 + 26 + 180 + 340 ≤ 7301441; omega⟩) hS (fun q _ h => hAW q h) (fun q h => hAW q h) (fun r9 u t H1 locs ht hvm hw hB hz1 hk1 hS9 => ?_)
                                  subst hw
                                  have hP : va_P (dC, dI) vwCl (iwT (tL a_138 b_138 c_138) ad_138 cy bS a_138 b_138 c_138 d_138 0 I_74 D_75 K_76 M_L170) H1 := by rw [← ht]; exact hB.1
                                  have hS := hS9
                                  clear hB hz1 hk1 hvm ht hS9
                                  generalize H1 = H at hP hS ⊢
                                  refine lv_if_eq (tgt := 237) hx hb dL_law_224 (by decide) (fun c_77 => ?_) (fun c_77 => ?_)
                                  · have hf := it_t hf c_77
                                    refine lv_iconst (v := 0) hx hb dL_law_237 (by decide) ?_
                                    exact absurd (Option.some.inj hf) (by decide)
                                  · have hf := it_f hf c_77
                                    refine lv_aload_n hx hb dL_law_227 rfl (lv_at hl 1 rfl) ?_
                                    obtain ⟨⟨r_78, I_80, D_81⟩, g_79, hf⟩ := bd_out hf
                                    have hPH := iwT_H hM_138 hP
                                    have hAW : ∀ q, AW ad_138 H.size q → A q := fun q h => h.elim (fun ⟨k, k1, k2⟩ => k2 ▸ hAL_138 k (hM_138.1.2.1 _ (tL_H k1))) (fun h => hA q (Nat.le_trans hS.1 h))
                                    refine va_calll (va_runV (As := []) (rest := []) ⟨hx, hb, hml, hown, hts⟩ (mt_X4_digest l dC dI ad_138 cy hM_138.J H.size I_74 D_75  r_78 I_80 D_81 (eO_out g_79)) (cwV 0 hts gL_law_X4_digest rfl rfl rfl (by decide +kernel) ⟨(Nat.le_of_ble_eq_true rfl), (Nat.le_of_ble_eq_true rfl)⟩) ⟨(hW.pre [.ref (ad_138 0)] hPH hK hN.1).1, hW.recv (C := RX4) (T := TX4) (N := 14) hPH hK heH_0 rfl, (hW.pre [.ref (ad_138 0)] hPH hK hN.1).2⟩ rfl rfl hl.1 rfl (lv_room (Nat.le_of_ble_eq_true rfl)) dL_law_228 ⟨by show cu2 + 1 + 41 + 20 + 2 + 18 + 17 + 0 ≤ 600086; omega, by show su2 + 11 + 411 + 240 + 26 + 180 + 340 + 0 ≤ 7301441; omega⟩) hS (fun q _ h => hAW q h) (fun q h => hAW q h) (fun r9 u t H1 locs ht hvm hw hB hz1 hk1 hS9 => ?_)
                                    subst hw
                                    have hP : va_P (dC, dI) vwCl (iwT (tL a_138 b_138 c_138) ad_138 cy bS a_138 b_138 c_138 d_138 0 I_80 D_81 K_76 M_L170) H1 := iwT_join hM_138 hP (by rw [← ht]; exact hB.1) hk1
                                    have hS := hS9
                                    clear hB hz1 hk1 hvm ht hS9
                                    generalize H1 = H at hP hS ⊢
                                    refine lv_lload hx hb dL_law_231 (lv_at hl 0 rfl) ?_
                                    refine W.lcmp hx hb dL_law_233 ?_
                                    refine lv_if_eq (tgt := 239) hx hb dL_law_234 (by decide) (fun c_82 => ?_) (fun c_82 => ?_)
                                    · have hf := it_t hf c_82
                                      refine lv_iconst (v := 0) hx hb dL_law_239 (by decide) ?_
                                      refine lv_istore (lv' := [(6, .int 0), (4, .long r_68), (3, .ref (ad_138 0)), (2, .ref (ad_138 40)), (1, .int x1_2), (0, .ref bS)]) hx hb dL_law_240 hl (by decide) rfl (fun ls hl => ?_)
                                      have L242 : ∀ (n242 : Nat) (x6_242 : Int32) (I_L242 : Nat → Nat → Int32) (D_L242 : Nat → Nat → UInt64) (K_L242 : Nat → Nat → Int32) (M_L242 : Nat → Nat → UInt64), f_L_law_L242 (f_L_law_L2 LS xs n2) LS xs x1_2 a_138 b_138 c_138 d_138 n242 x6_242 I_L242 D_L242 K_L242 M_L242 = some 1 → ∀ (H : Heap) (locs : List Loc) (ls : Array Slot), va_P (dC, dI) vwCl (iwT (tL a_138 b_138 c_138) ad_138 cy bS a_138 b_138 c_138 d_138 0 I_L242 D_L242 K_L242 M_L242) H → va_S A s.heap H locs → lv_has ls 15 [(6, .int x6_242), (4, .long r_68), (3, .ref (ad_138 0)), (2, .ref (ad_138 40)), (1, .int x1_2), (0, .ref bS)] → ∀ (cu242 su242 : Nat), cu242 + n242 * 2 ≤ cu2 + 1 + 41 + 20 + 2 + 18 + 17 + 10 → su242 + n242 * 24 ≤ su2 + 11 + 411 + 240 + 26 + 180 + 340 + 120 → W p l e room_1 s m #[Value.ref bS] below meth cX H locs cu242 su242 (lw_Z below #[Value.ref bS] s) (F0 m 242 ls []) := by
                                        intro n242
                                        induction n242 with
                                        | zero => intro x6_242 I_L242 D_L242 K_L242 M_L242 hf; exact nomatch hf
                                        | succ n242 ih242 =>
                                          intro x6_242 I_L242 D_L242 K_L242 M_L242 hf H locs ls hP hS hl cu242 su242 hcu242 hsu242
                                          unfold f_L_law_L242 at hf
                                          refine lv_iload hx hb dL_law_242 (lv_at hl 0 rfl) ?_
                                          refine lv_iconst (v := 4) hx hb dL_law_244 (by decide) ?_
                                          refine lv_icmp_ge (tgt := 594) hx hb dL_law_245 (by decide) (fun c_83 => ?_) (fun c_83 => ?_)
                                          · have hf := it_t hf c_83
                                            refine W.widen (k := cu2 + 1 + 41 + 20 + 2 + 18 + 17 + 10) (n := su2 + 11 + 411 + 240 + 26 + 180 + 340 + 120) (by omega) (by omega) ?_
                                            refine lv_iinc (v := (x1_2 + 1)) (lv' := [(1, .int (x1_2 + 1)), (6, .int x6_242), (4, .long r_68), (3, .ref (ad_138 0)), (2, .ref (ad_138 40)), (0, .ref bS)]) hx hb dL_law_594 hl (k := 4) rfl rfl (by decide) rfl (fun ls hl => ?_)
                                            refine lv_goto (tgt := 2) hx hb dL_law_597 (by decide) ?_
                                            exact ih2 (x1_2 + 1) hf _ _ _ hS (lv_sub hl [0, 5] rfl) _ _ (by omega) (by omega)
                                          · have hf := it_f hf c_83
                                            refine lv_aload_n hx hb dL_law_248 rfl (lv_at hl 3 rfl) ?_
                                            refine lv_iconst (v := 2) hx hb dL_law_249 (by decide) ?_
                                            obtain ⟨⟨r_84, K_86⟩, g_85, hf⟩ := bd_out hf
                                            have hAW : ∀ q, AT (tL a_138 b_138 c_138) ad_138 H.size q → A q := fun q h => h.elim (fun ⟨k, k1, k2⟩ => k2 ▸ hAL_138 k k1) (fun h => hA q (Nat.le_trans hS.1 h))
                                            obtain ⟨q_87, wq_87, heq_87⟩ := heT_40 (L := (tL a_138 b_138 c_138)) (ad := ad_138) (cy := cy) (bS := bS) (a := a_138) (b := b_138) (c := c_138) (d := d_138) (r := 0) (I := I_L242) (D := D_L242) (K := K_L242) (M := M_L242) hM_138
                                            refine va_calli (va_runV (As := [.int 2]) (rest := []) ⟨hx, hb, hml, hown, hts⟩ (mt_T_draw l dC dI (tL a_138 b_138 c_138) a_138 b_138 c_138 d_138 bS ad_138 cy hM_138 0 LS xs H.size I_L242 D_L242 K_L242 M_L242 2 r_84 K_86 g_85) (cwV 1 hts gL_law_X5_draw rfl rfl rfl (by decide +kernel) ⟨(Nat.le_of_ble_eq_true rfl), (Nat.le_of_ble_eq_true rfl)⟩) ⟨(tW.pre [.ref (ad_138 40), .int 2] hP hK hN (hX0.kept (hS.2.1 bS hbl hbA))).1, tW.recv (C := RX5) (T := TX5) (N := 11) hP hK heq_87 rfl, (tW.pre [.ref (ad_138 40), .int 2] hP hK hN (hX0.kept (hS.2.1 bS hbl hbA))).2⟩ rfl rfl hl.1 rfl (lv_room (Nat.le_of_ble_eq_true rfl)) dL_law_250 ⟨by show cu242 + 0 ≤ 600086; omega, by show su242 + 0 ≤ 7301441; omega⟩) hS (fun q _ h => hAW q h) (fun q h => hAW q h) (fun r9 u t H1 locs ht hvm hw hB hz1 hk1 hS9 => ?_)
                                            subst hw
                                            have hP : va_P (dC, dI) vwCl (iwT (tL a_138 b_138 c_138) ad_138 cy bS a_138 b_138 c_138 d_138 0 I_L242 D_L242 K_86 M_L242) H1 := by rw [← ht]; exact hB.1
                                            have hS := hS9
                                            clear hB hz1 hk1 hvm ht hS9
                                            generalize H1 = H at hP hS ⊢
                                            refine lv_istore (lv' := [(7, .int r_84), (6, .int x6_242), (4, .long r_68), (3, .ref (ad_138 0)), (2, .ref (ad_138 40)), (1, .int x1_2), (0, .ref bS)]) hx hb dL_law_253 hl (by decide) rfl (fun ls hl => ?_)
                                            refine lv_aload_n hx hb dL_law_255 rfl (lv_at hl 4 rfl) ?_
                                            refine lv_bipush (v := 9) hx hb dL_law_256 (by decide) ?_
                                            obtain ⟨⟨r_88, K_90⟩, g_89, hf⟩ := bd_out hf
                                            have hAW : ∀ q, AT (tL a_138 b_138 c_138) ad_138 H.size q → A q := fun q h => h.elim (fun ⟨k, k1, k2⟩ => k2 ▸ hAL_138 k k1) (fun h => hA q (Nat.le_trans hS.1 h))
                                            obtain ⟨q_91, wq_91, heq_91⟩ := heT_40 (L := (tL a_138 b_138 c_138)) (ad := ad_138) (cy := cy) (bS := bS) (a := a_138) (b := b_138) (c := c_138) (d := d_138) (r := 0) (I := I_L242) (D := D_L242) (K := K_86) (M := M_L242) hM_138
                                            refine va_calli (va_runV (As := [.int 9]) (rest := []) ⟨hx, hb, hml, hown, hts⟩ (mt_T_draw l dC dI (tL a_138 b_138 c_138) a_138 b_138 c_138 d_138 bS ad_138 cy hM_138 0 LS xs H.size I_L242 D_L242 K_86 M_L242 9 r_88 K_90 g_89) (cwV 1 hts gL_law_X5_draw rfl rfl rfl (by decide +kernel) ⟨(Nat.le_of_ble_eq_true rfl), (Nat.le_of_ble_eq_true rfl)⟩) ⟨(tW.pre [.ref (ad_138 40), .int 9] hP hK hN (hX0.kept (hS.2.1 bS hbl hbA))).1, tW.recv (C := RX5) (T := TX5) (N := 11) hP hK heq_91 rfl, (tW.pre [.ref (ad_138 40), .int 9] hP hK hN (hX0.kept (hS.2.1 bS hbl hbA))).2⟩ rfl rfl hl.1 rfl (lv_room (Nat.le_of_ble_eq_true rfl)) dL_law_258 ⟨by show cu242 + 0 ≤ 600086; omega, by show su242 + 0 ≤ 7301441; omega⟩) hS (fun q _ h => hAW q h) (fun q h => hAW q h) (fun r9 u t H1 locs ht hvm hw hB hz1 hk1 hS9 => ?_)
                                            subst hw
                                            have hP : va_P (dC, dI) vwCl (iwT (tL a_138 b_138 c_138) ad_138 cy bS a_138 b_138 c_138 d_138 0 I_L242 D_L242 K_90 M_L242) H1 := by rw [← ht]; exact hB.1
                                            have hS := hS9
                                            clear hB hz1 hk1 hvm ht hS9
                                            generalize H1 = H at hP hS ⊢
                                            refine lv_istore (lv' := [(8, .int r_88), (7, .int r_84), (6, .int x6_242), (4, .long r_68), (3, .ref (ad_138 0)), (2, .ref (ad_138 40)), (1, .int x1_2), (0, .ref bS)]) hx hb dL_law_261 hl (by decide) rfl (fun ls hl => ?_)
                                            refine lv_aload_n hx hb dL_law_263 rfl (lv_at hl 5 rfl) ?_
                                            obtain ⟨q_92, wq_92, heq_92⟩ := heT_40 (L := (tL a_138 b_138 c_138)) (ad := ad_138) (cy := cy) (bS := bS) (a := a_138) (b := b_138) (c := c_138) (d := d_138) (r := 0) (I := I_L242) (D := D_L242) (K := K_90) (M := M_L242) hM_138
                                            refine va_get (D := (dC, dI)) (ci := 5) (v := .ref (ad_138 49)) (C := RX5) (T := TX5) (N := 11) hx hb hts inlX5 hown hK hP q_92 heq_92 rfl 5 (by decide) (hts (.fieldLink RL 49 "OverrunHouseLaw$Told" "batches" "[[I") (List.mem_append_left _ (List.mem_append_left _ (List.mem_append_left _ (List.mem_append_left _ (List.mem_append_left _ (List.mem_append_left _ (List.mem_append_left _ (List.mem_append_left _ (List.mem_append_left _ (List.mem_append_left _ (List.mem_append_left _ (List.mem_of_getElem? (i := 5) rfl))))))))))))) (fun _ h9 => h9) rfl dL_law_264 ?_
                                            obtain ⟨q_93, wq_93, heq_93⟩ := heT_49 (L := (tL a_138 b_138 c_138)) (ad := ad_138) (cy := cy) (bS := bS) (a := a_138) (b := b_138) (c := c_138) (d := d_138) (r := 0) (I := I_L242) (D := D_L242) (K := K_90) (M := M_L242) hM_138
                                            refine va_alen (v := nI c_138) hx hb hK hP q_93 5 heq_93 rfl rfl dL_law_267 ?_
                                            refine va_newa (atype := .int) (ty := .int) (N' := c_138) (a0 := (c_138, .inl (fun _ => 0))) (D := (dC, dI)) (cl := vwCl) hx hb (hts (.arrayClass .int) (List.mem_append_left _ (List.mem_append_left _ (List.mem_append_left _ (List.mem_append_left _ (List.mem_append_left _ (List.mem_append_left _ (List.mem_append_left _ (List.mem_append_left _ (List.mem_append_left _ (List.mem_append_left _ (List.mem_append_left _ (List.mem_of_getElem? (i := 6) rfl))))))))))))) rfl hK hP (hDD_138 0 I_L242 D_L242 K_90 M_L242) hS hA (fun cA => va_arr0 cA c_138) (nI_pos (by have := hM_138.2.2; omega)) (nI_clamp (by have := hM_138.2.2; omega)) (by have := hM_138.2.2; show c_138 * 4 ≤ 536870912; omega) (by show cu242 + 1 ≤ 600086; omega) (by have := hM_138.2.2; show su242 + c_138 ≤ 7301441; omega) dL_law_268 (fun q_94 cA_95 H hKt hP hD hS => ?_)
                                            obtain rfl : cA_95 = cy 0 := cy_same hKt 0 rfl rfl
                                            obtain ⟨K_102, eK_102, hf⟩ := nm_out hf
                                            obtain ⟨ad_98, hM_99, hP, hAL_100, hE_96, hq_97⟩ := t_new (r1 := 0) (K1 := (va_up K_90 35 (fun _ => 0))) (M1 := M_L242) (Or.inr (Or.inl rfl)) (fun hk => (tL_lt hM_138.2.2.1 hM_138.2.2.2.1 hM_138.2.2.2.2.1 hk).2.1 rfl) (fun k hk => Or.inl hk) hM_138 hP hD hbA (fun _ => rfl) (fun ad1 => (cellT_35 ad1 cy bS a_138 b_138 c_138 d_138 0 _ _).trans (by rw [va_up_self])) (fun k hk => va_up_ne _ _ hk) (fun _ _ => rfl)
                                            have hF_103 : ∀ k ∈ tL a_138 b_138 c_138, ad_98 k = ad_138 k := fun k hk => hE_96 k hk
                                            rw [← eK_102] at hP
                                            have hDD_101 : ∀ r I D K M, va_D A (iwT (tL a_138 b_138 c_138 ++ [35]) ad_98 cy bS a_138 b_138 c_138 d_138 r I D K M) := fun r I D K M => iwT_D hM_99 hAL_100 I D K M
                                            have hl : lv_has ls 15 [(8, .int r_88), (7, .int r_84), (6, .int x6_242), (4, .long r_68), (3, .ref (ad_98 0)), (2, .ref (ad_98 40)), (1, .int x1_2), (0, .ref bS)] := by rw [hE_96 0 (tL_H (by decide)), hE_96 40 (tL_c (by decide))]; exact hl
                                            refine W.eq (g2 := F0 m 270 ls [.ref (ad_98 35)]) (by rw [hq_97]) ?_
                                            refine W.widen (k := cu242 + 1) (n := su242 + 12) (Nat.le_refl _) (by have := hM_99.2.2; omega) ?_
                                            refine lv_astore (lv' := [(9, .ref (ad_98 35)), (8, .int r_88), (7, .int r_84), (6, .int x6_242), (4, .long r_68), (3, .ref (ad_98 0)), (2, .ref (ad_98 40)), (1, .int x1_2), (0, .ref bS)]) hx hb dL_law_270 hl (by decide) rfl (fun ls hl => ?_)
                                            refine lv_iconst (v := 0) hx hb dL_law_272 (by decide) ?_
                                            refine lv_istore (lv' := [(10, .int 0), (9, .ref (ad_98 35)), (8, .int r_88), (7, .int r_84), (6, .int x6_242), (4, .long r_68), (3, .ref (ad_98 0)), (2, .ref (ad_98 40)), (1, .int x1_2), (0, .ref bS)]) hx hb dL_law_273 hl (by decide) rfl (fun ls hl => ?_)
                                            have L275 : ∀ (n275 : Nat) (x10_275 : Int32) (K_L275 : Nat → Nat → Int32), f_L_law_L275 (f_L_law_L242 (f_L_law_L2 LS xs n2) LS xs x1_2 a_138 b_138 c_138 d_138 n242) LS xs a_138 b_138 c_138 d_138 x6_242 I_L242 D_L242 M_L242 r_84 r_88 n275 x10_275 K_L275 = some 1 → ∀ (H : Heap) (locs : List Loc) (ls : Array Slot), va_P (dC, dI) vwCl (iwT (tL a_138 b_138 c_138 ++ [35]) ad_98 cy bS a_138 b_138 c_138 d_138 0 I_L242 D_L242 K_L275 M_L242) H → va_S A s.heap H locs → lv_has ls 15 [(10, .int x10_275), (9, .ref (ad_98 35)), (8, .int r_88), (7, .int r_84), (6, .int x6_242), (4, .long r_68), (3, .ref (ad_98 0)), (2, .ref (ad_98 40)), (1, .int x1_2), (0, .ref bS)] → W p l e room_1 s m #[Value.ref bS] below meth cX H locs (cu242 + 1) (su242 + 12) (lw_Z below #[Value.ref bS] s) (F0 m 275 ls []) := by
                                              intro n275
                                              induction n275 with
                                              | zero => intro x10_275 K_L275 hf; exact nomatch hf
                                              | succ n275 ih275 =>
                                                intro x10_275 K_L275 hf H locs ls hP hS hl
                                                unfold f_L_law_L275 at hf
                                                refine lv_iload hx hb dL_law_275 (lv_at hl 0 rfl) ?_
                                                refine lv_aload hx hb dL_law_277 (lv_at hl 1 rfl) ?_
                                                obtain ⟨q_104, wq_104, heq_104⟩ := heT_35 (L := (tL a_138 b_138 c_138 ++ [35])) (ad := ad_98) (cy := cy) (bS := bS) (a := a_138) (b := b_138) (c := c_138) (d := d_138) (r := 0) (I := I_L242) (D := D_L242) (K := K_L275) (M := M_L242) (List.mem_append_right _ (by decide))
                                                refine va_alen (v := nI c_138) hx hb hK hP q_104 0 heq_104 rfl rfl dL_law_279 ?_
                                                refine lv_icmp_ge (tgt := 321) hx hb dL_law_280 (by decide) (fun c_105 => ?_) (fun c_105 => ?_)
                                                · have hf := it_t hf c_105
                                                  refine lv_aload_n hx hb dL_law_321 rfl (lv_at hl 6 rfl) ?_
                                                  refine lv_iload hx hb dL_law_322 (lv_at hl 3 rfl) ?_
                                                  refine lv_iload hx hb dL_law_324 (lv_at hl 2 rfl) ?_
                                                  obtain ⟨r_106, g_107, hf⟩ := bd_out hf
                                                  have hPH := iwT_H hM_99 hP
                                                  refine va_calli (va_runV (As := [.int r_84, .int r_88]) (rest := []) ⟨hx, hb, hml, hown, hts⟩ (mt_X4_wouldSpoil l dC dI ad_98 cy hM_99.J H.size I_L242 D_L242 r_84 r_88 r_106 (eO_out g_107)) (cwV 2 hts gL_law_X4_wouldSpoil rfl rfl rfl (by decide +kernel) ⟨(Nat.le_of_ble_eq_true rfl), (Nat.le_of_ble_eq_true rfl)⟩) ⟨(hW.pre [.ref (ad_98 0), .int r_84, .int r_88] hPH hK hN.1).1, hW.recv (C := RX4) (T := TX4) (N := 14) hPH hK heH_0 rfl, (hW.pre [.ref (ad_98 0), .int r_84, .int r_88] hPH hK hN.1).2⟩ rfl rfl hl.1 rfl (lv_room (Nat.le_of_ble_eq_true rfl)) dL_law_326 ⟨by show cu242 + 1 + 0 ≤ 600086; omega, by show su242 + 12 + 0 ≤ 7301441; omega⟩) hS (fun q _ h => hA q (Nat.le_trans hS.1 h)) (fun q h => hA q (Nat.le_trans hS.1 h)) (fun r9 u t H1 locs ht hvm hw hB hz1 hk1 hS9 => ?_)
                                                  subst hw
                                                  have hP := va_Pnew hP hk1
                                                  have hS := hS9
                                                  clear hB hz1 hk1 hvm ht hS9
                                                  generalize H1 = H at hP hS ⊢
                                                  refine lv_istore (lv' := [(10, .int r_106), (9, .ref (ad_98 35)), (8, .int r_88), (7, .int r_84), (6, .int x6_242), (4, .long r_68), (3, .ref (ad_98 0)), (2, .ref (ad_98 40)), (1, .int x1_2), (0, .ref bS)]) hx hb dL_law_329 hl (by decide) rfl (fun ls hl => ?_)
                                                  refine lv_aload hx hb dL_law_331 (lv_at hl 1 rfl) ?_
                                                  obtain ⟨q_108, wq_108, heq_108⟩ := heT_35 (L := (tL a_138 b_138 c_138 ++ [35])) (ad := ad_98) (cy := cy) (bS := bS) (a := a_138) (b := b_138) (c := c_138) (d := d_138) (r := 0) (I := I_L242) (D := D_L242) (K := K_L275) (M := M_L242) (List.mem_append_right _ (by decide))
                                                  refine va_alen (v := nI c_138) hx hb hK hP q_108 0 heq_108 rfl rfl dL_law_333 ?_
                                                  refine va_newa (atype := .double) (ty := .double) (N' := c_138) (a0 := (c_138, .inr (.inr (.inr (.inl (fun _ => 0)))))) (D := (dC, dI)) (cl := vwCl) hx hb (hts (.arrayClass .double) (List.mem_append_left _ (List.mem_append_left _ (List.mem_append_left _ (List.mem_append_left _ (List.mem_append_left _ (List.mem_append_left _ (List.mem_append_left _ (List.mem_append_left _ (List.mem_append_left _ (List.mem_append_left _ (List.mem_append_left _ (List.mem_of_getElem? (i := 7) rfl))))))))))))) rfl hK hP (hDD_101 0 I_L242 D_L242 K_L275 M_L242) hS hA (fun cA => va_arrD cA c_138) (nI_pos (by have := hM_99.2.2; omega)) (nI_clamp (by have := hM_99.2.2; omega)) (by have := hM_99.2.2; show c_138 * 8 ≤ 536870912; omega) (by show cu242 + 1 + 1 ≤ 600086; omega) (by have := hM_99.2.2; show su242 + 12 + c_138 ≤ 7301441; omega) dL_law_334 (fun q_109 cA_110 H hKt hP hD hS => ?_)
                                                  obtain rfl : cA_110 = cy 6 := cy_same hKt 6 rfl rfl
                                                  obtain ⟨M_117, eM_117, hf⟩ := nm_out hf
                                                  obtain ⟨ad_113, hM_114, hP, hAL_115, hE_111, hq_112⟩ := t_new (r1 := 0) (K1 := K_L275) (M1 := (va_up M_L242 36 (fun _ => 0))) (Or.inr (Or.inr rfl)) (fun hk => (List.mem_append.mp hk).elim (fun h1 => (tL_lt hM_99.2.2.1 hM_99.2.2.2.1 hM_99.2.2.2.2.1 h1).2.2 rfl) (fun h1 => absurd (List.mem_singleton.mp h1) (by decide))) (fun k hk => (List.mem_append.mp hk).elim (fun h1 => Or.inl h1) (fun h1 => Or.inr (Or.inr (Or.inl (List.mem_singleton.mp h1))))) hM_99 hP hD hbA (fun _ => rfl) (fun ad1 => (cellT_36 ad1 cy bS a_138 b_138 c_138 d_138 0 _ _).trans (by rw [va_up_self])) (fun _ _ => rfl) (fun k hk => va_up_ne _ _ hk)
                                                  have hF_118 : ∀ k ∈ tL a_138 b_138 c_138, ad_113 k = ad_138 k := fun k hk => (hE_111 k (List.mem_append_left _ (hk))).trans (hF_103 k hk)
                                                  rw [← eM_117] at hP
                                                  have hDD_116 : ∀ r I D K M, va_D A (iwT (tL a_138 b_138 c_138 ++ [35] ++ [36]) ad_113 cy bS a_138 b_138 c_138 d_138 r I D K M) := fun r I D K M => iwT_D hM_114 hAL_115 I D K M
                                                  have hl : lv_has ls 15 [(10, .int r_106), (9, .ref (ad_113 35)), (8, .int r_88), (7, .int r_84), (6, .int x6_242), (4, .long r_68), (3, .ref (ad_113 0)), (2, .ref (ad_113 40)), (1, .int x1_2), (0, .ref bS)] := by rw [hE_111 35 (List.mem_append_right _ (by decide)), hE_111 0 (List.mem_append_left _ (tL_H (by decide))), hE_111 40 (List.mem_append_left _ (tL_c (by decide)))]; exact hl
                                                  refine W.eq (g2 := F0 m 336 ls [.ref (ad_113 36)]) (by rw [hq_112]) ?_
                                                  refine W.widen (k := cu242 + 1 + 1) (n := su242 + 12 + 12) (Nat.le_refl _) (by have := hM_114.2.2; omega) ?_
                                                  refine lv_astore (lv' := [(11, .ref (ad_113 36)), (10, .int r_106), (9, .ref (ad_113 35)), (8, .int r_88), (7, .int r_84), (6, .int x6_242), (4, .long r_68), (3, .ref (ad_113 0)), (2, .ref (ad_113 40)), (1, .int x1_2), (0, .ref bS)]) hx hb dL_law_336 hl (by decide) rfl (fun ls hl => ?_)
                                                  refine lv_iconst (v := 0) hx hb dL_law_338 (by decide) ?_
                                                  refine lv_istore (lv' := [(12, .int 0), (11, .ref (ad_113 36)), (10, .int r_106), (9, .ref (ad_113 35)), (8, .int r_88), (7, .int r_84), (6, .int x6_242), (4, .long r_68), (3, .ref (ad_113 0)), (2, .ref (ad_113 40)), (1, .int x1_2), (0, .ref bS)]) hx hb dL_law_339 hl (by decide) rfl (fun ls hl => ?_)
                                                  have L341 : ∀ (n341 : Nat) (x12_341 : Int32) (M_L341 : Nat → Nat → UInt64), f_L_law_L341 (f_L_law_L242 (f_L_law_L2 LS xs n2) LS xs x1_2 a_138 b_138 c_138 d_138 n242) LS xs a_138 b_138 c_138 d_138 x6_242 I_L242 D_L242 r_84 r_88 K_L275 r_106 n341 x12_341 M_L341 = some 1 → ∀ (H : Heap) (locs : List Loc) (ls : Array Slot), va_P (dC, dI) vwCl (iwT (tL a_138 b_138 c_138 ++ [35] ++ [36]) ad_113 cy bS a_138 b_138 c_138 d_138 0 I_L242 D_L242 K_L275 M_L341) H → va_S A s.heap H locs → lv_has ls 15 [(12, .int x12_341), (11, .ref (ad_113 36)), (10, .int r_106), (9, .ref (ad_113 35)), (8, .int r_88), (7, .int r_84), (6, .int x6_242), (4, .long r_68), (3, .ref (ad_113 0)), (2, .ref (ad_113 40)), (1, .int x1_2), (0, .ref bS)] → W p l e room_1 s m #[Value.ref bS] below meth cX H locs (cu242 + 1 + 1) (su242 + 12 + 12) (lw_Z below #[Value.ref bS] s) (F0 m 341 ls []) := by
                                                    intro n341
                                                    induction n341 with
                                                    | zero => intro x12_341 M_L341 hf; exact nomatch hf
                                                    | succ n341 ih341 =>
                                                      intro x12_341 M_L341 hf H locs ls hP hS hl
                                                      unfold f_L_law_L341 at hf
                                                      refine lv_iload hx hb dL_law_341 (lv_at hl 0 rfl) ?_
                                                      refine lv_aload hx hb dL_law_343 (lv_at hl 3 rfl) ?_
                                                      obtain ⟨q_119, wq_119, heq_119⟩ := heT_35 (L := (tL a_138 b_138 c_138 ++ [35] ++ [36])) (ad := ad_113) (cy := cy) (bS := bS) (a := a_138) (b := b_138) (c := c_138) (d := d_138) (r := 0) (I := I_L242) (D := D_L242) (K := K_L275) (M := M_L341) (List.mem_append_left _ (List.mem_append_right _ (by decide)))
                                                      refine va_alen (v := nI c_138) hx hb hK hP q_119 0 heq_119 rfl rfl dL_law_345 ?_
                                                      refine lv_icmp_ge (tgt := 368) hx hb dL_law_346 (by decide) (fun c_120 => ?_) (fun c_120 => ?_)
                                                      · have hf := it_t hf c_120
                                                        refine lv_iload hx hb dL_law_368 (lv_at hl 4 rfl) ?_
                                                        have J390 : ∀ (I_J390 : Nat → Nat → Int32) (D_J390 : Nat → Nat → UInt64), f_L_law_J390 (f_L_law_L242 (f_L_law_L2 LS xs n2) LS xs x1_2 a_138 b_138 c_138 d_138 n242) LS xs a_138 b_138 c_138 d_138 x6_242 r_88 K_L275 r_106 M_L341 I_J390 D_J390 = some 1 → ∀ (H : Heap) (locs : List Loc) (ls : Array Slot), va_P (dC, dI) vwCl (iwT (tL a_138 b_138 c_138 ++ [35] ++ [36]) ad_113 cy bS a_138 b_138 c_138 d_138 0 I_J390 D_J390 K_L275 M_L341) H → va_S A s.heap H locs → lv_has ls 15 [(12, .int x12_341), (11, .ref (ad_113 36)), (10, .int r_106), (9, .ref (ad_113 35)), (8, .int r_88), (7, .int r_84), (6, .int x6_242), (4, .long r_68), (3, .ref (ad_113 0)), (2, .ref (ad_113 40)), (1, .int x1_2), (0, .ref bS)] → W p l e room_1 s m #[Value.ref bS] below meth cX H locs (cu242 + 1 + 1) (su242 + 12 + 12) (lw_Z below #[Value.ref bS] s) (F0 m 390 ls []) := by
                                                          intro I_J390 D_J390 hf H locs ls hP hS hl
                                                          unfold f_L_law_J390 at hf
                                                          refine lv_aload_n hx hb dL_law_390 rfl (lv_at hl 8 rfl) ?_
                                                          refine lv_bipush (v := 24) hx hb dL_law_391 (by decide) ?_
                                                          obtain ⟨⟨r_121, I_123, D_124⟩, g_122, hf⟩ := bd_out hf
                                                          have hPH := iwT_H hM_114 hP
                                                          have hAW : ∀ q, AW ad_113 H.size q → A q := fun q h => h.elim (fun ⟨k, k1, k2⟩ => k2 ▸ hAL_115 k (hM_114.1.2.1 _ (tL_H k1))) (fun h => hA q (Nat.le_trans hS.1 h))
                                                          refine va_calli (va_runV (As := [.int 24]) (rest := []) ⟨hx, hb, hml, hown, hts⟩ (mt_X4_pass l dC dI ad_113 cy hM_114.J H.size I_J390 D_J390 24 r_121 I_123 D_124 (eO_out g_122)) (cwV 1 hts gL_law_X4_pass rfl rfl rfl (by decide +kernel) ⟨(Nat.le_of_ble_eq_true rfl), (Nat.le_of_ble_eq_true rfl)⟩) ⟨(hW.pre [.ref (ad_113 0), .int 24] hPH hK hN.1).1, hW.recv (C := RX4) (T := TX4) (N := 14) hPH hK heH_0 rfl, (hW.pre [.ref (ad_113 0), .int 24] hPH hK hN.1).2⟩ rfl rfl hl.1 rfl (lv_room (Nat.le_of_ble_eq_true rfl)) dL_law_393 ⟨by show cu242 + 1 + 1 + 0 ≤ 600086; omega, by show su242 + 12 + 12 + 0 ≤ 7301441; omega⟩) hS (fun q _ h => hAW q h) (fun q h => hAW q h) (fun r9 u t H1 locs ht hvm hw hB hz1 hk1 hS9 => ?_)
                                                          subst hw
                                                          have hP : va_P (dC, dI) vwCl (iwT (tL a_138 b_138 c_138 ++ [35] ++ [36]) ad_113 cy bS a_138 b_138 c_138 d_138 0 I_123 D_124 K_L275 M_L341) H1 := iwT_join hM_114 hP (by rw [← ht]; exact hB.1) hk1
                                                          have hS := hS9
                                                          clear hB hz1 hk1 hvm ht hS9
                                                          generalize H1 = H at hP hS ⊢
                                                          refine lv_pop hx hb dL_law_396 rfl ?_
                                                          refine lv_iconst (v := 0) hx hb dL_law_397 (by decide) ?_
                                                          refine lv_istore (lv' := [(12, .int 0), (11, .ref (ad_113 36)), (10, .int r_106), (9, .ref (ad_113 35)), (8, .int r_88), (7, .int r_84), (6, .int x6_242), (4, .long r_68), (3, .ref (ad_113 0)), (2, .ref (ad_113 40)), (1, .int x1_2), (0, .ref bS)]) hx hb dL_law_398 hl (by decide) rfl (fun ls hl => ?_)
                                                          refine lv_iconst (v := 0) hx hb dL_law_400 (by decide) ?_
                                                          refine lv_istore (lv' := [(13, .int 0), (12, .int 0), (11, .ref (ad_113 36)), (10, .int r_106), (9, .ref (ad_113 35)), (8, .int r_88), (7, .int r_84), (6, .int x6_242), (4, .long r_68), (3, .ref (ad_113 0)), (2, .ref (ad_113 40)), (1, .int x1_2), (0, .ref bS)]) hx hb dL_law_401 hl (by decide) rfl (fun ls hl => ?_)
                                                          have L403 : ∀ (n403 : Nat) (x13_403 : Int32) (x12_403 : Int32), f_L_law_L403 (f_L_law_L242 (f_L_law_L2 LS xs n2) LS xs x1_2 a_138 b_138 c_138 d_138 n242) LS xs a_138 b_138 c_138 d_138 x6_242 r_88 K_L275 r_106 M_L341 I_123 D_124 n403 x13_403 x12_403 = some 1 → ∀ (H : Heap) (locs : List Loc) (ls : Array Slot), va_P (dC, dI) vwCl (iwT (tL a_138 b_138 c_138 ++ [35] ++ [36]) ad_113 cy bS a_138 b_138 c_138 d_138 0 I_123 D_124 K_L275 M_L341) H → va_S A s.heap H locs → lv_has ls 15 [(13, .int x13_403), (12, .int x12_403), (11, .ref (ad_113 36)), (10, .int r_106), (9, .ref (ad_113 35)), (8, .int r_88), (7, .int r_84), (6, .int x6_242), (4, .long r_68), (3, .ref (ad_113 0)), (2, .ref (ad_113 40)), (1, .int x1_2), (0, .ref bS)] → W p l e room_1 s m #[Value.ref bS] below meth cX H locs (cu242 + 1 + 1) (su242 + 12 + 12) (lw_Z below #[Value.ref bS] s) (F0 m 403 ls []) := by
                                                            intro n403
                                                            induction n403 with
                                                            | zero => intro x13_403 x12_403 hf; exact nomatch hf
                                                            | succ n403 ih403 =>
                                                              intro x13_403 x12_403 hf H locs ls hP hS hl
                                                              unfold f_L_law_L403 at hf
                                                              refine lv_iload hx hb dL_law_403 (lv_at hl 0 rfl) ?_
                                                              refine lv_aload hx hb dL_law_405 (lv_at hl 4 rfl) ?_
                                                              obtain ⟨q_125, wq_125, heq_125⟩ := heT_35 (L := (tL a_138 b_138 c_138 ++ [35] ++ [36])) (ad := ad_113) (cy := cy) (bS := bS) (a := a_138) (b := b_138) (c := c_138) (d := d_138) (r := 0) (I := I_123) (D := D_124) (K := K_L275) (M := M_L341) (List.mem_append_left _ (List.mem_append_right _ (by decide)))
                                                              refine va_alen (v := nI c_138) hx hb hK hP q_125 0 heq_125 rfl rfl dL_law_407 ?_
                                                              refine lv_icmp_ge (tgt := 528) hx hb dL_law_408 (by decide) (fun c_126 => ?_) (fun c_126 => ?_)
                                                              · have hf := it_t hf c_126
                                                                refine lv_iload hx hb dL_law_528 (lv_at hl 1 rfl) ?_
                                                                refine lv_iload hx hb dL_law_530 (lv_at hl 3 rfl) ?_
                                                                refine lv_icmp_eq (tgt := 537) hx hb dL_law_532 (by decide) (fun c_127 => ?_) (fun c_127 => ?_)
                                                                · have hf := it_t hf c_127
                                                                  refine lv_iconst (v := 0) hx hb dL_law_537 (by decide) ?_
                                                                  refine lv_istore (lv' := [(13, .int 0), (12, .int x12_403), (11, .ref (ad_113 36)), (10, .int r_106), (9, .ref (ad_113 35)), (8, .int r_88), (7, .int r_84), (6, .int x6_242), (4, .long r_68), (3, .ref (ad_113 0)), (2, .ref (ad_113 40)), (1, .int x1_2), (0, .ref bS)]) hx hb dL_law_538 hl (by decide) rfl (fun ls hl => ?_)
                                                                  have L540 : ∀ (n540 : Nat) (x13_540 : Int32) (I_L540 : Nat → Nat → Int32) (D_L540 : Nat → Nat → UInt64) (K_L540 : Nat → Nat → Int32), f_L_law_L540 (f_L_law_L242 (f_L_law_L2 LS xs n2) LS xs x1_2 a_138 b_138 c_138 d_138 n242) LS xs a_138 b_138 c_138 d_138 x6_242 M_L341 n540 x13_540 I_L540 D_L540 K_L540 = some 1 → ∀ (H : Heap) (locs : List Loc) (ls : Array Slot), va_P (dC, dI) vwCl (iwT (tL a_138 b_138 c_138 ++ [35] ++ [36]) ad_113 cy bS a_138 b_138 c_138 d_138 0 I_L540 D_L540 K_L540 M_L341) H → va_S A s.heap H locs → lv_has ls 15 [(13, .int x13_540), (12, .int x12_403), (11, .ref (ad_113 36)), (10, .int r_106), (9, .ref (ad_113 35)), (8, .int r_88), (7, .int r_84), (6, .int x6_242), (4, .long r_68), (3, .ref (ad_113 0)), (2, .ref (ad_113 40)), (1, .int x1_2), (0, .ref bS)] → W p l e room_1 s m #[Value.ref bS] below meth cX H locs (cu242 + 1 + 1) (su242 + 12 + 12) (lw_Z below #[Value.ref bS] s) (F0 m 540 ls []) := by
                                                                    intro n540
                                                                    induction n540 with
                                                                    | zero => intro x13_540 I_L540 D_L540 K_L540 hf; exact nomatch hf
                                                                    | succ n540 ih540 =>
                                                                      intro x13_540 I_L540 D_L540 K_L540 hf H locs ls hP hS hl
                                                                      unfold f_L_law_L540 at hf
                                                                      refine lv_iload hx hb dL_law_540 (lv_at hl 0 rfl) ?_
                                                                      refine lv_aload hx hb dL_law_542 (lv_at hl 4 rfl) ?_
                                                                      obtain ⟨q_128, wq_128, heq_128⟩ := heT_35 (L := (tL a_138 b_138 c_138 ++ [35] ++ [36])) (ad := ad_113) (cy := cy) (bS := bS) (a := a_138) (b := b_138) (c := c_138) (d := d_138) (r := 0) (I := I_L540) (D := D_L540) (K := K_L540) (M := M_L341) (List.mem_append_left _ (List.mem_append_right _ (by decide)))
                                                                      refine va_alen (v := nI c_138) hx hb hK hP q_128 0 heq_128 rfl rfl dL_law_544 ?_
                                                                      refine lv_icmp_ge (tgt := 588) hx hb dL_law_545 (by decide) (fun c_129 => ?_) (fun c_129 => ?_)
                                                                      · have hf := it_t hf c_129
                                                                        refine lv_iinc (v := (x6_242 + 1)) (lv' := [(6, .int (x6_242 + 1)), (13, .int x13_540), (12, .int x12_403), (11, .ref (ad_113 36)), (10, .int r_106), (9, .ref (ad_113 35)), (8, .int r_88), (7, .int r_84), (4, .long r_68), (3, .ref (ad_113 0)), (2, .ref (ad_113 40)), (1, .int x1_2), (0, .ref bS)]) hx hb dL_law_588 hl (k := 7) rfl rfl (by decide) rfl (fun ls hl => ?_)
                                                                        refine lv_goto (tgt := 242) hx hb dL_law_591 (by decide) ?_
                                                                        have hP := t_drop (L1 := (tL a_138 b_138 c_138 ++ [35] ++ [36])) hF_118 (fun k hk => List.mem_append_left _ (List.mem_append_left _ (hk))) hP 0
                                                                        have hl : lv_has ls 15 [(6, .int (x6_242 + 1)), (4, .long r_68), (3, .ref (ad_138 0)), (2, .ref (ad_138 40)), (1, .int x1_2), (0, .ref bS)] := by rw [← hF_118 0 (tL_H (by decide)), ← hF_118 40 (tL_c (by decide))]; exact lv_sub hl [0, 8, 9, 10, 11, 12] rfl
                                                                        exact ih242 (x6_242 + 1) I_L540 D_L540 K_L540 M_L341 hf _ _ _ hP hS (lv_sub hl [0, 1, 2, 3, 4, 5] rfl) _ _ (by omega) (by omega)
                                                                      · have hf := it_f hf c_129
                                                                        refine lv_aload_n hx hb dL_law_548 rfl (lv_at hl 9 rfl) ?_
                                                                        refine lv_iload hx hb dL_law_549 (lv_at hl 0 rfl) ?_
                                                                        refine lv_iconst (v := 3) hx hb dL_law_551 (by decide) ?_
                                                                        obtain ⟨r_130, g_131, hf⟩ := bd_out hf
                                                                        have hPH := iwT_H hM_114 hP
                                                                        refine va_calli (va_runV (As := [.int x13_540, .int 3]) (rest := []) ⟨hx, hb, hml, hown, hts⟩ (mt_X4_ofBatch l dC dI ad_113 cy hM_114.J H.size I_L540 D_L540 x13_540 3 r_130 (eO_out g_131)) (cwV 2 hts gL_law_X4_ofBatch rfl rfl rfl (by decide +kernel) ⟨(Nat.le_of_ble_eq_true rfl), (Nat.le_of_ble_eq_true rfl)⟩) ⟨(hW.pre [.ref (ad_113 0), .int x13_540, .int 3] hPH hK hN.1).1, hW.recv (C := RX4) (T := TX4) (N := 14) hPH hK heH_0 rfl, (hW.pre [.ref (ad_113 0), .int x13_540, .int 3] hPH hK hN.1).2⟩ rfl rfl hl.1 rfl (lv_room (Nat.le_of_ble_eq_true rfl)) dL_law_552 ⟨by show cu242 + 1 + 1 + 0 ≤ 600086; omega, by show su242 + 12 + 12 + 0 ≤ 7301441; omega⟩) hS (fun q _ h => hA q (Nat.le_trans hS.1 h)) (fun q h => hA q (Nat.le_trans hS.1 h)) (fun r9 u t H1 locs ht hvm hw hB hz1 hk1 hS9 => ?_)
                                                                        subst hw
                                                                        have hP := va_Pnew hP hk1
                                                                        have hS := hS9
                                                                        clear hB hz1 hk1 hvm ht hS9
                                                                        generalize H1 = H at hP hS ⊢
                                                                        refine lv_iconst (v := 3) hx hb dL_law_555 (by decide) ?_
                                                                        refine lv_icmp_ge (tgt := 582) hx hb dL_law_556 (by decide) (fun c_132 => ?_) (fun c_132 => ?_)
                                                                        · have hf := it_t hf c_132
                                                                          refine lv_iinc (v := (x13_540 + 1)) (lv' := [(13, .int (x13_540 + 1)), (12, .int x12_403), (11, .ref (ad_113 36)), (10, .int r_106), (9, .ref (ad_113 35)), (8, .int r_88), (7, .int r_84), (6, .int x6_242), (4, .long r_68), (3, .ref (ad_113 0)), (2, .ref (ad_113 40)), (1, .int x1_2), (0, .ref bS)]) hx hb dL_law_582 hl (k := 0) rfl rfl (by decide) rfl (fun ls hl => ?_)
                                                                          refine lv_goto (tgt := 540) hx hb dL_law_585 (by decide) ?_
                                                                          exact ih540 (x13_540 + 1) I_L540 D_L540 K_L540 hf _ _ _ hP hS (lv_sub hl [0, 1, 2, 3, 4, 5, 6, 7, 8, 9, 10, 11, 12] rfl)
                                                                        · have hf := it_f hf c_132
                                                                          refine lv_aload_n hx hb dL_law_559 rfl (lv_at hl 9 rfl) ?_
                                                                          refine lv_iload hx hb dL_law_560 (lv_at hl 0 rfl) ?_
                                                                          refine lv_iconst (v := 2) hx hb dL_law_562 (by decide) ?_
                                                                          obtain ⟨r_133, g_134, hf⟩ := bd_out hf
                                                                          have hPH := iwT_H hM_114 hP
                                                                          refine va_calli (va_runV (As := [.int x13_540, .int 2]) (rest := []) ⟨hx, hb, hml, hown, hts⟩ (mt_X4_ofBatch l dC dI ad_113 cy hM_114.J H.size I_L540 D_L540 x13_540 2 r_133 (eO_out g_134)) (cwV 2 hts gL_law_X4_ofBatch rfl rfl rfl (by decide +kernel) ⟨(Nat.le_of_ble_eq_true rfl), (Nat.le_of_ble_eq_true rfl)⟩) ⟨(hW.pre [.ref (ad_113 0), .int x13_540, .int 2] hPH hK hN.1).1, hW.recv (C := RX4) (T := TX4) (N := 14) hPH hK heH_0 rfl, (hW.pre [.ref (ad_113 0), .int x13_540, .int 2] hPH hK hN.1).2⟩ rfl rfl hl.1 rfl (lv_room (Nat.le_of_ble_eq_true rfl)) dL_law_563 ⟨by show cu242 + 1 + 1 + 0 ≤ 600086; omega, by show su242 + 12 + 12 + 0 ≤ 7301441; omega⟩) hS (fun q _ h => hA q (Nat.le_trans hS.1 h)) (fun q h => hA q (Nat.le_trans hS.1 h)) (fun r9 u t H1 locs ht hvm hw hB hz1 hk1 hS9 => ?_)
                                                                          subst hw
                                                                          have hP := va_Pnew hP hk1
                                                                          have hS := hS9
                                                                          clear hB hz1 hk1 hvm ht hS9
                                                                          generalize H1 = H at hP hS ⊢
                                                                          refine lv_iconst (v := 1) hx hb dL_law_566 (by decide) ?_
                                                                          refine lv_icmp_ne (tgt := 582) hx hb dL_law_567 (by decide) (fun c_135 => ?_) (fun c_135 => ?_)
                                                                          · have hf := it_f hf c_135
                                                                            refine lv_iinc (v := (x13_540 + 1)) (lv' := [(13, .int (x13_540 + 1)), (12, .int x12_403), (11, .ref (ad_113 36)), (10, .int r_106), (9, .ref (ad_113 35)), (8, .int r_88), (7, .int r_84), (6, .int x6_242), (4, .long r_68), (3, .ref (ad_113 0)), (2, .ref (ad_113 40)), (1, .int x1_2), (0, .ref bS)]) hx hb dL_law_582 hl (k := 0) rfl rfl (by decide) rfl (fun ls hl => ?_)
                                                                            refine lv_goto (tgt := 540) hx hb dL_law_585 (by decide) ?_
                                                                            exact ih540 (x13_540 + 1) I_L540 D_L540 K_L540 hf _ _ _ hP hS (lv_sub hl [0, 1, 2, 3, 4, 5, 6, 7, 8, 9, 10, 11, 12] rfl)
                                                                          · have hf := it_t hf c_135
                                                                            refine lv_aload_n hx hb dL_law_570 rfl (lv_at hl 9 rfl) ?_
                                                                            refine lv_iload hx hb dL_law_571 (lv_at hl 0 rfl) ?_
                                                                            refine lv_aload_n hx hb dL_law_573 rfl (lv_at hl 10 rfl) ?_
                                                                            refine lv_iconst (v := 2) hx hb dL_law_574 (by decide) ?_
                                                                            obtain ⟨⟨r_136, K_138⟩, g_137, hf⟩ := bd_out hf
                                                                            have hAW : ∀ q, AT (tL a_138 b_138 c_138 ++ [35] ++ [36]) ad_113 H.size q → A q := fun q h => h.elim (fun ⟨k, k1, k2⟩ => k2 ▸ hAL_115 k k1) (fun h => hA q (Nat.le_trans hS.1 h))
                                                                            obtain ⟨q_139, wq_139, heq_139⟩ := heT_40 (L := (tL a_138 b_138 c_138 ++ [35] ++ [36])) (ad := ad_113) (cy := cy) (bS := bS) (a := a_138) (b := b_138) (c := c_138) (d := d_138) (r := 0) (I := I_L540) (D := D_L540) (K := K_L540) (M := M_L341) hM_114
                                                                            refine va_calli (va_runV (As := [.int 2]) (rest := [.int x13_540, .ref (ad_113 0)]) ⟨hx, hb, hml, hown, hts⟩ (mt_T_draw l dC dI (tL a_138 b_138 c_138 ++ [35] ++ [36]) a_138 b_138 c_138 d_138 bS ad_113 cy hM_114 0 LS xs H.size I_L540 D_L540 K_L540 M_L341 2 r_136 K_138 g_137) (cwV 1 hts gL_law_X5_draw rfl rfl rfl (by decide +kernel) ⟨(Nat.le_of_ble_eq_true rfl), (Nat.le_of_ble_eq_true rfl)⟩) ⟨(tW.pre [.ref (ad_113 40), .int 2] hP hK hN (hX0.kept (hS.2.1 bS hbl hbA))).1, tW.recv (C := RX5) (T := TX5) (N := 11) hP hK heq_139 rfl, (tW.pre [.ref (ad_113 40), .int 2] hP hK hN (hX0.kept (hS.2.1 bS hbl hbA))).2⟩ rfl rfl hl.1 rfl (lv_room (Nat.le_of_ble_eq_true rfl)) dL_law_575 ⟨by show cu242 + 1 + 1 + 0 ≤ 600086; omega, by show su242 + 12 + 12 + 0 ≤ 7301441; omega⟩) hS (fun q _ h => hAW q h) (fun q h => hAW q h) (fun r9 u t H1 locs ht hvm hw hB hz1 hk1 hS9 => ?_)
                                                                            subst hw
                                                                            have hP : va_P (dC, dI) vwCl (iwT (tL a_138 b_138 c_138 ++ [35] ++ [36]) ad_113 cy bS a_138 b_138 c_138 d_138 0 I_L540 D_L540 K_138 M_L341) H1 := by rw [← ht]; exact hB.1
                                                                            have hS := hS9
                                                                            clear hB hz1 hk1 hvm ht hS9
                                                                            generalize H1 = H at hP hS ⊢
                                                                            obtain ⟨⟨r_140, I_142, D_143⟩, g_141, hf⟩ := bd_out hf
                                                                            have hPH := iwT_H hM_114 hP
                                                                            have hAW : ∀ q, AW ad_113 H.size q → A q := fun q h => h.elim (fun ⟨k, k1, k2⟩ => k2 ▸ hAL_115 k (hM_114.1.2.1 _ (tL_H k1))) (fun h => hA q (Nat.le_trans hS.1 h))
                                                                            refine va_calli (va_runV (As := [.int x13_540, .int r_136]) (rest := []) ⟨hx, hb, hml, hown, hts⟩ (mt_X4_lay l dC dI ad_113 cy hM_114.J H.size I_L540 D_L540 x13_540 r_136 r_140 I_142 D_143 (eO_out g_141)) (cwV 2 hts gL_law_X4_lay rfl rfl rfl (by decide +kernel) ⟨(Nat.le_of_ble_eq_true rfl), (Nat.le_of_ble_eq_true rfl)⟩) ⟨(hW.pre [.ref (ad_113 0), .int x13_540, .int r_136] hPH hK hN.1).1, hW.recv (C := RX4) (T := TX4) (N := 14) hPH hK heH_0 rfl, (hW.pre [.ref (ad_113 0), .int x13_540, .int r_136] hPH hK hN.1).2⟩ rfl rfl hl.1 rfl (lv_room (Nat.le_of_ble_eq_true rfl)) dL_law_578 ⟨by show cu242 + 1 + 1 + 0 ≤ 600086; omega, by show su242 + 12 + 12 + 0 ≤ 7301441; omega⟩) hS (fun q _ h => hAW q h) (fun q h => hAW q h) (fun r9 u t H1 locs ht hvm hw hB hz1 hk1 hS9 => ?_)
                                                                            subst hw
                                                                            have hP : va_P (dC, dI) vwCl (iwT (tL a_138 b_138 c_138 ++ [35] ++ [36]) ad_113 cy bS a_138 b_138 c_138 d_138 0 I_142 D_143 K_138 M_L341) H1 := iwT_join hM_114 hP (by rw [← ht]; exact hB.1) hk1
                                                                            have hS := hS9
                                                                            clear hB hz1 hk1 hvm ht hS9
                                                                            generalize H1 = H at hP hS ⊢
                                                                            refine lv_pop hx hb dL_law_581 rfl ?_
                                                                            refine lv_iinc (v := (x13_540 + 1)) (lv' := [(13, .int (x13_540 + 1)), (12, .int x12_403), (11, .ref (ad_113 36)), (10, .int r_106), (9, .ref (ad_113 35)), (8, .int r_88), (7, .int r_84), (6, .int x6_242), (4, .long r_68), (3, .ref (ad_113 0)), (2, .ref (ad_113 40)), (1, .int x1_2), (0, .ref bS)]) hx hb dL_law_582 hl (k := 0) rfl rfl (by decide) rfl (fun ls hl => ?_)
                                                                            refine lv_goto (tgt := 540) hx hb dL_law_585 (by decide) ?_
                                                                            exact ih540 (x13_540 + 1) I_142 D_143 K_138 hf _ _ _ hP hS (lv_sub hl [0, 1, 2, 3, 4, 5, 6, 7, 8, 9, 10, 11, 12] rfl)
                                                                  exact L540 14 0 I_123 D_124 K_L275 hf _ _ _ hP hS (lv_sub hl [0, 1, 2, 3, 4, 5, 6, 7, 8, 9, 10, 11, 12] rfl)
                                                                · have hf := it_f hf c_127
                                                                  refine lv_iconst (v := 0) hx hb dL_law_535 (by decide) ?_
                                                                  exact absurd (Option.some.inj hf) (by decide)
                                                              · have hf := it_f hf c_126
                                                                refine lv_aload_n hx hb dL_law_411 rfl (lv_at hl 9 rfl) ?_
                                                                refine lv_iload hx hb dL_law_412 (lv_at hl 0 rfl) ?_
                                                                refine lv_iconst (v := 3) hx hb dL_law_414 (by decide) ?_
                                                                obtain ⟨r_144, g_145, hf⟩ := bd_out hf
                                                                have hPH := iwT_H hM_114 hP
                                                                refine va_calli (va_runV (As := [.int x13_403, .int 3]) (rest := []) ⟨hx, hb, hml, hown, hts⟩ (mt_X4_ofBatch l dC dI ad_113 cy hM_114.J H.size I_123 D_124 x13_403 3 r_144 (eO_out g_145)) (cwV 2 hts gL_law_X4_ofBatch rfl rfl rfl (by decide +kernel) ⟨(Nat.le_of_ble_eq_true rfl), (Nat.le_of_ble_eq_true rfl)⟩) ⟨(hW.pre [.ref (ad_113 0), .int x13_403, .int 3] hPH hK hN.1).1, hW.recv (C := RX4) (T := TX4) (N := 14) hPH hK heH_0 rfl, (hW.pre [.ref (ad_113 0), .int x13_403, .int 3] hPH hK hN.1).2⟩ rfl rfl hl.1 rfl (lv_room (Nat.le_of_ble_eq_true rfl)) dL_law_415 ⟨by show cu242 + 1 + 1 + 0 ≤ 600086; omega, by show su242 + 12 + 12 + 0 ≤ 7301441; omega⟩) hS (fun q _ h => hA q (Nat.le_trans hS.1 h)) (fun q h => hA q (Nat.le_trans hS.1 h)) (fun r9 u t H1 locs ht hvm hw hB hz1 hk1 hS9 => ?_)
                                                                subst hw
                                                                have hP := va_Pnew hP hk1
                                                                have hS := hS9
                                                                clear hB hz1 hk1 hvm ht hS9
                                                                generalize H1 = H at hP hS ⊢
                                                                refine lv_istore (lv' := [(14, .int r_144), (13, .int x13_403), (12, .int x12_403), (11, .ref (ad_113 36)), (10, .int r_106), (9, .ref (ad_113 35)), (8, .int r_88), (7, .int r_84), (6, .int x6_242), (4, .long r_68), (3, .ref (ad_113 0)), (2, .ref (ad_113 40)), (1, .int x1_2), (0, .ref bS)]) hx hb dL_law_418 hl (by decide) rfl (fun ls hl => ?_)
                                                                refine lv_iload hx hb dL_law_420 (lv_at hl 2 rfl) ?_
                                                                refine lv_aload hx hb dL_law_422 (lv_at hl 5 rfl) ?_
                                                                refine lv_iload hx hb dL_law_424 (lv_at hl 1 rfl) ?_
                                                                obtain ⟨q_146, wq_146, heq_146⟩ := heT_35 (L := (tL a_138 b_138 c_138 ++ [35] ++ [36])) (ad := ad_113) (cy := cy) (bS := bS) (a := a_138) (b := b_138) (c := c_138) (d := d_138) (r := 0) (I := I_123) (D := D_124) (K := K_L275) (M := M_L341) (List.mem_append_left _ (List.mem_append_right _ (by decide)))
                                                                obtain ⟨h_147, hf⟩ := ck_out hf
                                                                refine va_iald (n := c_138) (f := K_L275 35) hx hb hK hP q_146 0 heq_146 rfl (inB_in h_147) dL_law_426 ?_
                                                                refine lv_iconst (v := 1) hx hb dL_law_427 (by decide) ?_
                                                                have J454 : ∀ (z0_454 : Int32), f_L_law_J454 (f_L_law_L403 (f_L_law_L242 (f_L_law_L2 LS xs n2) LS xs x1_2 a_138 b_138 c_138 d_138 n242) LS xs a_138 b_138 c_138 d_138 x6_242 r_88 K_L275 r_106 M_L341 I_123 D_124 n403) c_138 r_88 M_L341 I_123 D_124 x13_403 x12_403 r_144 z0_454 = some 1 → ∀ (H : Heap) (locs : List Loc) (ls : Array Slot), va_P (dC, dI) vwCl (iwT (tL a_138 b_138 c_138 ++ [35] ++ [36]) ad_113 cy bS a_138 b_138 c_138 d_138 0 I_123 D_124 K_L275 M_L341) H → va_S A s.heap H locs → lv_has ls 15 [(14, .int r_144), (13, .int x13_403), (12, .int x12_403), (11, .ref (ad_113 36)), (10, .int r_106), (9, .ref (ad_113 35)), (8, .int r_88), (7, .int r_84), (6, .int x6_242), (4, .long r_68), (3, .ref (ad_113 0)), (2, .ref (ad_113 40)), (1, .int x1_2), (0, .ref bS)] → W p l e room_1 s m #[Value.ref bS] below meth cX H locs (cu242 + 1 + 1) (su242 + 12 + 12) (lw_Z below #[Value.ref bS] s) (F0 m 454 ls [.int z0_454, .int x12_403]) := by
                                                                  intro z0_454 hf H locs ls hP hS hl
                                                                  unfold f_L_law_J454 at hf
                                                                  refine lv_iadd hx hb dL_law_454 ?_
                                                                  refine lv_istore (lv' := [(12, .int (x12_403 + z0_454)), (14, .int r_144), (13, .int x13_403), (11, .ref (ad_113 36)), (10, .int r_106), (9, .ref (ad_113 35)), (8, .int r_88), (7, .int r_84), (6, .int x6_242), (4, .long r_68), (3, .ref (ad_113 0)), (2, .ref (ad_113 40)), (1, .int x1_2), (0, .ref bS)]) hx hb dL_law_455 hl (by decide) rfl (fun ls hl => ?_)
                                                                  refine lv_aload_n hx hb dL_law_457 rfl (lv_at hl 10 rfl) ?_
                                                                  refine lv_iload hx hb dL_law_458 (lv_at hl 2 rfl) ?_
                                                                  refine lv_iconst (v := 4) hx hb dL_law_460 (by decide) ?_
                                                                  obtain ⟨r_148, g_149, hf⟩ := bd_out hf
                                                                  have hPH := iwT_H hM_114 hP
                                                                  refine va_calli (va_runV (As := [.int x13_403, .int 4]) (rest := []) ⟨hx, hb, hml, hown, hts⟩ (mt_X4_ofBatch l dC dI ad_113 cy hM_114.J H.size I_123 D_124 x13_403 4 r_148 (eO_out g_149)) (cwV 2 hts gL_law_X4_ofBatch rfl rfl rfl (by decide +kernel) ⟨(Nat.le_of_ble_eq_true rfl), (Nat.le_of_ble_eq_true rfl)⟩) ⟨(hW.pre [.ref (ad_113 0), .int x13_403, .int 4] hPH hK hN.1).1, hW.recv (C := RX4) (T := TX4) (N := 14) hPH hK heH_0 rfl, (hW.pre [.ref (ad_113 0), .int x13_403, .int 4] hPH hK hN.1).2⟩ rfl rfl hl.1 rfl (lv_room (Nat.le_of_ble_eq_true rfl)) dL_law_461 ⟨by show cu242 + 1 + 1 + 0 ≤ 600086; omega, by show su242 + 12 + 12 + 0 ≤ 7301441; omega⟩) hS (fun q _ h => hA q (Nat.le_trans hS.1 h)) (fun q h => hA q (Nat.le_trans hS.1 h)) (fun r9 u t H1 locs ht hvm hw hB hz1 hk1 hS9 => ?_)
                                                                  subst hw
                                                                  have hP := va_Pnew hP hk1
                                                                  have hS := hS9
                                                                  clear hB hz1 hk1 hvm ht hS9
                                                                  generalize H1 = H at hP hS ⊢
                                                                  refine lv_aload_n hx hb dL_law_464 rfl (lv_at hl 10 rfl) ?_
                                                                  refine lv_iload hx hb dL_law_465 (lv_at hl 2 rfl) ?_
                                                                  obtain ⟨r_150, g_151, hf⟩ := bd_out hf
                                                                  have hPH := iwT_H hM_114 hP
                                                                  refine va_calld (va_runV (As := [.int x13_403]) (rest := [.int r_148]) ⟨hx, hb, hml, hown, hts⟩ (mt_X4_crystal l dC dI ad_113 cy hM_114.J H.size I_123 D_124 x13_403 r_150 (eO_out g_151)) (cwV 1 hts gL_law_X4_crystal rfl rfl rfl (by decide +kernel) ⟨(Nat.le_of_ble_eq_true rfl), (Nat.le_of_ble_eq_true rfl)⟩) ⟨(hW.pre [.ref (ad_113 0), .int x13_403] hPH hK hN.1).1, hW.recv (C := RX4) (T := TX4) (N := 14) hPH hK heH_0 rfl, (hW.pre [.ref (ad_113 0), .int x13_403] hPH hK hN.1).2⟩ rfl rfl hl.1 rfl (lv_room (Nat.le_of_ble_eq_true rfl)) dL_law_467 ⟨by show cu242 + 1 + 1 + 0 ≤ 600086; omega, by show su242 + 12 + 12 + 0 ≤ 7301441; omega⟩) hS (fun q _ h => hA q (Nat.le_trans hS.1 h)) (fun q h => hA q (Nat.le_trans hS.1 h)) (fun r9 u t H1 locs ht hvm hw hB hz1 hk1 hS9 => ?_)
                                                                  subst hw
                                                                  have hP := va_Pnew hP hk1
                                                                  have hS := hS9
                                                                  clear hB hz1 hk1 hvm ht hS9
                                                                  generalize H1 = H at hP hS ⊢
                                                                  refine lv_ldc2d (v := 4632233691727265792) hx hb hown (hts (.constantDouble RL 93 (4632233691727265792)) (List.mem_append_left _ (List.mem_append_left _ (List.mem_append_left _ (List.mem_append_left _ (List.mem_append_left _ (List.mem_append_left _ (List.mem_append_left _ (List.mem_append_left _ (List.mem_append_left _ (List.mem_append_left _ (List.mem_append_left _ (List.mem_of_getElem? (i := 9) rfl))))))))))))) dL_law_470 ?_
                                                                  refine lv_dcmp hx hb dL_law_473 ?_
                                                                  have J482 : ∀ (z0_482 : Int32), f_L_law_J482 (f_L_law_L403 (f_L_law_L242 (f_L_law_L2 LS xs n2) LS xs x1_2 a_138 b_138 c_138 d_138 n242) LS xs a_138 b_138 c_138 d_138 x6_242 r_88 K_L275 r_106 M_L341 I_123 D_124 n403) c_138 r_88 M_L341 I_123 D_124 x13_403 x12_403 r_144 z0_454 r_148 z0_482 = some 1 → ∀ (H : Heap) (locs : List Loc) (ls : Array Slot), va_P (dC, dI) vwCl (iwT (tL a_138 b_138 c_138 ++ [35] ++ [36]) ad_113 cy bS a_138 b_138 c_138 d_138 0 I_123 D_124 K_L275 M_L341) H → va_S A s.heap H locs → lv_has ls 15 [(12, .int (x12_403 + z0_454)), (14, .int r_144), (13, .int x13_403), (11, .ref (ad_113 36)), (10, .int r_106), (9, .ref (ad_113 35)), (8, .int r_88), (7, .int r_84), (6, .int x6_242), (4, .long r_68), (3, .ref (ad_113 0)), (2, .ref (ad_113 40)), (1, .int x1_2), (0, .ref bS)] → W p l e room_1 s m #[Value.ref bS] below meth cX H locs (cu242 + 1 + 1) (su242 + 12 + 12) (lw_Z below #[Value.ref bS] s) (F0 m 482 ls [.int z0_482, .int r_148]) := by
                                                                    intro z0_482 hf H locs ls hP hS hl
                                                                    unfold f_L_law_J482 at hf
                                                                    refine lv_icmp_eq (tgt := 487) hx hb dL_law_482 (by decide) (fun c_152 => ?_) (fun c_152 => ?_)
                                                                    · have hf := it_t hf c_152
                                                                      refine lv_iload hx hb dL_law_487 (lv_at hl 6 rfl) ?_
                                                                      refine lv_if_ne (tgt := 522) hx hb dL_law_489 (by decide) (fun c_153 => ?_) (fun c_153 => ?_)
                                                                      · have hf := it_f hf c_153
                                                                        refine lv_iinc (v := (x13_403 + 1)) (lv' := [(13, .int (x13_403 + 1)), (12, .int (x12_403 + z0_454)), (14, .int r_144), (11, .ref (ad_113 36)), (10, .int r_106), (9, .ref (ad_113 35)), (8, .int r_88), (7, .int r_84), (6, .int x6_242), (4, .long r_68), (3, .ref (ad_113 0)), (2, .ref (ad_113 40)), (1, .int x1_2), (0, .ref bS)]) hx hb dL_law_522 hl (k := 2) rfl rfl (by decide) rfl (fun ls hl => ?_)
                                                                        refine lv_goto (tgt := 403) hx hb dL_law_525 (by decide) ?_
                                                                        exact ih403 (x13_403 + 1) (x12_403 + z0_454) hf _ _ _ hP hS (lv_sub hl [0, 1, 3, 4, 5, 6, 7, 8, 9, 10, 11, 12, 13] rfl)
                                                                      · have hf := it_t hf c_153
                                                                        refine lv_aload hx hb dL_law_492 (lv_at hl 3 rfl) ?_
                                                                        refine lv_iload hx hb dL_law_494 (lv_at hl 2 rfl) ?_
                                                                        obtain ⟨q_154, wq_154, heq_154⟩ := heT_36 (L := (tL a_138 b_138 c_138 ++ [35] ++ [36])) (ad := ad_113) (cy := cy) (bS := bS) (a := a_138) (b := b_138) (c := c_138) (d := d_138) (r := 0) (I := I_123) (D := D_124) (K := K_L275) (M := M_L341) (List.mem_append_right _ (by decide))
                                                                        obtain ⟨h_155, hf⟩ := ck_out hf
                                                                        refine va_dald (n := c_138) (f := M_L341 36) hx hb hK hP q_154 6 heq_154 rfl (inB_in h_155) dL_law_496 ?_
                                                                        refine lv_iload hx hb dL_law_497 (lv_at hl 1 rfl) ?_
                                                                        refine lv_bipush (v := 9) hx hb dL_law_499 (by decide) ?_
                                                                        have J516 : ∀ (z0_516 : UInt64), f_L_law_J516 (f_L_law_L403 (f_L_law_L242 (f_L_law_L2 LS xs n2) LS xs x1_2 a_138 b_138 c_138 d_138 n242) LS xs a_138 b_138 c_138 d_138 x6_242 r_88 K_L275 r_106 M_L341 I_123 D_124 n403) M_L341 x13_403 x12_403 z0_454 z0_516 = some 1 → ∀ (H : Heap) (locs : List Loc) (ls : Array Slot), va_P (dC, dI) vwCl (iwT (tL a_138 b_138 c_138 ++ [35] ++ [36]) ad_113 cy bS a_138 b_138 c_138 d_138 0 I_123 D_124 K_L275 M_L341) H → va_S A s.heap H locs → lv_has ls 15 [(12, .int (x12_403 + z0_454)), (14, .int r_144), (13, .int x13_403), (11, .ref (ad_113 36)), (10, .int r_106), (9, .ref (ad_113 35)), (8, .int r_88), (7, .int r_84), (6, .int x6_242), (4, .long r_68), (3, .ref (ad_113 0)), (2, .ref (ad_113 40)), (1, .int x1_2), (0, .ref bS)] → W p l e room_1 s m #[Value.ref bS] below meth cX H locs (cu242 + 1 + 1) (su242 + 12 + 12) (lw_Z below #[Value.ref bS] s) (F0 m 516 ls [.double z0_516, .double (M_L341 36 (x13_403).toNatClampNeg)]) := by
                                                                          intro z0_516 hf H locs ls hP hS hl
                                                                          unfold f_L_law_J516 at hf
                                                                          refine lv_dcmp hx hb dL_law_516 ?_
                                                                          refine lv_if_eq (tgt := 522) hx hb dL_law_517 (by decide) (fun c_156 => ?_) (fun c_156 => ?_)
                                                                          · have hf := it_t hf c_156
                                                                            refine lv_iinc (v := (x13_403 + 1)) (lv' := [(13, .int (x13_403 + 1)), (12, .int (x12_403 + z0_454)), (14, .int r_144), (11, .ref (ad_113 36)), (10, .int r_106), (9, .ref (ad_113 35)), (8, .int r_88), (7, .int r_84), (6, .int x6_242), (4, .long r_68), (3, .ref (ad_113 0)), (2, .ref (ad_113 40)), (1, .int x1_2), (0, .ref bS)]) hx hb dL_law_522 hl (k := 2) rfl rfl (by decide) rfl (fun ls hl => ?_)
                                                                            refine lv_goto (tgt := 403) hx hb dL_law_525 (by decide) ?_
                                                                            exact ih403 (x13_403 + 1) (x12_403 + z0_454) hf _ _ _ hP hS (lv_sub hl [0, 1, 3, 4, 5, 6, 7, 8, 9, 10, 11, 12, 13] rfl)
                                                                          · have hf := it_f hf c_156
                                                                            refine lv_iconst (v := 0) hx hb dL_law_520 (by decide) ?_
                                                                            exact absurd (Option.some.inj hf) (by decide)
                                                                        refine lv_icmp_le (tgt := 510) hx hb dL_law_501 (by decide) (fun c_157 => ?_) (fun c_157 => ?_)
                                                                        · have hf := it_t hf c_157
                                                                          refine lv_aload_n hx hb dL_law_510 rfl (lv_at hl 10 rfl) ?_
                                                                          refine lv_iload hx hb dL_law_511 (lv_at hl 2 rfl) ?_
                                                                          obtain ⟨r_158, g_159, hf⟩ := bd_out hf
                                                                          have hPH := iwT_H hM_114 hP
                                                                          refine va_calld (va_runV (As := [.int x13_403]) (rest := [.double (M_L341 36 (x13_403).toNatClampNeg)]) ⟨hx, hb, hml, hown, hts⟩ (mt_X4_crystal l dC dI ad_113 cy hM_114.J H.size I_123 D_124 x13_403 r_158 (eO_out g_159)) (cwV 1 hts gL_law_X4_crystal rfl rfl rfl (by decide +kernel) ⟨(Nat.le_of_ble_eq_true rfl), (Nat.le_of_ble_eq_true rfl)⟩) ⟨(hW.pre [.ref (ad_113 0), .int x13_403] hPH hK hN.1).1, hW.recv (C := RX4) (T := TX4) (N := 14) hPH hK heH_0 rfl, (hW.pre [.ref (ad_113 0), .int x13_403] hPH hK hN.1).2⟩ rfl rfl hl.1 rfl (lv_room (Nat.le_of_ble_eq_true rfl)) dL_law_513 ⟨by show cu242 + 1 + 1 + 0 ≤ 600086; omega, by show su242 + 12 + 12 + 0 ≤ 7301441; omega⟩) hS (fun q _ h => hA q (Nat.le_trans hS.1 h)) (fun q h => hA q (Nat.le_trans hS.1 h)) (fun r9 u t H1 locs ht hvm hw hB hz1 hk1 hS9 => ?_)
                                                                          subst hw
                                                                          have hP := va_Pnew hP hk1
                                                                          have hS := hS9
                                                                          clear hB hz1 hk1 hvm ht hS9
                                                                          generalize H1 = H at hP hS ⊢
                                                                          exact J516 r_158 hf _ _ _ hP hS (lv_sub hl [0, 1, 2, 3, 4, 5, 6, 7, 8, 9, 10, 11, 12, 13] rfl)
                                                                        · have hf := it_f hf c_157
                                                                          refine lv_ldc2d (v := 13830554455654793216) hx hb hown (hts (.constantDouble RL 95 (13830554455654793216)) (List.mem_append_left _ (List.mem_append_left _ (List.mem_append_left _ (List.mem_append_left _ (List.mem_append_left _ (List.mem_append_left _ (List.mem_append_left _ (List.mem_append_left _ (List.mem_append_left _ (List.mem_append_left _ (List.mem_append_left _ (List.mem_of_getElem? (i := 10) rfl))))))))))))) dL_law_504 ?_
                                                                          refine lv_goto (tgt := 516) hx hb dL_law_507 (by decide) ?_
                                                                          exact J516 (13830554455654793216 : UInt64) hf _ _ _ hP hS (lv_sub hl [0, 1, 2, 3, 4, 5, 6, 7, 8, 9, 10, 11, 12, 13] rfl)
                                                                    · have hf := it_f hf c_152
                                                                      refine lv_iconst (v := 0) hx hb dL_law_485 (by decide) ?_
                                                                      exact absurd (Option.some.inj hf) (by decide)
                                                                  refine lv_if_le (tgt := 481) hx hb dL_law_474 (by decide) (fun c_160 => ?_) (fun c_160 => ?_)
                                                                  · have hf := it_t hf c_160
                                                                    refine lv_iconst (v := 0) hx hb dL_law_481 (by decide) ?_
                                                                    exact J482 0 hf _ _ _ hP hS (lv_sub hl [0, 1, 2, 3, 4, 5, 6, 7, 8, 9, 10, 11, 12, 13] rfl)
                                                                  · have hf := it_f hf c_160
                                                                    refine lv_iconst (v := 1) hx hb dL_law_477 (by decide) ?_
                                                                    refine lv_goto (tgt := 482) hx hb dL_law_478 (by decide) ?_
                                                                    exact J482 1 hf _ _ _ hP hS (lv_sub hl [0, 1, 2, 3, 4, 5, 6, 7, 8, 9, 10, 11, 12, 13] rfl)
                                                                refine lv_icmp_ne (tgt := 453) hx hb dL_law_428 (by decide) (fun c_161 => ?_) (fun c_161 => ?_)
                                                                · have hf := it_f hf c_161
                                                                  refine lv_iconst (v := 0) hx hb dL_law_453 (by decide) ?_
                                                                  exact J454 0 hf _ _ _ hP hS (lv_sub hl [0, 1, 2, 3, 4, 5, 6, 7, 8, 9, 10, 11, 12, 13] rfl)
                                                                · have hf := it_t hf c_161
                                                                  refine lv_iload hx hb dL_law_431 (lv_at hl 0 rfl) ?_
                                                                  refine lv_bipush (v := 11) hx hb dL_law_433 (by decide) ?_
                                                                  refine lv_icmp_eq (tgt := 449) hx hb dL_law_435 (by decide) (fun c_162 => ?_) (fun c_162 => ?_)
                                                                  · have hf := it_t hf c_162
                                                                    refine lv_iconst (v := 1) hx hb dL_law_449 (by decide) ?_
                                                                    refine lv_goto (tgt := 454) hx hb dL_law_450 (by decide) ?_
                                                                    exact J454 1 hf _ _ _ hP hS (lv_sub hl [0, 1, 2, 3, 4, 5, 6, 7, 8, 9, 10, 11, 12, 13] rfl)
                                                                  · have hf := it_f hf c_162
                                                                    refine lv_aload_n hx hb dL_law_438 rfl (lv_at hl 10 rfl) ?_
                                                                    refine lv_iload hx hb dL_law_439 (lv_at hl 1 rfl) ?_
                                                                    refine lv_iconst (v := 4) hx hb dL_law_441 (by decide) ?_
                                                                    obtain ⟨r_163, g_164, hf⟩ := bd_out hf
                                                                    have hPH := iwT_H hM_114 hP
                                                                    refine va_calli (va_runV (As := [.int x13_403, .int 4]) (rest := [.int x12_403]) ⟨hx, hb, hml, hown, hts⟩ (mt_X4_ofBatch l dC dI ad_113 cy hM_114.J H.size I_123 D_124 x13_403 4 r_163 (eO_out g_164)) (cwV 2 hts gL_law_X4_ofBatch rfl rfl rfl (by decide +kernel) ⟨(Nat.le_of_ble_eq_true rfl), (Nat.le_of_ble_eq_true rfl)⟩) ⟨(hW.pre [.ref (ad_113 0), .int x13_403, .int 4] hPH hK hN.1).1, hW.recv (C := RX4) (T := TX4) (N := 14) hPH hK heH_0 rfl, (hW.pre [.ref (ad_113 0), .int x13_403, .int 4] hPH hK hN.1).2⟩ rfl rfl hl.1 rfl (lv_room (Nat.le_of_ble_eq_true rfl)) dL_law_442 ⟨by show cu242 + 1 + 1 + 0 ≤ 600086; omega, by show su242 + 12 + 12 + 0 ≤ 7301441; omega⟩) hS (fun q _ h => hA q (Nat.le_trans hS.1 h)) (fun q h => hA q (Nat.le_trans hS.1 h)) (fun r9 u t H1 locs ht hvm hw hB hz1 hk1 hS9 => ?_)
                                                                    subst hw
                                                                    have hP := va_Pnew hP hk1
                                                                    have hS := hS9
                                                                    clear hB hz1 hk1 hvm ht hS9
                                                                    generalize H1 = H at hP hS ⊢
                                                                    refine lv_iconst (v := 1) hx hb dL_law_445 (by decide) ?_
                                                                    refine lv_icmp_ne (tgt := 453) hx hb dL_law_446 (by decide) (fun c_165 => ?_) (fun c_165 => ?_)
                                                                    · have hf := it_f hf c_165
                                                                      refine lv_iconst (v := 0) hx hb dL_law_453 (by decide) ?_
                                                                      exact J454 0 hf _ _ _ hP hS (lv_sub hl [0, 1, 2, 3, 4, 5, 6, 7, 8, 9, 10, 11, 12, 13] rfl)
                                                                    · have hf := it_t hf c_165
                                                                      refine lv_iconst (v := 1) hx hb dL_law_449 (by decide) ?_
                                                                      refine lv_goto (tgt := 454) hx hb dL_law_450 (by decide) ?_
                                                                      exact J454 1 hf _ _ _ hP hS (lv_sub hl [0, 1, 2, 3, 4, 5, 6, 7, 8, 9, 10, 11, 12, 13] rfl)
                                                          exact L403 14 0 0 hf _ _ _ hP hS (lv_sub hl [0, 1, 2, 3, 4, 5, 6, 7, 8, 9, 10, 11, 12] rfl)
                                                        refine lv_if_le (tgt := 390) hx hb dL_law_370 (by decide) (fun c_166 => ?_) (fun c_166 => ?_)
                                                        · have hf := it_t hf c_166
                                                          exact J390 I_L242 D_L242 hf _ _ _ hP hS (lv_sub hl [0, 1, 2, 3, 4, 5, 6, 7, 8, 9, 10, 11] rfl)
                                                        · have hf := it_f hf c_166
                                                          refine lv_aload_n hx hb dL_law_373 rfl (lv_at hl 8 rfl) ?_
                                                          refine lv_iload hx hb dL_law_374 (lv_at hl 5 rfl) ?_
                                                          refine lv_iload hx hb dL_law_376 (lv_at hl 4 rfl) ?_
                                                          obtain ⟨⟨r_167, I_169, D_170⟩, g_168, hf⟩ := bd_out hf
                                                          have hPH := iwT_H hM_114 hP
                                                          have hAW : ∀ q, AW ad_113 H.size q → A q := fun q h => h.elim (fun ⟨k, k1, k2⟩ => k2 ▸ hAL_115 k (hM_114.1.2.1 _ (tL_H k1))) (fun h => hA q (Nat.le_trans hS.1 h))
                                                          refine va_calld (va_runV (As := [.int r_84, .int r_88]) (rest := []) ⟨hx, hb, hml, hown, hts⟩ (mt_X4_door l dC dI ad_113 cy hM_114.J H.size I_L242 D_L242 r_84 r_88 r_167 I_169 D_170 (eO_out g_168)) (cwV 2 hts gL_law_X4_door rfl rfl rfl (by decide +kernel) ⟨(Nat.le_of_ble_eq_true rfl), (Nat.le_of_ble_eq_true rfl)⟩) ⟨(hW.pre [.ref (ad_113 0), .int r_84, .int r_88] hPH hK hN.1).1, hW.recv (C := RX4) (T := TX4) (N := 14) hPH hK heH_0 rfl, (hW.pre [.ref (ad_113 0), .int r_84, .int r_88] hPH hK hN.1).2⟩ rfl rfl hl.1 rfl (lv_room (Nat.le_of_ble_eq_true rfl)) dL_law_378 ⟨by show cu242 + 1 + 1 + 0 ≤ 600086; omega, by show su242 + 12 + 12 + 0 ≤ 7301441; omega⟩) hS (fun q _ h => hAW q h) (fun q h => hAW q h) (fun r9 u t H1 locs ht hvm hw hB hz1 hk1 hS9 => ?_)
                                                          subst hw
                                                          have hP : va_P (dC, dI) vwCl (iwT (tL a_138 b_138 c_138 ++ [35] ++ [36]) ad_113 cy bS a_138 b_138 c_138 d_138 0 I_169 D_170 K_L275 M_L341) H1 := iwT_join hM_114 hP (by rw [← ht]; exact hB.1) hk1
                                                          have hS := hS9
                                                          clear hB hz1 hk1 hvm ht hS9
                                                          generalize H1 = H at hP hS ⊢
                                                          refine lv_ldc2d (v := 4620693217682128896) hx hb hown (hts (.constantDouble RL 85 (4620693217682128896)) (List.mem_append_left _ (List.mem_append_left _ (List.mem_append_left _ (List.mem_append_left _ (List.mem_append_left _ (List.mem_append_left _ (List.mem_append_left _ (List.mem_append_left _ (List.mem_append_left _ (List.mem_append_left _ (List.mem_append_left _ (List.mem_of_getElem? (i := 8) rfl))))))))))))) dL_law_381 ?_
                                                          refine lv_dcmp hx hb dL_law_384 ?_
                                                          refine lv_if_le (tgt := 390) hx hb dL_law_385 (by decide) (fun c_171 => ?_) (fun c_171 => ?_)
                                                          · have hf := it_t hf c_171
                                                            exact J390 I_169 D_170 hf _ _ _ hP hS (lv_sub hl [0, 1, 2, 3, 4, 5, 6, 7, 8, 9, 10, 11] rfl)
                                                          · have hf := it_f hf c_171
                                                            refine lv_iconst (v := 0) hx hb dL_law_388 (by decide) ?_
                                                            exact absurd (Option.some.inj hf) (by decide)
                                                      · have hf := it_f hf c_120
                                                        refine lv_aload hx hb dL_law_349 (lv_at hl 1 rfl) ?_
                                                        refine lv_iload hx hb dL_law_351 (lv_at hl 0 rfl) ?_
                                                        refine lv_aload_n hx hb dL_law_353 rfl (lv_at hl 8 rfl) ?_
                                                        refine lv_iload hx hb dL_law_354 (lv_at hl 0 rfl) ?_
                                                        refine lv_bipush (v := 24) hx hb dL_law_356 (by decide) ?_
                                                        obtain ⟨r_172, g_173, hf⟩ := bd_out hf
                                                        have hPH := iwT_H hM_114 hP
                                                        refine va_calld (va_runV (As := [.int x12_341, .int 24]) (rest := [.int x12_341, .ref (ad_113 36)]) ⟨hx, hb, hml, hown, hts⟩ (mt_X4_wouldBe l dC dI ad_113 cy hM_114.J H.size I_L242 D_L242 x12_341 24 r_172 (eO_out g_173)) (cwV 2 hts gL_law_X4_wouldBe rfl rfl rfl (by decide +kernel) ⟨(Nat.le_of_ble_eq_true rfl), (Nat.le_of_ble_eq_true rfl)⟩) ⟨(hW.pre [.ref (ad_113 0), .int x12_341, .int 24] hPH hK hN.1).1, hW.recv (C := RX4) (T := TX4) (N := 14) hPH hK heH_0 rfl, (hW.pre [.ref (ad_113 0), .int x12_341, .int 24] hPH hK hN.1).2⟩ rfl rfl hl.1 rfl (lv_room (Nat.le_of_ble_eq_true rfl)) dL_law_358 ⟨by show cu242 + 1 + 1 + 0 ≤ 600086; omega, by show su242 + 12 + 12 + 0 ≤ 7301441; omega⟩) hS (fun q _ h => hA q (Nat.le_trans hS.1 h)) (fun q h => hA q (Nat.le_trans hS.1 h)) (fun r9 u t H1 locs ht hvm hw hB hz1 hk1 hS9 => ?_)
                                                        subst hw
                                                        have hP := va_Pnew hP hk1
                                                        have hS := hS9
                                                        clear hB hz1 hk1 hvm ht hS9
                                                        generalize H1 = H at hP hS ⊢
                                                        obtain ⟨q_174, wq_174, heq_174⟩ := heT_36 (L := (tL a_138 b_138 c_138 ++ [35] ++ [36])) (ad := ad_113) (cy := cy) (bS := bS) (a := a_138) (b := b_138) (c := c_138) (d := d_138) (r := 0) (I := I_L242) (D := D_L242) (K := K_L275) (M := M_L341) (List.mem_append_right _ (by decide))
                                                        obtain ⟨h_175, hf⟩ := ck_out hf
                                                        obtain ⟨M_176, eM_176, hf⟩ := nm_out hf
                                                        refine va_dast (n := c_138) (f := M_L341 36) hx hb hK hP (hDD_116 0 I_L242 D_L242 K_L275 M_L341) hS q_174 6 heq_174 rfl (inB_in h_175) dL_law_361 (fun H locs hP _ hS => ?_)
                                                        have hP : va_P (dC, dI) vwCl (iwT (tL a_138 b_138 c_138 ++ [35] ++ [36]) ad_113 cy bS a_138 b_138 c_138 d_138 0 I_L242 D_L242 K_L275 M_176) H := by rw [eM_176]; exact hqM hM_114 wq_174 (by decide) ((cellT_36 ad_113 cy bS a_138 b_138 c_138 d_138 0 _ _).trans rfl) hP
                                                        refine lv_iinc (v := (x12_341 + 1)) (lv' := [(12, .int (x12_341 + 1)), (11, .ref (ad_113 36)), (10, .int r_106), (9, .ref (ad_113 35)), (8, .int r_88), (7, .int r_84), (6, .int x6_242), (4, .long r_68), (3, .ref (ad_113 0)), (2, .ref (ad_113 40)), (1, .int x1_2), (0, .ref bS)]) hx hb dL_law_362 hl (k := 0) rfl rfl (by decide) rfl (fun ls hl => ?_)
                                                        refine lv_goto (tgt := 341) hx hb dL_law_365 (by decide) ?_
                                                        exact ih341 (x12_341 + 1) M_176 hf _ _ _ hP hS (lv_sub hl [0, 1, 2, 3, 4, 5, 6, 7, 8, 9, 10, 11] rfl)
                                                  exact L341 14 0 M_117 hf _ _ _ hP hS (lv_sub hl [0, 1, 2, 3, 4, 5, 6, 7, 8, 9, 10, 11] rfl)
                                                · have hf := it_f hf c_105
                                                  refine lv_aload hx hb dL_law_283 (lv_at hl 1 rfl) ?_
                                                  refine lv_iload hx hb dL_law_285 (lv_at hl 0 rfl) ?_
                                                  refine lv_aload_n hx hb dL_law_287 rfl (lv_at hl 6 rfl) ?_
                                                  refine lv_iload hx hb dL_law_288 (lv_at hl 0 rfl) ?_
                                                  refine lv_iconst (v := 3) hx hb dL_law_290 (by decide) ?_
                                                  obtain ⟨r_177, g_178, hf⟩ := bd_out hf
                                                  have hPH := iwT_H hM_99 hP
                                                  refine va_calli (va_runV (As := [.int x10_275, .int 3]) (rest := [.int x10_275, .ref (ad_98 35)]) ⟨hx, hb, hml, hown, hts⟩ (mt_X4_ofBatch l dC dI ad_98 cy hM_99.J H.size I_L242 D_L242 x10_275 3 r_177 (eO_out g_178)) (cwV 2 hts gL_law_X4_ofBatch rfl rfl rfl (by decide +kernel) ⟨(Nat.le_of_ble_eq_true rfl), (Nat.le_of_ble_eq_true rfl)⟩) ⟨(hW.pre [.ref (ad_98 0), .int x10_275, .int 3] hPH hK hN.1).1, hW.recv (C := RX4) (T := TX4) (N := 14) hPH hK heH_0 rfl, (hW.pre [.ref (ad_98 0), .int x10_275, .int 3] hPH hK hN.1).2⟩ rfl rfl hl.1 rfl (lv_room (Nat.le_of_ble_eq_true rfl)) dL_law_291 ⟨by show cu242 + 1 + 0 ≤ 600086; omega, by show su242 + 12 + 0 ≤ 7301441; omega⟩) hS (fun q _ h => hA q (Nat.le_trans hS.1 h)) (fun q h => hA q (Nat.le_trans hS.1 h)) (fun r9 u t H1 locs ht hvm hw hB hz1 hk1 hS9 => ?_)
                                                  subst hw
                                                  have hP := va_Pnew hP hk1
                                                  have hS := hS9
                                                  clear hB hz1 hk1 hvm ht hS9
                                                  generalize H1 = H at hP hS ⊢
                                                  refine lv_iload hx hb dL_law_294 (lv_at hl 3 rfl) ?_
                                                  have J314 : ∀ (z0_314 : Int32), f_L_law_J314 (f_L_law_L275 (f_L_law_L242 (f_L_law_L2 LS xs n2) LS xs x1_2 a_138 b_138 c_138 d_138 n242) LS xs a_138 b_138 c_138 d_138 x6_242 I_L242 D_L242 M_L242 r_84 r_88 n275) c_138 x10_275 K_L275 z0_314 = some 1 → ∀ (H : Heap) (locs : List Loc) (ls : Array Slot), va_P (dC, dI) vwCl (iwT (tL a_138 b_138 c_138 ++ [35]) ad_98 cy bS a_138 b_138 c_138 d_138 0 I_L242 D_L242 K_L275 M_L242) H → va_S A s.heap H locs → lv_has ls 15 [(10, .int x10_275), (9, .ref (ad_98 35)), (8, .int r_88), (7, .int r_84), (6, .int x6_242), (4, .long r_68), (3, .ref (ad_98 0)), (2, .ref (ad_98 40)), (1, .int x1_2), (0, .ref bS)] → W p l e room_1 s m #[Value.ref bS] below meth cX H locs (cu242 + 1) (su242 + 12) (lw_Z below #[Value.ref bS] s) (F0 m 314 ls [.int z0_314, .int x10_275, .ref (ad_98 35)]) := by
                                                    intro z0_314 hf H locs ls hP hS hl
                                                    unfold f_L_law_J314 at hf
                                                    obtain ⟨q_179, wq_179, heq_179⟩ := heT_35 (L := (tL a_138 b_138 c_138 ++ [35])) (ad := ad_98) (cy := cy) (bS := bS) (a := a_138) (b := b_138) (c := c_138) (d := d_138) (r := 0) (I := I_L242) (D := D_L242) (K := K_L275) (M := M_L242) (List.mem_append_right _ (by decide))
                                                    obtain ⟨h_180, hf⟩ := ck_out hf
                                                    obtain ⟨K_181, eK_181, hf⟩ := nm_out hf
                                                    refine va_iast (n := c_138) (f := K_L275 35) hx hb hK hP (hDD_101 0 I_L242 D_L242 K_L275 M_L242) hS q_179 0 heq_179 rfl (inB_in h_180) dL_law_314 (fun H locs hP _ hS => ?_)
                                                    have hP : va_P (dC, dI) vwCl (iwT (tL a_138 b_138 c_138 ++ [35]) ad_98 cy bS a_138 b_138 c_138 d_138 0 I_L242 D_L242 K_181 M_L242) H := by rw [eK_181]; exact hqK hM_99 wq_179 (by decide) ((cellT_35 ad_98 cy bS a_138 b_138 c_138 d_138 0 _ _).trans rfl) hP
                                                    refine lv_iinc (v := (x10_275 + 1)) (lv' := [(10, .int (x10_275 + 1)), (9, .ref (ad_98 35)), (8, .int r_88), (7, .int r_84), (6, .int x6_242), (4, .long r_68), (3, .ref (ad_98 0)), (2, .ref (ad_98 40)), (1, .int x1_2), (0, .ref bS)]) hx hb dL_law_315 hl (k := 0) rfl rfl (by decide) rfl (fun ls hl => ?_)
                                                    refine lv_goto (tgt := 275) hx hb dL_law_318 (by decide) ?_
                                                    exact ih275 (x10_275 + 1) K_181 hf _ _ _ hP hS (lv_sub hl [0, 1, 2, 3, 4, 5, 6, 7, 8, 9] rfl)
                                                  refine lv_icmp_ne (tgt := 313) hx hb dL_law_296 (by decide) (fun c_182 => ?_) (fun c_182 => ?_)
                                                  · have hf := it_f hf c_182
                                                    refine lv_iconst (v := 0) hx hb dL_law_313 (by decide) ?_
                                                    exact J314 0 hf _ _ _ hP hS (lv_sub hl [0, 1, 2, 3, 4, 5, 6, 7, 8, 9] rfl)
                                                  · have hf := it_t hf c_182
                                                    refine lv_aload_n hx hb dL_law_299 rfl (lv_at hl 6 rfl) ?_
                                                    refine lv_iload hx hb dL_law_300 (lv_at hl 0 rfl) ?_
                                                    refine lv_iconst (v := 4) hx hb dL_law_302 (by decide) ?_
                                                    obtain ⟨r_183, g_184, hf⟩ := bd_out hf
                                                    have hPH := iwT_H hM_99 hP
                                                    refine va_calli (va_runV (As := [.int x10_275, .int 4]) (rest := [.int x10_275, .ref (ad_98 35)]) ⟨hx, hb, hml, hown, hts⟩ (mt_X4_ofBatch l dC dI ad_98 cy hM_99.J H.size I_L242 D_L242 x10_275 4 r_183 (eO_out g_184)) (cwV 2 hts gL_law_X4_ofBatch rfl rfl rfl (by decide +kernel) ⟨(Nat.le_of_ble_eq_true rfl), (Nat.le_of_ble_eq_true rfl)⟩) ⟨(hW.pre [.ref (ad_98 0), .int x10_275, .int 4] hPH hK hN.1).1, hW.recv (C := RX4) (T := TX4) (N := 14) hPH hK heH_0 rfl, (hW.pre [.ref (ad_98 0), .int x10_275, .int 4] hPH hK hN.1).2⟩ rfl rfl hl.1 rfl (lv_room (Nat.le_of_ble_eq_true rfl)) dL_law_303 ⟨by show cu242 + 1 + 0 ≤ 600086; omega, by show su242 + 12 + 0 ≤ 7301441; omega⟩) hS (fun q _ h => hA q (Nat.le_trans hS.1 h)) (fun q h => hA q (Nat.le_trans hS.1 h)) (fun r9 u t H1 locs ht hvm hw hB hz1 hk1 hS9 => ?_)
                                                    subst hw
                                                    have hP := va_Pnew hP hk1
                                                    have hS := hS9
                                                    clear hB hz1 hk1 hvm ht hS9
                                                    generalize H1 = H at hP hS ⊢
                                                    refine lv_if_ne (tgt := 313) hx hb dL_law_306 (by decide) (fun c_185 => ?_) (fun c_185 => ?_)
                                                    · have hf := it_f hf c_185
                                                      refine lv_iconst (v := 0) hx hb dL_law_313 (by decide) ?_
                                                      exact J314 0 hf _ _ _ hP hS (lv_sub hl [0, 1, 2, 3, 4, 5, 6, 7, 8, 9] rfl)
                                                    · have hf := it_t hf c_185
                                                      refine lv_iconst (v := 1) hx hb dL_law_309 (by decide) ?_
                                                      refine lv_goto (tgt := 314) hx hb dL_law_310 (by decide) ?_
                                                      exact J314 1 hf _ _ _ hP hS (lv_sub hl [0, 1, 2, 3, 4, 5, 6, 7, 8, 9] rfl)
                                            exact L275 14 0 K_102 hf _ _ _ hP hS (lv_sub hl [0, 1, 2, 3, 4, 5, 6, 7, 8, 9] rfl)
                                      exact L242 5 0 I_80 D_81 K_76 M_L170 hf _ _ _ hP hS (lv_sub hl [0, 1, 2, 3, 4, 5] rfl) _ _ (by omega) (by omega)
                                    · have hf := it_f hf c_82
                                      refine lv_iconst (v := 0) hx hb dL_law_237 (by decide) ?_
                                      exact absurd (Option.some.inj hf) (by decide)
                                · have hf := it_f hf c_67
                                  refine lv_aload_n hx hb dL_law_180 rfl (lv_at hl 2 rfl) ?_
                                  refine lv_iload hx hb dL_law_181 (lv_at hl 0 rfl) ?_
                                  obtain ⟨⟨r_186, I_188, D_189, K_190, M_191⟩, g_187, hf⟩ := bd_out hf
                                  have hAW : ∀ q, AT (tL a_138 b_138 c_138) ad_138 H.size q → A q := fun q h => h.elim (fun ⟨k, k1, k2⟩ => k2 ▸ hAL_138 k k1) (fun h => hA q (Nat.le_trans hS.1 h))
                                  obtain ⟨q_192, wq_192, heq_192⟩ := heT_40 (L := (tL a_138 b_138 c_138)) (ad := ad_138) (cy := cy) (bS := bS) (a := a_138) (b := b_138) (c := c_138) (d := d_138) (r := 0) (I := I_L170) (D := D_L170) (K := K_L170) (M := M_L170) hM_138
                                  refine va_calli (va_runV (As := [.int x4_170]) (rest := []) ⟨hx, hb, hml, hown, hts⟩ (mt_T_harden l dC dI (tL a_138 b_138 c_138) a_138 b_138 c_138 d_138 bS ad_138 cy hM_138 0 LS xs H.size I_L170 D_L170 K_L170 M_L170 x4_170 r_186 I_188 D_189 K_190 M_191 g_187) (cwV 1 hts gL_law_X5_harden rfl rfl rfl (by decide +kernel) ⟨(Nat.le_of_ble_eq_true rfl), (Nat.le_of_ble_eq_true rfl)⟩) ⟨(tW.pre [.ref (ad_138 40), .int x4_170] hP hK hN (hX0.kept (hS.2.1 bS hbl hbA))).1, tW.recv (C := RX5) (T := TX5) (N := 11) hP hK heq_192 rfl, (tW.pre [.ref (ad_138 40), .int x4_170] hP hK hN (hX0.kept (hS.2.1 bS hbl hbA))).2⟩ rfl rfl hl.1 rfl (lv_room (Nat.le_of_ble_eq_true rfl)) dL_law_183 ⟨by show cu2 + 1 + 41 + 20 + 2 + 18 + 0 ≤ 600086; omega, by show su2 + 11 + 411 + 240 + 26 + 180 + 0 ≤ 7301441; omega⟩) hS (fun q _ h => hAW q h) (fun q h => hAW q h) (fun r9 u t H1 locs ht hvm hw hB hz1 hk1 hS9 => ?_)
                                  subst hw
                                  have hP : va_P (dC, dI) vwCl (iwT (tL a_138 b_138 c_138) ad_138 cy bS a_138 b_138 c_138 d_138 0 I_188 D_189 K_190 M_191) H1 := by rw [← ht]; exact hB.1
                                  have hS := hS9
                                  clear hB hz1 hk1 hvm ht hS9
                                  generalize H1 = H at hP hS ⊢
                                  refine lv_if_eq (tgt := 206) hx hb dL_law_186 (by decide) (fun c_193 => ?_) (fun c_193 => ?_)
                                  · have hf := it_t hf c_193
                                    refine lv_iconst (v := 0) hx hb dL_law_206 (by decide) ?_
                                    exact absurd (Option.some.inj hf) (by decide)
                                  · have hf := it_f hf c_193
                                    refine lv_aload_n hx hb dL_law_189 rfl (lv_at hl 2 rfl) ?_
                                    refine lv_iconst (v := 4) hx hb dL_law_190 (by decide) ?_
                                    obtain ⟨⟨r_194, K_196⟩, g_195, hf⟩ := bd_out hf
                                    have hAW : ∀ q, AT (tL a_138 b_138 c_138) ad_138 H.size q → A q := fun q h => h.elim (fun ⟨k, k1, k2⟩ => k2 ▸ hAL_138 k k1) (fun h => hA q (Nat.le_trans hS.1 h))
                                    obtain ⟨q_197, wq_197, heq_197⟩ := heT_40 (L := (tL a_138 b_138 c_138)) (ad := ad_138) (cy := cy) (bS := bS) (a := a_138) (b := b_138) (c := c_138) (d := d_138) (r := 0) (I := I_188) (D := D_189) (K := K_190) (M := M_191) hM_138
                                    refine va_calli (va_runV (As := [.int 4]) (rest := []) ⟨hx, hb, hml, hown, hts⟩ (mt_T_draw l dC dI (tL a_138 b_138 c_138) a_138 b_138 c_138 d_138 bS ad_138 cy hM_138 0 LS xs H.size I_188 D_189 K_190 M_191 4 r_194 K_196 g_195) (cwV 1 hts gL_law_X5_draw rfl rfl rfl (by decide +kernel) ⟨(Nat.le_of_ble_eq_true rfl), (Nat.le_of_ble_eq_true rfl)⟩) ⟨(tW.pre [.ref (ad_138 40), .int 4] hP hK hN (hX0.kept (hS.2.1 bS hbl hbA))).1, tW.recv (C := RX5) (T := TX5) (N := 11) hP hK heq_197 rfl, (tW.pre [.ref (ad_138 40), .int 4] hP hK hN (hX0.kept (hS.2.1 bS hbl hbA))).2⟩ rfl rfl hl.1 rfl (lv_room (Nat.le_of_ble_eq_true rfl)) dL_law_191 ⟨by show cu2 + 1 + 41 + 20 + 2 + 18 + 0 ≤ 600086; omega, by show su2 + 11 + 411 + 240 + 26 + 180 + 0 ≤ 7301441; omega⟩) hS (fun q _ h => hAW q h) (fun q h => hAW q h) (fun r9 u t H1 locs ht hvm hw hB hz1 hk1 hS9 => ?_)
                                    subst hw
                                    have hP : va_P (dC, dI) vwCl (iwT (tL a_138 b_138 c_138) ad_138 cy bS a_138 b_138 c_138 d_138 0 I_188 D_189 K_196 M_191) H1 := by rw [← ht]; exact hB.1
                                    have hS := hS9
                                    clear hB hz1 hk1 hvm ht hS9
                                    generalize H1 = H at hP hS ⊢
                                    refine lv_if_le (tgt := 208) hx hb dL_law_194 (by decide) (fun c_198 => ?_) (fun c_198 => ?_)
                                    · have hf := it_t hf c_198
                                      refine lv_iinc (v := (x4_170 + 1)) (lv' := [(4, .int (x4_170 + 1)), (3, .ref (ad_138 0)), (2, .ref (ad_138 40)), (1, .int x1_2), (0, .ref bS)]) hx hb dL_law_208 hl (k := 0) rfl rfl (by decide) rfl (fun ls hl => ?_)
                                      refine lv_goto (tgt := 170) hx hb dL_law_211 (by decide) ?_
                                      exact ih170 (x4_170 + 1) I_188 D_189 K_196 M_191 hf _ _ _ hP hS (lv_sub hl [0, 1, 2, 3, 4] rfl)
                                    · have hf := it_f hf c_198
                                      refine lv_aload_n hx hb dL_law_197 rfl (lv_at hl 2 rfl) ?_
                                      refine lv_iload hx hb dL_law_198 (lv_at hl 0 rfl) ?_
                                      obtain ⟨⟨r_199, I_201, D_202, K_203⟩, g_200, hf⟩ := bd_out hf
                                      have hAW : ∀ q, AT (tL a_138 b_138 c_138) ad_138 H.size q → A q := fun q h => h.elim (fun ⟨k, k1, k2⟩ => k2 ▸ hAL_138 k k1) (fun h => hA q (Nat.le_trans hS.1 h))
                                      obtain ⟨q_204, wq_204, heq_204⟩ := heT_40 (L := (tL a_138 b_138 c_138)) (ad := ad_138) (cy := cy) (bS := bS) (a := a_138) (b := b_138) (c := c_138) (d := d_138) (r := 0) (I := I_188) (D := D_189) (K := K_196) (M := M_191) hM_138
                                      refine va_calli (va_runV (As := [.int x4_170]) (rest := []) ⟨hx, hb, hml, hown, hts⟩ (mt_T_lay l dC dI (tL a_138 b_138 c_138) a_138 b_138 c_138 d_138 bS ad_138 cy hM_138 0 LS xs H.size I_188 D_189 K_196 M_191 x4_170 r_199 I_201 D_202 K_203 g_200) (cwV 1 hts gL_law_X5_lay rfl rfl rfl (by decide +kernel) ⟨(Nat.le_of_ble_eq_true rfl), (Nat.le_of_ble_eq_true rfl)⟩) ⟨(tW.pre [.ref (ad_138 40), .int x4_170] hP hK hN (hX0.kept (hS.2.1 bS hbl hbA))).1, tW.recv (C := RX5) (T := TX5) (N := 11) hP hK heq_204 rfl, (tW.pre [.ref (ad_138 40), .int x4_170] hP hK hN (hX0.kept (hS.2.1 bS hbl hbA))).2⟩ rfl rfl hl.1 rfl (lv_room (Nat.le_of_ble_eq_true rfl)) dL_law_200 ⟨by show cu2 + 1 + 41 + 20 + 2 + 18 + 0 ≤ 600086; omega, by show su2 + 11 + 411 + 240 + 26 + 180 + 0 ≤ 7301441; omega⟩) hS (fun q _ h => hAW q h) (fun q h => hAW q h) (fun r9 u t H1 locs ht hvm hw hB hz1 hk1 hS9 => ?_)
                                      subst hw
                                      have hP : va_P (dC, dI) vwCl (iwT (tL a_138 b_138 c_138) ad_138 cy bS a_138 b_138 c_138 d_138 0 I_201 D_202 K_203 M_191) H1 := by rw [← ht]; exact hB.1
                                      have hS := hS9
                                      clear hB hz1 hk1 hvm ht hS9
                                      generalize H1 = H at hP hS ⊢
                                      refine lv_if_ne (tgt := 208) hx hb dL_law_203 (by decide) (fun c_205 => ?_) (fun c_205 => ?_)
                                      · have hf := it_f hf c_205
                                        refine lv_iinc (v := (x4_170 + 1)) (lv' := [(4, .int (x4_170 + 1)), (3, .ref (ad_138 0)), (2, .ref (ad_138 40)), (1, .int x1_2), (0, .ref bS)]) hx hb dL_law_208 hl (k := 0) rfl rfl (by decide) rfl (fun ls hl => ?_)
                                        refine lv_goto (tgt := 170) hx hb dL_law_211 (by decide) ?_
                                        exact ih170 (x4_170 + 1) I_201 D_202 K_203 M_191 hf _ _ _ hP hS (lv_sub hl [0, 1, 2, 3, 4] rfl)
                                      · have hf := it_t hf c_205
                                        refine lv_iconst (v := 0) hx hb dL_law_206 (by decide) ?_
                                        exact absurd (Option.some.inj hf) (by decide)
                            exact L170 14 0 I_L138 D_L138 K_L138 M_L138 hf _ _ _ hP hS (lv_sub hl [0, 1, 2, 3, 4] rfl)
                          · have hf := it_f hf c_64
                            refine lv_aload_n hx hb dL_law_145 rfl (lv_at hl 2 rfl) ?_
                            obtain ⟨⟨r_206, a_208, b_209, c_210, d_211, I_212, D_213, K_214, M_215⟩, g_207, hf⟩ := bd_out hf
                            have hAW : ∀ q, AT (tL a_138 b_138 c_138) ad_138 H.size q → A q := fun q h => h.elim (fun ⟨k, k1, k2⟩ => k2 ▸ hAL_138 k k1) (fun h => hA q (Nat.le_trans hS.1 h))
                            obtain ⟨q_216, wq_216, heq_216⟩ := heT_40 (L := (tL a_138 b_138 c_138)) (ad := ad_138) (cy := cy) (bS := bS) (a := a_138) (b := b_138) (c := c_138) (d := d_138) (r := 0) (I := I_L138) (D := D_L138) (K := K_L138) (M := M_L138) hM_138
                            refine va_calli (va_runV (As := []) (rest := []) ⟨hx, hb, hml, hown, hts⟩ (mt_T_run l dC dI a_138 b_138 c_138 d_138 bS ad_138 cy hM_138 0 LS xs H.size I_L138 D_L138 K_L138 M_L138  r_206 a_208 b_209 c_210 d_211 I_212 D_213 K_214 M_215 g_207) (cwV 0 hts gL_law_X5_run rfl rfl rfl (by decide +kernel) ⟨(Nat.le_of_ble_eq_true rfl), (Nat.le_of_ble_eq_true rfl)⟩) ⟨(tW.pre [.ref (ad_138 40)] hP hK hN (hX0.kept (hS.2.1 bS hbl hbA))).1, tW.recv (C := RX5) (T := TX5) (N := 11) hP hK heq_216 rfl, (tW.pre [.ref (ad_138 40)] hP hK hN (hX0.kept (hS.2.1 bS hbl hbA))).2⟩ rfl rfl hl.1 rfl (lv_room (Nat.le_of_ble_eq_true rfl)) dL_law_146 ⟨by show cu138 + 2 ≤ 600086; omega, by show su138 + 20 ≤ 7301441; omega⟩) hS (fun q _ h => hAW q h) (fun q h => hAW q h) (fun r9 u t H1 locs ht hvm hw hB hz1 hk1 hS9 => ?_)
                            subst hw
                            obtain ⟨ad_217, hM_218, hX_223, hB⟩ := hB
                            have hP : va_P (dC, dI) vwCl (iwT (tL a_208 b_209 c_210) ad_217 cy bS a_208 b_209 c_210 d_211 0 I_212 D_213 K_214 M_215) H1 := by rw [← ht]; exact hB.1
                            have hAL_219 : ∀ k, k ∈ (tL a_208 b_209 c_210) → A (ad_217 k) := fun k hk => hAW _ (hX_223.1 k hk)
                            have hDD_220 : ∀ r I D K M, va_D A (iwT (tL a_208 b_209 c_210) ad_217 cy bS a_208 b_209 c_210 d_211 r I D K M) := fun r I D K M => iwT_D hM_218 hAL_219 I D K M
                            have hl : lv_has ls 15 [(4, .int x4_138), (3, .ref (ad_217 0)), (2, .ref (ad_217 40)), (1, .int x1_2), (0, .ref bS)] := by rw [hX_223.2.2, hX_223.2.1]; exact lv_sub hl [0, 1, 2, 3, 4] rfl
                            have hS := hS9
                            clear hB hz1 hk1 hvm ht hS9
                            generalize H1 = H at hP hS ⊢
                            refine lv_if_eq (tgt := 159) hx hb dL_law_149 (by decide) (fun c_224 => ?_) (fun c_224 => ?_)
                            · have hf := it_t hf c_224
                              refine lv_iconst (v := 0) hx hb dL_law_159 (by decide) ?_
                              exact absurd (Option.some.inj hf) (by decide)
                            · have hf := it_f hf c_224
                              refine lv_aload_n hx hb dL_law_152 rfl (lv_at hl 2 rfl) ?_
                              obtain ⟨⟨r_225, I_227, D_228, K_229⟩, g_226, hf⟩ := bd_out hf
                              have hAW : ∀ q, AT (tL a_208 b_209 c_210) ad_217 H.size q → A q := fun q h => h.elim (fun ⟨k, k1, k2⟩ => k2 ▸ hAL_219 k k1) (fun h => hA q (Nat.le_trans hS.1 h))
                              obtain ⟨q_230, wq_230, heq_230⟩ := heT_40 (L := (tL a_208 b_209 c_210)) (ad := ad_217) (cy := cy) (bS := bS) (a := a_208) (b := b_209) (c := c_210) (d := d_211) (r := 0) (I := I_212) (D := D_213) (K := K_214) (M := M_215) hM_218
                              refine va_calli (va_runV (As := []) (rest := []) ⟨hx, hb, hml, hown, hts⟩ (mt_T_wash l dC dI (tL a_208 b_209 c_210) a_208 b_209 c_210 d_211 bS ad_217 cy hM_218 0 LS xs H.size I_212 D_213 K_214 M_215  r_225 I_227 D_228 K_229 g_226) (cwV 0 hts gL_law_X5_wash rfl rfl rfl (by decide +kernel) ⟨(Nat.le_of_ble_eq_true rfl), (Nat.le_of_ble_eq_true rfl)⟩) ⟨(tW.pre [.ref (ad_217 40)] hP hK hN (hX0.kept (hS.2.1 bS hbl hbA))).1, tW.recv (C := RX5) (T := TX5) (N := 11) hP hK heq_230 rfl, (tW.pre [.ref (ad_217 40)] hP hK hN (hX0.kept (hS.2.1 bS hbl hbA))).2⟩ rfl rfl hl.1 rfl (lv_room (Nat.le_of_ble_eq_true rfl)) dL_law_153 ⟨by show cu138 + 2 + 0 ≤ 600086; omega, by show su138 + 20 + 0 ≤ 7301441; omega⟩) hS (fun q _ h => hAW q h) (fun q h => hAW q h) (fun r9 u t H1 locs ht hvm hw hB hz1 hk1 hS9 => ?_)
                              subst hw
                              have hP : va_P (dC, dI) vwCl (iwT (tL a_208 b_209 c_210) ad_217 cy bS a_208 b_209 c_210 d_211 0 I_227 D_228 K_229 M_215) H1 := by rw [← ht]; exact hB.1
                              have hS := hS9
                              clear hB hz1 hk1 hvm ht hS9
                              generalize H1 = H at hP hS ⊢
                              refine lv_if_ne (tgt := 161) hx hb dL_law_156 (by decide) (fun c_231 => ?_) (fun c_231 => ?_)
                              · have hf := it_f hf c_231
                                refine lv_iinc (v := (x4_138 + 1)) (lv' := [(4, .int (x4_138 + 1)), (3, .ref (ad_217 0)), (2, .ref (ad_217 40)), (1, .int x1_2), (0, .ref bS)]) hx hb dL_law_161 hl (k := 0) rfl rfl (by decide) rfl (fun ls hl => ?_)
                                refine lv_goto (tgt := 138) hx hb dL_law_164 (by decide) ?_
                                exact ih138 (x4_138 + 1) a_208 b_209 c_210 d_211 I_227 D_228 K_229 M_215 hf ad_217 hM_218 hAL_219 _ _ _ hP hS (lv_sub hl [0, 1, 2, 3, 4] rfl) _ _ (by omega) (by omega)
                              · have hf := it_t hf c_231
                                refine lv_iconst (v := 0) hx hb dL_law_159 (by decide) ?_
                                exact absurd (Option.some.inj hf) (by decide)
                      exact L138 9 0 a_31 b_32 c_33 d_34 I_58 D_59 K_60 M_61 hf ad_39 hM_40 hAL_41 _ _ _ hP hS (lv_sub hl [0, 1, 2, 3, 4] rfl) _ _ (by omega) (by omega)
                    · have hf := it_t hf c_63
                      refine lv_iconst (v := 0) hx hb dL_law_133 (by decide) ?_
                      exact absurd (Option.some.inj hf) (by decide)
                  · have hf := it_f hf c_55
                    refine lv_aload_n hx hb dL_law_61 rfl (lv_at hl 1 rfl) ?_
                    refine lv_iload hx hb dL_law_62 (lv_at hl 0 rfl) ?_
                    refine lv_bipush (v := 80) hx hb dL_law_64 (by decide) ?_
                    refine lv_bipush (v := 15) hx hb dL_law_66 (by decide) ?_
                    obtain ⟨⟨r_232, I_234, D_235⟩, g_233, hf⟩ := bd_out hf
                    have hPH := iwT_H hM_40 hP
                    have hAW : ∀ q, AW ad_39 H.size q → A q := fun q h => h.elim (fun ⟨k, k1, k2⟩ => k2 ▸ hAL_41 k (hM_40.1.2.1 _ (tL_H k1))) (fun h => hA q (Nat.le_trans hS.1 h))
                    refine va_calli (va_runV (As := [.int x4_55, .int 80, .int 15]) (rest := []) ⟨hx, hb, hml, hown, hts⟩ (mt_X4_heat l dC dI ad_39 cy hM_40.J H.size I_L55 D_L55 x4_55 80 15 r_232 I_234 D_235 (eO_out g_233)) (cwV 3 hts gL_law_X4_heat rfl rfl rfl (by decide +kernel) ⟨(Nat.le_of_ble_eq_true rfl), (Nat.le_of_ble_eq_true rfl)⟩) ⟨(hW.pre [.ref (ad_39 0), .int x4_55, .int 80, .int 15] hPH hK hN.1).1, hW.recv (C := RX4) (T := TX4) (N := 14) hPH hK heH_0 rfl, (hW.pre [.ref (ad_39 0), .int x4_55, .int 80, .int 15] hPH hK hN.1).2⟩ rfl rfl hl.1 rfl (lv_room (Nat.le_of_ble_eq_true rfl)) dL_law_68 ⟨by show cu2 + 1 + 41 + 20 + 2 + 0 ≤ 600086; omega, by show su2 + 11 + 411 + 240 + 26 + 0 ≤ 7301441; omega⟩) hS (fun q _ h => hAW q h) (fun q h => hAW q h) (fun r9 u t H1 locs ht hvm hw hB hz1 hk1 hS9 => ?_)
                    subst hw
                    have hP : va_P (dC, dI) vwCl (iwT (tL a_31 b_32 c_33) ad_39 cy bS a_31 b_32 c_33 d_34 0 I_234 D_235 K_L55 M_52) H1 := iwT_join hM_40 hP (by rw [← ht]; exact hB.1) hk1
                    have hS := hS9
                    clear hB hz1 hk1 hvm ht hS9
                    generalize H1 = H at hP hS ⊢
                    refine lv_if_eq (tgt := 95) hx hb dL_law_71 (by decide) (fun c_236 => ?_) (fun c_236 => ?_)
                    · have hf := it_t hf c_236
                      refine lv_iconst (v := 0) hx hb dL_law_95 (by decide) ?_
                      exact absurd (Option.some.inj hf) (by decide)
                    · have hf := it_f hf c_236
                      refine lv_aload_n hx hb dL_law_74 rfl (lv_at hl 1 rfl) ?_
                      refine lv_iload hx hb dL_law_75 (lv_at hl 0 rfl) ?_
                      refine lv_iconst (v := 5) hx hb dL_law_77 (by decide) ?_
                      obtain ⟨r_237, g_238, hf⟩ := bd_out hf
                      have hPH := iwT_H hM_40 hP
                      refine va_calli (va_runV (As := [.int x4_55, .int 5]) (rest := []) ⟨hx, hb, hml, hown, hts⟩ (mt_X4_ofMix l dC dI ad_39 cy hM_40.J H.size I_234 D_235 x4_55 5 r_237 (eO_out g_238)) (cwV 2 hts gL_law_X4_ofMix rfl rfl rfl (by decide +kernel) ⟨(Nat.le_of_ble_eq_true rfl), (Nat.le_of_ble_eq_true rfl)⟩) ⟨(hW.pre [.ref (ad_39 0), .int x4_55, .int 5] hPH hK hN.1).1, hW.recv (C := RX4) (T := TX4) (N := 14) hPH hK heH_0 rfl, (hW.pre [.ref (ad_39 0), .int x4_55, .int 5] hPH hK hN.1).2⟩ rfl rfl hl.1 rfl (lv_room (Nat.le_of_ble_eq_true rfl)) dL_law_78 ⟨by show cu2 + 1 + 41 + 20 + 2 + 0 ≤ 600086; omega, by show su2 + 11 + 411 + 240 + 26 + 0 ≤ 7301441; omega⟩) hS (fun q _ h => hA q (Nat.le_trans hS.1 h)) (fun q h => hA q (Nat.le_trans hS.1 h)) (fun r9 u t H1 locs ht hvm hw hB hz1 hk1 hS9 => ?_)
                      subst hw
                      have hP := va_Pnew hP hk1
                      have hS := hS9
                      clear hB hz1 hk1 hvm ht hS9
                      generalize H1 = H at hP hS ⊢
                      refine lv_if_ne (tgt := 95) hx hb dL_law_81 (by decide) (fun c_239 => ?_) (fun c_239 => ?_)
                      · have hf := it_f hf c_239
                        refine lv_iconst (v := 0) hx hb dL_law_95 (by decide) ?_
                        exact absurd (Option.some.inj hf) (by decide)
                      · have hf := it_t hf c_239
                        refine lv_aload_n hx hb dL_law_84 rfl (lv_at hl 1 rfl) ?_
                        refine lv_iload hx hb dL_law_85 (lv_at hl 0 rfl) ?_
                        refine lv_iconst (v := 4) hx hb dL_law_87 (by decide) ?_
                        obtain ⟨r_240, g_241, hf⟩ := bd_out hf
                        have hPH := iwT_H hM_40 hP
                        refine va_calli (va_runV (As := [.int x4_55, .int 4]) (rest := []) ⟨hx, hb, hml, hown, hts⟩ (mt_X4_ofMix l dC dI ad_39 cy hM_40.J H.size I_234 D_235 x4_55 4 r_240 (eO_out g_241)) (cwV 2 hts gL_law_X4_ofMix rfl rfl rfl (by decide +kernel) ⟨(Nat.le_of_ble_eq_true rfl), (Nat.le_of_ble_eq_true rfl)⟩) ⟨(hW.pre [.ref (ad_39 0), .int x4_55, .int 4] hPH hK hN.1).1, hW.recv (C := RX4) (T := TX4) (N := 14) hPH hK heH_0 rfl, (hW.pre [.ref (ad_39 0), .int x4_55, .int 4] hPH hK hN.1).2⟩ rfl rfl hl.1 rfl (lv_room (Nat.le_of_ble_eq_true rfl)) dL_law_88 ⟨by show cu2 + 1 + 41 + 20 + 2 + 0 ≤ 600086; omega, by show su2 + 11 + 411 + 240 + 26 + 0 ≤ 7301441; omega⟩) hS (fun q _ h => hA q (Nat.le_trans hS.1 h)) (fun q h => hA q (Nat.le_trans hS.1 h)) (fun r9 u t H1 locs ht hvm hw hB hz1 hk1 hS9 => ?_)
                        subst hw
                        have hP := va_Pnew hP hk1
                        have hS := hS9
                        clear hB hz1 hk1 hvm ht hS9
                        generalize H1 = H at hP hS ⊢
                        refine lv_iconst (v := 1) hx hb dL_law_91 (by decide) ?_
                        refine lv_icmp_eq (tgt := 97) hx hb dL_law_92 (by decide) (fun c_242 => ?_) (fun c_242 => ?_)
                        · have hf := it_t hf c_242
                          refine lv_aload_n hx hb dL_law_97 rfl (lv_at hl 2 rfl) ?_
                          obtain ⟨q_243, wq_243, heq_243⟩ := heT_40 (L := (tL a_31 b_32 c_33)) (ad := ad_39) (cy := cy) (bS := bS) (a := a_31) (b := b_32) (c := c_33) (d := d_34) (r := 0) (I := I_234) (D := D_235) (K := K_L55) (M := M_52) hM_40
                          refine va_get (D := (dC, dI)) (ci := 5) (v := .ref (ad_39 48)) (C := RX5) (T := TX5) (N := 11) hx hb hts inlX5 hown hK hP q_243 heq_243 rfl 4 (by decide) (hts (.fieldLink RL 39 "OverrunHouseLaw$Told" "mixes" "[[I") (List.mem_append_left _ (List.mem_append_left _ (List.mem_append_left _ (List.mem_append_left _ (List.mem_append_left _ (List.mem_append_left _ (List.mem_append_left _ (List.mem_append_left _ (List.mem_append_left _ (List.mem_append_left _ (List.mem_append_left _ (List.mem_of_getElem? (i := 4) rfl))))))))))))) (fun _ h9 => h9) rfl dL_law_98 ?_
                          refine lv_iload hx hb dL_law_101 (lv_at hl 0 rfl) ?_
                          obtain ⟨q_244, wq_244, heq_244⟩ := heT_48 (L := (tL a_31 b_32 c_33)) (ad := ad_39) (cy := cy) (bS := bS) (a := a_31) (b := b_32) (c := c_33) (d := d_34) (r := 0) (I := I_234) (D := D_235) (K := K_L55) (M := M_52) hM_40
                          obtain ⟨h_245, hf⟩ := ck_out hf
                          refine ra_lda (bs := 60) (n := b_32) hx hb hK hP q_244 heq_244 (inB_in h_245) dL_law_103 ?_
                          refine lv_bipush (v := 7) hx hb dL_law_104 (by decide) ?_
                          refine lv_iconst (v := 1) hx hb dL_law_106 (by decide) ?_
                          obtain ⟨q_246, wq_246, heq_246⟩ := heT_Mixr (L := (tL a_31 b_32 c_33)) (ad := ad_39) (cy := cy) (bS := bS) (a := a_31) (b := b_32) (c := c_33) (d := d_34) (r := 0) (I := I_234) (D := D_235) (K := K_L55) (M := M_52) hM_40 (inB_lt h_245)
                          obtain ⟨h_247, hf⟩ := ck_out hf
                          obtain ⟨K_248, eK_248, hf⟩ := nm_out hf
                          refine va_iast (n := 10) (f := K_L55 (60 + (x4_55).toNatClampNeg)) hx hb hK hP (hDD_42 0 I_234 D_235 K_L55 M_52) hS q_246 0 heq_246 rfl (inB_in h_247) dL_law_107 (fun H locs hP _ hS => ?_)
                          have hP : va_P (dC, dI) vwCl (iwT (tL a_31 b_32 c_33) ad_39 cy bS a_31 b_32 c_33 d_34 0 I_234 D_235 K_248 M_52) H := by rw [eK_248]; exact hqK hM_40 wq_246 (by omega) ((cellT_Mixr ad_39 cy bS a_31 b_32 c_33 d_34 0 (by have := hM_40.2.2; have := (inB_lt h_245); omega) _ _).trans rfl) hP
                          refine lv_aload_n hx hb dL_law_108 rfl (lv_at hl 2 rfl) ?_
                          obtain ⟨q_249, wq_249, heq_249⟩ := heT_40 (L := (tL a_31 b_32 c_33)) (ad := ad_39) (cy := cy) (bS := bS) (a := a_31) (b := b_32) (c := c_33) (d := d_34) (r := 0) (I := I_234) (D := D_235) (K := K_248) (M := M_52) hM_40
                          refine va_get (D := (dC, dI)) (ci := 5) (v := .ref (ad_39 48)) (C := RX5) (T := TX5) (N := 11) hx hb hts inlX5 hown hK hP q_249 heq_249 rfl 4 (by decide) (hts (.fieldLink RL 39 "OverrunHouseLaw$Told" "mixes" "[[I") (List.mem_append_left _ (List.mem_append_left _ (List.mem_append_left _ (List.mem_append_left _ (List.mem_append_left _ (List.mem_append_left _ (List.mem_append_left _ (List.mem_append_left _ (List.mem_append_left _ (List.mem_append_left _ (List.mem_append_left _ (List.mem_of_getElem? (i := 4) rfl))))))))))))) (fun _ h9 => h9) rfl dL_law_109 ?_
                          refine lv_iload hx hb dL_law_112 (lv_at hl 0 rfl) ?_
                          obtain ⟨q_250, wq_250, heq_250⟩ := heT_48 (L := (tL a_31 b_32 c_33)) (ad := ad_39) (cy := cy) (bS := bS) (a := a_31) (b := b_32) (c := c_33) (d := d_34) (r := 0) (I := I_234) (D := D_235) (K := K_248) (M := M_52) hM_40
                          obtain ⟨h_251, hf⟩ := ck_out hf
                          refine ra_lda (bs := 60) (n := b_32) hx hb hK hP q_250 heq_250 (inB_in h_251) dL_law_114 ?_
                          refine lv_bipush (v := 8) hx hb dL_law_115 (by decide) ?_
                          refine lv_iconst (v := 0) hx hb dL_law_117 (by decide) ?_
                          obtain ⟨q_252, wq_252, heq_252⟩ := heT_Mixr (L := (tL a_31 b_32 c_33)) (ad := ad_39) (cy := cy) (bS := bS) (a := a_31) (b := b_32) (c := c_33) (d := d_34) (r := 0) (I := I_234) (D := D_235) (K := K_248) (M := M_52) hM_40 (inB_lt h_251)
                          obtain ⟨h_253, hf⟩ := ck_out hf
                          obtain ⟨K_254, eK_254, hf⟩ := nm_out hf
                          refine va_iast (n := 10) (f := K_248 (60 + (x4_55).toNatClampNeg)) hx hb hK hP (hDD_42 0 I_234 D_235 K_248 M_52) hS q_252 0 heq_252 rfl (inB_in h_253) dL_law_118 (fun H locs hP _ hS => ?_)
                          have hP : va_P (dC, dI) vwCl (iwT (tL a_31 b_32 c_33) ad_39 cy bS a_31 b_32 c_33 d_34 0 I_234 D_235 K_254 M_52) H := by rw [eK_254]; exact hqK hM_40 wq_252 (by omega) ((cellT_Mixr ad_39 cy bS a_31 b_32 c_33 d_34 0 (by have := hM_40.2.2; have := (inB_lt h_251); omega) _ _).trans rfl) hP
                          refine lv_iinc (v := (x4_55 + 1)) (lv' := [(4, .int (x4_55 + 1)), (3, .ref (ad_39 0)), (2, .ref (ad_39 40)), (1, .int x1_2), (0, .ref bS)]) hx hb dL_law_119 hl (k := 0) rfl rfl (by decide) rfl (fun ls hl => ?_)
                          refine lv_goto (tgt := 55) hx hb dL_law_122 (by decide) ?_
                          exact ih55 (x4_55 + 1) I_234 D_235 K_254 hf _ _ _ hP hS (lv_sub hl [0, 1, 2, 3, 4] rfl)
                        · have hf := it_f hf c_242
                          refine lv_iconst (v := 0) hx hb dL_law_95 (by decide) ?_
                          exact absurd (Option.some.inj hf) (by decide)
              exact L55 4 0 I_49 D_50 K_51 hf _ _ _ hP hS (lv_sub hl [0, 1, 2, 3, 4] rfl)
            · have hf := it_t hf c_54
              refine lv_iconst (v := 0) hx hb dL_law_50 (by decide) ?_
              exact absurd (Option.some.inj hf) (by decide)
  exact L2 4 0 hf _ _ _ hS (lv_sub hl [0, 1] rfl) _ _ (by omega) (by omega)
