def f_J9_abs_294c1 (p0 : UInt64) : Option UInt64 := ck (okD (p0 &&& 0x7fffffffffffffff)) (some (p0 &&& 0x7fffffffffffffff))
theorem mt_J9_abs_294c1 (l : Launch) (sz : Nat) (p0 rr : UInt64) (hf : f_J9_abs_294c1 p0 = some rr) : Met l yJ9_abs_294c1 wsJ9_abs_294c1 ({ frames := 1, cells := 0, slots := 0, locals := 70 }) (va_Pc [.double p0] (fun U => U.heap.size = sz)) (va_Qd (fun r (_ : Unit) => rr = r) (fun _ _ => True) (fun q => sz ≤ q)) 0 0 (fun q => sz ≤ q) := by
  sorry
def f_J9_min_eb370 (p0 p2 : UInt64) : Option UInt64 := ck (!FP.dIsNaN p0) (ck (!FP.dIsNaN p2) (some (Native.java_lang_Math.nans.pick64 false p0 p2)))
theorem mt_J9_min_eb370 (l : Launch) (sz : Nat) (p0 p2 rr : UInt64) (hf : f_J9_min_eb370 p0 p2 = some rr) : Met l yJ9_min_eb370 wsJ9_min_eb370 ({ frames := 1, cells := 0, slots := 0, locals := 70 }) (va_Pc [.double p0, .double p2] (fun U => U.heap.size = sz)) (va_Qd (fun r (_ : Unit) => rr = r) (fun _ _ => True) (fun q => sz ≤ q)) 0 0 (fun q => sz ≤ q) := by
  sorry
