theorem lt_48 {n : Nat} (h : n < 2147483648) : (nI n < (48 : Int32)) = (n < 48) := propext (nI_ltI (b := 48) h (by decide))
theorem gt_57 {n : Nat} (h : n < 2147483648) : ((57 : Int32) < nI n) = (57 < n) := propext (nI_ltI (a := 57) (by decide) h)
theorem eqN {n m : Nat} (h : n < 2147483648) (hm : m < 2147483648) : (nI n = nI m) = (n = m) := propext (nI_eq (b := m) h hm)
def bN (b : Bool) : Int32 := if b = true then 1 else 0
section
variable (d : Nat) (I : IFn) (t1 t2 : TFn) (k : Nat) (sc : Nat × (Nat → Int32))
theorem x_isD {b : Nat} (hb : b < 256) : den (d, 4, 5, 0, [some (vi (nI b))], [], mkH I t1 t2 k sc) = some (some (vi (bN (isD b))), mkH I t1 t2 k sc) := by
  by_cases h1 : b < 48
  · rw [show isD b = false by simp [isD]; omega]
    simp (disch := omega) only [bnd, bnd0, ↓cdec, ↓cnot, ↓reduceIte, Bo_0, Bo_1, ↓Bo_ok, i10, i01, eq_self, decide_true, decide_false, Bool.or_true, Bool.true_or, Bool.or_false, Bool.false_or, cond_true, cond_false, not_true_eq_false, not_false_eq_true, Bool.false_eq_true, and_self, and_true, true_and, and_false, false_and, nI_clamp, ↓inbc, inb_n, nI_pos, nI_1, b4_5_0, b4_5_16, b4_5_17, lt_48, h1]
    rfl
  · by_cases h2 : 57 < b
    · rw [show isD b = false by simp [isD]; omega]
      simp (disch := omega) only [bnd, bnd0, ↓cdec, ↓cnot, ↓reduceIte, Bo_0, Bo_1, ↓Bo_ok, i10, i01, eq_self, decide_true, decide_false, Bool.or_true, Bool.true_or, Bool.or_false, Bool.false_or, cond_true, cond_false, not_true_eq_false, not_false_eq_true, Bool.false_eq_true, and_self, and_true, true_and, and_false, false_and, nI_clamp, ↓inbc, inb_n, nI_pos, nI_1, b4_5_0, b4_5_6, b4_5_16, b4_5_17, lt_48, gt_57, h1, h2]
      rfl
    · rw [show isD b = true by simp [isD]; omega]
      simp (disch := omega) only [bnd, bnd0, ↓cdec, ↓cnot, ↓reduceIte, Bo_0, Bo_1, ↓Bo_ok, i10, i01, eq_self, decide_true, decide_false, Bool.or_true, Bool.true_or, Bool.or_false, Bool.false_or, cond_true, cond_false, not_true_eq_false, not_false_eq_true, Bool.false_eq_true, and_self, and_true, true_and, and_false, false_and, nI_clamp, ↓inbc, inb_n, nI_pos, nI_1, b4_5_0, b4_5_6, b4_5_12, b4_5_17, lt_48, gt_57, h1, h2]
      rfl
end
def FX (I J : IFn) : Prop := ∀ g j i, ¬ (g = 0 ∧ j = 1 ∧ 2 ≤ i ∧ i ≤ 5) → J g j i = I g j i
theorem FX.rfl {I : IFn} : FX I I := fun _ _ _ _ => Eq.refl _
theorem FX.trans {I J K : IFn} (h : FX I J) (h2 : FX J K) : FX I K := fun g j i q => (h2 g j i q).trans (h g j i q)
def PX (J : IFn) (w : Bool) (dg op : Nat) (pt : Bool) : Prop := J 0 1 2 = bN w ∧ J 0 1 3 = nI dg ∧ J 0 1 4 = nI op ∧ J 0 1 5 = bN pt
