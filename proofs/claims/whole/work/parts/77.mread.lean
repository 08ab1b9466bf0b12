section
variable (d : Nat) (I : IFn) (t1 t2 : TFn) (k : Nat) (sc : Nat × (Nat → Int32))
theorem m_sgn {b : Nat} (hb : b < 256) : den (d, 8, 13, 0, [some (vi (nI b))], [], mkH I t1 t2 k sc) = some (some (vi (sgC b)), mkH I t1 t2 k sc) := by
  have q : ∀ m : Nat, m < 256 → ∀ x : Int32, x = nI m → (nI b = x) = (b = m) := fun m hm x e => by rw [e]; exact eqN (by omega) (by omega)
  have q1 := q 43 (by omega) 43 rfl
  have q2 := q 45 (by omega) 45 rfl
  have q3 := q 42 (by omega) 42 rfl
  have q4 := q 47 (by omega) 47 rfl
  have q5 := q 37 (by omega) 37 rfl
  by_cases h1 : b = 43
  · have h1' := eq_true h1
    rw [show sgC b = -2 by rw [h1]; rfl]
    simp (disch := omega) only [bnd, bnd0, ↓cdec, ↓cnot, ↓reduceIte, Bo_0, Bo_1, ↓Bo_ok, i10, i01, eq_self, decide_true, decide_false, Bool.or_true, Bool.true_or, Bool.or_false, Bool.false_or, cond_true, cond_false, not_true_eq_false, not_false_eq_true, Bool.false_eq_true, and_self, and_true, true_and, and_false, false_and, nI_clamp, ↓inbc, inb_n, nI_pos, nI_1, b8_13_0, b8_13_6, b8_13_56, q1, h1']
  · by_cases h2 : b = 45
    · have h2' := eq_true h2
      rw [show sgC b = -3 by rw [h2]; rfl]
      simp (disch := omega) only [bnd, bnd0, ↓cdec, ↓cnot, ↓reduceIte, Bo_0, Bo_1, ↓Bo_ok, i10, i01, eq_self, decide_true, decide_false, Bool.or_true, Bool.true_or, Bool.or_false, Bool.false_or, cond_true, cond_false, not_true_eq_false, not_false_eq_true, Bool.false_eq_true, and_self, and_true, true_and, and_false, false_and, nI_clamp, ↓inbc, inb_n, nI_pos, nI_1, b8_13_0, b8_13_11, b8_13_17, b8_13_56, q1, q2, h1, h2']
    · by_cases h3 : b = 42
      · have h3' := eq_true h3
        rw [show sgC b = -4 by rw [h3]; rfl]
        simp (disch := omega) only [bnd, bnd0, ↓cdec, ↓cnot, ↓reduceIte, Bo_0, Bo_1, ↓Bo_ok, i10, i01, eq_self, decide_true, decide_false, Bool.or_true, Bool.true_or, Bool.or_false, Bool.false_or, cond_true, cond_false, not_true_eq_false, not_false_eq_true, Bool.false_eq_true, and_self, and_true, true_and, and_false, false_and, nI_clamp, ↓inbc, inb_n, nI_pos, nI_1, b8_13_0, b8_13_11, b8_13_22, b8_13_28, b8_13_56, q1, q2, q3, h1, h2, h3']
      · by_cases h4 : b = 47
        · have h4' := eq_true h4
          rw [show sgC b = -5 by rw [h4]; rfl]
          simp (disch := omega) only [bnd, bnd0, ↓cdec, ↓cnot, ↓reduceIte, Bo_0, Bo_1, ↓Bo_ok, i10, i01, eq_self, decide_true, decide_false, Bool.or_true, Bool.true_or, Bool.or_false, Bool.false_or, cond_true, cond_false, not_true_eq_false, not_false_eq_true, Bool.false_eq_true, and_self, and_true, true_and, and_false, false_and, nI_clamp, ↓inbc, inb_n, nI_pos, nI_1, b8_13_0, b8_13_11, b8_13_22, b8_13_33, b8_13_39, b8_13_56, q1, q2, q3, q4, h1, h2, h3, h4']
        · by_cases h5 : b = 37
          · have h5' := eq_true h5
            rw [show sgC b = -6 by rw [h5]; rfl]
            simp (disch := omega) only [bnd, bnd0, ↓cdec, ↓cnot, ↓reduceIte, Bo_0, Bo_1, ↓Bo_ok, i10, i01, eq_self, decide_true, decide_false, Bool.or_true, Bool.true_or, Bool.or_false, Bool.false_or, cond_true, cond_false, not_true_eq_false, not_false_eq_true, Bool.false_eq_true, and_self, and_true, true_and, and_false, false_and, nI_clamp, ↓inbc, inb_n, nI_pos, nI_1, b8_13_0, b8_13_11, b8_13_22, b8_13_33, b8_13_44, b8_13_50, b8_13_56, q1, q2, q3, q4, q5, h1, h2, h3, h4, h5']
          · rw [show sgC b = 0 by rw [sgC, if_neg h1, if_neg h2, if_neg h3, if_neg h4, if_neg h5]]
            simp (disch := omega) only [bnd, bnd0, ↓cdec, ↓cnot, ↓reduceIte, Bo_0, Bo_1, ↓Bo_ok, i10, i01, eq_self, decide_true, decide_false, Bool.or_true, Bool.true_or, Bool.or_false, Bool.false_or, cond_true, cond_false, not_true_eq_false, not_false_eq_true, Bool.false_eq_true, and_self, and_true, true_and, and_false, false_and, nI_clamp, ↓inbc, inb_n, nI_pos, nI_1, b8_13_0, b8_13_11, b8_13_22, b8_13_33, b8_13_44, b8_13_55, b8_13_56, q1, q2, q3, q4, q5, h1, h2, h3, h4, h5]
theorem m_rank (c : Int32) : den (d, 8, 14, 0, [some (vi c)], [], mkH I t1 t2 k sc) = some (some (vi (nI (rkC c))), mkH I t1 t2 k sc) := by
  by_cases h1 : c = -7
  · have h1' := eq_true h1
    rw [show rkC c = 0 by rw [rkC, if_pos h1]]
    simp (disch := omega) only [bnd, bnd0, ↓cdec, ↓cnot, ↓reduceIte, Bo_0, Bo_1, ↓Bo_ok, i10, i01, eq_self, decide_true, decide_false, Bool.or_true, Bool.true_or, Bool.or_false, Bool.false_or, cond_true, cond_false, not_true_eq_false, not_false_eq_true, Bool.false_eq_true, and_self, and_true, true_and, and_false, false_and, nI_clamp, ↓inbc, inb_n, nI_pos, nI_1, b8_14_0, b8_14_6, b8_14_27, h1']
    rfl
  · by_cases h2 : c = -2
    · have h2' := eq_true h2
      rw [show rkC c = 1 by rw [rkC, if_neg h1, if_pos h2]]
      simp (disch := omega) only [bnd, bnd0, ↓cdec, ↓cnot, ↓reduceIte, Bo_0, Bo_1, ↓Bo_ok, i10, i01, eq_self, decide_true, decide_false, Bool.or_true, Bool.true_or, Bool.or_false, Bool.false_or, cond_true, cond_false, not_true_eq_false, not_false_eq_true, Bool.false_eq_true, and_self, and_true, true_and, and_false, false_and, nI_clamp, ↓inbc, inb_n, nI_pos, nI_1, b8_14_0, b8_14_10, b8_14_22, b8_14_27, h1, h2']
      rfl
    · by_cases h3 : c = -3
      · have h3' := eq_true h3
        rw [show rkC c = 1 by rw [rkC, if_neg h1, if_neg h2, if_pos h3]]
        simp (disch := omega) only [bnd, bnd0, ↓cdec, ↓cnot, ↓reduceIte, Bo_0, Bo_1, ↓Bo_ok, i10, i01, eq_self, decide_true, decide_false, Bool.or_true, Bool.true_or, Bool.or_false, Bool.false_or, cond_true, cond_false, not_true_eq_false, not_false_eq_true, Bool.false_eq_true, and_self, and_true, true_and, and_false, false_and, nI_clamp, ↓inbc, inb_n, nI_pos, nI_1, b8_14_0, b8_14_10, b8_14_16, b8_14_22, b8_14_27, h1, h2, h3']
        rfl
      · rw [show rkC c = 2 by rw [rkC, if_neg h1, if_neg h2, if_neg h3]]
        simp (disch := omega) only [bnd, bnd0, ↓cdec, ↓cnot, ↓reduceIte, Bo_0, Bo_1, ↓Bo_ok, i10, i01, eq_self, decide_true, decide_false, Bool.or_true, Bool.true_or, Bool.or_false, Bool.false_or, cond_true, cond_false, not_true_eq_false, not_false_eq_true, Bool.false_eq_true, and_self, and_true, true_and, and_false, false_and, nI_clamp, ↓inbc, inb_n, nI_pos, nI_1, b8_14_0, b8_14_10, b8_14_16, b8_14_26, b8_14_27, h1, h2, h3]
        rfl
end
