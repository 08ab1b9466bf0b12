/-! small methods of both sides -/
theorem l64s : (0 : Int64).toInt = 0 ∧ (1 : Int64).toInt = 1 ∧ (2 : Int64).toInt = 2 ∧ (3 : Int64).toInt = 3 ∧ (4 : Int64).toInt = 4 ∧ (6 : Int64).toInt = 6 ∧ (8 : Int64).toInt = 8 ∧ (9 : Int64).toInt = 9 ∧ (10 : Int64).toInt = 10 ∧ (19 : Int64).toInt = 19 ∧ (48 : Int64).toInt = 48 ∧ (57 : Int64).toInt = 57 ∧ (99 : Int64).toInt = 99 ∧ (100 : Int64).toInt = 100 ∧ (200 : Int64).toInt = 200 ∧ (480 : Int64).toInt = 480 ∧ (999 : Int64).toInt = 999 ∧ (-1 : Int64).toInt = -1 := by decide
theorem nI_m1 {n : Nat} (h : n ≤ 4000) : (nI n - 1).toInt = (n : Int) - 1 := by
  cases n with
  | zero => decide
  | succ n => rw [nI_pred, nI_toInt (by omega)]; omega
section
variable (d : Nat) (I : IFn) (t1 t2 : TFn) (k : Nat) (sc : Nat × (Nat → Int32))
theorem m_isNumber (x : Int32) : den (d + 1, 8, 6, 0, [some (vi x)], [], mkH I t1 t2 k sc) = some (some (vi (Bo (0 ≤ x.toInt ∧ x.toInt ≤ 99))), mkH I t1 t2 k sc) := by
  rw [b8_6_0, m_in32]
  refine (b8_6_9 d x _ I t1 t2 k sc).trans ?_
  rw [Bo_ok, cond_true]
  rfl
theorem m_isSum {n : Nat} (hn : n ≤ 8) (h0 : I 0 57 0 = nI n) (x : Int32) : den (d + 1, 8, 4, 0, [some (vr 0 56), some (vi x)], [], mkH I t1 t2 k sc) = some (some (vi (Bo (0 ≤ x.toInt ∧ x.toInt < n))), mkH I t1 t2 k sc) := by
  rw [b8_4_0, m_in32]
  refine (b8_4_15 d x _ I t1 t2 k sc).trans ?_
  rw [Bo_ok, cond_true, h0, Int32.toInt_toInt64, nI_m1 (by omega)]
  rw [Bo_congr (q := 0 ≤ x.toInt ∧ x.toInt < n) (by rw [l64s.1]; omega)]
theorem m_find {f : Nat} (hf : f < 7) {w : Int32} (hw : (-1000001) - w = nI f) : den (d, 8, 2, 0, [some (vr 0 56), some (vi w)], [], mkH I t1 t2 k sc) = some (some (vi w), mkH (uI I 0 60 f (I 0 60 f + 1)) t1 t2 k sc) := by
  rw [b8_2_0, hw, inb_n hf (by omega), cond_true, cond_true, nI_clamp (by omega)]
theorem x_within (a b c : Int32) : den (d, 7, 43, 0, [some (vi a), some (vi b), some (vi c)], [], mkH I t1 t2 k sc) = some (some (vi (Bo (b.toInt ≤ a.toInt ∧ a.toInt ≤ c.toInt))), mkH I t1 t2 k sc) := by
  rw [b7_43_0, cdec]
  by_cases h1 : a < b
  · have h2 := Int32.lt_iff_toInt_lt.mp h1
    rw [if_pos h1, b7_43_14, b7_43_15, Bo_f (by omega)]
    rfl
  · have h2 : ¬ a.toInt < b.toInt := fun q => h1 (Int32.lt_iff_toInt_lt.mpr q)
    rw [if_neg h1, b7_43_5, cdec]
    by_cases h3 : c < a
    · have h4 := Int32.lt_iff_toInt_lt.mp h3
      rw [if_pos h3, b7_43_14, b7_43_15, Bo_f (by omega)]
      rfl
    · have h4 : ¬ c.toInt < a.toInt := fun q => h3 (Int32.lt_iff_toInt_lt.mpr q)
      rw [if_neg h3, b7_43_10, b7_43_15, Bo_t (by omega)]
      rfl
theorem x_find {f : Nat} (hf : f < 7) {w : Int32} (hw : (-1000001) - w = nI f) : den (d, 7, 42, 0, [some (vr 0 0), some (vi w), none], [], mkH I t1 t2 k sc) = some (some (vi w), mkH (uI I 0 47 f (I 0 47 f + 1)) t1 t2 k sc) := by
  have h7 : nI f < 7 := nI_lt (a := f) (b := 7) hf (by decide)
  rw [b7_42_0, hw, cdec, if_neg (nI_pos (by omega)), b7_42_9, cdec, if_pos h7, b7_42_18, inb_n hf (by omega), cond_true, cond_true, nI_clamp (by omega), b7_42_28]
theorem x_isPrisoner (x : Int32) : den (d + 1, 7, 46, 0, [some (vi x)], [], mkH I t1 t2 k sc) = some (some (vi (Bo (0 ≤ x.toInt ∧ x.toInt ≤ 9))), mkH I t1 t2 k sc) := by
  rw [b7_46_0, x_within]
  refine (b7_46_7 d x _ I t1 t2 k sc).trans ?_
  rw [Bo_ok, cond_true]
  rfl
end
