section
variable (d : Nat) (I : IFn) (t1 t2 : TFn) (k : Nat) (sc : Nat × (Nat → Int32))
theorem x_has {n : Nat} (hn : n ≤ 8) (h0 : I 0 4 3 = nI n) (ht : ∀ q, q < n → ∃ e, t1 q = some (e + 1, 0)) (x : Int32) : den (d, 3, 1, 0, [some (vr 0 4), some (vi x)], [], mkH I t1 t2 k sc) = some (some (vi (Bo (0 ≤ x.toInt ∧ x.toInt < n))), mkH I t1 t2 k sc) := by
  by_cases h1 : x < 0
  · have h2 := Int32.lt_iff_toInt_lt.mp h1
    have e0 : (0 : Int32).toInt = 0 := by decide
    rw [b3_1_0, cdec, if_pos h1, b3_1_34, b3_1_35, Bo_f (by omega)]
    rfl
  · have h2 : 0 ≤ x.toInt := by
      have e0 : (0 : Int32).toInt = 0 := by decide
      have h5 : ¬ x.toInt < (0 : Int32).toInt := fun q => h1 (Int32.lt_iff_toInt_lt.mpr q)
      omega
    rw [b3_1_0, cdec, if_neg h1, b3_1_4 d (Or.inl rfl), cdec, h0]
    by_cases h3 : x < nI n
    · have h4 := Int32.lt_iff_toInt_lt.mp h3
      rw [nI_toInt (by omega)] at h4
      obtain ⟨q, hq, rfl⟩ := nat_of (x := x) (m := n) h2 h4 (by omega)
      have h8 : nI q < 8 := nI_lt (a := q) (b := 8) (by omega) (by decide)
      obtain ⟨e, he⟩ := ht q hq
      have hr : rR (mkH I t1 t2 k sc) 0 (4 + 1) (nI q).toNatClampNeg = some (e + 1, 0) := by
        show t1 (nI q).toNatClampNeg = _
        rw [nI_clamp (by omega), he]
      rw [if_pos h3, b3_1_12 d (Or.inl rfl), cdec, if_pos h8, b3_1_21 d (Or.inl rfl), inb_n (by omega) (by omega), cond_true, hr]
      refine (b3_1_27 d e 4 (nI q) I t1 t2 k sc).trans ?_
      rw [b3_1_30, b3_1_35, Bo_t ⟨h2, h4⟩]
      rfl
    · have h4 : ¬ x.toInt < n := by
        intro q
        apply h3
        rw [Int32.lt_iff_toInt_lt, nI_toInt (by omega)]
        exact q
      rw [if_neg h3, b3_1_34, b3_1_35, Bo_f (by omega)]
      rfl
theorem x_isSum {n : Nat} (hn : n ≤ 8) (h0 : I 0 4 3 = nI n) (ht : ∀ q, q < n → ∃ e, t1 q = some (e + 1, 0)) (x : Int32) : den (d + 1, 7, 48, 0, [some (vr 0 0), some (vi x)], [], mkH I t1 t2 k sc) = some (some (vi (Bo (0 ≤ x.toInt ∧ x.toInt < n))), mkH I t1 t2 k sc) := by
  rw [b7_48_0, x_has d I t1 t2 k sc hn h0 ht]
  refine (b7_48_11 d x _ I t1 t2 k sc).trans ?_
  rw [Bo_ok, cond_true]
theorem x_isSpot (x : Int32) : den (d + 1, 7, 47, 0, [some (vi x)], [], mkH I t1 t2 k sc) = some (some (vi (Bo (0 ≤ x.toInt ∧ x.toInt ≤ 9))), mkH I t1 t2 k sc) := by
  rw [b7_47_0, x_within]
  refine (b7_47_7 d x _ I t1 t2 k sc).trans ?_
  rw [Bo_ok, cond_true]
  rfl
end
