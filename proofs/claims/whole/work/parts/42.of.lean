theorem l08 (x : Int32) : (((0 : Int64).toInt ≤ x.toInt ∧ x.toInt ≤ (8 : Int64).toInt) ↔ (0 ≤ x.toInt ∧ x.toInt ≤ 8)) ∧ (((0 : Int32).toInt ≤ x.toInt ∧ x.toInt ≤ (8 : Int32).toInt) ↔ (0 ≤ x.toInt ∧ x.toInt ≤ 8)) := by
  have e : (0 : Int64).toInt = 0 ∧ (8 : Int64).toInt = 8 ∧ (0 : Int32).toInt = 0 ∧ (8 : Int32).toInt = 8 := by decide
  rw [e.1, e.2.1, e.2.2.1, e.2.2.2]
  exact ⟨Iff.rfl, Iff.rfl⟩
/-- of -/
theorem ok_11 : op_11 Inv := by
  intro a1 a2 I t1 t2 k sc hI
  by_cases h : (0 ≤ a1.toInt ∧ a1.toInt ≤ 9) ∧ (0 ≤ a2.toInt ∧ a2.toInt ≤ 8)
  · have hI0 := hI
    obtain ⟨-, -, -, ⟨m, m8, -, hM, -⟩, -⟩ := hI
    obtain ⟨p, hp, rfl⟩ := nat_of (x := a1) (m := 10) h.1.1 (by omega) (by omega)
    obtain ⟨a, ha, rfl⟩ := nat_of (x := a2) (m := 9) h.2.1 (by omega) (by omega)
    have hv := (hM p hp).1 a ha
    refine ⟨I 0 (9 + a) p, I, I, t1, t2, k, ?_, ?_, hI0, by omega⟩
    · show den (10, 7, 12, 0, [some (vr 0 0), some (vi (nI p)), some (vi (nI a))], [], mkH I t1 t2 k sc) = _
      rw [b7_12_0 9, x_isPrisoner 8]
      refine (b7_12_4 9 (nI p) (nI a) _ I t1 t2 k sc).trans ?_
      rw [cdec, Bo_t h.1, if_neg (by decide), b7_12_7 9, x_within]
      refine (b7_12_14 9 (nI p) (nI a) _ I t1 t2 k sc).trans ?_
      rw [cdec, Bo_t ((l08 _).2.mpr h.2), if_neg (by decide), b7_12_24 9, x_row 9 (Or.inl rfl) ha]
      refine (b7_12_35 9 (q := 8 + 1 + a) (by omega) (nI p) (nI a) I t1 t2 k sc).trans ?_
      rw [inb_n hp (by omega), cond_true, nI_clamp (by omega)]
    · show den (10, 8, 35, 0, [some (vr 0 56), some (vi (nI p)), some (vi (nI a))], [], mkH I t1 t2 k sc) = _
      rw [b8_35_0 9, m_isMan 8]
      refine (b8_35_4 9 (nI p) (nI a) _ I t1 t2 k sc).trans ?_
      rw [cdec, Bo_t h.1, if_neg (by decide), b8_35_7 9, m_in32]
      refine (b8_35_16 9 (nI p) (nI a) _ I t1 t2 k sc).trans ?_
      rw [cdec, Bo_t ((l08 _).1.mpr h.2), if_neg (by decide), b8_35_19 9, m_at]
      refine (b8_35_28 9 (nI p) (nI a) _ I t1 t2 k sc).trans ?_
      have e : (5 : Int32) + 9 * nI p + nI a = nI (5 + 9 * p + a) := by
        rw [show (9 : Int32) * nI p = nI (9 * p) from (Int32.ofNat_mul 9 p).symm, show (5 : Int32) + nI (9 * p) = nI (5 + 9 * p) from nI_add 5 (9 * p), nI_add]
      rw [e, inb_n (by omega) (by omega), cond_true, nI_clamp (by omega), b8_35_38 9]
      rw [show I 0 57 (5 + 9 * p + a) = I 0 (9 + a) p from hv.symm]
  · refine ⟨-1000001, uI I 0 47 0 (I 0 47 0 + 1), _, t1, t2, k, ?_, ?_, hI.find (f := 0) (by omega), by omega⟩
    · show den (10, 7, 12, 0, [some (vr 0 0), some (vi a1), some (vi a2)], [], mkH I t1 t2 k sc) = _
      have hend : den (10, 7, 12, 17, [some (vr 0 0), some (vi a1), some (vi a2)], [], mkH I t1 t2 k sc) = some (some (vi (-1000001)), mkH (uI I 0 47 0 (I 0 47 0 + 1)) t1 t2 k sc) := by
        rw [b7_12_17 9, x_find (f := 0) (hf := by omega) (hw := by decide)]
        exact b7_12_23 9 a1 a2 _ _ t1 t2 k sc
      rw [b7_12_0 9, x_isPrisoner 8]
      refine (b7_12_4 9 a1 a2 _ I t1 t2 k sc).trans ?_
      by_cases h1 : 0 ≤ a1.toInt ∧ a1.toInt ≤ 9
      · rw [cdec, Bo_t h1, if_neg (by decide), b7_12_7 9, x_within]
        refine (b7_12_14 9 a1 a2 _ I t1 t2 k sc).trans ?_
        rw [cdec, Bo_f (fun q => h ⟨h1, (l08 _).2.mp q⟩), if_pos rfl]
        exact hend
      · rw [cdec, Bo_f h1, if_pos rfl]
        exact hend
    · show den (10, 8, 35, 0, [some (vr 0 56), some (vi a1), some (vi a2)], [], mkH (uI I 0 47 0 (I 0 47 0 + 1)) t1 t2 k sc) = _
      have hend : den (10, 8, 35, 32, [some (vr 0 56), some (vi a1), some (vi a2)], [], mkH (uI I 0 47 0 (I 0 47 0 + 1)) t1 t2 k sc) = some (some (vi (-1000001)), mkH (uI (uI I 0 47 0 (I 0 47 0 + 1)) 0 60 0 ((uI I 0 47 0 (I 0 47 0 + 1)) 0 60 0 + 1)) t1 t2 k sc) := by
        rw [b8_35_32 9, m_find (f := 0) (hf := by omega) (hw := by decide)]
        exact b8_35_38 9 a1 a2 _ _ t1 t2 k sc
      rw [b8_35_0 9, m_isMan 8]
      refine (b8_35_4 9 a1 a2 _ _ t1 t2 k sc).trans ?_
      by_cases h1 : 0 ≤ a1.toInt ∧ a1.toInt ≤ 9
      · rw [cdec, Bo_t h1, if_neg (by decide), b8_35_7 9, m_in32]
        refine (b8_35_16 9 a1 a2 _ _ t1 t2 k sc).trans ?_
        rw [cdec, Bo_f (fun q => h ⟨h1, (l08 _).1.mp q⟩), if_pos rfl]
        exact hend
      · rw [cdec, Bo_f h1, if_pos rfl]
        exact hend
