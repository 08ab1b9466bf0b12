theorem i32_999 : (999 : Int32).toInt = 999 ∧ (0 : Int32).toInt = 0 := by decide
/-- rich -/
theorem ok_13 : op_13 Inv := by
  intro a1 I t1 t2 k sc hI
  by_cases h : 0 ≤ a1.toInt ∧ a1.toInt ≤ 999
  · obtain ⟨hT, ⟨n, b0, b1, b2, b3⟩, hS, ⟨m, m8, ⟨c1, c2, c3, c4, c5, c6⟩, hM, hQ, hTK⟩, hK⟩ := hI
    obtain ⟨v, hv, hv2⟩ := nat_of (x := a1) (m := 1000) h.1 (by omega) (by omega)
    have hx : (0 : Int32).toInt ≤ a1.toInt ∧ a1.toInt ≤ (999 : Int32).toInt := by rw [i32_999.1, i32_999.2]; exact h
    have hm : (0 : Int64).toInt ≤ a1.toInt ∧ a1.toInt ≤ (999 : Int64).toInt := by
      have e : (0 : Int64).toInt = 0 ∧ (999 : Int64).toInt = 999 := by decide
      rw [e.1, e.2]; exact h
    have e57 : (uI I 0 8 10 a1) 0 57 3 = I 0 8 10 := by rw [uI_nej (by omega)]; exact c5.1.symm
    refine ⟨I 0 8 10, uI I 0 8 10 a1, uI (uI I 0 8 10 a1) 0 57 3 a1, t1, t2, k, ?_, ?_, ⟨?_, ⟨n, b0, ?_, ?_, fun i hi => ?_⟩, fun s hs => ?_, ⟨m, m8, ⟨?_, ?_, ?_, ?_, ?_, ?_⟩, fun p hp => ?_, fun q hq => ?_, hTK⟩, ?_⟩, by omega⟩
    · show den (10, 7, 14, 0, [some (vr 0 0), some (vi a1), none], [], mkH I t1 t2 k sc) = _
      rw [b7_14_0 9, x_within]
      refine (b7_14_8 9 a1 _ I t1 t2 k sc).trans ?_
      rw [cdec, Bo_t hx, if_neg (by decide), b7_14_18 9]
    · show den (10, 8, 38, 0, [some (vr 0 56), some (vi a1), none], [], mkH (uI I 0 8 10 a1) t1 t2 k sc) = _
      rw [b8_38_0 9, m_in32]
      refine (b8_38_9 9 a1 _ _ t1 t2 k sc).trans ?_
      rw [cdec, Bo_t hm, if_neg (by decide), b8_38_19 9, e57]
    · exact hT.congr (fun i _ => by rw [uI_nej (by omega), uI_nej (by omega)]) (fun i _ => by rw [uI_nej (by omega), uI_nej (by omega)])
    · rw [uI_nej (by omega), uI_nej (by omega)]; exact b1
    · rw [uI_nej (by omega), uI_nej (by omega)]; exact b2
    · rw [uI_nej (by omega), uI_nej (by omega), uI_nej (by omega), uI_nej (by omega)]; exact b3 i hi
    · exact (hS s hs).congr hs (fun j i _ _ => by rw [uI_nej (by omega), uI_nej (by omega)]) (fun j i _ _ => by rw [uI_nej (by omega), uI_nej (by omega)])
    · rw [uI_nei (by omega), uI_nej (by omega)]; exact c1
    · rw [uI_nej (by omega), uI_nej (by omega)]; exact c2
    · rw [uI_nej (by omega), uI_nei (by omega), uI_nei (by omega), uI_nej (by omega)]; exact c3
    · rw [uI_nej (by omega), uI_nei (by omega), uI_nei (by omega), uI_nej (by omega)]; exact c4
    · rw [uI_nej (by omega), uI_eq, uI_eq]; exact ⟨rfl, v, by omega, by omega, hv2⟩
    · rw [uI_nej (by omega), uI_nej (by omega), uI_nei (by omega), uI_nej (by omega)]; exact c6
    · exact (hM p hp).congr hp (fun j _ _ => by rw [uI_nej (by omega), uI_nej (by omega)]) (fun i _ _ => by rw [uI_nei (by omega), uI_nej (by omega)])
    · exact (hQ q hq).congr (by omega) TS_u2 (fun j _ _ => by rw [uI_nej (by omega), uI_nej (by omega)]) (fun i _ _ => by rw [uI_nei (by omega), uI_nej (by omega)])
    · exact hK.congr TS_u2 (by rw [uI_nej (by omega), uI_nej (by omega)]) (by rw [uI_nej (by omega), uI_nej (by omega)]) (fun j i _ _ => by rw [uI_nej (by omega), uI_nej (by omega)]) (fun i _ => by rw [uI_nej (by omega), uI_nej (by omega)])
  · have hx : ¬ ((0 : Int32).toInt ≤ a1.toInt ∧ a1.toInt ≤ (999 : Int32).toInt) := by rw [i32_999.1, i32_999.2]; exact h
    have hm : ¬ ((0 : Int64).toInt ≤ a1.toInt ∧ a1.toInt ≤ (999 : Int64).toInt) := by
      have e : (0 : Int64).toInt = 0 ∧ (999 : Int64).toInt = 999 := by decide
      rw [e.1, e.2]; exact h
    refine ⟨-1000001, uI I 0 47 0 (I 0 47 0 + 1), _, t1, t2, k, ?_, ?_, hI.find (f := 0) (by omega), by omega⟩
    · show den (10, 7, 14, 0, [some (vr 0 0), some (vi a1), none], [], mkH I t1 t2 k sc) = _
      rw [b7_14_0 9, x_within]
      refine (b7_14_8 9 a1 _ I t1 t2 k sc).trans ?_
      rw [cdec, Bo_f hx, if_pos rfl, b7_14_11 9, x_find (f := 0) (hf := by omega) (hw := by decide)]
      exact b7_14_17 9 a1 _ _ t1 t2 k sc
    · show den (10, 8, 38, 0, [some (vr 0 56), some (vi a1), none], [], mkH (uI I 0 47 0 (I 0 47 0 + 1)) t1 t2 k sc) = _
      rw [b8_38_0 9, m_in32]
      refine (b8_38_9 9 a1 _ _ t1 t2 k sc).trans ?_
      rw [cdec, Bo_f hm, if_pos rfl, b8_38_12 9, m_find (f := 0) (hf := by omega) (hw := by decide)]
      exact b8_38_18 9 a1 _ _ t1 t2 k sc
