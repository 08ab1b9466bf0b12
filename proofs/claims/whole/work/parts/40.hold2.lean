section
variable (I : IFn) (t1 t2 : TFn) (k : Nat) (sc : Nat × (Nat → Int32))
theorem l09 (x : Int32) : ((0 : Int64).toInt ≤ x.toInt ∧ x.toInt ≤ (9 : Int64).toInt) ↔ (0 ≤ x.toInt ∧ x.toInt ≤ 9) := by
  have e : (0 : Int64).toInt = 0 ∧ (9 : Int64).toInt = 9 := by decide
  rw [e.1, e.2]
theorem m_hold_ok {n p : Nat} (hn : n ≤ 8) (h0 : I 0 57 0 = nI n) (hp : p < 10) {v : Int32} (hv : v = -1 ∨ (0 ≤ v.toInt ∧ v.toInt < n)) : den (10, 8, 67, 0, [some (vr 0 56), some (vi (nI p)), some (vi v)], [], mkH I t1 t2 k sc) = some (some (vi 1), mkH (uI I 0 57 (95 + p) v) t1 t2 k sc) := by
  have hp2 : 0 ≤ (nI p).toInt ∧ (nI p).toInt ≤ 9 := by rw [nI_toInt (by omega)]; omega
  have hend : den (10, 8, 67, 32, [some (vr 0 56), some (vi (nI p)), some (vi v)], [], mkH I t1 t2 k sc) = some (some (vi 1), mkH (uI I 0 57 (95 + p) v) t1 t2 k sc) := by
    have e : (95 : Int32) + nI p = nI (95 + p) := nI_add 95 p
    rw [b8_67_32 9, e, inb_n (by omega) (by omega), cond_true, nI_clamp (by omega)]
  rw [b8_67_0 9, m_in32]
  refine (b8_67_9 9 (nI p) v _ I t1 t2 k sc).trans ?_
  rw [cdec, Bo_t ((l09 _).mpr hp2), if_neg (by decide), b8_67_12 9, cdec]
  by_cases h1 : v = -1
  · rw [if_pos h1]; exact hend
  · rw [if_neg h1, b8_67_17 9, m_isSum 8 I t1 t2 k sc hn h0]
    refine (b8_67_22 9 (nI p) v _ I t1 t2 k sc).trans ?_
    rw [cdec, Bo_t (hv.resolve_left h1), if_neg (by decide)]
    exact hend
theorem m_hold_no {n : Nat} (hn : n ≤ 8) (h0 : I 0 57 0 = nI n) {x v : Int32} (hv : ¬ ((0 ≤ x.toInt ∧ x.toInt ≤ 9) ∧ (v = -1 ∨ (0 ≤ v.toInt ∧ v.toInt < n)))) : den (10, 8, 67, 0, [some (vr 0 56), some (vi x), some (vi v)], [], mkH I t1 t2 k sc) = some (some (vi (-1000001)), mkH (uI I 0 60 0 (I 0 60 0 + 1)) t1 t2 k sc) := by
  have hend : den (10, 8, 67, 25, [some (vr 0 56), some (vi x), some (vi v)], [], mkH I t1 t2 k sc) = some (some (vi (-1000001)), mkH (uI I 0 60 0 (I 0 60 0 + 1)) t1 t2 k sc) := by
    rw [b8_67_25 9, m_find (f := 0) (hf := by omega) (hw := by decide)]
    exact b8_67_31 9 x v _ _ t1 t2 k sc
  rw [b8_67_0 9, m_in32]
  refine (b8_67_9 9 x v _ I t1 t2 k sc).trans ?_
  by_cases hp : 0 ≤ x.toInt ∧ x.toInt ≤ 9
  · rw [cdec, Bo_t ((l09 _).mpr hp), if_neg (by decide), b8_67_12 9, cdec, if_neg (fun q => hv ⟨hp, Or.inl q⟩), b8_67_17 9, m_isSum 8 I t1 t2 k sc hn h0]
    refine (b8_67_22 9 x v _ I t1 t2 k sc).trans ?_
    rw [cdec, Bo_f (fun q => hv ⟨hp, Or.inr q⟩), if_pos rfl]
    exact hend
  · rw [cdec, Bo_f (fun q => hp ((l09 _).mp q)), if_pos rfl]
    exact hend
end
theorem opt_of {n : Nat} (hn : n ≤ 8) {v : Int32} (hv : v = -1 ∨ (0 ≤ v.toInt ∧ v.toInt < n)) : opt n v := by
  rcases hv with h | h
  · exact Or.inl h
  · obtain ⟨q, hq, e⟩ := nat_of h.1 h.2 (by omega)
    exact Or.inr ⟨q, hq, e⟩
/-- hold -/
theorem ok_29 : op_29 Inv := by
  intro a1 a2 I t1 t2 k sc hI
  have hI0 := hI
  obtain ⟨hT, ⟨n, b0, b1, b2, b3⟩, hS, ⟨m, m8, hH, hM, hQ, hTK⟩, hK⟩ := hI
  have ht : ∀ q, q < m → ∃ e, t1 q = some (e + 1, 0) := fun q hq => by
    obtain ⟨-, -, -, -, e, -, h, -⟩ := hQ q hq
    exact ⟨e, h⟩
  by_cases h : (0 ≤ a1.toInt ∧ a1.toInt ≤ 9) ∧ (a2 = -1 ∨ (0 ≤ a2.toInt ∧ a2.toInt < m))
  · obtain ⟨p, hp, rfl⟩ := nat_of (x := a1) (m := 10) h.1.1 (by omega) (by omega)
    have e57 : (uI I 0 18 p a2) 0 57 0 = nI m := by rw [uI_nej (by omega)]; exact hH.1
    refine ⟨1, uI I 0 18 p a2, uI (uI I 0 18 p a2) 0 57 (95 + p) a2, t1, t2, k, x_hold_ok I t1 t2 k sc m8 hH.2.1 ht hp h.2, m_hold_ok _ t1 t2 k sc m8 e57 hp h.2, ⟨?_, ⟨n, b0, ?_, ?_, fun i hi => ?_⟩, fun s hs => ?_, ⟨m, m8, ?_, fun q hq => ?_, fun q hq => ?_, hTK⟩, ?_⟩, by omega⟩
    · exact hT.congr (fun i _ => by rw [uI_nej (by omega), uI_nej (by omega)]) (fun i _ => by rw [uI_nej (by omega), uI_nej (by omega)])
    · rw [uI_nej (by omega), uI_nej (by omega)]; exact b1
    · rw [uI_nej (by omega), uI_nej (by omega)]; exact b2
    · rw [uI_nej (by omega), uI_nej (by omega), uI_nej (by omega), uI_nej (by omega)]; exact b3 i hi
    · exact (hS s hs).congr hs (fun j i _ _ => by rw [uI_nej (by omega), uI_nej (by omega)]) (fun j i _ _ => by rw [uI_nej (by omega), uI_nej (by omega)])
    · obtain ⟨c1, c2, c3, c4, c5, c6⟩ := hH
      unfold WHd
      rw [uI_nei (by omega), uI_nei (by omega), uI_nei (by omega), uI_nei (by omega), uI_nei (by omega)]
      simp only [uI_nej (show 57 ≠ 18 by omega), uI_nej (show 3 + 1 ≠ 57 by omega), uI_nej (show 3 + 1 ≠ 18 by omega), uI_nej (show 3 + 5 ≠ 57 by omega), uI_nej (show 3 + 5 ≠ 18 by omega), uI_nej (show 3 ≠ 57 by omega), uI_nej (show 3 ≠ 18 by omega)]
      exact ⟨c1, c2, c3, c4, c5, c6⟩
    · by_cases hqp : q = p
      · subst hqp
        obtain ⟨g1, g2, g3, g4⟩ := hM q hq
        have eS : ∀ i, i < 95 → (uI (uI I 0 18 q a2) 0 57 (95 + q) a2) 0 57 i = I 0 57 i := fun i hi => by rw [uI_nei (by omega), uI_nej (by omega)]
        refine ⟨fun a ha => ?_, ?_, ?_, ?_⟩
        · rw [uI_nej (by omega), uI_nej (by omega), eS _ (by omega)]; exact g1 a ha
        · unfold manOK
          dsimp only
          rw [eS _ (by omega), eS _ (by omega), eS _ (by omega), eS _ (by omega), eS _ (by omega), eS _ (by omega), eS _ (by omega), eS _ (by omega), eS _ (by omega)]
          exact g2
        · rw [uI_nej (by omega), uI_eq, uI_eq]
        · rw [uI_eq]; exact opt_of m8 h.2
      · obtain ⟨g1, g2, g3, g4⟩ := hM q hq
        have eS : ∀ i, i ≠ 95 + p → (uI (uI I 0 18 p a2) 0 57 (95 + p) a2) 0 57 i = I 0 57 i := fun i hi => by rw [uI_nei hi, uI_nej (by omega)]
        refine ⟨fun a ha => ?_, ?_, ?_, ?_⟩
        · rw [uI_nej (by omega), uI_nej (by omega), eS _ (by omega)]; exact g1 a ha
        · unfold manOK
          dsimp only
          rw [eS _ (by omega), eS _ (by omega), eS _ (by omega), eS _ (by omega), eS _ (by omega), eS _ (by omega), eS _ (by omega), eS _ (by omega), eS _ (by omega)]
          exact g2
        · rw [uI_nej (by omega), uI_nei hqp, eS _ (by omega)]; exact g3
        · rw [eS _ (by omega)]; exact g4
    · exact (hQ q hq).congr (by omega) TS_u2 (fun j _ _ => by rw [uI_nej (by omega), uI_nej (by omega)]) (fun i _ _ => by rw [uI_nei (by omega), uI_nej (by omega)])
    · exact hK.congr TS_u2 (by rw [uI_nej (by omega), uI_nej (by omega)]) (by rw [uI_nej (by omega), uI_nej (by omega)]) (fun j i _ _ => by rw [uI_nej (by omega), uI_nej (by omega)]) (fun i _ => by rw [uI_nej (by omega), uI_nej (by omega)])
  · exact ⟨-1000001, _, _, t1, t2, k, x_hold_no I t1 t2 k sc m8 hH.2.1 ht h, m_hold_no _ t1 t2 k sc m8 (by rw [uI_nej (by omega)]; exact hH.1) h, hI0.find (f := 0) (by omega), by omega⟩
