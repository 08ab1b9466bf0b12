/-! sum -/
section
variable (d : Nat) (I : IFn) (t1 t2 : TFn) (k : Nat) (sc : Nat × (Nat → Int32))
/-- the reference, behind a text that is none: the row of the new sum -/
theorem m_row {n mk : Nat} {a1 a2 : Int32} {D1 D2 : List Int32} (hn : n < 8) (hl : D1.length + D2.length ≤ 40) (c0 : I 0 57 0 = nI n) (h10 : I 0 56 10 = nI (D2 ++ D1).length) (h14 : I 0 56 14 = nI D1.length) (h63 : stkF (I 0 63) (D2 ++ D1)) : ∃ K, den (d + 1, 8, 20, 74, [some (vr 0 56), some (vi a1), some (vi a2), some (vi (-1)), some (vi (nI mk)), none, none], [], mkH I t1 t2 k sc) = some (some (vi (nI n)), mkH (K) t1 t2 k sc) ∧ K 0 57 0 = nI (n + 1) ∧ K 0 57 (105 + 45 * n) = a1 ∧ K 0 57 (105 + 45 * n + 1) = a2 ∧ K 0 57 (105 + 45 * n + 2) = nI mk ∧ K 0 57 (105 + 45 * n + 3) = nI D1.length ∧ K 0 57 (105 + 45 * n + 4) = nI D2.length ∧ stkF (fun i => K 0 57 (105 + 45 * n + 5 + i)) (D2 ++ D1) ∧ ∀ g j i, ¬ (g = 0 ∧ j = 57 ∧ (i = 0 ∨ (105 + 45 * n ≤ i ∧ i < 105 + 45 * n + 45))) → K g j i = I g j i := by
  have la : (D2 ++ D1).length = D2.length + D1.length := List.length_append
  rw [la] at h10
  have sb := sb_n D2.length D1.length
  generalize hM : uI (uI (uI (uI (uI I 0 57 (105 + 45 * n) a1) 0 57 (105 + 45 * n + 1) a2) 0 57 (105 + 45 * n + 2) (nI mk)) 0 57 (105 + 45 * n + 3) (nI D1.length)) 0 57 (105 + 45 * n + 4) (nI D2.length) = M
  have st : den (d + 1, 8, 20, 74, [some (vr 0 56), some (vi a1), some (vi a2), some (vi (-1)), some (vi (nI mk)), none, none], [], mkH I t1 t2 k sc) = den (d + 1, 8, 20, 151, [some (vr 0 56), some (vi a1), some (vi a2), some (vi (-1)), some (vi (nI mk)), some (vi (nI (105 + 45 * n))), some (vi 0)], [], mkH (M) t1 t2 k sc) := by
    rw [b8_20_74, ← hM]
    simp (disch := omega) only [bnd, bnd0, ↓cdec, ↓cnot, ↓reduceIte, Bo_0, Bo_1, ↓Bo_ok, i10, i01, eq_self, decide_true, decide_false, Bool.or_true, Bool.true_or, Bool.or_false, Bool.false_or, cond_true, cond_false, not_true_eq_false, not_false_eq_true, Bool.false_eq_true, and_self, and_true, true_and, and_false, false_and, nI_clamp, ↓inbc, inb_n, nI_pos, nI_1, c0, mul45, add105, ad2, ad3, ad4, uI_ne, h10, h14, sb]
  have fM : ∀ g j i, ¬ (g = 0 ∧ j = 57 ∧ 105 + 45 * n ≤ i ∧ i < 105 + 45 * n + 5) → M g j i = I g j i := fun g j i h => by rw [← hM, uI_ne (by omega), uI_ne (by omega), uI_ne (by omega), uI_ne (by omega), uI_ne (by omega)]
  obtain ⟨K, e1, p1, p2⟩ := lpE (fun p J => den (d + 1, 8, 20, 151, [some (vr 0 56), some (vi a1), some (vi a2), some (vi (-1)), some (vi (nI mk)), some (vi (nI (105 + 45 * n))), some (vi (nI p))], [], mkH (J) t1 t2 k sc))
    (fun p J => (∀ i, i < p → J 0 57 (105 + 45 * n + 5 + i) = I 0 63 i) ∧ ∀ g j i, ¬ (g = 0 ∧ j = 57 ∧ 105 + 45 * n + 5 ≤ i ∧ i < 105 + 45 * n + 45) → J g j i = M g j i) (N := D2.length + D1.length)
    (by
      intro p J hp ⟨r1, r2⟩
      have j10 : J 0 56 10 = nI (D2.length + D1.length) := by rw [r2 _ _ _ (by omega), fM _ _ _ (by omega)]; exact h10
      have j63 : J 0 63 p = I 0 63 p := by rw [r2 _ _ _ (by omega), fM _ _ _ (by omega)]
      have il : nI p < nI (D2.length + D1.length) := nI_lt (by omega) (by omega)
      refine ⟨uI J 0 57 (105 + 45 * n + 5 + p) (I 0 63 p), ?_, fun i hi => ?_, fun g j i h => ?_⟩
      · rw [b8_20_151]
        simp (disch := omega) only [bnd, bnd0, ↓cdec, ↓cnot, ↓reduceIte, Bo_0, Bo_1, ↓Bo_ok, i10, i01, eq_self, decide_true, decide_false, Bool.or_true, Bool.true_or, Bool.or_false, Bool.false_or, cond_true, cond_false, not_true_eq_false, not_false_eq_true, Bool.false_eq_true, and_self, and_true, true_and, and_false, false_and, nI_clamp, ↓inbc, inb_n, nI_pos, nI_1, j10, il, b8_20_160, add5, nI_add, j63]
      · by_cases ei : i = p
        · subst ei; exact uI_at (by omega)
        · rw [uI_ne (by omega)]; exact r1 i (by omega)
      · rw [uI_ne (by omega)]; exact r2 _ _ _ h) 0 M (by omega) ⟨fun i hi => by omega, fun g j i h => rfl⟩
  have k10 : K 0 56 10 = nI (D2.length + D1.length) := by rw [p2 _ _ _ (by omega), fM _ _ _ (by omega)]; exact h10
  have k0 : K 0 57 0 = nI n := by rw [p2 _ _ _ (by omega), fM _ _ _ (by omega)]; exact c0
  have nl : ¬ nI (D2.length + D1.length) < nI (D2.length + D1.length) := nI_nlt (Nat.le_refl _) (by omega)
  have pr : nI (n + 1) - 1 = nI n := nI_pred _
  refine ⟨uI K 0 57 0 (nI (n + 1)), ?_, uI_at (by omega), ?_, ?_, ?_, ?_, ?_, ?_, fun g j i h => ?_⟩
  · refine st.trans (Eq.trans e1 ?_)
    show den _ = _
    rw [b8_20_151]
    simp (disch := omega) only [bnd, bnd0, ↓cdec, ↓cnot, ↓reduceIte, Bo_0, Bo_1, ↓Bo_ok, i10, i01, eq_self, decide_true, decide_false, Bool.or_true, Bool.true_or, Bool.or_false, Bool.false_or, cond_true, cond_false, not_true_eq_false, not_false_eq_true, Bool.false_eq_true, and_self, and_true, true_and, and_false, false_and, nI_clamp, ↓inbc, inb_n, nI_pos, nI_1, k10, nl, b8_20_185, k0, uI_at, pr]
  · rw [uI_ne (by omega), p2 _ _ _ (by omega), ← hM, uI_ne (by omega), uI_ne (by omega), uI_ne (by omega), uI_ne (by omega), uI_at (by omega)]
  · rw [uI_ne (by omega), p2 _ _ _ (by omega), ← hM, uI_ne (by omega), uI_ne (by omega), uI_ne (by omega), uI_at (by omega)]
  · rw [uI_ne (by omega), p2 _ _ _ (by omega), ← hM, uI_ne (by omega), uI_ne (by omega), uI_at (by omega)]
  · rw [uI_ne (by omega), p2 _ _ _ (by omega), ← hM, uI_ne (by omega), uI_at (by omega)]
  · rw [uI_ne (by omega), p2 _ _ _ (by omega), ← hM, uI_at (by omega)]
  · exact h63.keep (fun j hj => by rw [la] at hj; rw [uI_ne (by omega)]; exact p1 j hj)
  · rw [uI_ne (by omega), p2 _ _ _ (by omega), fM _ _ _ (by omega)]
end
theorem m1_lt : (-1 : Int32) < 0 := by decide
theorem ok_2 : op_2 Inv := by
  intro a1 a2 I t1 t2 k sc hI
  obtain ⟨n, n8, c0, c0', c1, c2, c3, c4, ht, hQ⟩ := hI.head
  by_cases h1 : 0 ≤ a1.toInt ∧ a1.toInt ≤ 6
  · by_cases h2 : 1 ≤ a2.toInt ∧ a2.toInt ≤ 99
    · by_cases h8 : n = 8
      · subst h8
        refine ⟨-1000002, uI I 0 47 1 (I 0 47 1 + 1), _, t1, t2, k, ?_, ?_, hI.find (f := 1) (by omega), by omega⟩
        · have g : ¬ (nI 8 : Int32) < 8 := by decide
          simp (disch := omega) only [bnd, bnd0, ↓cdec, ↓cnot, ↓reduceIte, Bo_0, Bo_1, ↓Bo_ok, i10, i01, eq_self, decide_true, decide_false, Bool.or_true, Bool.true_or, Bool.or_false, Bool.false_or, cond_true, cond_false, not_true_eq_false, not_false_eq_true, Bool.false_eq_true, and_self, and_true, true_and, and_false, false_and, nI_clamp, ↓inbc, inb_n, nI_pos, nI_1, b7_3_0, b7_3_4, b7_3_7, b7_3_14, b7_3_24, b7_3_39, b7_3_45, x_isKind, x_within, k32_1, k32_99, h1, h2, c0', g, x_f1]
        · have g : ((nI 8 : Int32) = 8) = True := eq_true rfl
          simp (disch := omega) only [bnd, bnd0, ↓cdec, ↓cnot, ↓reduceIte, Bo_0, Bo_1, ↓Bo_ok, i10, i01, eq_self, decide_true, decide_false, Bool.or_true, Bool.true_or, Bool.or_false, Bool.false_or, cond_true, cond_false, not_true_eq_false, not_false_eq_true, Bool.false_eq_true, and_self, and_true, true_and, and_false, false_and, nI_clamp, ↓inbc, inb_n, nI_pos, nI_1, b8_20_0, b8_20_9, b8_20_12, b8_20_21, b8_20_31, b8_20_42, b8_20_48, m_in32, k64_0, k64_6, k64_1, k64_99, h1, h2, uI_ne, c0, g, m_f1]
      · have l8 : n < 8 := by omega
        obtain ⟨L, b0, b1, b2, b3⟩ := hI.2.1
        have hBx : ∃ B : Nat → Nat, ∀ i, i < L → I 0 2 i = nI (B i) ∧ B i < 256 := ⟨fun i => (I 0 2 i).toNatClampNeg, fun i hi => by
          obtain ⟨-, v, -, v2, v3⟩ := b3 i hi
          show I 0 2 i = nI (I 0 2 i).toNatClampNeg ∧ (I 0 2 i).toNatClampNeg < 256
          rw [v3, nI_clamp (by omega)]
          exact ⟨rfl, by omega⟩⟩
        obtain ⟨B, hB⟩ := hBx
        have hB6 : ∀ i, i < L → I 0 61 i = nI (B i) ∧ B i < 256 := fun i hi => ⟨by rw [← (b3 i hi).1]; exact (hB i hi).1, (hB i hi).2⟩
        obtain ⟨K1, F1, e1⟩ := x_fault 7 I t1 t2 k sc B b0 b1 hB
        have x43 : K1 0 4 3 = nI n := by rw [F1 _ _ _ (by omega)]; exact c0'
        rcases flt_or B b0 with ⟨f, f40, ef⟩ | ⟨dg, pl, dn, dl, er, ef⟩
        · rw [ef] at e1
          have e1' : den (9, 4, 2, 0, [some (vr 0 1), none, none], [], mkH I t1 t2 k sc) = some (some (vi (nI f)), mkH (K1) t1 t2 k sc) := e1
          have fj : ∀ g j i, ¬ (g = 0 ∧ j = 1) → (uI K1 0 1 1 0) g j i = I g j i := fun g j i h => by rw [uI_ne (by omega)]; exact F1 _ _ _ (by omega)
          obtain ⟨M1, G1, m1, -⟩ := m_fault 6 (uI K1 0 1 1 0) t1 t2 k sc B b0 (by rw [fj _ _ _ (by omega)]; exact b2) (fun i hi => by rw [fj _ _ _ (by omega)]; exact hB6 i hi)
          rw [ef] at m1
          have m1' : den (9, 8, 18, 0, [some (vr 0 56), none], [], mkH (uI K1 0 1 1 0) t1 t2 k sc) = some (some (vi (nI f)), mkH (M1) t1 t2 k sc) := m1
          have ms := m_signs 8 M1 t1 t2 k sc B b0 (by rw [G1 _ _ _ (by omega), fj _ _ _ (by omega)]; exact b2) (fun i hi => by rw [G1 _ _ _ (by omega), fj _ _ _ (by omega)]; exact hB6 i hi)
          have ms' : den (9, 8, 19, 0, [some (vr 0 56), none, none], [], mkH (M1) t1 t2 k sc) = some (some (vi (nI (mkF B 0 L))), mkH (M1) t1 t2 k sc) := ms
          have j57 : (uI K1 0 1 1 0) 0 57 0 = nI n := by rw [fj _ _ _ (by omega)]; exact c0
          refine ⟨-10 - nI f, uI K1 0 1 1 0, uI M1 0 56 8 0, t1, t2, k, ?_, ?_, hI.tapes ⟨0, by omega, ?_, ?_, fun i hi => by omega⟩ ?_, by omega⟩
          · simp (disch := omega) only [bnd, bnd0, ↓cdec, ↓cnot, ↓reduceIte, Bo_0, Bo_1, ↓Bo_ok, i10, i01, eq_self, decide_true, decide_false, Bool.or_true, Bool.true_or, Bool.or_false, Bool.false_or, cond_true, cond_false, not_true_eq_false, not_false_eq_true, Bool.false_eq_true, and_self, and_true, true_and, and_false, false_and, nI_clamp, ↓inbc, inb_n, nI_pos, nI_1, b7_3_0, b7_3_4, b7_3_7, b7_3_14, b7_3_24, b7_3_46, b7_3_53, b7_3_89, x_isKind, x_within, k32_1, k32_99, h1, h2, c0', lt_8, l8, e1']
          · simp (disch := omega) only [bnd, bnd0, ↓cdec, ↓cnot, ↓reduceIte, Bo_0, Bo_1, ↓Bo_ok, i10, i01, eq_self, decide_true, decide_false, Bool.or_true, Bool.true_or, Bool.or_false, Bool.false_or, cond_true, cond_false, not_true_eq_false, not_false_eq_true, Bool.false_eq_true, and_self, and_true, true_and, and_false, false_and, nI_clamp, ↓inbc, inb_n, nI_pos, nI_1, b8_20_0, b8_20_9, b8_20_12, b8_20_21, b8_20_31, b8_20_49, b8_20_53, b8_20_58, b8_20_69, m_in32, k64_0, k64_6, k64_1, k64_99, h1, h2, j57, eq_8, h8, m1', ms']
          · rw [uI_ne (by omega), G1 _ _ _ (by omega), uI_at (by omega)]; rfl
          · rw [uI_at (by omega)]; rfl
          · intro g j i hg h
            unfold Gb at hg
            rw [uI_ne (by omega), G1 _ _ _ (by omega), fj _ _ _ (by omega)]
        · rw [ef] at e1
          have e1' : den (9, 4, 2, 0, [some (vr 0 1), none, none], [], mkH I t1 t2 k sc) = some (some (vi (-1)), mkH (K1) t1 t2 k sc) := e1
          obtain ⟨a, g1, g2, l1, d1, l2, d2, ha, hBa, hlo, hhi, r1, r2, p1, p2, p3, hh1, hh2, y1, y2, z1, z2⟩ := rd_text er rfl rfl rfl
          obtain ⟨K3, e3, F3, q4, q5, q6, q7, q8, q9⟩ := x_text 5 K1 t1 t2 k sc B b0 (by rw [F1 _ _ _ (by omega)]; exact b1) (fun i hi => by rw [F1 _ _ _ (by omega)]; exact hB i hi) ha hBa hlo hhi r1 r2 hh1 hh2 z1 z2
          have o1 := (side_ok (cOf_ok _) hh1 (by omega)).1
          have o2 := (side_ok (cOf_ok _) hh2 (by omega)).1
          have mt := mkF_text (B := B) ha hBa
          have u1 := mkF_le B 0 a
          have u2 := mkF_le B (a + 1) (L - a - 1)
          generalize hD1 : (popW 1 l1 d1).2 = D1 at *
          generalize hD2 : (popW 1 l2 d2).2 = D2 at *
          have e3' : den (9, 5, 0, 0, [some (vr (k + 1) 0), some (vr 0 1), none, none, none, none], [], (zT K1 (k + 1) 0, nT (RF t1 t2) (k + 1) 0, (k + 1, 1), sc)) = some (none, mkH K3 t1 t2 (k + 1) sc) := e3
          have k43 : K3 0 4 3 = nI n := by rw [F3 _ _ _ (by omega)]; exact x43
          have xa := x_add 9 k a1 a2 K3 t1 t2 (k + 1) sc l8 k43
          generalize hJ : uI (uI (uI (uI K3 0 6 n a1) 0 7 n a2) 0 4 3 (nI (n + 1))) 0 1 1 0 = J
          have fj : ∀ g j i, ¬ g = k + 1 → ¬ (g = 0 ∧ (j = 1 ∨ ((j = 6 ∨ j = 7) ∧ i = n) ∨ (j = 4 ∧ i = 3))) → J g j i = I g j i := fun g j i hg h => by rw [← hJ, uI_ne (by omega), uI_ne (by omega), uI_ne (by omega), uI_ne (by omega), F3 _ _ _ hg]; exact F1 _ _ _ (by omega)
          have fk : ∀ j i, J (k + 1) j i = K3 (k + 1) j i := fun j i => by rw [← hJ, uI_ne (by omega), uI_ne (by omega), uI_ne (by omega), uI_ne (by omega)]
          obtain ⟨M1, G1, m1, mq⟩ := m_fault 6 J (tS t1 n (some (k + 1, 0))) t2 (k + 1) sc B b0 (by rw [fj _ _ _ (by omega) (by omega)]; exact b2) (fun i hi => by rw [fj _ _ _ (by omega) (by omega)]; exact hB6 i hi)
          rw [ef] at m1
          have m1' : den (9, 8, 18, 0, [some (vr 0 56), none], [], mkH J (tS t1 n (some (k + 1, 0))) t2 (k + 1) sc) = some (some (vi (-1)), mkH M1 (tS t1 n (some (k + 1, 0))) t2 (k + 1) sc) := m1
          have ms := m_signs 8 M1 (tS t1 n (some (k + 1, 0))) t2 (k + 1) sc B b0 (by rw [G1 _ _ _ (by omega), fj _ _ _ (by omega) (by omega)]; exact b2) (fun i hi => by rw [G1 _ _ _ (by omega), fj _ _ _ (by omega) (by omega)]; exact hB6 i hi)
          have ms' : den (9, 8, 19, 0, [some (vr 0 56), none, none], [], mkH M1 (tS t1 n (some (k + 1, 0))) t2 (k + 1) sc) = some (some (vi (nI (mkF B 0 L))), mkH M1 (tS t1 n (some (k + 1, 0))) t2 (k + 1) sc) := ms
          obtain ⟨⟨-, pd10, -, pd63⟩, pd14⟩ := mq _ _ _ _ _ _ _ er
          rw [p2] at pd10 pd63
          have pd14' := pd14 rfl
          rw [p3] at pd14'
          have j57 : J 0 57 0 = nI n := by rw [fj _ _ _ (by omega) (by omega)]; exact c0
          obtain ⟨M5, e5, v0, v1, v2, v3, v4, v5, v6, G5⟩ := m_row 9 (uI M1 0 56 8 0) (tS t1 n (some (k + 1, 0))) t2 (k + 1) sc (n := n) (mk := mkF B 0 L) (a1 := a1) (a2 := a2) (D1 := D1) (D2 := D2) l8 (by omega) (by rw [uI_ne (by omega), G1 _ _ _ (by omega)]; exact j57) (by rw [uI_ne (by omega)]; exact pd10) (by rw [uI_ne (by omega)]; exact pd14') (pd63.keep (fun j hj => uI_ne (by omega)))
          have f5 : ∀ g j i, ¬ Gb g j i → ¬ (g = 0 ∧ ((j = 56 ∧ i = 8) ∨ (j = 57 ∧ (i = 0 ∨ (105 + 45 * n ≤ i ∧ i < 105 + 45 * n + 45))))) → M5 g j i = J g j i := fun g j i hg h => by
            unfold Gb at hg
            rw [G5 _ _ _ (by omega), uI_ne (by omega), G1 _ _ _ (by omega)]
          have f5k : ∀ j i, M5 (k + 1) j i = K3 (k + 1) j i := fun j i => by rw [G5 _ _ _ (by omega), uI_ne (by omega), G1 _ _ _ (by omega)]; exact fk j i
          have f50 : ∀ j i, j < 56 → M5 0 j i = J 0 j i := fun j i h => by rw [G5 _ _ _ (by omega), uI_ne (by omega), G1 _ _ _ (by omega)]
          refine ⟨nI n, J, M5, tS t1 n (some (k + 1, 0)), t2, k + 1, ?_, ?_, hI.more l8 c0 ⟨0, by omega, ?_, ?_, fun i hi => by omega⟩ v0 ?_ ?_ ?_, by omega⟩
          · rw [← hJ]
            have n10 := m1_lt
            simp (disch := omega) only [bnd, bnd0, ↓cdec, ↓cnot, ↓reduceIte, Bo_0, Bo_1, ↓Bo_ok, i10, i01, eq_self, decide_true, decide_false, Bool.or_true, Bool.true_or, Bool.or_false, Bool.false_or, cond_true, cond_false, not_true_eq_false, not_false_eq_true, Bool.false_eq_true, and_self, and_true, true_and, and_false, false_and, nI_clamp, ↓inbc, inb_n, nI_pos, nI_1, b7_3_0, b7_3_4, b7_3_7, b7_3_14, b7_3_24, b7_3_46, b7_3_53, q7_64, q7_82, b7_3_87, b7_3_89, x_isKind, x_within, k32_1, k32_99, h1, h2, c0', lt_8, l8, e1', n10, e3', xa]
          · have n10 := m1_lt
            simp (disch := omega) only [bnd, bnd0, ↓cdec, ↓cnot, ↓reduceIte, Bo_0, Bo_1, ↓Bo_ok, i10, i01, eq_self, decide_true, decide_false, Bool.or_true, Bool.true_or, Bool.or_false, Bool.false_or, cond_true, cond_false, not_true_eq_false, not_false_eq_true, Bool.false_eq_true, and_self, and_true, true_and, and_false, false_and, nI_clamp, ↓inbc, inb_n, nI_pos, nI_1, b8_20_0, b8_20_9, b8_20_12, b8_20_21, b8_20_31, b8_20_49, b8_20_53, b8_20_58, m_in32, k64_0, k64_6, k64_1, k64_99, h1, h2, j57, eq_8, h8, m1', ms', n10]
            exact e5
          · rw [f50 _ _ (by omega), ← hJ, uI_at (by omega)]; rfl
          · rw [G5 _ _ _ (by omega), uI_at (by omega)]; rfl
          · rw [f50 _ _ (by omega), ← hJ, uI_ne (by omega), uI_at (by omega)]
          · have k6 : M5 0 6 n = a1 := by rw [f50 _ _ (by omega), ← hJ, uI_ne (by omega), uI_ne (by omega), uI_ne (by omega), uI_at (by omega)]
            have k7 : M5 0 7 n = a2 := by rw [f50 _ _ (by omega), ← hJ, uI_ne (by omega), uI_ne (by omega), uI_at (by omega)]
            obtain ⟨w1, hw1, rfl⟩ := nat_of (x := a1) (m := 7) h1.1 (by omega) (by omega)
            obtain ⟨w2, hw2, rfl⟩ := nat_of (x := a2) (m := 100) (by omega) (by omega) (by omega)
            have hw2' : 1 ≤ w2 := by
              have := h2.1
              rw [nI_toInt (by omega)] at this
              omega
            refine ⟨k6.trans v1.symm, ⟨w1, by omega, by omega, v1⟩, k7.trans v2.symm, ⟨w2, by omega, by omega, v2⟩, k, by omega, rfl, ?_⟩
            refine text_new (D1 := D1) (D2 := D2) ?_ ?_ v4 v5 ?_ ?_ ?_ ?_ ?_ hh1 hh2 (by omega) ?_
            · rw [f5k]; exact q4.trans v3.symm
            · exact ⟨mkF B 0 L, by omega, by omega, v3⟩
            · rw [f5k]; exact q5
            · rw [f5k]; exact q6
            · exact q7.keep (fun j hj => f5k _ _)
            · exact q8.keep (fun j hj => f5k _ _)
            · exact v6.keep (fun j hj => by
                show M5 0 57 (105 + 45 * n + (2 + (3 + j))) = M5 0 57 (105 + 45 * n + 5 + j)
                rw [show 105 + 45 * n + (2 + (3 + j)) = 105 + 45 * n + 5 + j by omega])
            · intro x hx
              rw [f5k, f5k]; exact q9 x hx
          · intro g j i hg hk h
            rw [f5 _ _ _ hg (by omega), fj _ _ _ hk (by omega)]
    · refine ⟨-1000001, uI I 0 47 0 (I 0 47 0 + 1), _, t1, t2, k, ?_, ?_, hI.find (f := 0) (by omega), by omega⟩
      · simp (disch := omega) only [bnd, bnd0, ↓cdec, ↓cnot, ↓reduceIte, Bo_0, Bo_1, ↓Bo_ok, i10, i01, eq_self, decide_true, decide_false, Bool.or_true, Bool.true_or, Bool.or_false, Bool.false_or, cond_true, cond_false, not_true_eq_false, not_false_eq_true, Bool.false_eq_true, and_self, and_true, true_and, and_false, false_and, nI_clamp, ↓inbc, inb_n, nI_pos, nI_1, b7_3_0, b7_3_4, b7_3_7, b7_3_14, b7_3_17, b7_3_23, x_isKind, x_within, k32_1, k32_99, h1, h2, x_f0]
      · simp (disch := omega) only [bnd, bnd0, ↓cdec, ↓cnot, ↓reduceIte, Bo_0, Bo_1, ↓Bo_ok, i10, i01, eq_self, decide_true, decide_false, Bool.or_true, Bool.true_or, Bool.or_false, Bool.false_or, cond_true, cond_false, not_true_eq_false, not_false_eq_true, Bool.false_eq_true, and_self, and_true, true_and, and_false, false_and, nI_clamp, ↓inbc, inb_n, nI_pos, nI_1, b8_20_0, b8_20_9, b8_20_12, b8_20_21, b8_20_24, b8_20_30, m_in32, k64_0, k64_6, k64_1, k64_99, h1, h2, m_f0]
  · refine ⟨-1000001, uI I 0 47 0 (I 0 47 0 + 1), _, t1, t2, k, ?_, ?_, hI.find (f := 0) (by omega), by omega⟩
    · simp (disch := omega) only [bnd, bnd0, ↓cdec, ↓cnot, ↓reduceIte, Bo_0, Bo_1, ↓Bo_ok, i10, i01, eq_self, decide_true, decide_false, Bool.or_true, Bool.true_or, Bool.or_false, Bool.false_or, cond_true, cond_false, not_true_eq_false, not_false_eq_true, Bool.false_eq_true, and_self, and_true, true_and, and_false, false_and, nI_clamp, ↓inbc, inb_n, nI_pos, nI_1, b7_3_0, b7_3_4, b7_3_17, b7_3_23, x_isKind, h1, x_f0]
    · simp (disch := omega) only [bnd, bnd0, ↓cdec, ↓cnot, ↓reduceIte, Bo_0, Bo_1, ↓Bo_ok, i10, i01, eq_self, decide_true, decide_false, Bool.or_true, Bool.true_or, Bool.or_false, Bool.false_or, cond_true, cond_false, not_true_eq_false, not_false_eq_true, Bool.false_eq_true, and_self, and_true, true_and, and_false, false_and, nI_clamp, ↓inbc, inb_n, nI_pos, nI_1, b8_20_0, b8_20_9, b8_20_24, b8_20_30, m_in32, k64_0, k64_6, h1, m_f0]
