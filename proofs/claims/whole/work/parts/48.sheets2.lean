/-! sheets: copy, load -/
def hr (n : Nat) (x y : Int32) : Prop := 0 ≤ x.toInt ∧ 0 ≤ y.toInt ∧ x.toInt + y.toInt ≤ n
theorem hr_nat {n : Nat} {x y : Int32} (hn : n ≤ 40) (h : hr n x y) : ∃ a c : Nat, a + c ≤ n ∧ x = nI a ∧ y = nI c := by
  obtain ⟨h1, h2, h3⟩ := h
  obtain ⟨a, ha, rfl⟩ := nat_of (x := x) (m := 41) h1 (by omega) (by omega)
  obtain ⟨c, hc, rfl⟩ := nat_of (x := y) (m := 41) h2 (by omega) (by omega)
  rw [nI_toInt (by omega), nI_toInt (by omega)] at h3
  exact ⟨a, c, by omega, rfl, rfl⟩
theorem sub_toInt {n : Nat} (hn : n ≤ 40) {x : Int32} (h : 0 ≤ x.toInt) : (nI n - x).toInt = (n : Int) - x.toInt := by
  have h2 : x.toInt < 2147483648 := Int32.toInt_lt x
  rw [Int32.toInt_sub, nI_toInt (by omega)]
  exact Int.bmod_eq_of_le (by omega) (by omega)
section
variable (d : Nat) (I : IFn) (t1 t2 : TFn) (k : Nat) (sc : Nat × (Nat → Int32))
theorem x_hasRun {q n : Nat} (hq : q = 48 ∨ q = 50 ∨ q = 52 ∨ q = 54) (hn : n ≤ 40) (h2 : I 0 q 2 = nI n) (x y : Int32) [Decidable (hr n x y)] : den (d, 1, 5, 0, [some (vr 0 q), some (vi x), some (vi y)], [], mkH I t1 t2 k sc) = some (some (vi (Bo (hr n x y))), mkH I t1 t2 k sc) := by
  by_cases c1 : x < 0
  · rw [Bo_f (fun z => by have := lt0 c1; have := z.1; omega)]
    simp (disch := omega) only [bnd, bnd0, ↓cdec, ↓cnot, ↓reduceIte, Bo_0, Bo_1, ↓Bo_ok, i10, i01, eq_self, decide_true, decide_false, Bool.or_true, Bool.true_or, Bool.or_false, Bool.false_or, cond_true, cond_false, not_true_eq_false, not_false_eq_true, and_self, and_true, true_and, and_false, false_and, nI_clamp, ↓inbc, inb_n, nI_pos, nI_1, b1_5_0, b1_5_4, b1_5_8, b1_5_16, b1_5_26, b1_5_30, b1_5_31, c1]
  · by_cases c2 : y < 0
    · rw [Bo_f (fun z => by have := lt0 c2; have := z.2.1; omega)]
      simp (disch := omega) only [bnd, bnd0, ↓cdec, ↓cnot, ↓reduceIte, Bo_0, Bo_1, ↓Bo_ok, i10, i01, eq_self, decide_true, decide_false, Bool.or_true, Bool.true_or, Bool.or_false, Bool.false_or, cond_true, cond_false, not_true_eq_false, not_false_eq_true, and_self, and_true, true_and, and_false, false_and, nI_clamp, ↓inbc, inb_n, nI_pos, nI_1, b1_5_0, b1_5_4, b1_5_8, b1_5_16, b1_5_26, b1_5_30, b1_5_31, c1, c2]
    · have g1 := nlt0 c1
      have g2 := nlt0 c2
      by_cases c3 : nI n < x
      · have g3 := Int32.lt_iff_toInt_lt.mp c3
        rw [nI_toInt (by omega)] at g3
        rw [Bo_f (fun z => by have := z.2.2; omega)]
        simp (disch := omega) only [bnd, bnd0, ↓cdec, ↓cnot, ↓reduceIte, Bo_0, Bo_1, ↓Bo_ok, i10, i01, eq_self, decide_true, decide_false, Bool.or_true, Bool.true_or, Bool.or_false, Bool.false_or, cond_true, cond_false, not_true_eq_false, not_false_eq_true, and_self, and_true, true_and, and_false, false_and, nI_clamp, ↓inbc, inb_n, nI_pos, nI_1, b1_5_0, b1_5_4, b1_5_8, b1_5_16, b1_5_26, b1_5_30, b1_5_31, c1, c2, h2, c3]
      · have g3 : ¬ ((n : Int) < x.toInt) := fun z => c3 (Int32.lt_iff_toInt_lt.mpr (by rw [nI_toInt (by omega)]; exact z))
        by_cases c4 : nI n - x < y
        · have g4 := Int32.lt_iff_toInt_lt.mp c4
          rw [sub_toInt hn g1] at g4
          rw [Bo_f (fun z => by have := z.2.2; omega)]
          simp (disch := omega) only [bnd, bnd0, ↓cdec, ↓cnot, ↓reduceIte, Bo_0, Bo_1, ↓Bo_ok, i10, i01, eq_self, decide_true, decide_false, Bool.or_true, Bool.true_or, Bool.or_false, Bool.false_or, cond_true, cond_false, not_true_eq_false, not_false_eq_true, and_self, and_true, true_and, and_false, false_and, nI_clamp, ↓inbc, inb_n, nI_pos, nI_1, b1_5_0, b1_5_4, b1_5_8, b1_5_16, b1_5_26, b1_5_30, b1_5_31, c1, c2, h2, c3, c4]
        · have g4 : ¬ ((n : Int) - x.toInt < y.toInt) := fun z => c4 (Int32.lt_iff_toInt_lt.mpr (by rw [sub_toInt hn g1]; exact z))
          rw [Bo_t ⟨g1, g2, by omega⟩]
          simp (disch := omega) only [bnd, bnd0, ↓cdec, ↓cnot, ↓reduceIte, Bo_0, Bo_1, ↓Bo_ok, i10, i01, eq_self, decide_true, decide_false, Bool.or_true, Bool.true_or, Bool.or_false, Bool.false_or, cond_true, cond_false, not_true_eq_false, not_false_eq_true, and_self, and_true, true_and, and_false, false_and, nI_clamp, ↓inbc, inb_n, nI_pos, nI_1, b1_5_0, b1_5_4, b1_5_8, b1_5_16, b1_5_26, b1_5_30, b1_5_31, c1, c2, h2, c3, c4]
theorem m_copy_no {s t n m : Nat} (hs : s < 4) (ht : t < 4) (hn : n ≤ 40) (hm : m ≤ 40) (h2 : I 0 68 s = nI n) (h3 : I 0 68 t = nI m) {x z y : Int32} (hno : ¬ (hr n x y ∧ hr m z y)) : den (d + 1, 8, 74, 68, [some (vr 0 56), some (vi (nI s)), some (vi x), some (vi (nI t)), some (vi z), some (vi y), none], [], mkH I t1 t2 k sc) = den (d + 1, 8, 74, 109, [some (vr 0 56), some (vi (nI s)), some (vi x), some (vi (nI t)), some (vi z), some (vi y), none], [], mkH I t1 t2 k sc) := by
  by_cases c1 : x < 0
  · simp (disch := omega) only [bnd, bnd0, ↓cdec, ↓cnot, ↓reduceIte, Bo_0, Bo_1, ↓Bo_ok, i10, i01, eq_self, decide_true, decide_false, Bool.or_true, Bool.true_or, Bool.or_false, Bool.false_or, cond_true, cond_false, not_true_eq_false, not_false_eq_true, and_self, and_true, true_and, and_false, false_and, nI_clamp, ↓inbc, inb_n, nI_pos, nI_1, b8_74_68, c1]
  · by_cases c2 : z < 0
    · simp (disch := omega) only [bnd, bnd0, ↓cdec, ↓cnot, ↓reduceIte, Bo_0, Bo_1, ↓Bo_ok, i10, i01, eq_self, decide_true, decide_false, Bool.or_true, Bool.true_or, Bool.or_false, Bool.false_or, cond_true, cond_false, not_true_eq_false, not_false_eq_true, and_self, and_true, true_and, and_false, false_and, nI_clamp, ↓inbc, inb_n, nI_pos, nI_1, b8_74_68, b8_74_72, c1, c2]
    · by_cases c3 : y < 0
      · simp (disch := omega) only [bnd, bnd0, ↓cdec, ↓cnot, ↓reduceIte, Bo_0, Bo_1, ↓Bo_ok, i10, i01, eq_self, decide_true, decide_false, Bool.or_true, Bool.true_or, Bool.or_false, Bool.false_or, cond_true, cond_false, not_true_eq_false, not_false_eq_true, and_self, and_true, true_and, and_false, false_and, nI_clamp, ↓inbc, inb_n, nI_pos, nI_1, b8_74_68, b8_74_72, b8_74_77, c1, c2, c3]
      · have g1 := nlt0 c1
        have g2 := nlt0 c2
        have g3 := nlt0 c3
        by_cases c4 : nI n - x < y
        · simp (disch := omega) only [bnd, bnd0, ↓cdec, ↓cnot, ↓reduceIte, Bo_0, Bo_1, ↓Bo_ok, i10, i01, eq_self, decide_true, decide_false, Bool.or_true, Bool.true_or, Bool.or_false, Bool.false_or, cond_true, cond_false, not_true_eq_false, not_false_eq_true, and_self, and_true, true_and, and_false, false_and, nI_clamp, ↓inbc, inb_n, nI_pos, nI_1, b8_74_68, b8_74_72, b8_74_77, b8_74_82, c1, c2, c3, h2, c4]
        · have g4 : ¬ ((n : Int) - x.toInt < y.toInt) := fun w => c4 (Int32.lt_iff_toInt_lt.mpr (by rw [sub_toInt hn g1]; exact w))
          by_cases c5 : nI m - z < y
          · simp (disch := omega) only [bnd, bnd0, ↓cdec, ↓cnot, ↓reduceIte, Bo_0, Bo_1, ↓Bo_ok, i10, i01, eq_self, decide_true, decide_false, Bool.or_true, Bool.true_or, Bool.or_false, Bool.false_or, cond_true, cond_false, not_true_eq_false, not_false_eq_true, and_self, and_true, true_and, and_false, false_and, nI_clamp, ↓inbc, inb_n, nI_pos, nI_1, b8_74_68, b8_74_72, b8_74_77, b8_74_82, b8_74_95, c1, c2, c3, h2, h3, c4, c5]
          · have g5 : ¬ ((m : Int) - z.toInt < y.toInt) := fun w => c5 (Int32.lt_iff_toInt_lt.mpr (by rw [sub_toInt hm g2]; exact w))
            exact absurd ⟨⟨g1, g3, by omega⟩, ⟨g2, g3, by omega⟩⟩ hno
theorem m_copy_ok {s t n m a c w : Nat} (hs : s < 4) (ht : t < 4) (hn : n ≤ 40) (hm : m ≤ 40) (h2 : I 0 68 s = nI n) (h3 : I 0 68 t = nI m) (hac : a + w ≤ n) (hcw : c + w ≤ m) : ∃ J, den (d + 1, 8, 74, 68, [some (vr 0 56), some (vi (nI s)), some (vi (nI a)), some (vi (nI t)), some (vi (nI c)), some (vi (nI w)), none], [], mkH I t1 t2 k sc) = some (some (vi (nI w)), mkH (J) t1 t2 k sc) ∧ (∀ i, i < w → J 0 69 (40 * t + c + i) = I 0 69 (40 * s + a + i)) ∧ ∀ g j i, ¬ (g = 0 ∧ (j = 70 ∨ (j = 69 ∧ 40 * t + c ≤ i ∧ i < 40 * t + c + w))) → J g j i = I g j i := by
  obtain ⟨J1, e1, q1, q2⟩ := lpE (fun p J => den (d + 1, 8, 74, 119, [some (vr 0 56), some (vi (nI s)), some (vi (nI a)), some (vi (nI t)), some (vi (nI c)), some (vi (nI w)), some (vi (nI p))], [], mkH (J) t1 t2 k sc))
    (fun p J => (∀ i, i < p → J 0 70 i = I 0 69 (40 * s + a + i)) ∧ ∀ g j i, ¬ (g = 0 ∧ j = 70) → J g j i = I g j i) (N := w)
    (by
      intro p J hp ⟨r1, r2⟩
      have hlt : nI p < nI w := nI_lt hp (by omega)
      refine ⟨uI J 0 70 p (J 0 69 (40 * s + a + p)), ?_, fun i hi => ?_, fun g j i h => ?_⟩
      · rw [b8_74_119]
        simp (disch := omega) only [bnd, bnd0, ↓cdec, ↓cnot, ↓reduceIte, Bo_0, Bo_1, ↓Bo_ok, i10, i01, eq_self, decide_true, decide_false, Bool.or_true, Bool.true_or, Bool.or_false, Bool.false_or, cond_true, cond_false, not_true_eq_false, not_false_eq_true, and_self, and_true, true_and, and_false, false_and, nI_clamp, ↓inbc, inb_n, nI_pos, nI_1, hlt, b8_74_126, mul40, nI_add]
      · by_cases e : i = p
        · subst e; rw [uI_at (by omega), r2 _ _ _ (by omega)]
        · rw [uI_ne (by omega)]; exact r1 i (by omega)
      · rw [uI_ne (by omega)]; exact r2 g j i h) 0 I (by omega) ⟨fun i hi => by omega, fun g j i h => rfl⟩
  obtain ⟨J2, e2, p1, p2, p3⟩ := lpE (fun p J => den (d + 1, 8, 74, 156, [some (vr 0 56), some (vi (nI s)), some (vi (nI a)), some (vi (nI t)), some (vi (nI c)), some (vi (nI w)), some (vi (nI p))], [], mkH (J) t1 t2 k sc))
    (fun p J => (∀ i, i < p → J 0 69 (40 * t + c + i) = I 0 69 (40 * s + a + i)) ∧ (∀ i, i < w → J 0 70 i = I 0 69 (40 * s + a + i)) ∧ ∀ g j i, ¬ (g = 0 ∧ (j = 70 ∨ (j = 69 ∧ 40 * t + c ≤ i ∧ i < 40 * t + c + w))) → J g j i = I g j i) (N := w)
    (by
      intro p J hp ⟨r1, r2, r3⟩
      have hlt : nI p < nI w := nI_lt hp (by omega)
      refine ⟨uI J 0 69 (40 * t + c + p) (J 0 70 p), ?_, fun i hi => ?_, fun i hi => ?_, fun g j i h => ?_⟩
      · rw [b8_74_156]
        simp (disch := omega) only [bnd, bnd0, ↓cdec, ↓cnot, ↓reduceIte, Bo_0, Bo_1, ↓Bo_ok, i10, i01, eq_self, decide_true, decide_false, Bool.or_true, Bool.true_or, Bool.or_false, Bool.false_or, cond_true, cond_false, not_true_eq_false, not_false_eq_true, and_self, and_true, true_and, and_false, false_and, nI_clamp, ↓inbc, inb_n, nI_pos, nI_1, hlt, b8_74_163, mul40, nI_add]
      · by_cases e : i = p
        · subst e; rw [uI_at (by omega), r2 _ (by omega)]
        · rw [uI_ne (by omega)]; exact r1 i (by omega)
      · rw [uI_ne (by omega)]; exact r2 i hi
      · rw [uI_ne (by omega)]; exact r3 g j i h) 0 J1 (by omega) ⟨fun i hi => by omega, q1, fun g j i h => q2 _ _ _ (by omega)⟩
  refine ⟨J2, ?_, p1, p3⟩
  have d1 : ¬ nI n - nI a < nI w := by rw [pk_sub (by omega)]; exact nI_nlt (by omega) (by omega)
  have d2 : ¬ nI m - nI c < nI w := by rw [pk_sub (by omega)]; exact nI_nlt (by omega) (by omega)
  have hge : ¬ nI w < nI w := nI_nlt (Nat.le_refl _) (by omega)
  simp (disch := omega) only [bnd, bnd0, ↓cdec, ↓cnot, ↓reduceIte, Bo_0, Bo_1, ↓Bo_ok, i10, i01, eq_self, decide_true, decide_false, Bool.or_true, Bool.true_or, Bool.or_false, Bool.false_or, cond_true, cond_false, not_true_eq_false, not_false_eq_true, and_self, and_true, true_and, and_false, false_and, nI_clamp, ↓inbc, inb_n, nI_pos, nI_1, b8_74_68, b8_74_72, b8_74_77, b8_74_82, b8_74_95, b8_74_116, h2, h3, d1, d2]
  refine Eq.trans e1 ?_
  rw [b8_74_119]
  simp (disch := omega) only [bnd, bnd0, ↓cdec, ↓cnot, ↓reduceIte, Bo_0, Bo_1, ↓Bo_ok, i10, i01, eq_self, decide_true, decide_false, Bool.or_true, Bool.true_or, Bool.or_false, Bool.false_or, cond_true, cond_false, not_true_eq_false, not_false_eq_true, and_self, and_true, true_and, and_false, false_and, nI_clamp, ↓inbc, inb_n, nI_pos, nI_1, hge, b8_74_153]
  refine Eq.trans e2 ?_
  rw [b8_74_156]
  simp (disch := omega) only [bnd, bnd0, ↓cdec, ↓cnot, ↓reduceIte, Bo_0, Bo_1, ↓Bo_ok, i10, i01, eq_self, decide_true, decide_false, Bool.or_true, Bool.true_or, Bool.or_false, Bool.false_or, cond_true, cond_false, not_true_eq_false, not_false_eq_true, and_self, and_true, true_and, and_false, false_and, nI_clamp, ↓inbc, inb_n, nI_pos, nI_1, hge, b8_74_191]
end
/-- copy -/
theorem ok_33 : op_33 Inv := by
  intro a1 a2 a3 a4 a5 I t1 t2 k sc hI
  by_cases h1 : 0 ≤ a1.toInt ∧ a1.toInt ≤ 3
  · by_cases h3 : 0 ≤ a3.toInt ∧ a3.toInt ≤ 3
    · obtain ⟨s, hs, rfl⟩ := nat_of (x := a1) (m := 4) h1.1 (by omega) (by omega)
      obtain ⟨t, ht, rfl⟩ := nat_of (x := a3) (m := 4) h3.1 (by omega) (by omega)
      obtain ⟨b, n, hb, hn, x1, m1, x2, m2, hrow⟩ := hI.2.2.1 s hs
      obtain ⟨b', n', hb', hn', x1', m1', x2', m2', hrow'⟩ := hI.2.2.1 t ht
      have hxA : ∀ I, den (10, 7, 34, 0, [some (vr 0 0), some (vi (nI s)), some (vi a2), some (vi (nI t)), some (vi a4), some (vi a5), none, none], [], mkH I t1 t2 k sc) = den (9 + 1, 7, 34, 37, [some (vr 0 0), some (vi (nI s)), some (vi a2), some (vi (nI t)), some (vi a4), some (vi a5), some (vr 0 (48 + 2 * s)), none], [vr 0 (48 + 2 * t)], mkH I t1 t2 k sc) := by
        intro I
        simp (disch := omega) only [bnd, bnd0, ↓cdec, ↓cnot, ↓reduceIte, Bo_0, Bo_1, ↓Bo_ok, i10, i01, eq_self, decide_true, decide_false, Bool.or_true, Bool.true_or, Bool.or_false, Bool.false_or, cond_true, cond_false, not_true_eq_false, not_false_eq_true, and_self, and_true, true_and, and_false, false_and, nI_clamp, ↓inbc, inb_n, nI_pos, nI_1, b7_34_0, b7_34_5, b7_34_8, b7_34_13, b7_34_23, b7_34_29, x_isSheet, h1, h3, rR45]
      have hmA : ∀ I, den (10, 8, 74, 0, [some (vr 0 56), some (vi (nI s)), some (vi a2), some (vi (nI t)), some (vi a4), some (vi a5), none], [], mkH I t1 t2 k sc) = den (9 + 1, 8, 74, 21, [some (vr 0 56), some (vi (nI s)), some (vi a2), some (vi (nI t)), some (vi a4), some (vi a5), none], [], mkH I t1 t2 k sc) := by
        intro I
        simp (disch := omega) only [bnd, bnd0, ↓cdec, ↓cnot, ↓reduceIte, Bo_0, Bo_1, ↓Bo_ok, i10, i01, eq_self, decide_true, decide_false, Bool.or_true, Bool.true_or, Bool.or_false, Bool.false_or, cond_true, cond_false, not_true_eq_false, not_false_eq_true, and_self, and_true, true_and, and_false, false_and, nI_clamp, ↓inbc, inb_n, nI_pos, nI_1, b8_74_0, b8_74_4, b8_74_7, b8_74_11, m_isOne, h1, h3]
      by_cases hb0 : b = 0 ∨ b' = 0
      · refine ⟨-1000006, uI I 0 47 5 (I 0 47 5 + 1), _, t1, t2, k, (hxA I).trans ?_, (hmA _).trans ?_, hI.find (f := 5) (by omega), by omega⟩
        · by_cases e : b = 0
          · simp (disch := omega) only [bnd, bnd0, ↓cdec, ↓cnot, ↓reduceIte, Bo_0, Bo_1, ↓Bo_ok, i10, i01, eq_self, decide_true, decide_false, Bool.or_true, Bool.true_or, Bool.or_false, Bool.false_or, cond_true, cond_false, not_true_eq_false, not_false_eq_true, and_self, and_true, true_and, and_false, false_and, nI_clamp, ↓inbc, inb_n, nI_pos, nI_1, b7_34_37, b7_34_44, b7_34_55, b7_34_61, x_isMissing, x1, eq_0, e, x_f5]
          · have e' := hb0.resolve_left e
            simp (disch := omega) only [bnd, bnd0, ↓cdec, ↓cnot, ↓reduceIte, Bo_0, Bo_1, ↓Bo_ok, i10, i01, eq_self, decide_true, decide_false, Bool.or_true, Bool.true_or, Bool.or_false, Bool.false_or, cond_true, cond_false, not_true_eq_false, not_false_eq_true, and_self, and_true, true_and, and_false, false_and, nI_clamp, ↓inbc, inb_n, nI_pos, nI_1, b7_34_37, b7_34_44, b7_34_47, b7_34_52, b7_34_55, b7_34_61, x_isMissing, x1, x1', eq_0, e, e', x_f5]
        · by_cases e : b = 0
          · simp (disch := omega) only [bnd, bnd0, ↓cdec, ↓cnot, ↓reduceIte, Bo_0, Bo_1, ↓Bo_ok, i10, i01, eq_self, decide_true, decide_false, Bool.or_true, Bool.true_or, Bool.or_false, Bool.false_or, cond_true, cond_false, not_true_eq_false, not_false_eq_true, and_self, and_true, true_and, and_false, false_and, nI_clamp, ↓inbc, inb_n, nI_pos, nI_1, b8_74_21, b8_74_39, b8_74_45, uI_ne, m1, eq_0, e, m_f5]
          · have e' := hb0.resolve_left e
            simp (disch := omega) only [bnd, bnd0, ↓cdec, ↓cnot, ↓reduceIte, Bo_0, Bo_1, ↓Bo_ok, i10, i01, eq_self, decide_true, decide_false, Bool.or_true, Bool.true_or, Bool.or_false, Bool.false_or, cond_true, cond_false, not_true_eq_false, not_false_eq_true, and_self, and_true, true_and, and_false, false_and, nI_clamp, ↓inbc, inb_n, nI_pos, nI_1, b8_74_21, b8_74_30, b8_74_39, b8_74_45, uI_ne, m1, m1', eq_0, e, e', m_f5]
      · have e : ¬ b = 0 := fun q => hb0 (Or.inl q)
        have e' : ¬ b' = 0 := fun q => hb0 (Or.inr q)
        by_cases hbb : nI b = nI b'
        · have hxB : den (9 + 1, 7, 34, 37, [some (vr 0 0), some (vi (nI s)), some (vi a2), some (vi (nI t)), some (vi a4), some (vi a5), some (vr 0 (48 + 2 * s)), none], [vr 0 (48 + 2 * t)], mkH I t1 t2 k sc) = den (9 + 1, 7, 34, 82, [some (vr 0 0), some (vi (nI s)), some (vi a2), some (vi (nI t)), some (vi a4), some (vi a5), some (vr 0 (48 + 2 * s)), some (vr 0 (48 + 2 * t))], [], mkH I t1 t2 k sc) := by
            simp (disch := omega) only [bnd, bnd0, ↓cdec, ↓cnot, ↓reduceIte, Bo_0, Bo_1, ↓Bo_ok, i10, i01, eq_self, decide_true, decide_false, Bool.or_true, Bool.true_or, Bool.or_false, Bool.false_or, cond_true, cond_false, not_true_eq_false, not_false_eq_true, and_self, and_true, true_and, and_false, false_and, nI_clamp, ↓inbc, inb_n, nI_pos, nI_1, b7_34_37, b7_34_44, b7_34_47, b7_34_52, b7_34_62, x_isMissing, x1, x1', eq_0, e, e', hbb]
          have hmB : ∀ I, I 0 67 s = nI b → I 0 67 t = nI b' → den (9 + 1, 8, 74, 21, [some (vr 0 56), some (vi (nI s)), some (vi a2), some (vi (nI t)), some (vi a4), some (vi a5), none], [], mkH I t1 t2 k sc) = den (9 + 1, 8, 74, 68, [some (vr 0 56), some (vi (nI s)), some (vi a2), some (vi (nI t)), some (vi a4), some (vi a5), none], [], mkH I t1 t2 k sc) := by
            intro I z1 z2
            simp (disch := omega) only [bnd, bnd0, ↓cdec, ↓cnot, ↓reduceIte, Bo_0, Bo_1, ↓Bo_ok, i10, i01, eq_self, decide_true, decide_false, Bool.or_true, Bool.true_or, Bool.or_false, Bool.false_or, cond_true, cond_false, not_true_eq_false, not_false_eq_true, and_self, and_true, true_and, and_false, false_and, nI_clamp, ↓inbc, inb_n, nI_pos, nI_1, b8_74_21, b8_74_30, b8_74_46, z1, z2, eq_0, e, e', hbb]
          haveI : Decidable (hr n a2 a5) := Classical.propDecidable _
          haveI : Decidable (hr n' a4 a5) := Classical.propDecidable _
          have xr1 := x_hasRun 9 I t1 t2 k sc (show 48 + 2 * s = 48 ∨ 48 + 2 * s = 50 ∨ 48 + 2 * s = 52 ∨ 48 + 2 * s = 54 by omega) hn x2 a2 a5
          have xr2 := x_hasRun 9 I t1 t2 k sc (show 48 + 2 * t = 48 ∨ 48 + 2 * t = 50 ∨ 48 + 2 * t = 52 ∨ 48 + 2 * t = 54 by omega) hn' x2' a4 a5
          by_cases hrr : hr n a2 a5 ∧ hr n' a4 a5
          · obtain ⟨hr1, hr2⟩ := hrr
            obtain ⟨a, w, haw, rfl, rfl⟩ := hr_nat hn hr1
            obtain ⟨c, w', hcw, rfl, hww⟩ := hr_nat hn' hr2
            have hww : w = w' := (nI_eq (by omega) (by omega)).mp hww
            subst hww
            generalize hJ1 : uA I 0 (48 + 2 * t + 1) (va_cpy (I 0 (48 + 2 * s + 1)) (I 0 (48 + 2 * t + 1)) a c w) = J1
            have j1fr : ∀ g j i, ¬ (g = 0 ∧ j = 48 + 2 * t + 1) → J1 g j i = I g j i := by
              intro g j i h
              rw [← hJ1, uA_ne h]
            have u1 : J1 0 67 s = nI b := by rw [j1fr _ _ _ (by omega)]; exact m1
            have u1' : J1 0 67 t = nI b' := by rw [j1fr _ _ _ (by omega)]; exact m1'
            have u2 : J1 0 68 s = nI n := by rw [j1fr _ _ _ (by omega)]; exact m2
            have u2' : J1 0 68 t = nI n' := by rw [j1fr _ _ _ (by omega)]; exact m2'
            obtain ⟨J2, e2, q1, q2⟩ := m_copy_ok 9 J1 t1 t2 k sc hs ht hn hn' u2 u2' haw hcw
            refine ⟨nI w, J1, J2, t1, t2, k, (hxA I).trans (hxB.trans ?_), (hmA _).trans ((hmB J1 u1 u1').trans e2), hI.sheets ?_ ?_, by omega⟩
            · have hcnd : (!decide ((nI a : Int32) < 0) && !decide ((nI c : Int32) < 0) && !decide ((nI w : Int32) < 0) && decide ((nI a).toNatClampNeg + (nI w).toNatClampNeg ≤ 40) && decide ((nI c).toNatClampNeg + (nI w).toNatClampNeg ≤ 40)) = true := by
                have l1 : a + w ≤ 40 := by omega
                have l2 : c + w ≤ 40 := by omega
                simp (disch := omega) only [nI_pos, nI_clamp, decide_false, Bool.not_false, Bool.and_self, l1, l2, decide_true]
              simp (disch := omega) only [bnd, bnd0, ↓cdec, ↓cnot, ↓reduceIte, Bo_0, Bo_1, ↓Bo_ok, i10, i01, eq_self, decide_true, decide_false, Bool.or_true, Bool.true_or, Bool.or_false, Bool.false_or, cond_true, cond_false, not_true_eq_false, not_false_eq_true, and_self, and_true, true_and, and_false, false_and, nI_clamp, ↓inbc, inb_n, nI_pos, nI_1, b7_34_82, b7_34_90, b7_34_93, b7_34_102, xr1, xr2, hr1, hr2]
              rw [b7_34_112 9 (by omega) (by omega), hcnd, cond_true, nI_clamp (by omega), nI_clamp (by omega), nI_clamp (by omega), hJ1]
              simp (disch := omega) only [bnd, bnd0, ↓cdec, ↓cnot, ↓reduceIte, Bo_0, Bo_1, ↓Bo_ok, i10, i01, eq_self, decide_true, decide_false, Bool.or_true, Bool.true_or, Bool.or_false, Bool.false_or, cond_true, cond_false, not_true_eq_false, not_false_eq_true, and_self, and_true, true_and, and_false, false_and, nI_clamp, ↓inbc, inb_n, nI_pos, nI_1, b7_34_130]
            · intro s' hs'
              obtain ⟨b2, n2, z0, z1, z2, z3, z4, z5, z6⟩ := hI.2.2.1 s' hs'
              refine ⟨b2, n2, z0, z1, ?_, ?_, ?_, ?_, fun i hi => ?_⟩
              · rw [q2 _ _ _ (by omega), j1fr _ _ _ (by omega)]; exact z2
              · rw [q2 _ _ _ (by omega), j1fr _ _ _ (by omega)]; exact z3
              · rw [q2 _ _ _ (by omega), j1fr _ _ _ (by omega)]; exact z4
              · rw [q2 _ _ _ (by omega), j1fr _ _ _ (by omega)]; exact z5
              · by_cases es : s' = t
                · subst es
                  rw [q2 0 (49 + 2 * s') i (by omega), ← hJ1, uA_at (by omega)]
                  by_cases hin : c ≤ i ∧ i < c + w
                  · have g1 := q1 (i - c) (by omega)
                    rw [show 40 * s' + c + (i - c) = 40 * s' + i by omega] at g1
                    rw [g1, pk_cpy_in hin.1 hin.2, j1fr 0 69 _ (by omega)]
                    have g2 := hrow (a + (i - c)) (by omega)
                    rw [show 49 + 2 * s = 48 + 2 * s + 1 by omega] at g2
                    rw [g2, show 40 * s + (a + (i - c)) = 40 * s + a + (i - c) by omega]
                  · rw [pk_cpy_out (by omega), q2 0 69 _ (by omega), j1fr 0 69 _ (by omega)]
                    have g2 := hrow' i hi
                    rw [show 49 + 2 * s' = 48 + 2 * s' + 1 by omega] at g2
                    exact g2
                · rw [q2 0 (49 + 2 * s') i (by omega), j1fr _ _ _ (by omega), q2 0 69 _ (by omega), j1fr 0 69 _ (by omega)]; exact z6 i hi
            · intro g j i hg h
              unfold Gb at hg
              rw [q2 _ _ _ (by omega), j1fr _ _ _ (by omega)]
          · refine ⟨-1000001, uI I 0 47 0 (I 0 47 0 + 1), _, t1, t2, k, (hxA I).trans (hxB.trans ?_), (hmA _).trans ((hmB _ (by rw [uI_ne (by omega)]; exact m1) (by rw [uI_ne (by omega)]; exact m1')).trans ((m_copy_no 9 _ t1 t2 k sc hs ht hn hn' (by rw [uI_ne (by omega)]; exact m2) (by rw [uI_ne (by omega)]; exact m2') hrr).trans ?_)), hI.find (f := 0) (by omega), by omega⟩
            · by_cases hr1 : hr n a2 a5
              · have hr2 : ¬ hr n' a4 a5 := fun q => hrr ⟨hr1, q⟩
                simp (disch := omega) only [bnd, bnd0, ↓cdec, ↓cnot, ↓reduceIte, Bo_0, Bo_1, ↓Bo_ok, i10, i01, eq_self, decide_true, decide_false, Bool.or_true, Bool.true_or, Bool.or_false, Bool.false_or, cond_true, cond_false, not_true_eq_false, not_false_eq_true, and_self, and_true, true_and, and_false, false_and, nI_clamp, ↓inbc, inb_n, nI_pos, nI_1, b7_34_82, b7_34_90, b7_34_93, b7_34_102, b7_34_105, b7_34_111, xr1, xr2, hr1, hr2, x_f0]
              · simp (disch := omega) only [bnd, bnd0, ↓cdec, ↓cnot, ↓reduceIte, Bo_0, Bo_1, ↓Bo_ok, i10, i01, eq_self, decide_true, decide_false, Bool.or_true, Bool.true_or, Bool.or_false, Bool.false_or, cond_true, cond_false, not_true_eq_false, not_false_eq_true, and_self, and_true, true_and, and_false, false_and, nI_clamp, ↓inbc, inb_n, nI_pos, nI_1, b7_34_82, b7_34_90, b7_34_105, b7_34_111, xr1, hr1, x_f0]
            · simp (disch := omega) only [bnd, bnd0, ↓cdec, ↓cnot, ↓reduceIte, Bo_0, Bo_1, ↓Bo_ok, i10, i01, eq_self, decide_true, decide_false, Bool.or_true, Bool.true_or, Bool.or_false, Bool.false_or, cond_true, cond_false, not_true_eq_false, not_false_eq_true, and_self, and_true, true_and, and_false, false_and, nI_clamp, ↓inbc, inb_n, nI_pos, nI_1, b8_74_109, b8_74_115, m_f0]
        · refine ⟨-1000003, uI I 0 47 2 (I 0 47 2 + 1), _, t1, t2, k, (hxA I).trans ?_, (hmA _).trans ?_, hI.find (f := 2) (by omega), by omega⟩
          · simp (disch := omega) only [bnd, bnd0, ↓cdec, ↓cnot, ↓reduceIte, Bo_0, Bo_1, ↓Bo_ok, i10, i01, eq_self, decide_true, decide_false, Bool.or_true, Bool.true_or, Bool.or_false, Bool.false_or, cond_true, cond_false, not_true_eq_false, not_false_eq_true, and_self, and_true, true_and, and_false, false_and, nI_clamp, ↓inbc, inb_n, nI_pos, nI_1, b7_34_37, b7_34_44, b7_34_47, b7_34_52, b7_34_62, b7_34_75, b7_34_81, x_isMissing, x1, x1', eq_0, e, e', hbb, x_f2]
          · simp (disch := omega) only [bnd, bnd0, ↓cdec, ↓cnot, ↓reduceIte, Bo_0, Bo_1, ↓Bo_ok, i10, i01, eq_self, decide_true, decide_false, Bool.or_true, Bool.true_or, Bool.or_false, Bool.false_or, cond_true, cond_false, not_true_eq_false, not_false_eq_true, and_self, and_true, true_and, and_false, false_and, nI_clamp, ↓inbc, inb_n, nI_pos, nI_1, b8_74_21, b8_74_30, b8_74_46, b8_74_61, b8_74_67, uI_ne, m1, m1', eq_0, e, e', hbb, m_f2]
    · refine ⟨-1000001, uI I 0 47 0 (I 0 47 0 + 1), _, t1, t2, k, ?_, ?_, hI.find (f := 0) (by omega), by omega⟩
      · simp (disch := omega) only [bnd, bnd0, ↓cdec, ↓cnot, ↓reduceIte, Bo_0, Bo_1, ↓Bo_ok, i10, i01, eq_self, decide_true, decide_false, Bool.or_true, Bool.true_or, Bool.or_false, Bool.false_or, cond_true, cond_false, not_true_eq_false, not_false_eq_true, and_self, and_true, true_and, and_false, false_and, nI_clamp, ↓inbc, inb_n, nI_pos, nI_1, b7_34_0, b7_34_5, b7_34_8, b7_34_13, b7_34_16, b7_34_22, x_isSheet, h1, h3, x_f0]
      · simp (disch := omega) only [bnd, bnd0, ↓cdec, ↓cnot, ↓reduceIte, Bo_0, Bo_1, ↓Bo_ok, i10, i01, eq_self, decide_true, decide_false, Bool.or_true, Bool.true_or, Bool.or_false, Bool.false_or, cond_true, cond_false, not_true_eq_false, not_false_eq_true, and_self, and_true, true_and, and_false, false_and, nI_clamp, ↓inbc, inb_n, nI_pos, nI_1, b8_74_0, b8_74_4, b8_74_7, b8_74_11, b8_74_14, b8_74_20, m_isOne, h1, h3, m_f0]
  · refine ⟨-1000001, uI I 0 47 0 (I 0 47 0 + 1), _, t1, t2, k, ?_, ?_, hI.find (f := 0) (by omega), by omega⟩
    · simp (disch := omega) only [bnd, bnd0, ↓cdec, ↓cnot, ↓reduceIte, Bo_0, Bo_1, ↓Bo_ok, i10, i01, eq_self, decide_true, decide_false, Bool.or_true, Bool.true_or, Bool.or_false, Bool.false_or, cond_true, cond_false, not_true_eq_false, not_false_eq_true, and_self, and_true, true_and, and_false, false_and, nI_clamp, ↓inbc, inb_n, nI_pos, nI_1, b7_34_0, b7_34_5, b7_34_16, b7_34_22, x_isSheet, h1, x_f0]
    · simp (disch := omega) only [bnd, bnd0, ↓cdec, ↓cnot, ↓reduceIte, Bo_0, Bo_1, ↓Bo_ok, i10, i01, eq_self, decide_true, decide_false, Bool.or_true, Bool.true_or, Bool.or_false, Bool.false_or, cond_true, cond_false, not_true_eq_false, not_false_eq_true, and_self, and_true, true_and, and_false, false_and, nI_clamp, ↓inbc, inb_n, nI_pos, nI_1, b8_74_0, b8_74_4, b8_74_14, b8_74_20, m_isOne, h1, m_f0]
/-- load: the skills of the first p -/
def ldG (γ : Nat → Nat → Int32) (N : Nat → Int32) (p : Nat) : Nat → Nat → Int32 := fun a i => if a = 0 ∧ i < p then N i else γ a i
theorem ldG_in {γ : Nat → Nat → Int32} {N : Nat → Int32} {p a i : Nat} (h : a = 0 ∧ i < p) : ldG γ N p a i = N i := if_pos h
theorem ldG_out {γ : Nat → Nat → Int32} {N : Nat → Int32} {p a i : Nat} (h : ¬ (a = 0 ∧ i < p)) : ldG γ N p a i = γ a i := if_neg h
def in19 (x : Int32) : Prop := 1 ≤ x.toInt ∧ x.toInt ≤ 9
section
variable (d : Nat) (I : IFn) (t1 t2 : TFn) (k : Nat) (sc : Nat × (Nat → Int32))
theorem x_load {s n : Nat} (hs : s < 4) (hn : n ≤ 40) (h2 : I 0 (48 + 2 * s) 2 = nI n) (x : Int32) : ∀ m p J, p + m = 10 → p ≤ n → (∀ i, i < p → in19 (I 0 (49 + 2 * s) i)) → (∀ i, i < p → J 0 9 i = I 0 (49 + 2 * s) i) → (∀ g j i, ¬ (g = 0 ∧ j = 9 ∧ i < p) → J g j i = I g j i) → ∃ q J', q ≤ 10 ∧ q ≤ n ∧ den (d + 1, 7, 35, 38, [some (vr 0 0), some (vi x), some (vr 0 (48 + 2 * s)), some (vi (nI p))], [], mkH (J) t1 t2 k sc) = some (some (vi (nI q)), mkH (J') t1 t2 k sc) ∧ (∀ i, i < q → in19 (I 0 (49 + 2 * s) i)) ∧ ¬ (q < 10 ∧ q < n ∧ in19 (I 0 (49 + 2 * s) q)) ∧ (∀ i, i < q → J' 0 9 i = I 0 (49 + 2 * s) i) ∧ (∀ g j i, ¬ (g = 0 ∧ j = 9 ∧ i < q) → J' g j i = I g j i) := by
  intro m
  induction m with
  | zero =>
    intro p J hp hpn h1 h3 h4
    refine ⟨p, J, by omega, hpn, ?_, h1, by omega, h3, h4⟩
    have : ¬ p < 10 := by omega
    rw [b7_35_38]
    simp (disch := omega) only [bnd, bnd0, ↓cdec, ↓cnot, ↓reduceIte, Bo_0, Bo_1, ↓Bo_ok, i10, i01, eq_self, decide_true, decide_false, Bool.or_true, Bool.true_or, Bool.or_false, Bool.false_or, cond_true, cond_false, not_true_eq_false, not_false_eq_true, and_self, and_true, true_and, and_false, false_and, nI_clamp, ↓inbc, inb_n, nI_pos, nI_1, lt_10, this, b7_35_91]
  | succ m ih =>
    intro p J hp hpn h1 h3 h4
    have p10 : p < 10 := by omega
    have j2 : J 0 (48 + 2 * s) 2 = nI n := by rw [h4 _ _ _ (by omega)]; exact h2
    by_cases c1 : p < n
    · have c1' : nI p < nI n := nI_lt c1 (by omega)
      have jr : J 0 (48 + 2 * s + 1) p = I 0 (49 + 2 * s) p := by rw [h4 _ _ _ (by omega), show 48 + 2 * s + 1 = 49 + 2 * s by omega]
      by_cases c2 : in19 (I 0 (49 + 2 * s) p)
      · have c2' : 1 ≤ (I 0 (49 + 2 * s) p).toInt ∧ (I 0 (49 + 2 * s) p).toInt ≤ 9 := c2
        obtain ⟨q, J', g1, g2, g3, g4⟩ := ih (p + 1) (uI J 0 9 p (I 0 (49 + 2 * s) p)) (by omega) (by omega) (fun i hi => by
            by_cases e : i = p
            · subst e; exact c2
            · exact h1 i (by omega)) (fun i hi => by
            by_cases e : i = p
            · subst e; exact uI_at (by omega)
            · rw [uI_ne (by omega)]; exact h3 i (by omega)) (fun g j i h => by rw [uI_ne (by omega)]; exact h4 _ _ _ (by omega))
        refine ⟨q, J', g1, g2, ?_, g4⟩
        rw [b7_35_38]
        simp (disch := omega) only [bnd, bnd0, ↓cdec, ↓cnot, ↓reduceIte, Bo_0, Bo_1, ↓Bo_ok, i10, i01, eq_self, decide_true, decide_false, Bool.or_true, Bool.true_or, Bool.or_false, Bool.false_or, cond_true, cond_false, not_true_eq_false, not_false_eq_true, and_self, and_true, true_and, and_false, false_and, nI_clamp, ↓inbc, inb_n, nI_pos, nI_1, lt_10, p10, b7_35_44, b7_35_52, b7_35_64, b7_35_67, j2, c1', jr, x_within, k32_1, k32_9, c2']
        exact g3
      · have c2' : ¬ (1 ≤ (I 0 (49 + 2 * s) p).toInt ∧ (I 0 (49 + 2 * s) p).toInt ≤ 9) := c2
        refine ⟨p, J, by omega, hpn, ?_, h1, fun z => c2 z.2.2, h3, h4⟩
        rw [b7_35_38]
        simp (disch := omega) only [bnd, bnd0, ↓cdec, ↓cnot, ↓reduceIte, Bo_0, Bo_1, ↓Bo_ok, i10, i01, eq_self, decide_true, decide_false, Bool.or_true, Bool.true_or, Bool.or_false, Bool.false_or, cond_true, cond_false, not_true_eq_false, not_false_eq_true, and_self, and_true, true_and, and_false, false_and, nI_clamp, ↓inbc, inb_n, nI_pos, nI_1, lt_10, p10, b7_35_44, b7_35_52, b7_35_64, b7_35_91, j2, c1', jr, x_within, k32_1, k32_9, c2']
    · have c1' : ¬ nI p < nI n := nI_nlt (by omega) (by omega)
      refine ⟨p, J, by omega, hpn, ?_, h1, by omega, h3, h4⟩
      rw [b7_35_38]
      simp (disch := omega) only [bnd, bnd0, ↓cdec, ↓cnot, ↓reduceIte, Bo_0, Bo_1, ↓Bo_ok, i10, i01, eq_self, decide_true, decide_false, Bool.or_true, Bool.true_or, Bool.or_false, Bool.false_or, cond_true, cond_false, not_true_eq_false, not_false_eq_true, and_self, and_true, true_and, and_false, false_and, nI_clamp, ↓inbc, inb_n, nI_pos, nI_1, lt_10, p10, b7_35_44, b7_35_91, j2, c1']
theorem m_load {s n : Nat} (hs : s < 4) (hn : n ≤ 40) (h2 : I 0 68 s = nI n) (x : Int32) : ∀ m p J, p + m = 10 → p ≤ n → (∀ i, i < p → in19 (I 0 69 (40 * s + i))) → (∀ i, i < p → J 0 57 (5 + 9 * i + 0) = I 0 69 (40 * s + i)) → (∀ g j i, ¬ (g = 0 ∧ j = 57 ∧ ∃ z, z < p ∧ i = 5 + 9 * z + 0) → J g j i = I g j i) → ∃ q J', q ≤ 10 ∧ q ≤ n ∧ den (d + 1, 8, 75, 18, [some (vr 0 56), some (vi (nI s)), some (vi x), some (vi (nI p))], [], mkH (J) t1 t2 k sc) = some (some (vi (nI q)), mkH (J') t1 t2 k sc) ∧ (∀ i, i < q → in19 (I 0 69 (40 * s + i))) ∧ ¬ (q < 10 ∧ q < n ∧ in19 (I 0 69 (40 * s + q))) ∧ (∀ i, i < q → J' 0 57 (5 + 9 * i + 0) = I 0 69 (40 * s + i)) ∧ (∀ g j i, ¬ (g = 0 ∧ j = 57 ∧ ∃ z, z < q ∧ i = 5 + 9 * z + 0) → J' g j i = I g j i) := by
  intro m
  induction m with
  | zero =>
    intro p J hp hpn h1 h3 h4
    refine ⟨p, J, by omega, hpn, ?_, h1, by omega, h3, h4⟩
    have : ¬ p < 10 := by omega
    have j2 : J 0 68 s = nI n := by rw [h4 _ _ _ (by omega)]; exact h2
    rw [b8_75_18]
    by_cases c1 : nI p < nI n
    · simp (disch := omega) only [bnd, bnd0, ↓cdec, ↓cnot, ↓reduceIte, Bo_0, Bo_1, ↓Bo_ok, i10, i01, eq_self, decide_true, decide_false, Bool.or_true, Bool.true_or, Bool.or_false, Bool.false_or, cond_true, cond_false, not_true_eq_false, not_false_eq_true, and_self, and_true, true_and, and_false, false_and, nI_clamp, ↓inbc, inb_n, nI_pos, nI_1, j2, c1, lt_10, this, b8_75_28, b8_75_83]
    · simp (disch := omega) only [bnd, bnd0, ↓cdec, ↓cnot, ↓reduceIte, Bo_0, Bo_1, ↓Bo_ok, i10, i01, eq_self, decide_true, decide_false, Bool.or_true, Bool.true_or, Bool.or_false, Bool.false_or, cond_true, cond_false, not_true_eq_false, not_false_eq_true, and_self, and_true, true_and, and_false, false_and, nI_clamp, ↓inbc, inb_n, nI_pos, nI_1, j2, c1, b8_75_83]
  | succ m ih =>
    intro p J hp hpn h1 h3 h4
    have p10 : p < 10 := by omega
    have j2 : J 0 68 s = nI n := by rw [h4 _ _ _ (by omega)]; exact h2
    by_cases c1 : p < n
    · have c1' : nI p < nI n := nI_lt c1 (by omega)
      have jr : J 0 69 (40 * s + p) = I 0 69 (40 * s + p) := h4 _ _ _ (by omega)
      by_cases c2 : in19 (I 0 69 (40 * s + p))
      · have c2' : 1 ≤ (I 0 69 (40 * s + p)).toInt ∧ (I 0 69 (40 * s + p)).toInt ≤ 9 := c2
        obtain ⟨q, J', g1, g2, g3, g4⟩ := ih (p + 1) (uI J 0 57 (5 + 9 * p + 0) (I 0 69 (40 * s + p))) (by omega) (by omega) (fun i hi => by
            by_cases e : i = p
            · subst e; exact c2
            · exact h1 i (by omega)) (fun i hi => by
            by_cases e : i = p
            · subst e; exact uI_at (by omega)
            · rw [uI_ne (by omega)]; exact h3 i (by omega)) (fun g j i h => by
            rw [uI_ne (fun z => h ⟨z.1, z.2.1, p, by omega, z.2.2⟩)]
            exact h4 _ _ _ (fun ⟨z1, z2, w, z3, z4⟩ => h ⟨z1, z2, w, by omega, z4⟩))
        refine ⟨q, J', g1, g2, ?_, g4⟩
        rw [b8_75_18]
        simp (disch := omega) only [bnd, bnd0, ↓cdec, ↓cnot, ↓reduceIte, Bo_0, Bo_1, ↓Bo_ok, i10, i01, eq_self, decide_true, decide_false, Bool.or_true, Bool.true_or, Bool.or_false, Bool.false_or, cond_true, cond_false, not_true_eq_false, not_false_eq_true, and_self, and_true, true_and, and_false, false_and, nI_clamp, ↓inbc, inb_n, nI_pos, nI_1, lt_10, p10, b8_75_28, b8_75_34, b8_75_53, b8_75_56, b8_75_65, j2, c1', mul40, nI_add, jr, m_in32, k64_1, k64_9, c2', mA_0]
        exact g3
      · have c2' : ¬ (1 ≤ (I 0 69 (40 * s + p)).toInt ∧ (I 0 69 (40 * s + p)).toInt ≤ 9) := c2
        refine ⟨p, J, by omega, hpn, ?_, h1, fun z => c2 z.2.2, h3, h4⟩
        rw [b8_75_18]
        simp (disch := omega) only [bnd, bnd0, ↓cdec, ↓cnot, ↓reduceIte, Bo_0, Bo_1, ↓Bo_ok, i10, i01, eq_self, decide_true, decide_false, Bool.or_true, Bool.true_or, Bool.or_false, Bool.false_or, cond_true, cond_false, not_true_eq_false, not_false_eq_true, and_self, and_true, true_and, and_false, false_and, nI_clamp, ↓inbc, inb_n, nI_pos, nI_1, lt_10, p10, b8_75_28, b8_75_34, b8_75_53, b8_75_83, j2, c1', mul40, nI_add, jr, m_in32, k64_1, k64_9, c2']
    · have c1' : ¬ nI p < nI n := nI_nlt (by omega) (by omega)
      refine ⟨p, J, by omega, hpn, ?_, h1, by omega, h3, h4⟩
      rw [b8_75_18]
      simp (disch := omega) only [bnd, bnd0, ↓cdec, ↓cnot, ↓reduceIte, Bo_0, Bo_1, ↓Bo_ok, i10, i01, eq_self, decide_true, decide_false, Bool.or_true, Bool.true_or, Bool.or_false, Bool.false_or, cond_true, cond_false, not_true_eq_false, not_false_eq_true, and_self, and_true, true_and, and_false, false_and, nI_clamp, ↓inbc, inb_n, nI_pos, nI_1, b8_75_83, j2, c1']
end
/-- load -/
theorem ok_34 : op_34 Inv := by
  intro a1 I t1 t2 k sc hI
  by_cases h1 : 0 ≤ a1.toInt ∧ a1.toInt ≤ 3
  · obtain ⟨s, hs, rfl⟩ := nat_of (x := a1) (m := 4) h1.1 (by omega) (by omega)
    obtain ⟨b, n, hb, hn, x1, m1, x2, m2, hrow⟩ := hI.2.2.1 s hs
    by_cases hb0 : b = 0
    · have x0 : I 0 (48 + 2 * s) 1 = 0 := by rw [x1, hb0, nI_0]
      have m0 : I 0 67 s = 0 := by rw [m1, hb0, nI_0]
      refine ⟨-1000006, uI I 0 47 5 (I 0 47 5 + 1), _, t1, t2, k, ?_, ?_, hI.find (f := 5) (by omega), by omega⟩
      · simp (disch := omega) only [bnd, bnd0, ↓cdec, ↓cnot, ↓reduceIte, Bo_0, Bo_1, ↓Bo_ok, i10, i01, eq_self, decide_true, decide_false, Bool.or_true, Bool.true_or, Bool.or_false, Bool.false_or, cond_true, cond_false, not_true_eq_false, not_false_eq_true, and_self, and_true, true_and, and_false, false_and, nI_clamp, ↓inbc, inb_n, nI_pos, nI_1, b7_35_0, b7_35_5, b7_35_15, b7_35_21, b7_35_26, b7_35_29, b7_35_35, x_isSheet, h1, rR45, x_isMissing, x0, x_f5]
      · simp (disch := omega) only [bnd, bnd0, ↓cdec, ↓cnot, ↓reduceIte, Bo_0, Bo_1, ↓Bo_ok, i10, i01, eq_self, decide_true, decide_false, Bool.or_true, Bool.true_or, Bool.or_false, Bool.false_or, cond_true, cond_false, not_true_eq_false, not_false_eq_true, and_self, and_true, true_and, and_false, false_and, nI_clamp, ↓inbc, inb_n, nI_pos, nI_1, b8_75_0, b8_75_5, b8_75_10, b8_75_15, b8_72_0, b8_72_4, b8_72_7, b8_72_12, b8_72_21, b8_72_26, b8_72_27, m_isOne, h1, uI_ne, m0, im6, m_f5]
    · obtain ⟨γ, hX, hM, hok⟩ := hI.men
      obtain ⟨c, n8, c0, c0', c1, c2, c3, c4, ht, -⟩ := hI.head
      obtain ⟨q, J1, q10, qn, e1, q1, q2, q3, q4⟩ := x_load 9 I t1 t2 k sc hs hn x2 (nI s) 10 0 I (by omega) (by omega) (fun i hi => by omega) (fun i hi => by omega) (fun g j i h => rfl)
      obtain ⟨q', J2, q10', qn', e2, p1, p2, p3, p4⟩ := m_load 9 J1 t1 t2 k sc hs hn (by rw [q4 _ _ _ (by omega)]; exact m2) 0 10 0 J1 (by omega) (by omega) (fun i hi => by omega) (fun i hi => by omega) (fun g j i h => rfl)
      have hN : ∀ i, i < 40 → J1 0 69 (40 * s + i) = I 0 (49 + 2 * s) i := fun i hi => by rw [q4 _ _ _ (by omega)]; exact (hrow i hi).symm
      have hqq : q = q' := by
        rcases Nat.lt_trichotomy q q' with h | h | h
        · have := p1 q h
          rw [hN q (by omega)] at this
          exact absurd ⟨by omega, by omega, this⟩ q2
        · exact h
        · have := q1 q' h
          rw [← hN q' (by omega)] at this
          exact absurd ⟨by omega, by omega, this⟩ p2
      subst hqq
      have hX2 : MenX 8 J2 (ldG γ (fun i => I 0 (49 + 2 * s) i) q) := by
        intro a p ha hp
        rw [p4 _ _ _ (by omega)]
        by_cases e : a = 0 ∧ p < q
        · rw [ldG_in e, e.1]; exact q3 p e.2
        · rw [ldG_out e, q4 _ _ _ (by omega)]; exact hX a p ha hp
      have hM2 : MenM J2 (ldG γ (fun i => I 0 (49 + 2 * s) i) q) := by
        intro a p ha hp
        by_cases e : a = 0 ∧ p < q
        · rw [ldG_in e, e.1, p3 p e.2]; exact hN p (by omega)
        · rw [ldG_out e, p4 _ _ _ (fun ⟨_, _, z, z1, z2⟩ => by omega), q4 _ _ _ (by omega)]; exact hM a p ha hp
      have fr : ∀ g j i, ¬ (g = 0 ∧ ((j = 9 ∧ i < q) ∨ (j = 57 ∧ 5 ≤ i ∧ i < 95))) → J2 g j i = I g j i := by
        intro g j i h
        rw [p4 _ _ _ (fun ⟨_, _, z, z1, z2⟩ => by omega), q4 _ _ _ (by omega)]
      refine ⟨nI q, J1, J2, t1, t2, k, ?_, ?_, ?_, by omega⟩
      · simp (disch := omega) only [bnd, bnd0, ↓cdec, ↓cnot, ↓reduceIte, Bo_0, Bo_1, ↓Bo_ok, i10, i01, eq_self, decide_true, decide_false, Bool.or_true, Bool.true_or, Bool.or_false, Bool.false_or, cond_true, cond_false, not_true_eq_false, not_false_eq_true, and_self, and_true, true_and, and_false, false_and, nI_clamp, ↓inbc, inb_n, nI_pos, nI_1, b7_35_0, b7_35_5, b7_35_15, b7_35_21, b7_35_26, b7_35_36, x_isSheet, h1, rR45, x_isMissing, x1, eq_0, hb0]
        exact e1
      · have u1 : J1 0 67 s = nI b := by rw [q4 _ _ _ (by omega)]; exact m1
        simp (disch := omega) only [bnd, bnd0, ↓cdec, ↓cnot, ↓reduceIte, Bo_0, Bo_1, ↓Bo_ok, i10, i01, eq_self, decide_true, decide_false, Bool.or_true, Bool.true_or, Bool.or_false, Bool.false_or, cond_true, cond_false, not_true_eq_false, not_false_eq_true, and_self, and_true, true_and, and_false, false_and, nI_clamp, ↓inbc, inb_n, nI_pos, nI_1, b8_75_0, b8_75_5, b8_75_16, b8_72_0, b8_72_4, b8_72_7, b8_72_12, b8_72_21, b8_72_26, b8_72_27, m_isOne, h1, u1, eq_0, hb0]
        exact e2
      · refine hI.gaol _ (fun a p ha hp => hX2 a p ha hp) hM2 ?_ ?_ ?_ ?_ ?_ ?_ ?_ ?_ ?_
        · intro p hp
          by_cases e : p < q
          · obtain ⟨g1, g2⟩ := q1 p e
            obtain ⟨v, hv, hv2⟩ := nat_of (x := I 0 (49 + 2 * s) p) (m := 10) (by omega) (by omega) (by omega)
            have : (fun a => ldG γ (fun i => I 0 (49 + 2 * s) i) q a p) = fun a => if a = 0 then I 0 (49 + 2 * s) p else γ a p := by
              funext a
              by_cases ea : a = 0
              · rw [ldG_in ⟨ea, e⟩, if_pos ea]
              · rw [ldG_out (fun z => ea z.1), if_neg ea]
            rw [this]
            rw [hv2, nI_toInt (by omega)] at g1
            exact mo_0 (hok p hp) ⟨v, by omega, by omega, hv2⟩
          · have : (fun a => ldG γ (fun i => I 0 (49 + 2 * s) i) q a p) = fun a => γ a p := by
              funext a
              rw [ldG_out (fun z => e z.2)]
            rw [this]; exact hok p hp
        · rw [fr _ _ _ (by omega), fr _ _ _ (by omega)]; exact c1.1
        · intro m m8 hm
          rw [c0, nI_eq (by omega) (by omega)] at hm
          rw [fr _ _ _ (by omega), ← hm]; exact c1.2
        · rw [fr _ _ _ (by omega), fr _ _ _ (by omega)]; exact c2.1
        · rw [fr _ _ _ (by omega)]; exact c2.2
        · rw [fr _ _ _ (by omega), fr _ _ _ (by omega)]; exact c3.1
        · rw [fr _ _ _ (by omega)]; exact c3.2
        · rw [fr _ _ _ (by omega), fr _ _ _ (by omega)]; exact c4
        · intro g j i hc
          unfold Gc at hc
          exact fr _ _ _ (by omega)
  · refine ⟨-1000001, uI I 0 47 0 (I 0 47 0 + 1), _, t1, t2, k, ?_, ?_, hI.find (f := 0) (by omega), by omega⟩
    · simp (disch := omega) only [bnd, bnd0, ↓cdec, ↓cnot, ↓reduceIte, Bo_0, Bo_1, ↓Bo_ok, i10, i01, eq_self, decide_true, decide_false, Bool.or_true, Bool.true_or, Bool.or_false, Bool.false_or, cond_true, cond_false, not_true_eq_false, not_false_eq_true, and_self, and_true, true_and, and_false, false_and, nI_clamp, ↓inbc, inb_n, nI_pos, nI_1, b7_35_0, b7_35_5, b7_35_8, b7_35_14, x_isSheet, h1, x_f0]
    · simp (disch := omega) only [bnd, bnd0, ↓cdec, ↓cnot, ↓reduceIte, Bo_0, Bo_1, ↓Bo_ok, i10, i01, eq_self, decide_true, decide_false, Bool.or_true, Bool.true_or, Bool.or_false, Bool.false_or, cond_true, cond_false, not_true_eq_false, not_false_eq_true, and_self, and_true, true_and, and_false, false_and, nI_clamp, ↓inbc, inb_n, nI_pos, nI_1, b8_75_0, b8_75_5, b8_75_10, b8_75_15, b8_72_0, b8_72_4, b8_72_7, b8_72_12, b8_72_21, b8_72_26, b8_72_27, m_isOne, h1, im1, m_f0]
