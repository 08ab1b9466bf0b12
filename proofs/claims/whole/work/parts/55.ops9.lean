/-! solves, sumOf, side, both, solution -/
theorem Inv.findG {I J : IFn} {t1 t2 : TFn} {k f : Nat} (hf : f < 7) (v : Inv I t1 t2 k) (h47 : J 0 47 f = I 0 47 f + 1) (h : ∀ g j i, ¬ Gb g j i → ¬ (g = 0 ∧ j = 47 ∧ i = f) → J g j i = I g j i) : Inv (uI J 0 60 f (J 0 60 f + 1)) t1 t2 k := by
  refine v.find2 hf ?_ ?_ ?_
  · rw [uI_ne (by omega)]; exact h47
  · rw [uI_at (by omega), h _ _ _ (by unfold Gb; omega) (by omega)]
  · intro g j i h1 h2
    rw [uI_ne (by omega)]; exact h _ _ _ h1 (by omega)
theorem Inv.find64 {I J : IFn} {t1 t2 : TFn} {k f : Nat} (hf : f < 7) (v : Inv I t1 t2 k) (h : F64 (uI I 0 47 f (I 0 47 f + 1)) J) : Inv (uI J 0 60 f (J 0 60 f + 1)) t1 t2 k := by
  refine v.findG hf ?_ ?_
  · rw [h _ _ _ (by omega), uI_at (by omega)]
  · intro g j i h1 h2
    unfold Gb at h1
    rw [h _ _ _ (by omega), uI_ne (by omega)]
/-- solves -/
theorem ok_6 : op_6 Inv := by
  intro a1 a2 I t1 t2 k sc hI
  obtain ⟨n, n8, c0, c0', c1, c2, c3, c4, ht, hQ⟩ := hI.head
  have xI := fun x => x_isSum 8 I t1 t2 k sc n8 c0' ht x
  by_cases h1 : 0 ≤ a1.toInt ∧ a1.toInt < (n : Int)
  · by_cases h2 : 0 ≤ a2.toInt ∧ a2.toInt ≤ 99
    · obtain ⟨q, hq, rfl⟩ := nat_of (x := a1) (m := n) h1.1 h1.2 (by omega)
      obtain ⟨x, hx, rfl⟩ := nat_of (x := a2) (m := 100) h2.1 (by omega) (by omega)
      have hS : sumOK I (t1 q) k (I 0 6 q) (I 0 7 q) (cS I q) := hQ q hq
      have xs := x_solC 7 I t1 t2 k sc n8 c0' ht hq hx hS
      obtain ⟨J, ms, hf⟩ := m_isSolved 7 I t1 t2 k sc (show q < 8 by omega) hx hS
      have mI := m_isSum 8 I t1 t2 k sc n8 c0
      refine ⟨Bo (solC (cS I q) x = true), I, J, t1, t2, k, ?_, ?_, hI.garb hf.al, by omega⟩
      · by_cases h : solC (cS I q) x = true
        · rw [Bo_t h]; simp (disch := omega) only [bnd, bnd0, ↓cdec, ↓cnot, ↓reduceIte, Bo_0, Bo_1, ↓Bo_ok, i10, i01, eq_self, decide_true, decide_false, Bool.or_true, Bool.true_or, Bool.or_false, Bool.false_or, cond_true, cond_false, not_true_eq_false, not_false_eq_true, Bool.false_eq_true, and_self, and_true, true_and, and_false, false_and, nI_clamp, ↓inbc, inb_n, nI_pos, nI_1, b7_7_0, b7_7_5, b7_7_8, b7_7_12, b7_7_22, b7_7_34, b7_7_37, b7_7_42, xI, h1, x_isNumber, h2, xs, h]
        · rw [Bo_f h]; simp (disch := omega) only [bnd, bnd0, ↓cdec, ↓cnot, ↓reduceIte, Bo_0, Bo_1, ↓Bo_ok, i10, i01, eq_self, decide_true, decide_false, Bool.or_true, Bool.true_or, Bool.or_false, Bool.false_or, cond_true, cond_false, not_true_eq_false, not_false_eq_true, Bool.false_eq_true, and_self, and_true, true_and, and_false, false_and, nI_clamp, ↓inbc, inb_n, nI_pos, nI_1, b7_7_0, b7_7_5, b7_7_8, b7_7_12, b7_7_22, b7_7_34, b7_7_41, b7_7_42, xI, h1, x_isNumber, h2, xs, h]
      · by_cases h : solC (cS I q) x = true
        · rw [Bo_t h]; simp (disch := omega) only [bnd, bnd0, ↓cdec, ↓cnot, ↓reduceIte, Bo_0, Bo_1, ↓Bo_ok, i10, i01, eq_self, decide_true, decide_false, Bool.or_true, Bool.true_or, Bool.or_false, Bool.false_or, cond_true, cond_false, not_true_eq_false, not_false_eq_true, Bool.false_eq_true, and_self, and_true, true_and, and_false, false_and, nI_clamp, ↓inbc, inb_n, nI_pos, nI_1, b8_29_0, b8_29_5, b8_29_8, b8_29_12, b8_29_15, b8_29_21, b8_29_24, b8_29_38, mI, h1, m_isNumber, h2, ms, h]
        · rw [Bo_f h]; simp (disch := omega) only [bnd, bnd0, ↓cdec, ↓cnot, ↓reduceIte, Bo_0, Bo_1, ↓Bo_ok, i10, i01, eq_self, decide_true, decide_false, Bool.or_true, Bool.true_or, Bool.or_false, Bool.false_or, cond_true, cond_false, not_true_eq_false, not_false_eq_true, Bool.false_eq_true, and_self, and_true, true_and, and_false, false_and, nI_clamp, ↓inbc, inb_n, nI_pos, nI_1, b8_29_0, b8_29_5, b8_29_8, b8_29_12, b8_29_15, b8_29_21, b8_29_28, b8_29_38, mI, h1, m_isNumber, h2, ms, h]
    · have mI := m_isSum 8 (uI I 0 47 0 (I 0 47 0 + 1)) t1 t2 k sc n8 (by rw [uI_ne (by omega)]; exact c0)
      refine ⟨-1000001, uI I 0 47 0 (I 0 47 0 + 1), _, t1, t2, k, ?_, ?_, hI.find (f := 0) (by omega), by omega⟩
      · simp (disch := omega) only [bnd, bnd0, ↓cdec, ↓cnot, ↓reduceIte, Bo_0, Bo_1, ↓Bo_ok, i10, i01, eq_self, decide_true, decide_false, Bool.or_true, Bool.true_or, Bool.or_false, Bool.false_or, cond_true, cond_false, not_true_eq_false, not_false_eq_true, Bool.false_eq_true, and_self, and_true, true_and, and_false, false_and, nI_clamp, ↓inbc, inb_n, nI_pos, nI_1, b7_7_0, b7_7_5, b7_7_8, b7_7_12, b7_7_15, b7_7_21, xI, h1, x_isNumber, h2, x_f0]
      · simp (disch := omega) only [bnd, bnd0, ↓cdec, ↓cnot, ↓reduceIte, Bo_0, Bo_1, ↓Bo_ok, i10, i01, eq_self, decide_true, decide_false, Bool.or_true, Bool.true_or, Bool.or_false, Bool.false_or, cond_true, cond_false, not_true_eq_false, not_false_eq_true, Bool.false_eq_true, and_self, and_true, true_and, and_false, false_and, nI_clamp, ↓inbc, inb_n, nI_pos, nI_1, b8_29_0, b8_29_5, b8_29_8, b8_29_12, b8_29_32, b8_29_38, mI, h1, m_isNumber, h2, m_f0]
  · have mI := m_isSum 8 (uI I 0 47 0 (I 0 47 0 + 1)) t1 t2 k sc n8 (by rw [uI_ne (by omega)]; exact c0)
    refine ⟨-1000001, uI I 0 47 0 (I 0 47 0 + 1), _, t1, t2, k, ?_, ?_, hI.find (f := 0) (by omega), by omega⟩
    · simp (disch := omega) only [bnd, bnd0, ↓cdec, ↓cnot, ↓reduceIte, Bo_0, Bo_1, ↓Bo_ok, i10, i01, eq_self, decide_true, decide_false, Bool.or_true, Bool.true_or, Bool.or_false, Bool.false_or, cond_true, cond_false, not_true_eq_false, not_false_eq_true, Bool.false_eq_true, and_self, and_true, true_and, and_false, false_and, nI_clamp, ↓inbc, inb_n, nI_pos, nI_1, b7_7_0, b7_7_5, b7_7_15, b7_7_21, xI, h1, x_f0]
    · simp (disch := omega) only [bnd, bnd0, ↓cdec, ↓cnot, ↓reduceIte, Bo_0, Bo_1, ↓Bo_ok, i10, i01, eq_self, decide_true, decide_false, Bool.or_true, Bool.true_or, Bool.or_false, Bool.false_or, cond_true, cond_false, not_true_eq_false, not_false_eq_true, Bool.false_eq_true, and_self, and_true, true_and, and_false, false_and, nI_clamp, ↓inbc, inb_n, nI_pos, nI_1, b8_29_0, b8_29_5, b8_29_32, b8_29_38, mI, h1, m_f0]
/-- sumOf -/
theorem ok_3 : op_3 Inv := by
  intro a1 a2 I t1 t2 k sc hI
  obtain ⟨n, n8, c0, c0', c1, c2, c3, c4, ht, hQ⟩ := hI.head
  have xI := fun x => x_isSum 8 I t1 t2 k sc n8 c0' ht x
  by_cases h1 : 0 ≤ a1.toInt ∧ a1.toInt < (n : Int)
  · by_cases h2 : 0 ≤ a2.toInt ∧ a2.toInt ≤ 3
    · obtain ⟨q, hq, rfl⟩ := nat_of (x := a1) (m := n) h1.1 h1.2 (by omega)
      obtain ⟨w, hw, rfl⟩ := nat_of (x := a2) (m := 4) h2.1 (by omega) (by omega)
      have hS : sumOK I (t1 q) k (I 0 6 q) (I 0 7 q) (cS I q) := hQ q hq
      have e : (nI w).toInt = (w : Int) := nI_toInt (by omega)
      have mI := m_isSum 8 I t1 t2 k sc n8 c0
      have g6 : I 0 6 q = I 0 57 (105 + 45 * q + 0) := hS.1
      have g7 : I 0 7 q = I 0 57 (105 + 45 * q + 1) := hS.2.2.1
      have hx : den (10, 7, 4, 0, [some (vr 0 0), some (vi (nI q)), some (vi (nI w))], [], mkH I t1 t2 k sc) = den (9 + 1, 7, 4, 15, [some (vr 0 0), some (vi (nI q)), some (vi (nI w))], [], mkH I t1 t2 k sc) := by
        simp (disch := omega) only [bnd, bnd0, ↓cdec, ↓cnot, ↓reduceIte, Bo_0, Bo_1, ↓Bo_ok, i10, i01, eq_self, decide_true, decide_false, Bool.or_true, Bool.true_or, Bool.or_false, Bool.false_or, cond_true, cond_false, not_true_eq_false, not_false_eq_true, Bool.false_eq_true, and_self, and_true, true_and, and_false, false_and, nI_clamp, ↓inbc, inb_n, nI_pos, nI_1, b7_4_0, b7_4_5, xI, h1]
      have hm : den (10, 8, 26, 0, [some (vr 0 56), some (vi (nI q)), some (vi (nI w))], [], mkH I t1 t2 k sc) = den (9 + 1, 8, 26, 27, [some (vr 0 56), some (vi (nI q)), some (vi (nI w))], [], mkH I t1 t2 k sc) := by
        simp (disch := omega) only [bnd, bnd0, ↓cdec, ↓cnot, ↓reduceIte, Bo_0, Bo_1, ↓Bo_ok, i10, i01, eq_self, decide_true, decide_false, Bool.or_true, Bool.true_or, Bool.or_false, Bool.false_or, cond_true, cond_false, not_true_eq_false, not_false_eq_true, Bool.false_eq_true, and_self, and_true, true_and, and_false, false_and, nI_clamp, ↓inbc, inb_n, nI_pos, nI_1, b8_26_0, b8_26_5, b8_26_8, b8_26_17, mI, h1, m_in32, k64_0, k64_3, h2]
      have low : ∀ (w : Nat), w < 2 → den (9 + 1, 8, 26, 27, [some (vr 0 56), some (vi (nI q)), some (vi (nI w))], [], mkH I t1 t2 k sc) = some (some (vi (I 0 57 (105 + 45 * q + w))), mkH I t1 t2 k sc) := by
        intro w hw2
        simp (disch := omega) only [bnd, bnd0, ↓cdec, ↓cnot, ↓reduceIte, Bo_0, Bo_1, ↓Bo_ok, i10, i01, eq_self, decide_true, decide_false, Bool.or_true, Bool.true_or, Bool.or_false, Bool.false_or, cond_true, cond_false, not_true_eq_false, not_false_eq_true, Bool.false_eq_true, and_self, and_true, true_and, and_false, false_and, nI_clamp, ↓inbc, inb_n, nI_pos, nI_1, b8_26_27, lt_2, hw2, b8_26_32, m_it, b8_26_38, b8_26_59]
      match w, hw with
      | 0, _ =>
        refine ⟨I 0 57 (105 + 45 * q + 0), I, I, t1, t2, k, hx.trans ?_, hm.trans (low 0 (by omega)), hI, by omega⟩
        rw [b7_4_15, e]
        refine (b7_4_48 9 (nI q) (nI 0) I t1 t2 k sc).trans ?_
        rw [inb_n (by omega) (by omega), cond_true, nI_clamp (by omega), g6]
      | 1, _ =>
        refine ⟨I 0 57 (105 + 45 * q + 1), I, I, t1, t2, k, hx.trans ?_, hm.trans (low 1 (by omega)), hI, by omega⟩
        rw [b7_4_15, e]
        refine (b7_4_61 9 (nI q) (nI 1) I t1 t2 k sc).trans ?_
        rw [inb_n (by omega) (by omega), cond_true, nI_clamp (by omega), g7]
      | 2, _ =>
        refine ⟨hardC (cS I q), I, I, t1, t2, k, hx.trans ?_, hm.trans ?_, hI, by omega⟩
        · rw [b7_4_15, e]
          refine (b7_4_74 9 (nI q) (nI 2) I t1 t2 k sc).trans ?_
          rw [x_hard 8 I t1 t2 k sc n8 c0' ht hq hS]
          exact b7_4_85 9 _ _ _ I t1 t2 k sc
        · have z1 : ¬ nI 2 < 2 := by decide
          have z2 : nI 2 = 2 := by decide
          rw [b8_26_27, cdec, if_neg z1, b8_26_41, cdec, if_pos z2, b8_26_46, m_hard 8 I t1 t2 k sc (show q < 8 by omega)]
          refine (b8_26_51 9 _ _ _ I t1 t2 k sc).trans ?_
          exact b8_26_59 9 _ _ _ I t1 t2 k sc
      | 3, _ =>
        obtain ⟨J, ms, hf⟩ := m_solvers 6 I t1 t2 k sc (show q < 8 by omega) hS
        have hm0 : ¬ I 0 7 q = 0 := by rw [hS.2.2.1]; exact rng_ne0 hS.2.2.2.1 (by omega) (by omega)
        refine ⟨nI (cB (solC (cS I q)) 100), I, J, t1, t2, k, hx.trans ?_, hm.trans ?_, hI.garb hf.al, by omega⟩
        · rw [b7_4_15, e]
          refine (b7_4_86 9 (nI q) (nI 3) I t1 t2 k sc).trans ?_
          rw [inb_n (by omega) (by omega), cond_true, nI_clamp (by omega), x_solvers 7 I t1 t2 k sc n8 c0' ht hq hm0 hS]
          refine (b7_4_109 9 _ _ _ I t1 t2 k sc).trans ?_
          rw [show I 0 7 q = cS I q 1 from hS.2.2.1]
        · have z1 : ¬ nI 3 < 2 := by decide
          have z2 : ¬ nI 3 = 2 := by decide
          rw [b8_26_27, cdec, if_neg z1, b8_26_41, cdec, if_neg z2, b8_26_54, ms]
          exact b8_26_59 9 _ _ _ J t1 t2 k sc
      | w + 4, h => omega
    · have hb : (decide (a2.toInt < 0) || decide (3 < a2.toInt)) = true := by
        rw [Bool.or_eq_true, decide_eq_true_iff, decide_eq_true_iff]; omega
      have mI := m_isSum 8 (uI I 0 47 0 (I 0 47 0 + 1)) t1 t2 k sc n8 (by rw [uI_ne (by omega)]; exact c0)
      refine ⟨-1000001, uI I 0 47 0 (I 0 47 0 + 1), _, t1, t2, k, ?_, ?_, hI.find (f := 0) (by omega), by omega⟩
      · simp (disch := omega) only [bnd, bnd0, ↓cdec, ↓cnot, ↓reduceIte, Bo_0, Bo_1, ↓Bo_ok, i10, i01, eq_self, decide_true, decide_false, Bool.or_true, Bool.true_or, Bool.or_false, Bool.false_or, cond_true, cond_false, not_true_eq_false, not_false_eq_true, Bool.false_eq_true, and_self, and_true, true_and, and_false, false_and, nI_clamp, ↓inbc, inb_n, nI_pos, nI_1, b7_4_0, b7_4_5, xI, h1]
        rw [b7_4_15, hb, cond_true]
        simp (disch := omega) only [bnd, bnd0, ↓cdec, ↓cnot, ↓reduceIte, Bo_0, Bo_1, ↓Bo_ok, i10, i01, eq_self, decide_true, decide_false, Bool.or_true, Bool.true_or, Bool.or_false, Bool.false_or, cond_true, cond_false, not_true_eq_false, not_false_eq_true, Bool.false_eq_true, and_self, and_true, true_and, and_false, false_and, nI_clamp, ↓inbc, inb_n, nI_pos, nI_1, b7_4_110, b7_4_116, x_f0]
      · simp (disch := omega) only [bnd, bnd0, ↓cdec, ↓cnot, ↓reduceIte, Bo_0, Bo_1, ↓Bo_ok, i10, i01, eq_self, decide_true, decide_false, Bool.or_true, Bool.true_or, Bool.or_false, Bool.false_or, cond_true, cond_false, not_true_eq_false, not_false_eq_true, Bool.false_eq_true, and_self, and_true, true_and, and_false, false_and, nI_clamp, ↓inbc, inb_n, nI_pos, nI_1, b8_26_0, b8_26_5, b8_26_8, b8_26_17, b8_26_20, b8_26_26, mI, h1, m_in32, k64_0, k64_3, h2, m_f0]
  · have mI := m_isSum 8 (uI I 0 47 0 (I 0 47 0 + 1)) t1 t2 k sc n8 (by rw [uI_ne (by omega)]; exact c0)
    refine ⟨-1000001, uI I 0 47 0 (I 0 47 0 + 1), _, t1, t2, k, ?_, ?_, hI.find (f := 0) (by omega), by omega⟩
    · simp (disch := omega) only [bnd, bnd0, ↓cdec, ↓cnot, ↓reduceIte, Bo_0, Bo_1, ↓Bo_ok, i10, i01, eq_self, decide_true, decide_false, Bool.or_true, Bool.true_or, Bool.or_false, Bool.false_or, cond_true, cond_false, not_true_eq_false, not_false_eq_true, Bool.false_eq_true, and_self, and_true, true_and, and_false, false_and, nI_clamp, ↓inbc, inb_n, nI_pos, nI_1, b7_4_0, b7_4_5, b7_4_8, b7_4_14, xI, h1, x_f0]
    · simp (disch := omega) only [bnd, bnd0, ↓cdec, ↓cnot, ↓reduceIte, Bo_0, Bo_1, ↓Bo_ok, i10, i01, eq_self, decide_true, decide_false, Bool.or_true, Bool.true_or, Bool.or_false, Bool.false_or, cond_true, cond_false, not_true_eq_false, not_false_eq_true, Bool.false_eq_true, and_self, and_true, true_and, and_false, false_and, nI_clamp, ↓inbc, inb_n, nI_pos, nI_1, b8_26_0, b8_26_5, b8_26_20, b8_26_26, mI, h1, m_f0]
section
variable (d : Nat) (I : IFn) (t1 t2 : TFn) (k : Nat) (sc : Nat × (Nat → Int32))
theorem x_sideOf {n q s : Nat} (hn : n ≤ 8) (h43 : I 0 4 3 = nI n) (ht : ∀ q, q < n → ∃ e, t1 q = some (e + 1, 0)) (hq : q < n) (hs : s < 2) {m0 : Int32} {C : Nat → Int32} (hS : sumOK I (t1 q) k (I 0 6 q) m0 C) (x : Int32) : ∃ J, den (d + 2, 3, 5, 0, [some (vr 0 4), some (vi (nI q)), some (vi (nI s)), some (vi x)], [], mkH I t1 t2 k sc) = some (some (vi (if s = 0 then lC C x else rC C x)), mkH (J) t1 t2 k sc) ∧ ∀ g j i, ¬ (1 ≤ g ∧ (((j = 3 ∨ j = 6) ∧ i = 3) ∨ j = 5 ∨ j = 8)) → J g j i = I g j i := by
  obtain ⟨n1, n2, h12, h3, h4, hl, hr, el, er⟩ := hS.sides
  obtain ⟨s0, -, -, -, e, he, hte, n1', n2', b0, b1, b2, b3, b4, b5, b6, b7, b8, b9, b10, b11⟩ := hS
  have i1 : nI n1' = nI n1 := b3.symm.trans h3
  have i2 : nI n2' = nI n2 := b4.symm.trans h4
  have j1 : n1' = n1 := (nI_eq (by omega) (by omega)).mp i1
  have j2 : n2' = n2 := (nI_eq (by omega) (by omega)).mp i2
  subst j1 j2
  have hb : 0 ≤ (nI q).toInt ∧ (nI q).toInt < (n : Int) := by rw [nI_toInt (by omega)]; omega
  have hr' : rR (mkH I t1 t2 k sc) 0 (4 + 1) q = some (e + 1, 0) := hte
  rcases (show s = 0 ∨ s = 1 by omega) with rfl | rfl
  · obtain ⟨J, e2, f⟩ := x_worth d I t1 t2 k sc (e := e) (q := 3) (Or.inl rfl) _ x b5 b7 hl
    refine ⟨J, ?_, fun g j i h => f _ _ _ (by omega)⟩
    rw [if_pos rfl, el]
    simp (disch := omega) only [bnd, bnd0, ↓cdec, ↓cnot, ↓reduceIte, Bo_0, Bo_1, ↓Bo_ok, i10, i01, eq_self, decide_true, decide_false, Bool.or_true, Bool.true_or, Bool.or_false, Bool.false_or, cond_true, cond_false, not_true_eq_false, not_false_eq_true, Bool.false_eq_true, and_self, and_true, true_and, and_false, false_and, nI_clamp, ↓inbc, inb_n, nI_pos, nI_1, b3_5_0, b3_5_5, b3_5_10, b3_5_14, b3_5_20, b3_5_27, b3_5_43, x_has (d + 1) I t1 t2 k sc hn h43 ht, hb, eq_0, hr', e2]
  · obtain ⟨J, e2, f⟩ := x_worth d I t1 t2 k sc (e := e) (q := 6) (Or.inr rfl) _ x b6 b8 hr
    refine ⟨J, ?_, fun g j i h => f _ _ _ (by omega)⟩
    have z : ¬ nI 1 = 0 := by decide
    rw [if_neg (by omega), er]
    simp (disch := omega) only [bnd, bnd0, ↓cdec, ↓cnot, ↓reduceIte, Bo_0, Bo_1, ↓Bo_ok, i10, i01, eq_self, decide_true, decide_false, Bool.or_true, Bool.true_or, Bool.or_false, Bool.false_or, cond_true, cond_false, not_true_eq_false, not_false_eq_true, Bool.false_eq_true, and_self, and_true, true_and, and_false, false_and, nI_clamp, ↓inbc, inb_n, nI_pos, nI_1, b3_5_0, b3_5_5, b3_5_10, b3_5_30, b3_5_36, b3_5_43, x_has (d + 1) I t1 t2 k sc hn h43 ht, hb, z, hr', e2]
end
/-- side -/
theorem ok_5 : op_5 Inv := by
  intro a1 a2 a3 I t1 t2 k sc hI
  obtain ⟨n, n8, c0, c0', c1, c2, c3, c4, ht, hQ⟩ := hI.head
  have xI := fun x => x_isSum 8 I t1 t2 k sc n8 c0' ht x
  by_cases h1 : 0 ≤ a1.toInt ∧ a1.toInt < (n : Int)
  · by_cases h2 : 0 ≤ a2.toInt ∧ a2.toInt ≤ 1
    · obtain ⟨q, hq, rfl⟩ := nat_of (x := a1) (m := n) h1.1 h1.2 (by omega)
      obtain ⟨s, hs, rfl⟩ := nat_of (x := a2) (m := 2) h2.1 (by omega) (by omega)
      have hS : sumOK I (t1 q) k (I 0 6 q) (I 0 7 q) (cS I q) := hQ q hq
      obtain ⟨J1, e1, f1⟩ := x_sideOf 7 I t1 t2 k sc n8 c0' ht hq hs hS a3
      obtain ⟨n1, n2, h12, h3, h4, hl, hr, el, er⟩ := hS.sides
      have gl : (fun i => J1 0 57 (105 + 45 * q + (2 + (3 + i)))) = fun i => cS I q (2 + (3 + i)) := funext fun i => f1 _ _ _ (by omega)
      have gr : (fun i => J1 0 57 (105 + 45 * q + (2 + (3 + n1 + i)))) = fun i => cS I q (2 + (3 + n1 + i)) := funext fun i => f1 _ _ _ (by omega)
      obtain ⟨J2, e2, f2⟩ := m_sideOf 8 J1 t1 t2 k sc (show q < 8 by omega) hs h12 a3 (by rw [f1 _ _ _ (by omega)]; exact h3) (by rw [f1 _ _ _ (by omega)]; exact h4) (by rw [gl]; exact hl) (by rw [gr]; exact hr)
      rw [gl, gr, ← el, ← er] at e2
      have mI := m_isSum 8 J1 t1 t2 k sc n8 (by rw [f1 _ _ _ (by omega)]; exact c0)
      refine ⟨if s = 0 then lC (cS I q) a3 else rC (cS I q) a3, J1, J2, t1, t2, k, ?_, ?_, hI.garb ?_, by omega⟩
      · simp (disch := omega) only [bnd, ↓cdec, ↓reduceIte, Bo_0, not_true_eq_false, and_self, b7_6_0, b7_6_5, b7_6_8, b7_6_14, b7_6_24, b7_6_37, xI, h1, x_within, k32_0, k32_1, h2, e1]
      · simp (disch := omega) only [bnd, ↓cdec, ↓reduceIte, Bo_0, not_true_eq_false, and_self, b8_28_0, b8_28_5, b8_28_8, b8_28_15, b8_28_18, b8_28_25, b8_28_34, mI, h1, m_in32, k64_0, k64_1, h2, e2]
      · intro g j i hg
        unfold Gb at hg
        rw [f2 _ _ _ (by omega), f1 _ _ _ (by omega)]
    · have mI := m_isSum 8 (uI I 0 47 0 (I 0 47 0 + 1)) t1 t2 k sc n8 (by rw [uI_ne (by omega)]; exact c0)
      refine ⟨-1000001, uI I 0 47 0 (I 0 47 0 + 1), _, t1, t2, k, ?_, ?_, hI.find (f := 0) (by omega), by omega⟩
      · simp (disch := omega) only [bnd, bnd0, ↓cdec, ↓cnot, ↓reduceIte, Bo_0, Bo_1, ↓Bo_ok, i10, i01, eq_self, decide_true, decide_false, Bool.or_true, Bool.true_or, Bool.or_false, Bool.false_or, cond_true, cond_false, not_true_eq_false, not_false_eq_true, Bool.false_eq_true, and_self, and_true, true_and, and_false, false_and, nI_clamp, ↓inbc, inb_n, nI_pos, nI_1, b7_6_0, b7_6_5, b7_6_8, b7_6_14, b7_6_17, b7_6_23, xI, h1, x_within, k32_0, k32_1, h2, x_f0]
      · simp (disch := omega) only [bnd, bnd0, ↓cdec, ↓cnot, ↓reduceIte, Bo_0, Bo_1, ↓Bo_ok, i10, i01, eq_self, decide_true, decide_false, Bool.or_true, Bool.true_or, Bool.or_false, Bool.false_or, cond_true, cond_false, not_true_eq_false, not_false_eq_true, Bool.false_eq_true, and_self, and_true, true_and, and_false, false_and, nI_clamp, ↓inbc, inb_n, nI_pos, nI_1, b8_28_0, b8_28_5, b8_28_8, b8_28_15, b8_28_28, b8_28_34, mI, h1, m_in32, k64_0, k64_1, h2, m_f0]
  · have mI := m_isSum 8 (uI I 0 47 0 (I 0 47 0 + 1)) t1 t2 k sc n8 (by rw [uI_ne (by omega)]; exact c0)
    refine ⟨-1000001, uI I 0 47 0 (I 0 47 0 + 1), _, t1, t2, k, ?_, ?_, hI.find (f := 0) (by omega), by omega⟩
    · simp (disch := omega) only [bnd, bnd0, ↓cdec, ↓cnot, ↓reduceIte, Bo_0, Bo_1, ↓Bo_ok, i10, i01, eq_self, decide_true, decide_false, Bool.or_true, Bool.true_or, Bool.or_false, Bool.false_or, cond_true, cond_false, not_true_eq_false, not_false_eq_true, Bool.false_eq_true, and_self, and_true, true_and, and_false, false_and, nI_clamp, ↓inbc, inb_n, nI_pos, nI_1, b7_6_0, b7_6_5, b7_6_17, b7_6_23, xI, h1, x_f0]
    · simp (disch := omega) only [bnd, bnd0, ↓cdec, ↓cnot, ↓reduceIte, Bo_0, Bo_1, ↓Bo_ok, i10, i01, eq_self, decide_true, decide_false, Bool.or_true, Bool.true_or, Bool.or_false, Bool.false_or, cond_true, cond_false, not_true_eq_false, not_false_eq_true, Bool.false_eq_true, and_self, and_true, true_and, and_false, false_and, nI_clamp, ↓inbc, inb_n, nI_pos, nI_1, b8_28_0, b8_28_5, b8_28_28, b8_28_34, mI, h1, m_f0]
/-- both -/
theorem ok_8 : op_8 Inv := by
  intro a1 a2 I t1 t2 k sc hI
  obtain ⟨n, n8, c0, c0', c1, c2, c3, c4, ht, hQ⟩ := hI.head
  have xI := fun x => x_isSum 8 I t1 t2 k sc n8 c0' ht x
  by_cases h1 : 0 ≤ a1.toInt ∧ a1.toInt < (n : Int)
  · by_cases h2 : 0 ≤ a2.toInt ∧ a2.toInt < (n : Int)
    · obtain ⟨q, hq, rfl⟩ := nat_of (x := a1) (m := n) h1.1 h1.2 (by omega)
      obtain ⟨p, hp, rfl⟩ := nat_of (x := a2) (m := n) h2.1 h2.2 (by omega)
      have hS : sumOK I (t1 q) k (I 0 6 q) (I 0 7 q) (cS I q) := hQ q hq
      have hS2 : sumOK I (t1 p) k (I 0 6 p) (I 0 7 p) (cS I p) := hQ p hp
      have mI := m_isSum 8 I t1 t2 k sc n8 c0
      have st : ∀ x, x < 100 → den (9 + 1, 7, 9, 28, [some (vr 0 0), some (vi (nI q)), some (vi (nI p)), some (vi (nI (cB (fun x => solC (cS I q) x && solC (cS I p) x) x))), some (vi (nI x))], [], mkH I t1 t2 k sc) = den (9 + 1, 7, 9, 28, [some (vr 0 0), some (vi (nI q)), some (vi (nI p)), some (vi (nI (cB (fun x => solC (cS I q) x && solC (cS I p) x) (x + 1)))), some (vi (nI (x + 1)))], [], mkH I t1 t2 k sc) := by
        intro x hx
        have s1 := x_solC 7 I t1 t2 k sc n8 c0' ht hq hx hS
        have s2 := x_solC 7 I t1 t2 k sc n8 c0' ht hp hx hS2
        rw [b7_9_28, cB]
        by_cases g1 : solC (cS I q) x = true
        · by_cases g2' : solC (cS I p) x = true
          · simp (disch := omega) only [bnd, bnd0, ↓cdec, ↓cnot, ↓reduceIte, Bo_0, Bo_1, ↓Bo_ok, i10, i01, eq_self, decide_true, decide_false, Bool.or_true, Bool.true_or, Bool.or_false, Bool.false_or, cond_true, cond_false, not_true_eq_false, not_false_eq_true, Bool.false_eq_true, and_self, and_true, true_and, and_false, false_and, nI_clamp, ↓inbc, inb_n, nI_pos, nI_1, lt_100, hx, b7_9_35, b7_9_48, b7_9_51, b7_9_64, b7_9_67, b7_9_70, s1, s2, g1, g2', Bool.and_self]
          · simp (disch := omega) only [bnd, bnd0, ↓cdec, ↓cnot, ↓reduceIte, Bo_0, Bo_1, ↓Bo_ok, i10, i01, eq_self, decide_true, decide_false, Bool.or_true, Bool.true_or, Bool.or_false, Bool.false_or, cond_true, cond_false, not_true_eq_false, not_false_eq_true, Bool.false_eq_true, and_self, and_true, true_and, and_false, false_and, nI_clamp, ↓inbc, inb_n, nI_pos, nI_1, lt_100, hx, b7_9_35, b7_9_48, b7_9_51, b7_9_64, b7_9_70, s1, s2, g1, g2', Bool.and_false]
        · simp (disch := omega) only [bnd, bnd0, ↓cdec, ↓cnot, ↓reduceIte, Bo_0, Bo_1, ↓Bo_ok, i10, i01, eq_self, decide_true, decide_false, Bool.or_true, Bool.true_or, Bool.or_false, Bool.false_or, cond_true, cond_false, not_true_eq_false, not_false_eq_true, Bool.false_eq_true, and_self, and_true, true_and, and_false, false_and, nI_clamp, ↓inbc, inb_n, nI_pos, nI_1, lt_100, hx, b7_9_35, b7_9_48, b7_9_70, s1, g1, Bool.false_and]
      obtain ⟨J, e, hf⟩ := lpE (fun x J => den (9 + 1, 8, 31, 28, [some (vr 0 56), some (vi (nI q)), some (vi (nI p)), some (vi (nI (cB (fun x => solC (cS I q) x && solC (cS I p) x) x))), some (vi (nI x))], [], mkH (J) t1 t2 k sc))
        (fun x J => F64 I J) (N := 100)
        (by
          intro x J hx hP
          have hc := hP.cS q
          obtain ⟨J1, s1, f1⟩ := m_isSolved 7 J t1 t2 k sc (show q < 8 by omega) hx (by rw [hc]; exact hS)
          rw [hc] at s1
          have hc2 := (hP.trans f1).cS p
          obtain ⟨J2, s2, f2⟩ := m_isSolved 7 J1 t1 t2 k sc (show p < 8 by omega) hx (by rw [hc2]; exact hS2)
          rw [hc2] at s2
          by_cases g1 : solC (cS I q) x = true
          · refine ⟨J2, ?_, (hP.trans f1).trans f2⟩
            rw [b8_31_28, cB]
            by_cases g2' : solC (cS I p) x = true
            · simp (disch := omega) only [bnd, bnd0, ↓cdec, ↓cnot, ↓reduceIte, Bo_0, Bo_1, ↓Bo_ok, i10, i01, eq_self, decide_true, decide_false, Bool.or_true, Bool.true_or, Bool.or_false, Bool.false_or, cond_true, cond_false, not_true_eq_false, not_false_eq_true, Bool.false_eq_true, and_self, and_true, true_and, and_false, false_and, nI_clamp, ↓inbc, inb_n, nI_pos, nI_1, lt_100, hx, b8_31_35, b8_31_43, b8_31_46, b8_31_53, b8_31_56, b8_31_61, s1, s2, g1, g2', Bool.and_self]
            · simp (disch := omega) only [bnd, bnd0, ↓cdec, ↓cnot, ↓reduceIte, Bo_0, Bo_1, ↓Bo_ok, i10, i01, eq_self, decide_true, decide_false, Bool.or_true, Bool.true_or, Bool.or_false, Bool.false_or, cond_true, cond_false, not_true_eq_false, not_false_eq_true, Bool.false_eq_true, and_self, and_true, true_and, and_false, false_and, nI_clamp, ↓inbc, inb_n, nI_pos, nI_1, lt_100, hx, b8_31_35, b8_31_43, b8_31_46, b8_31_53, b8_31_60, b8_31_61, s1, s2, g1, g2', Bool.and_false, Int32.add_zero]
          · refine ⟨J1, ?_, hP.trans f1⟩
            rw [b8_31_28, cB]
            simp (disch := omega) only [bnd, bnd0, ↓cdec, ↓cnot, ↓reduceIte, Bo_0, Bo_1, ↓Bo_ok, i10, i01, eq_self, decide_true, decide_false, Bool.or_true, Bool.true_or, Bool.or_false, Bool.false_or, cond_true, cond_false, not_true_eq_false, not_false_eq_true, Bool.false_eq_true, and_self, and_true, true_and, and_false, false_and, nI_clamp, ↓inbc, inb_n, nI_pos, nI_1, lt_100, hx, b8_31_35, b8_31_43, b8_31_60, b8_31_61, s1, g1, Bool.false_and, Int32.add_zero]) 0 I (by omega) F64.rfl
      refine ⟨nI (cB (fun x => solC (cS I q) x && solC (cS I p) x) 100), I, J, t1, t2, k, ?_, ?_, hI.garb hf.al, by omega⟩
      · simp (disch := omega) only [bnd, bnd0, ↓cdec, ↓cnot, ↓reduceIte, Bo_0, Bo_1, ↓Bo_ok, i10, i01, eq_self, decide_true, decide_false, Bool.or_true, Bool.true_or, Bool.or_false, Bool.false_or, cond_true, cond_false, not_true_eq_false, not_false_eq_true, Bool.false_eq_true, and_self, and_true, true_and, and_false, false_and, nI_clamp, ↓inbc, inb_n, nI_pos, nI_1, b7_9_0, b7_9_5, b7_9_8, b7_9_13, b7_9_23, xI, h1, h2]
        refine Eq.trans (lp (fun x => den (9 + 1, 7, 9, 28, [some (vr 0 0), some (vi (nI q)), some (vi (nI p)), some (vi (nI (cB (fun x => solC (cS I q) x && solC (cS I p) x) x))), some (vi (nI x))], [], mkH I t1 t2 k sc)) st 0 (by omega)) ?_
        rw [b7_9_28]
        simp (disch := omega) only [bnd, bnd0, ↓cdec, ↓cnot, ↓reduceIte, Bo_0, Bo_1, ↓Bo_ok, i10, i01, eq_self, decide_true, decide_false, Bool.or_true, Bool.true_or, Bool.or_false, Bool.false_or, cond_true, cond_false, not_true_eq_false, not_false_eq_true, Bool.false_eq_true, and_self, and_true, true_and, and_false, false_and, nI_clamp, ↓inbc, inb_n, nI_pos, nI_1, lt_100, Nat.lt_irrefl, b7_9_76]
      · simp (disch := omega) only [bnd, bnd0, ↓cdec, ↓cnot, ↓reduceIte, Bo_0, Bo_1, ↓Bo_ok, i10, i01, eq_self, decide_true, decide_false, Bool.or_true, Bool.true_or, Bool.or_false, Bool.false_or, cond_true, cond_false, not_true_eq_false, not_false_eq_true, Bool.false_eq_true, and_self, and_true, true_and, and_false, false_and, nI_clamp, ↓inbc, inb_n, nI_pos, nI_1, b8_31_0, b8_31_5, b8_31_8, b8_31_13, b8_31_23, mI, h1, h2]
        refine Eq.trans e ?_
        rw [b8_31_28]
        simp (disch := omega) only [bnd, bnd0, ↓cdec, ↓cnot, ↓reduceIte, Bo_0, Bo_1, ↓Bo_ok, i10, i01, eq_self, decide_true, decide_false, Bool.or_true, Bool.true_or, Bool.or_false, Bool.false_or, cond_true, cond_false, not_true_eq_false, not_false_eq_true, Bool.false_eq_true, and_self, and_true, true_and, and_false, false_and, nI_clamp, ↓inbc, inb_n, nI_pos, nI_1, lt_100, Nat.lt_irrefl, b8_31_69]
    · have mI := m_isSum 8 (uI I 0 47 0 (I 0 47 0 + 1)) t1 t2 k sc n8 (by rw [uI_ne (by omega)]; exact c0)
      refine ⟨-1000001, uI I 0 47 0 (I 0 47 0 + 1), _, t1, t2, k, ?_, ?_, hI.find (f := 0) (by omega), by omega⟩
      · simp (disch := omega) only [bnd, bnd0, ↓cdec, ↓cnot, ↓reduceIte, Bo_0, Bo_1, ↓Bo_ok, i10, i01, eq_self, decide_true, decide_false, Bool.or_true, Bool.true_or, Bool.or_false, Bool.false_or, cond_true, cond_false, not_true_eq_false, not_false_eq_true, Bool.false_eq_true, and_self, and_true, true_and, and_false, false_and, nI_clamp, ↓inbc, inb_n, nI_pos, nI_1, b7_9_0, b7_9_5, b7_9_8, b7_9_13, b7_9_16, b7_9_22, xI, h1, h2, x_f0]
      · simp (disch := omega) only [bnd, bnd0, ↓cdec, ↓cnot, ↓reduceIte, Bo_0, Bo_1, ↓Bo_ok, i10, i01, eq_self, decide_true, decide_false, Bool.or_true, Bool.true_or, Bool.or_false, Bool.false_or, cond_true, cond_false, not_true_eq_false, not_false_eq_true, Bool.false_eq_true, and_self, and_true, true_and, and_false, false_and, nI_clamp, ↓inbc, inb_n, nI_pos, nI_1, b8_31_0, b8_31_5, b8_31_8, b8_31_13, b8_31_16, b8_31_22, mI, h1, h2, m_f0]
  · have mI := m_isSum 8 (uI I 0 47 0 (I 0 47 0 + 1)) t1 t2 k sc n8 (by rw [uI_ne (by omega)]; exact c0)
    refine ⟨-1000001, uI I 0 47 0 (I 0 47 0 + 1), _, t1, t2, k, ?_, ?_, hI.find (f := 0) (by omega), by omega⟩
    · simp (disch := omega) only [bnd, bnd0, ↓cdec, ↓cnot, ↓reduceIte, Bo_0, Bo_1, ↓Bo_ok, i10, i01, eq_self, decide_true, decide_false, Bool.or_true, Bool.true_or, Bool.or_false, Bool.false_or, cond_true, cond_false, not_true_eq_false, not_false_eq_true, Bool.false_eq_true, and_self, and_true, true_and, and_false, false_and, nI_clamp, ↓inbc, inb_n, nI_pos, nI_1, b7_9_0, b7_9_5, b7_9_16, b7_9_22, xI, h1, x_f0]
    · simp (disch := omega) only [bnd, bnd0, ↓cdec, ↓cnot, ↓reduceIte, Bo_0, Bo_1, ↓Bo_ok, i10, i01, eq_self, decide_true, decide_false, Bool.or_true, Bool.true_or, Bool.or_false, Bool.false_or, cond_true, cond_false, not_true_eq_false, not_false_eq_true, Bool.false_eq_true, and_self, and_true, true_and, and_false, false_and, nI_clamp, ↓inbc, inb_n, nI_pos, nI_1, b8_31_0, b8_31_5, b8_31_16, b8_31_22, mI, h1, m_f0]
/-- the i-th that solves -/
def slF (f : Nat → Bool) (i : Nat) : Nat → Nat → Nat → Option Nat
  | 0, _, _ => none
  | m + 1, x, a => if f x = true then (if a = i then some x else slF f i m (x + 1) (a + 1)) else slF f i m (x + 1) a
/-- solution -/
theorem ok_7 : op_7 Inv := by
  intro a1 a2 I t1 t2 k sc hI
  obtain ⟨n, n8, c0, c0', c1, c2, c3, c4, ht, hQ⟩ := hI.head
  have xI := fun x => x_isSum 8 I t1 t2 k sc n8 c0' ht x
  by_cases h1 : 0 ≤ a1.toInt ∧ a1.toInt < (n : Int)
  · by_cases h2 : 0 ≤ a2.toInt ∧ a2.toInt ≤ 99
    · obtain ⟨q, hq, rfl⟩ := nat_of (x := a1) (m := n) h1.1 h1.2 (by omega)
      obtain ⟨i, hi, rfl⟩ := nat_of (x := a2) (m := 100) h2.1 (by omega) (by omega)
      have hS : sumOK I (t1 q) k (I 0 6 q) (I 0 7 q) (cS I q) := hQ q hq
      have lx : ∀ m x a, x + m = 100 → a ≤ x → den (9 + 1, 7, 8, 27, [some (vr 0 0), some (vi (nI q)), some (vi (nI i)), some (vi (nI a)), some (vi (nI x))], [], mkH I t1 t2 k sc) = (match slF (solC (cS I q)) i m x a with
          | some y => some (some (vi (nI y)), mkH I t1 t2 k sc)
          | none => some (some (vi (-1000004)), mkH (uI I 0 47 3 (I 0 47 3 + 1)) t1 t2 k sc)) := by
        intro m
        induction m with
        | zero =>
          intro x a hx ha
          have : ¬ x < 100 := by omega
          rw [b7_8_27]
          simp (disch := omega) only [bnd, bnd0, ↓cdec, ↓cnot, ↓reduceIte, Bo_0, Bo_1, ↓Bo_ok, i10, i01, eq_self, decide_true, decide_false, Bool.or_true, Bool.true_or, Bool.or_false, Bool.false_or, cond_true, cond_false, not_true_eq_false, not_false_eq_true, Bool.false_eq_true, and_self, and_true, true_and, and_false, false_and, nI_clamp, ↓inbc, inb_n, nI_pos, nI_1, lt_100, this, b7_8_67, b7_8_73, x_f3, slF]
        | succ m ih =>
          intro x a hx ha
          have hx' : x < 100 := by omega
          have s1 := x_solC 7 I t1 t2 k sc n8 c0' ht hq hx' hS
          rw [b7_8_27, slF]
          by_cases g1 : solC (cS I q) x = true
          · by_cases g2' : a = i
            · subst g2'
              simp (disch := omega) only [bnd, bnd0, ↓cdec, ↓cnot, ↓reduceIte, Bo_0, Bo_1, ↓Bo_ok, i10, i01, eq_self, decide_true, decide_false, Bool.or_true, Bool.true_or, Bool.or_false, Bool.false_or, cond_true, cond_false, not_true_eq_false, not_false_eq_true, Bool.false_eq_true, and_self, and_true, true_and, and_false, false_and, nI_clamp, ↓inbc, inb_n, nI_pos, nI_1, lt_100, hx', b7_8_34, b7_8_47, b7_8_50, b7_8_55, s1, g1]
            · have g3 : ¬ nI a = nI i := fun z => g2' ((nI_eq (by omega) (by omega)).mp z)
              simp (disch := omega) only [bnd, bnd0, ↓cdec, ↓cnot, ↓reduceIte, Bo_0, Bo_1, ↓Bo_ok, i10, i01, eq_self, decide_true, decide_false, Bool.or_true, Bool.true_or, Bool.or_false, Bool.false_or, cond_true, cond_false, not_true_eq_false, not_false_eq_true, Bool.false_eq_true, and_self, and_true, true_and, and_false, false_and, nI_clamp, ↓inbc, inb_n, nI_pos, nI_1, lt_100, hx', b7_8_34, b7_8_47, b7_8_50, b7_8_58, b7_8_61, s1, g1, g2', g3]
              exact ih (x + 1) (a + 1) (by omega) (by omega)
          · simp (disch := omega) only [bnd, bnd0, ↓cdec, ↓cnot, ↓reduceIte, Bo_0, Bo_1, ↓Bo_ok, i10, i01, eq_self, decide_true, decide_false, Bool.or_true, Bool.true_or, Bool.or_false, Bool.false_or, cond_true, cond_false, not_true_eq_false, not_false_eq_true, Bool.false_eq_true, and_self, and_true, true_and, and_false, false_and, nI_clamp, ↓inbc, inb_n, nI_pos, nI_1, lt_100, hx', b7_8_34, b7_8_47, b7_8_61, s1, g1]
            exact ih (x + 1) a (by omega) (by omega)
      have lm : ∀ (I1 : IFn), cS I1 q = cS I q → ∀ m x a (J : IFn), F64 I1 J → x + m = 100 → a ≤ x → ∃ J', F64 I1 J' ∧ den (9 + 1, 8, 30, 27, [some (vr 0 56), some (vi (nI q)), some (vi (nI i)), some (vi (nI a)), some (vi (nI x))], [], mkH (J) t1 t2 k sc) = (match slF (solC (cS I q)) i m x a with
          | some y => some (some (vi (nI y)), mkH (J') t1 t2 k sc)
          | none => some (some (vi (-1000004)), mkH (uI J' 0 60 3 (J' 0 60 3 + 1)) t1 t2 k sc)) := by
        intro I1 hI1 m
        induction m with
        | zero =>
          intro x a J hJ hx ha
          have : ¬ x < 100 := by omega
          refine ⟨J, hJ, ?_⟩
          rw [b8_30_27]
          simp (disch := omega) only [bnd, bnd0, ↓cdec, ↓cnot, ↓reduceIte, Bo_0, Bo_1, ↓Bo_ok, i10, i01, eq_self, decide_true, decide_false, Bool.or_true, Bool.true_or, Bool.or_false, Bool.false_or, cond_true, cond_false, not_true_eq_false, not_false_eq_true, Bool.false_eq_true, and_self, and_true, true_and, and_false, false_and, nI_clamp, ↓inbc, inb_n, nI_pos, nI_1, lt_100, this, b8_30_61, b8_30_67, m_f3, slF]
        | succ m ih =>
          intro x a J hJ hx ha
          have hx' : x < 100 := by omega
          have hc := (hJ.cS q).trans hI1
          obtain ⟨J1, s1, f1⟩ := m_isSolved 7 J t1 t2 k sc (show q < 8 by omega) hx' (by rw [hc]; exact hS)
          rw [hc] at s1
          by_cases g1 : solC (cS I q) x = true
          · by_cases g2' : a = i
            · subst g2'
              refine ⟨J1, hJ.trans f1, ?_⟩
              rw [b8_30_27, slF]
              simp (disch := omega) only [bnd, bnd0, ↓cdec, ↓cnot, ↓reduceIte, Bo_0, Bo_1, ↓Bo_ok, i10, i01, eq_self, decide_true, decide_false, Bool.or_true, Bool.true_or, Bool.or_false, Bool.false_or, cond_true, cond_false, not_true_eq_false, not_false_eq_true, Bool.false_eq_true, and_self, and_true, true_and, and_false, false_and, nI_clamp, ↓inbc, inb_n, nI_pos, nI_1, lt_100, hx', b8_30_34, b8_30_41, b8_30_44, b8_30_49, s1, g1]
            · have g3 : ¬ nI a = nI i := fun z => g2' ((nI_eq (by omega) (by omega)).mp z)
              obtain ⟨J', f', e'⟩ := ih (x + 1) (a + 1) J1 (hJ.trans f1) (by omega) (by omega)
              refine ⟨J', f', ?_⟩
              rw [b8_30_27, slF]
              simp (disch := omega) only [bnd, bnd0, ↓cdec, ↓cnot, ↓reduceIte, Bo_0, Bo_1, ↓Bo_ok, i10, i01, eq_self, decide_true, decide_false, Bool.or_true, Bool.true_or, Bool.or_false, Bool.false_or, cond_true, cond_false, not_true_eq_false, not_false_eq_true, Bool.false_eq_true, and_self, and_true, true_and, and_false, false_and, nI_clamp, ↓inbc, inb_n, nI_pos, nI_1, lt_100, hx', b8_30_34, b8_30_41, b8_30_44, b8_30_52, b8_30_55, s1, g1, g2', g3]
              exact e'
          · obtain ⟨J', f', e'⟩ := ih (x + 1) a J1 (hJ.trans f1) (by omega) (by omega)
            refine ⟨J', f', ?_⟩
            rw [b8_30_27, slF]
            simp (disch := omega) only [bnd, bnd0, ↓cdec, ↓cnot, ↓reduceIte, Bo_0, Bo_1, ↓Bo_ok, i10, i01, eq_self, decide_true, decide_false, Bool.or_true, Bool.true_or, Bool.or_false, Bool.false_or, cond_true, cond_false, not_true_eq_false, not_false_eq_true, Bool.false_eq_true, and_self, and_true, true_and, and_false, false_and, nI_clamp, ↓inbc, inb_n, nI_pos, nI_1, lt_100, hx', b8_30_34, b8_30_41, b8_30_55, s1, g1]
            exact e'
      have ex := lx 100 0 0 (by omega) (by omega)
      have hxh : den (10, 7, 8, 0, [some (vr 0 0), some (vi (nI q)), some (vi (nI i)), none, none], [], mkH I t1 t2 k sc) = den (9 + 1, 7, 8, 27, [some (vr 0 0), some (vi (nI q)), some (vi (nI i)), some (vi (nI 0)), some (vi (nI 0))], [], mkH I t1 t2 k sc) := by
        simp (disch := omega) only [bnd, bnd0, ↓cdec, ↓cnot, ↓reduceIte, Bo_0, Bo_1, ↓Bo_ok, i10, i01, eq_self, decide_true, decide_false, Bool.or_true, Bool.true_or, Bool.or_false, Bool.false_or, cond_true, cond_false, not_true_eq_false, not_false_eq_true, Bool.false_eq_true, and_self, and_true, true_and, and_false, false_and, nI_clamp, ↓inbc, inb_n, nI_pos, nI_1, b7_8_0, b7_8_5, b7_8_8, b7_8_12, b7_8_22, xI, h1, x_isNumber, h2, nI_0]
      have hmh : ∀ I1 : IFn, I1 0 57 0 = nI n → den (10, 8, 30, 0, [some (vr 0 56), some (vi (nI q)), some (vi (nI i)), none, none], [], mkH (I1) t1 t2 k sc) = den (9 + 1, 8, 30, 27, [some (vr 0 56), some (vi (nI q)), some (vi (nI i)), some (vi (nI 0)), some (vi (nI 0))], [], mkH (I1) t1 t2 k sc) := by
        intro I1 hI1
        simp (disch := omega) only [bnd, bnd0, ↓cdec, ↓cnot, ↓reduceIte, Bo_0, Bo_1, ↓Bo_ok, i10, i01, eq_self, decide_true, decide_false, Bool.or_true, Bool.true_or, Bool.or_false, Bool.false_or, cond_true, cond_false, not_true_eq_false, not_false_eq_true, Bool.false_eq_true, and_self, and_true, true_and, and_false, false_and, nI_clamp, ↓inbc, inb_n, nI_pos, nI_1, b8_30_0, b8_30_5, b8_30_8, b8_30_12, b8_30_22, m_isSum 8 I1 t1 t2 k sc n8 hI1, h1, m_isNumber, h2, nI_0]
      cases hsl : slF (solC (cS I q)) i 100 0 0 with
      | some y =>
        rw [hsl] at ex
        obtain ⟨J, hf, em⟩ := lm I rfl 100 0 0 I F64.rfl (by omega) (by omega)
        rw [hsl] at em
        exact ⟨nI y, I, J, t1, t2, k, hxh.trans ex, (hmh I c0).trans em, hI.garb hf.al, by omega⟩
      | none =>
        rw [hsl] at ex
        obtain ⟨J, hf, em⟩ := lm (uI I 0 47 3 (I 0 47 3 + 1)) (funext fun a => uI_ne (by omega)) 100 0 0 _ F64.rfl (by omega) (by omega)
        rw [hsl] at em
        exact ⟨-1000004, _, _, t1, t2, k, hxh.trans ex, (hmh _ (by rw [uI_ne (by omega)]; exact c0)).trans em, hI.find64 (f := 3) (by omega) hf, by omega⟩
    · have mI := m_isSum 8 (uI I 0 47 0 (I 0 47 0 + 1)) t1 t2 k sc n8 (by rw [uI_ne (by omega)]; exact c0)
      refine ⟨-1000001, uI I 0 47 0 (I 0 47 0 + 1), _, t1, t2, k, ?_, ?_, hI.find (f := 0) (by omega), by omega⟩
      · simp (disch := omega) only [bnd, bnd0, ↓cdec, ↓cnot, ↓reduceIte, Bo_0, Bo_1, ↓Bo_ok, i10, i01, eq_self, decide_true, decide_false, Bool.or_true, Bool.true_or, Bool.or_false, Bool.false_or, cond_true, cond_false, not_true_eq_false, not_false_eq_true, Bool.false_eq_true, and_self, and_true, true_and, and_false, false_and, nI_clamp, ↓inbc, inb_n, nI_pos, nI_1, b7_8_0, b7_8_5, b7_8_8, b7_8_12, b7_8_15, b7_8_21, xI, h1, x_isNumber, h2, x_f0]
      · simp (disch := omega) only [bnd, bnd0, ↓cdec, ↓cnot, ↓reduceIte, Bo_0, Bo_1, ↓Bo_ok, i10, i01, eq_self, decide_true, decide_false, Bool.or_true, Bool.true_or, Bool.or_false, Bool.false_or, cond_true, cond_false, not_true_eq_false, not_false_eq_true, Bool.false_eq_true, and_self, and_true, true_and, and_false, false_and, nI_clamp, ↓inbc, inb_n, nI_pos, nI_1, b8_30_0, b8_30_5, b8_30_8, b8_30_12, b8_30_15, b8_30_21, mI, h1, m_isNumber, h2, m_f0]
  · have mI := m_isSum 8 (uI I 0 47 0 (I 0 47 0 + 1)) t1 t2 k sc n8 (by rw [uI_ne (by omega)]; exact c0)
    refine ⟨-1000001, uI I 0 47 0 (I 0 47 0 + 1), _, t1, t2, k, ?_, ?_, hI.find (f := 0) (by omega), by omega⟩
    · simp (disch := omega) only [bnd, bnd0, ↓cdec, ↓cnot, ↓reduceIte, Bo_0, Bo_1, ↓Bo_ok, i10, i01, eq_self, decide_true, decide_false, Bool.or_true, Bool.true_or, Bool.or_false, Bool.false_or, cond_true, cond_false, not_true_eq_false, not_false_eq_true, Bool.false_eq_true, and_self, and_true, true_and, and_false, false_and, nI_clamp, ↓inbc, inb_n, nI_pos, nI_1, b7_8_0, b7_8_5, b7_8_15, b7_8_21, xI, h1, x_f0]
    · simp (disch := omega) only [bnd, bnd0, ↓cdec, ↓cnot, ↓reduceIte, Bo_0, Bo_1, ↓Bo_ok, i10, i01, eq_self, decide_true, decide_false, Bool.or_true, Bool.true_or, Bool.or_false, Bool.false_or, cond_true, cond_false, not_true_eq_false, not_false_eq_true, Bool.false_eq_true, and_self, and_true, true_and, and_false, false_and, nI_clamp, ↓inbc, inb_n, nI_pos, nI_1, b8_30_0, b8_30_5, b8_30_15, b8_30_21, mI, h1, m_f0]
