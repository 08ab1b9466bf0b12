/-! who solves -/
def solB (kd : Nat) (m x l r : Int32) : Bool := if kd = 1 then decide (l < r) else if kd = 2 then decide (jrem (l - r) m = 0) else if kd = 3 then (decide (jrem (l - r) m = 0) && decide (jrem x 2 = 1)) else if kd = 4 then !decide (l = r) else if kd = 5 then decide (r < l) else if kd = 6 then (decide ((-m).toInt ≤ (l - r).toInt) && decide ((l - r).toInt ≤ m.toInt)) else decide (l = r)
/-- a sum's row: kind, m, signs, lengths, codes -/
def cS (I : IFn) (q : Nat) : Nat → Int32 := fun a => I 0 57 (105 + 45 * q + a)
def lC (C : Nat → Int32) (x : Int32) : Int32 := sideVal (fun i => C (2 + (3 + i))) (C 3).toNatClampNeg x
def rC (C : Nat → Int32) (x : Int32) : Int32 := sideVal (fun i => C (2 + (3 + (C 3).toNatClampNeg + i))) (C 4).toNatClampNeg x
def solW (C : Nat → Int32) (m : Int32) (x : Nat) : Bool := solB (C 0).toNatClampNeg m (nI x) (lC C (nI x)) (rC C (nI x))
abbrev solC (C : Nat → Int32) (x : Nat) : Bool := solW C (C 1) x
def hardC (C : Nat → Int32) : Int32 := if C 0 = 1 ∨ C 0 = 5 then C 2 + C 2 / 2 else if C 0 = 3 then C 2 + 5 else C 2
def F64 (I J : IFn) : Prop := ∀ g j i, ¬ (g = 0 ∧ j = 64) → J g j i = I g j i
theorem F64.rfl {I : IFn} : F64 I I := fun _ _ _ _ => Eq.refl _
theorem F64.trans {I J K : IFn} (h : F64 I J) (h2 : F64 J K) : F64 I K := fun g j i q => (h2 g j i q).trans (h g j i q)
theorem F64.cS {I J : IFn} (h : F64 I J) (q : Nat) : cS J q = cS I q := funext fun a => h _ _ _ (by omega)
theorem F64.al {I J : IFn} (h : F64 I J) : Al I J := fun g j i q => h _ _ _ (by unfold Gb at q; omega)
theorem rng_ne0 {a b : Nat} {x : Int32} (h : rng a b x) (ha : 1 ≤ a) (hb : b ≤ 4000) : ¬ x = 0 := by
  obtain ⟨n, h1, h2, rfl⟩ := h
  exact nI_ne0 (by omega) (by omega)
/-- what a sum's relation says of its codes -/
theorem sumOK.sides {I : IFn} {t : Option (Nat × Nat)} {k : Nat} {kind m : Int32} {C : Nat → Int32} (h : sumOK I t k kind m C) : ∃ n1 n2 : Nat, n1 + n2 ≤ 40 ∧ C 3 = nI n1 ∧ C 4 = nI n2 ∧ sideOK (fun i => C (2 + (3 + i))) n1 ∧ sideOK (fun i => C (2 + (3 + n1 + i))) n2 ∧ (∀ x, lC C x = sideVal (fun i => C (2 + (3 + i))) n1 x) ∧ (∀ x, rC C x = sideVal (fun i => C (2 + (3 + n1 + i))) n2 x) := by
  obtain ⟨-, -, -, -, e, -, -, n1, n2, b0, b1, b2, b3, b4, b5, b6, b7, b8, b9, b10, b11⟩ := h
  have c3 : C 3 = nI n1 := b3
  have c4 : C 4 = nI n2 := b4
  refine ⟨n1, n2, b0, c3, c4, b9, b10, fun x => ?_, fun x => ?_⟩
  · rw [lC, c3, nI_clamp (by omega)]
  · rw [rC, c3, c4, nI_clamp (by omega), nI_clamp (by omega)]
section
variable (d : Nat) (I : IFn) (t1 t2 : TFn) (k : Nat) (sc : Nat × (Nat → Int32))
theorem m_sw {kd : Nat} (hk : kd ≤ 6) {m : Int32} (hm : ¬ m = 0) (q : Int32) (x l r : Int32) : den (d + 1, 8, 23, 31, [some (vr 0 56), some (vi q), some (vi x), some (vi l), some (vi r), some (vi m)], [vi (nI kd)], mkH I t1 t2 k sc) = some (some (vi (Bo (solB kd m x l r = true))), mkH I t1 t2 k sc) := by
  have e : (nI kd).toInt = (kd : Int) := nI_toInt (by omega)
  rw [b8_23_31, e]
  match kd, hk with
  | 0, _ =>
    refine (b8_23_160 d q x l r m I t1 t2 k sc).trans ?_
    by_cases h : l = r
    · rw [Bo_t (show solB 0 m x l r = true from decide_eq_true h)]
      simp (disch := omega) only [bnd, bnd0, ↓cdec, ↓cnot, ↓reduceIte, Bo_0, Bo_1, ↓Bo_ok, i10, i01, eq_self, decide_true, decide_false, Bool.or_true, Bool.true_or, Bool.or_false, Bool.false_or, cond_true, cond_false, not_true_eq_false, not_false_eq_true, Bool.false_eq_true, and_self, and_true, true_and, and_false, false_and, nI_clamp, ↓inbc, inb_n, nI_pos, nI_1, h, b8_23_166, b8_23_171]
    · rw [Bo_f (show ¬ solB 0 m x l r = true from fun z => h (of_decide_eq_true z))]
      simp (disch := omega) only [bnd, bnd0, ↓cdec, ↓cnot, ↓reduceIte, Bo_0, Bo_1, ↓Bo_ok, i10, i01, eq_self, decide_true, decide_false, Bool.or_true, Bool.true_or, Bool.or_false, Bool.false_or, cond_true, cond_false, not_true_eq_false, not_false_eq_true, Bool.false_eq_true, and_self, and_true, true_and, and_false, false_and, nI_clamp, ↓inbc, inb_n, nI_pos, nI_1, h, b8_23_170, b8_23_171]
  | 1, _ =>
    refine (b8_23_68 d q x l r m I t1 t2 k sc).trans ?_
    by_cases h : l < r
    · rw [Bo_t (show solB 1 m x l r = true from decide_eq_true h)]
      simp (disch := omega) only [bnd, bnd0, ↓cdec, ↓cnot, ↓reduceIte, Bo_0, Bo_1, ↓Bo_ok, i10, i01, eq_self, decide_true, decide_false, Bool.or_true, Bool.true_or, Bool.or_false, Bool.false_or, cond_true, cond_false, not_true_eq_false, not_false_eq_true, Bool.false_eq_true, and_self, and_true, true_and, and_false, false_and, nI_clamp, ↓inbc, inb_n, nI_pos, nI_1, h, b8_23_74, b8_23_79]
    · rw [Bo_f (show ¬ solB 1 m x l r = true from fun z => h (of_decide_eq_true z))]
      simp (disch := omega) only [bnd, bnd0, ↓cdec, ↓cnot, ↓reduceIte, Bo_0, Bo_1, ↓Bo_ok, i10, i01, eq_self, decide_true, decide_false, Bool.or_true, Bool.true_or, Bool.or_false, Bool.false_or, cond_true, cond_false, not_true_eq_false, not_false_eq_true, Bool.false_eq_true, and_self, and_true, true_and, and_false, false_and, nI_clamp, ↓inbc, inb_n, nI_pos, nI_1, h, b8_23_78, b8_23_79]
  | 2, _ =>
    refine (b8_23_80 d q x l r m I t1 t2 k sc).trans ?_
    by_cases h : jrem (l - r) m = 0
    · rw [Bo_t (show solB 2 m x l r = true from decide_eq_true h)]
      simp (disch := omega) only [bnd, bnd0, ↓cdec, ↓cnot, ↓reduceIte, Bo_0, Bo_1, ↓Bo_ok, i10, i01, eq_self, decide_true, decide_false, Bool.or_true, Bool.true_or, Bool.or_false, Bool.false_or, cond_true, cond_false, not_true_eq_false, not_false_eq_true, Bool.false_eq_true, and_self, and_true, true_and, and_false, false_and, nI_clamp, ↓inbc, inb_n, nI_pos, nI_1, hm, h, b8_23_90, b8_23_95]
    · rw [Bo_f (show ¬ solB 2 m x l r = true from fun z => h (of_decide_eq_true z))]
      simp (disch := omega) only [bnd, bnd0, ↓cdec, ↓cnot, ↓reduceIte, Bo_0, Bo_1, ↓Bo_ok, i10, i01, eq_self, decide_true, decide_false, Bool.or_true, Bool.true_or, Bool.or_false, Bool.false_or, cond_true, cond_false, not_true_eq_false, not_false_eq_true, Bool.false_eq_true, and_self, and_true, true_and, and_false, false_and, nI_clamp, ↓inbc, inb_n, nI_pos, nI_1, hm, h, b8_23_94, b8_23_95]
  | 3, _ =>
    refine (b8_23_96 d q x l r m I t1 t2 k sc).trans ?_
    by_cases h : jrem (l - r) m = 0
    · by_cases h2 : jrem x 2 = 1
      · rw [Bo_t (show solB 3 m x l r = true from by show (decide (jrem (l - r) m = 0) && decide (jrem x 2 = 1)) = true; rw [decide_eq_true h, decide_eq_true h2]; rfl)]
        simp (disch := omega) only [bnd, bnd0, ↓cdec, ↓cnot, ↓reduceIte, Bo_0, Bo_1, ↓Bo_ok, i10, i01, eq_self, decide_true, decide_false, Bool.or_true, Bool.true_or, Bool.or_false, Bool.false_or, cond_true, cond_false, not_true_eq_false, not_false_eq_true, Bool.false_eq_true, and_self, and_true, true_and, and_false, false_and, nI_clamp, ↓inbc, inb_n, nI_pos, nI_1, hm, h, h2, b8_23_106, b8_23_113, b8_23_118]
      · rw [Bo_f (show ¬ solB 3 m x l r = true from by show ¬ (decide (jrem (l - r) m = 0) && decide (jrem x 2 = 1)) = true; rw [decide_eq_true h, decide_eq_false h2]; decide)]
        simp (disch := omega) only [bnd, bnd0, ↓cdec, ↓cnot, ↓reduceIte, Bo_0, Bo_1, ↓Bo_ok, i10, i01, eq_self, decide_true, decide_false, Bool.or_true, Bool.true_or, Bool.or_false, Bool.false_or, cond_true, cond_false, not_true_eq_false, not_false_eq_true, Bool.false_eq_true, and_self, and_true, true_and, and_false, false_and, nI_clamp, ↓inbc, inb_n, nI_pos, nI_1, hm, h, h2, b8_23_106, b8_23_117, b8_23_118]
    · rw [Bo_f (show ¬ solB 3 m x l r = true from by show ¬ (decide (jrem (l - r) m = 0) && decide (jrem x 2 = 1)) = true; rw [decide_eq_false h, Bool.false_and]; decide)]
      simp (disch := omega) only [bnd, bnd0, ↓cdec, ↓cnot, ↓reduceIte, Bo_0, Bo_1, ↓Bo_ok, i10, i01, eq_self, decide_true, decide_false, Bool.or_true, Bool.true_or, Bool.or_false, Bool.false_or, cond_true, cond_false, not_true_eq_false, not_false_eq_true, Bool.false_eq_true, and_self, and_true, true_and, and_false, false_and, nI_clamp, ↓inbc, inb_n, nI_pos, nI_1, hm, h, b8_23_117, b8_23_118]
  | 4, _ =>
    refine (b8_23_119 d q x l r m I t1 t2 k sc).trans ?_
    by_cases h : l = r
    · rw [Bo_f (show ¬ solB 4 m x l r = true from by show ¬ (!decide (l = r)) = true; rw [decide_eq_true h]; decide)]
      simp (disch := omega) only [bnd, bnd0, ↓cdec, ↓cnot, ↓reduceIte, Bo_0, Bo_1, ↓Bo_ok, i10, i01, eq_self, decide_true, decide_false, Bool.or_true, Bool.true_or, Bool.or_false, Bool.false_or, cond_true, cond_false, not_true_eq_false, not_false_eq_true, Bool.false_eq_true, and_self, and_true, true_and, and_false, false_and, nI_clamp, ↓inbc, inb_n, nI_pos, nI_1, h, b8_23_129, b8_23_130]
    · rw [Bo_t (show solB 4 m x l r = true from by show (!decide (l = r)) = true; rw [decide_eq_false h]; decide)]
      simp (disch := omega) only [bnd, bnd0, ↓cdec, ↓cnot, ↓reduceIte, Bo_0, Bo_1, ↓Bo_ok, i10, i01, eq_self, decide_true, decide_false, Bool.or_true, Bool.true_or, Bool.or_false, Bool.false_or, cond_true, cond_false, not_true_eq_false, not_false_eq_true, Bool.false_eq_true, and_self, and_true, true_and, and_false, false_and, nI_clamp, ↓inbc, inb_n, nI_pos, nI_1, h, b8_23_125, b8_23_130]
  | 5, _ =>
    refine (b8_23_131 d q x l r m I t1 t2 k sc).trans ?_
    by_cases h : r < l
    · rw [Bo_t (show solB 5 m x l r = true from decide_eq_true h)]
      simp (disch := omega) only [bnd, bnd0, ↓cdec, ↓cnot, ↓reduceIte, Bo_0, Bo_1, ↓Bo_ok, i10, i01, eq_self, decide_true, decide_false, Bool.or_true, Bool.true_or, Bool.or_false, Bool.false_or, cond_true, cond_false, not_true_eq_false, not_false_eq_true, Bool.false_eq_true, and_self, and_true, true_and, and_false, false_and, nI_clamp, ↓inbc, inb_n, nI_pos, nI_1, h, b8_23_137, b8_23_142]
    · rw [Bo_f (show ¬ solB 5 m x l r = true from fun z => h (of_decide_eq_true z))]
      simp (disch := omega) only [bnd, bnd0, ↓cdec, ↓cnot, ↓reduceIte, Bo_0, Bo_1, ↓Bo_ok, i10, i01, eq_self, decide_true, decide_false, Bool.or_true, Bool.true_or, Bool.or_false, Bool.false_or, cond_true, cond_false, not_true_eq_false, not_false_eq_true, Bool.false_eq_true, and_self, and_true, true_and, and_false, false_and, nI_clamp, ↓inbc, inb_n, nI_pos, nI_1, h, b8_23_141, b8_23_142]
  | 6, _ =>
    refine (b8_23_143 d q x l r m I t1 t2 k sc).trans ?_
    have hz : (0 : Int32) - m = -m := Int32.zero_sub m
    simp (disch := omega) only [bnd, bnd0, ↓cdec, ↓cnot, ↓reduceIte, Bo_0, Bo_1, ↓Bo_ok, i10, i01, eq_self, decide_true, decide_false, Bool.or_true, Bool.true_or, Bool.or_false, Bool.false_or, cond_true, cond_false, not_true_eq_false, not_false_eq_true, Bool.false_eq_true, and_self, and_true, true_and, and_false, false_and, nI_clamp, ↓inbc, inb_n, nI_pos, nI_1, m_in32, Int32.toInt_toInt64, hz, b8_23_159]
    rw [Bo_congr (q := solB 6 m x l r = true) (by
      show _ ↔ (decide ((-m).toInt ≤ (l - r).toInt) && decide ((l - r).toInt ≤ m.toInt)) = true
      rw [Bool.and_eq_true, decide_eq_true_iff, decide_eq_true_iff])]
  | n + 7, h => omega
theorem m_isSolved {q x : Nat} (hq : q < 8) (hx : x < 100) {K : IFn} {t : Option (Nat × Nat)} {k' : Nat} {kd m : Int32} (hS : sumOK K t k' kd m (cS I q)) : ∃ J, den (d + 2, 8, 23, 0, [some (vr 0 56), some (vi (nI q)), some (vi (nI x)), none, none, none], [], mkH I t1 t2 k sc) = some (some (vi (Bo (solC (cS I q) x = true))), mkH (J) t1 t2 k sc) ∧ F64 I J := by
  obtain ⟨n1, n2, h12, h3, h4, hl, hr, el, er⟩ := hS.sides
  obtain ⟨-, ⟨c, -, c6, hc⟩, -, hm, -⟩ := hS
  obtain ⟨J1, e1, f1⟩ := m_sideOf d I t1 t2 k sc (s := 0) hq (by omega) h12 (nI x) h3 h4 hl hr
  have f1' : F64 I J1 := f1
  have hcs := f1'.cS q
  have g3 : J1 0 57 (105 + 45 * q + 3) = nI n1 := by rw [f1 _ _ _ (by omega)]; exact h3
  have g4 : J1 0 57 (105 + 45 * q + 4) = nI n2 := by rw [f1 _ _ _ (by omega)]; exact h4
  have gl : (fun i => J1 0 57 (105 + 45 * q + (2 + (3 + i)))) = fun i => cS I q (2 + (3 + i)) := funext fun i => f1 _ _ _ (by omega)
  have gr : (fun i => J1 0 57 (105 + 45 * q + (2 + (3 + n1 + i)))) = fun i => cS I q (2 + (3 + n1 + i)) := funext fun i => f1 _ _ _ (by omega)
  obtain ⟨J2, e2, f2⟩ := m_sideOf d J1 t1 t2 k sc (s := 1) hq (by omega) h12 (nI x) g3 g4 (by rw [gl]; exact hl) (by rw [gr]; exact hr)
  rw [gr] at e2
  have e1' : den (d + 1, 8, 22, 0, [some (vr 0 56), some (vi (nI q)), some (vi 0), some (vi (nI x)), none, none, none, none], [], mkH I t1 t2 k sc) = some (some (vi (lC (cS I q) (nI x))), mkH (J1) t1 t2 k sc) := by rw [el]; exact e1
  have e2' : den (d + 1, 8, 22, 0, [some (vr 0 56), some (vi (nI q)), some (vi 1), some (vi (nI x)), none, none, none, none], [], mkH (J1) t1 t2 k sc) = some (some (vi (rC (cS I q) (nI x))), mkH (J2) t1 t2 k sc) := by rw [er]; exact e2
  have f2' : F64 J1 J2 := f2
  have k1 : J2 0 57 (105 + 45 * q + 1) = cS I q 1 := (f2 _ _ _ (by omega)).trans (f1 _ _ _ (by omega))
  have k0 : J2 0 57 (105 + 45 * q + 0) = nI c := ((f2 _ _ _ (by omega)).trans (f1 _ _ _ (by omega))).trans hc
  have hm0 : ¬ cS I q 1 = 0 := rng_ne0 hm (by omega) (by omega)
  refine ⟨J2, ?_, f1'.trans f2'⟩
  have hkc : (cS I q 0).toNatClampNeg = c := by rw [hc, nI_clamp (by omega)]
  simp (disch := omega) only [bnd, b8_23_0, e1', b8_23_7, e2', b8_23_15, m_it1, k1, b8_23_23, m_it0, k0]
  rw [m_sw (d + 1) J2 t1 t2 k sc c6 hm0, solC, solW, hkc]
theorem m_hard {q : Nat} (hq : q < 8) : den (d + 1, 8, 24, 0, [some (vr 0 56), some (vi (nI q)), none, none], [], mkH I t1 t2 k sc) = some (some (vi (hardC (cS I q))), mkH I t1 t2 k sc) := by
  have e2 : I 0 57 (105 + 45 * q + 2) = cS I q 2 := rfl
  have e0 : I 0 57 (105 + 45 * q + 0) = cS I q 0 := rfl
  by_cases h1 : cS I q 0 = 1
  · rw [hardC, if_pos (Or.inl h1)]
    simp (disch := omega) only [bnd, bnd0, ↓cdec, ↓cnot, ↓reduceIte, Bo_0, Bo_1, ↓Bo_ok, i10, i01, eq_self, decide_true, decide_false, Bool.or_true, Bool.true_or, Bool.or_false, Bool.false_or, cond_true, cond_false, not_true_eq_false, not_false_eq_true, Bool.false_eq_true, and_self, and_true, true_and, and_false, false_and, nI_clamp, ↓inbc, inb_n, nI_pos, nI_1, b8_24_0, b8_24_6, b8_24_13, b8_24_19, b8_24_24, b8_24_32, b8_24_37, b8_24_43, b8_24_44, m_it0, m_it2, e0, e2, h1]
  · by_cases h5 : cS I q 0 = 5
    · rw [hardC, if_pos (Or.inr h5)]
      have g1 : ¬ (5 : Int32) = 1 := by decide
      simp (disch := omega) only [bnd, bnd0, ↓cdec, ↓cnot, ↓reduceIte, Bo_0, Bo_1, ↓Bo_ok, i10, i01, eq_self, decide_true, decide_false, Bool.or_true, Bool.true_or, Bool.or_false, Bool.false_or, cond_true, cond_false, not_true_eq_false, not_false_eq_true, Bool.false_eq_true, and_self, and_true, true_and, and_false, false_and, nI_clamp, ↓inbc, inb_n, nI_pos, nI_1, b8_24_0, b8_24_6, b8_24_13, b8_24_19, b8_24_24, b8_24_32, b8_24_37, b8_24_43, b8_24_44, m_it0, m_it2, e0, e2, h5, g1]
    · rw [hardC, if_neg (fun z => z.elim h1 h5)]
      by_cases h3 : cS I q 0 = 3
      · have g1 : ¬ (3 : Int32) = 1 := by decide
        have g5 : ¬ (3 : Int32) = 5 := by decide
        rw [if_pos h3]
        simp (disch := omega) only [bnd, bnd0, ↓cdec, ↓cnot, ↓reduceIte, Bo_0, Bo_1, ↓Bo_ok, i10, i01, eq_self, decide_true, decide_false, Bool.or_true, Bool.true_or, Bool.or_false, Bool.false_or, cond_true, cond_false, not_true_eq_false, not_false_eq_true, Bool.false_eq_true, and_self, and_true, true_and, and_false, false_and, nI_clamp, ↓inbc, inb_n, nI_pos, nI_1, b8_24_0, b8_24_6, b8_24_13, b8_24_19, b8_24_24, b8_24_32, b8_24_37, b8_24_43, b8_24_44, m_it0, m_it2, e0, e2, h3, g1, g5]
      · rw [if_neg h3]
        simp (disch := omega) only [bnd, bnd0, ↓cdec, ↓cnot, ↓reduceIte, Bo_0, Bo_1, ↓Bo_ok, i10, i01, eq_self, decide_true, decide_false, Bool.or_true, Bool.true_or, Bool.or_false, Bool.false_or, cond_true, cond_false, not_true_eq_false, not_false_eq_true, Bool.false_eq_true, and_self, and_true, true_and, and_false, false_and, nI_clamp, ↓inbc, inb_n, nI_pos, nI_1, b8_24_0, b8_24_6, b8_24_13, b8_24_19, b8_24_24, b8_24_32, b8_24_37, b8_24_43, b8_24_44, m_it0, m_it2, e0, e2, h1, h5, h3]
end
/-- how many of the first n -/
def cB (f : Nat → Bool) : Nat → Nat
  | 0 => 0
  | n + 1 => if f n = true then cB f n + 1 else cB f n
theorem cB_le (f : Nat → Bool) : ∀ n, cB f n ≤ n
  | 0 => Nat.le_refl _
  | n + 1 => by
    rw [cB]
    have := cB_le f n
    by_cases h : f n = true
    · rw [if_pos h]; omega
    · rw [if_neg h]; omega
section
variable (d : Nat) (I : IFn) (t1 t2 : TFn) (k : Nat) (sc : Nat × (Nat → Int32))
theorem m_solvers {q : Nat} (hq : q < 8) {K : IFn} {t : Option (Nat × Nat)} {k' : Nat} {kd m : Int32} (hS : sumOK K t k' kd m (cS I q)) : ∃ J, den (d + 3, 8, 25, 0, [some (vr 0 56), some (vi (nI q)), none, none], [], mkH I t1 t2 k sc) = some (some (vi (nI (cB (solC (cS I q)) 100))), mkH (J) t1 t2 k sc) ∧ F64 I J := by
  obtain ⟨J, e, hf⟩ := lpE (fun x J => den (d + 3, 8, 25, 4, [some (vr 0 56), some (vi (nI q)), some (vi (nI (cB (solC (cS I q)) x))), some (vi (nI x))], [], mkH (J) t1 t2 k sc))
    (fun x J => F64 I J) (N := 100)
    (by
      intro x J hx hP
      have hc := hP.cS q
      obtain ⟨J', e, f⟩ := m_isSolved d J t1 t2 k sc hq hx (by rw [hc]; exact hS)
      rw [hc] at e
      refine ⟨J', ?_, hP.trans f⟩
      rw [b8_25_4, cB]
      by_cases h : solC (cS I q) x = true
      · simp (disch := omega) only [bnd, bnd0, ↓cdec, ↓cnot, ↓reduceIte, Bo_0, Bo_1, ↓Bo_ok, i10, i01, eq_self, decide_true, decide_false, Bool.or_true, Bool.true_or, Bool.or_false, Bool.false_or, cond_true, cond_false, not_true_eq_false, not_false_eq_true, Bool.false_eq_true, and_self, and_true, true_and, and_false, false_and, nI_clamp, ↓inbc, inb_n, nI_pos, nI_1, lt_100, hx, b8_25_10, e, h, b8_25_17, b8_25_20, b8_25_25]
      · simp (disch := omega) only [bnd, bnd0, ↓cdec, ↓cnot, ↓reduceIte, Bo_0, Bo_1, ↓Bo_ok, i10, i01, eq_self, decide_true, decide_false, Bool.or_true, Bool.true_or, Bool.or_false, Bool.false_or, cond_true, cond_false, not_true_eq_false, not_false_eq_true, Bool.false_eq_true, and_self, and_true, true_and, and_false, false_and, nI_clamp, ↓inbc, inb_n, nI_pos, nI_1, lt_100, hx, b8_25_10, e, h, b8_25_17, b8_25_24, b8_25_25, Int32.add_zero]) 0 I (by omega) F64.rfl
  refine ⟨J, ?_, hf⟩
  refine (b8_25_0 (d + 2) (nI q) I t1 t2 k sc).trans (e.trans ?_)
  rw [b8_25_4]
  simp (disch := omega) only [bnd, bnd0, ↓cdec, ↓cnot, ↓reduceIte, Bo_0, Bo_1, ↓Bo_ok, i10, i01, eq_self, decide_true, decide_false, Bool.or_true, Bool.true_or, Bool.or_false, Bool.false_or, cond_true, cond_false, not_true_eq_false, not_false_eq_true, Bool.false_eq_true, and_self, and_true, true_and, and_false, false_and, nI_clamp, ↓inbc, inb_n, nI_pos, nI_1, lt_100, Nat.lt_irrefl, b8_25_33]
end
/-! of the class -/
section
variable (d : Nat) (I : IFn) (t1 t2 : TFn) (k : Nat) (sc : Nat × (Nat → Int32))
theorem x_isMult (v : Int32) {m : Int32} (hm : ¬ m = 0) : den (d, 3, 9, 0, [some (vi v), some (vi m)], [], mkH I t1 t2 k sc) = some (some (vi (Bo (jrem v m = 0))), mkH I t1 t2 k sc) := by
  by_cases h : jrem v m = 0
  · rw [Bo_t h]; simp (disch := omega) only [bnd, bnd0, ↓cdec, ↓cnot, ↓reduceIte, Bo_0, Bo_1, ↓Bo_ok, i10, i01, eq_self, decide_true, decide_false, Bool.or_true, Bool.true_or, Bool.or_false, Bool.false_or, cond_true, cond_false, not_true_eq_false, not_false_eq_true, Bool.false_eq_true, and_self, and_true, true_and, and_false, false_and, nI_clamp, ↓inbc, inb_n, nI_pos, nI_1, b3_9_0, b3_9_4, b3_9_10, b3_9_14, b3_9_15, hm, h]
  · rw [Bo_f h]; simp (disch := omega) only [bnd, bnd0, ↓cdec, ↓cnot, ↓reduceIte, Bo_0, Bo_1, ↓Bo_ok, i10, i01, eq_self, decide_true, decide_false, Bool.or_true, Bool.true_or, Bool.or_false, Bool.false_or, cond_true, cond_false, not_true_eq_false, not_false_eq_true, Bool.false_eq_true, and_self, and_true, true_and, and_false, false_and, nI_clamp, ↓inbc, inb_n, nI_pos, nI_1, b3_9_0, b3_9_4, b3_9_10, b3_9_14, b3_9_15, hm, h]
theorem x_sw {kd : Nat} (hk : kd ≤ 6) {m : Int32} (hm : ¬ m = 0) {q x : Nat} (hq : q < 8) (hx : x < 100) (e : Nat) (l : Int32) (h6 : I 0 (4 + 2) q = nI kd) : den (d + 1, 3, 8, 39, [some (vr 0 4), some (vi (nI q)), some (vi (nI x)), some (vi m), some (vi l), none], [vr (e + 1) 0], mkH I t1 t2 k sc) = some (some (vi (Bo (solB kd m (nI x) l (I (e + 1) 2 x) = true))), mkH I t1 t2 k sc) := by
  have ek : (nI kd).toInt = (kd : Int) := nI_toInt (by omega)
  rw [b3_8_39 d e (Or.inl rfl), inb_n hx (by omega), cond_true, inb_n hq (by omega), cond_true, nI_clamp (by omega), nI_clamp (by omega), h6, ek]
  generalize I (e + 1) 2 x = r
  match kd, hk with
  | 0, _ =>
    refine (b3_8_178 d 4 (nI q) (nI x) m l r I t1 t2 k sc).trans ?_
    by_cases h : l = r
    · rw [Bo_t (show solB 0 m (nI x) l r = true from decide_eq_true h)]
      simp (disch := omega) only [bnd, bnd0, ↓cdec, ↓cnot, ↓reduceIte, Bo_0, Bo_1, ↓Bo_ok, i10, i01, eq_self, decide_true, decide_false, Bool.or_true, Bool.true_or, Bool.or_false, Bool.false_or, cond_true, cond_false, not_true_eq_false, not_false_eq_true, Bool.false_eq_true, and_self, and_true, true_and, and_false, false_and, nI_clamp, ↓inbc, inb_n, nI_pos, nI_1, h, b3_8_185, b3_8_190]
    · rw [Bo_f (show ¬ solB 0 m (nI x) l r = true from fun z => h (of_decide_eq_true z))]
      simp (disch := omega) only [bnd, bnd0, ↓cdec, ↓cnot, ↓reduceIte, Bo_0, Bo_1, ↓Bo_ok, i10, i01, eq_self, decide_true, decide_false, Bool.or_true, Bool.true_or, Bool.or_false, Bool.false_or, cond_true, cond_false, not_true_eq_false, not_false_eq_true, Bool.false_eq_true, and_self, and_true, true_and, and_false, false_and, nI_clamp, ↓inbc, inb_n, nI_pos, nI_1, h, b3_8_189, b3_8_190]
  | 1, _ =>
    refine (b3_8_92 d 4 (nI q) (nI x) m l r I t1 t2 k sc).trans ?_
    by_cases h : l < r
    · rw [Bo_t (show solB 1 m (nI x) l r = true from decide_eq_true h)]
      simp (disch := omega) only [bnd, bnd0, ↓cdec, ↓cnot, ↓reduceIte, Bo_0, Bo_1, ↓Bo_ok, i10, i01, eq_self, decide_true, decide_false, Bool.or_true, Bool.true_or, Bool.or_false, Bool.false_or, cond_true, cond_false, not_true_eq_false, not_false_eq_true, Bool.false_eq_true, and_self, and_true, true_and, and_false, false_and, nI_clamp, ↓inbc, inb_n, nI_pos, nI_1, h, b3_8_99, b3_8_104]
    · rw [Bo_f (show ¬ solB 1 m (nI x) l r = true from fun z => h (of_decide_eq_true z))]
      simp (disch := omega) only [bnd, bnd0, ↓cdec, ↓cnot, ↓reduceIte, Bo_0, Bo_1, ↓Bo_ok, i10, i01, eq_self, decide_true, decide_false, Bool.or_true, Bool.true_or, Bool.or_false, Bool.false_or, cond_true, cond_false, not_true_eq_false, not_false_eq_true, Bool.false_eq_true, and_self, and_true, true_and, and_false, false_and, nI_clamp, ↓inbc, inb_n, nI_pos, nI_1, h, b3_8_103, b3_8_104]
  | 2, _ =>
    refine (b3_8_105 d 4 (nI q) (nI x) m l r I t1 t2 k sc).trans ?_
    by_cases h : jrem (l - r) m = 0
    · rw [Bo_t (show solB 2 m (nI x) l r = true from decide_eq_true h)]
      simp (disch := omega) only [bnd, bnd0, ↓cdec, ↓cnot, ↓reduceIte, Bo_0, Bo_1, ↓Bo_ok, i10, i01, eq_self, decide_true, decide_false, Bool.or_true, Bool.true_or, Bool.or_false, Bool.false_or, cond_true, cond_false, not_true_eq_false, not_false_eq_true, Bool.false_eq_true, and_self, and_true, true_and, and_false, false_and, nI_clamp, ↓inbc, inb_n, nI_pos, nI_1, x_isMult d I t1 t2 k sc _ hm, h, b3_8_114, Bo_t]
      rfl
    · rw [Bo_f (show ¬ solB 2 m (nI x) l r = true from fun z => h (of_decide_eq_true z))]
      simp (disch := omega) only [bnd, bnd0, ↓cdec, ↓cnot, ↓reduceIte, Bo_0, Bo_1, ↓Bo_ok, i10, i01, eq_self, decide_true, decide_false, Bool.or_true, Bool.true_or, Bool.or_false, Bool.false_or, cond_true, cond_false, not_true_eq_false, not_false_eq_true, Bool.false_eq_true, and_self, and_true, true_and, and_false, false_and, nI_clamp, ↓inbc, inb_n, nI_pos, nI_1, x_isMult d I t1 t2 k sc _ hm, h, b3_8_114, Bo_f]
      rfl
  | 3, _ =>
    refine (b3_8_115 d 4 (nI q) (nI x) m l r I t1 t2 k sc).trans ?_
    by_cases h : jrem (l - r) m = 0
    · by_cases h2 : jrem (nI x) 2 = 1
      · rw [Bo_t (show solB 3 m (nI x) l r = true from by show (decide (jrem (l - r) m = 0) && decide (jrem (nI x) 2 = 1)) = true; rw [decide_eq_true h, decide_eq_true h2]; rfl)]
        simp (disch := omega) only [bnd, bnd0, ↓cdec, ↓cnot, ↓reduceIte, Bo_0, Bo_1, ↓Bo_ok, i10, i01, eq_self, decide_true, decide_false, Bool.or_true, Bool.true_or, Bool.or_false, Bool.false_or, cond_true, cond_false, not_true_eq_false, not_false_eq_true, Bool.false_eq_true, and_self, and_true, true_and, and_false, false_and, nI_clamp, ↓inbc, inb_n, nI_pos, nI_1, x_isMult d I t1 t2 k sc _ hm, h, h2, b3_8_124, b3_8_127, b3_8_134, b3_8_139]
      · rw [Bo_f (show ¬ solB 3 m (nI x) l r = true from by show ¬ (decide (jrem (l - r) m = 0) && decide (jrem (nI x) 2 = 1)) = true; rw [decide_eq_true h, decide_eq_false h2]; decide)]
        simp (disch := omega) only [bnd, bnd0, ↓cdec, ↓cnot, ↓reduceIte, Bo_0, Bo_1, ↓Bo_ok, i10, i01, eq_self, decide_true, decide_false, Bool.or_true, Bool.true_or, Bool.or_false, Bool.false_or, cond_true, cond_false, not_true_eq_false, not_false_eq_true, Bool.false_eq_true, and_self, and_true, true_and, and_false, false_and, nI_clamp, ↓inbc, inb_n, nI_pos, nI_1, x_isMult d I t1 t2 k sc _ hm, h, h2, b3_8_124, b3_8_127, b3_8_138, b3_8_139]
    · rw [Bo_f (show ¬ solB 3 m (nI x) l r = true from by show ¬ (decide (jrem (l - r) m = 0) && decide (jrem (nI x) 2 = 1)) = true; rw [decide_eq_false h, Bool.false_and]; decide)]
      simp (disch := omega) only [bnd, bnd0, ↓cdec, ↓cnot, ↓reduceIte, Bo_0, Bo_1, ↓Bo_ok, i10, i01, eq_self, decide_true, decide_false, Bool.or_true, Bool.true_or, Bool.or_false, Bool.false_or, cond_true, cond_false, not_true_eq_false, not_false_eq_true, Bool.false_eq_true, and_self, and_true, true_and, and_false, false_and, nI_clamp, ↓inbc, inb_n, nI_pos, nI_1, x_isMult d I t1 t2 k sc _ hm, h, b3_8_124, b3_8_138, b3_8_139]
  | 4, _ =>
    refine (b3_8_140 d 4 (nI q) (nI x) m l r I t1 t2 k sc).trans ?_
    by_cases h : l = r
    · rw [Bo_f (show ¬ solB 4 m (nI x) l r = true from by show ¬ (!decide (l = r)) = true; rw [decide_eq_true h]; decide)]
      simp (disch := omega) only [bnd, bnd0, ↓cdec, ↓cnot, ↓reduceIte, Bo_0, Bo_1, ↓Bo_ok, i10, i01, eq_self, decide_true, decide_false, Bool.or_true, Bool.true_or, Bool.or_false, Bool.false_or, cond_true, cond_false, not_true_eq_false, not_false_eq_true, Bool.false_eq_true, and_self, and_true, true_and, and_false, false_and, nI_clamp, ↓inbc, inb_n, nI_pos, nI_1, h, b3_8_151, b3_8_152]
    · rw [Bo_t (show solB 4 m (nI x) l r = true from by show (!decide (l = r)) = true; rw [decide_eq_false h]; decide)]
      simp (disch := omega) only [bnd, bnd0, ↓cdec, ↓cnot, ↓reduceIte, Bo_0, Bo_1, ↓Bo_ok, i10, i01, eq_self, decide_true, decide_false, Bool.or_true, Bool.true_or, Bool.or_false, Bool.false_or, cond_true, cond_false, not_true_eq_false, not_false_eq_true, Bool.false_eq_true, and_self, and_true, true_and, and_false, false_and, nI_clamp, ↓inbc, inb_n, nI_pos, nI_1, h, b3_8_147, b3_8_152]
  | 5, _ =>
    refine (b3_8_153 d 4 (nI q) (nI x) m l r I t1 t2 k sc).trans ?_
    by_cases h : r < l
    · rw [Bo_t (show solB 5 m (nI x) l r = true from decide_eq_true h)]
      simp (disch := omega) only [bnd, bnd0, ↓cdec, ↓cnot, ↓reduceIte, Bo_0, Bo_1, ↓Bo_ok, i10, i01, eq_self, decide_true, decide_false, Bool.or_true, Bool.true_or, Bool.or_false, Bool.false_or, cond_true, cond_false, not_true_eq_false, not_false_eq_true, Bool.false_eq_true, and_self, and_true, true_and, and_false, false_and, nI_clamp, ↓inbc, inb_n, nI_pos, nI_1, h, b3_8_160, b3_8_165]
    · rw [Bo_f (show ¬ solB 5 m (nI x) l r = true from fun z => h (of_decide_eq_true z))]
      simp (disch := omega) only [bnd, bnd0, ↓cdec, ↓cnot, ↓reduceIte, Bo_0, Bo_1, ↓Bo_ok, i10, i01, eq_self, decide_true, decide_false, Bool.or_true, Bool.true_or, Bool.or_false, Bool.false_or, cond_true, cond_false, not_true_eq_false, not_false_eq_true, Bool.false_eq_true, and_self, and_true, true_and, and_false, false_and, nI_clamp, ↓inbc, inb_n, nI_pos, nI_1, h, b3_8_164, b3_8_165]
  | 6, _ =>
    refine (b3_8_166 d 4 (nI q) (nI x) m l r I t1 t2 k sc).trans ?_
    simp (disch := omega) only [bnd, bnd0, ↓cdec, ↓cnot, ↓reduceIte, Bo_0, Bo_1, ↓Bo_ok, i10, i01, eq_self, decide_true, decide_false, Bool.or_true, Bool.true_or, Bool.or_false, Bool.false_or, cond_true, cond_false, not_true_eq_false, not_false_eq_true, Bool.false_eq_true, and_self, and_true, true_and, and_false, false_and, nI_clamp, ↓inbc, inb_n, nI_pos, nI_1, x_within, b3_8_177]
    rw [Bo_congr (q := solB 6 m (nI x) l r = true) (by
      show _ ↔ (decide ((-m).toInt ≤ (l - r).toInt) && decide ((l - r).toInt ≤ m.toInt)) = true
      rw [Bool.and_eq_true, decide_eq_true_iff, decide_eq_true_iff])]
  | n + 7, h => omega
theorem x_solW {n q x : Nat} (hn : n ≤ 8) (h43 : I 0 4 3 = nI n) (ht : ∀ q, q < n → ∃ e, t1 q = some (e + 1, 0)) (hq : q < n) (hx : x < 100) {m m0 : Int32} (hm : ¬ m = 0) {C : Nat → Int32} (hS : sumOK I (t1 q) k (I 0 6 q) m0 C) : den (d + 1, 3, 8, 0, [some (vr 0 4), some (vi (nI q)), some (vi (nI x)), some (vi m), none, none], [], mkH I t1 t2 k sc) = some (some (vi (Bo (solW C m x = true))), mkH I t1 t2 k sc) := by
  obtain ⟨n1, n2, h12, h3, h4, hl, hr, el, er⟩ := hS.sides
  obtain ⟨s0, ⟨c, -, c6, hc⟩, -, -, e, he, hte, n1', n2', b0, b1, b2, b3, b4, b5, b6, b7, b8, b9, b10, b11⟩ := hS
  have i1 : nI n1' = nI n1 := b3.symm.trans h3
  have i2 : nI n2' = nI n2 := b4.symm.trans h4
  have j1 : n1' = n1 := (nI_eq (by omega) (by omega)).mp i1
  have j2 : n2' = n2 := (nI_eq (by omega) (by omega)).mp i2
  subst j1 j2
  obtain ⟨g1, g2'⟩ := b11 x hx
  have g1' : I (e + 1) 1 x = lC C (nI x) := by rw [el]; exact g1
  have g2'' : I (e + 1) 2 x = rC C (nI x) := by rw [er]; exact g2'
  have hb : 0 ≤ (nI q).toInt ∧ (nI q).toInt < (n : Int) := by rw [nI_toInt (by omega)]; omega
  have hr' : rR (mkH I t1 t2 k sc) 0 (4 + 1) q = some (e + 1, 0) := hte
  have hkc : (C 0).toNatClampNeg = c := by rw [hc, nI_clamp (by omega)]
  have sw := x_sw d I t1 t2 k sc c6 hm (show q < 8 by omega) hx e (lC C (nI x)) (s0.trans hc)
  rw [g2''] at sw
  simp (disch := omega) only [bnd, bnd0, ↓cdec, ↓cnot, ↓reduceIte, Bo_0, Bo_1, ↓Bo_ok, i10, i01, eq_self, decide_true, decide_false, Bool.or_true, Bool.true_or, Bool.or_false, Bool.false_or, cond_true, cond_false, not_true_eq_false, not_false_eq_true, Bool.false_eq_true, and_self, and_true, true_and, and_false, false_and, nI_clamp, ↓inbc, inb_n, nI_pos, nI_1, b3_8_0, b3_8_5, b3_8_8, b3_8_12, b3_8_20, b3_8_26, x_has d I t1 t2 k sc hn h43 ht, hb, lt_100, hx, hr', g1']
  rw [sw, solW, hkc]
theorem x_solC {n q x : Nat} (hn : n ≤ 8) (h43 : I 0 4 3 = nI n) (ht : ∀ q, q < n → ∃ e, t1 q = some (e + 1, 0)) (hq : q < n) (hx : x < 100) {C : Nat → Int32} (hS : sumOK I (t1 q) k (I 0 6 q) (I 0 7 q) C) : den (d + 2, 3, 6, 0, [some (vr 0 4), some (vi (nI q)), some (vi (nI x))], [], mkH I t1 t2 k sc) = some (some (vi (Bo (solC C x = true))), mkH I t1 t2 k sc) := by
  have hb : 0 ≤ (nI q).toInt ∧ (nI q).toInt < (n : Int) := by rw [nI_toInt (by omega)]; omega
  have h7 : I 0 (4 + 3) q = C 1 := hS.2.2.1
  have hm : ¬ C 1 = 0 := rng_ne0 hS.2.2.2.1 (by omega) (by omega)
  have sw := x_solW d I t1 t2 k sc hn h43 ht hq hx hm hS
  by_cases h : solC C x = true
  · rw [Bo_t h]
    simp (disch := omega) only [bnd, bnd0, ↓cdec, ↓cnot, ↓reduceIte, Bo_0, Bo_1, ↓Bo_ok, i10, i01, eq_self, decide_true, decide_false, Bool.or_true, Bool.true_or, Bool.or_false, Bool.false_or, cond_true, cond_false, not_true_eq_false, not_false_eq_true, Bool.false_eq_true, and_self, and_true, true_and, and_false, false_and, nI_clamp, ↓inbc, inb_n, nI_pos, nI_1, b3_6_0, b3_6_5, b3_6_8, b3_6_20, b3_6_23, b3_6_27, b3_6_28, x_has (d + 1) I t1 t2 k sc hn h43 ht, hb, h7, sw, h]
  · rw [Bo_f h]
    simp (disch := omega) only [bnd, bnd0, ↓cdec, ↓cnot, ↓reduceIte, Bo_0, Bo_1, ↓Bo_ok, i10, i01, eq_self, decide_true, decide_false, Bool.or_true, Bool.true_or, Bool.or_false, Bool.false_or, cond_true, cond_false, not_true_eq_false, not_false_eq_true, Bool.false_eq_true, and_self, and_true, true_and, and_false, false_and, nI_clamp, ↓inbc, inb_n, nI_pos, nI_1, b3_6_0, b3_6_5, b3_6_8, b3_6_20, b3_6_23, b3_6_27, b3_6_28, x_has (d + 1) I t1 t2 k sc hn h43 ht, hb, h7, sw, h]
theorem x_solvers {n q : Nat} (hn : n ≤ 8) (h43 : I 0 4 3 = nI n) (ht : ∀ q, q < n → ∃ e, t1 q = some (e + 1, 0)) (hq : q < n) {m m0 : Int32} (hm : ¬ m = 0) {C : Nat → Int32} (hS : sumOK I (t1 q) k (I 0 6 q) m0 C) : den (d + 2, 3, 7, 0, [some (vr 0 4), some (vi (nI q)), some (vi m), none, none], [], mkH I t1 t2 k sc) = some (some (vi (nI (cB (solW C m) 100))), mkH I t1 t2 k sc) := by
  have st : ∀ x, x < 100 → den (d + 2, 3, 7, 5, [some (vr 0 4), some (vi (nI q)), some (vi m), some (vi (nI (cB (solW C m) x))), some (vi (nI x))], [], mkH I t1 t2 k sc) = den (d + 2, 3, 7, 5, [some (vr 0 4), some (vi (nI q)), some (vi m), some (vi (nI (cB (solW C m) (x + 1)))), some (vi (nI (x + 1)))], [], mkH I t1 t2 k sc) := by
    intro x hx
    have sw := x_solW d I t1 t2 k sc hn h43 ht hq hx hm hS
    rw [b3_7_5, cB]
    by_cases h : solW C m x = true
    · simp (disch := omega) only [bnd, bnd0, ↓cdec, ↓cnot, ↓reduceIte, Bo_0, Bo_1, ↓Bo_ok, i10, i01, eq_self, decide_true, decide_false, Bool.or_true, Bool.true_or, Bool.or_false, Bool.false_or, cond_true, cond_false, not_true_eq_false, not_false_eq_true, Bool.false_eq_true, and_self, and_true, true_and, and_false, false_and, nI_clamp, ↓inbc, inb_n, nI_pos, nI_1, lt_100, hx, b3_7_12, sw, h, b3_7_20, b3_7_23, b3_7_26]
    · simp (disch := omega) only [bnd, bnd0, ↓cdec, ↓cnot, ↓reduceIte, Bo_0, Bo_1, ↓Bo_ok, i10, i01, eq_self, decide_true, decide_false, Bool.or_true, Bool.true_or, Bool.or_false, Bool.false_or, cond_true, cond_false, not_true_eq_false, not_false_eq_true, Bool.false_eq_true, and_self, and_true, true_and, and_false, false_and, nI_clamp, ↓inbc, inb_n, nI_pos, nI_1, lt_100, hx, b3_7_12, sw, h, b3_7_20, b3_7_26]
  refine (b3_7_0 (d + 1) 4 (nI q) m I t1 t2 k sc).trans ?_
  refine (lp (fun x => den (d + 2, 3, 7, 5, [some (vr 0 4), some (vi (nI q)), some (vi m), some (vi (nI (cB (solW C m) x))), some (vi (nI x))], [], mkH I t1 t2 k sc)) st 0 (by omega)).trans ?_
  rw [b3_7_5]
  simp (disch := omega) only [bnd, bnd0, ↓cdec, ↓cnot, ↓reduceIte, Bo_0, Bo_1, ↓Bo_ok, i10, i01, eq_self, decide_true, decide_false, Bool.or_true, Bool.true_or, Bool.or_false, Bool.false_or, cond_true, cond_false, not_true_eq_false, not_false_eq_true, Bool.false_eq_true, and_self, and_true, true_and, and_false, false_and, nI_clamp, ↓inbc, inb_n, nI_pos, nI_1, lt_100, Nat.lt_irrefl, b3_7_32]
theorem x_hard {n q : Nat} (hn : n ≤ 8) (h43 : I 0 4 3 = nI n) (ht : ∀ q, q < n → ∃ e, t1 q = some (e + 1, 0)) (hq : q < n) {m0 : Int32} {C : Nat → Int32} (hS : sumOK I (t1 q) k (I 0 6 q) m0 C) : den (d + 1, 3, 4, 0, [some (vr 0 4), some (vi (nI q)), none], [], mkH I t1 t2 k sc) = some (some (vi (hardC C)), mkH I t1 t2 k sc) := by
  have hb : 0 ≤ (nI q).toInt ∧ (nI q).toInt < (n : Int) := by rw [nI_toInt (by omega)]; omega
  obtain ⟨s0, ⟨c, -, c6, hc⟩, -, -, e, he, hte, n1', n2', b0, b1, -⟩ := hS
  have hr' : rR (mkH I t1 t2 k sc) 0 (4 + 1) q = some (e + 1, 0) := hte
  have h6 : I 0 (4 + 2) q = nI c := s0.trans hc
  have b1' : I (e + 1) 0 4 = C 2 := b1
  have xu := x_isUnder d I t1 t2 k sc (show c < 7 by omega) (show 1 < 7 by omega)
  have xu' : den (d, 7, 50, 0, [some (vi (nI c)), some (vi 1), none, none], [], mkH I t1 t2 k sc) = some (some (vi (Bo (1 = 0 ∨ c = 1 ∨ (1 = 1 ∧ c = 5) ∨ (1 = 2 ∧ c = 3)))), mkH I t1 t2 k sc) := xu
  by_cases h : c = 1 ∨ c = 5
  · have hu : 1 = 0 ∨ c = 1 ∨ (1 = 1 ∧ c = 5) ∨ (1 = 2 ∧ c = 3) := by omega
    rw [Bo_t hu] at xu'
    have hh : C 0 = 1 ∨ C 0 = 5 := by
      rcases h with z | z
      · left; rw [hc, z]; rfl
      · right; rw [hc, z]; rfl
    rw [hardC, if_pos hh]
    simp (disch := omega) only [bnd, bnd0, ↓cdec, ↓cnot, ↓reduceIte, Bo_0, Bo_1, ↓Bo_ok, i10, i01, eq_self, decide_true, decide_false, Bool.or_true, Bool.true_or, Bool.or_false, Bool.false_or, cond_true, cond_false, not_true_eq_false, not_false_eq_true, Bool.false_eq_true, and_self, and_true, true_and, and_false, false_and, nI_clamp, ↓inbc, inb_n, nI_pos, nI_1, b3_4_0, b3_4_5, b3_4_8, b3_4_10, b3_4_16, b3_4_30, b3_4_33, b3_4_39, b3_4_49, b3_4_55, b3_4_56, x_has d I t1 t2 k sc hn h43 ht, hb, hr', h6, xu', b1']
  · have hu : ¬ (1 = 0 ∨ c = 1 ∨ (1 = 1 ∧ c = 5) ∨ (1 = 2 ∧ c = 3)) := by omega
    rw [Bo_f hu] at xu'
    have hh : ¬ (C 0 = 1 ∨ C 0 = 5) := by
      rw [hc, eq_1 (by omega), eq_5 (by omega)]; exact h
    rw [hardC, if_neg hh]
    by_cases h3 : c = 3
    · have h3' : C 0 = 3 := by rw [hc, h3]; rfl
      rw [if_pos h3']
      subst h3
      simp (disch := omega) only [bnd, bnd0, ↓cdec, ↓cnot, ↓reduceIte, Bo_0, Bo_1, ↓Bo_ok, i10, i01, eq_self, decide_true, decide_false, Bool.or_true, Bool.true_or, Bool.or_false, Bool.false_or, cond_true, cond_false, not_true_eq_false, not_false_eq_true, Bool.false_eq_true, and_self, and_true, true_and, and_false, false_and, nI_clamp, ↓inbc, inb_n, nI_pos, nI_1, b3_4_0, b3_4_5, b3_4_8, b3_4_10, b3_4_16, b3_4_30, b3_4_33, b3_4_39, b3_4_49, b3_4_55, b3_4_56, x_has d I t1 t2 k sc hn h43 ht, hb, hr', h6, xu', b1', eq_3]
    · have h3' : ¬ C 0 = 3 := by rw [hc, eq_3 (by omega)]; exact h3
      rw [if_neg h3']
      simp (disch := omega) only [bnd, bnd0, ↓cdec, ↓cnot, ↓reduceIte, Bo_0, Bo_1, ↓Bo_ok, i10, i01, eq_self, decide_true, decide_false, Bool.or_true, Bool.true_or, Bool.or_false, Bool.false_or, cond_true, cond_false, not_true_eq_false, not_false_eq_true, Bool.false_eq_true, and_self, and_true, true_and, and_false, false_and, nI_clamp, ↓inbc, inb_n, nI_pos, nI_1, b3_4_0, b3_4_5, b3_4_8, b3_4_10, b3_4_16, b3_4_30, b3_4_33, b3_4_39, b3_4_49, b3_4_55, b3_4_56, x_has d I t1 t2 k sc hn h43 ht, hb, hr', h6, xu', b1', eq_3, h3]
end
