theorem lt_48 {n : Nat} (h : n < 2147483648) : (nI n < (48 : Int32)) = (n < 48) := propext (nI_ltI (b := 48) h (by decide))
theorem gt_57 {n : Nat} (h : n < 2147483648) : ((57 : Int32) < nI n) = (57 < n) := propext (nI_ltI (a := 57) (by decide) h)
theorem eqN {n m : Nat} (h : n < 2147483648) (hm : m < 2147483648) : (nI n = nI m) = (n = m) := propext (nI_eq (b := m) h hm)
def bN (b : Bool) : Int32 := if b = true then 1 else 0
section
variable (d : Nat) (I : IFn) (t1 t2 : TFn) (k : Nat) (sc : Nat × (Nat → Int32))
theorem x_isD {b : Nat} (hb : b < 256) : den (d, 4, 5, 0, [some (vi (nI b))], [], mkH I t1 t2 k sc) = some (some (vi (bN (isD b))), mkH I t1 t2 k sc) := by
  by_cases h1 : b < 48
  · rw [show isD b = false by simp [isD]; omega]
    simp (disch := omega) only [bnd, bnd0, ↓cdec, ↓cnot, ↓reduceIte, Bo_0, Bo_1, ↓Bo_ok, i10, i01, eq_self, decide_true, decide_false, Bool.or_true, Bool.true_or, Bool.or_false, Bool.false_or, cond_true, cond_false, not_true_eq_false, not_false_eq_true, Bool.false_eq_true, and_self, and_true, true_and, and_false, false_and, nI_clamp, ↓inbc, inb_n, nI_pos, nI_1, b4_5_0, b4_5_16, b4_5_17, lt_48, h1]
    rfl
  · by_cases h2 : 57 < b
    · rw [show isD b = false by simp [isD]; omega]
      simp (disch := omega) only [bnd, bnd0, ↓cdec, ↓cnot, ↓reduceIte, Bo_0, Bo_1, ↓Bo_ok, i10, i01, eq_self, decide_true, decide_false, Bool.or_true, Bool.true_or, Bool.or_false, Bool.false_or, cond_true, cond_false, not_true_eq_false, not_false_eq_true, Bool.false_eq_true, and_self, and_true, true_and, and_false, false_and, nI_clamp, ↓inbc, inb_n, nI_pos, nI_1, b4_5_0, b4_5_6, b4_5_16, b4_5_17, lt_48, gt_57, h1, h2]
      rfl
    · rw [show isD b = true by simp [isD]; omega]
      simp (disch := omega) only [bnd, bnd0, ↓cdec, ↓cnot, ↓reduceIte, Bo_0, Bo_1, ↓Bo_ok, i10, i01, eq_self, decide_true, decide_false, Bool.or_true, Bool.true_or, Bool.or_false, Bool.false_or, cond_true, cond_false, not_true_eq_false, not_false_eq_true, Bool.false_eq_true, and_self, and_true, true_and, and_false, false_and, nI_clamp, ↓inbc, inb_n, nI_pos, nI_1, b4_5_0, b4_5_6, b4_5_12, b4_5_17, lt_48, gt_57, h1, h2]
      rfl
end
def FX (I J : IFn) : Prop := ∀ g j i, ¬ (g = 0 ∧ j = 1 ∧ 2 ≤ i ∧ i ≤ 5) → J g j i = I g j i
theorem FX.rfl {I : IFn} : FX I I := fun _ _ _ _ => Eq.refl _
theorem FX.trans {I J K : IFn} (h : FX I J) (h2 : FX J K) : FX I K := fun g j i q => (h2 g j i q).trans (h g j i q)
def PX (J : IFn) (w : Bool) (dg op : Nat) (pt : Bool) : Prop := J 0 1 2 = bN w ∧ J 0 1 3 = nI dg ∧ J 0 1 4 = nI op ∧ J 0 1 5 = bN pt
section
variable (d : Nat) (I : IFn) (t1 t2 : TFn) (k : Nat) (sc : Nat × (Nat → Int32))
/-- an operand is wanted -/
theorem x_begins {b dg op : Nat} {pt : Bool} (hb : b < 256) (ho : op ≤ 4) (hx : PX I true dg op pt) : ∃ K, FX I K ∧
    ((isD b = true ∧ den (d + 1, 4, 3, 0, [some (vr 0 1), some (vi (nI b))], [], mkH I t1 t2 k sc) = some (some (vi 1), mkH (K) t1 t2 k sc) ∧ PX K false 1 op pt) ∨
     (isD b = false ∧ b = 120 ∧ den (d + 1, 4, 3, 0, [some (vr 0 1), some (vi (nI b))], [], mkH I t1 t2 k sc) = some (some (vi 1), mkH (K) t1 t2 k sc) ∧ PX K false 0 op pt) ∨
     (isD b = false ∧ b = 40 ∧ op < 4 ∧ den (d + 1, 4, 3, 0, [some (vr 0 1), some (vi (nI b))], [], mkH I t1 t2 k sc) = some (some (vi 1), mkH (K) t1 t2 k sc) ∧ PX K true dg (op + 1) pt) ∨
     (isD b = false ∧ ¬ b = 120 ∧ ¬ (b = 40 ∧ op < 4) ∧ den (d + 1, 4, 3, 0, [some (vr 0 1), some (vi (nI b))], [], mkH I t1 t2 k sc) = some (some (vi 0), mkH (K) t1 t2 k sc))) := by
  obtain ⟨h2, h3, h4, h5⟩ := hx
  by_cases h40 : b = 40
  · subst h40
    have e40 : (nI 40 : Int32) = 40 := rfl
    have f0 : FX I (uI I 0 1 4 (nI (op + 1))) := fun g j i hn => uI_ne (by omega)
    refine ⟨uI I 0 1 4 (nI (op + 1)), f0, ?_⟩
    by_cases h : op < 4
    · have g4 : ¬ (4 : Int32) < nI (op + 1) := by rw [show (4 : Int32) = nI 4 from rfl]; exact nI_nlt (by omega) (by omega)
      refine Or.inr (Or.inr (Or.inl ⟨rfl, rfl, h, ?_, by rw [uI_ne (by omega)]; exact h2, by rw [uI_ne (by omega)]; exact h3, uI_at (by omega), by rw [uI_ne (by omega)]; exact h5⟩))
      simp (disch := omega) only [bnd, bnd0, ↓cdec, ↓cnot, ↓reduceIte, Bo_0, Bo_1, ↓Bo_ok, i10, i01, eq_self, decide_true, decide_false, Bool.or_true, Bool.true_or, Bool.or_false, Bool.false_or, cond_true, cond_false, not_true_eq_false, not_false_eq_true, Bool.false_eq_true, and_self, and_true, true_and, and_false, false_and, nI_clamp, ↓inbc, inb_n, nI_pos, nI_1, e40, b4_3_0, b4_3_6, b4_3_24, b4_3_29, h4, uI_at, g4]
    · have g4 : (4 : Int32) < nI (op + 1) := by rw [show (4 : Int32) = nI 4 from rfl]; exact nI_lt (by omega) (by omega)
      refine Or.inr (Or.inr (Or.inr ⟨rfl, by omega, fun z => h z.2, ?_⟩))
      simp (disch := omega) only [bnd, bnd0, ↓cdec, ↓cnot, ↓reduceIte, Bo_0, Bo_1, ↓Bo_ok, i10, i01, eq_self, decide_true, decide_false, Bool.or_true, Bool.true_or, Bool.or_false, Bool.false_or, cond_true, cond_false, not_true_eq_false, not_false_eq_true, Bool.false_eq_true, and_self, and_true, true_and, and_false, false_and, nI_clamp, ↓inbc, inb_n, nI_pos, nI_1, e40, b4_3_0, b4_3_6, b4_3_28, b4_3_29, h4, uI_at, g4]
  · have n40 : ¬ nI b = 40 := by rw [show (40 : Int32) = nI 40 from rfl, eqN (by omega) (by omega)]; exact h40
    have xd := fun J => x_isD d J t1 t2 k sc hb
    cases hd : isD b with
    | true =>
      rw [hd] at xd
      have xd1 : ∀ J, den (d, 4, 5, 0, [some (vi (nI b))], [], mkH (J) t1 t2 k sc) = some (some (vi 1), mkH (J) t1 t2 k sc) := xd
      refine ⟨uI (uI I 0 1 3 1) 0 1 2 0, fun g j i hn => by rw [uI_ne (by omega), uI_ne (by omega)], Or.inl ⟨rfl, ?_, uI_at (by omega), by rw [uI_ne (by omega), uI_at (by omega)]; rfl, by rw [uI_ne (by omega), uI_ne (by omega)]; exact h4, by rw [uI_ne (by omega), uI_ne (by omega)]; exact h5⟩⟩
      by_cases h120 : nI b = 120
      · have q := eq_true h120
        simp (disch := omega) only [bnd, bnd0, ↓cdec, ↓cnot, ↓reduceIte, Bo_0, Bo_1, ↓Bo_ok, i10, i01, eq_self, decide_true, decide_false, Bool.or_true, Bool.true_or, Bool.or_false, Bool.false_or, cond_true, cond_false, not_true_eq_false, not_false_eq_true, Bool.false_eq_true, and_self, and_true, true_and, and_false, false_and, nI_clamp, ↓inbc, inb_n, nI_pos, nI_1, b4_3_0, b4_3_30, b4_3_35, b4_3_38, b4_3_43, b4_3_64, b4_3_69, n40, xd1, q]
      · simp (disch := omega) only [bnd, bnd0, ↓cdec, ↓cnot, ↓reduceIte, Bo_0, Bo_1, ↓Bo_ok, i10, i01, eq_self, decide_true, decide_false, Bool.or_true, Bool.true_or, Bool.or_false, Bool.false_or, cond_true, cond_false, not_true_eq_false, not_false_eq_true, Bool.false_eq_true, and_self, and_true, true_and, and_false, false_and, nI_clamp, ↓inbc, inb_n, nI_pos, nI_1, b4_3_0, b4_3_30, b4_3_35, b4_3_38, b4_3_43, b4_3_57, b4_3_61, b4_3_64, b4_3_69, n40, xd1, h120]
    | false =>
      rw [hd] at xd
      have xd1 : ∀ J, den (d, 4, 5, 0, [some (vi (nI b))], [], mkH (J) t1 t2 k sc) = some (some (vi 0), mkH (J) t1 t2 k sc) := xd
      refine ⟨uI (uI I 0 1 3 0) 0 1 2 0, fun g j i hn => by rw [uI_ne (by omega), uI_ne (by omega)], ?_⟩
      by_cases h120 : b = 120
      · have q : (nI b = 120) = True := eq_true (by rw [h120]; rfl)
        refine Or.inr (Or.inl ⟨rfl, h120, ?_, uI_at (by omega), by rw [uI_ne (by omega), uI_at (by omega)]; rfl, by rw [uI_ne (by omega), uI_ne (by omega)]; exact h4, by rw [uI_ne (by omega), uI_ne (by omega)]; exact h5⟩)
        simp (disch := omega) only [bnd, bnd0, ↓cdec, ↓cnot, ↓reduceIte, Bo_0, Bo_1, ↓Bo_ok, i10, i01, eq_self, decide_true, decide_false, Bool.or_true, Bool.true_or, Bool.or_false, Bool.false_or, cond_true, cond_false, not_true_eq_false, not_false_eq_true, Bool.false_eq_true, and_self, and_true, true_and, and_false, false_and, nI_clamp, ↓inbc, inb_n, nI_pos, nI_1, b4_3_0, b4_3_30, b4_3_35, b4_3_42, b4_3_43, b4_3_64, b4_3_69, n40, xd1, q]
      · have q : ¬ nI b = 120 := by rw [show (120 : Int32) = nI 120 from rfl, eqN (by omega) (by omega)]; exact h120
        refine Or.inr (Or.inr (Or.inr ⟨rfl, h120, fun z => h40 z.1, ?_⟩))
        simp (disch := omega) only [bnd, bnd0, ↓cdec, ↓cnot, ↓reduceIte, Bo_0, Bo_1, ↓Bo_ok, i10, i01, eq_self, decide_true, decide_false, Bool.or_true, Bool.true_or, Bool.or_false, Bool.false_or, cond_true, cond_false, not_true_eq_false, not_false_eq_true, Bool.false_eq_true, and_self, and_true, true_and, and_false, false_and, nI_clamp, ↓inbc, inb_n, nI_pos, nI_1, b4_3_0, b4_3_30, b4_3_35, b4_3_42, b4_3_43, b4_3_57, b4_3_61, b4_3_68, b4_3_69, n40, xd1, q]
end
section
variable (d : Nat) (I : IFn) (t1 t2 : TFn) (k : Nat) (sc : Nat × (Nat → Int32))
theorem x_isO {b : Nat} (hb : b < 256) : den (d, 4, 6, 0, [some (vi (nI b))], [], mkH I t1 t2 k sc) = some (some (vi (bN (!decide (sgC b = 0)))), mkH I t1 t2 k sc) := by
  have q : ∀ m : Nat, m < 256 → ∀ x : Int32, x = nI m → (nI b = x) = (b = m) := fun m hm x e => by rw [e]; exact eqN (by omega) (by omega)
  have q1 := q 43 (by omega) 43 rfl
  have q2 := q 45 (by omega) 45 rfl
  have q3 := q 42 (by omega) 42 rfl
  have q4 := q 47 (by omega) 47 rfl
  have q5 := q 37 (by omega) 37 rfl
  by_cases h1 : b = 43
  · have h1' := eq_true h1
    rw [show sgC b = -2 by rw [h1]; rfl]
    simp (disch := omega) only [bnd, bnd0, ↓cdec, ↓cnot, ↓reduceIte, Bo_0, Bo_1, ↓Bo_ok, i10, i01, eq_self, decide_true, decide_false, Bool.or_true, Bool.true_or, Bool.or_false, Bool.false_or, cond_true, cond_false, not_true_eq_false, not_false_eq_true, Bool.false_eq_true, and_self, and_true, true_and, and_false, false_and, nI_clamp, ↓inbc, inb_n, nI_pos, nI_1, b4_6_0, b4_6_30, b4_6_35, q1, h1']
    rfl
  · by_cases h2 : b = 45
    · have h2' := eq_true h2
      rw [show sgC b = -3 by rw [h2]; rfl]
      simp (disch := omega) only [bnd, bnd0, ↓cdec, ↓cnot, ↓reduceIte, Bo_0, Bo_1, ↓Bo_ok, i10, i01, eq_self, decide_true, decide_false, Bool.or_true, Bool.true_or, Bool.or_false, Bool.false_or, cond_true, cond_false, not_true_eq_false, not_false_eq_true, Bool.false_eq_true, and_self, and_true, true_and, and_false, false_and, nI_clamp, ↓inbc, inb_n, nI_pos, nI_1, b4_6_0, b4_6_6, b4_6_30, b4_6_35, q1, q2, h1, h2']
      rfl
    · by_cases h3 : b = 42
      · have h3' := eq_true h3
        rw [show sgC b = -4 by rw [h3]; rfl]
        simp (disch := omega) only [bnd, bnd0, ↓cdec, ↓cnot, ↓reduceIte, Bo_0, Bo_1, ↓Bo_ok, i10, i01, eq_self, decide_true, decide_false, Bool.or_true, Bool.true_or, Bool.or_false, Bool.false_or, cond_true, cond_false, not_true_eq_false, not_false_eq_true, Bool.false_eq_true, and_self, and_true, true_and, and_false, false_and, nI_clamp, ↓inbc, inb_n, nI_pos, nI_1, b4_6_0, b4_6_6, b4_6_12, b4_6_30, b4_6_35, q1, q2, q3, h1, h2, h3']
        rfl
      · by_cases h4 : b = 47
        · have h4' := eq_true h4
          rw [show sgC b = -5 by rw [h4]; rfl]
          simp (disch := omega) only [bnd, bnd0, ↓cdec, ↓cnot, ↓reduceIte, Bo_0, Bo_1, ↓Bo_ok, i10, i01, eq_self, decide_true, decide_false, Bool.or_true, Bool.true_or, Bool.or_false, Bool.false_or, cond_true, cond_false, not_true_eq_false, not_false_eq_true, Bool.false_eq_true, and_self, and_true, true_and, and_false, false_and, nI_clamp, ↓inbc, inb_n, nI_pos, nI_1, b4_6_0, b4_6_6, b4_6_12, b4_6_18, b4_6_30, b4_6_35, q1, q2, q3, q4, h1, h2, h3, h4']
          rfl
        · by_cases h5 : b = 37
          · have h5' := eq_true h5
            rw [show sgC b = -6 by rw [h5]; rfl]
            simp (disch := omega) only [bnd, bnd0, ↓cdec, ↓cnot, ↓reduceIte, Bo_0, Bo_1, ↓Bo_ok, i10, i01, eq_self, decide_true, decide_false, Bool.or_true, Bool.true_or, Bool.or_false, Bool.false_or, cond_true, cond_false, not_true_eq_false, not_false_eq_true, Bool.false_eq_true, and_self, and_true, true_and, and_false, false_and, nI_clamp, ↓inbc, inb_n, nI_pos, nI_1, b4_6_0, b4_6_6, b4_6_12, b4_6_18, b4_6_24, b4_6_30, b4_6_35, q1, q2, q3, q4, q5, h1, h2, h3, h4, h5']
            rfl
          · rw [show sgC b = 0 by rw [sgC, if_neg h1, if_neg h2, if_neg h3, if_neg h4, if_neg h5]]
            simp (disch := omega) only [bnd, bnd0, ↓cdec, ↓cnot, ↓reduceIte, Bo_0, Bo_1, ↓Bo_ok, i10, i01, eq_self, decide_true, decide_false, Bool.or_true, Bool.true_or, Bool.or_false, Bool.false_or, cond_true, cond_false, not_true_eq_false, not_false_eq_true, Bool.false_eq_true, and_self, and_true, true_and, and_false, false_and, nI_clamp, ↓inbc, inb_n, nI_pos, nI_1, b4_6_0, b4_6_6, b4_6_12, b4_6_18, b4_6_24, b4_6_34, b4_6_35, q1, q2, q3, q4, q5, h1, h2, h3, h4, h5]
            rfl
end
section
variable (d : Nat) (I : IFn) (t1 t2 : TFn) (k : Nat) (sc : Nat × (Nat → Int32))
/-- no operand is wanted -/
theorem x_follows {b dg op : Nat} {pt : Bool} (hb : b < 256) (hdg : dg ≤ 3) (ho : op ≤ 4) (hx : PX I false dg op pt) : ∃ K, FX I K ∧
    ((isD b = true ∧ 0 < dg ∧ dg < 3 ∧ den (d + 1, 4, 4, 0, [some (vr 0 1), some (vi (nI b)), none], [], mkH I t1 t2 k sc) = some (some (vi 1), mkH (K) t1 t2 k sc) ∧ PX K false (dg + 1) op pt) ∨
     (isD b = true ∧ ¬ (0 < dg ∧ dg < 3) ∧ den (d + 1, 4, 4, 0, [some (vr 0 1), some (vi (nI b)), none], [], mkH I t1 t2 k sc) = some (some (vi 0), mkH (K) t1 t2 k sc)) ∨
     (isD b = false ∧ b = 41 ∧ 0 < op ∧ den (d + 1, 4, 4, 0, [some (vr 0 1), some (vi (nI b)), none], [], mkH I t1 t2 k sc) = some (some (vi 1), mkH (K) t1 t2 k sc) ∧ PX K false 0 (op - 1) pt) ∨
     (isD b = false ∧ b = 61 ∧ op = 0 ∧ pt = false ∧ den (d + 1, 4, 4, 0, [some (vr 0 1), some (vi (nI b)), none], [], mkH I t1 t2 k sc) = some (some (vi 1), mkH (K) t1 t2 k sc) ∧ PX K true 0 op true) ∨
     (isD b = false ∧ ¬ sgC b = 0 ∧ den (d + 1, 4, 4, 0, [some (vr 0 1), some (vi (nI b)), none], [], mkH I t1 t2 k sc) = some (some (vi 1), mkH (K) t1 t2 k sc) ∧ PX K true 0 op pt) ∨
     (isD b = false ∧ sgC b = 0 ∧ ¬ (b = 41 ∧ 0 < op) ∧ ¬ (b = 61 ∧ op = 0 ∧ pt = false) ∧ den (d + 1, 4, 4, 0, [some (vr 0 1), some (vi (nI b)), none], [], mkH I t1 t2 k sc) = some (some (vi 0), mkH (K) t1 t2 k sc))) := by
  obtain ⟨h2, h3, h4, h5⟩ := hx
  have xd := fun J => x_isD d J t1 t2 k sc hb
  cases hd : isD b with
  | true =>
    rw [hd] at xd
    have xd1 : ∀ J, den (d, 4, 5, 0, [some (vi (nI b))], [], mkH (J) t1 t2 k sc) = some (some (vi 1), mkH (J) t1 t2 k sc) := xd
    have f0 : FX I (uI I 0 1 3 (nI (dg + 1))) := fun g j i hn => uI_ne (by omega)
    refine ⟨uI I 0 1 3 (nI (dg + 1)), f0, ?_⟩
    have a1 : (uI I 0 1 3 (nI (dg + 1))) 0 1 3 = nI (dg + 1) := uI_at (by omega)
    by_cases g0 : 0 < dg
    · have e1 : (1 : Int32) < nI (dg + 1) := by rw [show (1 : Int32) = nI 1 from rfl]; exact nI_lt (by omega) (by omega)
      by_cases g3 : dg < 3
      · have e3 : ¬ (3 : Int32) < nI (dg + 1) := by rw [show (3 : Int32) = nI 3 from rfl]; exact nI_nlt (by omega) (by omega)
        refine Or.inl ⟨rfl, g0, g3, ?_, by rw [uI_ne (by omega)]; exact h2, a1, by rw [uI_ne (by omega)]; exact h4, by rw [uI_ne (by omega)]; exact h5⟩
        simp (disch := omega) only [bnd, bnd0, ↓cdec, ↓cnot, ↓reduceIte, Bo_0, Bo_1, ↓Bo_ok, i10, i01, eq_self, decide_true, decide_false, Bool.or_true, Bool.true_or, Bool.or_false, Bool.false_or, cond_true, cond_false, not_true_eq_false, not_false_eq_true, Bool.false_eq_true, and_self, and_true, true_and, and_false, false_and, nI_clamp, ↓inbc, inb_n, nI_pos, nI_1, b4_4_0, b4_4_4, b4_4_7, b4_4_25, b4_4_33, b4_4_38, xd1, h3, a1, e1, e3]
      · have e3 : (3 : Int32) < nI (dg + 1) := by rw [show (3 : Int32) = nI 3 from rfl]; exact nI_lt (by omega) (by omega)
        refine Or.inr (Or.inl ⟨rfl, fun z => g3 z.2, ?_⟩)
        simp (disch := omega) only [bnd, bnd0, ↓cdec, ↓cnot, ↓reduceIte, Bo_0, Bo_1, ↓Bo_ok, i10, i01, eq_self, decide_true, decide_false, Bool.or_true, Bool.true_or, Bool.or_false, Bool.false_or, cond_true, cond_false, not_true_eq_false, not_false_eq_true, Bool.false_eq_true, and_self, and_true, true_and, and_false, false_and, nI_clamp, ↓inbc, inb_n, nI_pos, nI_1, b4_4_0, b4_4_4, b4_4_7, b4_4_25, b4_4_37, b4_4_38, xd1, h3, a1, e1, e3]
    · have e1 : ¬ (1 : Int32) < nI (dg + 1) := by rw [show (1 : Int32) = nI 1 from rfl]; exact nI_nlt (by omega) (by omega)
      refine Or.inr (Or.inl ⟨rfl, fun z => g0 z.1, ?_⟩)
      simp (disch := omega) only [bnd, bnd0, ↓cdec, ↓cnot, ↓reduceIte, Bo_0, Bo_1, ↓Bo_ok, i10, i01, eq_self, decide_true, decide_false, Bool.or_true, Bool.true_or, Bool.or_false, Bool.false_or, cond_true, cond_false, not_true_eq_false, not_false_eq_true, Bool.false_eq_true, and_self, and_true, true_and, and_false, false_and, nI_clamp, ↓inbc, inb_n, nI_pos, nI_1, b4_4_0, b4_4_4, b4_4_7, b4_4_37, b4_4_38, xd1, h3, a1, e1]
  | false =>
    rw [hd] at xd
    have xd1 : ∀ J, den (d, 4, 5, 0, [some (vi (nI b))], [], mkH (J) t1 t2 k sc) = some (some (vi 0), mkH (J) t1 t2 k sc) := xd
    have q : ∀ m : Nat, m < 256 → ∀ x : Int32, x = nI m → (nI b = x) = (b = m) := fun m hm x e => by rw [e]; exact eqN (by omega) (by omega)
    have q41 := q 41 (by omega) 41 rfl
    have q61 := q 61 (by omega) 61 rfl
    by_cases h41 : b = 41
    · have h41' := eq_true h41
      have a0 : (uI I 0 1 3 0) 0 1 4 = nI op := by rw [uI_ne (by omega)]; exact h4
      have s0 : sgC b = 0 := by rw [h41]; rfl
      generalize hK : uI (uI I 0 1 3 0) 0 1 4 (nI op - 1) = K
      have a1 : K 0 1 4 = nI op - 1 := by rw [← hK]; exact uI_at (by omega)
      have fK : FX I K := fun g j i hn => by rw [← hK, uI_ne (by omega), uI_ne (by omega)]
      refine ⟨K, fK, ?_⟩
      by_cases g0 : 0 < op
      · have e1 : nI op - 1 = nI (op - 1) := pred_s (by omega)
        rw [e1] at hK a1
        refine Or.inr (Or.inr (Or.inl ⟨rfl, h41, g0, ?_, by rw [← hK, uI_ne (by omega), uI_ne (by omega)]; exact h2, by rw [← hK, uI_ne (by omega), uI_at (by omega)]; rfl, a1, by rw [← hK, uI_ne (by omega), uI_ne (by omega)]; exact h5⟩))
        simp (disch := omega) only [bnd, bnd0, ↓cdec, ↓cnot, ↓reduceIte, Bo_0, Bo_1, ↓Bo_ok, i10, i01, eq_self, decide_true, decide_false, Bool.or_true, Bool.true_or, Bool.or_false, Bool.false_or, cond_true, cond_false, not_true_eq_false, not_false_eq_true, Bool.false_eq_true, and_self, and_true, true_and, and_false, false_and, nI_clamp, ↓inbc, inb_n, nI_pos, nI_1, b4_4_0, b4_4_4, b4_4_39, b4_4_50, b4_4_67, b4_4_72, xd1, q41, h41', a0, hK, a1, e1]
      · have e1 : (nI op - 1 : Int32) < 0 := by rw [show op = 0 by omega]; decide
        refine Or.inr (Or.inr (Or.inr (Or.inr (Or.inr ⟨rfl, s0, fun z => g0 z.2, by omega, ?_⟩))))
        simp (disch := omega) only [bnd, bnd0, ↓cdec, ↓cnot, ↓reduceIte, Bo_0, Bo_1, ↓Bo_ok, i10, i01, eq_self, decide_true, decide_false, Bool.or_true, Bool.true_or, Bool.or_false, Bool.false_or, cond_true, cond_false, not_true_eq_false, not_false_eq_true, Bool.false_eq_true, and_self, and_true, true_and, and_false, false_and, nI_clamp, ↓inbc, inb_n, nI_pos, nI_1, b4_4_0, b4_4_4, b4_4_39, b4_4_50, b4_4_71, b4_4_72, xd1, q41, h41', a0, hK, a1, e1]
    · by_cases h61 : b = 61
      · have h61' := eq_true h61
        have s0 : sgC b = 0 := by rw [h61]; rfl
        generalize hJ : uI (uI I 0 1 3 0) 0 1 2 1 = J
        have j5 : J 0 1 5 = bN pt := by rw [← hJ, uI_ne (by omega), uI_ne (by omega)]; exact h5
        have j4 : (uI J 0 1 5 1) 0 1 4 = nI op := by rw [uI_ne (by omega), ← hJ, uI_ne (by omega), uI_ne (by omega)]; exact h4
        have fK : FX I (uI J 0 1 5 1) := fun g j i hn => by rw [uI_ne (by omega), ← hJ, uI_ne (by omega), uI_ne (by omega)]
        refine ⟨uI J 0 1 5 1, fK, ?_⟩
        cases hp : pt with
        | true =>
          have b5 : ¬ (bN true : Int32) = 0 := by decide
          rw [hp] at j5
          refine Or.inr (Or.inr (Or.inr (Or.inr (Or.inr ⟨rfl, s0, by omega, fun z => (by cases z.2.2), ?_⟩))))
          simp (disch := omega) only [bnd, bnd0, ↓cdec, ↓cnot, ↓reduceIte, Bo_0, Bo_1, ↓Bo_ok, i10, i01, eq_self, decide_true, decide_false, Bool.or_true, Bool.true_or, Bool.or_false, Bool.false_or, cond_true, cond_false, not_true_eq_false, not_false_eq_true, Bool.false_eq_true, and_self, and_true, true_and, and_false, false_and, nI_clamp, ↓inbc, inb_n, nI_pos, nI_1, b4_4_0, b4_4_4, b4_4_39, b4_4_73, b4_4_84, b4_4_95, b4_4_96, b4_4_117, b4_4_118, xd1, q41, q61, h41, h61', hJ, j5, b5]
        | false =>
          have b5 : (bN false : Int32) = 0 := by decide
          rw [hp] at j5
          by_cases g0 : op = 0
          · have e0 : (nI op : Int32) = 0 := by rw [g0]; rfl
            refine Or.inr (Or.inr (Or.inr (Or.inl ⟨rfl, h61, g0, rfl, ?_, by rw [uI_ne (by omega), ← hJ]; exact uI_at (by omega), by rw [uI_ne (by omega), ← hJ, uI_ne (by omega), uI_at (by omega)]; rfl, j4, uI_at (by omega)⟩)))
            simp (disch := omega) only [bnd, bnd0, ↓cdec, ↓cnot, ↓reduceIte, Bo_0, Bo_1, ↓Bo_ok, i10, i01, eq_self, decide_true, decide_false, Bool.or_true, Bool.true_or, Bool.or_false, Bool.false_or, cond_true, cond_false, not_true_eq_false, not_false_eq_true, Bool.false_eq_true, and_self, and_true, true_and, and_false, false_and, nI_clamp, ↓inbc, inb_n, nI_pos, nI_1, b4_4_0, b4_4_4, b4_4_39, b4_4_73, b4_4_84, b4_4_91, b4_4_96, b4_4_106, b4_4_113, b4_4_118, xd1, q41, q61, h41, h61', hJ, j5, b5, j4, e0]
          · have e0 : ¬ (nI op : Int32) = 0 := nI_ne0 (by omega) (by omega)
            refine Or.inr (Or.inr (Or.inr (Or.inr (Or.inr ⟨rfl, s0, by omega, fun z => g0 z.2.1, ?_⟩))))
            simp (disch := omega) only [bnd, bnd0, ↓cdec, ↓cnot, ↓reduceIte, Bo_0, Bo_1, ↓Bo_ok, i10, i01, eq_self, decide_true, decide_false, Bool.or_true, Bool.true_or, Bool.or_false, Bool.false_or, cond_true, cond_false, not_true_eq_false, not_false_eq_true, Bool.false_eq_true, and_self, and_true, true_and, and_false, false_and, nI_clamp, ↓inbc, inb_n, nI_pos, nI_1, b4_4_0, b4_4_4, b4_4_39, b4_4_73, b4_4_84, b4_4_91, b4_4_96, b4_4_106, b4_4_117, b4_4_118, xd1, q41, q61, h41, h61', hJ, j5, b5, j4, e0]
      · generalize hJ : uI (uI I 0 1 3 0) 0 1 2 1 = J
        have fK : FX I J := fun g j i hn => by rw [← hJ, uI_ne (by omega), uI_ne (by omega)]
        have xo := x_isO d J t1 t2 k sc hb
        refine ⟨J, fK, ?_⟩
        by_cases hs : sgC b = 0
        · have xo1 : den (d, 4, 6, 0, [some (vi (nI b))], [], mkH (J) t1 t2 k sc) = some (some (vi 0), mkH (J) t1 t2 k sc) := by rw [xo, decide_eq_true hs]; rfl
          refine Or.inr (Or.inr (Or.inr (Or.inr (Or.inr ⟨rfl, hs, fun z => h41 z.1, fun z => h61 z.1, ?_⟩))))
          simp (disch := omega) only [bnd, bnd0, ↓cdec, ↓cnot, ↓reduceIte, Bo_0, Bo_1, ↓Bo_ok, i10, i01, eq_self, decide_true, decide_false, Bool.or_true, Bool.true_or, Bool.or_false, Bool.false_or, cond_true, cond_false, not_true_eq_false, not_false_eq_true, Bool.false_eq_true, and_self, and_true, true_and, and_false, false_and, nI_clamp, ↓inbc, inb_n, nI_pos, nI_1, b4_4_0, b4_4_4, b4_4_39, b4_4_73, b4_4_119, b4_4_123, xd1, q41, q61, h41, h61, hJ, xo1]
        · have xo1 : den (d, 4, 6, 0, [some (vi (nI b))], [], mkH (J) t1 t2 k sc) = some (some (vi 1), mkH (J) t1 t2 k sc) := by rw [xo, decide_eq_false hs]; rfl
          refine Or.inr (Or.inr (Or.inr (Or.inr (Or.inl ⟨rfl, hs, ?_, by rw [← hJ]; exact uI_at (by omega), by rw [← hJ, uI_ne (by omega), uI_at (by omega)]; rfl, by rw [← hJ, uI_ne (by omega), uI_ne (by omega)]; exact h4, by rw [← hJ, uI_ne (by omega), uI_ne (by omega)]; exact h5⟩))))
          simp (disch := omega) only [bnd, bnd0, ↓cdec, ↓cnot, ↓reduceIte, Bo_0, Bo_1, ↓Bo_ok, i10, i01, eq_self, decide_true, decide_false, Bool.or_true, Bool.true_or, Bool.or_false, Bool.false_or, cond_true, cond_false, not_true_eq_false, not_false_eq_true, Bool.false_eq_true, and_self, and_true, true_and, and_false, false_and, nI_clamp, ↓inbc, inb_n, nI_pos, nI_1, b4_4_0, b4_4_4, b4_4_39, b4_4_73, b4_4_119, b4_4_123, xd1, q41, q61, h41, h61, hJ, xo1]
end
