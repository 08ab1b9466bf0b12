/-! count, status, prisoner -/
theorem sF_one {f : Nat} {g : Nat → Int32} : ∀ n, sF (fun k => if k = f then g k else 0) n = if f < n then g f else 0
  | 0 => by rw [sF, if_neg (by omega)]
  | n + 1 => by
    rw [sF, sF_one n]
    by_cases h : n = f
    · subst h
      rw [if_neg (by omega), if_pos rfl, if_pos (by omega)]
      exact Int32.zero_add _
    · rw [if_neg h, Int32.add_zero]
      by_cases h2 : f < n
      · rw [if_pos h2, if_pos (by omega)]
      · rw [if_neg h2, if_neg (by omega)]
/-- count -/
theorem ok_39 : op_39 Inv := by
  intro a1 I t1 t2 k sc hI
  by_cases h : 0 ≤ a1.toInt ∧ a1.toInt ≤ 7
  · obtain ⟨γ, hX, hM, hok⟩ := hI.men
    obtain ⟨n, n8, c0, c0', c1, c2, c3, c4, ht, -⟩ := hI.head
    have hTp := hI.2.1
    obtain ⟨w, hw, rfl⟩ := nat_of (x := a1) (m := 8) h.1 (by omega) (by omega)
    have e : (nI w).toInt = (w : Int) := nI_toInt (by omega)
    match w, hw with
    | 0, _ =>
      refine ⟨I 0 57 0, I, I, t1, t2, k, ?_, ?_, hI, by omega⟩
      · show den (10, 7, 40, 0, [some (vr 0 0), some (vi (nI 0))], [], mkH I t1 t2 k sc) = _
        rw [b7_40_0 9, e, ← (show I 0 4 3 = I 0 57 0 from c0'.trans c0.symm)]
        exact b7_40_48 9 _ I t1 t2 k sc
      · show den (10, 8, 80, 0, [some (vr 0 56), some (vi (nI 0))], [], mkH I t1 t2 k sc) = _
        rw [b8_80_0 9, e]
        exact b8_80_48 9 _ I t1 t2 k sc
    | 1, _ =>
      refine ⟨I 0 57 1, I, I, t1, t2, k, ?_, ?_, hI, by omega⟩
      · show den (10, 7, 40, 0, [some (vr 0 0), some (vi (nI 1))], [], mkH I t1 t2 k sc) = _
        rw [b7_40_0 9, e, ← c1.1]
        exact b7_40_59 9 _ I t1 t2 k sc
      · show den (10, 8, 80, 0, [some (vr 0 56), some (vi (nI 1))], [], mkH I t1 t2 k sc) = _
        rw [b8_80_0 9, e]
        exact b8_80_55 9 _ I t1 t2 k sc
    | 2, _ =>
      refine ⟨I 0 57 2, I, I, t1, t2, k, ?_, ?_, hI, by omega⟩
      · show den (10, 7, 40, 0, [some (vr 0 0), some (vi (nI 2))], [], mkH I t1 t2 k sc) = _
        rw [b7_40_0 9, e, ← c2.1]
        exact b7_40_70 9 _ I t1 t2 k sc
      · show den (10, 8, 80, 0, [some (vr 0 56), some (vi (nI 2))], [], mkH I t1 t2 k sc) = _
        rw [b8_80_0 9, e]
        exact b8_80_62 9 _ I t1 t2 k sc
    | 3, _ =>
      refine ⟨I 0 57 3, I, I, t1, t2, k, ?_, ?_, hI, by omega⟩
      · show den (10, 7, 40, 0, [some (vr 0 0), some (vi (nI 3))], [], mkH I t1 t2 k sc) = _
        rw [b7_40_0 9, e, ← c3.1]
        exact b7_40_81 9 _ I t1 t2 k sc
      · show den (10, 8, 80, 0, [some (vr 0 56), some (vi (nI 3))], [], mkH I t1 t2 k sc) = _
        rw [b8_80_0 9, e]
        exact b8_80_69 9 _ I t1 t2 k sc
    | 4, _ =>
      refine ⟨sF (fun p => I 0 57 (5 + 9 * p + 1)) 10, I, I, t1, t2, k, ?_, ?_, hI, by omega⟩
      · show den (10, 7, 40, 0, [some (vr 0 0), some (vi (nI 4))], [], mkH I t1 t2 k sc) = _
        rw [b7_40_0 9, e, ← chalk_eq hX hM]
        refine (b7_40_92 9 (nI 4) I t1 t2 k sc).trans ?_
        simp (disch := omega) only [bnd, bnd0, ↓cdec, ↓cnot, ↓reduceIte, Bo_0, Bo_1, ↓Bo_ok, i10, i01, eq_self, decide_true, decide_false, Bool.or_true, Bool.true_or, Bool.or_false, Bool.false_or, cond_true, cond_false, not_true_eq_false, not_false_eq_true, and_self, and_true, true_and, and_false, false_and, nI_clamp, ↓inbc, inb_n, nI_pos, nI_1, b7_40_102, x_allChalk]
      · show den (10, 8, 80, 0, [some (vr 0 56), some (vi (nI 4))], [], mkH I t1 t2 k sc) = _
        rw [b8_80_0 9, e]
        refine (b8_80_76 9 (nI 4) I t1 t2 k sc).trans ?_
        simp (disch := omega) only [bnd, bnd0, ↓cdec, ↓cnot, ↓reduceIte, Bo_0, Bo_1, ↓Bo_ok, i10, i01, eq_self, decide_true, decide_false, Bool.or_true, Bool.true_or, Bool.or_false, Bool.false_or, cond_true, cond_false, not_true_eq_false, not_false_eq_true, and_self, and_true, true_and, and_false, false_and, nI_clamp, ↓inbc, inb_n, nI_pos, nI_1, b8_80_80, m_chalks]
    | 5, _ =>
      refine ⟨I 0 56 8, I, I, t1, t2, k, ?_, ?_, hI, by omega⟩
      · show den (10, 7, 40, 0, [some (vr 0 0), some (vi (nI 5))], [], mkH I t1 t2 k sc) = _
        rw [b7_40_0 9, e, ← (show I 0 1 1 = I 0 56 8 from by obtain ⟨z, -, z1, z2, -⟩ := hTp; rw [z1, z2])]
        exact b7_40_103 9 _ I t1 t2 k sc
      · show den (10, 8, 80, 0, [some (vr 0 56), some (vi (nI 5))], [], mkH I t1 t2 k sc) = _
        rw [b8_80_0 9, e]
        exact b8_80_81 9 _ I t1 t2 k sc
    | 6, _ =>
      refine ⟨I 0 57 4, I, I, t1, t2, k, ?_, ?_, hI, by omega⟩
      · show den (10, 7, 40, 0, [some (vr 0 0), some (vi (nI 6))], [], mkH I t1 t2 k sc) = _
        rw [b7_40_0 9, e, ← c4]
        exact b7_40_111 9 _ I t1 t2 k sc
      · show den (10, 8, 80, 0, [some (vr 0 56), some (vi (nI 6))], [], mkH I t1 t2 k sc) = _
        rw [b8_80_0 9, e]
        exact b8_80_86 9 _ I t1 t2 k sc
    | 7, _ =>
      refine ⟨cb (fS (fun p => decide (I 0 57 (5 + 9 * p + 8) = 1)) 10), I, I, t1, t2, k, ?_, ?_, hI, by omega⟩
      · show den (10, 7, 40, 0, [some (vr 0 0), some (vi (nI 7))], [], mkH I t1 t2 k sc) = _
        rw [b7_40_0 9, e, ← out_eq hX hM hok]
        refine (b7_40_119 9 (nI 7) I t1 t2 k sc).trans ?_
        simp (disch := omega) only [bnd, bnd0, ↓cdec, ↓cnot, ↓reduceIte, Bo_0, Bo_1, ↓Bo_ok, i10, i01, eq_self, decide_true, decide_false, Bool.or_true, Bool.true_or, Bool.or_false, Bool.false_or, cond_true, cond_false, not_true_eq_false, not_false_eq_true, and_self, and_true, true_and, and_false, false_and, nI_clamp, ↓inbc, inb_n, nI_pos, nI_1, b7_40_129, b7_40_132, x_outSet, x_bits]
      · show den (10, 8, 80, 0, [some (vr 0 56), some (vi (nI 7))], [], mkH I t1 t2 k sc) = _
        rw [b8_80_0 9, e]
        refine (b8_80_93 9 (nI 7) I t1 t2 k sc).trans ?_
        simp (disch := omega) only [bnd, bnd0, ↓cdec, ↓cnot, ↓reduceIte, Bo_0, Bo_1, ↓Bo_ok, i10, i01, eq_self, decide_true, decide_false, Bool.or_true, Bool.true_or, Bool.or_false, Bool.false_or, cond_true, cond_false, not_true_eq_false, not_false_eq_true, and_self, and_true, true_and, and_false, false_and, nI_clamp, ↓inbc, inb_n, nI_pos, nI_1, b8_80_97, b8_80_100, m_outs, m_ones]
    | w + 8, h => omega
  · have hb : (decide (a1.toInt < 0) || decide (7 < a1.toInt)) = true := by
      rw [Bool.or_eq_true, decide_eq_true_iff, decide_eq_true_iff]; omega
    refine ⟨-1000001, uI I 0 47 0 (I 0 47 0 + 1), _, t1, t2, k, ?_, ?_, hI.find (f := 0) (by omega), by omega⟩
    · show den (10, 7, 40, 0, [some (vr 0 0), some (vi a1)], [], mkH I t1 t2 k sc) = _
      rw [b7_40_0 9, hb, cond_true]
      simp (disch := omega) only [bnd, bnd0, ↓cdec, ↓cnot, ↓reduceIte, Bo_0, Bo_1, ↓Bo_ok, i10, i01, eq_self, decide_true, decide_false, Bool.or_true, Bool.true_or, Bool.or_false, Bool.false_or, cond_true, cond_false, not_true_eq_false, not_false_eq_true, and_self, and_true, true_and, and_false, false_and, nI_clamp, ↓inbc, inb_n, nI_pos, nI_1, b7_40_133, b7_40_139, x_f0]
    · show den (10, 8, 80, 0, [some (vr 0 56), some (vi a1)], [], mkH (uI I 0 47 0 (I 0 47 0 + 1)) t1 t2 k sc) = _
      rw [b8_80_0 9, hb, cond_true]
      simp (disch := omega) only [bnd, bnd0, ↓cdec, ↓cnot, ↓reduceIte, Bo_0, Bo_1, ↓Bo_ok, i10, i01, eq_self, decide_true, decide_false, Bool.or_true, Bool.true_or, Bool.or_false, Bool.false_or, cond_true, cond_false, not_true_eq_false, not_false_eq_true, and_self, and_true, true_and, and_false, false_and, nI_clamp, ↓inbc, inb_n, nI_pos, nI_1, b8_80_101, b8_80_107, m_f0]
/-- status -/
theorem ok_40 : op_40 Inv := by
  intro a1 I t1 t2 k sc hI
  have hT := hI.1
  by_cases h : -1 ≤ a1.toInt ∧ a1.toInt ≤ 6
  · by_cases hn : a1 < 0
    · refine ⟨sF (fun f => I 0 60 f) 7, I, I, t1, t2, k, ?_, ?_, hI, by omega⟩
      · have st : ∀ p, p < 7 → den (9 + 1, 7, 41, 32, [some (vr 0 0), some (vi a1), some (vi (sF (fun f => I 0 60 f) p)), some (vi (nI p))], [], mkH I t1 t2 k sc) = den (9 + 1, 7, 41, 32, [some (vr 0 0), some (vi a1), some (vi (sF (fun f => I 0 60 f) (p + 1))), some (vi (nI (p + 1)))], [], mkH I t1 t2 k sc) := by
          intro p hp
          rw [b7_41_32]
          simp (disch := omega) only [bnd, bnd0, ↓cdec, ↓cnot, ↓reduceIte, Bo_0, Bo_1, ↓Bo_ok, i10, i01, eq_self, decide_true, decide_false, Bool.or_true, Bool.true_or, Bool.or_false, Bool.false_or, cond_true, cond_false, not_true_eq_false, not_false_eq_true, and_self, and_true, true_and, and_false, false_and, nI_clamp, ↓inbc, inb_n, nI_pos, nI_1, lt_7, hp, b7_41_41, hT p hp]
          try rfl
        have e := lp (fun p => den (9 + 1, 7, 41, 32, [some (vr 0 0), some (vi a1), some (vi (sF (fun f => I 0 60 f) p)), some (vi (nI p))], [], mkH I t1 t2 k sc)) st 0 (by omega)
        simp (disch := omega) only [bnd, bnd0, ↓cdec, ↓cnot, ↓reduceIte, Bo_0, Bo_1, ↓Bo_ok, i10, i01, eq_self, decide_true, decide_false, Bool.or_true, Bool.true_or, Bool.or_false, Bool.false_or, cond_true, cond_false, not_true_eq_false, not_false_eq_true, and_self, and_true, true_and, and_false, false_and, nI_clamp, ↓inbc, inb_n, nI_pos, nI_1, b7_41_0, b7_41_7, b7_41_17, b7_41_28, x_within, k32_m1, k32_6, h, hn]
        refine Eq.trans e ?_
        rw [b7_41_32]
        simp (disch := omega) only [bnd, bnd0, ↓cdec, ↓cnot, ↓reduceIte, Bo_0, Bo_1, ↓Bo_ok, i10, i01, eq_self, decide_true, decide_false, Bool.or_true, Bool.true_or, Bool.or_false, Bool.false_or, cond_true, cond_false, not_true_eq_false, not_false_eq_true, and_self, and_true, true_and, and_false, false_and, nI_clamp, ↓inbc, inb_n, nI_pos, nI_1, lt_7, Nat.lt_irrefl, b7_41_56]
      · have st : ∀ p, p < 7 → den (9 + 1, 8, 81, 25, [some (vr 0 56), some (vi a1), some (vi (sF (fun f => I 0 60 f) p)), some (vi (nI p))], [], mkH I t1 t2 k sc) = den (9 + 1, 8, 81, 25, [some (vr 0 56), some (vi a1), some (vi (sF (fun f => I 0 60 f) (p + 1))), some (vi (nI (p + 1)))], [], mkH I t1 t2 k sc) := by
          intro p hp
          rw [b8_81_25]
          simp (disch := omega) only [bnd, bnd0, ↓cdec, ↓cnot, ↓reduceIte, Bo_0, Bo_1, ↓Bo_ok, i10, i01, eq_self, decide_true, decide_false, Bool.or_true, Bool.true_or, Bool.or_false, Bool.false_or, cond_true, cond_false, not_true_eq_false, not_false_eq_true, and_self, and_true, true_and, and_false, false_and, nI_clamp, ↓inbc, inb_n, nI_pos, nI_1, lt_7, hp, b8_81_31, b8_81_41, b8_81_51, hn]
          try rfl
        have e := lp (fun p => den (9 + 1, 8, 81, 25, [some (vr 0 56), some (vi a1), some (vi (sF (fun f => I 0 60 f) p)), some (vi (nI p))], [], mkH I t1 t2 k sc)) st 0 (by omega)
        simp (disch := omega) only [bnd, bnd0, ↓cdec, ↓cnot, ↓reduceIte, Bo_0, Bo_1, ↓Bo_ok, i10, i01, eq_self, decide_true, decide_false, Bool.or_true, Bool.true_or, Bool.or_false, Bool.false_or, cond_true, cond_false, not_true_eq_false, not_false_eq_true, and_self, and_true, true_and, and_false, false_and, nI_clamp, ↓inbc, inb_n, nI_pos, nI_1, b8_81_0, b8_81_11, b8_81_21, m_in32, k64_m1, k64_6, h]
        refine Eq.trans e ?_
        rw [b8_81_25]
        simp (disch := omega) only [bnd, bnd0, ↓cdec, ↓cnot, ↓reduceIte, Bo_0, Bo_1, ↓Bo_ok, i10, i01, eq_self, decide_true, decide_false, Bool.or_true, Bool.true_or, Bool.or_false, Bool.false_or, cond_true, cond_false, not_true_eq_false, not_false_eq_true, and_self, and_true, true_and, and_false, false_and, nI_clamp, ↓inbc, inb_n, nI_pos, nI_1, lt_7, Nat.lt_irrefl, b8_81_59]
    · have h0 : 0 ≤ a1.toInt := by
        have h5 : ¬ a1.toInt < (0 : Int32).toInt := fun q => hn (Int32.lt_iff_toInt_lt.mpr q)
        rw [k32_0] at h5; omega
      obtain ⟨f, hf, rfl⟩ := nat_of (x := a1) (m := 7) h0 (by omega) (by omega)
      refine ⟨I 0 60 f, I, I, t1, t2, k, ?_, ?_, hI, by omega⟩
      · simp (disch := omega) only [bnd, bnd0, ↓cdec, ↓cnot, ↓reduceIte, Bo_0, Bo_1, ↓Bo_ok, i10, i01, eq_self, decide_true, decide_false, Bool.or_true, Bool.true_or, Bool.or_false, Bool.false_or, cond_true, cond_false, not_true_eq_false, not_false_eq_true, and_self, and_true, true_and, and_false, false_and, nI_clamp, ↓inbc, inb_n, nI_pos, nI_1, b7_41_0, b7_41_7, b7_41_17, b7_41_21, x_within, k32_m1, k32_6, h, hn, hT f hf]
      · have st : ∀ p, p < 7 → den (9 + 1, 8, 81, 25, [some (vr 0 56), some (vi (nI f)), some (vi (sF (fun z => if z = f then I 0 60 z else 0) p)), some (vi (nI p))], [], mkH I t1 t2 k sc) = den (9 + 1, 8, 81, 25, [some (vr 0 56), some (vi (nI f)), some (vi (sF (fun z => if z = f then I 0 60 z else 0) (p + 1))), some (vi (nI (p + 1)))], [], mkH I t1 t2 k sc) := by
          intro p hp
          rw [b8_81_25, sF]
          by_cases hpf : p = f
          · subst hpf
            simp (disch := omega) only [bnd, bnd0, ↓cdec, ↓cnot, ↓reduceIte, Bo_0, Bo_1, ↓Bo_ok, i10, i01, eq_self, decide_true, decide_false, Bool.or_true, Bool.true_or, Bool.or_false, Bool.false_or, cond_true, cond_false, not_true_eq_false, not_false_eq_true, and_self, and_true, true_and, and_false, false_and, nI_clamp, ↓inbc, inb_n, nI_pos, nI_1, lt_7, hp, b8_81_31, b8_81_36, b8_81_41, b8_81_51, hn]
          · have hne : ¬ nI p = nI f := fun q => hpf ((nI_eq (by omega) (by omega)).mp q)
            simp (disch := omega) only [bnd, bnd0, ↓cdec, ↓cnot, ↓reduceIte, Bo_0, Bo_1, ↓Bo_ok, i10, i01, eq_self, decide_true, decide_false, Bool.or_true, Bool.true_or, Bool.or_false, Bool.false_or, cond_true, cond_false, not_true_eq_false, not_false_eq_true, and_self, and_true, true_and, and_false, false_and, nI_clamp, ↓inbc, inb_n, nI_pos, nI_1, lt_7, hp, b8_81_31, b8_81_36, b8_81_50, b8_81_51, hn, hne, hpf]
        have e := lp (fun p => den (9 + 1, 8, 81, 25, [some (vr 0 56), some (vi (nI f)), some (vi (sF (fun z => if z = f then I 0 60 z else 0) p)), some (vi (nI p))], [], mkH I t1 t2 k sc)) st 0 (by omega)
        simp (disch := omega) only [bnd, bnd0, ↓cdec, ↓cnot, ↓reduceIte, Bo_0, Bo_1, ↓Bo_ok, i10, i01, eq_self, decide_true, decide_false, Bool.or_true, Bool.true_or, Bool.or_false, Bool.false_or, cond_true, cond_false, not_true_eq_false, not_false_eq_true, and_self, and_true, true_and, and_false, false_and, nI_clamp, ↓inbc, inb_n, nI_pos, nI_1, b8_81_0, b8_81_11, b8_81_21, m_in32, k64_m1, k64_6, h]
        refine Eq.trans e ?_
        rw [b8_81_25]
        simp (disch := omega) only [bnd, bnd0, ↓cdec, ↓cnot, ↓reduceIte, Bo_0, Bo_1, ↓Bo_ok, i10, i01, eq_self, decide_true, decide_false, Bool.or_true, Bool.true_or, Bool.or_false, Bool.false_or, cond_true, cond_false, not_true_eq_false, not_false_eq_true, and_self, and_true, true_and, and_false, false_and, nI_clamp, ↓inbc, inb_n, nI_pos, nI_1, lt_7, Nat.lt_irrefl, b8_81_59]
        rw [sF_one, if_pos hf]
  · refine ⟨-1000001, uI I 0 47 0 (I 0 47 0 + 1), _, t1, t2, k, ?_, ?_, hI.find (f := 0) (by omega), by omega⟩
    · simp (disch := omega) only [bnd, bnd0, ↓cdec, ↓cnot, ↓reduceIte, Bo_0, Bo_1, ↓Bo_ok, i10, i01, eq_self, decide_true, decide_false, Bool.or_true, Bool.true_or, Bool.or_false, Bool.false_or, cond_true, cond_false, not_true_eq_false, not_false_eq_true, and_self, and_true, true_and, and_false, false_and, nI_clamp, ↓inbc, inb_n, nI_pos, nI_1, b7_41_0, b7_41_7, b7_41_10, b7_41_16, x_within, k32_m1, k32_6, h, x_f0]
    · simp (disch := omega) only [bnd, bnd0, ↓cdec, ↓cnot, ↓reduceIte, Bo_0, Bo_1, ↓Bo_ok, i10, i01, eq_self, decide_true, decide_false, Bool.or_true, Bool.true_or, Bool.or_false, Bool.false_or, cond_true, cond_false, not_true_eq_false, not_false_eq_true, and_self, and_true, true_and, and_false, false_and, nI_clamp, ↓inbc, inb_n, nI_pos, nI_1, b8_81_0, b8_81_11, b8_81_14, b8_81_20, m_in32, k64_m1, k64_6, h, m_f0]
/-- prisoner: the bounds of a part -/
def pLo (a : Nat) : Int := if a = 0 then 1 else 0
def pHi (a : Nat) : Int := if a = 0 then 9 else if a = 1 then 999 else if a = 2 then 99 else if a = 3 then 19 else 1
theorem mo_all {f : Nat → Int32} {v : Int32} {a : Nat} (ha : a < 5) (h : manOK f) (hv : pLo a ≤ v.toInt ∧ v.toInt ≤ pHi a) : manOK (fun a' => if a' = a then v else f a') := by
  match a, ha with
  | 0, _ => obtain ⟨n, hn, rfl⟩ := nat_of (x := v) (m := 10) (by have := hv.1; simp only [pLo] at this; omega) (by have := hv.2; simp only [pHi] at this; omega) (by omega)
            have h1 : (1 : Int) ≤ (nI n).toInt := hv.1
            rw [nI_toInt (by omega)] at h1
            exact mo_0 h ⟨n, by omega, by omega, rfl⟩
  | 1, _ => obtain ⟨n, hn, rfl⟩ := nat_of (x := v) (m := 1000) (by have := hv.1; simp only [pLo] at this; omega) (by have := hv.2; simp only [pHi] at this; omega) (by omega)
            exact mo_1 h ⟨n, by omega, by omega, rfl⟩
  | 2, _ => obtain ⟨n, hn, rfl⟩ := nat_of (x := v) (m := 100) (by have := hv.1; simp only [pLo] at this; omega) (by have := hv.2; simp only [pHi] at this; omega) (by omega)
            exact mo_2 h ⟨n, by omega, by omega, rfl⟩
  | 3, _ => obtain ⟨n, hn, rfl⟩ := nat_of (x := v) (m := 20) (by have := hv.1; simp only [pLo] at this; omega) (by have := hv.2; simp only [pHi] at this; omega) (by omega)
            exact mo_3 h ⟨n, by omega, by omega, rfl⟩
  | 4, _ => obtain ⟨n, hn, rfl⟩ := nat_of (x := v) (m := 2) (by have := hv.1; simp only [pLo] at this; omega) (by have := hv.2; simp only [pHi] at this; omega) (by omega)
            exact mo_4 h ⟨n, by omega, by omega, rfl⟩
  | n + 5, h => omega
theorem p_lk {a : Nat} (ha : a < 5) : (lkp (0 : Int32) [1, 0, 0, 0, 0] a).toInt = pLo a ∧ (lkp (0 : Int32) [9, 999, 99, 19, 1] a).toInt = pHi a := by
  have : ∀ a, a < 5 → (lkp (0 : Int32) [1, 0, 0, 0, 0] a).toInt = pLo a ∧ (lkp (0 : Int32) [9, 999, 99, 19, 1] a).toInt = pHi a := by decide
  exact this a ha
section
variable (d : Nat) (I : IFn) (t1 t2 : TFn) (k : Nat) (sc : Nat × (Nat → Int32))
theorem m_isPart {a : Nat} (ha : a < 5) (v : Int32) : den (d + 1, 8, 33, 0, [some (vi (nI a)), some (vi v)], [], mkH I t1 t2 k sc) = some (some (vi (Bo (pLo a ≤ v.toInt ∧ v.toInt ≤ pHi a))), mkH I t1 t2 k sc) := by
  match a, ha with
  | 0, _ => simp (disch := omega) only [bnd, bnd0, ↓cdec, ↓cnot, ↓reduceIte, Bo_0, Bo_1, ↓Bo_ok, i10, i01, eq_self, decide_true, decide_false, Bool.or_true, Bool.true_or, Bool.or_false, Bool.false_or, cond_true, cond_false, not_true_eq_false, not_false_eq_true, and_self, and_true, true_and, and_false, false_and, nI_clamp, ↓inbc, inb_n, nI_pos, nI_1, b8_33_0, b8_33_4, b8_33_13, b8_33_16, b8_33_21, b8_33_30, b8_33_33, b8_33_38, b8_33_47, b8_33_50, b8_33_55, b8_33_64, b8_33_67, b8_33_72, b8_33_79, b8_33_82, b8_33_86, b8_33_87, eq_0, m_in32, k64_1, k64_9]; rfl
  | 1, _ => simp (disch := omega) only [bnd, bnd0, ↓cdec, ↓cnot, ↓reduceIte, Bo_0, Bo_1, ↓Bo_ok, i10, i01, eq_self, decide_true, decide_false, Bool.or_true, Bool.true_or, Bool.or_false, Bool.false_or, cond_true, cond_false, not_true_eq_false, not_false_eq_true, and_self, and_true, true_and, and_false, false_and, nI_clamp, ↓inbc, inb_n, nI_pos, nI_1, b8_33_0, b8_33_4, b8_33_13, b8_33_16, b8_33_21, b8_33_30, b8_33_33, b8_33_38, b8_33_47, b8_33_50, b8_33_55, b8_33_64, b8_33_67, b8_33_72, b8_33_79, b8_33_82, b8_33_86, b8_33_87, eq_0, eq_1, Nat.reduceEqDiff, m_in32, k64_0, k64_999]; rfl
  | 2, _ => simp (disch := omega) only [bnd, bnd0, ↓cdec, ↓cnot, ↓reduceIte, Bo_0, Bo_1, ↓Bo_ok, i10, i01, eq_self, decide_true, decide_false, Bool.or_true, Bool.true_or, Bool.or_false, Bool.false_or, cond_true, cond_false, not_true_eq_false, not_false_eq_true, and_self, and_true, true_and, and_false, false_and, nI_clamp, ↓inbc, inb_n, nI_pos, nI_1, b8_33_0, b8_33_4, b8_33_13, b8_33_16, b8_33_21, b8_33_30, b8_33_33, b8_33_38, b8_33_47, b8_33_50, b8_33_55, b8_33_64, b8_33_67, b8_33_72, b8_33_79, b8_33_82, b8_33_86, b8_33_87, eq_0, eq_1, eq_2, Nat.reduceEqDiff, m_in32, k64_0, k64_99]; rfl
  | 3, _ => simp (disch := omega) only [bnd, bnd0, ↓cdec, ↓cnot, ↓reduceIte, Bo_0, Bo_1, ↓Bo_ok, i10, i01, eq_self, decide_true, decide_false, Bool.or_true, Bool.true_or, Bool.or_false, Bool.false_or, cond_true, cond_false, not_true_eq_false, not_false_eq_true, and_self, and_true, true_and, and_false, false_and, nI_clamp, ↓inbc, inb_n, nI_pos, nI_1, b8_33_0, b8_33_4, b8_33_13, b8_33_16, b8_33_21, b8_33_30, b8_33_33, b8_33_38, b8_33_47, b8_33_50, b8_33_55, b8_33_64, b8_33_67, b8_33_72, b8_33_79, b8_33_82, b8_33_86, b8_33_87, eq_0, eq_1, eq_2, eq_3, Nat.reduceEqDiff, m_in32, k64_0, k64_19]; rfl
  | 4, _ =>
    show _ = some (some (vi (Bo (0 ≤ v.toInt ∧ v.toInt ≤ 1))), mkH I t1 t2 k sc)
    by_cases h : 0 ≤ v.toInt ∧ v.toInt ≤ 1
    · rw [Bo_t h]
      simp (disch := omega) only [bnd, bnd0, ↓cdec, ↓cnot, ↓reduceIte, Bo_0, Bo_1, ↓Bo_ok, i10, i01, eq_self, decide_true, decide_false, Bool.or_true, Bool.true_or, Bool.or_false, Bool.false_or, cond_true, cond_false, not_true_eq_false, not_false_eq_true, and_self, and_true, true_and, and_false, false_and, nI_clamp, ↓inbc, inb_n, nI_pos, nI_1, b8_33_0, b8_33_4, b8_33_13, b8_33_16, b8_33_21, b8_33_30, b8_33_33, b8_33_38, b8_33_47, b8_33_50, b8_33_55, b8_33_64, b8_33_67, b8_33_72, b8_33_79, b8_33_82, b8_33_86, b8_33_87, eq_0, eq_1, eq_2, eq_3, eq_4, Nat.reduceEqDiff, m_in32, k64_0, k64_1, h]
    · rw [Bo_f h]
      simp (disch := omega) only [bnd, bnd0, ↓cdec, ↓cnot, ↓reduceIte, Bo_0, Bo_1, ↓Bo_ok, i10, i01, eq_self, decide_true, decide_false, Bool.or_true, Bool.true_or, Bool.or_false, Bool.false_or, cond_true, cond_false, not_true_eq_false, not_false_eq_true, and_self, and_true, true_and, and_false, false_and, nI_clamp, ↓inbc, inb_n, nI_pos, nI_1, b8_33_0, b8_33_4, b8_33_13, b8_33_16, b8_33_21, b8_33_30, b8_33_33, b8_33_38, b8_33_47, b8_33_50, b8_33_55, b8_33_64, b8_33_67, b8_33_72, b8_33_79, b8_33_82, b8_33_86, b8_33_87, eq_0, eq_1, eq_2, eq_3, eq_4, Nat.reduceEqDiff, m_in32, k64_0, k64_1, h]
  | n + 5, h => omega
end
/-- prisoner -/
theorem ok_10 : op_10 Inv := by
  intro a1 a2 a3 I t1 t2 k sc hI
  by_cases h1 : 0 ≤ a1.toInt ∧ a1.toInt ≤ 9
  · by_cases h2 : 0 ≤ a2.toInt ∧ a2.toInt ≤ 4
    · obtain ⟨p, hp, rfl⟩ := nat_of (x := a1) (m := 10) h1.1 (by omega) (by omega)
      obtain ⟨a, ha, rfl⟩ := nat_of (x := a2) (m := 5) h2.1 (by omega) (by omega)
      obtain ⟨l1, l2⟩ := p_lk ha
      by_cases h3 : pLo a ≤ a3.toInt ∧ a3.toInt ≤ pHi a
      · obtain ⟨γ, hX, hM, hok⟩ := hI.men
        obtain ⟨n, n8, c0, c0', c1, c2, c3, c4, ht, -⟩ := hI.head
        have hq : (shp 0 (8 + 1 + a)).2 = 10 := by
          match a, ha with
          | 0, _ => rfl
          | 1, _ => rfl
          | 2, _ => rfl
          | 3, _ => rfl
          | 4, _ => rfl
          | n + 5, h => omega
        have k91 : (Int32.ofNat 10 - 1).toInt = 9 := by decide
        have hMx : MenM (uI I 0 (8 + 1 + a) p a3) γ := hM.keep (fun i _ _ => uI_ne (by omega))
        refine ⟨γ a p, uI I 0 (8 + 1 + a) p a3, uI (uI I 0 (8 + 1 + a) p a3) 0 57 (5 + 9 * p + a) a3, t1, t2, k, ?_, ?_, ?_, by omega⟩
        · have ex := hX a p (by omega) hp
          simp (disch := omega) only [bnd, bnd0, ↓cdec, ↓cnot, ↓reduceIte, Bo_0, Bo_1, ↓Bo_ok, i10, i01, eq_self, decide_true, decide_false, Bool.or_true, Bool.true_or, Bool.or_false, Bool.false_or, cond_true, cond_false, not_true_eq_false, not_false_eq_true, and_self, and_true, true_and, and_false, false_and, nI_clamp, ↓inbc, inb_n, nI_pos, nI_1, b7_11_0, b7_11_4, b7_11_7, b7_11_18, b7_11_21, b7_11_35, b7_11_38, b7_11_44, b7_11_45, b7_11_56, b7_11_61, b7_51_0, b7_51_9, b7_51_12, b7_51_14, x_isPrisoner, x_within, k32_0, k51, h1, h2, l1, l2, h3, x_row, hq, k91, ex]
        · have ex := hMx a p (by omega) hp
          simp (disch := omega) only [bnd, bnd0, ↓cdec, ↓cnot, ↓reduceIte, Bo_0, Bo_1, ↓Bo_ok, i10, i01, eq_self, decide_true, decide_false, Bool.or_true, Bool.true_or, Bool.or_false, Bool.false_or, cond_true, cond_false, not_true_eq_false, not_false_eq_true, and_self, and_true, true_and, and_false, false_and, nI_clamp, ↓inbc, inb_n, nI_pos, nI_1, b8_34_0, b8_34_4, b8_34_7, b8_34_16, b8_34_19, b8_34_24, b8_34_27, b8_34_33, b8_34_34, b8_34_43, b8_34_55, m_isMan, m_in32, k64_0, k64_4, h1, h2, m_isPart, h3, mA, ex]
        · have hX2 : MenX 8 (uI (uI I 0 (8 + 1 + a) p a3) 0 57 (5 + 9 * p + a) a3) (g2 γ a p a3) := (hX.set a3).keep (fun j q _ _ _ => uI_ne (by omega))
          have hM2 : MenM (uI (uI I 0 (8 + 1 + a) p a3) 0 57 (5 + 9 * p + a) a3) (g2 γ a p a3) := hMx.set a3 (by omega)
          refine hI.gaol (g2 γ a p a3) (fun a p ha hp => hX2 a p ha hp) hM2 (g2_ok hok (mo_all ha (hok p hp) h3)) ?_ ?_ ?_ ?_ ?_ ?_ ?_ ?_
          · rw [uI_ne (by omega), uI_ne (by omega), uI_ne (by omega), uI_ne (by omega)]; exact c1.1
          · intro m m8 hm
            rw [uI_ne (by omega), uI_ne (by omega)]
            rw [c0, nI_eq (by omega) (by omega)] at hm
            rw [← hm]; exact c1.2
          · rw [uI_ne (by omega), uI_ne (by omega), uI_ne (by omega), uI_ne (by omega)]; exact c2.1
          · rw [uI_ne (by omega), uI_ne (by omega)]; exact c2.2
          · rw [uI_ne (by omega), uI_ne (by omega), uI_ne (by omega), uI_ne (by omega)]; exact c3.1
          · rw [uI_ne (by omega), uI_ne (by omega)]; exact c3.2
          · rw [uI_ne (by omega), uI_ne (by omega), uI_ne (by omega), uI_ne (by omega)]; exact c4
          · intro g j i hc
            unfold Gc at hc
            rw [uI_ne (by omega), uI_ne (by omega)]
      · refine ⟨-1000001, uI I 0 47 0 (I 0 47 0 + 1), _, t1, t2, k, ?_, ?_, hI.find (f := 0) (by omega), by omega⟩
        · simp (disch := omega) only [bnd, bnd0, ↓cdec, ↓cnot, ↓reduceIte, Bo_0, Bo_1, ↓Bo_ok, i10, i01, eq_self, decide_true, decide_false, Bool.or_true, Bool.true_or, Bool.or_false, Bool.false_or, cond_true, cond_false, not_true_eq_false, not_false_eq_true, and_self, and_true, true_and, and_false, false_and, nI_clamp, ↓inbc, inb_n, nI_pos, nI_1, b7_11_0, b7_11_4, b7_11_7, b7_11_18, b7_11_21, b7_11_35, b7_11_38, b7_11_44, b7_11_45, b7_11_56, b7_11_61, x_isPrisoner, x_within, k32_0, k51, h1, h2, l1, l2, h3, x_f0]
        · simp (disch := omega) only [bnd, bnd0, ↓cdec, ↓cnot, ↓reduceIte, Bo_0, Bo_1, ↓Bo_ok, i10, i01, eq_self, decide_true, decide_false, Bool.or_true, Bool.true_or, Bool.or_false, Bool.false_or, cond_true, cond_false, not_true_eq_false, not_false_eq_true, and_self, and_true, true_and, and_false, false_and, nI_clamp, ↓inbc, inb_n, nI_pos, nI_1, b8_34_0, b8_34_4, b8_34_7, b8_34_16, b8_34_19, b8_34_24, b8_34_27, b8_34_33, b8_34_34, b8_34_43, b8_34_55, m_isMan, m_in32, k64_0, k64_4, h1, h2, m_isPart, h3, m_f0]
    · refine ⟨-1000001, uI I 0 47 0 (I 0 47 0 + 1), _, t1, t2, k, ?_, ?_, hI.find (f := 0) (by omega), by omega⟩
      · simp (disch := omega) only [bnd, bnd0, ↓cdec, ↓cnot, ↓reduceIte, Bo_0, Bo_1, ↓Bo_ok, i10, i01, eq_self, decide_true, decide_false, Bool.or_true, Bool.true_or, Bool.or_false, Bool.false_or, cond_true, cond_false, not_true_eq_false, not_false_eq_true, and_self, and_true, true_and, and_false, false_and, nI_clamp, ↓inbc, inb_n, nI_pos, nI_1, b7_11_0, b7_11_4, b7_11_7, b7_11_18, b7_11_21, b7_11_35, b7_11_38, b7_11_44, b7_11_45, b7_11_56, b7_11_61, x_isPrisoner, x_within, k32_0, k51, h1, h2, x_f0]
      · simp (disch := omega) only [bnd, bnd0, ↓cdec, ↓cnot, ↓reduceIte, Bo_0, Bo_1, ↓Bo_ok, i10, i01, eq_self, decide_true, decide_false, Bool.or_true, Bool.true_or, Bool.or_false, Bool.false_or, cond_true, cond_false, not_true_eq_false, not_false_eq_true, and_self, and_true, true_and, and_false, false_and, nI_clamp, ↓inbc, inb_n, nI_pos, nI_1, b8_34_0, b8_34_4, b8_34_7, b8_34_16, b8_34_19, b8_34_24, b8_34_27, b8_34_33, b8_34_34, b8_34_43, b8_34_55, m_isMan, m_in32, k64_0, k64_4, h1, h2, m_f0]
  · refine ⟨-1000001, uI I 0 47 0 (I 0 47 0 + 1), _, t1, t2, k, ?_, ?_, hI.find (f := 0) (by omega), by omega⟩
    · simp (disch := omega) only [bnd, bnd0, ↓cdec, ↓cnot, ↓reduceIte, Bo_0, Bo_1, ↓Bo_ok, i10, i01, eq_self, decide_true, decide_false, Bool.or_true, Bool.true_or, Bool.or_false, Bool.false_or, cond_true, cond_false, not_true_eq_false, not_false_eq_true, and_self, and_true, true_and, and_false, false_and, nI_clamp, ↓inbc, inb_n, nI_pos, nI_1, b7_11_0, b7_11_4, b7_11_7, b7_11_18, b7_11_21, b7_11_35, b7_11_38, b7_11_44, b7_11_45, b7_11_56, b7_11_61, x_isPrisoner, h1, x_f0]
    · simp (disch := omega) only [bnd, bnd0, ↓cdec, ↓cnot, ↓reduceIte, Bo_0, Bo_1, ↓Bo_ok, i10, i01, eq_self, decide_true, decide_false, Bool.or_true, Bool.true_or, Bool.or_false, Bool.false_or, cond_true, cond_false, not_true_eq_false, not_false_eq_true, and_self, and_true, true_and, and_false, false_and, nI_clamp, ↓inbc, inb_n, nI_pos, nI_1, b8_34_0, b8_34_4, b8_34_7, b8_34_16, b8_34_19, b8_34_24, b8_34_27, b8_34_33, b8_34_34, b8_34_43, b8_34_55, m_isMan, h1, m_f0]
