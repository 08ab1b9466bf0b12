/-! sheets: sheet, write -/
theorem eq_16 {n : Nat} (h : n < 2147483648) : (nI n = (16 : Int32)) = (n = 16) := propext (nI_eq (b := 16) h (by decide))
theorem eq_32 {n : Nat} (h : n < 2147483648) : (nI n = (32 : Int32)) = (n = 32) := propext (nI_eq (b := 32) h (by decide))
theorem im1 : ((-1000001 : Int32) = 0) = False := by decide
theorem im6 : ((-1000006 : Int32) = 0) = False := by decide
theorem mul40 (n : Nat) : (40 : Int32) * nI n = nI (40 * n) := (Int32.ofNat_mul 40 n).symm
theorem nlt0 {x : Int32} (h : ¬ x < 0) : 0 ≤ x.toInt := by
  have h5 : ¬ x.toInt < (0 : Int32).toInt := fun q => h (Int32.lt_iff_toInt_lt.mpr q)
  rw [k32_0] at h5; omega
theorem lt0 {x : Int32} (h : x < 0) : x.toInt < 0 := by
  have h5 := Int32.lt_iff_toInt_lt.mp h
  rw [k32_0] at h5; exact h5
theorem Inv.sheets {I J : IFn} {t1 t2 : TFn} {k : Nat} (v : Inv I t1 t2 k) (hS : ∀ s, s < 4 → SheetOK J s) (hfr : ∀ g j i, ¬ Gb g j i → ¬ (g = 0 ∧ ((48 ≤ j ∧ j ≤ 55) ∨ (67 ≤ j ∧ j ≤ 69))) → J g j i = I g j i) : Inv J t1 t2 k := by
  obtain ⟨hT, ⟨n, b0, b1, b2, b3⟩, hSh, hW, hK⟩ := v
  have fr : ∀ j i, ¬ ((j = 0 ∧ i ≠ 7) ∨ (j = 1 ∧ i ≠ 1) ∨ ((j = 8 ∨ j = 24) ∧ i = 12) ∨ (35 ≤ j ∧ j ≤ 46) ∨ (j = 56 ∧ i ≠ 4 ∧ i ≠ 8) ∨ j = 59 ∨ (62 ≤ j ∧ j ≤ 66) ∨ 70 ≤ j ∨ (48 ≤ j ∧ j ≤ 55) ∨ (67 ≤ j ∧ j ≤ 69)) → J 0 j i = I 0 j i := fun j i q => hfr 0 j i (by unfold Gb; omega) (by omega)
  have hTS : TextsSame I J k := fun e _ j i q1 q2 q3 q4 => hfr _ _ _ (by unfold Gb; omega) (by omega)
  refine ⟨hT.congr (fun i _ => fr _ _ (by omega)) (fun i _ => fr _ _ (by omega)), ⟨n, b0, ?_, ?_, fun i hi => ?_⟩, hS, hW.congr hTS (fun j i _ _ _ => fr _ _ (by omega)) (fun i _ => fr _ _ (by omega)), hK.congr2 hTS (fr _ _ (by omega)) (fr _ _ (by omega)) (fun j i _ _ _ => fr _ _ (by omega)) (fun i _ => fr _ _ (by omega))⟩
  · rw [fr _ _ (by omega)]; exact b1
  · rw [fr _ _ (by omega)]; exact b2
  · rw [fr 2 i (by omega), fr 61 i (by omega)]; exact b3 i hi
/-- a value as a sheet of so many bits has it -/
def nar (b : Nat) (v : Int32) : Int32 := if b = 8 then v.toInt8.toInt32 else if b = 16 then v.toInt16.toInt32 else v
section
variable (d : Nat) (I : IFn) (t1 t2 : TFn) (k : Nat) (sc : Nat × (Nat → Int32))
theorem rR45 {n : Nat} (hn : n < 4) : rR (mkH I t1 t2 k sc) 0 45 n = some (0, 48 + 2 * n) := by
  match n, hn with
  | 0, _ => rfl
  | 1, _ => rfl
  | 2, _ => rfl
  | 3, _ => rfl
  | n + 4, h => omega
theorem x_fillS {s : Nat} (hs : s < 4) (v : Int32) : den (d, 12, 0, 0, [some (vr 0 (48 + 2 * s + 1)), some (vi v), none, none], [], mkH I t1 t2 k sc) = some (none, mkH (uA I 0 (48 + 2 * s + 1) (fil v 40 (I 0 (48 + 2 * s + 1)))) t1 t2 k sc) := by
  refine x_fill d I t1 t2 k sc (n := 40) (by omega) ?_ (by omega) v
  match s, hs with
  | 0, _ => rfl
  | 1, _ => rfl
  | 2, _ => rfl
  | 3, _ => rfl
  | n + 4, h => omega
theorem x_isMissing {q : Nat} (hq : q = 48 ∨ q = 50 ∨ q = 52 ∨ q = 54) : den (d, 1, 1, 0, [some (vr 0 q)], [], mkH I t1 t2 k sc) = some (some (vi (Bo (I 0 q 1 = 0))), mkH I t1 t2 k sc) := by
  by_cases h : I 0 q 1 = 0
  · rw [Bo_t h]; simp (disch := omega) only [bnd, bnd0, ↓cdec, ↓cnot, ↓reduceIte, Bo_0, Bo_1, ↓Bo_ok, i10, i01, eq_self, decide_true, decide_false, Bool.or_true, Bool.true_or, Bool.or_false, Bool.false_or, cond_true, cond_false, not_true_eq_false, not_false_eq_true, and_self, and_true, true_and, and_false, false_and, nI_clamp, ↓inbc, inb_n, nI_pos, nI_1, b1_1_0, b1_1_7, b1_1_11, b1_1_12, h]
  · rw [Bo_f h]; simp (disch := omega) only [bnd, bnd0, ↓cdec, ↓cnot, ↓reduceIte, Bo_0, Bo_1, ↓Bo_ok, i10, i01, eq_self, decide_true, decide_false, Bool.or_true, Bool.true_or, Bool.or_false, Bool.false_or, cond_true, cond_false, not_true_eq_false, not_false_eq_true, and_self, and_true, true_and, and_false, false_and, nI_clamp, ↓inbc, inb_n, nI_pos, nI_1, b1_1_0, b1_1_7, b1_1_11, b1_1_12, h]
theorem x_cut {q b : Nat} (hq : q = 48 ∨ q = 50 ∨ q = 52 ∨ q = 54) (hb : b ≤ 32) (h : I 0 q 1 = nI b) (v : Int32) : den (d, 1, 4, 0, [some (vr 0 q), some (vi v)], [], mkH I t1 t2 k sc) = some (some (vi (nar b v)), mkH I t1 t2 k sc) := by
  by_cases h8 : b = 8
  · simp (disch := omega) only [bnd, bnd0, ↓cdec, ↓cnot, ↓reduceIte, Bo_0, Bo_1, ↓Bo_ok, i10, i01, eq_self, decide_true, decide_false, Bool.or_true, Bool.true_or, Bool.or_false, Bool.false_or, cond_true, cond_false, not_true_eq_false, not_false_eq_true, and_self, and_true, true_and, and_false, false_and, nI_clamp, ↓inbc, inb_n, nI_pos, nI_1, b1_4_0, b1_4_9, b1_4_12, b1_4_21, b1_4_26, b1_4_27, h, eq_8, h8, nar]
  · by_cases h16 : b = 16
    · simp (disch := omega) only [bnd, bnd0, ↓cdec, ↓cnot, ↓reduceIte, Bo_0, Bo_1, ↓Bo_ok, i10, i01, eq_self, decide_true, decide_false, Bool.or_true, Bool.true_or, Bool.or_false, Bool.false_or, cond_true, cond_false, not_true_eq_false, not_false_eq_true, and_self, and_true, true_and, and_false, false_and, nI_clamp, ↓inbc, inb_n, nI_pos, nI_1, b1_4_0, b1_4_9, b1_4_12, b1_4_21, b1_4_26, b1_4_27, h, eq_8, eq_16, h8, h16, nar, Nat.reduceEqDiff]
    · simp (disch := omega) only [bnd, bnd0, ↓cdec, ↓cnot, ↓reduceIte, Bo_0, Bo_1, ↓Bo_ok, i10, i01, eq_self, decide_true, decide_false, Bool.or_true, Bool.true_or, Bool.or_false, Bool.false_or, cond_true, cond_false, not_true_eq_false, not_false_eq_true, and_self, and_true, true_and, and_false, false_and, nI_clamp, ↓inbc, inb_n, nI_pos, nI_1, b1_4_0, b1_4_9, b1_4_12, b1_4_21, b1_4_26, b1_4_27, h, eq_8, eq_16, h8, h16, nar]
theorem m_narrowed {b : Nat} (hb : b ≤ 32) (v : Int32) : den (d, 8, 71, 0, [some (vi (nI b)), some (vi v)], [], mkH I t1 t2 k sc) = some (some (vi (nar b v)), mkH I t1 t2 k sc) := by
  by_cases h8 : b = 8
  · simp (disch := omega) only [bnd, bnd0, ↓cdec, ↓cnot, ↓reduceIte, Bo_0, Bo_1, ↓Bo_ok, i10, i01, eq_self, decide_true, decide_false, Bool.or_true, Bool.true_or, Bool.or_false, Bool.false_or, cond_true, cond_false, not_true_eq_false, not_false_eq_true, and_self, and_true, true_and, and_false, false_and, nI_clamp, ↓inbc, inb_n, nI_pos, nI_1, b8_71_0, b8_71_6, b8_71_11, b8_71_17, b8_71_22, b8_71_23, eq_8, h8, nar]
  · by_cases h16 : b = 16
    · simp (disch := omega) only [bnd, bnd0, ↓cdec, ↓cnot, ↓reduceIte, Bo_0, Bo_1, ↓Bo_ok, i10, i01, eq_self, decide_true, decide_false, Bool.or_true, Bool.true_or, Bool.or_false, Bool.false_or, cond_true, cond_false, not_true_eq_false, not_false_eq_true, and_self, and_true, true_and, and_false, false_and, nI_clamp, ↓inbc, inb_n, nI_pos, nI_1, b8_71_0, b8_71_6, b8_71_11, b8_71_17, b8_71_22, b8_71_23, eq_8, eq_16, h8, h16, nar, Nat.reduceEqDiff]
    · simp (disch := omega) only [bnd, bnd0, ↓cdec, ↓cnot, ↓reduceIte, Bo_0, Bo_1, ↓Bo_ok, i10, i01, eq_self, decide_true, decide_false, Bool.or_true, Bool.true_or, Bool.or_false, Bool.false_or, cond_true, cond_false, not_true_eq_false, not_false_eq_true, and_self, and_true, true_and, and_false, false_and, nI_clamp, ↓inbc, inb_n, nI_pos, nI_1, b8_71_0, b8_71_6, b8_71_11, b8_71_17, b8_71_22, b8_71_23, eq_8, eq_16, h8, h16, nar]
end
/-- sheet -/
theorem ok_31 : op_31 Inv := by
  intro a1 a2 a3 I t1 t2 k sc hI
  by_cases h1 : 0 ≤ a1.toInt ∧ a1.toInt ≤ 3
  · by_cases h2 : ∃ b : Nat, (b = 0 ∨ b = 8 ∨ b = 16 ∨ b = 32) ∧ a2 = nI b
    · obtain ⟨b, hb, rfl⟩ := h2
      obtain ⟨s, hs, rfl⟩ := nat_of (x := a1) (m := 4) h1.1 (by omega) (by omega)
      have hx : ∀ I, den (10, 7, 32, 0, [some (vr 0 0), some (vi (nI s)), some (vi (nI b)), some (vi a3)], [], mkH I t1 t2 k sc) = den (9 + 1, 7, 32, 37, [some (vr 0 0), some (vi (nI s)), some (vi (nI b)), some (vi a3)], [], mkH I t1 t2 k sc) := by
        intro I
        rcases hb with rfl | rfl | rfl | rfl <;> simp (disch := omega) only [bnd, bnd0, ↓cdec, ↓cnot, ↓reduceIte, Bo_0, Bo_1, ↓Bo_ok, i10, i01, eq_self, decide_true, decide_false, Bool.or_true, Bool.true_or, Bool.or_false, Bool.false_or, cond_true, cond_false, not_true_eq_false, not_false_eq_true, and_self, and_true, true_and, and_false, false_and, nI_clamp, ↓inbc, inb_n, nI_pos, nI_1, b7_32_0, b7_32_5, b7_32_8, b7_32_12, b7_32_18, b7_32_24, x_isSheet, h1, eq_0, eq_8, eq_16, eq_32, Nat.reduceEqDiff]
      have hm : ∀ I, den (10, 8, 70, 0, [some (vr 0 56), some (vi (nI s)), some (vi (nI b)), some (vi a3), none], [], mkH I t1 t2 k sc) = den (9 + 1, 8, 70, 36, [some (vr 0 56), some (vi (nI s)), some (vi (nI b)), some (vi a3), none], [], mkH I t1 t2 k sc) := by
        intro I
        rcases hb with rfl | rfl | rfl | rfl <;> simp (disch := omega) only [bnd, bnd0, ↓cdec, ↓cnot, ↓reduceIte, Bo_0, Bo_1, ↓Bo_ok, i10, i01, eq_self, decide_true, decide_false, Bool.or_true, Bool.true_or, Bool.or_false, Bool.false_or, cond_true, cond_false, not_true_eq_false, not_false_eq_true, and_self, and_true, true_and, and_false, false_and, nI_clamp, ↓inbc, inb_n, nI_pos, nI_1, b8_70_0, b8_70_4, b8_70_7, b8_70_11, b8_70_17, b8_70_23, m_isOne, h1, eq_0, eq_8, eq_16, eq_32, Nat.reduceEqDiff]
      by_cases hn : a3 < 0
      · refine ⟨-1000007, uI I 0 47 6 (I 0 47 6 + 1), _, t1, t2, k, (hx I).trans ?_, (hm _).trans ?_, hI.find (f := 6) (by omega), by omega⟩
        · simp (disch := omega) only [bnd, bnd0, ↓cdec, ↓cnot, ↓reduceIte, Bo_0, Bo_1, ↓Bo_ok, i10, i01, eq_self, decide_true, decide_false, Bool.or_true, Bool.true_or, Bool.or_false, Bool.false_or, cond_true, cond_false, not_true_eq_false, not_false_eq_true, and_self, and_true, true_and, and_false, false_and, nI_clamp, ↓inbc, inb_n, nI_pos, nI_1, b7_32_37, b7_32_41, b7_32_47, hn, x_f6]
        · simp (disch := omega) only [bnd, bnd0, ↓cdec, ↓cnot, ↓reduceIte, Bo_0, Bo_1, ↓Bo_ok, i10, i01, eq_self, decide_true, decide_false, Bool.or_true, Bool.true_or, Bool.or_false, Bool.false_or, cond_true, cond_false, not_true_eq_false, not_false_eq_true, and_self, and_true, true_and, and_false, false_and, nI_clamp, ↓inbc, inb_n, nI_pos, nI_1, b8_70_36, b8_70_40, b8_70_46, hn, m_f6]
      · by_cases h40 : 40 < a3
        · refine ⟨-1000001, uI I 0 47 0 (I 0 47 0 + 1), _, t1, t2, k, (hx I).trans ?_, (hm _).trans ?_, hI.find (f := 0) (by omega), by omega⟩
          · simp (disch := omega) only [bnd, bnd0, ↓cdec, ↓cnot, ↓reduceIte, Bo_0, Bo_1, ↓Bo_ok, i10, i01, eq_self, decide_true, decide_false, Bool.or_true, Bool.true_or, Bool.or_false, Bool.false_or, cond_true, cond_false, not_true_eq_false, not_false_eq_true, and_self, and_true, true_and, and_false, false_and, nI_clamp, ↓inbc, inb_n, nI_pos, nI_1, b7_32_37, b7_32_48, b7_32_54, b7_32_60, hn, h40, x_f0]
          · simp (disch := omega) only [bnd, bnd0, ↓cdec, ↓cnot, ↓reduceIte, Bo_0, Bo_1, ↓Bo_ok, i10, i01, eq_self, decide_true, decide_false, Bool.or_true, Bool.true_or, Bool.or_false, Bool.false_or, cond_true, cond_false, not_true_eq_false, not_false_eq_true, and_self, and_true, true_and, and_false, false_and, nI_clamp, ↓inbc, inb_n, nI_pos, nI_1, b8_70_36, b8_70_47, b8_70_53, b8_70_59, hn, h40, m_f0]
        · have g0 := nlt0 hn
          have g1 : ¬ (40 : Int32).toInt < a3.toInt := fun q => h40 (Int32.lt_iff_toInt_lt.mpr q)
          rw [k32_40] at g1
          obtain ⟨n, n41, rfl⟩ := nat_of (x := a3) (m := 41) g0 (by omega) (by omega)
          obtain ⟨L, hL, l40, hl⟩ : ∃ L : Nat, L = (if b = 0 then 0 else n) ∧ L ≤ 40 ∧ (b = 0 → L = 0) ∧ (¬ b = 0 → L = n) := by
            by_cases b0 : b = 0
            · exact ⟨0, by rw [if_pos b0], by omega, fun _ => rfl, fun q => absurd b0 q⟩
            · exact ⟨n, by rw [if_neg b0], by omega, fun q => absurd q b0, fun _ => rfl⟩
          generalize hJ1 : uA (uI (uI I 0 (48 + 2 * s) 1 (nI b)) 0 (48 + 2 * s) 2 (nI L)) 0 (48 + 2 * s + 1) (fil 0 40 ((uI (uI I 0 (48 + 2 * s) 1 (nI b)) 0 (48 + 2 * s) 2 (nI L)) 0 (48 + 2 * s + 1))) = J1
          have j1fr : ∀ g j i, ¬ (g = 0 ∧ ((j = 48 + 2 * s ∧ (i = 1 ∨ i = 2)) ∨ j = 48 + 2 * s + 1)) → J1 g j i = I g j i := by
            intro g j i h
            rw [← hJ1, uA_ne (by omega), uI_ne (by omega), uI_ne (by omega)]
          have xt : den (9 + 1, 7, 32, 77, [some (vr 0 0), some (vi (nI s)), some (vi (nI b)), some (vi (nI n))], [vi (nI L), vi (nI b), vr 0 (48 + 2 * s)], mkH I t1 t2 k sc) = some (some (vi (nI L)), mkH (J1) t1 t2 k sc) := by
            have hr : J1 0 (48 + 2 * s) 2 = nI L := by rw [← hJ1, uA_ne (by omega), uI_at (by omega)]
            simp (disch := omega) only [bnd, bnd0, ↓cdec, ↓cnot, ↓reduceIte, Bo_0, Bo_1, ↓Bo_ok, i10, i01, eq_self, decide_true, decide_false, Bool.or_true, Bool.true_or, Bool.or_false, Bool.false_or, cond_true, cond_false, not_true_eq_false, not_false_eq_true, and_self, and_true, true_and, and_false, false_and, nI_clamp, ↓inbc, inb_n, nI_pos, nI_1, b7_32_77, b1_2_0, b1_2_18, x_fillS, b7_32_80, rR45]
            rw [hJ1]
            simp (disch := omega) only [bnd, bnd0, ↓cdec, ↓cnot, ↓reduceIte, Bo_0, Bo_1, ↓Bo_ok, i10, i01, eq_self, decide_true, decide_false, Bool.or_true, Bool.true_or, Bool.or_false, Bool.false_or, cond_true, cond_false, not_true_eq_false, not_false_eq_true, and_self, and_true, true_and, and_false, false_and, nI_clamp, ↓inbc, inb_n, nI_pos, nI_1, rR45, b7_32_86, hr]
          obtain ⟨J2, e2, q1, q2⟩ := lpE (fun p J => den (9 + 1, 8, 70, 85, [some (vr 0 56), some (vi (nI s)), some (vi (nI b)), some (vi (nI n)), some (vi (nI p))], [], mkH (J) t1 t2 k sc))
            (fun p J => (∀ i, i < p → J 0 69 (40 * s + i) = 0) ∧ ∀ g j i, ¬ (g = 0 ∧ j = 69 ∧ 40 * s ≤ i ∧ i < 40 * s + 40) → J g j i = (uI (uI J1 0 67 s (nI b)) 0 68 s (nI L)) g j i) (N := 40)
            (by
              intro p J hp ⟨r1, r2⟩
              refine ⟨uI J 0 69 (40 * s + p) 0, ?_, fun i hi => ?_, fun g j i h => ?_⟩
              · rw [b8_70_85]
                simp (disch := omega) only [bnd, bnd0, ↓cdec, ↓cnot, ↓reduceIte, Bo_0, Bo_1, ↓Bo_ok, i10, i01, eq_self, decide_true, decide_false, Bool.or_true, Bool.true_or, Bool.or_false, Bool.false_or, cond_true, cond_false, not_true_eq_false, not_false_eq_true, and_self, and_true, true_and, and_false, false_and, nI_clamp, ↓inbc, inb_n, nI_pos, nI_1, lt_40, hp, b8_70_92, mul40, nI_add]
              · by_cases e : i = p
                · subst e; exact uI_at (by omega)
                · rw [uI_ne (by omega)]; exact r1 i (by omega)
              · rw [uI_ne (by omega)]; exact r2 g j i h) 0 (uI (uI J1 0 67 s (nI b)) 0 68 s (nI L)) (by omega) ⟨fun i hi => by omega, fun g j i h => rfl⟩
          have mt : den (9 + 1, 8, 70, 81, [some (vr 0 56), some (vi (nI s)), some (vi (nI b)), some (vi (nI n)), none], [vi (nI L), vi (nI s), vr 0 68], mkH (uI J1 0 67 s (nI b)) t1 t2 k sc) = some (some (vi (nI L)), mkH (J2) t1 t2 k sc) := by
            have hr : J2 0 68 s = nI L := by rw [q2 _ _ _ (by omega), uI_at (by omega)]
            simp (disch := omega) only [bnd, bnd0, ↓cdec, ↓cnot, ↓reduceIte, Bo_0, Bo_1, ↓Bo_ok, i10, i01, eq_self, decide_true, decide_false, Bool.or_true, Bool.true_or, Bool.or_false, Bool.false_or, cond_true, cond_false, not_true_eq_false, not_false_eq_true, and_self, and_true, true_and, and_false, false_and, nI_clamp, ↓inbc, inb_n, nI_pos, nI_1, b8_70_81]
            refine Eq.trans e2 ?_
            rw [b8_70_85]
            simp (disch := omega) only [bnd, bnd0, ↓cdec, ↓cnot, ↓reduceIte, Bo_0, Bo_1, ↓Bo_ok, i10, i01, eq_self, decide_true, decide_false, Bool.or_true, Bool.true_or, Bool.or_false, Bool.false_or, cond_true, cond_false, not_true_eq_false, not_false_eq_true, and_self, and_true, true_and, and_false, false_and, nI_clamp, ↓inbc, inb_n, nI_pos, nI_1, lt_40, Nat.lt_irrefl, b8_70_111, hr]
          refine ⟨nI L, J1, J2, t1, t2, k, (hx I).trans ?_, (hm _).trans ?_, hI.sheets ?_ ?_, by omega⟩
          · by_cases b0 : b = 0
            · have := hl.1 b0
              subst this
              rw [nI_0] at xt ⊢
              simp (disch := omega) only [bnd, bnd0, ↓cdec, ↓cnot, ↓reduceIte, Bo_0, Bo_1, ↓Bo_ok, i10, i01, eq_self, decide_true, decide_false, Bool.or_true, Bool.true_or, Bool.or_false, Bool.false_or, cond_true, cond_false, not_true_eq_false, not_false_eq_true, and_self, and_true, true_and, and_false, false_and, nI_clamp, ↓inbc, inb_n, nI_pos, nI_1, b7_32_37, b7_32_48, b7_32_61, b7_32_67, b7_32_72, hn, h40, rR45, eq_0, b0]
              rw [b0] at xt; exact xt
            · have := hl.2 b0
              subst this
              simp (disch := omega) only [bnd, bnd0, ↓cdec, ↓cnot, ↓reduceIte, Bo_0, Bo_1, ↓Bo_ok, i10, i01, eq_self, decide_true, decide_false, Bool.or_true, Bool.true_or, Bool.or_false, Bool.false_or, cond_true, cond_false, not_true_eq_false, not_false_eq_true, and_self, and_true, true_and, and_false, false_and, nI_clamp, ↓inbc, inb_n, nI_pos, nI_1, b7_32_37, b7_32_48, b7_32_61, b7_32_67, b7_32_76, hn, h40, rR45, eq_0, b0]
              exact xt
          · by_cases b0 : b = 0
            · have := hl.1 b0
              subst this
              rw [nI_0] at mt ⊢
              simp (disch := omega) only [bnd, bnd0, ↓cdec, ↓cnot, ↓reduceIte, Bo_0, Bo_1, ↓Bo_ok, i10, i01, eq_self, decide_true, decide_false, Bool.or_true, Bool.true_or, Bool.or_false, Bool.false_or, cond_true, cond_false, not_true_eq_false, not_false_eq_true, and_self, and_true, true_and, and_false, false_and, nI_clamp, ↓inbc, inb_n, nI_pos, nI_1, b8_70_36, b8_70_47, b8_70_60, b8_70_76, hn, h40, eq_0, b0]
              rw [b0] at mt; exact mt
            · have := hl.2 b0
              subst this
              simp (disch := omega) only [bnd, bnd0, ↓cdec, ↓cnot, ↓reduceIte, Bo_0, Bo_1, ↓Bo_ok, i10, i01, eq_self, decide_true, decide_false, Bool.or_true, Bool.true_or, Bool.or_false, Bool.false_or, cond_true, cond_false, not_true_eq_false, not_false_eq_true, and_self, and_true, true_and, and_false, false_and, nI_clamp, ↓inbc, inb_n, nI_pos, nI_1, b8_70_36, b8_70_47, b8_70_60, b8_70_80, hn, h40, eq_0, b0]
              exact mt
          · intro s' hs'
            by_cases e : s' = s
            · subst e
              refine ⟨b, L, hb, l40, ?_, ?_, ?_, ?_, fun i hi => ?_⟩
              · rw [q2 _ _ _ (by omega), uI_ne (by omega), uI_ne (by omega), ← hJ1, uA_ne (by omega), uI_ne (by omega), uI_at (by omega)]
              · rw [q2 _ _ _ (by omega), uI_ne (by omega), uI_at (by omega)]
              · rw [q2 _ _ _ (by omega), uI_ne (by omega), uI_ne (by omega), ← hJ1, uA_ne (by omega), uI_at (by omega)]
              · rw [q2 _ _ _ (by omega), uI_at (by omega)]
              · rw [q1 i hi, q2 _ _ _ (by omega), uI_ne (by omega), uI_ne (by omega), ← hJ1, uA_at (by omega), fil, if_pos hi]
            · obtain ⟨b', n', z0, z1, z2, z3, z4, z5, z6⟩ := hI.2.2.1 s' hs'
              refine ⟨b', n', z0, z1, ?_, ?_, ?_, ?_, fun i hi => ?_⟩
              · rw [q2 _ _ _ (by omega), uI_ne (by omega), uI_ne (by omega), j1fr _ _ _ (by omega)]; exact z2
              · rw [q2 _ _ _ (by omega), uI_ne (by omega), uI_ne (by omega), j1fr _ _ _ (by omega)]; exact z3
              · rw [q2 _ _ _ (by omega), uI_ne (by omega), uI_ne (by omega), j1fr _ _ _ (by omega)]; exact z4
              · rw [q2 _ _ _ (by omega), uI_ne (by omega), uI_ne (by omega), j1fr _ _ _ (by omega)]; exact z5
              · rw [q2 0 (49 + 2 * s') i (by omega), uI_ne (by omega), uI_ne (by omega), j1fr _ _ _ (by omega), q2 0 69 (40 * s' + i) (by omega), uI_ne (by omega), uI_ne (by omega), j1fr _ _ _ (by omega)]; exact z6 i hi
          · intro g j i _ h
            rw [q2 _ _ _ (by omega), uI_ne (by omega), uI_ne (by omega), j1fr _ _ _ (by omega)]
    · have e0 : ¬ a2 = 0 := fun q => h2 ⟨0, by omega, q⟩
      have e8 : ¬ a2 = 8 := fun q => h2 ⟨8, by omega, q⟩
      have e16 : ¬ a2 = 16 := fun q => h2 ⟨16, by omega, q⟩
      have e32 : ¬ a2 = 32 := fun q => h2 ⟨32, by omega, q⟩
      refine ⟨-1000001, uI I 0 47 0 (I 0 47 0 + 1), _, t1, t2, k, ?_, ?_, hI.find (f := 0) (by omega), by omega⟩
      · simp (disch := omega) only [bnd, bnd0, ↓cdec, ↓cnot, ↓reduceIte, Bo_0, Bo_1, ↓Bo_ok, i10, i01, eq_self, decide_true, decide_false, Bool.or_true, Bool.true_or, Bool.or_false, Bool.false_or, cond_true, cond_false, not_true_eq_false, not_false_eq_true, and_self, and_true, true_and, and_false, false_and, nI_clamp, ↓inbc, inb_n, nI_pos, nI_1, b7_32_0, b7_32_5, b7_32_8, b7_32_12, b7_32_18, b7_32_24, b7_32_30, b7_32_36, x_isSheet, h1, e0, e8, e16, e32, x_f0]
      · simp (disch := omega) only [bnd, bnd0, ↓cdec, ↓cnot, ↓reduceIte, Bo_0, Bo_1, ↓Bo_ok, i10, i01, eq_self, decide_true, decide_false, Bool.or_true, Bool.true_or, Bool.or_false, Bool.false_or, cond_true, cond_false, not_true_eq_false, not_false_eq_true, and_self, and_true, true_and, and_false, false_and, nI_clamp, ↓inbc, inb_n, nI_pos, nI_1, b8_70_0, b8_70_4, b8_70_7, b8_70_11, b8_70_17, b8_70_23, b8_70_29, b8_70_35, m_isOne, h1, e0, e8, e16, e32, m_f0]
  · refine ⟨-1000001, uI I 0 47 0 (I 0 47 0 + 1), _, t1, t2, k, ?_, ?_, hI.find (f := 0) (by omega), by omega⟩
    · simp (disch := omega) only [bnd, bnd0, ↓cdec, ↓cnot, ↓reduceIte, Bo_0, Bo_1, ↓Bo_ok, i10, i01, eq_self, decide_true, decide_false, Bool.or_true, Bool.true_or, Bool.or_false, Bool.false_or, cond_true, cond_false, not_true_eq_false, not_false_eq_true, and_self, and_true, true_and, and_false, false_and, nI_clamp, ↓inbc, inb_n, nI_pos, nI_1, b7_32_0, b7_32_5, b7_32_30, b7_32_36, x_isSheet, h1, x_f0]
    · simp (disch := omega) only [bnd, bnd0, ↓cdec, ↓cnot, ↓reduceIte, Bo_0, Bo_1, ↓Bo_ok, i10, i01, eq_self, decide_true, decide_false, Bool.or_true, Bool.true_or, Bool.or_false, Bool.false_or, cond_true, cond_false, not_true_eq_false, not_false_eq_true, and_self, and_true, true_and, and_false, false_and, nI_clamp, ↓inbc, inb_n, nI_pos, nI_1, b8_70_0, b8_70_4, b8_70_29, b8_70_35, m_isOne, h1, m_f0]
/-- write -/
theorem ok_32 : op_32 Inv := by
  intro a1 a2 a3 I t1 t2 k sc hI
  by_cases h1 : 0 ≤ a1.toInt ∧ a1.toInt ≤ 3
  · obtain ⟨s, hs, rfl⟩ := nat_of (x := a1) (m := 4) h1.1 (by omega) (by omega)
    obtain ⟨b, n, hb, hn, x1, m1, x2, m2, hrow⟩ := hI.2.2.1 s hs
    by_cases hb0 : b = 0
    · have x0 : I 0 (48 + 2 * s) 1 = 0 := by rw [x1, hb0, nI_0]
      have m0 : I 0 67 s = 0 := by rw [m1, hb0, nI_0]
      refine ⟨-1000006, uI I 0 47 5 (I 0 47 5 + 1), _, t1, t2, k, ?_, ?_, hI.find (f := 5) (by omega), by omega⟩
      · simp (disch := omega) only [bnd, bnd0, ↓cdec, ↓cnot, ↓reduceIte, Bo_0, Bo_1, ↓Bo_ok, i10, i01, eq_self, decide_true, decide_false, Bool.or_true, Bool.true_or, Bool.or_false, Bool.false_or, cond_true, cond_false, not_true_eq_false, not_false_eq_true, and_self, and_true, true_and, and_false, false_and, nI_clamp, ↓inbc, inb_n, nI_pos, nI_1, b7_33_0, b7_33_5, b7_33_15, b7_33_21, b7_33_28, b7_33_31, b7_33_37, x_isSheet, h1, rR45, x_isMissing, x0, x_f5]
      · simp (disch := omega) only [bnd, bnd0, ↓cdec, ↓cnot, ↓reduceIte, Bo_0, Bo_1, ↓Bo_ok, i10, i01, eq_self, decide_true, decide_false, Bool.or_true, Bool.true_or, Bool.or_false, Bool.false_or, cond_true, cond_false, not_true_eq_false, not_false_eq_true, and_self, and_true, true_and, and_false, false_and, nI_clamp, ↓inbc, inb_n, nI_pos, nI_1, b8_73_0, b8_73_5, b8_73_12, b8_73_18, b8_72_0, b8_72_4, b8_72_7, b8_72_12, b8_72_21, b8_72_26, b8_72_27, m_isOne, h1, uI_ne, m0, im6, m_f5]
    · by_cases h2 : 0 ≤ a2.toInt ∧ a2.toInt ≤ (n : Int) - 1
      · obtain ⟨i, hi, rfl⟩ := nat_of (x := a2) (m := n) h2.1 (by omega) (by omega)
        refine ⟨1, uI I 0 (48 + 2 * s + 1) i (nar b a3), uI (uI I 0 (48 + 2 * s + 1) i (nar b a3)) 0 69 (40 * s + i) (nar b a3), t1, t2, k, ?_, ?_, hI.sheets ?_ ?_, by omega⟩
        · have hin : nI i < nI n := nI_lt hi (by omega)
          have h40 : i < 40 := by omega
          simp (disch := omega) only [bnd, bnd0, ↓cdec, ↓cnot, ↓reduceIte, Bo_0, Bo_1, ↓Bo_ok, i10, i01, eq_self, decide_true, decide_false, Bool.or_true, Bool.true_or, Bool.or_false, Bool.false_or, cond_true, cond_false, not_true_eq_false, not_false_eq_true, and_self, and_true, true_and, and_false, false_and, nI_clamp, ↓inbc, inb_n, nI_pos, nI_1, b7_33_0, b7_33_5, b7_33_15, b7_33_21, b7_33_28, b7_33_38, b7_33_50, b7_33_60, b7_33_67, x_isSheet, h1, rR45, x_isMissing, x1, x2, eq_0, hb0, x_within, k32_0, nI_m1, h2, b1_3_0, b1_3_4, b1_3_12, b1_3_21, b1_3_31, b1_3_32, hin, lt_40, h40, x_cut 8 I t1 t2 k sc (show 48 + 2 * s = 48 ∨ 48 + 2 * s = 50 ∨ 48 + 2 * s = 52 ∨ 48 + 2 * s = 54 by omega) (show b ≤ 32 by omega) x1]
        · simp (disch := omega) only [bnd, bnd0, ↓cdec, ↓cnot, ↓reduceIte, Bo_0, Bo_1, ↓Bo_ok, i10, i01, eq_self, decide_true, decide_false, Bool.or_true, Bool.true_or, Bool.or_false, Bool.false_or, cond_true, cond_false, not_true_eq_false, not_false_eq_true, and_self, and_true, true_and, and_false, false_and, nI_clamp, ↓inbc, inb_n, nI_pos, nI_1, b8_73_0, b8_73_5, b8_73_19, b8_73_34, b8_73_44, b8_73_64, b8_72_0, b8_72_4, b8_72_7, b8_72_12, b8_72_21, b8_72_26, b8_72_27, m_isOne, h1, uI_ne, m1, m2, eq_0, hb0, m_in32, k64_0, Int32.toInt_toInt64, nI_m1, h2, m_narrowed, mul40, nI_add]
        · intro s' hs'
          obtain ⟨b', n', z0, z1, z2, z3, z4, z5, z6⟩ := hI.2.2.1 s' hs'
          refine ⟨b', n', z0, z1, ?_, ?_, ?_, ?_, fun j hj => ?_⟩
          · rw [uI_ne (by omega), uI_ne (by omega)]; exact z2
          · rw [uI_ne (by omega), uI_ne (by omega)]; exact z3
          · rw [uI_ne (by omega), uI_ne (by omega)]; exact z4
          · rw [uI_ne (by omega), uI_ne (by omega)]; exact z5
          · by_cases e : s' = s ∧ j = i
            · obtain ⟨rfl, rfl⟩ := e
              rw [uI_ne (by omega), uI_at (by omega), uI_at (by omega)]
            · rw [uI_ne (by omega), uI_ne (by omega), uI_ne (by omega), uI_ne (by omega)]; exact z6 j hj
        · intro g j i' _ h
          rw [uI_ne (by omega), uI_ne (by omega)]
      · refine ⟨-1000001, uI I 0 47 0 (I 0 47 0 + 1), _, t1, t2, k, ?_, ?_, hI.find (f := 0) (by omega), by omega⟩
        · simp (disch := omega) only [bnd, bnd0, ↓cdec, ↓cnot, ↓reduceIte, Bo_0, Bo_1, ↓Bo_ok, i10, i01, eq_self, decide_true, decide_false, Bool.or_true, Bool.true_or, Bool.or_false, Bool.false_or, cond_true, cond_false, not_true_eq_false, not_false_eq_true, and_self, and_true, true_and, and_false, false_and, nI_clamp, ↓inbc, inb_n, nI_pos, nI_1, b7_33_0, b7_33_5, b7_33_15, b7_33_21, b7_33_28, b7_33_38, b7_33_50, b7_33_53, b7_33_59, x_isSheet, h1, rR45, x_isMissing, x1, x2, eq_0, hb0, x_within, k32_0, nI_m1, h2, x_f0]
        · simp (disch := omega) only [bnd, bnd0, ↓cdec, ↓cnot, ↓reduceIte, Bo_0, Bo_1, ↓Bo_ok, i10, i01, eq_self, decide_true, decide_false, Bool.or_true, Bool.true_or, Bool.or_false, Bool.false_or, cond_true, cond_false, not_true_eq_false, not_false_eq_true, and_self, and_true, true_and, and_false, false_and, nI_clamp, ↓inbc, inb_n, nI_pos, nI_1, b8_73_0, b8_73_5, b8_73_19, b8_73_34, b8_73_37, b8_73_43, b8_72_0, b8_72_4, b8_72_7, b8_72_12, b8_72_21, b8_72_26, b8_72_27, m_isOne, h1, uI_ne, m1, m2, eq_0, hb0, m_in32, k64_0, Int32.toInt_toInt64, nI_m1, h2, m_f0]
  · refine ⟨-1000001, uI I 0 47 0 (I 0 47 0 + 1), _, t1, t2, k, ?_, ?_, hI.find (f := 0) (by omega), by omega⟩
    · simp (disch := omega) only [bnd, bnd0, ↓cdec, ↓cnot, ↓reduceIte, Bo_0, Bo_1, ↓Bo_ok, i10, i01, eq_self, decide_true, decide_false, Bool.or_true, Bool.true_or, Bool.or_false, Bool.false_or, cond_true, cond_false, not_true_eq_false, not_false_eq_true, and_self, and_true, true_and, and_false, false_and, nI_clamp, ↓inbc, inb_n, nI_pos, nI_1, b7_33_0, b7_33_5, b7_33_8, b7_33_14, x_isSheet, h1, x_f0]
    · simp (disch := omega) only [bnd, bnd0, ↓cdec, ↓cnot, ↓reduceIte, Bo_0, Bo_1, ↓Bo_ok, i10, i01, eq_self, decide_true, decide_false, Bool.or_true, Bool.true_or, Bool.or_false, Bool.false_or, cond_true, cond_false, not_true_eq_false, not_false_eq_true, and_self, and_true, true_and, and_false, false_and, nI_clamp, ↓inbc, inb_n, nI_pos, nI_1, b8_73_0, b8_73_5, b8_73_12, b8_73_18, b8_72_0, b8_72_4, b8_72_7, b8_72_12, b8_72_21, b8_72_26, b8_72_27, m_isOne, h1, im1, m_f0]
