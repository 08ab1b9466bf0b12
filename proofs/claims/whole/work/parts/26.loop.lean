/-- one call on both sides: they answer alike, and the relation stays -/
def OPR (Inv : INV) (fx fm : AH → AX) : Prop := ∀ (I : IFn) (t1 t2 : TFn) (k : Nat) (sc : Nat × (Nat → Int32)), Inv I t1 t2 k → ∃ (r : Int32) (I1 I2 : IFn) (u1 u2 : TFn) (k' : Nat), den (fx (mkH I t1 t2 k sc)) = some (some (vi r), mkH I1 u1 u2 k' sc) ∧ den (fm (mkH I1 u1 u2 k' sc)) = some (some (vi r), mkH I2 u1 u2 k' sc) ∧ Inv I2 u1 u2 k' ∧ k' ≤ k + 1
theorem nI_lit (n : Nat) : nI n = Int32.ofNat n := rfl
theorem inbS {i j L : Nat} (h : i + j < L) (hL : L ≤ 3072) : inb (nI i + Int32.ofNat j) L = true := by
  have e1 : nI i + Int32.ofNat j = nI (i + j) := nI_add i j
  have e2 := nI_clamp (n := i + j) (by omega)
  have e3 := nI_pos (n := i + j) (by omega)
  rw [e1, inb, e2]
  simp only [e3, decide_false, Bool.false_or, Bool.not_eq_true', decide_eq_false_iff_not]
  omega
theorem inbZ {i L : Nat} (h : i < L) (hL : L ≤ 3072) : inb (nI i) L = true := by
  have e2 := nI_clamp (n := i) (by omega)
  have e3 := nI_pos (n := i) (by omega)
  rw [inb, e2]
  simp only [e3, decide_false, Bool.false_or, Bool.not_eq_true', decide_eq_false_iff_not]
  omega
theorem lt_six {L i : Nat} (hL : L ≤ 3072) (hi : i ≤ 3100) : (Int32.ofNat L - 6 < nI i) ↔ L < i + 6 := by
  rcases Nat.lt_or_ge L 6 with h | h
  · have h0 : (Int32.ofNat L - 6).toInt < 0 := by
      rcases (show L = 0 ∨ L = 1 ∨ L = 2 ∨ L = 3 ∨ L = 4 ∨ L = 5 by omega) with rfl | rfl | rfl | rfl | rfl | rfl <;> decide
    rw [Int32.lt_iff_toInt_lt, nI_toInt (by omega)]
    constructor
    · intro _; omega
    · intro _; omega
  · have e1 : Int32.ofNat L - 6 = nI (L - 6) := by
      have : Int32.ofNat L = nI (L - 6) + 6 := by
        show nI L = nI (L - 6) + nI 6
        rw [nI_add, Nat.sub_add_cancel h]
      rw [this, Int32.add_sub_cancel]
    rw [e1, nI_ltI (by omega) (by omega)]
    omega
/-- feed -/
def op_0 (Inv : INV) : Prop := ∀ a1 a2 : Int32, OPR Inv (fun h => (10, 7, 1, 0, [some (vr 0 0), some (vi a1), some (vi a2), none], [], h)) (fun h => (10, 8, 11, 0, [some (vr 0 56), some (vi a1), some (vi a2), none], [], h))
theorem ca_0 {Inv : INV} (hop : op_0 Inv) {I : IFn} {t1 t2 : TFn} {k i : Nat} {sc : Nat × (Nat → Int32)} (hI : Inv I t1 t2 k) (hi : i + 6 ≤ sc.1) (hL : sc.1 ≤ 3072) : ∃ (J : IFn) (u1 u2 : TFn) (k' : Nat), Inv J u1 u2 k' ∧ k' ≤ k + 1 ∧ den (11, 9, 0, 212, [some (vr 0 1003), some (vr 0 0), some (vr 0 56), some (vi (nI i))], [], mkH I t1 t2 k sc) = den (11, 9, 0, 1405, [some (vr 0 1003), some (vr 0 0), some (vr 0 56), some (vi (nI i))], [], mkH J u1 u2 k' sc) := by
  obtain ⟨r, I1, I2, u1, u2, k', h1, h2, h3, h4⟩ := hop (sc.2 (nI i + 1).toNatClampNeg) (sc.2 (nI i + 2).toNatClampNeg) I t1 t2 k sc hI
  refine ⟨I2, u1, u2, k', h3, h4, ?_⟩
  have hb1 : inb (nI i + 1) sc.1 = true := inbS (j := 1) (by omega) hL
  have hb2 : inb (nI i + 2) sc.1 = true := inbS (j := 2) (by omega) hL
  rw [b9_0_212 10, hb1, cond_true, hb2, cond_true]
  refine (congrArg (fun z => Option.bind z _) h1).trans ?_
  refine (b9_0_226 10 (nI i) r I1 u1 u2 k' sc).trans ?_
  rw [hb1, cond_true, hb2, cond_true]
  refine (congrArg (fun z => Option.bind z _) h2).trans ?_
  refine (b9_0_240 10 (nI i) r r I2 u1 u2 k' sc).trans ?_
  rw [decide_eq_true rfl, cond_true]
/-- wipe -/
def op_1 (Inv : INV) : Prop := OPR Inv (fun h => (10, 7, 2, 0, [some (vr 0 0), none], [], h)) (fun h => (10, 8, 12, 0, [some (vr 0 56), none], [], h))
theorem ca_1 {Inv : INV} (hop : op_1 Inv) {I : IFn} {t1 t2 : TFn} {k i : Nat} {sc : Nat × (Nat → Int32)} (hI : Inv I t1 t2 k) (hi : i + 6 ≤ sc.1) (hL : sc.1 ≤ 3072) : ∃ (J : IFn) (u1 u2 : TFn) (k' : Nat), Inv J u1 u2 k' ∧ k' ≤ k + 1 ∧ den (11, 9, 0, 245, [some (vr 0 1003), some (vr 0 0), some (vr 0 56), some (vi (nI i))], [], mkH I t1 t2 k sc) = den (11, 9, 0, 1405, [some (vr 0 1003), some (vr 0 0), some (vr 0 56), some (vi (nI i))], [], mkH J u1 u2 k' sc) := by
  obtain ⟨r, I1, I2, u1, u2, k', h1, h2, h3, h4⟩ := hop  I t1 t2 k sc hI
  refine ⟨I2, u1, u2, k', h3, h4, ?_⟩
  skip
  rw [b9_0_245 10]
  refine (congrArg (fun z => Option.bind z _) h1).trans ?_
  refine (b9_0_249 10 (nI i) r I1 u1 u2 k' sc).trans ?_
  refine (congrArg (fun z => Option.bind z _) h2).trans ?_
  refine (b9_0_253 10 (nI i) r r I2 u1 u2 k' sc).trans ?_
  rw [decide_eq_true rfl, cond_true]
/-- sum -/
def op_2 (Inv : INV) : Prop := ∀ a1 a2 : Int32, OPR Inv (fun h => (10, 7, 3, 0, [some (vr 0 0), some (vi a1), some (vi a2), none, none], [], h)) (fun h => (10, 8, 20, 0, [some (vr 0 56), some (vi a1), some (vi a2), none, none, none, none], [], h))
theorem ca_2 {Inv : INV} (hop : op_2 Inv) {I : IFn} {t1 t2 : TFn} {k i : Nat} {sc : Nat × (Nat → Int32)} (hI : Inv I t1 t2 k) (hi : i + 6 ≤ sc.1) (hL : sc.1 ≤ 3072) : ∃ (J : IFn) (u1 u2 : TFn) (k' : Nat), Inv J u1 u2 k' ∧ k' ≤ k + 1 ∧ den (11, 9, 0, 258, [some (vr 0 1003), some (vr 0 0), some (vr 0 56), some (vi (nI i))], [], mkH I t1 t2 k sc) = den (11, 9, 0, 1405, [some (vr 0 1003), some (vr 0 0), some (vr 0 56), some (vi (nI i))], [], mkH J u1 u2 k' sc) := by
  obtain ⟨r, I1, I2, u1, u2, k', h1, h2, h3, h4⟩ := hop (sc.2 (nI i + 1).toNatClampNeg) (sc.2 (nI i + 2).toNatClampNeg) I t1 t2 k sc hI
  refine ⟨I2, u1, u2, k', h3, h4, ?_⟩
  have hb1 : inb (nI i + 1) sc.1 = true := inbS (j := 1) (by omega) hL
  have hb2 : inb (nI i + 2) sc.1 = true := inbS (j := 2) (by omega) hL
  rw [b9_0_258 10, hb1, cond_true, hb2, cond_true]
  refine (congrArg (fun z => Option.bind z _) h1).trans ?_
  refine (b9_0_272 10 (nI i) r I1 u1 u2 k' sc).trans ?_
  rw [hb1, cond_true, hb2, cond_true]
  refine (congrArg (fun z => Option.bind z _) h2).trans ?_
  refine (b9_0_286 10 (nI i) r r I2 u1 u2 k' sc).trans ?_
  rw [decide_eq_true rfl, cond_true]
/-- sumOf -/
def op_3 (Inv : INV) : Prop := ∀ a1 a2 : Int32, OPR Inv (fun h => (10, 7, 4, 0, [some (vr 0 0), some (vi a1), some (vi a2)], [], h)) (fun h => (10, 8, 26, 0, [some (vr 0 56), some (vi a1), some (vi a2)], [], h))
theorem ca_3 {Inv : INV} (hop : op_3 Inv) {I : IFn} {t1 t2 : TFn} {k i : Nat} {sc : Nat × (Nat → Int32)} (hI : Inv I t1 t2 k) (hi : i + 6 ≤ sc.1) (hL : sc.1 ≤ 3072) : ∃ (J : IFn) (u1 u2 : TFn) (k' : Nat), Inv J u1 u2 k' ∧ k' ≤ k + 1 ∧ den (11, 9, 0, 291, [some (vr 0 1003), some (vr 0 0), some (vr 0 56), some (vi (nI i))], [], mkH I t1 t2 k sc) = den (11, 9, 0, 1405, [some (vr 0 1003), some (vr 0 0), some (vr 0 56), some (vi (nI i))], [], mkH J u1 u2 k' sc) := by
  obtain ⟨r, I1, I2, u1, u2, k', h1, h2, h3, h4⟩ := hop (sc.2 (nI i + 1).toNatClampNeg) (sc.2 (nI i + 2).toNatClampNeg) I t1 t2 k sc hI
  refine ⟨I2, u1, u2, k', h3, h4, ?_⟩
  have hb1 : inb (nI i + 1) sc.1 = true := inbS (j := 1) (by omega) hL
  have hb2 : inb (nI i + 2) sc.1 = true := inbS (j := 2) (by omega) hL
  rw [b9_0_291 10, hb1, cond_true, hb2, cond_true]
  refine (congrArg (fun z => Option.bind z _) h1).trans ?_
  refine (b9_0_305 10 (nI i) r I1 u1 u2 k' sc).trans ?_
  rw [hb1, cond_true, hb2, cond_true]
  refine (congrArg (fun z => Option.bind z _) h2).trans ?_
  refine (b9_0_319 10 (nI i) r r I2 u1 u2 k' sc).trans ?_
  rw [decide_eq_true rfl, cond_true]
/-- change -/
def op_4 (Inv : INV) : Prop := ∀ a1 a2 a3 : Int32, OPR Inv (fun h => (10, 7, 5, 0, [some (vr 0 0), some (vi a1), some (vi a2), some (vi a3)], [], h)) (fun h => (10, 8, 27, 0, [some (vr 0 56), some (vi a1), some (vi a2), some (vi a3), none], [], h))
theorem ca_4 {Inv : INV} (hop : op_4 Inv) {I : IFn} {t1 t2 : TFn} {k i : Nat} {sc : Nat × (Nat → Int32)} (hI : Inv I t1 t2 k) (hi : i + 6 ≤ sc.1) (hL : sc.1 ≤ 3072) : ∃ (J : IFn) (u1 u2 : TFn) (k' : Nat), Inv J u1 u2 k' ∧ k' ≤ k + 1 ∧ den (11, 9, 0, 324, [some (vr 0 1003), some (vr 0 0), some (vr 0 56), some (vi (nI i))], [], mkH I t1 t2 k sc) = den (11, 9, 0, 1405, [some (vr 0 1003), some (vr 0 0), some (vr 0 56), some (vi (nI i))], [], mkH J u1 u2 k' sc) := by
  obtain ⟨r, I1, I2, u1, u2, k', h1, h2, h3, h4⟩ := hop (sc.2 (nI i + 1).toNatClampNeg) (sc.2 (nI i + 2).toNatClampNeg) (sc.2 (nI i + 3).toNatClampNeg) I t1 t2 k sc hI
  refine ⟨I2, u1, u2, k', h3, h4, ?_⟩
  have hb1 : inb (nI i + 1) sc.1 = true := inbS (j := 1) (by omega) hL
  have hb2 : inb (nI i + 2) sc.1 = true := inbS (j := 2) (by omega) hL
  have hb3 : inb (nI i + 3) sc.1 = true := inbS (j := 3) (by omega) hL
  rw [b9_0_324 10, hb1, cond_true, hb2, cond_true, hb3, cond_true]
  refine (congrArg (fun z => Option.bind z _) h1).trans ?_
  refine (b9_0_343 10 (nI i) r I1 u1 u2 k' sc).trans ?_
  rw [hb1, cond_true, hb2, cond_true, hb3, cond_true]
  refine (congrArg (fun z => Option.bind z _) h2).trans ?_
  refine (b9_0_362 10 (nI i) r r I2 u1 u2 k' sc).trans ?_
  rw [decide_eq_true rfl, cond_true]
/-- side -/
def op_5 (Inv : INV) : Prop := ∀ a1 a2 a3 : Int32, OPR Inv (fun h => (10, 7, 6, 0, [some (vr 0 0), some (vi a1), some (vi a2), some (vi a3)], [], h)) (fun h => (10, 8, 28, 0, [some (vr 0 56), some (vi a1), some (vi a2), some (vi a3)], [], h))
theorem ca_5 {Inv : INV} (hop : op_5 Inv) {I : IFn} {t1 t2 : TFn} {k i : Nat} {sc : Nat × (Nat → Int32)} (hI : Inv I t1 t2 k) (hi : i + 6 ≤ sc.1) (hL : sc.1 ≤ 3072) : ∃ (J : IFn) (u1 u2 : TFn) (k' : Nat), Inv J u1 u2 k' ∧ k' ≤ k + 1 ∧ den (11, 9, 0, 367, [some (vr 0 1003), some (vr 0 0), some (vr 0 56), some (vi (nI i))], [], mkH I t1 t2 k sc) = den (11, 9, 0, 1405, [some (vr 0 1003), some (vr 0 0), some (vr 0 56), some (vi (nI i))], [], mkH J u1 u2 k' sc) := by
  obtain ⟨r, I1, I2, u1, u2, k', h1, h2, h3, h4⟩ := hop (sc.2 (nI i + 1).toNatClampNeg) (sc.2 (nI i + 2).toNatClampNeg) (sc.2 (nI i + 3).toNatClampNeg) I t1 t2 k sc hI
  refine ⟨I2, u1, u2, k', h3, h4, ?_⟩
  have hb1 : inb (nI i + 1) sc.1 = true := inbS (j := 1) (by omega) hL
  have hb2 : inb (nI i + 2) sc.1 = true := inbS (j := 2) (by omega) hL
  have hb3 : inb (nI i + 3) sc.1 = true := inbS (j := 3) (by omega) hL
  rw [b9_0_367 10, hb1, cond_true, hb2, cond_true, hb3, cond_true]
  refine (congrArg (fun z => Option.bind z _) h1).trans ?_
  refine (b9_0_386 10 (nI i) r I1 u1 u2 k' sc).trans ?_
  rw [hb1, cond_true, hb2, cond_true, hb3, cond_true]
  refine (congrArg (fun z => Option.bind z _) h2).trans ?_
  refine (b9_0_405 10 (nI i) r r I2 u1 u2 k' sc).trans ?_
  rw [decide_eq_true rfl, cond_true]
/-- solves -/
def op_6 (Inv : INV) : Prop := ∀ a1 a2 : Int32, OPR Inv (fun h => (10, 7, 7, 0, [some (vr 0 0), some (vi a1), some (vi a2)], [], h)) (fun h => (10, 8, 29, 0, [some (vr 0 56), some (vi a1), some (vi a2)], [], h))
theorem ca_6 {Inv : INV} (hop : op_6 Inv) {I : IFn} {t1 t2 : TFn} {k i : Nat} {sc : Nat × (Nat → Int32)} (hI : Inv I t1 t2 k) (hi : i + 6 ≤ sc.1) (hL : sc.1 ≤ 3072) : ∃ (J : IFn) (u1 u2 : TFn) (k' : Nat), Inv J u1 u2 k' ∧ k' ≤ k + 1 ∧ den (11, 9, 0, 410, [some (vr 0 1003), some (vr 0 0), some (vr 0 56), some (vi (nI i))], [], mkH I t1 t2 k sc) = den (11, 9, 0, 1405, [some (vr 0 1003), some (vr 0 0), some (vr 0 56), some (vi (nI i))], [], mkH J u1 u2 k' sc) := by
  obtain ⟨r, I1, I2, u1, u2, k', h1, h2, h3, h4⟩ := hop (sc.2 (nI i + 1).toNatClampNeg) (sc.2 (nI i + 2).toNatClampNeg) I t1 t2 k sc hI
  refine ⟨I2, u1, u2, k', h3, h4, ?_⟩
  have hb1 : inb (nI i + 1) sc.1 = true := inbS (j := 1) (by omega) hL
  have hb2 : inb (nI i + 2) sc.1 = true := inbS (j := 2) (by omega) hL
  rw [b9_0_410 10, hb1, cond_true, hb2, cond_true]
  refine (congrArg (fun z => Option.bind z _) h1).trans ?_
  refine (b9_0_424 10 (nI i) r I1 u1 u2 k' sc).trans ?_
  rw [hb1, cond_true, hb2, cond_true]
  refine (congrArg (fun z => Option.bind z _) h2).trans ?_
  refine (b9_0_438 10 (nI i) r r I2 u1 u2 k' sc).trans ?_
  rw [decide_eq_true rfl, cond_true]
/-- solution -/
def op_7 (Inv : INV) : Prop := ∀ a1 a2 : Int32, OPR Inv (fun h => (10, 7, 8, 0, [some (vr 0 0), some (vi a1), some (vi a2), none, none], [], h)) (fun h => (10, 8, 30, 0, [some (vr 0 56), some (vi a1), some (vi a2), none, none], [], h))
theorem ca_7 {Inv : INV} (hop : op_7 Inv) {I : IFn} {t1 t2 : TFn} {k i : Nat} {sc : Nat × (Nat → Int32)} (hI : Inv I t1 t2 k) (hi : i + 6 ≤ sc.1) (hL : sc.1 ≤ 3072) : ∃ (J : IFn) (u1 u2 : TFn) (k' : Nat), Inv J u1 u2 k' ∧ k' ≤ k + 1 ∧ den (11, 9, 0, 443, [some (vr 0 1003), some (vr 0 0), some (vr 0 56), some (vi (nI i))], [], mkH I t1 t2 k sc) = den (11, 9, 0, 1405, [some (vr 0 1003), some (vr 0 0), some (vr 0 56), some (vi (nI i))], [], mkH J u1 u2 k' sc) := by
  obtain ⟨r, I1, I2, u1, u2, k', h1, h2, h3, h4⟩ := hop (sc.2 (nI i + 1).toNatClampNeg) (sc.2 (nI i + 2).toNatClampNeg) I t1 t2 k sc hI
  refine ⟨I2, u1, u2, k', h3, h4, ?_⟩
  have hb1 : inb (nI i + 1) sc.1 = true := inbS (j := 1) (by omega) hL
  have hb2 : inb (nI i + 2) sc.1 = true := inbS (j := 2) (by omega) hL
  rw [b9_0_443 10, hb1, cond_true, hb2, cond_true]
  refine (congrArg (fun z => Option.bind z _) h1).trans ?_
  refine (b9_0_457 10 (nI i) r I1 u1 u2 k' sc).trans ?_
  rw [hb1, cond_true, hb2, cond_true]
  refine (congrArg (fun z => Option.bind z _) h2).trans ?_
  refine (b9_0_471 10 (nI i) r r I2 u1 u2 k' sc).trans ?_
  rw [decide_eq_true rfl, cond_true]
/-- both -/
def op_8 (Inv : INV) : Prop := ∀ a1 a2 : Int32, OPR Inv (fun h => (10, 7, 9, 0, [some (vr 0 0), some (vi a1), some (vi a2), none, none], [], h)) (fun h => (10, 8, 31, 0, [some (vr 0 56), some (vi a1), some (vi a2), none, none], [], h))
theorem ca_8 {Inv : INV} (hop : op_8 Inv) {I : IFn} {t1 t2 : TFn} {k i : Nat} {sc : Nat × (Nat → Int32)} (hI : Inv I t1 t2 k) (hi : i + 6 ≤ sc.1) (hL : sc.1 ≤ 3072) : ∃ (J : IFn) (u1 u2 : TFn) (k' : Nat), Inv J u1 u2 k' ∧ k' ≤ k + 1 ∧ den (11, 9, 0, 476, [some (vr 0 1003), some (vr 0 0), some (vr 0 56), some (vi (nI i))], [], mkH I t1 t2 k sc) = den (11, 9, 0, 1405, [some (vr 0 1003), some (vr 0 0), some (vr 0 56), some (vi (nI i))], [], mkH J u1 u2 k' sc) := by
  obtain ⟨r, I1, I2, u1, u2, k', h1, h2, h3, h4⟩ := hop (sc.2 (nI i + 1).toNatClampNeg) (sc.2 (nI i + 2).toNatClampNeg) I t1 t2 k sc hI
  refine ⟨I2, u1, u2, k', h3, h4, ?_⟩
  have hb1 : inb (nI i + 1) sc.1 = true := inbS (j := 1) (by omega) hL
  have hb2 : inb (nI i + 2) sc.1 = true := inbS (j := 2) (by omega) hL
  rw [b9_0_476 10, hb1, cond_true, hb2, cond_true]
  refine (congrArg (fun z => Option.bind z _) h1).trans ?_
  refine (b9_0_490 10 (nI i) r I1 u1 u2 k' sc).trans ?_
  rw [hb1, cond_true, hb2, cond_true]
  refine (congrArg (fun z => Option.bind z _) h2).trans ?_
  refine (b9_0_504 10 (nI i) r r I2 u1 u2 k' sc).trans ?_
  rw [decide_eq_true rfl, cond_true]
/-- strict -/
def op_9 (Inv : INV) : Prop := ∀ a1 : Int32, OPR Inv (fun h => (10, 7, 10, 0, [some (vr 0 0), some (vi a1), none, none, none, none], [], h)) (fun h => (10, 8, 32, 0, [some (vr 0 56), some (vi a1), none, none, none, none, none], [], h))
theorem ca_9 {Inv : INV} (hop : op_9 Inv) {I : IFn} {t1 t2 : TFn} {k i : Nat} {sc : Nat × (Nat → Int32)} (hI : Inv I t1 t2 k) (hi : i + 6 ≤ sc.1) (hL : sc.1 ≤ 3072) : ∃ (J : IFn) (u1 u2 : TFn) (k' : Nat), Inv J u1 u2 k' ∧ k' ≤ k + 1 ∧ den (11, 9, 0, 509, [some (vr 0 1003), some (vr 0 0), some (vr 0 56), some (vi (nI i))], [], mkH I t1 t2 k sc) = den (11, 9, 0, 1405, [some (vr 0 1003), some (vr 0 0), some (vr 0 56), some (vi (nI i))], [], mkH J u1 u2 k' sc) := by
  obtain ⟨r, I1, I2, u1, u2, k', h1, h2, h3, h4⟩ := hop (sc.2 (nI i + 1).toNatClampNeg) I t1 t2 k sc hI
  refine ⟨I2, u1, u2, k', h3, h4, ?_⟩
  have hb1 : inb (nI i + 1) sc.1 = true := inbS (j := 1) (by omega) hL
  rw [b9_0_509 10, hb1, cond_true]
  refine (congrArg (fun z => Option.bind z _) h1).trans ?_
  refine (b9_0_518 10 (nI i) r I1 u1 u2 k' sc).trans ?_
  rw [hb1, cond_true]
  refine (congrArg (fun z => Option.bind z _) h2).trans ?_
  refine (b9_0_527 10 (nI i) r r I2 u1 u2 k' sc).trans ?_
  rw [decide_eq_true rfl, cond_true]
/-- prisoner -/
def op_10 (Inv : INV) : Prop := ∀ a1 a2 a3 : Int32, OPR Inv (fun h => (10, 7, 11, 0, [some (vr 0 0), some (vi a1), some (vi a2), some (vi a3)], [], h)) (fun h => (10, 8, 34, 0, [some (vr 0 56), some (vi a1), some (vi a2), some (vi a3), none], [], h))
theorem ca_10 {Inv : INV} (hop : op_10 Inv) {I : IFn} {t1 t2 : TFn} {k i : Nat} {sc : Nat × (Nat → Int32)} (hI : Inv I t1 t2 k) (hi : i + 6 ≤ sc.1) (hL : sc.1 ≤ 3072) : ∃ (J : IFn) (u1 u2 : TFn) (k' : Nat), Inv J u1 u2 k' ∧ k' ≤ k + 1 ∧ den (11, 9, 0, 532, [some (vr 0 1003), some (vr 0 0), some (vr 0 56), some (vi (nI i))], [], mkH I t1 t2 k sc) = den (11, 9, 0, 1405, [some (vr 0 1003), some (vr 0 0), some (vr 0 56), some (vi (nI i))], [], mkH J u1 u2 k' sc) := by
  obtain ⟨r, I1, I2, u1, u2, k', h1, h2, h3, h4⟩ := hop (sc.2 (nI i + 1).toNatClampNeg) (sc.2 (nI i + 2).toNatClampNeg) (sc.2 (nI i + 3).toNatClampNeg) I t1 t2 k sc hI
  refine ⟨I2, u1, u2, k', h3, h4, ?_⟩
  have hb1 : inb (nI i + 1) sc.1 = true := inbS (j := 1) (by omega) hL
  have hb2 : inb (nI i + 2) sc.1 = true := inbS (j := 2) (by omega) hL
  have hb3 : inb (nI i + 3) sc.1 = true := inbS (j := 3) (by omega) hL
  rw [b9_0_532 10, hb1, cond_true, hb2, cond_true, hb3, cond_true]
  refine (congrArg (fun z => Option.bind z _) h1).trans ?_
  refine (b9_0_551 10 (nI i) r I1 u1 u2 k' sc).trans ?_
  rw [hb1, cond_true, hb2, cond_true, hb3, cond_true]
  refine (congrArg (fun z => Option.bind z _) h2).trans ?_
  refine (b9_0_570 10 (nI i) r r I2 u1 u2 k' sc).trans ?_
  rw [decide_eq_true rfl, cond_true]
/-- of -/
def op_11 (Inv : INV) : Prop := ∀ a1 a2 : Int32, OPR Inv (fun h => (10, 7, 12, 0, [some (vr 0 0), some (vi a1), some (vi a2)], [], h)) (fun h => (10, 8, 35, 0, [some (vr 0 56), some (vi a1), some (vi a2)], [], h))
theorem ca_11 {Inv : INV} (hop : op_11 Inv) {I : IFn} {t1 t2 : TFn} {k i : Nat} {sc : Nat × (Nat → Int32)} (hI : Inv I t1 t2 k) (hi : i + 6 ≤ sc.1) (hL : sc.1 ≤ 3072) : ∃ (J : IFn) (u1 u2 : TFn) (k' : Nat), Inv J u1 u2 k' ∧ k' ≤ k + 1 ∧ den (11, 9, 0, 575, [some (vr 0 1003), some (vr 0 0), some (vr 0 56), some (vi (nI i))], [], mkH I t1 t2 k sc) = den (11, 9, 0, 1405, [some (vr 0 1003), some (vr 0 0), some (vr 0 56), some (vi (nI i))], [], mkH J u1 u2 k' sc) := by
  obtain ⟨r, I1, I2, u1, u2, k', h1, h2, h3, h4⟩ := hop (sc.2 (nI i + 1).toNatClampNeg) (sc.2 (nI i + 2).toNatClampNeg) I t1 t2 k sc hI
  refine ⟨I2, u1, u2, k', h3, h4, ?_⟩
  have hb1 : inb (nI i + 1) sc.1 = true := inbS (j := 1) (by omega) hL
  have hb2 : inb (nI i + 2) sc.1 = true := inbS (j := 2) (by omega) hL
  rw [b9_0_575 10, hb1, cond_true, hb2, cond_true]
  refine (congrArg (fun z => Option.bind z _) h1).trans ?_
  refine (b9_0_589 10 (nI i) r I1 u1 u2 k' sc).trans ?_
  rw [hb1, cond_true, hb2, cond_true]
  refine (congrArg (fun z => Option.bind z _) h2).trans ?_
  refine (b9_0_603 10 (nI i) r r I2 u1 u2 k' sc).trans ?_
  rw [decide_eq_true rfl, cond_true]
/-- set -/
def op_12 (Inv : INV) : Prop := ∀ a1 : Int32, OPR Inv (fun h => (10, 7, 13, 0, [some (vr 0 0), some (vi a1), none], [], h)) (fun h => (10, 8, 37, 0, [some (vr 0 56), some (vi a1), none], [], h))
theorem ca_12 {Inv : INV} (hop : op_12 Inv) {I : IFn} {t1 t2 : TFn} {k i : Nat} {sc : Nat × (Nat → Int32)} (hI : Inv I t1 t2 k) (hi : i + 6 ≤ sc.1) (hL : sc.1 ≤ 3072) : ∃ (J : IFn) (u1 u2 : TFn) (k' : Nat), Inv J u1 u2 k' ∧ k' ≤ k + 1 ∧ den (11, 9, 0, 608, [some (vr 0 1003), some (vr 0 0), some (vr 0 56), some (vi (nI i))], [], mkH I t1 t2 k sc) = den (11, 9, 0, 1405, [some (vr 0 1003), some (vr 0 0), some (vr 0 56), some (vi (nI i))], [], mkH J u1 u2 k' sc) := by
  obtain ⟨r, I1, I2, u1, u2, k', h1, h2, h3, h4⟩ := hop (sc.2 (nI i + 1).toNatClampNeg) I t1 t2 k sc hI
  refine ⟨I2, u1, u2, k', h3, h4, ?_⟩
  have hb1 : inb (nI i + 1) sc.1 = true := inbS (j := 1) (by omega) hL
  rw [b9_0_608 10, hb1, cond_true]
  refine (congrArg (fun z => Option.bind z _) h1).trans ?_
  refine (b9_0_617 10 (nI i) r I1 u1 u2 k' sc).trans ?_
  rw [hb1, cond_true]
  refine (congrArg (fun z => Option.bind z _) h2).trans ?_
  refine (b9_0_626 10 (nI i) r r I2 u1 u2 k' sc).trans ?_
  rw [decide_eq_true rfl, cond_true]
/-- rich -/
def op_13 (Inv : INV) : Prop := ∀ a1 : Int32, OPR Inv (fun h => (10, 7, 14, 0, [some (vr 0 0), some (vi a1), none], [], h)) (fun h => (10, 8, 38, 0, [some (vr 0 56), some (vi a1), none], [], h))
theorem ca_13 {Inv : INV} (hop : op_13 Inv) {I : IFn} {t1 t2 : TFn} {k i : Nat} {sc : Nat × (Nat → Int32)} (hI : Inv I t1 t2 k) (hi : i + 6 ≤ sc.1) (hL : sc.1 ≤ 3072) : ∃ (J : IFn) (u1 u2 : TFn) (k' : Nat), Inv J u1 u2 k' ∧ k' ≤ k + 1 ∧ den (11, 9, 0, 631, [some (vr 0 1003), some (vr 0 0), some (vr 0 56), some (vi (nI i))], [], mkH I t1 t2 k sc) = den (11, 9, 0, 1405, [some (vr 0 1003), some (vr 0 0), some (vr 0 56), some (vi (nI i))], [], mkH J u1 u2 k' sc) := by
  obtain ⟨r, I1, I2, u1, u2, k', h1, h2, h3, h4⟩ := hop (sc.2 (nI i + 1).toNatClampNeg) I t1 t2 k sc hI
  refine ⟨I2, u1, u2, k', h3, h4, ?_⟩
  have hb1 : inb (nI i + 1) sc.1 = true := inbS (j := 1) (by omega) hL
  rw [b9_0_631 10, hb1, cond_true]
  refine (congrArg (fun z => Option.bind z _) h1).trans ?_
  refine (b9_0_640 10 (nI i) r I1 u1 u2 k' sc).trans ?_
  rw [hb1, cond_true]
  refine (congrArg (fun z => Option.bind z _) h2).trans ?_
  refine (b9_0_649 10 (nI i) r r I2 u1 u2 k' sc).trans ?_
  rw [decide_eq_true rfl, cond_true]
/-- alms -/
def op_14 (Inv : INV) : Prop := ∀ a1 : Int32, OPR Inv (fun h => (10, 7, 15, 0, [some (vr 0 0), some (vi a1), none], [], h)) (fun h => (10, 8, 40, 0, [some (vr 0 56), some (vi a1), none, none], [], h))
theorem ca_14 {Inv : INV} (hop : op_14 Inv) {I : IFn} {t1 t2 : TFn} {k i : Nat} {sc : Nat × (Nat → Int32)} (hI : Inv I t1 t2 k) (hi : i + 6 ≤ sc.1) (hL : sc.1 ≤ 3072) : ∃ (J : IFn) (u1 u2 : TFn) (k' : Nat), Inv J u1 u2 k' ∧ k' ≤ k + 1 ∧ den (11, 9, 0, 654, [some (vr 0 1003), some (vr 0 0), some (vr 0 56), some (vi (nI i))], [], mkH I t1 t2 k sc) = den (11, 9, 0, 1405, [some (vr 0 1003), some (vr 0 0), some (vr 0 56), some (vi (nI i))], [], mkH J u1 u2 k' sc) := by
  obtain ⟨r, I1, I2, u1, u2, k', h1, h2, h3, h4⟩ := hop (sc.2 (nI i + 1).toNatClampNeg) I t1 t2 k sc hI
  refine ⟨I2, u1, u2, k', h3, h4, ?_⟩
  have hb1 : inb (nI i + 1) sc.1 = true := inbS (j := 1) (by omega) hL
  rw [b9_0_654 10, hb1, cond_true]
  refine (congrArg (fun z => Option.bind z _) h1).trans ?_
  refine (b9_0_663 10 (nI i) r I1 u1 u2 k' sc).trans ?_
  rw [hb1, cond_true]
  refine (congrArg (fun z => Option.bind z _) h2).trans ?_
  refine (b9_0_672 10 (nI i) r r I2 u1 u2 k' sc).trans ?_
  rw [decide_eq_true rfl, cond_true]
/-- school -/
def op_15 (Inv : INV) : Prop := ∀ a1 a2 : Int32, OPR Inv (fun h => (10, 7, 16, 0, [some (vr 0 0), some (vi a1), some (vi a2), none], [], h)) (fun h => (10, 8, 41, 0, [some (vr 0 56), some (vi a1), some (vi a2), none, none], [], h))
theorem ca_15 {Inv : INV} (hop : op_15 Inv) {I : IFn} {t1 t2 : TFn} {k i : Nat} {sc : Nat × (Nat → Int32)} (hI : Inv I t1 t2 k) (hi : i + 6 ≤ sc.1) (hL : sc.1 ≤ 3072) : ∃ (J : IFn) (u1 u2 : TFn) (k' : Nat), Inv J u1 u2 k' ∧ k' ≤ k + 1 ∧ den (11, 9, 0, 677, [some (vr 0 1003), some (vr 0 0), some (vr 0 56), some (vi (nI i))], [], mkH I t1 t2 k sc) = den (11, 9, 0, 1405, [some (vr 0 1003), some (vr 0 0), some (vr 0 56), some (vi (nI i))], [], mkH J u1 u2 k' sc) := by
  obtain ⟨r, I1, I2, u1, u2, k', h1, h2, h3, h4⟩ := hop (sc.2 (nI i + 1).toNatClampNeg) (sc.2 (nI i + 2).toNatClampNeg) I t1 t2 k sc hI
  refine ⟨I2, u1, u2, k', h3, h4, ?_⟩
  have hb1 : inb (nI i + 1) sc.1 = true := inbS (j := 1) (by omega) hL
  have hb2 : inb (nI i + 2) sc.1 = true := inbS (j := 2) (by omega) hL
  rw [b9_0_677 10, hb1, cond_true, hb2, cond_true]
  refine (congrArg (fun z => Option.bind z _) h1).trans ?_
  refine (b9_0_691 10 (nI i) r I1 u1 u2 k' sc).trans ?_
  rw [hb1, cond_true, hb2, cond_true]
  refine (congrArg (fun z => Option.bind z _) h2).trans ?_
  refine (b9_0_705 10 (nI i) r r I2 u1 u2 k' sc).trans ?_
  rw [decide_eq_true rfl, cond_true]
/-- minutes -/
def op_16 (Inv : INV) : Prop := ∀ a1 : Int32, OPR Inv (fun h => (10, 7, 17, 0, [some (vr 0 0), some (vi a1), none], [], h)) (fun h => (10, 8, 49, 0, [some (vr 0 56), some (vi a1), none], [], h))
theorem ca_16 {Inv : INV} (hop : op_16 Inv) {I : IFn} {t1 t2 : TFn} {k i : Nat} {sc : Nat × (Nat → Int32)} (hI : Inv I t1 t2 k) (hi : i + 6 ≤ sc.1) (hL : sc.1 ≤ 3072) : ∃ (J : IFn) (u1 u2 : TFn) (k' : Nat), Inv J u1 u2 k' ∧ k' ≤ k + 1 ∧ den (11, 9, 0, 710, [some (vr 0 1003), some (vr 0 0), some (vr 0 56), some (vi (nI i))], [], mkH I t1 t2 k sc) = den (11, 9, 0, 1405, [some (vr 0 1003), some (vr 0 0), some (vr 0 56), some (vi (nI i))], [], mkH J u1 u2 k' sc) := by
  obtain ⟨r, I1, I2, u1, u2, k', h1, h2, h3, h4⟩ := hop (sc.2 (nI i + 1).toNatClampNeg) I t1 t2 k sc hI
  refine ⟨I2, u1, u2, k', h3, h4, ?_⟩
  have hb1 : inb (nI i + 1) sc.1 = true := inbS (j := 1) (by omega) hL
  rw [b9_0_710 10, hb1, cond_true]
  refine (congrArg (fun z => Option.bind z _) h1).trans ?_
  refine (b9_0_719 10 (nI i) r I1 u1 u2 k' sc).trans ?_
  rw [hb1, cond_true]
  refine (congrArg (fun z => Option.bind z _) h2).trans ?_
  refine (b9_0_728 10 (nI i) r r I2 u1 u2 k' sc).trans ?_
  rw [decide_eq_true rfl, cond_true]
/-- out -/
def op_17 (Inv : INV) : Prop := OPR Inv (fun h => (10, 7, 18, 0, [some (vr 0 0)], [], h)) (fun h => (10, 8, 50, 0, [some (vr 0 56)], [], h))
theorem ca_17 {Inv : INV} (hop : op_17 Inv) {I : IFn} {t1 t2 : TFn} {k i : Nat} {sc : Nat × (Nat → Int32)} (hI : Inv I t1 t2 k) (hi : i + 6 ≤ sc.1) (hL : sc.1 ≤ 3072) : ∃ (J : IFn) (u1 u2 : TFn) (k' : Nat), Inv J u1 u2 k' ∧ k' ≤ k + 1 ∧ den (11, 9, 0, 733, [some (vr 0 1003), some (vr 0 0), some (vr 0 56), some (vi (nI i))], [], mkH I t1 t2 k sc) = den (11, 9, 0, 1405, [some (vr 0 1003), some (vr 0 0), some (vr 0 56), some (vi (nI i))], [], mkH J u1 u2 k' sc) := by
  obtain ⟨r, I1, I2, u1, u2, k', h1, h2, h3, h4⟩ := hop  I t1 t2 k sc hI
  refine ⟨I2, u1, u2, k', h3, h4, ?_⟩
  skip
  rw [b9_0_733 10]
  refine (congrArg (fun z => Option.bind z _) h1).trans ?_
  refine (b9_0_737 10 (nI i) r I1 u1 u2 k' sc).trans ?_
  refine (congrArg (fun z => Option.bind z _) h2).trans ?_
  refine (b9_0_741 10 (nI i) r r I2 u1 u2 k' sc).trans ?_
  rw [decide_eq_true rfl, cond_true]
/-- day -/
def op_18 (Inv : INV) : Prop := OPR Inv (fun h => (10, 7, 19, 0, [some (vr 0 0), none], [], h)) (fun h => (10, 8, 51, 0, [some (vr 0 56), none], [], h))
theorem ca_18 {Inv : INV} (hop : op_18 Inv) {I : IFn} {t1 t2 : TFn} {k i : Nat} {sc : Nat × (Nat → Int32)} (hI : Inv I t1 t2 k) (hi : i + 6 ≤ sc.1) (hL : sc.1 ≤ 3072) : ∃ (J : IFn) (u1 u2 : TFn) (k' : Nat), Inv J u1 u2 k' ∧ k' ≤ k + 1 ∧ den (11, 9, 0, 746, [some (vr 0 1003), some (vr 0 0), some (vr 0 56), some (vi (nI i))], [], mkH I t1 t2 k sc) = den (11, 9, 0, 1405, [some (vr 0 1003), some (vr 0 0), some (vr 0 56), some (vi (nI i))], [], mkH J u1 u2 k' sc) := by
  obtain ⟨r, I1, I2, u1, u2, k', h1, h2, h3, h4⟩ := hop  I t1 t2 k sc hI
  refine ⟨I2, u1, u2, k', h3, h4, ?_⟩
  skip
  rw [b9_0_746 10]
  refine (congrArg (fun z => Option.bind z _) h1).trans ?_
  refine (b9_0_750 10 (nI i) r I1 u1 u2 k' sc).trans ?_
  refine (congrArg (fun z => Option.bind z _) h2).trans ?_
  refine (b9_0_754 10 (nI i) r r I2 u1 u2 k' sc).trans ?_
  rw [decide_eq_true rfl, cond_true]
/-- ahead -/
def op_19 (Inv : INV) : Prop := ∀ a1 a2 : Int32, OPR Inv (fun h => (10, 7, 20, 0, [some (vr 0 0), some (vi a1), some (vi a2)], [], h)) (fun h => (10, 8, 54, 0, [some (vr 0 56), some (vi a1), some (vi a2), none, none], [], h))
theorem ca_19 {Inv : INV} (hop : op_19 Inv) {I : IFn} {t1 t2 : TFn} {k i : Nat} {sc : Nat × (Nat → Int32)} (hI : Inv I t1 t2 k) (hi : i + 6 ≤ sc.1) (hL : sc.1 ≤ 3072) : ∃ (J : IFn) (u1 u2 : TFn) (k' : Nat), Inv J u1 u2 k' ∧ k' ≤ k + 1 ∧ den (11, 9, 0, 759, [some (vr 0 1003), some (vr 0 0), some (vr 0 56), some (vi (nI i))], [], mkH I t1 t2 k sc) = den (11, 9, 0, 1405, [some (vr 0 1003), some (vr 0 0), some (vr 0 56), some (vi (nI i))], [], mkH J u1 u2 k' sc) := by
  obtain ⟨r, I1, I2, u1, u2, k', h1, h2, h3, h4⟩ := hop (sc.2 (nI i + 1).toNatClampNeg) (sc.2 (nI i + 2).toNatClampNeg) I t1 t2 k sc hI
  refine ⟨I2, u1, u2, k', h3, h4, ?_⟩
  have hb1 : inb (nI i + 1) sc.1 = true := inbS (j := 1) (by omega) hL
  have hb2 : inb (nI i + 2) sc.1 = true := inbS (j := 2) (by omega) hL
  rw [b9_0_759 10, hb1, cond_true, hb2, cond_true]
  refine (congrArg (fun z => Option.bind z _) h1).trans ?_
  refine (b9_0_773 10 (nI i) r I1 u1 u2 k' sc).trans ?_
  rw [hb1, cond_true, hb2, cond_true]
  refine (congrArg (fun z => Option.bind z _) h2).trans ?_
  refine (b9_0_787 10 (nI i) r r I2 u1 u2 k' sc).trans ?_
  rw [decide_eq_true rfl, cond_true]
/-- when -/
def op_20 (Inv : INV) : Prop := ∀ a1 : Int32, OPR Inv (fun h => (10, 7, 21, 0, [some (vr 0 0), some (vi a1), none], [], h)) (fun h => (10, 8, 55, 0, [some (vr 0 56), some (vi a1), none, none], [], h))
theorem ca_20 {Inv : INV} (hop : op_20 Inv) {I : IFn} {t1 t2 : TFn} {k i : Nat} {sc : Nat × (Nat → Int32)} (hI : Inv I t1 t2 k) (hi : i + 6 ≤ sc.1) (hL : sc.1 ≤ 3072) : ∃ (J : IFn) (u1 u2 : TFn) (k' : Nat), Inv J u1 u2 k' ∧ k' ≤ k + 1 ∧ den (11, 9, 0, 792, [some (vr 0 1003), some (vr 0 0), some (vr 0 56), some (vi (nI i))], [], mkH I t1 t2 k sc) = den (11, 9, 0, 1405, [some (vr 0 1003), some (vr 0 0), some (vr 0 56), some (vi (nI i))], [], mkH J u1 u2 k' sc) := by
  obtain ⟨r, I1, I2, u1, u2, k', h1, h2, h3, h4⟩ := hop (sc.2 (nI i + 1).toNatClampNeg) I t1 t2 k sc hI
  refine ⟨I2, u1, u2, k', h3, h4, ?_⟩
  have hb1 : inb (nI i + 1) sc.1 = true := inbS (j := 1) (by omega) hL
  rw [b9_0_792 10, hb1, cond_true]
  refine (congrArg (fun z => Option.bind z _) h1).trans ?_
  refine (b9_0_801 10 (nI i) r I1 u1 u2 k' sc).trans ?_
  rw [hb1, cond_true]
  refine (congrArg (fun z => Option.bind z _) h2).trans ?_
  refine (b9_0_810 10 (nI i) r r I2 u1 u2 k' sc).trans ?_
  rw [decide_eq_true rfl, cond_true]
/-- lets -/
def op_21 (Inv : INV) : Prop := ∀ a1 a2 : Int32, OPR Inv (fun h => (10, 7, 22, 0, [some (vr 0 0), some (vi a1), some (vi a2)], [], h)) (fun h => (10, 8, 57, 0, [some (vr 0 56), some (vi a1), some (vi a2)], [], h))
theorem ca_21 {Inv : INV} (hop : op_21 Inv) {I : IFn} {t1 t2 : TFn} {k i : Nat} {sc : Nat × (Nat → Int32)} (hI : Inv I t1 t2 k) (hi : i + 6 ≤ sc.1) (hL : sc.1 ≤ 3072) : ∃ (J : IFn) (u1 u2 : TFn) (k' : Nat), Inv J u1 u2 k' ∧ k' ≤ k + 1 ∧ den (11, 9, 0, 815, [some (vr 0 1003), some (vr 0 0), some (vr 0 56), some (vi (nI i))], [], mkH I t1 t2 k sc) = den (11, 9, 0, 1405, [some (vr 0 1003), some (vr 0 0), some (vr 0 56), some (vi (nI i))], [], mkH J u1 u2 k' sc) := by
  obtain ⟨r, I1, I2, u1, u2, k', h1, h2, h3, h4⟩ := hop (sc.2 (nI i + 1).toNatClampNeg) (sc.2 (nI i + 2).toNatClampNeg) I t1 t2 k sc hI
  refine ⟨I2, u1, u2, k', h3, h4, ?_⟩
  have hb1 : inb (nI i + 1) sc.1 = true := inbS (j := 1) (by omega) hL
  have hb2 : inb (nI i + 2) sc.1 = true := inbS (j := 2) (by omega) hL
  rw [b9_0_815 10, hb1, cond_true, hb2, cond_true]
  refine (congrArg (fun z => Option.bind z _) h1).trans ?_
  refine (b9_0_829 10 (nI i) r I1 u1 u2 k' sc).trans ?_
  rw [hb1, cond_true, hb2, cond_true]
  refine (congrArg (fun z => Option.bind z _) h2).trans ?_
  refine (b9_0_843 10 (nI i) r r I2 u1 u2 k' sc).trans ?_
  rw [decide_eq_true rfl, cond_true]
/-- choose -/
def op_22 (Inv : INV) : Prop := ∀ a1 : Int32, OPR Inv (fun h => (10, 7, 23, 0, [some (vr 0 0), some (vi a1), none, none, none, none], [], h)) (fun h => (10, 8, 60, 0, [some (vr 0 56), some (vi a1), none, none, none, none], [], h))
theorem ca_22 {Inv : INV} (hop : op_22 Inv) {I : IFn} {t1 t2 : TFn} {k i : Nat} {sc : Nat × (Nat → Int32)} (hI : Inv I t1 t2 k) (hi : i + 6 ≤ sc.1) (hL : sc.1 ≤ 3072) : ∃ (J : IFn) (u1 u2 : TFn) (k' : Nat), Inv J u1 u2 k' ∧ k' ≤ k + 1 ∧ den (11, 9, 0, 848, [some (vr 0 1003), some (vr 0 0), some (vr 0 56), some (vi (nI i))], [], mkH I t1 t2 k sc) = den (11, 9, 0, 1405, [some (vr 0 1003), some (vr 0 0), some (vr 0 56), some (vi (nI i))], [], mkH J u1 u2 k' sc) := by
  obtain ⟨r, I1, I2, u1, u2, k', h1, h2, h3, h4⟩ := hop (sc.2 (nI i + 1).toNatClampNeg) I t1 t2 k sc hI
  refine ⟨I2, u1, u2, k', h3, h4, ?_⟩
  have hb1 : inb (nI i + 1) sc.1 = true := inbS (j := 1) (by omega) hL
  rw [b9_0_848 10, hb1, cond_true]
  refine (congrArg (fun z => Option.bind z _) h1).trans ?_
  refine (b9_0_857 10 (nI i) r I1 u1 u2 k' sc).trans ?_
  rw [hb1, cond_true]
  refine (congrArg (fun z => Option.bind z _) h2).trans ?_
  refine (b9_0_866 10 (nI i) r r I2 u1 u2 k' sc).trans ?_
  rw [decide_eq_true rfl, cond_true]
/-- wrongs -/
def op_23 (Inv : INV) : Prop := ∀ a1 a2 : Int32, OPR Inv (fun h => (10, 7, 24, 0, [some (vr 0 0), some (vi a1), some (vi a2)], [], h)) (fun h => (10, 8, 61, 0, [some (vr 0 56), some (vi a1), some (vi a2)], [], h))
theorem ca_23 {Inv : INV} (hop : op_23 Inv) {I : IFn} {t1 t2 : TFn} {k i : Nat} {sc : Nat × (Nat → Int32)} (hI : Inv I t1 t2 k) (hi : i + 6 ≤ sc.1) (hL : sc.1 ≤ 3072) : ∃ (J : IFn) (u1 u2 : TFn) (k' : Nat), Inv J u1 u2 k' ∧ k' ≤ k + 1 ∧ den (11, 9, 0, 871, [some (vr 0 1003), some (vr 0 0), some (vr 0 56), some (vi (nI i))], [], mkH I t1 t2 k sc) = den (11, 9, 0, 1405, [some (vr 0 1003), some (vr 0 0), some (vr 0 56), some (vi (nI i))], [], mkH J u1 u2 k' sc) := by
  obtain ⟨r, I1, I2, u1, u2, k', h1, h2, h3, h4⟩ := hop (sc.2 (nI i + 1).toNatClampNeg) (sc.2 (nI i + 2).toNatClampNeg) I t1 t2 k sc hI
  refine ⟨I2, u1, u2, k', h3, h4, ?_⟩
  have hb1 : inb (nI i + 1) sc.1 = true := inbS (j := 1) (by omega) hL
  have hb2 : inb (nI i + 2) sc.1 = true := inbS (j := 2) (by omega) hL
  rw [b9_0_871 10, hb1, cond_true, hb2, cond_true]
  refine (congrArg (fun z => Option.bind z _) h1).trans ?_
  refine (b9_0_885 10 (nI i) r I1 u1 u2 k' sc).trans ?_
  rw [hb1, cond_true, hb2, cond_true]
  refine (congrArg (fun z => Option.bind z _) h2).trans ?_
  refine (b9_0_899 10 (nI i) r r I2 u1 u2 k' sc).trans ?_
  rw [decide_eq_true rfl, cond_true]
/-- fewest -/
def op_24 (Inv : INV) : Prop := ∀ a1 : Int32, OPR Inv (fun h => (10, 7, 25, 0, [some (vr 0 0), some (vi a1), none, none, none], [], h)) (fun h => (10, 8, 62, 0, [some (vr 0 56), some (vi a1), none, none, none, none, none], [], h))
theorem ca_24 {Inv : INV} (hop : op_24 Inv) {I : IFn} {t1 t2 : TFn} {k i : Nat} {sc : Nat × (Nat → Int32)} (hI : Inv I t1 t2 k) (hi : i + 6 ≤ sc.1) (hL : sc.1 ≤ 3072) : ∃ (J : IFn) (u1 u2 : TFn) (k' : Nat), Inv J u1 u2 k' ∧ k' ≤ k + 1 ∧ den (11, 9, 0, 904, [some (vr 0 1003), some (vr 0 0), some (vr 0 56), some (vi (nI i))], [], mkH I t1 t2 k sc) = den (11, 9, 0, 1405, [some (vr 0 1003), some (vr 0 0), some (vr 0 56), some (vi (nI i))], [], mkH J u1 u2 k' sc) := by
  obtain ⟨r, I1, I2, u1, u2, k', h1, h2, h3, h4⟩ := hop (sc.2 (nI i + 1).toNatClampNeg) I t1 t2 k sc hI
  refine ⟨I2, u1, u2, k', h3, h4, ?_⟩
  have hb1 : inb (nI i + 1) sc.1 = true := inbS (j := 1) (by omega) hL
  rw [b9_0_904 10, hb1, cond_true]
  refine (congrArg (fun z => Option.bind z _) h1).trans ?_
  refine (b9_0_913 10 (nI i) r I1 u1 u2 k' sc).trans ?_
  rw [hb1, cond_true]
  refine (congrArg (fun z => Option.bind z _) h2).trans ?_
  refine (b9_0_922 10 (nI i) r r I2 u1 u2 k' sc).trans ?_
  rw [decide_eq_true rfl, cond_true]
/-- skillFor -/
def op_25 (Inv : INV) : Prop := ∀ a1 a2 a3 : Int32, OPR Inv (fun h => (10, 7, 26, 0, [some (vr 0 0), some (vi a1), some (vi a2), some (vi a3), none], [], h)) (fun h => (10, 8, 63, 0, [some (vr 0 56), some (vi a1), some (vi a2), some (vi a3), none, none, none], [], h))
theorem ca_25 {Inv : INV} (hop : op_25 Inv) {I : IFn} {t1 t2 : TFn} {k i : Nat} {sc : Nat × (Nat → Int32)} (hI : Inv I t1 t2 k) (hi : i + 6 ≤ sc.1) (hL : sc.1 ≤ 3072) : ∃ (J : IFn) (u1 u2 : TFn) (k' : Nat), Inv J u1 u2 k' ∧ k' ≤ k + 1 ∧ den (11, 9, 0, 927, [some (vr 0 1003), some (vr 0 0), some (vr 0 56), some (vi (nI i))], [], mkH I t1 t2 k sc) = den (11, 9, 0, 1405, [some (vr 0 1003), some (vr 0 0), some (vr 0 56), some (vi (nI i))], [], mkH J u1 u2 k' sc) := by
  obtain ⟨r, I1, I2, u1, u2, k', h1, h2, h3, h4⟩ := hop (sc.2 (nI i + 1).toNatClampNeg) (sc.2 (nI i + 2).toNatClampNeg) (sc.2 (nI i + 3).toNatClampNeg) I t1 t2 k sc hI
  refine ⟨I2, u1, u2, k', h3, h4, ?_⟩
  have hb1 : inb (nI i + 1) sc.1 = true := inbS (j := 1) (by omega) hL
  have hb2 : inb (nI i + 2) sc.1 = true := inbS (j := 2) (by omega) hL
  have hb3 : inb (nI i + 3) sc.1 = true := inbS (j := 3) (by omega) hL
  rw [b9_0_927 10, hb1, cond_true, hb2, cond_true, hb3, cond_true]
  refine (congrArg (fun z => Option.bind z _) h1).trans ?_
  refine (b9_0_946 10 (nI i) r I1 u1 u2 k' sc).trans ?_
  rw [hb1, cond_true, hb2, cond_true, hb3, cond_true]
  refine (congrArg (fun z => Option.bind z _) h2).trans ?_
  refine (b9_0_965 10 (nI i) r r I2 u1 u2 k' sc).trans ?_
  rw [decide_eq_true rfl, cond_true]
/-- richFor -/
def op_26 (Inv : INV) : Prop := ∀ a1 : Int32, OPR Inv (fun h => (10, 7, 27, 0, [some (vr 0 0), some (vi a1), none, none], [], h)) (fun h => (10, 8, 64, 0, [some (vr 0 56), some (vi a1), none, none, none], [], h))
theorem ca_26 {Inv : INV} (hop : op_26 Inv) {I : IFn} {t1 t2 : TFn} {k i : Nat} {sc : Nat × (Nat → Int32)} (hI : Inv I t1 t2 k) (hi : i + 6 ≤ sc.1) (hL : sc.1 ≤ 3072) : ∃ (J : IFn) (u1 u2 : TFn) (k' : Nat), Inv J u1 u2 k' ∧ k' ≤ k + 1 ∧ den (11, 9, 0, 970, [some (vr 0 1003), some (vr 0 0), some (vr 0 56), some (vi (nI i))], [], mkH I t1 t2 k sc) = den (11, 9, 0, 1405, [some (vr 0 1003), some (vr 0 0), some (vr 0 56), some (vi (nI i))], [], mkH J u1 u2 k' sc) := by
  obtain ⟨r, I1, I2, u1, u2, k', h1, h2, h3, h4⟩ := hop (sc.2 (nI i + 1).toNatClampNeg) I t1 t2 k sc hI
  refine ⟨I2, u1, u2, k', h3, h4, ?_⟩
  have hb1 : inb (nI i + 1) sc.1 = true := inbS (j := 1) (by omega) hL
  rw [b9_0_970 10, hb1, cond_true]
  refine (congrArg (fun z => Option.bind z _) h1).trans ?_
  refine (b9_0_979 10 (nI i) r I1 u1 u2 k' sc).trans ?_
  rw [hb1, cond_true]
  refine (congrArg (fun z => Option.bind z _) h2).trans ?_
  refine (b9_0_988 10 (nI i) r r I2 u1 u2 k' sc).trans ?_
  rw [decide_eq_true rfl, cond_true]
/-- could -/
def op_27 (Inv : INV) : Prop := ∀ a1 a2 : Int32, OPR Inv (fun h => (10, 7, 28, 0, [some (vr 0 0), some (vi a1), some (vi a2), none, none], [], h)) (fun h => (10, 8, 65, 0, [some (vr 0 56), some (vi a1), some (vi a2), none, none, none], [], h))
theorem ca_27 {Inv : INV} (hop : op_27 Inv) {I : IFn} {t1 t2 : TFn} {k i : Nat} {sc : Nat × (Nat → Int32)} (hI : Inv I t1 t2 k) (hi : i + 6 ≤ sc.1) (hL : sc.1 ≤ 3072) : ∃ (J : IFn) (u1 u2 : TFn) (k' : Nat), Inv J u1 u2 k' ∧ k' ≤ k + 1 ∧ den (11, 9, 0, 993, [some (vr 0 1003), some (vr 0 0), some (vr 0 56), some (vi (nI i))], [], mkH I t1 t2 k sc) = den (11, 9, 0, 1405, [some (vr 0 1003), some (vr 0 0), some (vr 0 56), some (vi (nI i))], [], mkH J u1 u2 k' sc) := by
  obtain ⟨r, I1, I2, u1, u2, k', h1, h2, h3, h4⟩ := hop (sc.2 (nI i + 1).toNatClampNeg) (sc.2 (nI i + 2).toNatClampNeg) I t1 t2 k sc hI
  refine ⟨I2, u1, u2, k', h3, h4, ?_⟩
  have hb1 : inb (nI i + 1) sc.1 = true := inbS (j := 1) (by omega) hL
  have hb2 : inb (nI i + 2) sc.1 = true := inbS (j := 2) (by omega) hL
  rw [b9_0_993 10, hb1, cond_true, hb2, cond_true]
  refine (congrArg (fun z => Option.bind z _) h1).trans ?_
  refine (b9_0_1007 10 (nI i) r I1 u1 u2 k' sc).trans ?_
  rw [hb1, cond_true, hb2, cond_true]
  refine (congrArg (fun z => Option.bind z _) h2).trans ?_
  refine (b9_0_1021 10 (nI i) r r I2 u1 u2 k' sc).trans ?_
  rw [decide_eq_true rfl, cond_true]
/-- seed -/
def op_28 (Inv : INV) : Prop := ∀ a1 : Int32, OPR Inv (fun h => (10, 7, 29, 0, [some (vr 0 0), some (vi a1), none], [], h)) (fun h => (10, 8, 66, 0, [some (vr 0 56), some (vi a1), none], [], h))
theorem ca_28 {Inv : INV} (hop : op_28 Inv) {I : IFn} {t1 t2 : TFn} {k i : Nat} {sc : Nat × (Nat → Int32)} (hI : Inv I t1 t2 k) (hi : i + 6 ≤ sc.1) (hL : sc.1 ≤ 3072) : ∃ (J : IFn) (u1 u2 : TFn) (k' : Nat), Inv J u1 u2 k' ∧ k' ≤ k + 1 ∧ den (11, 9, 0, 1026, [some (vr 0 1003), some (vr 0 0), some (vr 0 56), some (vi (nI i))], [], mkH I t1 t2 k sc) = den (11, 9, 0, 1405, [some (vr 0 1003), some (vr 0 0), some (vr 0 56), some (vi (nI i))], [], mkH J u1 u2 k' sc) := by
  obtain ⟨r, I1, I2, u1, u2, k', h1, h2, h3, h4⟩ := hop (sc.2 (nI i + 1).toNatClampNeg) I t1 t2 k sc hI
  refine ⟨I2, u1, u2, k', h3, h4, ?_⟩
  have hb1 : inb (nI i + 1) sc.1 = true := inbS (j := 1) (by omega) hL
  rw [b9_0_1026 10, hb1, cond_true]
  refine (congrArg (fun z => Option.bind z _) h1).trans ?_
  refine (b9_0_1035 10 (nI i) r I1 u1 u2 k' sc).trans ?_
  rw [hb1, cond_true]
  refine (congrArg (fun z => Option.bind z _) h2).trans ?_
  refine (b9_0_1044 10 (nI i) r r I2 u1 u2 k' sc).trans ?_
  rw [decide_eq_true rfl, cond_true]
/-- hold -/
def op_29 (Inv : INV) : Prop := ∀ a1 a2 : Int32, OPR Inv (fun h => (10, 7, 30, 0, [some (vr 0 0), some (vi a1), some (vi a2)], [], h)) (fun h => (10, 8, 67, 0, [some (vr 0 56), some (vi a1), some (vi a2)], [], h))
theorem ca_29 {Inv : INV} (hop : op_29 Inv) {I : IFn} {t1 t2 : TFn} {k i : Nat} {sc : Nat × (Nat → Int32)} (hI : Inv I t1 t2 k) (hi : i + 6 ≤ sc.1) (hL : sc.1 ≤ 3072) : ∃ (J : IFn) (u1 u2 : TFn) (k' : Nat), Inv J u1 u2 k' ∧ k' ≤ k + 1 ∧ den (11, 9, 0, 1049, [some (vr 0 1003), some (vr 0 0), some (vr 0 56), some (vi (nI i))], [], mkH I t1 t2 k sc) = den (11, 9, 0, 1405, [some (vr 0 1003), some (vr 0 0), some (vr 0 56), some (vi (nI i))], [], mkH J u1 u2 k' sc) := by
  obtain ⟨r, I1, I2, u1, u2, k', h1, h2, h3, h4⟩ := hop (sc.2 (nI i + 1).toNatClampNeg) (sc.2 (nI i + 2).toNatClampNeg) I t1 t2 k sc hI
  refine ⟨I2, u1, u2, k', h3, h4, ?_⟩
  have hb1 : inb (nI i + 1) sc.1 = true := inbS (j := 1) (by omega) hL
  have hb2 : inb (nI i + 2) sc.1 = true := inbS (j := 2) (by omega) hL
  rw [b9_0_1049 10, hb1, cond_true, hb2, cond_true]
  refine (congrArg (fun z => Option.bind z _) h1).trans ?_
  refine (b9_0_1063 10 (nI i) r I1 u1 u2 k' sc).trans ?_
  rw [hb1, cond_true, hb2, cond_true]
  refine (congrArg (fun z => Option.bind z _) h2).trans ?_
  refine (b9_0_1077 10 (nI i) r r I2 u1 u2 k' sc).trans ?_
  rw [decide_eq_true rfl, cond_true]
/-- as -/
def op_30 (Inv : INV) : Prop := ∀ a1 a2 : Int32, OPR Inv (fun h => (10, 7, 31, 0, [some (vr 0 0), some (vi a1), some (vi a2), none], [], h)) (fun h => (10, 8, 68, 0, [some (vr 0 56), some (vi a1), some (vi a2), none, none, none], [], h))
theorem ca_30 {Inv : INV} (hop : op_30 Inv) {I : IFn} {t1 t2 : TFn} {k i : Nat} {sc : Nat × (Nat → Int32)} (hI : Inv I t1 t2 k) (hi : i + 6 ≤ sc.1) (hL : sc.1 ≤ 3072) : ∃ (J : IFn) (u1 u2 : TFn) (k' : Nat), Inv J u1 u2 k' ∧ k' ≤ k + 1 ∧ den (11, 9, 0, 1082, [some (vr 0 1003), some (vr 0 0), some (vr 0 56), some (vi (nI i))], [], mkH I t1 t2 k sc) = den (11, 9, 0, 1405, [some (vr 0 1003), some (vr 0 0), some (vr 0 56), some (vi (nI i))], [], mkH J u1 u2 k' sc) := by
  obtain ⟨r, I1, I2, u1, u2, k', h1, h2, h3, h4⟩ := hop (sc.2 (nI i + 1).toNatClampNeg) (sc.2 (nI i + 2).toNatClampNeg) I t1 t2 k sc hI
  refine ⟨I2, u1, u2, k', h3, h4, ?_⟩
  have hb1 : inb (nI i + 1) sc.1 = true := inbS (j := 1) (by omega) hL
  have hb2 : inb (nI i + 2) sc.1 = true := inbS (j := 2) (by omega) hL
  rw [b9_0_1082 10, hb1, cond_true, hb2, cond_true]
  refine (congrArg (fun z => Option.bind z _) h1).trans ?_
  refine (b9_0_1096 10 (nI i) r I1 u1 u2 k' sc).trans ?_
  rw [hb1, cond_true, hb2, cond_true]
  refine (congrArg (fun z => Option.bind z _) h2).trans ?_
  refine (b9_0_1110 10 (nI i) r r I2 u1 u2 k' sc).trans ?_
  rw [decide_eq_true rfl, cond_true]
/-- sheet -/
def op_31 (Inv : INV) : Prop := ∀ a1 a2 a3 : Int32, OPR Inv (fun h => (10, 7, 32, 0, [some (vr 0 0), some (vi a1), some (vi a2), some (vi a3)], [], h)) (fun h => (10, 8, 70, 0, [some (vr 0 56), some (vi a1), some (vi a2), some (vi a3), none], [], h))
theorem ca_31 {Inv : INV} (hop : op_31 Inv) {I : IFn} {t1 t2 : TFn} {k i : Nat} {sc : Nat × (Nat → Int32)} (hI : Inv I t1 t2 k) (hi : i + 6 ≤ sc.1) (hL : sc.1 ≤ 3072) : ∃ (J : IFn) (u1 u2 : TFn) (k' : Nat), Inv J u1 u2 k' ∧ k' ≤ k + 1 ∧ den (11, 9, 0, 1115, [some (vr 0 1003), some (vr 0 0), some (vr 0 56), some (vi (nI i))], [], mkH I t1 t2 k sc) = den (11, 9, 0, 1405, [some (vr 0 1003), some (vr 0 0), some (vr 0 56), some (vi (nI i))], [], mkH J u1 u2 k' sc) := by
  obtain ⟨r, I1, I2, u1, u2, k', h1, h2, h3, h4⟩ := hop (sc.2 (nI i + 1).toNatClampNeg) (sc.2 (nI i + 2).toNatClampNeg) (sc.2 (nI i + 3).toNatClampNeg) I t1 t2 k sc hI
  refine ⟨I2, u1, u2, k', h3, h4, ?_⟩
  have hb1 : inb (nI i + 1) sc.1 = true := inbS (j := 1) (by omega) hL
  have hb2 : inb (nI i + 2) sc.1 = true := inbS (j := 2) (by omega) hL
  have hb3 : inb (nI i + 3) sc.1 = true := inbS (j := 3) (by omega) hL
  rw [b9_0_1115 10, hb1, cond_true, hb2, cond_true, hb3, cond_true]
  refine (congrArg (fun z => Option.bind z _) h1).trans ?_
  refine (b9_0_1134 10 (nI i) r I1 u1 u2 k' sc).trans ?_
  rw [hb1, cond_true, hb2, cond_true, hb3, cond_true]
  refine (congrArg (fun z => Option.bind z _) h2).trans ?_
  refine (b9_0_1153 10 (nI i) r r I2 u1 u2 k' sc).trans ?_
  rw [decide_eq_true rfl, cond_true]
/-- write -/
def op_32 (Inv : INV) : Prop := ∀ a1 a2 a3 : Int32, OPR Inv (fun h => (10, 7, 33, 0, [some (vr 0 0), some (vi a1), some (vi a2), some (vi a3), none], [], h)) (fun h => (10, 8, 73, 0, [some (vr 0 56), some (vi a1), some (vi a2), some (vi a3), none], [], h))
theorem ca_32 {Inv : INV} (hop : op_32 Inv) {I : IFn} {t1 t2 : TFn} {k i : Nat} {sc : Nat × (Nat → Int32)} (hI : Inv I t1 t2 k) (hi : i + 6 ≤ sc.1) (hL : sc.1 ≤ 3072) : ∃ (J : IFn) (u1 u2 : TFn) (k' : Nat), Inv J u1 u2 k' ∧ k' ≤ k + 1 ∧ den (11, 9, 0, 1158, [some (vr 0 1003), some (vr 0 0), some (vr 0 56), some (vi (nI i))], [], mkH I t1 t2 k sc) = den (11, 9, 0, 1405, [some (vr 0 1003), some (vr 0 0), some (vr 0 56), some (vi (nI i))], [], mkH J u1 u2 k' sc) := by
  obtain ⟨r, I1, I2, u1, u2, k', h1, h2, h3, h4⟩ := hop (sc.2 (nI i + 1).toNatClampNeg) (sc.2 (nI i + 2).toNatClampNeg) (sc.2 (nI i + 3).toNatClampNeg) I t1 t2 k sc hI
  refine ⟨I2, u1, u2, k', h3, h4, ?_⟩
  have hb1 : inb (nI i + 1) sc.1 = true := inbS (j := 1) (by omega) hL
  have hb2 : inb (nI i + 2) sc.1 = true := inbS (j := 2) (by omega) hL
  have hb3 : inb (nI i + 3) sc.1 = true := inbS (j := 3) (by omega) hL
  rw [b9_0_1158 10, hb1, cond_true, hb2, cond_true, hb3, cond_true]
  refine (congrArg (fun z => Option.bind z _) h1).trans ?_
  refine (b9_0_1177 10 (nI i) r I1 u1 u2 k' sc).trans ?_
  rw [hb1, cond_true, hb2, cond_true, hb3, cond_true]
  refine (congrArg (fun z => Option.bind z _) h2).trans ?_
  refine (b9_0_1196 10 (nI i) r r I2 u1 u2 k' sc).trans ?_
  rw [decide_eq_true rfl, cond_true]
/-- copy -/
def op_33 (Inv : INV) : Prop := ∀ a1 a2 a3 a4 a5 : Int32, OPR Inv (fun h => (10, 7, 34, 0, [some (vr 0 0), some (vi a1), some (vi a2), some (vi a3), some (vi a4), some (vi a5), none, none], [], h)) (fun h => (10, 8, 74, 0, [some (vr 0 56), some (vi a1), some (vi a2), some (vi a3), some (vi a4), some (vi a5), none], [], h))
theorem ca_33 {Inv : INV} (hop : op_33 Inv) {I : IFn} {t1 t2 : TFn} {k i : Nat} {sc : Nat × (Nat → Int32)} (hI : Inv I t1 t2 k) (hi : i + 6 ≤ sc.1) (hL : sc.1 ≤ 3072) : ∃ (J : IFn) (u1 u2 : TFn) (k' : Nat), Inv J u1 u2 k' ∧ k' ≤ k + 1 ∧ den (11, 9, 0, 1201, [some (vr 0 1003), some (vr 0 0), some (vr 0 56), some (vi (nI i))], [], mkH I t1 t2 k sc) = den (11, 9, 0, 1405, [some (vr 0 1003), some (vr 0 0), some (vr 0 56), some (vi (nI i))], [], mkH J u1 u2 k' sc) := by
  obtain ⟨r, I1, I2, u1, u2, k', h1, h2, h3, h4⟩ := hop (sc.2 (nI i + 1).toNatClampNeg) (sc.2 (nI i + 2).toNatClampNeg) (sc.2 (nI i + 3).toNatClampNeg) (sc.2 (nI i + 4).toNatClampNeg) (sc.2 (nI i + 5).toNatClampNeg) I t1 t2 k sc hI
  refine ⟨I2, u1, u2, k', h3, h4, ?_⟩
  have hb1 : inb (nI i + 1) sc.1 = true := inbS (j := 1) (by omega) hL
  have hb2 : inb (nI i + 2) sc.1 = true := inbS (j := 2) (by omega) hL
  have hb3 : inb (nI i + 3) sc.1 = true := inbS (j := 3) (by omega) hL
  have hb4 : inb (nI i + 4) sc.1 = true := inbS (j := 4) (by omega) hL
  have hb5 : inb (nI i + 5) sc.1 = true := inbS (j := 5) (by omega) hL
  rw [b9_0_1201 10, hb1, cond_true, hb2, cond_true, hb3, cond_true, hb4, cond_true, hb5, cond_true]
  refine (congrArg (fun z => Option.bind z _) h1).trans ?_
  refine (b9_0_1230 10 (nI i) r I1 u1 u2 k' sc).trans ?_
  rw [hb1, cond_true, hb2, cond_true, hb3, cond_true, hb4, cond_true, hb5, cond_true]
  refine (congrArg (fun z => Option.bind z _) h2).trans ?_
  refine (b9_0_1259 10 (nI i) r r I2 u1 u2 k' sc).trans ?_
  rw [decide_eq_true rfl, cond_true]
/-- load -/
def op_34 (Inv : INV) : Prop := ∀ a1 : Int32, OPR Inv (fun h => (10, 7, 35, 0, [some (vr 0 0), some (vi a1), none, none], [], h)) (fun h => (10, 8, 75, 0, [some (vr 0 56), some (vi a1), none, none], [], h))
theorem ca_34 {Inv : INV} (hop : op_34 Inv) {I : IFn} {t1 t2 : TFn} {k i : Nat} {sc : Nat × (Nat → Int32)} (hI : Inv I t1 t2 k) (hi : i + 6 ≤ sc.1) (hL : sc.1 ≤ 3072) : ∃ (J : IFn) (u1 u2 : TFn) (k' : Nat), Inv J u1 u2 k' ∧ k' ≤ k + 1 ∧ den (11, 9, 0, 1264, [some (vr 0 1003), some (vr 0 0), some (vr 0 56), some (vi (nI i))], [], mkH I t1 t2 k sc) = den (11, 9, 0, 1405, [some (vr 0 1003), some (vr 0 0), some (vr 0 56), some (vi (nI i))], [], mkH J u1 u2 k' sc) := by
  obtain ⟨r, I1, I2, u1, u2, k', h1, h2, h3, h4⟩ := hop (sc.2 (nI i + 1).toNatClampNeg) I t1 t2 k sc hI
  refine ⟨I2, u1, u2, k', h3, h4, ?_⟩
  have hb1 : inb (nI i + 1) sc.1 = true := inbS (j := 1) (by omega) hL
  rw [b9_0_1264 10, hb1, cond_true]
  refine (congrArg (fun z => Option.bind z _) h1).trans ?_
  refine (b9_0_1273 10 (nI i) r I1 u1 u2 k' sc).trans ?_
  rw [hb1, cond_true]
  refine (congrArg (fun z => Option.bind z _) h2).trans ?_
  refine (b9_0_1282 10 (nI i) r r I2 u1 u2 k' sc).trans ?_
  rw [decide_eq_true rfl, cond_true]
/-- judge -/
def op_35 (Inv : INV) : Prop := ∀ a1 a2 : Int32, OPR Inv (fun h => (10, 7, 36, 0, [some (vr 0 0), some (vi a1), some (vi a2), none, none, none], [], h)) (fun h => (10, 8, 76, 0, [some (vr 0 56), some (vi a1), some (vi a2), none, none, none], [], h))
theorem ca_35 {Inv : INV} (hop : op_35 Inv) {I : IFn} {t1 t2 : TFn} {k i : Nat} {sc : Nat × (Nat → Int32)} (hI : Inv I t1 t2 k) (hi : i + 6 ≤ sc.1) (hL : sc.1 ≤ 3072) : ∃ (J : IFn) (u1 u2 : TFn) (k' : Nat), Inv J u1 u2 k' ∧ k' ≤ k + 1 ∧ den (11, 9, 0, 1287, [some (vr 0 1003), some (vr 0 0), some (vr 0 56), some (vi (nI i))], [], mkH I t1 t2 k sc) = den (11, 9, 0, 1405, [some (vr 0 1003), some (vr 0 0), some (vr 0 56), some (vi (nI i))], [], mkH J u1 u2 k' sc) := by
  obtain ⟨r, I1, I2, u1, u2, k', h1, h2, h3, h4⟩ := hop (sc.2 (nI i + 1).toNatClampNeg) (sc.2 (nI i + 2).toNatClampNeg) I t1 t2 k sc hI
  refine ⟨I2, u1, u2, k', h3, h4, ?_⟩
  have hb1 : inb (nI i + 1) sc.1 = true := inbS (j := 1) (by omega) hL
  have hb2 : inb (nI i + 2) sc.1 = true := inbS (j := 2) (by omega) hL
  rw [b9_0_1287 10, hb1, cond_true, hb2, cond_true]
  refine (congrArg (fun z => Option.bind z _) h1).trans ?_
  refine (b9_0_1301 10 (nI i) r I1 u1 u2 k' sc).trans ?_
  rw [hb1, cond_true, hb2, cond_true]
  refine (congrArg (fun z => Option.bind z _) h2).trans ?_
  refine (b9_0_1315 10 (nI i) r r I2 u1 u2 k' sc).trans ?_
  rw [decide_eq_true rfl, cond_true]
/-- image -/
def op_36 (Inv : INV) : Prop := OPR Inv (fun h => (10, 7, 37, 0, [some (vr 0 0)], [], h)) (fun h => (10, 8, 77, 0, [some (vr 0 56), none], [], h))
theorem ca_36 {Inv : INV} (hop : op_36 Inv) {I : IFn} {t1 t2 : TFn} {k i : Nat} {sc : Nat × (Nat → Int32)} (hI : Inv I t1 t2 k) (hi : i + 6 ≤ sc.1) (hL : sc.1 ≤ 3072) : ∃ (J : IFn) (u1 u2 : TFn) (k' : Nat), Inv J u1 u2 k' ∧ k' ≤ k + 1 ∧ den (11, 9, 0, 1320, [some (vr 0 1003), some (vr 0 0), some (vr 0 56), some (vi (nI i))], [], mkH I t1 t2 k sc) = den (11, 9, 0, 1405, [some (vr 0 1003), some (vr 0 0), some (vr 0 56), some (vi (nI i))], [], mkH J u1 u2 k' sc) := by
  obtain ⟨r, I1, I2, u1, u2, k', h1, h2, h3, h4⟩ := hop  I t1 t2 k sc hI
  refine ⟨I2, u1, u2, k', h3, h4, ?_⟩
  skip
  rw [b9_0_1320 10]
  refine (congrArg (fun z => Option.bind z _) h1).trans ?_
  refine (b9_0_1324 10 (nI i) r I1 u1 u2 k' sc).trans ?_
  refine (congrArg (fun z => Option.bind z _) h2).trans ?_
  refine (b9_0_1328 10 (nI i) r r I2 u1 u2 k' sc).trans ?_
  rw [decide_eq_true rfl, cond_true]
/-- undo -/
def op_37 (Inv : INV) : Prop := OPR Inv (fun h => (10, 7, 38, 0, [some (vr 0 0)], [], h)) (fun h => (10, 8, 78, 0, [some (vr 0 56), none], [], h))
theorem ca_37 {Inv : INV} (hop : op_37 Inv) {I : IFn} {t1 t2 : TFn} {k i : Nat} {sc : Nat × (Nat → Int32)} (hI : Inv I t1 t2 k) (hi : i + 6 ≤ sc.1) (hL : sc.1 ≤ 3072) : ∃ (J : IFn) (u1 u2 : TFn) (k' : Nat), Inv J u1 u2 k' ∧ k' ≤ k + 1 ∧ den (11, 9, 0, 1333, [some (vr 0 1003), some (vr 0 0), some (vr 0 56), some (vi (nI i))], [], mkH I t1 t2 k sc) = den (11, 9, 0, 1405, [some (vr 0 1003), some (vr 0 0), some (vr 0 56), some (vi (nI i))], [], mkH J u1 u2 k' sc) := by
  obtain ⟨r, I1, I2, u1, u2, k', h1, h2, h3, h4⟩ := hop  I t1 t2 k sc hI
  refine ⟨I2, u1, u2, k', h3, h4, ?_⟩
  skip
  rw [b9_0_1333 10]
  refine (congrArg (fun z => Option.bind z _) h1).trans ?_
  refine (b9_0_1337 10 (nI i) r I1 u1 u2 k' sc).trans ?_
  refine (congrArg (fun z => Option.bind z _) h2).trans ?_
  refine (b9_0_1341 10 (nI i) r r I2 u1 u2 k' sc).trans ?_
  rw [decide_eq_true rfl, cond_true]
/-- tear -/
def op_38 (Inv : INV) : Prop := OPR Inv (fun h => (10, 7, 39, 0, [some (vr 0 0), none], [], h)) (fun h => (10, 8, 79, 0, [some (vr 0 56), none], [], h))
theorem ca_38 {Inv : INV} (hop : op_38 Inv) {I : IFn} {t1 t2 : TFn} {k i : Nat} {sc : Nat × (Nat → Int32)} (hI : Inv I t1 t2 k) (hi : i + 6 ≤ sc.1) (hL : sc.1 ≤ 3072) : ∃ (J : IFn) (u1 u2 : TFn) (k' : Nat), Inv J u1 u2 k' ∧ k' ≤ k + 1 ∧ den (11, 9, 0, 1346, [some (vr 0 1003), some (vr 0 0), some (vr 0 56), some (vi (nI i))], [], mkH I t1 t2 k sc) = den (11, 9, 0, 1405, [some (vr 0 1003), some (vr 0 0), some (vr 0 56), some (vi (nI i))], [], mkH J u1 u2 k' sc) := by
  obtain ⟨r, I1, I2, u1, u2, k', h1, h2, h3, h4⟩ := hop  I t1 t2 k sc hI
  refine ⟨I2, u1, u2, k', h3, h4, ?_⟩
  skip
  rw [b9_0_1346 10]
  refine (congrArg (fun z => Option.bind z _) h1).trans ?_
  refine (b9_0_1350 10 (nI i) r I1 u1 u2 k' sc).trans ?_
  refine (congrArg (fun z => Option.bind z _) h2).trans ?_
  refine (b9_0_1354 10 (nI i) r r I2 u1 u2 k' sc).trans ?_
  rw [decide_eq_true rfl, cond_true]
/-- count -/
def op_39 (Inv : INV) : Prop := ∀ a1 : Int32, OPR Inv (fun h => (10, 7, 40, 0, [some (vr 0 0), some (vi a1)], [], h)) (fun h => (10, 8, 80, 0, [some (vr 0 56), some (vi a1)], [], h))
theorem ca_39 {Inv : INV} (hop : op_39 Inv) {I : IFn} {t1 t2 : TFn} {k i : Nat} {sc : Nat × (Nat → Int32)} (hI : Inv I t1 t2 k) (hi : i + 6 ≤ sc.1) (hL : sc.1 ≤ 3072) : ∃ (J : IFn) (u1 u2 : TFn) (k' : Nat), Inv J u1 u2 k' ∧ k' ≤ k + 1 ∧ den (11, 9, 0, 1359, [some (vr 0 1003), some (vr 0 0), some (vr 0 56), some (vi (nI i))], [], mkH I t1 t2 k sc) = den (11, 9, 0, 1405, [some (vr 0 1003), some (vr 0 0), some (vr 0 56), some (vi (nI i))], [], mkH J u1 u2 k' sc) := by
  obtain ⟨r, I1, I2, u1, u2, k', h1, h2, h3, h4⟩ := hop (sc.2 (nI i + 1).toNatClampNeg) I t1 t2 k sc hI
  refine ⟨I2, u1, u2, k', h3, h4, ?_⟩
  have hb1 : inb (nI i + 1) sc.1 = true := inbS (j := 1) (by omega) hL
  rw [b9_0_1359 10, hb1, cond_true]
  refine (congrArg (fun z => Option.bind z _) h1).trans ?_
  refine (b9_0_1368 10 (nI i) r I1 u1 u2 k' sc).trans ?_
  rw [hb1, cond_true]
  refine (congrArg (fun z => Option.bind z _) h2).trans ?_
  refine (b9_0_1377 10 (nI i) r r I2 u1 u2 k' sc).trans ?_
  rw [decide_eq_true rfl, cond_true]
/-- status -/
def op_40 (Inv : INV) : Prop := ∀ a1 : Int32, OPR Inv (fun h => (10, 7, 41, 0, [some (vr 0 0), some (vi a1), none, none], [], h)) (fun h => (10, 8, 81, 0, [some (vr 0 56), some (vi a1), none, none], [], h))
theorem ca_40 {Inv : INV} (hop : op_40 Inv) {I : IFn} {t1 t2 : TFn} {k i : Nat} {sc : Nat × (Nat → Int32)} (hI : Inv I t1 t2 k) (hi : i + 6 ≤ sc.1) (hL : sc.1 ≤ 3072) : ∃ (J : IFn) (u1 u2 : TFn) (k' : Nat), Inv J u1 u2 k' ∧ k' ≤ k + 1 ∧ den (11, 9, 0, 1382, [some (vr 0 1003), some (vr 0 0), some (vr 0 56), some (vi (nI i))], [], mkH I t1 t2 k sc) = den (11, 9, 0, 1405, [some (vr 0 1003), some (vr 0 0), some (vr 0 56), some (vi (nI i))], [], mkH J u1 u2 k' sc) := by
  obtain ⟨r, I1, I2, u1, u2, k', h1, h2, h3, h4⟩ := hop (sc.2 (nI i + 1).toNatClampNeg) I t1 t2 k sc hI
  refine ⟨I2, u1, u2, k', h3, h4, ?_⟩
  have hb1 : inb (nI i + 1) sc.1 = true := inbS (j := 1) (by omega) hL
  rw [b9_0_1382 10, hb1, cond_true]
  refine (congrArg (fun z => Option.bind z _) h1).trans ?_
  refine (b9_0_1391 10 (nI i) r I1 u1 u2 k' sc).trans ?_
  rw [hb1, cond_true]
  refine (congrArg (fun z => Option.bind z _) h2).trans ?_
  refine (b9_0_1400 10 (nI i) r r I2 u1 u2 k' sc).trans ?_
  rw [decide_eq_true rfl, cond_true]
/-- the constructors' run -/
def INI (Inv : INV) : Prop := ∀ (L : Nat) (xs : Nat → Int32), ∃ I0 : IFn, Inv I0 (fun _ => none) (fun _ => none) 0 ∧ den (11, 9, 0, 0, [some (vr 0 1003), none, none, none], [], h00 L xs) = den (11, 9, 0, 18, [some (vr 0 1003), some (vr 0 0), some (vr 0 56), some (vi 0)], [], mkH I0 (fun _ => none) (fun _ => none) 0 (L, xs))
def OPS (Inv : INV) : Prop := op_0 Inv ∧ op_1 Inv ∧ op_2 Inv ∧ op_3 Inv ∧ op_4 Inv ∧ op_5 Inv ∧ op_6 Inv ∧ op_7 Inv ∧ op_8 Inv ∧ op_9 Inv ∧ op_10 Inv ∧ op_11 Inv ∧ op_12 Inv ∧ op_13 Inv ∧ op_14 Inv ∧ op_15 Inv ∧ op_16 Inv ∧ op_17 Inv ∧ op_18 Inv ∧ op_19 Inv ∧ op_20 Inv ∧ op_21 Inv ∧ op_22 Inv ∧ op_23 Inv ∧ op_24 Inv ∧ op_25 Inv ∧ op_26 Inv ∧ op_27 Inv ∧ op_28 Inv ∧ op_29 Inv ∧ op_30 Inv ∧ op_31 Inv ∧ op_32 Inv ∧ op_33 Inv ∧ op_34 Inv ∧ op_35 Inv ∧ op_36 Inv ∧ op_37 Inv ∧ op_38 Inv ∧ op_39 Inv ∧ op_40 Inv
theorem tgt_case {q : Int} (h0 : ¬ q < 0) (h1 : ¬ 40 < q) : ∃ n : Nat, n < 41 ∧ (q - 0).toNat = n := ⟨(q - 0).toNat, by omega, rfl⟩
theorem law_body {Inv : INV} (hops : OPS Inv) {I : IFn} {t1 t2 : TFn} {k i : Nat} {sc : Nat × (Nat → Int32)} (hI : Inv I t1 t2 k) (hi : i + 6 ≤ sc.1) (hL : sc.1 ≤ 3072) : ∃ (J : IFn) (u1 u2 : TFn) (k' : Nat), Inv J u1 u2 k' ∧ k' ≤ k + 1 ∧ den (11, 9, 0, 27, [some (vr 0 1003), some (vr 0 0), some (vr 0 56), some (vi (nI i))], [], mkH I t1 t2 k sc) = den (11, 9, 0, 1405, [some (vr 0 1003), some (vr 0 0), some (vr 0 56), some (vi (nI i))], [], mkH J u1 u2 k' sc) := by
  rw [b9_0_27 10, inbZ (by omega) hL, cond_true]
  generalize hq : ((sc.2 (nI i).toNatClampNeg) &&& 63).toInt = q
  by_cases h0 : q < 0
  · rw [decide_eq_true h0, Bool.true_or, cond_true]
    exact ⟨I, t1, t2, k, hI, by omega, rfl⟩
  by_cases h1 : 40 < q
  · rw [decide_eq_true h1, Bool.or_true, cond_true]
    exact ⟨I, t1, t2, k, hI, by omega, rfl⟩
  rw [decide_eq_false h0, decide_eq_false h1, Bool.or_false, cond_false]
  obtain ⟨n, hn, he⟩ := tgt_case h0 h1
  rw [he]
  obtain ⟨o0, o1, o2, o3, o4, o5, o6, o7, o8, o9, o10, o11, o12, o13, o14, o15, o16, o17, o18, o19, o20, o21, o22, o23, o24, o25, o26, o27, o28, o29, o30, o31, o32, o33, o34, o35, o36, o37, o38, o39, o40⟩ := hops
  match n, hn with
  | 0, _ => exact ca_0 o0 hI hi hL
  | 1, _ => exact ca_1 o1 hI hi hL
  | 2, _ => exact ca_2 o2 hI hi hL
  | 3, _ => exact ca_3 o3 hI hi hL
  | 4, _ => exact ca_4 o4 hI hi hL
  | 5, _ => exact ca_5 o5 hI hi hL
  | 6, _ => exact ca_6 o6 hI hi hL
  | 7, _ => exact ca_7 o7 hI hi hL
  | 8, _ => exact ca_8 o8 hI hi hL
  | 9, _ => exact ca_9 o9 hI hi hL
  | 10, _ => exact ca_10 o10 hI hi hL
  | 11, _ => exact ca_11 o11 hI hi hL
  | 12, _ => exact ca_12 o12 hI hi hL
  | 13, _ => exact ca_13 o13 hI hi hL
  | 14, _ => exact ca_14 o14 hI hi hL
  | 15, _ => exact ca_15 o15 hI hi hL
  | 16, _ => exact ca_16 o16 hI hi hL
  | 17, _ => exact ca_17 o17 hI hi hL
  | 18, _ => exact ca_18 o18 hI hi hL
  | 19, _ => exact ca_19 o19 hI hi hL
  | 20, _ => exact ca_20 o20 hI hi hL
  | 21, _ => exact ca_21 o21 hI hi hL
  | 22, _ => exact ca_22 o22 hI hi hL
  | 23, _ => exact ca_23 o23 hI hi hL
  | 24, _ => exact ca_24 o24 hI hi hL
  | 25, _ => exact ca_25 o25 hI hi hL
  | 26, _ => exact ca_26 o26 hI hi hL
  | 27, _ => exact ca_27 o27 hI hi hL
  | 28, _ => exact ca_28 o28 hI hi hL
  | 29, _ => exact ca_29 o29 hI hi hL
  | 30, _ => exact ca_30 o30 hI hi hL
  | 31, _ => exact ca_31 o31 hI hi hL
  | 32, _ => exact ca_32 o32 hI hi hL
  | 33, _ => exact ca_33 o33 hI hi hL
  | 34, _ => exact ca_34 o34 hI hi hL
  | 35, _ => exact ca_35 o35 hI hi hL
  | 36, _ => exact ca_36 o36 hI hi hL
  | 37, _ => exact ca_37 o37 hI hi hL
  | 38, _ => exact ca_38 o38 hI hi hL
  | 39, _ => exact ca_39 o39 hI hi hL
  | 40, _ => exact ca_40 o40 hI hi hL
  | n + 41, h => omega
theorem SL_text (k : Nat) : SL (71 + 9 * (k + 1)) = SL (71 + 9 * k) + 373 := by
  have hu : ∀ j, j < 9 → unl (71 + 9 * k + j) = (k + 1, j) := fun j hj => unl_lin (a := (k + 1, j)) hj
  have h0 : unl (71 + 9 * k) = (k + 1, 0) := hu 0 (by omega)
  have s0 : slw (shp (k + 1) 0) = 5 := rfl
  have s1 : slw (shp (k + 1) 1) = 100 := rfl
  have s2 : slw (shp (k + 1) 2) = 100 := rfl
  have s3 : slw (shp (k + 1) 3) = 4 := rfl
  have s4 : slw (shp (k + 1) 4) = 40 := rfl
  have s5 : slw (shp (k + 1) 5) = 40 := rfl
  have s6 : slw (shp (k + 1) 6) = 4 := rfl
  have s7 : slw (shp (k + 1) 7) = 40 := rfl
  have s8 : slw (shp (k + 1) 8) = 40 := rfl
  rw [show 71 + 9 * (k + 1) = 71 + 9 * k + 8 + 1 by omega]
  simp only [SL, hu 8 (by omega), hu 7 (by omega), hu 6 (by omega), hu 5 (by omega), hu 4 (by omega), hu 3 (by omega), hu 2 (by omega), hu 1 (by omega), h0, s0, s1, s2, s3, s4, s5, s6, s7, s8]
theorem SL_71 : SL 71 = 2449 := by decide +kernel
theorem SL_all (k : Nat) : SL (71 + 9 * k) = 2449 + 373 * k := by
  induction k with
  | zero => exact SL_71
  | succ k ih => rw [SL_text, ih]; omega
theorem law_loop {Inv : INV} (hops : OPS Inv) {sc : Nat × (Nat → Int32)} (hL : sc.1 ≤ 3072) : ∀ (n i : Nat) (I : IFn) (t1 t2 : TFn) (k : Nat), sc.1 < i + 6 * n → 6 * k ≤ i → i ≤ sc.1 + 6 → Inv I t1 t2 k → ∃ h : AH, den (11, 9, 0, 18, [some (vr 0 1003), some (vr 0 0), some (vr 0 56), some (vi (nI i))], [], mkH I t1 t2 k sc) = some (some (vi 1), h) ∧ lin (alo h) ≤ 600000 ∧ SL (lin (alo h)) ≤ 7302250 := by
  intro n
  induction n with
  | zero =>
    intro i I t1 t2 k h1 h2 h3 hI
    refine ⟨mkH I t1 t2 k sc, ?_, ?_, ?_⟩
    · rw [b9_0_18 10, decide_eq_true ((lt_six hL (by omega)).mpr (by omega)), cond_true, b9_0_1411 10]
    · show 71 + 9 * k + 0 ≤ 600000
      omega
    · show SL (71 + 9 * k + 0) ≤ 7302250
      rw [Nat.add_zero, SL_all]
      omega
  | succ n ih =>
    intro i I t1 t2 k h1 h2 h3 hI
    by_cases hc : sc.1 < i + 6
    · refine ⟨mkH I t1 t2 k sc, ?_, ?_, ?_⟩
      · rw [b9_0_18 10, decide_eq_true ((lt_six hL (by omega)).mpr hc), cond_true, b9_0_1411 10]
      · show 71 + 9 * k + 0 ≤ 600000
        omega
      · show SL (71 + 9 * k + 0) ≤ 7302250
        rw [Nat.add_zero, SL_all]
        omega
    · obtain ⟨J, u1, u2, k', hJ, hk, hd⟩ := law_body (i := i) hops hI (by omega) hL
      obtain ⟨h, e1, e2⟩ := ih (i + 6) J u1 u2 k' (by omega) (by omega) (by omega) hJ
      refine ⟨h, ?_, e2⟩
      rw [b9_0_18 10, decide_eq_false (fun q => hc ((lt_six hL (by omega)).mp q)), cond_false, hd, b9_0_1405 10]
      have e6 : nI i + 6 = nI (i + 6) := nI_add i 6
      rw [e6]
      exact e1
theorem law_of {Inv : INV} (hini : INI Inv) (hops : OPS Inv) : LAW := by
  intro L xs hL
  obtain ⟨I0, hI, hd⟩ := hini L xs
  obtain ⟨h, e1, e2⟩ := law_loop hops (sc := (L, xs)) hL 513 0 I0 (fun _ => none) (fun _ => none) 0 (by show L < 0 + 6 * 513; omega) (by omega) (by show 0 ≤ L + 6; omega) hI
  refine ⟨h, ?_, e2⟩
  rw [hd]
  exact e1
