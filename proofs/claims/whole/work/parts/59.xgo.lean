/-! the class lets minutes go -/
theorem FG.h9 {g : Nat} {I J : IFn} (h : FG g I J) : J 0 g 9 = I 0 g 9 := h _ _ _ (by omega)
theorem FG.h10 {g : Nat} {I J : IFn} (h : FG g I J) : J 0 g 10 = I 0 g 10 := h _ _ _ (by omega)
section
variable (d : Nat) (I : IFn) (t1 t2 : TFn) (k : Nat) (sc : Nat × (Nat → Int32))
theorem x_minute {g h n th : Nat} (hg : g = 8 ∨ g = 35) (h2 : 2 ≤ h) (h58 : h ≤ 58) {C : Nat → Int32} {γ : Men} {R : Int32} (hm : MenX g I γ) (hok : okMn γ) (h9 : I 0 g 9 = nI th) (hR : I 0 g 10 = R) (hx : XB I t1 k n th C) (x2 x4 : Int32) (l5 l6 l7 : Option AV) (hl : (l5 = none ∧ l6 = none ∧ l7 = none) ∨ ∃ a b c, l5 = some (vi a) ∧ l6 = some (vi b) ∧ l7 = some (vi c)) : ∃ J a b c, den (d + 4, 0, 11, 37, [some (vr 0 g), some (vr 0 4), some (vi x2), some (vi (nI h)), some (vi x4), l5, l6, l7], [], mkH I t1 t2 k sc) = den (d + 4, 0, 11, 24, [some (vr 0 g), some (vr 0 4), some (vi x2), some (vi (nI h)), some (vi (x4 + 1)), some (vi a), some (vi b), some (vi c)], [], mkH (J) t1 t2 k sc) ∧ MenX g J (miF (nI h) (solC C) R γ) ∧ FG g I J ∧ (J 0 g 12 = 1 ∨ (J 0 g 12 = 0 ∧ miF (nI h) (solC C) R γ = γ)) := by
  have fA : FG g I (uI I 0 g 12 0) := fun g' j i q => uI_ne (by omega)
  have mA : MenX g (uI I 0 g 12 0) γ := hm.keep (fun j i _ _ _ => uI_ne (by omega))
  generalize hIA : uI I 0 g 12 0 = IA at fA mA
  have fl0 : IA 0 g 12 = 0 := by rw [← hIA, uI_at (by omega)]
  have xsel := x_sel IA mA hok
  obtain ⟨l7', hl7, e1⟩ : ∃ l7', lok l7' ∧ den (d + 4, 0, 11, 37, [some (vr 0 g), some (vr 0 4), some (vi x2), some (vi (nI h)), some (vi x4), l5, l6, l7], [], mkH I t1 t2 k sc) = den (d + 4, 0, 11, 58, [some (vr 0 g), some (vr 0 4), some (vi x2), some (vi (nI h)), some (vi x4), some (vi (fS (seB γ) 10)), some (vi (nI 0)), l7'], [], mkH (IA) t1 t2 k sc) := by
    rcases hl with ⟨rfl, rfl, rfl⟩ | ⟨a, b, c, rfl, rfl, rfl⟩
    · refine ⟨none, Or.inl rfl, ?_⟩
      rw [b0_11_37 (d + 3) (by omega), hIA]
      simp (disch := omega) only [bnd, b0_11_46, b0_11_50, x_answerSet, x_outSet, xsel, nI_0]
    · refine ⟨some (vi c), Or.inr ⟨c, rfl⟩, ?_⟩
      rw [b0_11_37w (d + 3) (by omega), hIA]
      simp (disch := omega) only [bnd, b0_11_46w, b0_11_50w, x_answerSet, x_outSet, xsel, nI_0]
  obtain ⟨J1, e2, r1⟩ := x_stage IA (g := g) (F := woF (nI h) (solC C)) (fun p J => den (d + 4, 0, 11, 58, [some (vr 0 g), some (vr 0 4), some (vi x2), some (vi (nI h)), some (vi x4), some (vi (fS (seB γ) 10)), some (vi (nI p)), l7'], [], mkH (J) t1 t2 k sc)) (fun J δ => okMn δ ∧ J 0 g 9 = nI th ∧ XB J t1 k n th C) (γ := γ)
    (fun p hp J hJ => ⟨(s1_ok h2 h58 (solC C) hok p (by omega)).1, by rw [hJ.2.1.h9, fA.h9]; exact h9, (hx.keep hg fA).keep hg hJ.2.1⟩)
    (by
      intro p J δ hp hδ ⟨q1, q2, q3⟩
      obtain ⟨K, e, r⟩ := x_workOn d J t1 t2 k sc hg hp h2 h58 hδ q1 q2 q3
      refine ⟨K, ?_, r⟩
      rcases hl7 with rfl | ⟨y, rfl⟩
      · rw [b0_11_58]
        simp (disch := omega) only [bnd, bnd0, ↓cdec, ↓cnot, ↓reduceIte, Bo_0, Bo_1, ↓Bo_ok, i10, i01, eq_self, decide_true, decide_false, Bool.or_true, Bool.true_or, Bool.or_false, Bool.false_or, cond_true, cond_false, not_true_eq_false, not_false_eq_true, Bool.false_eq_true, and_self, and_true, true_and, and_false, false_and, nI_clamp, ↓inbc, inb_n, nI_pos, nI_1, lt_10, hp, b0_11_65, b0_11_73, e]
      · rw [b0_11_58w]
        simp (disch := omega) only [bnd, bnd0, ↓cdec, ↓cnot, ↓reduceIte, Bo_0, Bo_1, ↓Bo_ok, i10, i01, eq_self, decide_true, decide_false, Bool.or_true, Bool.true_or, Bool.or_false, Bool.false_or, cond_true, cond_false, not_true_eq_false, not_false_eq_true, Bool.false_eq_true, and_self, and_true, true_and, and_false, false_and, nI_clamp, ↓inbc, inb_n, nI_pos, nI_1, lt_10, hp, b0_11_65w, b0_11_73w, e]) mA
  have m1 : MenX g J1 (s1F (nI h) (solC C) γ) := r1.1
  obtain ⟨ok1, kp1⟩ := s1_ok h2 h58 (solC C) hok 10 (by omega)
  have ok1' : okMn (s1F (nI h) (solC C) γ) := ok1
  have kp1' : Kp γ (s1F (nI h) (solC C) γ) := kp1
  have xsel1 := x_sel J1 m1 ok1'
  have e3 : den (d + 4, 0, 11, 58, [some (vr 0 g), some (vr 0 4), some (vi x2), some (vi (nI h)), some (vi x4), some (vi (fS (seB γ) 10)), some (vi (nI 10)), l7'], [], mkH (J1) t1 t2 k sc) = den (d + 4, 0, 11, 95, [some (vr 0 g), some (vr 0 4), some (vi x2), some (vi (nI h)), some (vi x4), some (vi (fS (seB γ) 10)), some (vi (fS (seB (s1F (nI h) (solC C) γ)) 10)), some (vi (nI 0))], [], mkH (J1) t1 t2 k sc) := by
    rcases hl7 with rfl | ⟨y, rfl⟩
    · rw [b0_11_58]
      simp (disch := omega) only [bnd, ↓cdec, ↓reduceIte, lt_10, Nat.lt_irrefl, b0_11_79, b0_11_83, b0_11_87, x_answerSet, x_outSet, xsel1, nI_0]
    · rw [b0_11_58w]
      simp (disch := omega) only [bnd, ↓cdec, ↓reduceIte, lt_10, Nat.lt_irrefl, b0_11_79w, b0_11_83w, b0_11_87w, x_answerSet, x_outSet, xsel1, nI_0]
  have h010 : 0 < 10 := by omega
  have z10 : (0 : Int32) < 10 := by decide
  by_cases hz : fS (seB (s1F (nI h) (solC C) γ)) 10 = 0
  · have hno := (fS_zero (n := 10) (by omega)).mp hz
    have hno0 : ∀ p, p < 10 → seB γ p = false := fun p hp => by
      cases hs : seB γ p with
      | false => rfl
      | true => have := kp1'.se hs; rw [hno p hp] at this; exact absurd this (by decide)
    have hz0 : fS (seB γ) 10 = 0 := (fS_zero (n := 10) (by omega)).mpr hno0
    have p2 : s2F (nI h) (solC C) γ = s1F (nI h) (solC C) γ := fp_id (fun p _ => bu_no hno p) 10 (by omega)
    have p3 : s3F (nI h) (solC C) γ = s1F (nI h) (solC C) γ := by rw [s3F, p2]; exact fp_id (fun p _ => li_no hno0 _ p) 10 (by omega)
    have p4 : miF (nI h) (solC C) R γ = s1F (nI h) (solC C) γ := by rw [miF, p3]; exact fp_id (fun p hp => do_no (hno p hp)) 10 (by omega)
    refine ⟨J1, fS (seB γ) 10, fS (seB (s1F (nI h) (solC C) γ)) 10, 0, e1.trans (e2.trans (e3.trans ?_)), by rw [p4]; exact m1, fA.trans r1.2.1, ?_⟩
    · rw [b0_11_95, hz, hz0]
      simp (disch := omega) only [bnd, bnd0, ↓cdec, ↓cnot, ↓reduceIte, Bo_0, Bo_1, ↓Bo_ok, i10, i01, eq_self, decide_true, decide_false, Bool.or_true, Bool.true_or, Bool.or_false, Bool.false_or, cond_true, cond_false, not_true_eq_false, not_false_eq_true, Bool.false_eq_true, and_self, and_true, true_and, and_false, false_and, nI_clamp, ↓inbc, inb_n, nI_pos, nI_1, lt_10, h010, z10, b0_11_102, b0_11_119, b0_11_122, b0_11_129, b0_11_148, b0_11_151, b0_11_158, b0_11_175]
    · rw [p4]
      rcases r1.2.2 with z | ⟨z1, z2⟩
      · exact Or.inl z
      · exact Or.inr ⟨z1.trans fl0, z2⟩
  · obtain ⟨J2, e4, r2⟩ := x_stage J1 (g := g) (F := buF) (fun p J => den (d + 4, 0, 11, 95, [some (vr 0 g), some (vr 0 4), some (vi x2), some (vi (nI h)), some (vi x4), some (vi (fS (seB γ) 10)), some (vi (fS (seB (s1F (nI h) (solC C) γ)) 10)), some (vi (nI p))], [], mkH (J) t1 t2 k sc)) (fun J δ => True) (γ := s1F (nI h) (solC C) γ) (fun p hp J hJ => trivial)
      (by
        intro p J δ hp hδ _
        obtain ⟨K, e, r⟩ := x_buy d J t1 t2 k sc hg hp hδ
        refine ⟨K, ?_, r⟩
        rw [b0_11_95]
        simp (disch := omega) only [bnd, bnd0, ↓cdec, ↓cnot, ↓reduceIte, Bo_0, Bo_1, ↓Bo_ok, i10, i01, eq_self, decide_true, decide_false, Bool.or_true, Bool.true_or, Bool.or_false, Bool.false_or, cond_true, cond_false, not_true_eq_false, not_false_eq_true, Bool.false_eq_true, and_self, and_true, true_and, and_false, false_and, nI_clamp, ↓inbc, inb_n, nI_pos, nI_1, lt_10, hp, b0_11_102, hz, b0_11_107, b0_11_113, e]) m1
    have m2 : MenX g J2 (s2F (nI h) (solC C) γ) := r2.1
    obtain ⟨J3, a3, e5, r3⟩ : ∃ J3 a3, den (d + 4, 0, 11, 95, [some (vr 0 g), some (vr 0 4), some (vi x2), some (vi (nI h)), some (vi x4), some (vi (fS (seB γ) 10)), some (vi (fS (seB (s1F (nI h) (solC C) γ)) 10)), some (vi (nI 10))], [], mkH (J2) t1 t2 k sc) = den (d + 4, 0, 11, 148, [some (vr 0 g), some (vr 0 4), some (vi x2), some (vi (nI h)), some (vi x4), some (vi (fS (seB γ) 10)), some (vi (fS (seB (s1F (nI h) (solC C) γ)) 10)), some (vi a3)], [], mkH (J3) t1 t2 k sc) ∧ XR g J2 J3 (s2F (nI h) (solC C) γ) (s3F (nI h) (solC C) γ) := by
      have ea : den (d + 4, 0, 11, 95, [some (vr 0 g), some (vr 0 4), some (vi x2), some (vi (nI h)), some (vi x4), some (vi (fS (seB γ) 10)), some (vi (fS (seB (s1F (nI h) (solC C) γ)) 10)), some (vi (nI 10))], [], mkH (J2) t1 t2 k sc) = den (d + 4, 0, 11, 122, [some (vr 0 g), some (vr 0 4), some (vi x2), some (vi (nI h)), some (vi x4), some (vi (fS (seB γ) 10)), some (vi (fS (seB (s1F (nI h) (solC C) γ)) 10)), some (vi (nI 0))], [], mkH (J2) t1 t2 k sc) := by
        rw [b0_11_95]
        simp (disch := omega) only [bnd, bnd0, ↓cdec, ↓cnot, ↓reduceIte, Bo_0, Bo_1, ↓Bo_ok, i10, i01, eq_self, decide_true, decide_false, Bool.or_true, Bool.true_or, Bool.or_false, Bool.false_or, cond_true, cond_false, not_true_eq_false, not_false_eq_true, Bool.false_eq_true, and_self, and_true, true_and, and_false, false_and, nI_clamp, ↓inbc, inb_n, nI_pos, nI_1, lt_10, Nat.lt_irrefl, b0_11_119, nI_0]
      by_cases hz0 : fS (seB γ) 10 = 0
      · have hno0 := (fS_zero (n := 10) (by omega)).mp hz0
        have p3 : s3F (nI h) (solC C) γ = s2F (nI h) (solC C) γ := fp_id (fun p _ => li_no hno0 _ p) 10 (by omega)
        refine ⟨J2, nI 0, ea.trans ?_, by rw [p3]; exact XR.rfl m2⟩
        rw [b0_11_122]
        simp (disch := omega) only [bnd, bnd0, ↓cdec, ↓cnot, ↓reduceIte, Bo_0, Bo_1, ↓Bo_ok, i10, i01, eq_self, decide_true, decide_false, Bool.or_true, Bool.true_or, Bool.or_false, Bool.false_or, cond_true, cond_false, not_true_eq_false, not_false_eq_true, Bool.false_eq_true, and_self, and_true, true_and, and_false, false_and, nI_clamp, ↓inbc, inb_n, nI_pos, nI_1, lt_10, h010, b0_11_129, hz0]
      · obtain ⟨J3, e, r⟩ := x_stage J2 (g := g) (F := liF (seB γ)) (fun p J => den (d + 4, 0, 11, 122, [some (vr 0 g), some (vr 0 4), some (vi x2), some (vi (nI h)), some (vi x4), some (vi (fS (seB γ) 10)), some (vi (fS (seB (s1F (nI h) (solC C) γ)) 10)), some (vi (nI p))], [], mkH (J) t1 t2 k sc)) (fun J δ => True) (γ := s2F (nI h) (solC C) γ) (fun p hp J hJ => trivial)
          (by
            intro p J δ hp hδ _
            obtain ⟨K, e, r⟩ := x_lips (d + 2) J t1 t2 k sc hg hp hδ (seB γ)
            refine ⟨K, ?_, r⟩
            rw [b0_11_122]
            simp (disch := omega) only [bnd, bnd0, ↓cdec, ↓cnot, ↓reduceIte, Bo_0, Bo_1, ↓Bo_ok, i10, i01, eq_self, decide_true, decide_false, Bool.or_true, Bool.true_or, Bool.or_false, Bool.false_or, cond_true, cond_false, not_true_eq_false, not_false_eq_true, Bool.false_eq_true, and_self, and_true, true_and, and_false, false_and, nI_clamp, ↓inbc, inb_n, nI_pos, nI_1, lt_10, hp, b0_11_129, hz0, b0_11_134, b0_11_142, e]) m2
        refine ⟨J3, nI 10, ea.trans (e.trans ?_), r⟩
        rw [b0_11_122]
        simp (disch := omega) only [bnd, bnd0, ↓cdec, ↓cnot, ↓reduceIte, Bo_0, Bo_1, ↓Bo_ok, i10, i01, eq_self, decide_true, decide_false, Bool.or_true, Bool.true_or, Bool.or_false, Bool.false_or, cond_true, cond_false, not_true_eq_false, not_false_eq_true, Bool.false_eq_true, and_self, and_true, true_and, and_false, false_and, nI_clamp, ↓inbc, inb_n, nI_pos, nI_1, lt_10, Nat.lt_irrefl]
    have m3 : MenX g J3 (s3F (nI h) (solC C) γ) := r3.1
    have f3 : FG g I J3 := ((fA.trans r1.2.1).trans r2.2.1).trans r3.2.1
    obtain ⟨J4, e6, r4⟩ := x_stage J3 (g := g) (F := doF R) (fun p J => den (d + 4, 0, 11, 151, [some (vr 0 g), some (vr 0 4), some (vi x2), some (vi (nI h)), some (vi x4), some (vi (fS (seB γ) 10)), some (vi (fS (seB (s1F (nI h) (solC C) γ)) 10)), some (vi (nI p))], [], mkH (J) t1 t2 k sc)) (fun J δ => J 0 g 10 = R) (γ := s3F (nI h) (solC C) γ) (fun p hp J hJ => by rw [hJ.2.1.h10, f3.h10]; exact hR)
      (by
        intro p J δ hp hδ hr
        obtain ⟨K, e, r⟩ := x_door (d + 2) J t1 t2 k sc hg hp hδ hr
        refine ⟨K, ?_, r⟩
        rw [b0_11_151]
        simp (disch := omega) only [bnd, bnd0, ↓cdec, ↓cnot, ↓reduceIte, Bo_0, Bo_1, ↓Bo_ok, i10, i01, eq_self, decide_true, decide_false, Bool.or_true, Bool.true_or, Bool.or_false, Bool.false_or, cond_true, cond_false, not_true_eq_false, not_false_eq_true, Bool.false_eq_true, and_self, and_true, true_and, and_false, false_and, nI_clamp, ↓inbc, inb_n, nI_pos, nI_1, lt_10, hp, b0_11_158, hz, b0_11_163, b0_11_169, e]) m3
    have rr := ((XR.trans r1 (XR.trans r2 (XR.trans r3 r4))))
    refine ⟨J4, fS (seB γ) 10, fS (seB (s1F (nI h) (solC C) γ)) 10, nI 10, e1.trans (e2.trans (e3.trans (e4.trans (e5.trans ?_)))), r4.1, f3.trans r4.2.1, ?_⟩
    · rw [b0_11_148]
      refine Eq.trans e6 ?_
      rw [b0_11_151]
      simp (disch := omega) only [bnd, bnd0, ↓cdec, ↓cnot, ↓reduceIte, Bo_0, Bo_1, ↓Bo_ok, i10, i01, eq_self, decide_true, decide_false, Bool.or_true, Bool.true_or, Bool.or_false, Bool.false_or, cond_true, cond_false, not_true_eq_false, not_false_eq_true, Bool.false_eq_true, and_self, and_true, true_and, and_false, false_and, nI_clamp, ↓inbc, inb_n, nI_pos, nI_1, lt_10, Nat.lt_irrefl, b0_11_175]
    · rcases rr.2.2 with z | ⟨z1, z2⟩
      · exact Or.inl z
      · exact Or.inr ⟨z1.trans fl0, z2⟩
theorem x_goLoop {g h n th N : Nat} (hg : g = 8 ∨ g = 35) (h2 : 2 ≤ h) (h58 : h ≤ 58) (hN : N ≤ 480) {C : Nat → Int32} {R : Int32} : ∀ m i (J : IFn) (γ : Men) (l5 l6 l7 : Option AV), i + m = N → ((l5 = none ∧ l6 = none ∧ l7 = none) ∨ ∃ a b c, l5 = some (vi a) ∧ l6 = some (vi b) ∧ l7 = some (vi c)) → MenX g J γ → okMn γ → J 0 g 9 = nI th → J 0 g 10 = R → XB J t1 k n th C → (J 0 g 12 = 1 ∨ (J 0 g 12 = 0 ∧ miF (nI h) (solC C) R γ = γ)) → ∃ K, den (d + 4, 0, 11, 24, [some (vr 0 g), some (vr 0 4), some (vi (nI N)), some (vi (nI h)), some (vi (nI i)), l5, l6, l7], [], mkH (J) t1 t2 k sc) = some (none, mkH (uI K 0 g 11 (K 0 g 11 + nI N)) t1 t2 k sc) ∧ MenX g K (itF (miF (nI h) (solC C) R) m γ) ∧ FG g J K
  | 0, i, J, γ, l5, l6, l7, hi, hl, hm, hok, h9, hR, hx, hfl => by
    have hge : ¬ nI i < nI N := nI_nlt (by omega) (by omega)
    refine ⟨J, ?_, hm, FG.rfl⟩
    rcases hl with ⟨rfl, rfl, rfl⟩ | ⟨a, b, c, rfl, rfl, rfl⟩
    · rw [b0_11_24]
      simp (disch := omega) only [bnd, bnd0, ↓cdec, ↓cnot, ↓reduceIte, Bo_0, Bo_1, ↓Bo_ok, i10, i01, eq_self, decide_true, decide_false, Bool.or_true, Bool.true_or, Bool.or_false, Bool.false_or, cond_true, cond_false, not_true_eq_false, not_false_eq_true, Bool.false_eq_true, and_self, and_true, true_and, and_false, false_and, nI_clamp, ↓inbc, inb_n, nI_pos, nI_1, hge, b0_11_181]
    · rw [b0_11_24w]
      simp (disch := omega) only [bnd, bnd0, ↓cdec, ↓cnot, ↓reduceIte, Bo_0, Bo_1, ↓Bo_ok, i10, i01, eq_self, decide_true, decide_false, Bool.or_true, Bool.true_or, Bool.or_false, Bool.false_or, cond_true, cond_false, not_true_eq_false, not_false_eq_true, Bool.false_eq_true, and_self, and_true, true_and, and_false, false_and, nI_clamp, ↓inbc, inb_n, nI_pos, nI_1, hge, b0_11_181w]
  | m + 1, i, J, γ, l5, l6, l7, hi, hl, hm, hok, h9, hR, hx, hfl => by
    have hlt : nI i < nI N := nI_lt (by omega) (by omega)
    rcases hfl with hfl | ⟨hfl, hfix⟩
    · have hne : ¬ J 0 g 12 = 0 := by rw [hfl]; decide
      obtain ⟨J1, a, b, c, e, m1, f1, fl1⟩ := x_minute d J t1 t2 k sc hg h2 h58 hm hok h9 hR hx (nI N) (nI i) l5 l6 l7 hl
      have stay : (J1 0 g 12 = 1 ∨ (J1 0 g 12 = 0 ∧ miF (nI h) (solC C) R (miF (nI h) (solC C) R γ) = miF (nI h) (solC C) R γ)) := by
        rcases fl1 with z | ⟨z1, z2⟩
        · exact Or.inl z
        · exact Or.inr ⟨z1, by rw [z2, z2]⟩
      obtain ⟨K, e2, k1, k2⟩ := x_goLoop hg h2 h58 hN m (i + 1) J1 (miF (nI h) (solC C) R γ) (some (vi a)) (some (vi b)) (some (vi c)) (by omega) (Or.inr ⟨a, b, c, rfl, rfl, rfl⟩) m1 (mi_ok h2 h58 _ hok R) (by rw [f1.h9]; exact h9) (by rw [f1.h10]; exact hR) (hx.keep hg f1) stay
      refine ⟨K, ?_, k1, f1.trans k2⟩
      have hd : den (d + 4, 0, 11, 24, [some (vr 0 g), some (vr 0 4), some (vi (nI N)), some (vi (nI h)), some (vi (nI i)), l5, l6, l7], [], mkH (J) t1 t2 k sc) = den (d + 4, 0, 11, 37, [some (vr 0 g), some (vr 0 4), some (vi (nI N)), some (vi (nI h)), some (vi (nI i)), l5, l6, l7], [], mkH (J) t1 t2 k sc) := by
        rcases hl with ⟨rfl, rfl, rfl⟩ | ⟨a, b, c, rfl, rfl, rfl⟩
        · rw [b0_11_24]
          simp (disch := omega) only [bnd, bnd0, ↓cdec, ↓cnot, ↓reduceIte, Bo_0, Bo_1, ↓Bo_ok, i10, i01, eq_self, decide_true, decide_false, Bool.or_true, Bool.true_or, Bool.or_false, Bool.false_or, cond_true, cond_false, not_true_eq_false, not_false_eq_true, Bool.false_eq_true, and_self, and_true, true_and, and_false, false_and, nI_clamp, ↓inbc, inb_n, nI_pos, nI_1, hlt, b0_11_30, hne]
        · rw [b0_11_24w]
          simp (disch := omega) only [bnd, bnd0, ↓cdec, ↓cnot, ↓reduceIte, Bo_0, Bo_1, ↓Bo_ok, i10, i01, eq_self, decide_true, decide_false, Bool.or_true, Bool.true_or, Bool.or_false, Bool.false_or, cond_true, cond_false, not_true_eq_false, not_false_eq_true, Bool.false_eq_true, and_self, and_true, true_and, and_false, false_and, nI_clamp, ↓inbc, inb_n, nI_pos, nI_1, hlt, b0_11_30w, hne]
      rw [nI_1] at e
      exact hd.trans (e.trans e2)
    · refine ⟨J, ?_, by rw [it_fix hfix]; exact hm, FG.rfl⟩
      rcases hl with ⟨rfl, rfl, rfl⟩ | ⟨a, b, c, rfl, rfl, rfl⟩
      · rw [b0_11_24]
        simp (disch := omega) only [bnd, bnd0, ↓cdec, ↓cnot, ↓reduceIte, Bo_0, Bo_1, ↓Bo_ok, i10, i01, eq_self, decide_true, decide_false, Bool.or_true, Bool.true_or, Bool.or_false, Bool.false_or, cond_true, cond_false, not_true_eq_false, not_false_eq_true, Bool.false_eq_true, and_self, and_true, true_and, and_false, false_and, nI_clamp, ↓inbc, inb_n, nI_pos, nI_1, hlt, b0_11_30, hfl, b0_11_181]
      · rw [b0_11_24w]
        simp (disch := omega) only [bnd, bnd0, ↓cdec, ↓cnot, ↓reduceIte, Bo_0, Bo_1, ↓Bo_ok, i10, i01, eq_self, decide_true, decide_false, Bool.or_true, Bool.true_or, Bool.or_false, Bool.false_or, cond_true, cond_false, not_true_eq_false, not_false_eq_true, Bool.false_eq_true, and_self, and_true, true_and, and_false, false_and, nI_clamp, ↓inbc, inb_n, nI_pos, nI_1, hlt, b0_11_30w, hfl, b0_11_181w]
/-- goOn, with a sum -/
theorem x_goOn {g n th N : Nat} (hg : g = 8 ∨ g = 35) (hN : N ≤ 480) {C : Nat → Int32} {γ : Men} (hm : MenX g I γ) (hok : okMn γ) (h9 : I 0 g 9 = nI th) (hx : XB I t1 k n th C) (hc2 : rng 2 39 (C 2)) : ∃ J, den (d + 4, 0, 11, 0, [some (vr 0 g), some (vr 0 4), some (vi (nI N)), none, none, none, none, none], [], mkH I t1 t2 k sc) = some (none, mkH (J) t1 t2 k sc) ∧ MenX g J (itF (miF (hardC C) (solC C) (I 0 g 10)) N γ) ∧ J 0 g 11 = I 0 g 11 + nI N ∧ ∀ g' j i, ¬ (g' = 0 ∧ ((j = g ∧ (i = 11 ∨ i = 12)) ∨ (g + 1 ≤ j ∧ j ≤ g + 9))) → J g' j i = I g' j i := by
  obtain ⟨h, h2, h58, eh⟩ := hard_ok hc2
  obtain ⟨b1, b2, b3, b4, b5⟩ := hx
  have hxx : XB I t1 k n th C := ⟨b1, b2, b3, b4, b5⟩
  have hb : 0 ≤ (nI th).toInt ∧ (nI th).toInt < (n : Int) := by rw [nI_toInt (by omega)]; omega
  have xh := x_hard (d + 2) I t1 t2 k sc b1 b2 b3 b4 b5
  have xha := x_has (d + 3) I t1 t2 k sc b1 b2 b3 (nI th)
  rw [Bo_t hb] at xha
  have fA : FG g I (uI I 0 g 12 1) := fun g' j i q => uI_ne (by omega)
  obtain ⟨K, e, k1, k2⟩ := x_goLoop d t1 t2 k sc (n := n) (th := th) hg h2 h58 hN (C := C) (R := I 0 g 10) N 0 (uI I 0 g 12 1) γ none none none (by omega) (Or.inl ⟨rfl, rfl, rfl⟩) (hm.keep (fun j i _ _ _ => uI_ne (by omega))) hok (by rw [fA.h9]; exact h9) fA.h10 (hxx.keep hg fA) (Or.inl (uI_at (by omega)))
  rw [eh]
  have fK := fA.trans k2
  refine ⟨uI K 0 g 11 (K 0 g 11 + nI N), ?_, k1.keep (fun j i _ _ _ => uI_ne (by omega)), ?_, fun g' j i q => ?_⟩
  · rw [eh] at xh
    simp (disch := omega) only [bnd, bnd0, ↓cdec, ↓cnot, ↓reduceIte, Bo_0, Bo_1, ↓Bo_ok, i10, i01, eq_self, decide_true, decide_false, Bool.or_true, Bool.true_or, Bool.or_false, Bool.false_or, cond_true, cond_false, not_true_eq_false, not_false_eq_true, Bool.false_eq_true, and_self, and_true, true_and, and_false, false_and, nI_clamp, ↓inbc, inb_n, nI_pos, nI_1, b0_11_0, b0_11_8, b0_11_18, h9, xh, xha]
    exact e
  · rw [uI_at (by omega), fK _ _ _ (by omega)]
  · rw [uI_ne (by omega), fK _ _ _ (by omega)]
/-- goOn, with none -/
theorem x_goOn0 {g n N : Nat} (hg : g = 8 ∨ g = 35) (hN : N ≤ 480) (hn : n ≤ 8) (h43 : I 0 4 3 = nI n) (ht : ∀ q, q < n → ∃ e, t1 q = some (e + 1, 0)) (h9 : I 0 g 9 = -1) : ∃ J, den (d + 4, 0, 11, 0, [some (vr 0 g), some (vr 0 4), some (vi (nI N)), none, none, none, none, none], [], mkH I t1 t2 k sc) = some (none, mkH (J) t1 t2 k sc) ∧ J 0 g 11 = I 0 g 11 + nI N ∧ ∀ g' j i, ¬ (g' = 0 ∧ j = g ∧ (i = 11 ∨ i = 12)) → J g' j i = I g' j i := by
  have hb : ¬ (0 ≤ (-1 : Int32).toInt ∧ (-1 : Int32).toInt < (n : Int)) := by rw [k32_m1]; omega
  have xha := fun d => x_has d I t1 t2 k sc hn h43 ht (-1)
  rw [Bo_f hb] at xha
  refine ⟨uI (uI I 0 g 12 0) 0 g 11 (I 0 g 11 + nI N), ?_, uI_at (by omega), fun g' j i q => by rw [uI_ne (by omega), uI_ne (by omega)]⟩
  simp (disch := omega) only [bnd, bnd0, ↓cdec, ↓cnot, ↓reduceIte, Bo_0, Bo_1, ↓Bo_ok, i10, i01, eq_self, decide_true, decide_false, Bool.or_true, Bool.true_or, Bool.or_false, Bool.false_or, cond_true, cond_false, not_true_eq_false, not_false_eq_true, Bool.false_eq_true, and_self, and_true, true_and, and_false, false_and, nI_clamp, ↓inbc, inb_n, nI_pos, nI_1, b0_11_0, b0_11_8, b0_11_18, b3_4_0, b3_4_5, b3_4_8, h9, xha]
  rw [b0_11_24]
  by_cases h0 : (0 : Int32) < nI N
  · simp (disch := omega) only [bnd, bnd0, ↓cdec, ↓cnot, ↓reduceIte, Bo_0, Bo_1, ↓Bo_ok, i10, i01, eq_self, decide_true, decide_false, Bool.or_true, Bool.true_or, Bool.or_false, Bool.false_or, cond_true, cond_false, not_true_eq_false, not_false_eq_true, Bool.false_eq_true, and_self, and_true, true_and, and_false, false_and, nI_clamp, ↓inbc, inb_n, nI_pos, nI_1, h0, b0_11_30, uI_at, b0_11_181, uI_ne]
  · simp (disch := omega) only [bnd, bnd0, ↓cdec, ↓cnot, ↓reduceIte, Bo_0, Bo_1, ↓Bo_ok, i10, i01, eq_self, decide_true, decide_false, Bool.or_true, Bool.true_or, Bool.or_false, Bool.false_or, cond_true, cond_false, not_true_eq_false, not_false_eq_true, Bool.false_eq_true, and_self, and_true, true_and, and_false, false_and, nI_clamp, ↓inbc, inb_n, nI_pos, nI_1, h0, b0_11_181, uI_ne]
end
