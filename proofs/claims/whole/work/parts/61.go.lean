/-! minutes of the reference, and both together -/
theorem fp_0 (F : Men → Nat → Men) (γ : Men) : fpF F γ 0 = γ := rfl
def FQ (I J : IFn) : Prop := ∀ g j i, ¬ (g = 0 ∧ (j = 64 ∨ j = 65 ∨ (j = 57 ∧ (i = 2 ∨ (5 ≤ i ∧ i < 95))))) → J g j i = I g j i
theorem FQ.rfl {I : IFn} : FQ I I := fun _ _ _ _ => Eq.refl _
theorem FQ.trans {I J K : IFn} (h : FQ I J) (h2 : FQ J K) : FQ I K := fun g j i q => (h2 g j i q).trans (h g j i q)
theorem FQ.cS {I J : IFn} (h : FQ I J) (q : Nat) : cS J q = cS I q := funext fun a => h _ _ _ (by omega)
theorem FM.fq {I J : IFn} (h : FM I J) : FQ I J := fun g j i q => h _ _ _ (by omega)
theorem do_w1 {R : Int32} {δ : Men} (hok : okMn δ) {p : Nat} (hp : p < 10) (h6 : ¬ δ 6 p < 0) (hl : ¬ R < δ 1 p) : g2 δ 8 p 1 = doF R δ p := by
  rw [doF]
  by_cases hs : seB δ p = true
  · rw [if_pos ⟨hs, hl⟩]
  · rw [if_neg (fun z => hs z.1)]
    obtain ⟨n, -, n1, en⟩ := (hok p hp).2.2.2.2.2.2.2.2
    have en' : δ 8 p = nI n := en
    have h8 : δ 8 p = 1 := by
      rcases (show n = 0 ∨ n = 1 by omega) with z | z
      · exact absurd (se_t.mpr ⟨by rw [en', z, nI_0], h6⟩) hs
      · rw [en', z]; rfl
    funext a q
    by_cases ez : a = 8 ∧ q = p
    · rw [g2_at ez, ez.1, ez.2, h8]
    · rw [g2_ne ez]
theorem do_w0 {R : Int32} {δ : Men} {p : Nat} (h : δ 6 p < 0 ∨ R < δ 1 p) : g2 δ 8 p (δ 8 p) = doF R δ p := by
  have : ¬ (seB δ p = true ∧ ¬ R < δ 1 p) := fun z => by
    rcases h with h | h
    · exact (se_t.mp z.1).2 h
    · exact z.2 h
  rw [doF, if_neg this]
  funext a q
  by_cases ez : a = 8 ∧ q = p
  · rw [g2_at ez, ez.1, ez.2]
  · rw [g2_ne ez]
section
variable (d : Nat) (I : IFn) (t1 t2 : TFn) (k : Nat) (sc : Nat × (Nat → Int32))
theorem m_minute {h th : Nat} (hth : th < 8) (h2 : 2 ≤ h) (h58 : h ≤ 58) {C : Nat → Int32} {K0 : IFn} {t0 : Option (Nat × Nat)} {k0 : Nat} {kd0 m0 : Int32} (hS : sumOK K0 t0 k0 kd0 m0 C) (hH : hardC C = nI h) {γ : Men} (hm : MenM I γ) (hok : okMn γ) (h1 : I 0 57 1 = nI th) (hC : cS I th = C) : ∃ J, den (d + 4, 8, 46, 0, [some (vr 0 56), none, none], [], mkH I t1 t2 k sc) = some (none, mkH (J) t1 t2 k sc) ∧ MenM J (miF (nI h) (solC C) (I 0 57 3) γ) ∧ J 0 57 2 = I 0 57 2 + 1 ∧ FQ I J := by
  have fA : FQ I (uI I 0 57 2 (I 0 57 2 + 1)) := fun g j i q => uI_ne (by omega)
  have mA' : MenM (uI I 0 57 2 (I 0 57 2 + 1)) γ := hm.keep (fun i _ _ => uI_ne (by omega))
  have a2 : (uI I 0 57 2 (I 0 57 2 + 1)) 0 57 2 = I 0 57 2 + 1 := uI_at (by omega)
  have e0 : den (d + 4, 8, 46, 0, [some (vr 0 56), none, none], [], mkH I t1 t2 k sc) = den (d + 4, 8, 46, 22, [some (vr 0 56), some (vi (nI 0)), none], [], mkH (uI I 0 57 2 (I 0 57 2 + 1)) t1 t2 k sc) := by
    simp (disch := omega) only [bnd, bnd0, ↓cdec, ↓cnot, ↓reduceIte, Bo_0, Bo_1, ↓Bo_ok, i10, i01, eq_self, decide_true, decide_false, Bool.or_true, Bool.true_or, Bool.or_false, Bool.false_or, cond_true, cond_false, not_true_eq_false, not_false_eq_true, Bool.false_eq_true, and_self, and_true, true_and, and_false, false_and, nI_clamp, ↓inbc, inb_n, nI_pos, nI_1, b8_46_0, b8_46_20, uI_ne, h1, nI_0]
  generalize uI I 0 57 2 (I 0 57 2 + 1) = IA at fA mA' a2 e0
  obtain ⟨J0, e1, q1, q2⟩ := lpE (fun p J => den (d + 4, 8, 46, 22, [some (vr 0 56), some (vi (nI p)), none], [], mkH (J) t1 t2 k sc))
    (fun p J => (∀ q, q < p → J 0 65 q = if seB γ q = true then γ 6 q else -1) ∧ ∀ g j i, ¬ (g = 0 ∧ j = 65) → J g j i = IA g j i) (N := 10)
    (by
      intro p J hp ⟨r1, r2⟩
      have mJ : MenM J γ := mA'.keep (fun i _ _ => r2 _ _ _ (by omega))
      have e8 : J 0 57 (5 + 9 * p + 8) = γ 8 p := mJ 8 p (by omega) hp
      have e6 : J 0 57 (5 + 9 * p + 6) = γ 6 p := mJ 6 p (by omega) hp
      refine ⟨uI J 0 65 p (if seB γ p = true then γ 6 p else -1), ?_, fun q hq => ?_, fun g j i hn => by rw [uI_ne (by omega)]; exact r2 _ _ _ hn⟩
      · rw [b8_46_22]
        by_cases h8 : γ 8 p = 0
        · have ev : (if seB γ p = true then γ 6 p else -1) = γ 6 p := by
            by_cases hs : seB γ p = true
            · rw [if_pos hs]
            · rw [if_neg hs]
              have h6 : γ 6 p < 0 := by
                by_cases h6 : γ 6 p < 0
                · exact h6
                · exact absurd (se_t.mpr ⟨h8, h6⟩) hs
              exact ((opt_neg (hok p hp).2.2.2.2.2.2.1 (by omega)).mp h6).symm
          rw [ev]
          simp (disch := omega) only [bnd, bnd0, ↓cdec, ↓cnot, ↓reduceIte, Bo_0, Bo_1, ↓Bo_ok, i10, i01, eq_self, decide_true, decide_false, Bool.or_true, Bool.true_or, Bool.or_false, Bool.false_or, cond_true, cond_false, not_true_eq_false, not_false_eq_true, Bool.false_eq_true, and_self, and_true, true_and, and_false, false_and, nI_clamp, ↓inbc, inb_n, nI_pos, nI_1, lt_10, hp, b8_46_28, b8_46_43, b8_46_47, b8_46_57, b8_46_62, mA_8, mA_6, e8, e6, h8]
        · have ev : (if seB γ p = true then γ 6 p else -1) = -1 := if_neg (fun z => h8 (se_t.mp z).1)
          rw [ev]
          simp (disch := omega) only [bnd, bnd0, ↓cdec, ↓cnot, ↓reduceIte, Bo_0, Bo_1, ↓Bo_ok, i10, i01, eq_self, decide_true, decide_false, Bool.or_true, Bool.true_or, Bool.or_false, Bool.false_or, cond_true, cond_false, not_true_eq_false, not_false_eq_true, Bool.false_eq_true, and_self, and_true, true_and, and_false, false_and, nI_clamp, ↓inbc, inb_n, nI_pos, nI_1, lt_10, hp, b8_46_28, b8_46_43, b8_46_61, b8_46_62, mA_8, e8, h8]
      · by_cases ez : q = p
        · subst ez; exact uI_at (by omega)
        · rw [uI_ne (by omega)]; exact r1 q (by omega)) 0 IA (by omega) ⟨fun q hq => by omega, fun g j i hn => rfl⟩
  have f0 : FQ IA J0 := fun g j i q => q2 _ _ _ (by omega)
  have m0' : MenM J0 γ := mA'.keep (fun i _ _ => q2 _ _ _ (by omega))
  have t0' : J0 0 57 1 = nI th := by rw [f0 _ _ _ (by omega), fA _ _ _ (by omega)]; exact h1
  have C0 : cS J0 th = C := (f0.cS th).trans ((fA.cS th).trans hC)
  have e2 : den (d + 4, 8, 46, 22, [some (vr 0 56), some (vi (nI 10)), none], [], mkH (J0) t1 t2 k sc) = den (d + 4, 8, 46, 71, [some (vr 0 56), some (vi (nI 0)), none], [], mkH (J0) t1 t2 k sc) := by
    rw [b8_46_22]
    simp (disch := omega) only [bnd, bnd0, ↓cdec, ↓cnot, ↓reduceIte, Bo_0, Bo_1, ↓Bo_ok, i10, i01, eq_self, decide_true, decide_false, Bool.or_true, Bool.true_or, Bool.or_false, Bool.false_or, cond_true, cond_false, not_true_eq_false, not_false_eq_true, Bool.false_eq_true, and_self, and_true, true_and, and_false, false_and, nI_clamp, ↓inbc, inb_n, nI_pos, nI_1, lt_10, Nat.lt_irrefl, b8_46_69, nI_0]
  obtain ⟨J1, e3, r1, r2⟩ := lpE (fun p J => den (d + 4, 8, 46, 71, [some (vr 0 56), some (vi (nI p)), none], [], mkH (J) t1 t2 k sc))
    (fun p J => MenM J (fpF (woF (nI h) (solC C)) γ p) ∧ FM J0 J) (N := 10)
    (by
      intro p J hp ⟨w1, w2⟩
      have ok := (s1_ok h2 h58 (solC C) hok p (by omega)).1
      have mo := m_isOpen (d + 2) J t1 t2 k sc w1 hp
      rw [fpF]
      by_cases ho : opB (fpF (woF (nI h) (solC C)) γ p) p = true
      · obtain ⟨K, e, k1, k2⟩ := m_works d J t1 t2 k sc hp hth h2 h58 hS hH w1 ok ho (by rw [w2 _ _ _ (by omega)]; exact t0') ((w2.cS th).trans C0)
        refine ⟨K, ?_, k1, w2.trans k2⟩
        rw [b8_46_71]
        simp (disch := omega) only [bnd, bnd0, ↓cdec, ↓cnot, ↓reduceIte, Bo_0, Bo_1, ↓Bo_ok, i10, i01, eq_self, decide_true, decide_false, Bool.or_true, Bool.true_or, Bool.or_false, Bool.false_or, cond_true, cond_false, not_true_eq_false, not_false_eq_true, Bool.false_eq_true, and_self, and_true, true_and, and_false, false_and, nI_clamp, ↓inbc, inb_n, nI_pos, nI_1, lt_10, hp, b8_46_77, b8_46_82, b8_46_85, b8_46_90, mo, ho, e]
      · refine ⟨J, ?_, by rw [woF, if_neg ho]; exact w1, w2⟩
        rw [b8_46_71]
        simp (disch := omega) only [bnd, bnd0, ↓cdec, ↓cnot, ↓reduceIte, Bo_0, Bo_1, ↓Bo_ok, i10, i01, eq_self, decide_true, decide_false, Bool.or_true, Bool.true_or, Bool.or_false, Bool.false_or, cond_true, cond_false, not_true_eq_false, not_false_eq_true, Bool.false_eq_true, and_self, and_true, true_and, and_false, false_and, nI_clamp, ↓inbc, inb_n, nI_pos, nI_1, lt_10, hp, b8_46_77, b8_46_82, b8_46_90, mo, ho]) 0 J0 (by omega) ⟨by rw [fp_0]; exact m0', FM.rfl⟩
  have e4 : den (d + 4, 8, 46, 71, [some (vr 0 56), some (vi (nI 10)), none], [], mkH (J1) t1 t2 k sc) = den (d + 4, 8, 46, 98, [some (vr 0 56), some (vi (nI 0)), none], [], mkH (J1) t1 t2 k sc) := by
    rw [b8_46_71]
    simp (disch := omega) only [bnd, bnd0, ↓cdec, ↓cnot, ↓reduceIte, Bo_0, Bo_1, ↓Bo_ok, i10, i01, eq_self, decide_true, decide_false, Bool.or_true, Bool.true_or, Bool.or_false, Bool.false_or, cond_true, cond_false, not_true_eq_false, not_false_eq_true, Bool.false_eq_true, and_self, and_true, true_and, and_false, false_and, nI_clamp, ↓inbc, inb_n, nI_pos, nI_1, lt_10, Nat.lt_irrefl, b8_46_96, nI_0]
  obtain ⟨J2, e5, r3, r4⟩ := lpE (fun p J => den (d + 4, 8, 46, 98, [some (vr 0 56), some (vi (nI p)), none], [], mkH (J) t1 t2 k sc))
    (fun p J => MenM J (fpF buF (s1F (nI h) (solC C) γ) p) ∧ FM J0 J) (N := 10)
    (by
      intro p J hp ⟨w1, w2⟩
      have mo := m_isOpen (d + 2) J t1 t2 k sc w1 hp
      rw [fpF]
      by_cases ho : opB (fpF buF (s1F (nI h) (solC C) γ) p) p = true
      · obtain ⟨K, e, k1, k2⟩ := m_buys (d + 2) J t1 t2 k sc hp w1 ho
        refine ⟨K, ?_, k1, w2.trans k2⟩
        rw [b8_46_98]
        simp (disch := omega) only [bnd, bnd0, ↓cdec, ↓cnot, ↓reduceIte, Bo_0, Bo_1, ↓Bo_ok, i10, i01, eq_self, decide_true, decide_false, Bool.or_true, Bool.true_or, Bool.or_false, Bool.false_or, cond_true, cond_false, not_true_eq_false, not_false_eq_true, Bool.false_eq_true, and_self, and_true, true_and, and_false, false_and, nI_clamp, ↓inbc, inb_n, nI_pos, nI_1, lt_10, hp, b8_46_104, b8_46_109, b8_46_112, b8_46_117, mo, ho, e]
      · refine ⟨J, ?_, by rw [buF, if_neg ho]; exact w1, w2⟩
        rw [b8_46_98]
        simp (disch := omega) only [bnd, bnd0, ↓cdec, ↓cnot, ↓reduceIte, Bo_0, Bo_1, ↓Bo_ok, i10, i01, eq_self, decide_true, decide_false, Bool.or_true, Bool.true_or, Bool.or_false, Bool.false_or, cond_true, cond_false, not_true_eq_false, not_false_eq_true, Bool.false_eq_true, and_self, and_true, true_and, and_false, false_and, nI_clamp, ↓inbc, inb_n, nI_pos, nI_1, lt_10, hp, b8_46_104, b8_46_109, b8_46_117, mo, ho]) 0 J1 (by omega) ⟨by rw [fp_0, s1F]; exact r1, r2⟩
  have e6 : den (d + 4, 8, 46, 98, [some (vr 0 56), some (vi (nI 10)), none], [], mkH (J2) t1 t2 k sc) = den (d + 4, 8, 46, 125, [some (vr 0 56), some (vi (nI 0)), none], [], mkH (J2) t1 t2 k sc) := by
    rw [b8_46_98]
    simp (disch := omega) only [bnd, bnd0, ↓cdec, ↓cnot, ↓reduceIte, Bo_0, Bo_1, ↓Bo_ok, i10, i01, eq_self, decide_true, decide_false, Bool.or_true, Bool.true_or, Bool.or_false, Bool.false_or, cond_true, cond_false, not_true_eq_false, not_false_eq_true, Bool.false_eq_true, and_self, and_true, true_and, and_false, false_and, nI_clamp, ↓inbc, inb_n, nI_pos, nI_1, lt_10, Nat.lt_irrefl, b8_46_123, nI_0]
  obtain ⟨J3, e7, r5, r6⟩ := lpE (fun p J => den (d + 4, 8, 46, 125, [some (vr 0 56), some (vi (nI p)), none], [], mkH (J) t1 t2 k sc))
    (fun p J => MenM J (fpF (liF (seB γ)) (s2F (nI h) (solC C) γ) p) ∧ FM J0 J) (N := 10)
    (by
      intro p J hp ⟨w1, w2⟩
      obtain ⟨ok, kp⟩ := s3_ok h2 h58 (solC C) hok p (by omega)
      have mo := m_isOpen (d + 2) J t1 t2 k sc w1 hp
      rw [fpF]
      by_cases ho : opB (fpF (liF (seB γ)) (s2F (nI h) (solC C) γ) p) p = true
      · obtain ⟨K, e, k1, k2⟩ := m_reads (d + 2) J t1 t2 k sc hp (γ0 := γ) w1 ok ho kp (fun q hq => by rw [w2 _ _ _ (by omega)]; exact q1 q hq)
        refine ⟨K, ?_, k1, w2.trans k2⟩
        rw [b8_46_125]
        simp (disch := omega) only [bnd, bnd0, ↓cdec, ↓cnot, ↓reduceIte, Bo_0, Bo_1, ↓Bo_ok, i10, i01, eq_self, decide_true, decide_false, Bool.or_true, Bool.true_or, Bool.or_false, Bool.false_or, cond_true, cond_false, not_true_eq_false, not_false_eq_true, Bool.false_eq_true, and_self, and_true, true_and, and_false, false_and, nI_clamp, ↓inbc, inb_n, nI_pos, nI_1, lt_10, hp, b8_46_131, b8_46_136, b8_46_139, b8_46_144, mo, ho, e]
      · refine ⟨J, ?_, by rw [liF, if_neg ho]; exact w1, w2⟩
        rw [b8_46_125]
        simp (disch := omega) only [bnd, bnd0, ↓cdec, ↓cnot, ↓reduceIte, Bo_0, Bo_1, ↓Bo_ok, i10, i01, eq_self, decide_true, decide_false, Bool.or_true, Bool.true_or, Bool.or_false, Bool.false_or, cond_true, cond_false, not_true_eq_false, not_false_eq_true, Bool.false_eq_true, and_self, and_true, true_and, and_false, false_and, nI_clamp, ↓inbc, inb_n, nI_pos, nI_1, lt_10, hp, b8_46_131, b8_46_136, b8_46_144, mo, ho]) 0 J2 (by omega) ⟨by rw [fp_0, s2F]; exact r3, r4⟩
  have e8 : den (d + 4, 8, 46, 125, [some (vr 0 56), some (vi (nI 10)), none], [], mkH (J3) t1 t2 k sc) = den (d + 4, 8, 46, 152, [some (vr 0 56), some (vi (nI 0)), none], [], mkH (J3) t1 t2 k sc) := by
    rw [b8_46_125]
    simp (disch := omega) only [bnd, bnd0, ↓cdec, ↓cnot, ↓reduceIte, Bo_0, Bo_1, ↓Bo_ok, i10, i01, eq_self, decide_true, decide_false, Bool.or_true, Bool.true_or, Bool.or_false, Bool.false_or, cond_true, cond_false, not_true_eq_false, not_false_eq_true, Bool.false_eq_true, and_self, and_true, true_and, and_false, false_and, nI_clamp, ↓inbc, inb_n, nI_pos, nI_1, lt_10, Nat.lt_irrefl, b8_46_150, nI_0]
  obtain ⟨J4, l4, hl4, e9, r7, r8⟩ := lpLE (fun p J l => den (d + 4, 8, 46, 152, [some (vr 0 56), some (vi (nI p)), l], [], mkH (J) t1 t2 k sc))
    (fun p J => MenM J (fpF (doF (I 0 57 3)) (s3F (nI h) (solC C) γ) p) ∧ FM J0 J) (N := 10)
    (by
      intro p J l hp ⟨w1, w2⟩ hl
      have ok := s4_ok h2 h58 (solC C) hok (I 0 57 3) p (by omega)
      generalize hδ : fpF (doF (I 0 57 3)) (s3F (nI h) (solC C) γ) p = δ at w1 ok
      have e8 : J 0 57 (5 + 9 * p + 8) = δ 8 p := w1 8 p (by omega) hp
      have e6 : J 0 57 (5 + 9 * p + 6) = δ 6 p := w1 6 p (by omega) hp
      have e1 : J 0 57 (5 + 9 * p + 1) = δ 1 p := w1 1 p (by omega) hp
      have e3 : J 0 57 3 = I 0 57 3 := by rw [w2 _ _ _ (by omega), f0 _ _ _ (by omega), fA _ _ _ (by omega)]
      rw [fpF, hδ]
      by_cases h6 : δ 6 p < 0
      · refine ⟨uI J 0 57 (5 + 9 * p + 8) (δ 8 p), 0, ?_, by rw [← do_w0 (Or.inl h6)]; exact w1.set (a := 8) (p := p) _ (by omega), w2.trans (FM.one hp (by omega) _)⟩
        rcases hl with rfl | ⟨y, rfl⟩
        · rw [b8_46_152]
          simp (disch := omega) only [bnd, bnd0, ↓cdec, ↓cnot, ↓reduceIte, Bo_0, Bo_1, ↓Bo_ok, i10, i01, eq_self, decide_true, decide_false, Bool.or_true, Bool.true_or, Bool.or_false, Bool.false_or, cond_true, cond_false, not_true_eq_false, not_false_eq_true, Bool.false_eq_true, and_self, and_true, true_and, and_false, false_and, nI_clamp, ↓inbc, inb_n, nI_pos, nI_1, lt_10, hp, b8_46_158, b8_46_168, b8_46_195, b8_46_196, b8_46_207, b8_46_215, b8_46_225, b8_46_226, mA_6, mA_8, e6, e8, h6]
        · rw [b8_46_152w]
          simp (disch := omega) only [bnd, bnd0, ↓cdec, ↓cnot, ↓reduceIte, Bo_0, Bo_1, ↓Bo_ok, i10, i01, eq_self, decide_true, decide_false, Bool.or_true, Bool.true_or, Bool.or_false, Bool.false_or, cond_true, cond_false, not_true_eq_false, not_false_eq_true, Bool.false_eq_true, and_self, and_true, true_and, and_false, false_and, nI_clamp, ↓inbc, inb_n, nI_pos, nI_1, lt_10, hp, b8_46_158w, b8_46_168w, b8_46_195w, b8_46_196w, b8_46_207, b8_46_215, b8_46_225, b8_46_226, mA_6, mA_8, e6, e8, h6]
      · by_cases hr : I 0 57 3 < δ 1 p
        · refine ⟨uI J 0 57 (5 + 9 * p + 8) (δ 8 p), 0, ?_, by rw [← do_w0 (Or.inr hr)]; exact w1.set (a := 8) (p := p) _ (by omega), w2.trans (FM.one hp (by omega) _)⟩
          rcases hl with rfl | ⟨y, rfl⟩
          · rw [b8_46_152]
            simp (disch := omega) only [bnd, bnd0, ↓cdec, ↓cnot, ↓reduceIte, Bo_0, Bo_1, ↓Bo_ok, i10, i01, eq_self, decide_true, decide_false, Bool.or_true, Bool.true_or, Bool.or_false, Bool.false_or, cond_true, cond_false, not_true_eq_false, not_false_eq_true, Bool.false_eq_true, and_self, and_true, true_and, and_false, false_and, nI_clamp, ↓inbc, inb_n, nI_pos, nI_1, lt_10, hp, b8_46_158, b8_46_168, b8_46_172, b8_46_181, b8_46_195, b8_46_196, b8_46_207, b8_46_215, b8_46_225, b8_46_226, mA_6, mA_8, mA_1, e6, e8, e1, e3, h6, hr]
          · rw [b8_46_152w]
            simp (disch := omega) only [bnd, bnd0, ↓cdec, ↓cnot, ↓reduceIte, Bo_0, Bo_1, ↓Bo_ok, i10, i01, eq_self, decide_true, decide_false, Bool.or_true, Bool.true_or, Bool.or_false, Bool.false_or, cond_true, cond_false, not_true_eq_false, not_false_eq_true, Bool.false_eq_true, and_self, and_true, true_and, and_false, false_and, nI_clamp, ↓inbc, inb_n, nI_pos, nI_1, lt_10, hp, b8_46_158w, b8_46_168w, b8_46_172w, b8_46_181w, b8_46_195w, b8_46_196w, b8_46_207, b8_46_215, b8_46_225, b8_46_226, mA_6, mA_8, mA_1, e6, e8, e1, e3, h6, hr]
        · refine ⟨uI J 0 57 (5 + 9 * p + 8) 1, 1, ?_, by rw [← do_w1 ok hp h6 hr]; exact w1.set (a := 8) (p := p) _ (by omega), w2.trans (FM.one hp (by omega) _)⟩
          rcases hl with rfl | ⟨y, rfl⟩
          · rw [b8_46_152]
            simp (disch := omega) only [bnd, bnd0, ↓cdec, ↓cnot, ↓reduceIte, Bo_0, Bo_1, ↓Bo_ok, i10, i01, eq_self, decide_true, decide_false, Bool.or_true, Bool.true_or, Bool.or_false, Bool.false_or, cond_true, cond_false, not_true_eq_false, not_false_eq_true, Bool.false_eq_true, and_self, and_true, true_and, and_false, false_and, nI_clamp, ↓inbc, inb_n, nI_pos, nI_1, lt_10, hp, b8_46_158, b8_46_168, b8_46_172, b8_46_181, b8_46_191, b8_46_196, b8_46_207, b8_46_211, b8_46_226, mA_6, mA_8, mA_1, e6, e8, e1, e3, h6, hr]
          · rw [b8_46_152w]
            simp (disch := omega) only [bnd, bnd0, ↓cdec, ↓cnot, ↓reduceIte, Bo_0, Bo_1, ↓Bo_ok, i10, i01, eq_self, decide_true, decide_false, Bool.or_true, Bool.true_or, Bool.or_false, Bool.false_or, cond_true, cond_false, not_true_eq_false, not_false_eq_true, Bool.false_eq_true, and_self, and_true, true_and, and_false, false_and, nI_clamp, ↓inbc, inb_n, nI_pos, nI_1, lt_10, hp, b8_46_158w, b8_46_168w, b8_46_172w, b8_46_181w, b8_46_191w, b8_46_196w, b8_46_207, b8_46_211, b8_46_226, mA_6, mA_8, mA_1, e6, e8, e1, e3, h6, hr]) 0 J3 none (by omega) ⟨by rw [fp_0, s3F]; exact r5, r6⟩ (Or.inl rfl)
  refine ⟨J4, ?_, by rw [miF]; exact r7, by rw [r8 _ _ _ (by omega), q2 _ _ _ (by omega)]; exact a2, fA.trans (f0.trans r8.fq)⟩
  refine e0.trans (e1.trans (e2.trans (e3.trans (e4.trans (e5.trans (e6.trans (e7.trans (e8.trans (e9.trans ?_)))))))))
  rcases hl4 with rfl | ⟨y, rfl⟩
  · rw [b8_46_152]
    simp (disch := omega) only [bnd, bnd0, ↓cdec, ↓cnot, ↓reduceIte, Bo_0, Bo_1, ↓Bo_ok, i10, i01, eq_self, decide_true, decide_false, Bool.or_true, Bool.true_or, Bool.or_false, Bool.false_or, cond_true, cond_false, not_true_eq_false, not_false_eq_true, Bool.false_eq_true, and_self, and_true, true_and, and_false, false_and, nI_clamp, ↓inbc, inb_n, nI_pos, nI_1, lt_10, Nat.lt_irrefl, b8_46_233]
  · rw [b8_46_152w]
    simp (disch := omega) only [bnd, bnd0, ↓cdec, ↓cnot, ↓reduceIte, Bo_0, Bo_1, ↓Bo_ok, i10, i01, eq_self, decide_true, decide_false, Bool.or_true, Bool.true_or, Bool.or_false, Bool.false_or, cond_true, cond_false, not_true_eq_false, not_false_eq_true, Bool.false_eq_true, and_self, and_true, true_and, and_false, false_and, nI_clamp, ↓inbc, inb_n, nI_pos, nI_1, lt_10, Nat.lt_irrefl, b8_46_233w]
theorem m_minute0 (h1 : I 0 57 1 = -1) : den (d + 1, 8, 46, 0, [some (vr 0 56), none, none], [], mkH I t1 t2 k sc) = some (none, mkH (uI I 0 57 2 (I 0 57 2 + 1)) t1 t2 k sc) := by
  have l1 : (-1 : Int32) < 0 := by decide
  simp (disch := omega) only [bnd, bnd0, ↓cdec, ↓cnot, ↓reduceIte, Bo_0, Bo_1, ↓Bo_ok, i10, i01, eq_self, decide_true, decide_false, Bool.or_true, Bool.true_or, Bool.or_false, Bool.false_or, cond_true, cond_false, not_true_eq_false, not_false_eq_true, Bool.false_eq_true, and_self, and_true, true_and, and_false, false_and, nI_clamp, ↓inbc, inb_n, nI_pos, nI_1, b8_46_0, b8_46_19, uI_ne, h1, l1]
end
/-- n minutes with THE SUM s, sums Cf, RICH R -/
def goF (s : Int32) (Cf : Nat → Nat → Int32) (R : Int32) (n : Nat) (γ : Men) : Men := if s = -1 then γ else itF (miF (hardC (Cf s.toNatClampNeg)) (solC (Cf s.toNatClampNeg)) R) n γ
theorem go_m1 {Cf : Nat → Nat → Int32} {R : Int32} {n : Nat} {γ : Men} : goF (-1) Cf R n γ = γ := if_pos rfl
theorem go_th {th : Nat} (hth : th < 8) {Cf : Nat → Nat → Int32} {R : Int32} {n : Nat} {γ : Men} : goF (nI th) Cf R n γ = itF (miF (hardC (Cf th)) (solC (Cf th)) R) n γ := by
  rw [goF, if_neg, nI_clamp (by omega)]
  intro z
  have := congrArg Int32.toInt z
  rw [nI_toInt (by omega), k32_m1] at this
  omega
/-- what both sides know of a world's sums -/
def SumsOK (I : IFn) (t1 : TFn) (k n : Nat) (Cf : Nat → Nat → Int32) : Prop := n ≤ 8 ∧ I 0 4 3 = nI n ∧ (∀ q, q < n → ∃ e, t1 q = some (e + 1, 0)) ∧ ∀ q, q < n → sumOK I (t1 q) k (I 0 6 q) (I 0 7 q) (Cf q)
theorem sum_c2 {I : IFn} {t : Option (Nat × Nat)} {k : Nat} {kd m : Int32} {C : Nat → Int32} (h : sumOK I t k kd m C) : rng 2 39 (C 2) := by
  obtain ⟨-, -, -, -, e, -, -, n1, n2, b0, b1, b2, -⟩ := h
  exact b2
theorem go_ok {I : IFn} {t1 : TFn} {k n : Nat} {Cf : Nat → Nat → Int32} (hs : SumsOK I t1 k n Cf) {s R : Int32} (ho : opt n s) (N : Nat) {γ : Men} (hok : okMn γ) : okMn (goF s Cf R N γ) := by
  rcases ho with rfl | ⟨q, hq, rfl⟩
  · rw [go_m1]; exact hok
  · obtain ⟨h1, -, -, h4⟩ := hs
    obtain ⟨h, h2, h58, eh⟩ := hard_ok (sum_c2 (h4 q hq))
    rw [go_th (by omega), eh]
    exact it_ok h2 h58 _ R N hok
section
variable (d : Nat) (I : IFn) (t1 t2 : TFn) (k : Nat) (sc : Nat × (Nat → Int32))
theorem x_go {g n N : Nat} (hg : g = 8 ∨ g = 35) (hN : N ≤ 480) {Cf : Nat → Nat → Int32} {γ : Men} (hm : MenX g I γ) (hok : okMn γ) (hs : SumsOK I t1 k n Cf) (ho : opt n (I 0 g 9)) : ∃ J, den (d + 4, 0, 11, 0, [some (vr 0 g), some (vr 0 4), some (vi (nI N)), none, none, none, none, none], [], mkH I t1 t2 k sc) = some (none, mkH (J) t1 t2 k sc) ∧ MenX g J (goF (I 0 g 9) Cf (I 0 g 10) N γ) ∧ J 0 g 11 = I 0 g 11 + nI N ∧ ∀ g' j i, ¬ (g' = 0 ∧ ((j = g ∧ (i = 11 ∨ i = 12)) ∨ (g + 1 ≤ j ∧ j ≤ g + 9))) → J g' j i = I g' j i := by
  obtain ⟨h1, h2, h3, h4⟩ := hs
  rcases ho with h9 | ⟨q, hq, h9⟩
  · obtain ⟨J, e, j1, j2⟩ := x_goOn0 d I t1 t2 k sc hg hN h1 h2 h3 h9
    refine ⟨J, e, ?_, j1, fun g' j i z => j2 _ _ _ (by omega)⟩
    rw [h9, go_m1]
    exact hm.keep (fun j i _ _ _ => j2 _ _ _ (by omega))
  · obtain ⟨J, e, j1, j2, j3⟩ := x_goOn d I t1 t2 k sc hg hN hm hok h9 ⟨h1, h2, h3, hq, h4 q hq⟩ (sum_c2 (h4 q hq))
    refine ⟨J, e, ?_, j2, j3⟩
    rw [h9, go_th (by omega)]
    exact j1
theorem m_go {n N : Nat} (hN : N ≤ 480) {Cf : Nat → Nat → Int32} {γ : Men} {K : IFn} (hm : MenM I γ) (hok : okMn γ) (hs : SumsOK K t1 k n Cf) (hC : ∀ q, q < n → cS I q = Cf q) (ho : opt n (I 0 57 1)) : ∃ J, den (d + 5, 8, 47, 0, [some (vr 0 56), some (vi (nI N)), none], [], mkH I t1 t2 k sc) = some (none, mkH (J) t1 t2 k sc) ∧ MenM J (goF (I 0 57 1) Cf (I 0 57 3) N γ) ∧ J 0 57 2 = I 0 57 2 + nI N ∧ FQ I J := by
  obtain ⟨h1, h2, h3, h4⟩ := hs
  have hend : ∀ J : IFn, den (d + 5, 8, 47, 2, [some (vr 0 56), some (vi (nI N)), some (vi (nI N))], [], mkH (J) t1 t2 k sc) = some (none, mkH (J) t1 t2 k sc) := by
    intro J
    have hge : ¬ nI N < nI N := nI_nlt (Nat.le_refl _) (by omega)
    rw [b8_47_2]
    simp (disch := omega) only [bnd, bnd0, ↓cdec, ↓cnot, ↓reduceIte, Bo_0, Bo_1, ↓Bo_ok, i10, i01, eq_self, decide_true, decide_false, Bool.or_true, Bool.true_or, Bool.or_false, Bool.false_or, cond_true, cond_false, not_true_eq_false, not_false_eq_true, Bool.false_eq_true, and_self, and_true, true_and, and_false, false_and, nI_clamp, ↓inbc, inb_n, nI_pos, nI_1, hge, b8_47_17]
  rcases ho with h9 | ⟨q, hq, h9⟩
  · obtain ⟨J, e, j1, j2⟩ := lpE (fun i J => den (d + 5, 8, 47, 2, [some (vr 0 56), some (vi (nI N)), some (vi (nI i))], [], mkH (J) t1 t2 k sc))
      (fun i J => J 0 57 2 = I 0 57 2 + nI i ∧ ∀ g j i, ¬ (g = 0 ∧ j = 57 ∧ i = 2) → J g j i = I g j i) (N := N)
      (by
        intro i J hi ⟨w1, w2⟩
        have hlt : nI i < nI N := nI_lt hi (by omega)
        have mm := m_minute0 (d + 3) J t1 t2 k sc (by rw [w2 _ _ _ (by omega)]; exact h9)
        refine ⟨uI J 0 57 2 (J 0 57 2 + 1), ?_, ?_, fun g j i' hn => ?_⟩
        · rw [b8_47_2]
          simp (disch := omega) only [bnd, bnd0, ↓cdec, ↓cnot, ↓reduceIte, Bo_0, Bo_1, ↓Bo_ok, i10, i01, eq_self, decide_true, decide_false, Bool.or_true, Bool.true_or, Bool.or_false, Bool.false_or, cond_true, cond_false, not_true_eq_false, not_false_eq_true, Bool.false_eq_true, and_self, and_true, true_and, and_false, false_and, nI_clamp, ↓inbc, inb_n, nI_pos, nI_1, hlt, b8_47_7, b8_47_11, mm]
        · rw [uI_at (by omega), w1, Int32.add_assoc, nI_1]
        · rw [uI_ne (by omega)]; exact w2 _ _ _ hn) 0 I (by omega) ⟨by rw [nI_0, Int32.add_zero], fun g j i hn => rfl⟩
    refine ⟨J, (b8_47_0 (d + 4) (nI N) I t1 t2 k sc).trans (e.trans (hend J)), ?_, j1, fun g j i z => j2 _ _ _ (by omega)⟩
    rw [h9, go_m1]
    exact hm.keep (fun i _ _ => j2 _ _ _ (by omega))
  · obtain ⟨h, g2', g58, eh⟩ := hard_ok (sum_c2 (h4 q hq))
    obtain ⟨J, e, j1, j2, j3⟩ := lpE (fun i J => den (d + 5, 8, 47, 2, [some (vr 0 56), some (vi (nI N)), some (vi (nI i))], [], mkH (J) t1 t2 k sc))
      (fun i J => MenM J (itF (miF (nI h) (solC (Cf q)) (I 0 57 3)) i γ) ∧ J 0 57 2 = I 0 57 2 + nI i ∧ FQ I J) (N := N)
      (by
        intro i J hi ⟨w1, w2, w3⟩
        have hlt : nI i < nI N := nI_lt hi (by omega)
        obtain ⟨K', e, k1, k2, k3⟩ := m_minute (d + 0) J t1 t2 k sc (show q < 8 by omega) g2' g58 (h4 q hq) eh w1 (it_ok g2' g58 _ _ i hok) (by rw [w3 _ _ _ (by omega)]; exact h9) ((w3.cS q).trans (hC q hq))
        rw [w3 0 57 3 (by omega)] at k1
        refine ⟨K', ?_, by rw [it_succ]; exact k1, by rw [k2, w2, Int32.add_assoc, nI_1], w3.trans k3⟩
        rw [b8_47_2]
        simp (disch := omega) only [bnd, bnd0, ↓cdec, ↓cnot, ↓reduceIte, Bo_0, Bo_1, ↓Bo_ok, i10, i01, eq_self, decide_true, decide_false, Bool.or_true, Bool.true_or, Bool.or_false, Bool.false_or, cond_true, cond_false, not_true_eq_false, not_false_eq_true, Bool.false_eq_true, and_self, and_true, true_and, and_false, false_and, nI_clamp, ↓inbc, inb_n, nI_pos, nI_1, hlt, b8_47_7, b8_47_11]
        rw [show d + 4 = d + 0 + 4 by omega, e]
        refine Eq.trans (b8_47_11 _ _ _ _ t1 t2 k sc) ?_
        rw [nI_1]) 0 I (by omega) ⟨hm, by rw [nI_0, Int32.add_zero], FQ.rfl⟩
    refine ⟨J, (b8_47_0 (d + 4) (nI N) I t1 t2 k sc).trans (e.trans (hend J)), ?_, j2, j3⟩
    rw [h9, go_th (by omega), eh]
    exact j1
end
theorem Inv.sumsOK {I : IFn} {t1 t2 : TFn} {k : Nat} (v : Inv I t1 t2 k) : ∃ n, I 0 57 0 = nI n ∧ SumsOK I t1 k n (cS I) ∧ opt n (I 0 57 1) := by
  obtain ⟨n, n8, c0, c0', c1, c2, c3, c4, ht, hQ⟩ := v.head
  exact ⟨n, c0, ⟨n8, c0', ht, hQ⟩, c1.2⟩
/-- minutes -/
theorem ok_16 : op_16 Inv := by
  intro a1 I t1 t2 k sc hI
  by_cases h1 : 1 ≤ a1.toInt ∧ a1.toInt ≤ 100
  · obtain ⟨N, hN, rfl⟩ := nat_of (x := a1) (m := 101) (by omega) (by omega) (by omega)
    obtain ⟨γ, hX, hM, hok⟩ := hI.men
    obtain ⟨n, n8, c0, c0', c1, c2, c3, c4, ht, hQ⟩ := hI.head
    have hs : SumsOK I t1 k n (cS I) := ⟨n8, c0', ht, hQ⟩
    obtain ⟨m, -, m480, em⟩ := c2.2
    have em' : I 0 8 11 = nI m := c2.1.trans em
    by_cases hlim : 480 < m + N
    · refine ⟨-1000005, uI I 0 47 4 (I 0 47 4 + 1), _, t1, t2, k, ?_, ?_, hI.find (f := 4) (by omega), by omega⟩
      · simp (disch := omega) only [bnd, bnd0, ↓cdec, ↓cnot, ↓reduceIte, Bo_0, Bo_1, ↓Bo_ok, i10, i01, eq_self, decide_true, decide_false, Bool.or_true, Bool.true_or, Bool.or_false, Bool.false_or, cond_true, cond_false, not_true_eq_false, not_false_eq_true, Bool.false_eq_true, and_self, and_true, true_and, and_false, false_and, nI_clamp, ↓inbc, inb_n, nI_pos, nI_1, b7_17_0, b7_17_7, b7_17_10, b7_17_16, b7_17_17, b7_17_35, b7_17_41, b7_17_42, b7_17_52, b7_17_55, b7_17_74, b7_17_84, b7_17_87, x_within, k32_1, k32_100, h1, em', nI_add, gt_480, hlim, x_f4]
      · simp (disch := omega) only [bnd, bnd0, ↓cdec, ↓cnot, ↓reduceIte, Bo_0, Bo_1, ↓Bo_ok, i10, i01, eq_self, decide_true, decide_false, Bool.or_true, Bool.true_or, Bool.or_false, Bool.false_or, cond_true, cond_false, not_true_eq_false, not_false_eq_true, Bool.false_eq_true, and_self, and_true, true_and, and_false, false_and, nI_clamp, ↓inbc, inb_n, nI_pos, nI_1, b8_49_0, b8_49_9, b8_49_12, b8_49_18, b8_49_19, b8_49_33, b8_49_39, b8_49_40, b8_49_44, b8_49_47, b8_49_53, b8_49_57, b8_49_60, m_in32, k64_1, k64_100, h1, uI_ne, em, nI_add, gt_480, hlim, m_f4]
    · obtain ⟨J1, e1, x1, x2, x3⟩ := x_go 5 I t1 t2 k sc (Or.inl rfl) (show N ≤ 480 by omega) hX hok hs (by rw [c1.1]; exact c1.2)
      rw [c1.1, c3.1] at x1
      have hM1 : MenM J1 γ := hM.keep (fun i _ _ => x3 _ _ _ (by omega))
      have r1 : ∀ i, J1 0 57 i = I 0 57 i := fun i => x3 _ _ _ (by omega)
      obtain ⟨J2, e2, y1, y2, y3⟩ := m_go 4 J1 t1 t2 k sc (show N ≤ 480 by omega) hM1 hok hs (fun q _ => funext fun a => r1 _) (by rw [r1]; exact c1.2)
      rw [r1, r1] at y1
      have ok2 := go_ok (R := I 0 57 3) hs c1.2 N hok
      have hX2 : MenX 8 J2 (goF (I 0 57 1) (cS I) (I 0 57 3) N γ) := x1.keep (fun j p _ _ _ => y3 _ _ _ (by omega))
      have oo : fS (fun p => decide (J1 0 57 (5 + 9 * p + 8) = 1)) 10 = fS (fun p => decide (I 0 57 (5 + 9 * p + 8) = 1)) 10 := fS_congr (fun p _ => by rw [r1])
      have o2 := out_eq hX2 y1 ok2
      have o1 : fS (fun p => !decide (J1 0 (8 + 9) p < 1)) 10 = fS (fun p => !decide (J2 0 (8 + 9) p < 1)) 10 := fS_congr (fun p _ => by rw [y3 _ _ _ (by omega)])
      have hnl : ¬ 480 < m + N := hlim
      refine ⟨cb (fS (fun p => decide (J2 0 57 (5 + 9 * p + 8) = 1)) 10) - cb (fS (fun p => decide (I 0 57 (5 + 9 * p + 8) = 1)) 10), J1, J2, t1, t2, k, ?_, ?_, ?_, by omega⟩
      · rw [← out_eq hX hM hok, ← o2, ← o1]
        simp (disch := omega) only [bnd, bnd0, ↓cdec, ↓cnot, ↓reduceIte, Bo_0, Bo_1, ↓Bo_ok, i10, i01, eq_self, decide_true, decide_false, Bool.or_true, Bool.true_or, Bool.or_false, Bool.false_or, cond_true, cond_false, not_true_eq_false, not_false_eq_true, Bool.false_eq_true, and_self, and_true, true_and, and_false, false_and, nI_clamp, ↓inbc, inb_n, nI_pos, nI_1, b7_17_0, b7_17_7, b7_17_10, b7_17_16, b7_17_17, b7_17_35, b7_17_41, b7_17_42, b7_17_52, b7_17_55, b7_17_74, b7_17_84, b7_17_87, x_within, k32_1, k32_100, h1, em', nI_add, gt_480, hnl, x_outSet, x_bits, e1]
      · have em1 : J1 0 57 2 = nI m := (r1 2).trans em
        simp (disch := omega) only [bnd, bnd0, ↓cdec, ↓cnot, ↓reduceIte, Bo_0, Bo_1, ↓Bo_ok, i10, i01, eq_self, decide_true, decide_false, Bool.or_true, Bool.true_or, Bool.or_false, Bool.false_or, cond_true, cond_false, not_true_eq_false, not_false_eq_true, Bool.false_eq_true, and_self, and_true, true_and, and_false, false_and, nI_clamp, ↓inbc, inb_n, nI_pos, nI_1, b8_49_0, b8_49_9, b8_49_12, b8_49_18, b8_49_19, b8_49_33, b8_49_39, b8_49_40, b8_49_44, b8_49_47, b8_49_53, b8_49_57, b8_49_60, m_in32, k64_1, k64_100, h1, em1, nI_add, gt_480, hnl, m_outs, m_ones, e2, oo]
      · refine hI.gaol _ (fun a p ha hp => hX2 a p ha hp) y1 ok2 ?_ ?_ ?_ ?_ ?_ ?_ ?_ ?_
        · rw [y3 _ _ _ (by omega), x3 _ _ _ (by omega), y3 _ _ _ (by omega), r1]; exact c1.1
        · intro m' m8 hm'
          rw [c0, nI_eq (by omega) (by omega)] at hm'
          rw [y3 _ _ _ (by omega), r1, ← hm']; exact c1.2
        · rw [y3 _ _ _ (by omega), x2, y2, r1, c2.1]
        · rw [y2, r1, em, nI_add]; exact ⟨m + N, by omega, by omega, rfl⟩
        · rw [y3 _ _ _ (by omega), x3 _ _ _ (by omega), y3 _ _ _ (by omega), r1]; exact c3.1
        · rw [y3 _ _ _ (by omega), r1]; exact c3.2
        · rw [y3 _ _ _ (by omega), x3 _ _ _ (by omega), y3 _ _ _ (by omega), r1]; exact c4
        · intro g j i hc
          unfold Gc Gb at hc
          rw [y3 _ _ _ (by omega), x3 _ _ _ (by omega)]
  · refine ⟨-1000001, uI I 0 47 0 (I 0 47 0 + 1), _, t1, t2, k, ?_, ?_, hI.find (f := 0) (by omega), by omega⟩
    · simp (disch := omega) only [bnd, bnd0, ↓cdec, ↓cnot, ↓reduceIte, Bo_0, Bo_1, ↓Bo_ok, i10, i01, eq_self, decide_true, decide_false, Bool.or_true, Bool.true_or, Bool.or_false, Bool.false_or, cond_true, cond_false, not_true_eq_false, not_false_eq_true, Bool.false_eq_true, and_self, and_true, true_and, and_false, false_and, nI_clamp, ↓inbc, inb_n, nI_pos, nI_1, b7_17_0, b7_17_7, b7_17_10, b7_17_16, b7_17_17, b7_17_35, b7_17_41, b7_17_42, b7_17_52, b7_17_55, b7_17_74, b7_17_84, b7_17_87, x_within, k32_1, k32_100, h1, x_f0]
    · simp (disch := omega) only [bnd, bnd0, ↓cdec, ↓cnot, ↓reduceIte, Bo_0, Bo_1, ↓Bo_ok, i10, i01, eq_self, decide_true, decide_false, Bool.or_true, Bool.true_or, Bool.or_false, Bool.false_or, cond_true, cond_false, not_true_eq_false, not_false_eq_true, Bool.false_eq_true, and_self, and_true, true_and, and_false, false_and, nI_clamp, ↓inbc, inb_n, nI_pos, nI_1, b8_49_0, b8_49_9, b8_49_12, b8_49_18, b8_49_19, b8_49_33, b8_49_39, b8_49_40, b8_49_44, b8_49_47, b8_49_53, b8_49_57, b8_49_60, m_in32, k64_1, k64_100, h1, m_f0]
