theorem t1_8 {H : Int32} {sol : Nat → Bool} {p : Nat} {γ : Men} {q : Nat} : t1F H sol p γ 8 q = γ 8 q := by
  unfold t1F
  by_cases h : sol (γ 5 p).toNatClampNeg = true
  · rw [if_pos h, g2_ne (by omega), g2_ne (by omega)]
  · rw [if_neg h, g2_ne (by omega), g2_ne (by omega)]
theorem tr_8 {H : Int32} {sol : Nat → Bool} {p : Nat} : ∀ f (γ : Men) {q : Nat}, trF H sol p f γ 8 q = γ 8 q
  | 0, _, _ => rfl
  | f + 1, γ, q => by
    by_cases h : ¬ γ 7 p < H ∧ γ 6 p < 0
    · rw [tr_go h, tr_8 f, t1_8]
    · rw [tr_no h]
theorem wo_8 {H : Int32} {sol : Nat → Bool} {γ : Men} {p q : Nat} : woF H sol γ p 8 q = γ 8 q := by
  unfold woF
  by_cases h : opB γ p = true
  · rw [if_pos h]
    by_cases z : γ 1 p = 0
    · rw [if_pos z]
    · rw [if_neg z, tr_8, w0F, g2_ne (by omega), g2_ne (by omega)]
  · rw [if_neg h]
def coF (H : Int32) (sol : Nat → Bool) (p : Nat) : Nat → Men → Men
  | 0, γ => γ
  | m + 1, γ => if γ 6 p < 0 then coF H sol p m (woF H sol γ p) else γ
def coB (Cf : Nat → Nat → Int32) (γ : Men) (p N s : Nat) : Bool := !decide ((coF (hardC (Cf s)) (solC (Cf s)) p N (dG γ)) 6 p < 0)
/-- could -/
theorem ok_27 : op_27 Inv := by
  intro a1 a2 I t1 t2 k sc hI
  by_cases hb : (0 ≤ a1.toInt ∧ a1.toInt ≤ 9) ∧ (1 ≤ a2.toInt ∧ a2.toInt ≤ 480)
  · obtain ⟨h1, h2⟩ := hb
    obtain ⟨n, n8, c0, c0', c1, c2, c3, c4, ht, hQ⟩ := hI.head
    obtain ⟨p, hp, rfl⟩ := nat_of (x := a1) (m := 10) h1.1 (by omega) (by omega)
    obtain ⟨N, hN, rfl⟩ := nat_of (x := a2) (m := 481) (by omega) (by omega) (by omega)
    obtain ⟨γ, hX, hM, hok⟩ := hI.men
    have hs : SumsOK I t1 k n (cS I) := ⟨n8, c0', ht, hQ⟩
    have ax : ∀ s, s < n → ∀ J : IFn, FT I J → ∃ K, FT I K ∧ den (9, 7, 56, 0, [some (vr 0 0), some (vi (nI p)), some (vi (nI s)), some (vi (nI N)), none, none], [], mkH (J) t1 t2 k sc) = some (some (vi (if coB (cS I) γ p N s = true then 1 else 0)), mkH (K) t1 t2 k sc) := by
      intro s hsn J0 hf0
      have hS : sumOK I (t1 s) k (I 0 6 s) (I 0 7 s) (cS I s) := hQ s hsn
      obtain ⟨h, g1, g2', eH⟩ := hard_ok (sum_c2 hS)
      have lx : ∀ m r (J : IFn) (δ : Men), r + m = N → MenX 35 J δ → okMn δ → J 0 35 9 = nI s → FT I J → ∃ K, FT I K ∧ den (8 + 1, 7, 56, 21, [some (vr 0 0), some (vi (nI p)), some (vi (nI s)), some (vi (nI N)), some (vi (nI h)), some (vi (nI r))], [], mkH (J) t1 t2 k sc) = some (some (vi (if (!decide ((coF (nI h) (solC (cS I s)) p m δ) 6 p < 0)) = true then 1 else 0)), mkH (K) t1 t2 k sc) := by
        intro m
        induction m with
        | zero =>
          intro r J δ hr hJ hδ h9 hf
          have hl : ¬ nI r < nI N := nI_nlt (by omega) (by omega)
          have e42 : J 0 42 p = δ 6 p := hJ 6 p (by omega) hp
          refine ⟨J, hf, ?_⟩
          rw [b7_56_21, coF]
          by_cases hz : δ 6 p < 0
          · simp (disch := omega) only [bnd, bnd0, ↓cdec, ↓cnot, ↓reduceIte, Bo_0, Bo_1, ↓Bo_ok, i10, i01, eq_self, decide_true, decide_false, Bool.or_true, Bool.true_or, Bool.or_false, Bool.false_or, cond_true, cond_false, not_true_eq_false, not_false_eq_true, Bool.false_eq_true, and_self, and_true, true_and, and_false, false_and, nI_clamp, ↓inbc, inb_n, nI_pos, nI_1, hl, b7_56_62, b7_56_78, b7_56_79, e42, hz, Bool.not_true]
          · simp (disch := omega) only [bnd, bnd0, ↓cdec, ↓cnot, ↓reduceIte, Bo_0, Bo_1, ↓Bo_ok, i10, i01, eq_self, decide_true, decide_false, Bool.or_true, Bool.true_or, Bool.or_false, Bool.false_or, cond_true, cond_false, not_true_eq_false, not_false_eq_true, Bool.false_eq_true, and_self, and_true, true_and, and_false, false_and, nI_clamp, ↓inbc, inb_n, nI_pos, nI_1, hl, b7_56_62, b7_56_74, b7_56_79, e42, hz, Bool.not_false]
        | succ m ih =>
          intro r J δ hr hJ hδ h9 hf
          have hl : nI r < nI N := nI_lt (by omega) (by omega)
          have e42 : J 0 42 p = δ 6 p := hJ 6 p (by omega) hp
          rw [b7_56_21, coF]
          by_cases hz : δ 6 p < 0
          · rw [if_pos hz]
            have hs' := hs.keep hf
            obtain ⟨K, e, k1, k2, -⟩ := x_workOn 5 J t1 t2 k sc (g := 35) (Or.inr rfl) hp g1 g2' hJ hδ h9 (n := n) (C := cS I s) ⟨n8, hs'.2.1, ht, hsn, hs'.2.2.2 s hsn⟩
            have fK : FT I K := hf.trans (fun g j i hn => k2 _ _ _ (by omega))
            obtain ⟨K2, f2, e2⟩ := ih (r + 1) K _ (by omega) k1 (wo_ok g1 g2' _ hδ hp) (by rw [k2 _ _ _ (by omega)]; exact h9) fK
            refine ⟨K2, f2, Eq.trans ?_ e2⟩
            simp (disch := omega) only [bnd, bnd0, ↓cdec, ↓cnot, ↓reduceIte, Bo_0, Bo_1, ↓Bo_ok, i10, i01, eq_self, decide_true, decide_false, Bool.or_true, Bool.true_or, Bool.or_false, Bool.false_or, cond_true, cond_false, not_true_eq_false, not_false_eq_true, Bool.false_eq_true, and_self, and_true, true_and, and_false, false_and, nI_clamp, ↓inbc, inb_n, nI_pos, nI_1, hl, b7_56_27, b7_56_39, b7_56_56, e42, hz, e]
          · rw [if_neg hz]
            refine ⟨J, hf, ?_⟩
            simp (disch := omega) only [bnd, bnd0, ↓cdec, ↓cnot, ↓reduceIte, Bo_0, Bo_1, ↓Bo_ok, i10, i01, eq_self, decide_true, decide_false, Bool.or_true, Bool.true_or, Bool.or_false, Bool.false_or, cond_true, cond_false, not_true_eq_false, not_false_eq_true, Bool.false_eq_true, and_self, and_true, true_and, and_false, false_and, nI_clamp, ↓inbc, inb_n, nI_pos, nI_1, hl, b7_56_27, b7_56_62, b7_56_74, b7_56_79, e42, hz, Bool.not_false]
      obtain ⟨J1, e1, z1, z2, z3, z4⟩ := x_tryDay 5 J0 t1 t2 k sc (hf0.men hX) (nI s)
      have f1 := hf0.trans z4
      have hs1 := hs.keep f1
      have xh := x_hard 7 J1 t1 t2 k sc n8 hs1.2.1 ht hsn (hs1.2.2.2 s hsn)
      obtain ⟨K, fK, e⟩ := lx N 0 J1 (dG γ) (by omega) z1 (dG_ok hok) z2 f1
      refine ⟨K, fK, ?_⟩
      unfold coB
      rw [eH]
      rw [eH] at xh
      refine Eq.trans ?_ e
      simp (disch := omega) only [bnd, bnd0, ↓cdec, ↓cnot, ↓reduceIte, Bo_0, Bo_1, ↓Bo_ok, i10, i01, eq_self, decide_true, decide_false, Bool.or_true, Bool.true_or, Bool.or_false, Bool.false_or, cond_true, cond_false, not_true_eq_false, not_false_eq_true, Bool.false_eq_true, and_self, and_true, true_and, and_false, false_and, nI_clamp, ↓inbc, inb_n, nI_pos, nI_1, b7_56_0, b7_56_5, b7_56_16, e1, xh]
      rfl
    obtain ⟨J1, ex, f1⟩ := lpE (fun s J => den (9 + 1, 7, 28, 30, [some (vr 0 0), some (vi (nI p)), some (vi (nI N)), some (vi (fS (coB (cS I) γ p N) s)), some (vi (nI s))], [], mkH (J) t1 t2 k sc)) (fun _ J => FT I J) (N := n)
      (by
        intro s J hsn hf
        obtain ⟨K, fK, e⟩ := ax s hsn J hf
        have j3 : J 0 4 3 = nI n := by rw [hf _ _ _ (by omega)]; exact c0'
        have g1 : nI s < nI n := nI_lt hsn (by omega)
        refine ⟨K, ?_, fK⟩
        rw [b7_28_30]
        by_cases hz : coB (cS I) γ p N s = true
        · rw [if_pos hz] at e
          rw [fS_t hz]
          simp (disch := omega) only [bnd, bnd0, ↓cdec, ↓cnot, ↓reduceIte, Bo_0, Bo_1, ↓Bo_ok, i10, i01, eq_self, decide_true, decide_false, Bool.or_true, Bool.true_or, Bool.or_false, Bool.false_or, cond_true, cond_false, not_true_eq_false, not_false_eq_true, Bool.false_eq_true, and_self, and_true, true_and, and_false, false_and, nI_clamp, ↓inbc, inb_n, nI_pos, nI_1, j3, g1, b7_28_45, b7_28_53, b7_28_56, b7_28_63, e]
        · rw [if_neg hz] at e
          rw [fS_f (Bool.eq_false_iff.mpr hz)]
          simp (disch := omega) only [bnd, bnd0, ↓cdec, ↓cnot, ↓reduceIte, Bo_0, Bo_1, ↓Bo_ok, i10, i01, eq_self, decide_true, decide_false, Bool.or_true, Bool.true_or, Bool.or_false, Bool.false_or, cond_true, cond_false, not_true_eq_false, not_false_eq_true, Bool.false_eq_true, and_self, and_true, true_and, and_false, false_and, nI_clamp, ↓inbc, inb_n, nI_pos, nI_1, j3, g1, b7_28_45, b7_28_53, b7_28_63, e]) 0 I (by omega) FT.rfl
    have hx0 : den (10, 7, 28, 0, [some (vr 0 0), some (vi (nI p)), some (vi (nI N)), none, none], [], mkH I t1 t2 k sc) = some (some (vi (fS (coB (cS I) γ p N) n)), mkH (J1) t1 t2 k sc) := by
      have j3 : J1 0 4 3 = nI n := by rw [f1 _ _ _ (by omega)]; exact c0'
      have nl : ¬ nI n < nI n := nI_nlt (by omega) (by omega)
      refine Eq.trans ?_ (ex.trans ?_)
      · simp (disch := omega) only [bnd, bnd0, ↓cdec, ↓cnot, ↓reduceIte, Bo_0, Bo_1, ↓Bo_ok, i10, i01, eq_self, decide_true, decide_false, Bool.or_true, Bool.true_or, Bool.or_false, Bool.false_or, cond_true, cond_false, not_true_eq_false, not_false_eq_true, Bool.false_eq_true, and_self, and_true, true_and, and_false, false_and, nI_clamp, ↓inbc, inb_n, nI_pos, nI_1, b7_28_0, b7_28_4, b7_28_7, b7_28_15, b7_28_25, x_isPrisoner, x_within, k32_1, k32_480, h1, h2]
        rfl
      · rw [b7_28_30]
        simp (disch := omega) only [bnd, bnd0, ↓cdec, ↓cnot, ↓reduceIte, Bo_0, Bo_1, ↓Bo_ok, i10, i01, eq_self, decide_true, decide_false, Bool.or_true, Bool.true_or, Bool.or_false, Bool.false_or, cond_true, cond_false, not_true_eq_false, not_false_eq_true, Bool.false_eq_true, and_self, and_true, true_and, and_false, false_and, nI_clamp, ↓inbc, inb_n, nI_pos, nI_1, j3, nl, b7_28_69]
    have r1 : ∀ i, J1 0 57 i = I 0 57 i := fun i => f1 _ _ _ (by omega)
    obtain ⟨J2, l2, hl2, em, f2⟩ := lpLE (fun s J l => den (9 + 1, 8, 65, 31, [some (vr 0 56), some (vi (nI p)), some (vi (nI N)), some (vi (fS (coB (cS I) γ p N) s)), some (vi (nI s)), l], [], mkH (J) t1 t2 k sc)) (fun _ J => FB J1 J) (N := n)
      (by
        intro s J hl' hsn hf hl
        have hS : sumOK I (t1 s) k (I 0 6 s) (I 0 7 s) (cS I s) := hQ s hsn
        obtain ⟨h, g1, g2', eH⟩ := hard_ok (sum_c2 hS)
        have rJ : ∀ i, J 0 57 i = I 0 57 i := fun i => (hf _ _ _ (by omega)).trans (r1 i)
        have j0 : J 0 57 0 = nI n := by rw [rJ]; exact c0
        have gn : nI s < nI n := nI_lt hsn (by omega)
        obtain ⟨IP, eP, p1, p2⟩ := m_puts 9 J t1 t2 k sc
        obtain ⟨JD, eD, a1, a2, a3⟩ := m_newDay 8 (uI IP 0 57 1 (nI s)) t1 t2 k sc
        have m1 : MenM JD (dG γ) := a2 γ (hM.keep (fun i h5 _ => by rw [uI_ne (by omega), p2 _ _ _ (by omega), rJ]))
        have d1 : JD 0 57 1 = nI s := by rw [a3 _ _ _ (by omega), uI_at (by omega)]
        have dC : cS JD s = cS I s := funext fun a => by
          show JD 0 57 _ = I 0 57 _
          rw [a3 _ _ _ (by omega), uI_ne (by omega), p2 _ _ _ (by omega), rJ]
        have lm : ∀ m r (J' : IFn) (δ : Men), r + m = N → MenM J' δ → okMn δ → δ 8 p = 0 → FM JD J' → ∃ (K : IFn) (r' : Nat), MenM K (coF (nI h) (solC (cS I s)) p m δ) ∧ FM JD K ∧ den (9 + 1, 8, 65, 61, [some (vr 0 56), some (vi (nI p)), some (vi (nI N)), some (vi (fS (coB (cS I) γ p N) s)), some (vi (nI s)), some (vi (nI r))], [], mkH (J') t1 t2 k sc) = den (9 + 1, 8, 65, 92, [some (vr 0 56), some (vi (nI p)), some (vi (nI N)), some (vi (fS (coB (cS I) γ p N) s)), some (vi (nI s)), some (vi (nI r'))], [], mkH (K) t1 t2 k sc) := by
          intro m
          induction m with
          | zero =>
            intro r J' δ hr hJ hδ h8 hf'
            have hl : ¬ nI r < nI N := nI_nlt (by omega) (by omega)
            refine ⟨J', r, hJ, hf', ?_⟩
            rw [b8_65_61]
            simp (disch := omega) only [bnd, bnd0, ↓cdec, ↓cnot, ↓reduceIte, Bo_0, Bo_1, ↓Bo_ok, i10, i01, eq_self, decide_true, decide_false, Bool.or_true, Bool.true_or, Bool.or_false, Bool.false_or, cond_true, cond_false, not_true_eq_false, not_false_eq_true, Bool.false_eq_true, and_self, and_true, true_and, and_false, false_and, nI_clamp, ↓inbc, inb_n, nI_pos, nI_1, hl]
          | succ m ih =>
            intro r J' δ hr hJ hδ h8 hf'
            have hl : nI r < nI N := nI_lt (by omega) (by omega)
            have e6 : J' 0 57 (5 + 9 * p + 6) = δ 6 p := hJ 6 p (by omega) hp
            rw [coF]
            by_cases hz : δ 6 p < 0
            · rw [if_pos hz]
              obtain ⟨K, e, k1, k2⟩ := m_works 6 J' t1 t2 k sc hp (show s < 8 by omega) g1 g2' hS eH hJ hδ (op_t.mpr ⟨h8, hz⟩) (by rw [hf' _ _ _ (by omega)]; exact d1) (by rw [← dC]; exact funext fun a => hf' _ _ _ (by omega))
              obtain ⟨K2, r', q1, q2, q3⟩ := ih (r + 1) K _ (by omega) k1 (wo_ok g1 g2' _ hδ hp) (by rw [wo_8]; exact h8) (fun g j i hn => (k2 _ _ _ hn).trans (hf' _ _ _ hn))
              refine ⟨K2, r', q1, q2, Eq.trans ?_ q3⟩
              rw [b8_65_61]
              simp (disch := omega) only [bnd, bnd0, ↓cdec, ↓cnot, ↓reduceIte, Bo_0, Bo_1, ↓Bo_ok, i10, i01, eq_self, decide_true, decide_false, Bool.or_true, Bool.true_or, Bool.or_false, Bool.false_or, cond_true, cond_false, not_true_eq_false, not_false_eq_true, Bool.false_eq_true, and_self, and_true, true_and, and_false, false_and, nI_clamp, ↓inbc, inb_n, nI_pos, nI_1, hl, b8_65_67, b8_65_77, b8_65_81, b8_65_86, mA_6, e6, hz, e]
            · rw [if_neg hz]
              refine ⟨J', r, hJ, hf', ?_⟩
              rw [b8_65_61]
              simp (disch := omega) only [bnd, bnd0, ↓cdec, ↓cnot, ↓reduceIte, Bo_0, Bo_1, ↓Bo_ok, i10, i01, eq_self, decide_true, decide_false, Bool.or_true, Bool.true_or, Bool.or_false, Bool.false_or, cond_true, cond_false, not_true_eq_false, not_false_eq_true, Bool.false_eq_true, and_self, and_true, true_and, and_false, false_and, nI_clamp, ↓inbc, inb_n, nI_pos, nI_1, hl, b8_65_67, b8_65_77, mA_6, e6, hz]
        obtain ⟨K, r', q1, q2, q3⟩ := lm N 0 JD (dG γ) (by omega) m1 (dG_ok hok) (dG_0 (by omega)) (fun _ _ _ _ => rfl)
        obtain ⟨J3, e3, f3⟩ := m_undo 9 t1 t2 k sc (IQ := K) p1 p2 (fun g j i hn => by rw [q2 _ _ _ (by omega), a3 _ _ _ (by omega), uI_ne (by omega)])
        have e6 : K 0 57 (5 + 9 * p + 6) = (coF (nI h) (solC (cS I s)) p N (dG γ)) 6 p := q1 6 p (by omega) hp
        have cd : coB (cS I) γ p N s = !decide ((coF (nI h) (solC (cS I s)) p N (dG γ)) 6 p < 0) := by unfold coB; rw [eH]
        refine ⟨J3, nI r', Eq.trans ?_ (Eq.trans q3 ?_), hf.trans f3⟩
        · rcases hl with rfl | ⟨y, rfl⟩
          · rw [b8_65_31]
            simp (disch := omega) only [bnd, bnd0, ↓cdec, ↓cnot, ↓reduceIte, Bo_0, Bo_1, ↓Bo_ok, i10, i01, eq_self, decide_true, decide_false, Bool.or_true, Bool.true_or, Bool.or_false, Bool.false_or, cond_true, cond_false, not_true_eq_false, not_false_eq_true, Bool.false_eq_true, and_self, and_true, true_and, and_false, false_and, nI_clamp, ↓inbc, inb_n, nI_pos, nI_1, j0, gn, b8_65_42, b8_65_46, b8_65_58, eP, eD]
            rfl
          · rw [b8_65_31w]
            simp (disch := omega) only [bnd, bnd0, ↓cdec, ↓cnot, ↓reduceIte, Bo_0, Bo_1, ↓Bo_ok, i10, i01, eq_self, decide_true, decide_false, Bool.or_true, Bool.true_or, Bool.or_false, Bool.false_or, cond_true, cond_false, not_true_eq_false, not_false_eq_true, Bool.false_eq_true, and_self, and_true, true_and, and_false, false_and, nI_clamp, ↓inbc, inb_n, nI_pos, nI_1, j0, gn, b8_65_42w, b8_65_46w, b8_65_58w, eP, eD]
            rfl
        · by_cases hz : (coF (nI h) (solC (cS I s)) p N (dG γ)) 6 p < 0
          · rw [fS_f (n := s) (by rw [cd, decide_eq_true hz]; rfl)]
            simp (disch := omega) only [bnd, bnd0, ↓cdec, ↓cnot, ↓reduceIte, Bo_0, Bo_1, ↓Bo_ok, i10, i01, eq_self, decide_true, decide_false, Bool.or_true, Bool.true_or, Bool.or_false, Bool.false_or, cond_true, cond_false, not_true_eq_false, not_false_eq_true, Bool.false_eq_true, and_self, and_true, true_and, and_false, false_and, nI_clamp, ↓inbc, inb_n, nI_pos, nI_1, b8_65_92, b8_65_103, b8_65_107, b8_65_115, b8_65_121, mA_6, e6, hz, e3, or0]
          · rw [fS_t (n := s) (by rw [cd, decide_eq_false hz]; rfl)]
            simp (disch := omega) only [bnd, bnd0, ↓cdec, ↓cnot, ↓reduceIte, Bo_0, Bo_1, ↓Bo_ok, i10, i01, eq_self, decide_true, decide_false, Bool.or_true, Bool.true_or, Bool.or_false, Bool.false_or, cond_true, cond_false, not_true_eq_false, not_false_eq_true, Bool.false_eq_true, and_self, and_true, true_and, and_false, false_and, nI_clamp, ↓inbc, inb_n, nI_pos, nI_1, b8_65_92, b8_65_103, b8_65_111, b8_65_115, b8_65_121, mA_6, e6, hz, e3]) 0 J1 none (by omega) FB.rfl (Or.inl rfl)
    refine ⟨fS (coB (cS I) γ p N) n, J1, J2, t1, t2, k, hx0, Eq.trans ?_ (em.trans ?_), hI.garb (FTB.al f1 f2), by omega⟩
    · simp (disch := omega) only [bnd, bnd0, ↓cdec, ↓cnot, ↓reduceIte, Bo_0, Bo_1, ↓Bo_ok, i10, i01, eq_self, decide_true, decide_false, Bool.or_true, Bool.true_or, Bool.or_false, Bool.false_or, cond_true, cond_false, not_true_eq_false, not_false_eq_true, Bool.false_eq_true, and_self, and_true, true_and, and_false, false_and, nI_clamp, ↓inbc, inb_n, nI_pos, nI_1, b8_65_0, b8_65_4, b8_65_7, b8_65_16, b8_65_26, m_isMan, m_in32, k64_1, k64_480, h1, h2]
      rfl
    · have j0 : J2 0 57 0 = nI n := by rw [f2 _ _ _ (by omega), r1]; exact c0
      have nl : ¬ nI n < nI n := nI_nlt (by omega) (by omega)
      rcases hl2 with rfl | ⟨y, rfl⟩
      · rw [b8_65_31]
        simp (disch := omega) only [bnd, bnd0, ↓cdec, ↓cnot, ↓reduceIte, Bo_0, Bo_1, ↓Bo_ok, i10, i01, eq_self, decide_true, decide_false, Bool.or_true, Bool.true_or, Bool.or_false, Bool.false_or, cond_true, cond_false, not_true_eq_false, not_false_eq_true, Bool.false_eq_true, and_self, and_true, true_and, and_false, false_and, nI_clamp, ↓inbc, inb_n, nI_pos, nI_1, j0, nl, b8_65_127]
      · rw [b8_65_31w]
        simp (disch := omega) only [bnd, bnd0, ↓cdec, ↓cnot, ↓reduceIte, Bo_0, Bo_1, ↓Bo_ok, i10, i01, eq_self, decide_true, decide_false, Bool.or_true, Bool.true_or, Bool.or_false, Bool.false_or, cond_true, cond_false, not_true_eq_false, not_false_eq_true, Bool.false_eq_true, and_self, and_true, true_and, and_false, false_and, nI_clamp, ↓inbc, inb_n, nI_pos, nI_1, j0, nl, b8_65_127w]
  · refine ⟨-1000001, uI I 0 47 0 (I 0 47 0 + 1), uI (uI I 0 47 0 (I 0 47 0 + 1)) 0 60 0 ((uI I 0 47 0 (I 0 47 0 + 1)) 0 60 0 + 1), t1, t2, k, ?_, ?_, hI.find (f := 0) (by omega), by omega⟩
    · by_cases h1 : 0 ≤ a1.toInt ∧ a1.toInt ≤ 9
      · have h3 : ¬ (1 ≤ a2.toInt ∧ a2.toInt ≤ 480) := fun z => hb ⟨h1, z⟩
        simp (disch := omega) only [bnd, bnd0, ↓cdec, ↓cnot, ↓reduceIte, Bo_0, Bo_1, ↓Bo_ok, i10, i01, eq_self, decide_true, decide_false, Bool.or_true, Bool.true_or, Bool.or_false, Bool.false_or, cond_true, cond_false, not_true_eq_false, not_false_eq_true, Bool.false_eq_true, and_self, and_true, true_and, and_false, false_and, nI_clamp, ↓inbc, inb_n, nI_pos, nI_1, b7_28_0, b7_28_4, b7_28_7, b7_28_15, b7_28_18, b7_28_24, x_isPrisoner, x_within, k32_1, k32_480, h1, h3, x_f0]
      · simp (disch := omega) only [bnd, bnd0, ↓cdec, ↓cnot, ↓reduceIte, Bo_0, Bo_1, ↓Bo_ok, i10, i01, eq_self, decide_true, decide_false, Bool.or_true, Bool.true_or, Bool.or_false, Bool.false_or, cond_true, cond_false, not_true_eq_false, not_false_eq_true, Bool.false_eq_true, and_self, and_true, true_and, and_false, false_and, nI_clamp, ↓inbc, inb_n, nI_pos, nI_1, b7_28_0, b7_28_4, b7_28_18, b7_28_24, x_isPrisoner, h1, x_f0]
    · by_cases h1 : 0 ≤ a1.toInt ∧ a1.toInt ≤ 9
      · have h3 : ¬ (1 ≤ a2.toInt ∧ a2.toInt ≤ 480) := fun z => hb ⟨h1, z⟩
        simp (disch := omega) only [bnd, bnd0, ↓cdec, ↓cnot, ↓reduceIte, Bo_0, Bo_1, ↓Bo_ok, i10, i01, eq_self, decide_true, decide_false, Bool.or_true, Bool.true_or, Bool.or_false, Bool.false_or, cond_true, cond_false, not_true_eq_false, not_false_eq_true, Bool.false_eq_true, and_self, and_true, true_and, and_false, false_and, nI_clamp, ↓inbc, inb_n, nI_pos, nI_1, b8_65_0, b8_65_4, b8_65_7, b8_65_16, b8_65_19, b8_65_25, m_isMan, m_in32, k64_1, k64_480, h1, h3, m_f0]
      · simp (disch := omega) only [bnd, bnd0, ↓cdec, ↓cnot, ↓reduceIte, Bo_0, Bo_1, ↓Bo_ok, i10, i01, eq_self, decide_true, decide_false, Bool.or_true, Bool.true_or, Bool.or_false, Bool.false_or, cond_true, cond_false, not_true_eq_false, not_false_eq_true, Bool.false_eq_true, and_self, and_true, true_and, and_false, false_and, nI_clamp, ↓inbc, inb_n, nI_pos, nI_1, b8_65_0, b8_65_4, b8_65_19, b8_65_25, m_isMan, h1, m_f0]
