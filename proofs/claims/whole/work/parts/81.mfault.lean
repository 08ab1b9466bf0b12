/-! the reference: fault, signs -/
theorem MXs.mx {J : IFn} {w pt : Bool} {dg op dl : Nat} {pl dn : List Int32} (h : MXs J (w, dg, op, pt, pl, dn, dl)) : MX J w dg op pt pl dn dl := h
section
variable (d : Nat) (I : IFn) (t1 t2 : TFn) (k : Nat) (sc : Nat × (Nat → Int32))
theorem m_fault {n : Nat} (B : Nat → Nat) (hn : n ≤ 40) (h8 : I 0 56 8 = nI n) (hB : ∀ i, i < n → I 0 61 i = nI (B i) ∧ B i < 256) : ∃ K, FRd I K ∧ den (d + 3, 8, 18, 0, [some (vr 0 56), none], [], mkH I t1 t2 k sc) = some (some (vi (fltI n (rdP B 0 n p0))), mkH (K) t1 t2 k sc) ∧ ∀ w dg op pt pl dn dl, rdP B 0 n p0 = .inr (w, dg, op, pt, pl, dn, dl) → PD K (popW 1 pl dn).1 (popW 1 pl dn).2 ∧ (pt = true → K 0 56 14 = nI dl) := by
  have lx : ∀ m i (J : IFn) (s : PSt), i + m = n → FRd I J → PA i s → MXs J s → ∃ K, FRd I K ∧ den (d + 3, 8, 18, 32, [some (vr 0 56), some (vi (nI i))], [], mkH (J) t1 t2 k sc) = some (some (vi (fltI n (rdP B i m s))), mkH (K) t1 t2 k sc) ∧ ∀ w dg op pt pl dn dl, rdP B i m s = .inr (w, dg, op, pt, pl, dn, dl) → PD K (popW 1 pl dn).1 (popW 1 pl dn).2 ∧ (pt = true → K 0 56 14 = nI dl) := by
    intro m
    induction m with
    | zero =>
      intro i J s hi hf hA hx
      obtain ⟨w, dg, op, pt, pl, dn, dl⟩ := s
      obtain ⟨g0, g11, g12, g13, g14, g15⟩ := hx.mx
      have j8 : J 0 56 8 = nI n := by rw [hf _ _ _ (by omega)]; exact h8
      have nl : ¬ nI i < nI n := nI_nlt (by omega) (by omega)
      have a5 := hA.2.2.2.2.1
      have a2 := hA.2.1
      obtain ⟨K, f, e, kp⟩ := m_does (d + 1) t1 t2 k sc (r := 1) (by omega) pl dn J (by omega) g0
      have e' : den (d + 2, 8, 15, 0, [some (vr 0 56), some (vi 1)], [], mkH (J) t1 t2 k sc) = some (none, mkH (K) t1 t2 k sc) := e
      have kj : ∀ i, 11 ≤ i → K 0 56 i = J 0 56 i := fun i hi => f _ _ _ (by omega)
      have k8 : K 0 56 8 = nI n := by rw [f _ _ _ (by omega)]; exact j8
      have k11 := (kj 11 (by omega)).trans g11
      have k12 := (kj 12 (by omega)).trans g12
      have k15 := (kj 15 (by omega)).trans g15
      refine ⟨K, hf.trans (fun g j i hn => f _ _ _ (by omega)), ?_, fun w' dg' op' pt' pl' dn' dl' e2 => ?_⟩
      · rw [rdP, fltI]
        have go : ∀ (v : Int32), (bif decide (K 0 56 15 = 0) then (bif decide (0 < K 0 56 11) then nI n else (bif decide (K 0 56 12 = 0) then nI n else -1)) else nI n) = v → den (d + 3, 8, 18, 32, [some (vr 0 56), some (vi (nI i))], [], mkH (J) t1 t2 k sc) = some (some (vi v), mkH (K) t1 t2 k sc) := by
          intro v hv
          subst hv
          rw [b8_18_32]
          by_cases c1 : K 0 56 15 = 0
          · by_cases c2 : 0 < K 0 56 11
            · simp (disch := omega) only [bnd, bnd0, ↓cdec, ↓cnot, ↓reduceIte, Bo_0, Bo_1, ↓Bo_ok, i10, i01, eq_self, decide_true, decide_false, Bool.or_true, Bool.true_or, Bool.or_false, Bool.false_or, cond_true, cond_false, not_true_eq_false, not_false_eq_true, Bool.false_eq_true, and_self, and_true, true_and, and_false, false_and, nI_clamp, ↓inbc, inb_n, nI_pos, nI_1, j8, nl, b8_18_61, b8_18_66, b8_18_73, b8_18_87, b8_18_95, e', k8, c1, c2]
            · by_cases c3 : K 0 56 12 = 0
              · simp (disch := omega) only [bnd, bnd0, ↓cdec, ↓cnot, ↓reduceIte, Bo_0, Bo_1, ↓Bo_ok, i10, i01, eq_self, decide_true, decide_false, Bool.or_true, Bool.true_or, Bool.or_false, Bool.false_or, cond_true, cond_false, not_true_eq_false, not_false_eq_true, Bool.false_eq_true, and_self, and_true, true_and, and_false, false_and, nI_clamp, ↓inbc, inb_n, nI_pos, nI_1, j8, nl, b8_18_61, b8_18_66, b8_18_73, b8_18_80, b8_18_87, b8_18_95, e', k8, c1, c2, c3]
              · simp (disch := omega) only [bnd, bnd0, ↓cdec, ↓cnot, ↓reduceIte, Bo_0, Bo_1, ↓Bo_ok, i10, i01, eq_self, decide_true, decide_false, Bool.or_true, Bool.true_or, Bool.or_false, Bool.false_or, cond_true, cond_false, not_true_eq_false, not_false_eq_true, Bool.false_eq_true, and_self, and_true, true_and, and_false, false_and, nI_clamp, ↓inbc, inb_n, nI_pos, nI_1, j8, nl, b8_18_61, b8_18_66, b8_18_73, b8_18_80, b8_18_94, b8_18_95, e', k8, c1, c2, c3]
          · simp (disch := omega) only [bnd, bnd0, ↓cdec, ↓cnot, ↓reduceIte, Bo_0, Bo_1, ↓Bo_ok, i10, i01, eq_self, decide_true, decide_false, Bool.or_true, Bool.true_or, Bool.or_false, Bool.false_or, cond_true, cond_false, not_true_eq_false, not_false_eq_true, Bool.false_eq_true, and_self, and_true, true_and, and_false, false_and, nI_clamp, ↓inbc, inb_n, nI_pos, nI_1, j8, nl, b8_18_61, b8_18_66, b8_18_87, b8_18_95, e', k8, c1]
        apply go
        rw [k15, k11, k12]
        have g0 : decide ((0 : Int32) < nI op) = decide (0 < op) := decide_eq_decide.mpr (Iff.of_eq (gt0 (by omega)))
        rw [g0]
        cases w <;> cases pt <;> by_cases z : 0 < op <;> simp [bN, z]
      · rw [rdP] at e2
        have c2' : ((w, dg, op, pt, pl, dn, dl) : PSt) = (w', dg', op', pt', pl', dn', dl') := Sum.inr.inj e2
        have c3 := congrArg Prod.snd c2'
        have c4 := congrArg Prod.snd c3
        have c5 := congrArg Prod.snd c4
        have t4 := congrArg Prod.fst c5
        have c6 := congrArg Prod.snd c5
        have t5 := congrArg Prod.fst c6
        have c7 := congrArg Prod.snd c6
        have t6 := congrArg Prod.fst c7
        have t7 := congrArg Prod.snd c7
        dsimp only at t4 t5 t6 t7
        subst t4 t5 t6 t7
        exact ⟨kp, fun z => (kj 14 (by omega)).trans (g14 z)⟩
    | succ m ih =>
      intro i J s hi hf hA hx
      obtain ⟨w, dg, op, pt, pl, dn, dl⟩ := s
      have j8 : J 0 56 8 = nI n := by rw [hf _ _ _ (by omega)]; exact h8
      have il : nI i < nI n := nI_lt (by omega) (by omega)
      obtain ⟨eB, b256⟩ := hB i (by omega)
      have jB : J 0 61 i = nI (B i) := by rw [hf _ _ _ (by omega)]; exact eB
      have mg := m_goes d J t1 t2 k sc b256 (show i < 40 by omega) hA hx.mx
      cases hs : stP (w, dg, op, pt, pl, dn, dl) (B i) with
      | none =>
        rw [hs] at mg
        obtain ⟨K, f, e⟩ := mg
        have er : rdP B i (m + 1) (w, dg, op, pt, pl, dn, dl) = .inl i := by rw [rdP, hs]
        rw [er]
        refine ⟨K, hf.trans f, ?_, fun w' dg' op' pt' pl' dn' dl' e2 => (by cases e2)⟩
        rw [b8_18_32]
        simp (disch := omega) only [bnd, bnd0, ↓cdec, ↓cnot, ↓reduceIte, Bo_0, Bo_1, ↓Bo_ok, i10, i01, eq_self, decide_true, decide_false, Bool.or_true, Bool.true_or, Bool.or_false, Bool.false_or, cond_true, cond_false, not_true_eq_false, not_false_eq_true, Bool.false_eq_true, and_self, and_true, true_and, and_false, false_and, nI_clamp, ↓inbc, inb_n, nI_pos, nI_1, j8, il, b8_18_40, b8_18_50, b8_18_53, jB, e]
        rfl
      | some u =>
        rw [hs] at mg
        obtain ⟨K, f, e, x⟩ := mg
        have er : rdP B i (m + 1) (w, dg, op, pt, pl, dn, dl) = rdP B (i + 1) m u := by rw [rdP, hs]
        rw [er]
        obtain ⟨K2, f2, e2, q2⟩ := ih (i + 1) K u (by omega) (hf.trans f) (PA_step hA hs) x
        refine ⟨K2, f2, Eq.trans ?_ e2, q2⟩
        rw [b8_18_32]
        simp (disch := omega) only [bnd, bnd0, ↓cdec, ↓cnot, ↓reduceIte, Bo_0, Bo_1, ↓Bo_ok, i10, i01, eq_self, decide_true, decide_false, Bool.or_true, Bool.true_or, Bool.or_false, Bool.false_or, cond_true, cond_false, not_true_eq_false, not_false_eq_true, Bool.false_eq_true, and_self, and_true, true_and, and_false, false_and, nI_clamp, ↓inbc, inb_n, nI_pos, nI_1, j8, il, b8_18_40, b8_18_50, b8_18_55, jB, e]
  obtain ⟨K, f, e, q⟩ := lx n 0 (uI (uI (uI (uI (uI (uI I 0 56 9 0) 0 56 10 0) 0 56 11 0) 0 56 12 0) 0 56 13 0) 0 56 15 1) p0 (by omega) (fun g j i hn => by rw [uI_ne (by omega), uI_ne (by omega), uI_ne (by omega), uI_ne (by omega), uI_ne (by omega), uI_ne (by omega)]) ⟨by omega, by omega, fun _ => rfl, rfl, by simp, fun z => by omega⟩ ⟨⟨by rw [uI_ne (by omega), uI_ne (by omega), uI_ne (by omega), uI_ne (by omega), uI_ne (by omega), uI_at (by omega)]; rfl, by rw [uI_ne (by omega), uI_ne (by omega), uI_ne (by omega), uI_ne (by omega), uI_at (by omega)]; rfl, trivial, trivial⟩, by rw [uI_ne (by omega), uI_ne (by omega), uI_ne (by omega), uI_at (by omega)]; rfl, by rw [uI_ne (by omega), uI_ne (by omega), uI_at (by omega)]; rfl, by rw [uI_ne (by omega), uI_at (by omega)]; rfl, fun z => (by cases z), by rw [uI_at (by omega)]; rfl⟩
  refine ⟨K, f, Eq.trans ?_ e, q⟩
  rw [b8_18_0]
  rfl
theorem m_signs {n : Nat} (B : Nat → Nat) (hn : n ≤ 40) (h8 : I 0 56 8 = nI n) (hB : ∀ i, i < n → I 0 61 i = nI (B i) ∧ B i < 256) : den (d + 1, 8, 19, 0, [some (vr 0 56), none, none], [], mkH I t1 t2 k sc) = some (some (vi (nI (mkF B 0 n))), mkH I t1 t2 k sc) := by
  have st : ∀ p, p < n → den (d + 1, 8, 19, 4, [some (vr 0 56), some (vi (nI (mkF B 0 p))), some (vi (nI p))], [], mkH I t1 t2 k sc) = den (d + 1, 8, 19, 4, [some (vr 0 56), some (vi (nI (mkF B 0 (p + 1)))), some (vi (nI (p + 1)))], [], mkH I t1 t2 k sc) := by
    intro p hp
    obtain ⟨eB, b256⟩ := hB p hp
    have il : nI p < nI n := nI_lt (by omega) (by omega)
    have xd := m_dig d I t1 t2 k sc b256
    have q120 : (nI (B p) = 120) = (B p = 120) := eqN (m := 120) (by omega) (by omega)
    rw [b8_19_4]
    have em : mkF B 0 (p + 1) = mkF B 0 p + if isM (B p) = true then 1 else 0 := by rw [mkF, Nat.zero_add]
    cases hd : isD (B p) with
    | true =>
      rw [hd] at xd
      have b1 : (bN true : Int32) = 1 := rfl
      rw [b1] at xd
      rw [em, if_pos (by rw [isM, hd]; rfl)]
      simp (disch := omega) only [bnd, bnd0, ↓cdec, ↓cnot, ↓reduceIte, Bo_0, Bo_1, ↓Bo_ok, i10, i01, eq_self, decide_true, decide_false, Bool.or_true, Bool.true_or, Bool.or_false, Bool.false_or, cond_true, cond_false, not_true_eq_false, not_false_eq_true, Bool.false_eq_true, and_self, and_true, true_and, and_false, false_and, nI_clamp, ↓inbc, inb_n, nI_pos, nI_1, h8, il, b8_19_12, b8_19_29, b8_19_55, b8_19_60, eB, xd]
    | false =>
      rw [hd] at xd
      have b1 : (bN false : Int32) = 0 := rfl
      rw [b1] at xd
      by_cases h120 : B p = 120
      · have h120' := eq_true h120
        rw [em, if_pos (by rw [isM, hd, decide_eq_true h120]; rfl)]
        simp (disch := omega) only [bnd, bnd0, ↓cdec, ↓cnot, ↓reduceIte, Bo_0, Bo_1, ↓Bo_ok, i10, i01, eq_self, decide_true, decide_false, Bool.or_true, Bool.true_or, Bool.or_false, Bool.false_or, cond_true, cond_false, not_true_eq_false, not_false_eq_true, Bool.false_eq_true, and_self, and_true, true_and, and_false, false_and, nI_clamp, ↓inbc, inb_n, nI_pos, nI_1, h8, il, b8_19_12, b8_19_29, b8_19_32, b8_19_55, b8_19_60, eB, xd, q120, h120']
      · by_cases hs : sgC (B p) = 0
        · have hs' := eq_true hs
          rw [em, if_neg (by rw [isM, hd, decide_eq_false h120, decide_eq_true hs]; decide)]
          simp (disch := omega) only [bnd, bnd0, ↓cdec, ↓cnot, ↓reduceIte, Bo_0, Bo_1, ↓Bo_ok, i10, i01, eq_self, decide_true, decide_false, Bool.or_true, Bool.true_or, Bool.or_false, Bool.false_or, cond_true, cond_false, not_true_eq_false, not_false_eq_true, Bool.false_eq_true, and_self, and_true, true_and, and_false, false_and, nI_clamp, ↓inbc, inb_n, nI_pos, nI_1, h8, il, b8_19_12, b8_19_29, b8_19_32, b8_19_43, b8_19_52, b8_19_59, b8_19_60, eB, xd, q120, h120, m_sgn, hs', Int32.add_zero, Nat.add_zero]
        · rw [em, if_pos (by rw [isM, hd, decide_eq_false h120, decide_eq_false hs]; rfl)]
          simp (disch := omega) only [bnd, bnd0, ↓cdec, ↓cnot, ↓reduceIte, Bo_0, Bo_1, ↓Bo_ok, i10, i01, eq_self, decide_true, decide_false, Bool.or_true, Bool.true_or, Bool.or_false, Bool.false_or, cond_true, cond_false, not_true_eq_false, not_false_eq_true, Bool.false_eq_true, and_self, and_true, true_and, and_false, false_and, nI_clamp, ↓inbc, inb_n, nI_pos, nI_1, h8, il, b8_19_12, b8_19_29, b8_19_32, b8_19_43, b8_19_52, b8_19_55, b8_19_60, eB, xd, q120, h120, m_sgn, hs]
  refine (b8_19_0 d I t1 t2 k sc).trans ?_
  refine (lp (fun p => den (d + 1, 8, 19, 4, [some (vr 0 56), some (vi (nI (mkF B 0 p))), some (vi (nI p))], [], mkH I t1 t2 k sc)) st 0 (by omega)).trans ?_
  have nl : ¬ nI n < nI n := nI_nlt (Nat.le_refl _) (by omega)
  rw [b8_19_4]
  simp (disch := omega) only [bnd, bnd0, ↓cdec, ↓cnot, ↓reduceIte, Bo_0, Bo_1, ↓Bo_ok, i10, i01, eq_self, decide_true, decide_false, Bool.or_true, Bool.true_or, Bool.or_false, Bool.false_or, cond_true, cond_false, not_true_eq_false, not_false_eq_true, Bool.false_eq_true, and_self, and_true, true_and, and_false, false_and, nI_clamp, ↓inbc, inb_n, nI_pos, nI_1, h8, nl, b8_19_68]
end
