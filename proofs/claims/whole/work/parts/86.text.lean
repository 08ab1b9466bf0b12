/-! Text's constructor -/
section
variable (d : Nat) (I : IFn) (t1 t2 : TFn) (k : Nat) (v0 v1 : Option (Nat × Nat)) (al : Nat × Nat) (sc : Nat × (Nat → Int32))
theorem s_isO {b : Nat} (hb : b < 256) : den (d, 4, 6, 0, [some (vi (nI b))], [], mkS I t1 t2 k v0 v1 al sc) = some (some (vi (bN (!decide (sgC b = 0)))), mkS I t1 t2 k v0 v1 al sc) := by
  have q : ∀ m : Nat, m < 256 → ∀ x : Int32, x = nI m → (nI b = x) = (b = m) := fun m hm x e => by rw [e]; exact eqN (by omega) (by omega)
  have q1 := q 43 (by omega) 43 rfl
  have q2 := q 45 (by omega) 45 rfl
  have q3 := q 42 (by omega) 42 rfl
  have q4 := q 47 (by omega) 47 rfl
  have q5 := q 37 (by omega) 37 rfl
  by_cases h1 : b = 43
  · have h1' := eq_true h1
    rw [show sgC b = -2 by rw [h1]; rfl]
    simp (disch := omega) only [bnd, bnd0, ↓cdec, ↓cnot, ↓reduceIte, Bo_0, Bo_1, ↓Bo_ok, i10, i01, eq_self, decide_true, decide_false, Bool.or_true, Bool.true_or, Bool.or_false, Bool.false_or, cond_true, cond_false, not_true_eq_false, not_false_eq_true, Bool.false_eq_true, and_self, and_true, true_and, and_false, false_and, nI_clamp, ↓inbc, inb_n, nI_pos, nI_1, s4_6_0, s4_6_30, s4_6_35, q1, h1']
    rfl
  · by_cases h2 : b = 45
    · have h2' := eq_true h2
      rw [show sgC b = -3 by rw [h2]; rfl]
      simp (disch := omega) only [bnd, bnd0, ↓cdec, ↓cnot, ↓reduceIte, Bo_0, Bo_1, ↓Bo_ok, i10, i01, eq_self, decide_true, decide_false, Bool.or_true, Bool.true_or, Bool.or_false, Bool.false_or, cond_true, cond_false, not_true_eq_false, not_false_eq_true, Bool.false_eq_true, and_self, and_true, true_and, and_false, false_and, nI_clamp, ↓inbc, inb_n, nI_pos, nI_1, s4_6_0, s4_6_6, s4_6_30, s4_6_35, q1, q2, h1, h2']
      rfl
    · by_cases h3 : b = 42
      · have h3' := eq_true h3
        rw [show sgC b = -4 by rw [h3]; rfl]
        simp (disch := omega) only [bnd, bnd0, ↓cdec, ↓cnot, ↓reduceIte, Bo_0, Bo_1, ↓Bo_ok, i10, i01, eq_self, decide_true, decide_false, Bool.or_true, Bool.true_or, Bool.or_false, Bool.false_or, cond_true, cond_false, not_true_eq_false, not_false_eq_true, Bool.false_eq_true, and_self, and_true, true_and, and_false, false_and, nI_clamp, ↓inbc, inb_n, nI_pos, nI_1, s4_6_0, s4_6_6, s4_6_12, s4_6_30, s4_6_35, q1, q2, q3, h1, h2, h3']
        rfl
      · by_cases h4 : b = 47
        · have h4' := eq_true h4
          rw [show sgC b = -5 by rw [h4]; rfl]
          simp (disch := omega) only [bnd, bnd0, ↓cdec, ↓cnot, ↓reduceIte, Bo_0, Bo_1, ↓Bo_ok, i10, i01, eq_self, decide_true, decide_false, Bool.or_true, Bool.true_or, Bool.or_false, Bool.false_or, cond_true, cond_false, not_true_eq_false, not_false_eq_true, Bool.false_eq_true, and_self, and_true, true_and, and_false, false_and, nI_clamp, ↓inbc, inb_n, nI_pos, nI_1, s4_6_0, s4_6_6, s4_6_12, s4_6_18, s4_6_30, s4_6_35, q1, q2, q3, q4, h1, h2, h3, h4']
          rfl
        · by_cases h5 : b = 37
          · have h5' := eq_true h5
            rw [show sgC b = -6 by rw [h5]; rfl]
            simp (disch := omega) only [bnd, bnd0, ↓cdec, ↓cnot, ↓reduceIte, Bo_0, Bo_1, ↓Bo_ok, i10, i01, eq_self, decide_true, decide_false, Bool.or_true, Bool.true_or, Bool.or_false, Bool.false_or, cond_true, cond_false, not_true_eq_false, not_false_eq_true, Bool.false_eq_true, and_self, and_true, true_and, and_false, false_and, nI_clamp, ↓inbc, inb_n, nI_pos, nI_1, s4_6_0, s4_6_6, s4_6_12, s4_6_18, s4_6_24, s4_6_30, s4_6_35, q1, q2, q3, q4, q5, h1, h2, h3, h4, h5']
            rfl
          · rw [show sgC b = 0 by rw [sgC, if_neg h1, if_neg h2, if_neg h3, if_neg h4, if_neg h5]]
            simp (disch := omega) only [bnd, bnd0, ↓cdec, ↓cnot, ↓reduceIte, Bo_0, Bo_1, ↓Bo_ok, i10, i01, eq_self, decide_true, decide_false, Bool.or_true, Bool.true_or, Bool.or_false, Bool.false_or, cond_true, cond_false, not_true_eq_false, not_false_eq_true, Bool.false_eq_true, and_self, and_true, true_and, and_false, false_and, nI_clamp, ↓inbc, inb_n, nI_pos, nI_1, s4_6_0, s4_6_6, s4_6_12, s4_6_18, s4_6_24, s4_6_34, s4_6_35, q1, q2, q3, q4, q5, h1, h2, h3, h4, h5]
            rfl
/-- a sign is counted -/
theorem t_cnt {e b c i : Nat} (x2 : Int32) (hb : b < 256) : den (d + 1, 5, 0, 65, [some (vr (e + 1) 0), some (vr 0 1), some (vi x2), some (vi (nI c)), some (vi (nI i)), some (vi (nI b))], [], mkS I t1 t2 k v0 v1 al sc) = den (d + 1, 5, 0, 27, [some (vr (e + 1) 0), some (vr 0 1), some (vi x2), some (vi (nI (c + if isM b = true then 1 else 0))), some (vi (nI (i + 1))), some (vi (nI b))], [], mkS I t1 t2 k v0 v1 al sc) := by
  have xd := s_isD d I t1 t2 k v0 v1 al sc hb
  have xo := s_isO d I t1 t2 k v0 v1 al sc hb
  have q120 : (nI b = 120) = (b = 120) := eqN (m := 120) (by omega) (by omega)
  by_cases h120 : b = 120
  · have h120' := eq_true h120
    rw [if_pos (by rw [isM, decide_eq_true h120]; simp)]
    simp (disch := omega) only [bnd, bnd0, ↓cdec, ↓cnot, ↓reduceIte, Bo_0, Bo_1, ↓Bo_ok, i10, i01, eq_self, decide_true, decide_false, Bool.or_true, Bool.true_or, Bool.or_false, Bool.false_or, cond_true, cond_false, not_true_eq_false, not_false_eq_true, Bool.false_eq_true, and_self, and_true, true_and, and_false, false_and, nI_clamp, ↓inbc, inb_n, nI_pos, nI_1, s5_0_65, s5_0_88, s5_0_91, q120, h120']
  · cases hd : isD b with
    | true =>
      rw [hd, bN_1] at xd
      rw [if_pos (by rw [isM, hd]; rfl)]
      simp (disch := omega) only [bnd, bnd0, ↓cdec, ↓cnot, ↓reduceIte, Bo_0, Bo_1, ↓Bo_ok, i10, i01, eq_self, decide_true, decide_false, Bool.or_true, Bool.true_or, Bool.or_false, Bool.false_or, cond_true, cond_false, not_true_eq_false, not_false_eq_true, Bool.false_eq_true, and_self, and_true, true_and, and_false, false_and, nI_clamp, ↓inbc, inb_n, nI_pos, nI_1, s5_0_65, s5_0_72, s5_0_77, s5_0_88, s5_0_91, q120, h120, xd]
    | false =>
      rw [hd, bN_0] at xd
      by_cases hs : sgC b = 0
      · rw [decide_eq_true hs] at xo
        have xo' : den (d, 4, 6, 0, [some (vi (nI b))], [], mkS I t1 t2 k v0 v1 al sc) = some (some (vi 0), mkS I t1 t2 k v0 v1 al sc) := xo
        rw [if_neg (by rw [isM, hd, decide_eq_false h120, decide_eq_true hs]; decide)]
        simp (disch := omega) only [bnd, bnd0, ↓cdec, ↓cnot, ↓reduceIte, Bo_0, Bo_1, ↓Bo_ok, i10, i01, eq_self, decide_true, decide_false, Bool.or_true, Bool.true_or, Bool.or_false, Bool.false_or, cond_true, cond_false, not_true_eq_false, not_false_eq_true, Bool.false_eq_true, and_self, and_true, true_and, and_false, false_and, nI_clamp, ↓inbc, inb_n, nI_pos, nI_1, s5_0_65, s5_0_72, s5_0_77, s5_0_80, s5_0_85, s5_0_91, q120, h120, xd, xo', Nat.add_zero]
      · rw [decide_eq_false hs] at xo
        have xo' : den (d, 4, 6, 0, [some (vi (nI b))], [], mkS I t1 t2 k v0 v1 al sc) = some (some (vi 1), mkS I t1 t2 k v0 v1 al sc) := xo
        rw [if_pos (by rw [isM, hd, decide_eq_false h120, decide_eq_false hs]; rfl)]
        simp (disch := omega) only [bnd, bnd0, ↓cdec, ↓cnot, ↓reduceIte, Bo_0, Bo_1, ↓Bo_ok, i10, i01, eq_self, decide_true, decide_false, Bool.or_true, Bool.true_or, Bool.or_false, Bool.false_or, cond_true, cond_false, not_true_eq_false, not_false_eq_true, Bool.false_eq_true, and_self, and_true, true_and, and_false, false_and, nI_clamp, ↓inbc, inb_n, nI_pos, nI_1, s5_0_65, s5_0_72, s5_0_77, s5_0_80, s5_0_85, s5_0_88, s5_0_91, q120, h120, xd, xo']
/-- where it is parted, how many signs -/
theorem t_loop {e n a : Nat} (B : Nat → Nat) (hn : n ≤ 40) (h11 : I 0 1 1 = nI n) (hB : ∀ i, i < n → I 0 2 i = nI (B i) ∧ B i < 256) (ha : a < n) (hBa : B a = 61) (hlo : ∀ j, j < a → ¬ B j = 61) (hhi : ∀ j, a < j → j < n → ¬ B j = 61) : ∃ y : Int32, den (d + 1, 5, 0, 20, [some (vr (e + 1) 0), some (vr 0 1), none, none, none, none], [], mkS I t1 t2 k v0 v1 al sc) = den (d + 1, 5, 0, 97, [some (vr (e + 1) 0), some (vr 0 1), some (vi (nI a)), some (vi (nI (mkF B 0 n))), some (vi (nI n)), some (vi y)], [], mkS I t1 t2 k v0 v1 al sc) := by
  have lx : ∀ m i (l : Option AV), i + m = n → lok l → (0 < i → ∃ y, l = some (vi y)) → ∃ y : Int32, den (d + 1, 5, 0, 27, [some (vr (e + 1) 0), some (vr 0 1), some (vi (nI (if a < i then a else 0))), some (vi (nI (mkF B 0 i))), some (vi (nI i)), l], [], mkS I t1 t2 k v0 v1 al sc) = den (d + 1, 5, 0, 97, [some (vr (e + 1) 0), some (vr 0 1), some (vi (nI a)), some (vi (nI (mkF B 0 n))), some (vi (nI n)), some (vi y)], [], mkS I t1 t2 k v0 v1 al sc) := by
    intro m
    induction m with
    | zero =>
      intro i l hi hl hy
      have hin : i = n := by omega
      subst hin
      obtain ⟨y, rfl⟩ := hy (by omega)
      have nl : ¬ nI i < nI i := nI_nlt (Nat.le_refl _) (by omega)
      refine ⟨y, ?_⟩
      rw [if_pos ha, s5_0_27w]
      simp (disch := omega) only [bnd, bnd0, ↓cdec, ↓cnot, ↓reduceIte, Bo_0, Bo_1, ↓Bo_ok, i10, i01, eq_self, decide_true, decide_false, Bool.or_true, Bool.true_or, Bool.or_false, Bool.false_or, cond_true, cond_false, not_true_eq_false, not_false_eq_true, Bool.false_eq_true, and_self, and_true, true_and, and_false, false_and, nI_clamp, ↓inbc, inb_n, nI_pos, nI_1, h11, nl]
    | succ m ih =>
      intro i l hi hl hy
      obtain ⟨eB, b256⟩ := hB i (by omega)
      have il : nI i < nI n := nI_lt (by omega) (by omega)
      have i40 : i < 40 := by omega
      have q61 : (nI (B i) = 61) = (B i = 61) := eqN (m := 61) (by omega) (by omega)
      obtain ⟨y, e2⟩ := ih (i + 1) (some (vi (nI (B i)))) (by omega) (Or.inr ⟨_, rfl⟩) (fun _ => ⟨_, rfl⟩)
      refine ⟨y, Eq.trans ?_ e2⟩
      have cn := fun x2 => t_cnt d I t1 t2 k v0 v1 al sc (e := e) (b := B i) (c := mkF B 0 i) (i := i) x2 b256
      have em : mkF B 0 (i + 1) = mkF B 0 i + if isM (B i) = true then 1 else 0 := by rw [mkF, Nat.zero_add]
      rw [em, ← cn]
      by_cases h61 : B i = 61
      · have hia : i = a := by
          by_cases z : i < a
          · exact absurd h61 (hlo i z)
          · by_cases z2 : a < i
            · exact absurd h61 (hhi i z2 (by omega))
            · omega
        have h61' := eq_true h61
        rw [if_neg (by omega), if_pos (by omega), ← hia]
        rcases hl with rfl | ⟨y, rfl⟩
        · rw [s5_0_27]
          simp (disch := omega) only [bnd, bnd0, ↓cdec, ↓cnot, ↓reduceIte, Bo_0, Bo_1, ↓Bo_ok, i10, i01, eq_self, decide_true, decide_false, Bool.or_true, Bool.true_or, Bool.or_false, Bool.false_or, cond_true, cond_false, not_true_eq_false, not_false_eq_true, Bool.false_eq_true, and_self, and_true, true_and, and_false, false_and, nI_clamp, ↓inbc, inb_n, nI_pos, nI_1, h11, il, s5_0_36, s5_0_46, s5_0_62, lt_40, i40, eB, q61, h61']
        · rw [s5_0_27w]
          simp (disch := omega) only [bnd, bnd0, ↓cdec, ↓cnot, ↓reduceIte, Bo_0, Bo_1, ↓Bo_ok, i10, i01, eq_self, decide_true, decide_false, Bool.or_true, Bool.true_or, Bool.or_false, Bool.false_or, cond_true, cond_false, not_true_eq_false, not_false_eq_true, Bool.false_eq_true, and_self, and_true, true_and, and_false, false_and, nI_clamp, ↓inbc, inb_n, nI_pos, nI_1, h11, il, s5_0_36w, s5_0_46w, s5_0_62, lt_40, i40, eB, q61, h61']
      · have hia : ¬ i = a := fun z => h61 (by rw [z]; exact hBa)
        have ei : (if a < i + 1 then a else 0) = if a < i then a else 0 := by
          by_cases z : a < i
          · rw [if_pos z, if_pos (by omega)]
          · rw [if_neg z, if_neg (by omega)]
        rw [ei]
        rcases hl with rfl | ⟨y, rfl⟩
        · rw [s5_0_27]
          simp (disch := omega) only [bnd, bnd0, ↓cdec, ↓cnot, ↓reduceIte, Bo_0, Bo_1, ↓Bo_ok, i10, i01, eq_self, decide_true, decide_false, Bool.or_true, Bool.true_or, Bool.or_false, Bool.false_or, cond_true, cond_false, not_true_eq_false, not_false_eq_true, Bool.false_eq_true, and_self, and_true, true_and, and_false, false_and, nI_clamp, ↓inbc, inb_n, nI_pos, nI_1, h11, il, s5_0_36, s5_0_46, lt_40, i40, eB, q61, h61]
        · rw [s5_0_27w]
          simp (disch := omega) only [bnd, bnd0, ↓cdec, ↓cnot, ↓reduceIte, Bo_0, Bo_1, ↓Bo_ok, i10, i01, eq_self, decide_true, decide_false, Bool.or_true, Bool.true_or, Bool.or_false, Bool.false_or, cond_true, cond_false, not_true_eq_false, not_false_eq_true, Bool.false_eq_true, and_self, and_true, true_and, and_false, false_and, nI_clamp, ↓inbc, inb_n, nI_pos, nI_1, h11, il, s5_0_36w, s5_0_46w, lt_40, i40, eB, q61, h61]
  obtain ⟨y, e1⟩ := lx n 0 none (by omega) (Or.inl rfl) (fun z => by omega)
  refine ⟨y, Eq.trans ?_ e1⟩
  rw [s5_0_20, if_neg (by omega)]
  rfl
end
/-- what the working of the sides leaves -/
def FW (e : Nat) (I J : IFn) : Prop := ∀ g j i, ¬ (g = e + 1 ∧ (j = 1 ∨ j = 2 ∨ j = 5 ∨ j = 8 ∨ ((j = 3 ∨ j = 6) ∧ i = 3))) → J g j i = I g j i
section
variable (d : Nat) (I : IFn) (t1 t2 : TFn) (k : Nat) (sc : Nat × (Nat → Int32))
theorem t_worth {e : Nat} {D1 D2 : List Int32} (x2 x3 x4 x5 : Int32) (h1 : I (e + 1) 3 1 = nI D1.length) (h2 : I (e + 1) 6 1 = nI D2.length) (hS1 : stkS (I (e + 1) 4) D1) (hS2 : stkS (I (e + 1) 7) D2) (o1 : sideOK (cOf D1) D1.length) (o2 : sideOK (cOf D2) D2.length) : ∃ K, FW e I K ∧ den (d + 2, 5, 0, 141, [some (vr (e + 1) 0), some (vr 0 1), some (vi x2), some (vi x3), some (vi x4), some (vi x5)], [], mkH I t1 t2 k sc) = some (none, mkH (K) t1 t2 k sc) ∧ ∀ x, x < 100 → K (e + 1) 1 x = sideVal (cOf D1) D1.length (nI x) ∧ K (e + 1) 2 x = sideVal (cOf D2) D2.length (nI x) := by
  have c1 := stkS_rel hS1 (cOf_ok D1)
  have c2 := stkS_rel hS2 (cOf_ok D2)
  obtain ⟨K, e1, f, v⟩ := lpE (fun p J => den (d + 2, 5, 0, 144, [some (vr (e + 1) 0), some (vr 0 1), some (vi x2), some (vi x3), some (vi (nI p)), some (vi x5)], [], mkH (J) t1 t2 k sc))
    (fun p J => FW e I J ∧ ∀ x, x < p → J (e + 1) 1 x = sideVal (cOf D1) D1.length (nI x) ∧ J (e + 1) 2 x = sideVal (cOf D2) D2.length (nI x)) (N := 100)
    (by
      intro p J hp ⟨f, v⟩
      obtain ⟨J1, e1, f1⟩ := x_worth d J t1 t2 k sc (e := e) (q := 3) (Or.inl rfl) (cOf D1) (nI p) (by rw [f _ _ _ (by omega)]; exact h1) (fun i hi => by rw [f _ _ _ (by omega)]; exact c1 i hi) o1
      obtain ⟨J2, e2, f2⟩ := x_worth d (uI J1 (e + 1) 1 p (sideVal (cOf D1) D1.length (nI p))) t1 t2 k sc (e := e) (q := 6) (Or.inr rfl) (cOf D2) (nI p) (by rw [uI_ne (by omega), f1 _ _ _ (by omega), f _ _ _ (by omega)]; exact h2) (fun i hi => by rw [uI_ne (by omega), f1 _ _ _ (by omega), f _ _ _ (by omega)]; exact c2 i hi) o2
      refine ⟨uI J2 (e + 1) 2 p (sideVal (cOf D2) D2.length (nI p)), ?_, fun g j i hn => ?_, fun x hx => ⟨?_, ?_⟩⟩
      · rw [b5_0_144]
        simp (disch := omega) only [bnd, bnd0, ↓cdec, ↓cnot, ↓reduceIte, Bo_0, Bo_1, ↓Bo_ok, i10, i01, eq_self, decide_true, decide_false, Bool.or_true, Bool.true_or, Bool.or_false, Bool.false_or, cond_true, cond_false, not_true_eq_false, not_false_eq_true, Bool.false_eq_true, and_self, and_true, true_and, and_false, false_and, nI_clamp, ↓inbc, inb_n, nI_pos, nI_1, lt_100, hp, b5_0_151, b5_0_166, b5_0_182, e1, e2]
      · rw [uI_ne (by omega), f2 _ _ _ (by omega), uI_ne (by omega), f1 _ _ _ (by omega)]; exact f _ _ _ hn
      · rw [uI_ne (by omega), f2 _ _ _ (by omega)]
        by_cases hxp : x = p
        · subst hxp; exact uI_at (by omega)
        · rw [uI_ne (by omega), f1 _ _ _ (by omega)]; exact (v x (by omega)).1
      · by_cases hxp : x = p
        · subst hxp; exact uI_at (by omega)
        · rw [uI_ne (by omega), f2 _ _ _ (by omega), uI_ne (by omega), f1 _ _ _ (by omega)]; exact (v x (by omega)).2) 0 I (by omega) ⟨fun _ _ _ _ => rfl, fun x hx => by omega⟩
  refine ⟨K, f, ?_, v⟩
  have nl : ¬ 100 < 100 := by omega
  refine (b5_0_141 (d + 1) e x2 x3 x4 x5 I t1 t2 k sc).trans (Eq.trans e1 ?_)
  show den _ = _
  rw [b5_0_144]
  simp (disch := omega) only [bnd, bnd0, ↓cdec, ↓cnot, ↓reduceIte, Bo_0, Bo_1, ↓Bo_ok, i10, i01, eq_self, decide_true, decide_false, Bool.or_true, Bool.true_or, Bool.or_false, Bool.false_or, cond_true, cond_false, not_true_eq_false, not_false_eq_true, Bool.false_eq_true, and_self, and_true, true_and, and_false, false_and, nI_clamp, ↓inbc, inb_n, nI_pos, nI_1, lt_100, nl, b5_0_189]
end
