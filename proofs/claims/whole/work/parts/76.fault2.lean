def fltI (n : Nat) : Nat ⊕ PSt → Int32
  | .inl i => nI i
  | .inr (w, _, op, pt, _) => if w = true ∨ 0 < op ∨ pt = false then nI n else -1
section
variable (d : Nat) (I : IFn) (t1 t2 : TFn) (k : Nat) (sc : Nat × (Nat → Int32))
theorem x_fault {n : Nat} (B : Nat → Nat) (hn : n ≤ 40) (h1 : I 0 1 1 = nI n) (hB : ∀ i, i < n → I 0 2 i = nI (B i) ∧ B i < 256) : ∃ K, FX I K ∧ den (d + 2, 4, 2, 0, [some (vr 0 1), none, none], [], mkH I t1 t2 k sc) = some (some (vi (fltI n (rdP B 0 n p0))), mkH (K) t1 t2 k sc) := by
  have lx : ∀ m i (J : IFn) (l : Option AV) (w : Bool) (dg op : Nat) (pt : Bool) (pl dn : List Int32) (dl : Nat), i + m = n → lok l → FX I J → PX J w dg op pt → dg ≤ 3 → op ≤ 4 → (w = true → dg = 0) → ∃ K, FX I K ∧ den (d + 2, 4, 2, 22, [some (vr 0 1), some (vi (nI i)), l], [], mkH (J) t1 t2 k sc) = some (some (vi (fltI n (rdP B i m (w, dg, op, pt, pl, dn, dl)))), mkH (K) t1 t2 k sc) := by
    intro m
    induction m with
    | zero =>
      intro i J l w dg op pt pl dn dl hi hl hf hx hdg ho hw
      obtain ⟨x2, x3, x4, x5⟩ := hx
      have j1 : J 0 1 1 = nI n := by rw [hf _ _ _ (by omega)]; exact h1
      have nl : ¬ nI i < nI n := nI_nlt (by omega) (by omega)
      refine ⟨J, hf, ?_⟩
      rw [rdP, fltI]
      have go : ∀ (v : Int32), (bif decide (J 0 1 2 = 0) then (bif decide (0 < J 0 1 4) then nI n else (bif decide (J 0 1 5 = 0) then nI n else -1)) else nI n) = v → den (d + 2, 4, 2, 22, [some (vr 0 1), some (vi (nI i)), l], [], mkH (J) t1 t2 k sc) = some (some (vi v), mkH (J) t1 t2 k sc) := by
        intro v hv
        subst hv
        rcases hl with rfl | ⟨y, rfl⟩
        · rw [b4_2_22]
          by_cases c1 : J 0 1 2 = 0
          · by_cases c2 : 0 < J 0 1 4
            · simp (disch := omega) only [bnd, bnd0, ↓cdec, ↓cnot, ↓reduceIte, Bo_0, Bo_1, ↓Bo_ok, i10, i01, eq_self, decide_true, decide_false, Bool.or_true, Bool.true_or, Bool.or_false, Bool.false_or, cond_true, cond_false, not_true_eq_false, not_false_eq_true, Bool.false_eq_true, and_self, and_true, true_and, and_false, false_and, nI_clamp, ↓inbc, inb_n, nI_pos, nI_1, j1, nl, b4_2_80, b4_2_87, b4_2_101, b4_2_109, c1, c2]
            · by_cases c3 : J 0 1 5 = 0
              · simp (disch := omega) only [bnd, bnd0, ↓cdec, ↓cnot, ↓reduceIte, Bo_0, Bo_1, ↓Bo_ok, i10, i01, eq_self, decide_true, decide_false, Bool.or_true, Bool.true_or, Bool.or_false, Bool.false_or, cond_true, cond_false, not_true_eq_false, not_false_eq_true, Bool.false_eq_true, and_self, and_true, true_and, and_false, false_and, nI_clamp, ↓inbc, inb_n, nI_pos, nI_1, j1, nl, b4_2_80, b4_2_87, b4_2_94, b4_2_101, b4_2_109, c1, c2, c3]
              · simp (disch := omega) only [bnd, bnd0, ↓cdec, ↓cnot, ↓reduceIte, Bo_0, Bo_1, ↓Bo_ok, i10, i01, eq_self, decide_true, decide_false, Bool.or_true, Bool.true_or, Bool.or_false, Bool.false_or, cond_true, cond_false, not_true_eq_false, not_false_eq_true, Bool.false_eq_true, and_self, and_true, true_and, and_false, false_and, nI_clamp, ↓inbc, inb_n, nI_pos, nI_1, j1, nl, b4_2_80, b4_2_87, b4_2_94, b4_2_108, b4_2_109, c1, c2, c3]
          · simp (disch := omega) only [bnd, bnd0, ↓cdec, ↓cnot, ↓reduceIte, Bo_0, Bo_1, ↓Bo_ok, i10, i01, eq_self, decide_true, decide_false, Bool.or_true, Bool.true_or, Bool.or_false, Bool.false_or, cond_true, cond_false, not_true_eq_false, not_false_eq_true, Bool.false_eq_true, and_self, and_true, true_and, and_false, false_and, nI_clamp, ↓inbc, inb_n, nI_pos, nI_1, j1, nl, b4_2_80, b4_2_101, b4_2_109, c1]
        · rw [b4_2_22w]
          by_cases c1 : J 0 1 2 = 0
          · by_cases c2 : 0 < J 0 1 4
            · simp (disch := omega) only [bnd, bnd0, ↓cdec, ↓cnot, ↓reduceIte, Bo_0, Bo_1, ↓Bo_ok, i10, i01, eq_self, decide_true, decide_false, Bool.or_true, Bool.true_or, Bool.or_false, Bool.false_or, cond_true, cond_false, not_true_eq_false, not_false_eq_true, Bool.false_eq_true, and_self, and_true, true_and, and_false, false_and, nI_clamp, ↓inbc, inb_n, nI_pos, nI_1, j1, nl, b4_2_80w, b4_2_87w, b4_2_101w, b4_2_109w, c1, c2]
            · by_cases c3 : J 0 1 5 = 0
              · simp (disch := omega) only [bnd, bnd0, ↓cdec, ↓cnot, ↓reduceIte, Bo_0, Bo_1, ↓Bo_ok, i10, i01, eq_self, decide_true, decide_false, Bool.or_true, Bool.true_or, Bool.or_false, Bool.false_or, cond_true, cond_false, not_true_eq_false, not_false_eq_true, Bool.false_eq_true, and_self, and_true, true_and, and_false, false_and, nI_clamp, ↓inbc, inb_n, nI_pos, nI_1, j1, nl, b4_2_80w, b4_2_87w, b4_2_94w, b4_2_101w, b4_2_109w, c1, c2, c3]
              · simp (disch := omega) only [bnd, bnd0, ↓cdec, ↓cnot, ↓reduceIte, Bo_0, Bo_1, ↓Bo_ok, i10, i01, eq_self, decide_true, decide_false, Bool.or_true, Bool.true_or, Bool.or_false, Bool.false_or, cond_true, cond_false, not_true_eq_false, not_false_eq_true, Bool.false_eq_true, and_self, and_true, true_and, and_false, false_and, nI_clamp, ↓inbc, inb_n, nI_pos, nI_1, j1, nl, b4_2_80w, b4_2_87w, b4_2_94w, b4_2_108w, b4_2_109w, c1, c2, c3]
          · simp (disch := omega) only [bnd, bnd0, ↓cdec, ↓cnot, ↓reduceIte, Bo_0, Bo_1, ↓Bo_ok, i10, i01, eq_self, decide_true, decide_false, Bool.or_true, Bool.true_or, Bool.or_false, Bool.false_or, cond_true, cond_false, not_true_eq_false, not_false_eq_true, Bool.false_eq_true, and_self, and_true, true_and, and_false, false_and, nI_clamp, ↓inbc, inb_n, nI_pos, nI_1, j1, nl, b4_2_80w, b4_2_101w, b4_2_109w, c1]
      apply go
      rw [x2, x4, x5]
      have g0 : decide ((0 : Int32) < nI op) = decide (0 < op) := decide_eq_decide.mpr (Iff.of_eq (gt0 (by omega)))
      rw [g0]
      cases w <;> cases pt <;> by_cases z : 0 < op <;> simp [bN, z]
    | succ m ih =>
      intro i J l w dg op pt pl dn dl hi hl hf hx hdg ho hw
      have j1 : J 0 1 1 = nI n := by rw [hf _ _ _ (by omega)]; exact h1
      have il : nI i < nI n := nI_lt (by omega) (by omega)
      have i40 : i < 40 := by omega
      obtain ⟨eB, b256⟩ := hB i (by omega)
      have jB : J 0 2 i = nI (B i) := by rw [hf _ _ _ (by omega)]; exact eB
      have x2 := hx.1
      have mid : den (d + 2, 4, 2, 22, [some (vr 0 1), some (vi (nI i)), l], [], mkH (J) t1 t2 k sc) = bif decide (J 0 1 2 = 0) then den (d + 2, 4, 2, 64, [some (vr 0 1), some (vi (nI i)), some (vi (nI (B i)))], [], mkH (J) t1 t2 k sc) else den (d + 2, 4, 2, 53, [some (vr 0 1), some (vi (nI i)), some (vi (nI (B i)))], [], mkH (J) t1 t2 k sc) := by
        rcases hl with rfl | ⟨y, rfl⟩
        · rw [b4_2_22]
          simp (disch := omega) only [bnd, bnd0, ↓cdec, ↓cnot, ↓reduceIte, Bo_0, Bo_1, ↓Bo_ok, i10, i01, eq_self, decide_true, decide_false, Bool.or_true, Bool.true_or, Bool.or_false, Bool.false_or, cond_true, cond_false, not_true_eq_false, not_false_eq_true, Bool.false_eq_true, and_self, and_true, true_and, and_false, false_and, nI_clamp, ↓inbc, inb_n, nI_pos, nI_1, j1, il, i40, lt_40, b4_2_30, b4_2_39, jB]
        · rw [b4_2_22w]
          simp (disch := omega) only [bnd, bnd0, ↓cdec, ↓cnot, ↓reduceIte, Bo_0, Bo_1, ↓Bo_ok, i10, i01, eq_self, decide_true, decide_false, Bool.or_true, Bool.true_or, Bool.or_false, Bool.false_or, cond_true, cond_false, not_true_eq_false, not_false_eq_true, Bool.false_eq_true, and_self, and_true, true_and, and_false, false_and, nI_clamp, ↓inbc, inb_n, nI_pos, nI_1, j1, il, i40, lt_40, b4_2_30w, b4_2_39w, jB]
      have fin : ∀ (K : IFn) (s : PSt), stP (w, dg, op, pt, pl, dn, dl) (B i) = some s → rdP B i (m + 1) (w, dg, op, pt, pl, dn, dl) = rdP B (i + 1) m s := fun K s e => by rw [rdP, e]
      have bad : stP (w, dg, op, pt, pl, dn, dl) (B i) = none → fltI n (rdP B i (m + 1) (w, dg, op, pt, pl, dn, dl)) = nI i := fun e => by rw [rdP, e]; rfl
      cases w with
      | true =>
        have d0 : dg = 0 := hw rfl
        have n0' : ¬ (isD (B i) = true ∧ 0 < dg ∧ dg < 3) := by omega
        have c1 : ¬ J 0 1 2 = 0 := by rw [x2]; decide
        obtain ⟨K, fK, hK⟩ := x_begins d J t1 t2 k sc b256 ho hx
        have fIK := hf.trans fK
        rcases hK with ⟨a1, e, p⟩ | ⟨a1, a2, e, p⟩ | ⟨a1, a2, a3, e, p⟩ | ⟨a1, a2, a3, e⟩
        · have es : stP (true, dg, op, pt, pl, dn, dl) (B i) = some (false, 1, op, pt, pl, (nI (B i) - 48) :: dn, dl) := by rw [stP, if_neg n0', if_pos rfl, if_pos a1]
          rw [fin K _ es]
          obtain ⟨K2, f2, e2⟩ := ih (i + 1) K (some (vi (nI (B i)))) _ _ _ _ pl ((nI (B i) - 48) :: dn) dl (by omega) (Or.inr ⟨_, rfl⟩) fIK p (by omega) ho (fun z => by cases z)
          refine ⟨K2, f2, Eq.trans (mid.trans ?_) e2⟩
          simp (disch := omega) only [bnd, bnd0, ↓cdec, ↓cnot, ↓reduceIte, Bo_0, Bo_1, ↓Bo_ok, i10, i01, eq_self, decide_true, decide_false, Bool.or_true, Bool.true_or, Bool.or_false, Bool.false_or, cond_true, cond_false, not_true_eq_false, not_false_eq_true, Bool.false_eq_true, and_self, and_true, true_and, and_false, false_and, nI_clamp, ↓inbc, inb_n, nI_pos, nI_1, c1, b4_2_53, b4_2_58, b4_2_61, b4_2_74, e]
        · have es : stP (true, dg, op, pt, pl, dn, dl) (B i) = some (false, 0, op, pt, pl, -1 :: dn, dl) := by rw [stP, if_neg n0', if_pos rfl, if_neg (by rw [a1]; decide), if_pos a2]
          rw [fin K _ es]
          obtain ⟨K2, f2, e2⟩ := ih (i + 1) K (some (vi (nI (B i)))) _ _ _ _ pl (-1 :: dn) dl (by omega) (Or.inr ⟨_, rfl⟩) fIK p (by omega) ho (fun z => by cases z)
          refine ⟨K2, f2, Eq.trans (mid.trans ?_) e2⟩
          simp (disch := omega) only [bnd, bnd0, ↓cdec, ↓cnot, ↓reduceIte, Bo_0, Bo_1, ↓Bo_ok, i10, i01, eq_self, decide_true, decide_false, Bool.or_true, Bool.true_or, Bool.or_false, Bool.false_or, cond_true, cond_false, not_true_eq_false, not_false_eq_true, Bool.false_eq_true, and_self, and_true, true_and, and_false, false_and, nI_clamp, ↓inbc, inb_n, nI_pos, nI_1, c1, b4_2_53, b4_2_58, b4_2_61, b4_2_74, e]
        · have es : stP (true, dg, op, pt, pl, dn, dl) (B i) = some (true, dg, op + 1, pt, -7 :: pl, dn, dl) := by rw [stP, if_neg n0', if_pos rfl, if_neg (by rw [a1]; decide), if_neg (by omega), if_pos ⟨a2, a3⟩]
          rw [fin K _ es]
          obtain ⟨K2, f2, e2⟩ := ih (i + 1) K (some (vi (nI (B i)))) _ _ _ _ (-7 :: pl) dn dl (by omega) (Or.inr ⟨_, rfl⟩) fIK p (by omega) (by omega) hw
          refine ⟨K2, f2, Eq.trans (mid.trans ?_) e2⟩
          simp (disch := omega) only [bnd, bnd0, ↓cdec, ↓cnot, ↓reduceIte, Bo_0, Bo_1, ↓Bo_ok, i10, i01, eq_self, decide_true, decide_false, Bool.or_true, Bool.true_or, Bool.or_false, Bool.false_or, cond_true, cond_false, not_true_eq_false, not_false_eq_true, Bool.false_eq_true, and_self, and_true, true_and, and_false, false_and, nI_clamp, ↓inbc, inb_n, nI_pos, nI_1, c1, b4_2_53, b4_2_58, b4_2_61, b4_2_74, e]
        · refine ⟨K, fIK, ?_⟩
          rw [bad (by rw [stP, if_neg n0', if_pos rfl, if_neg (by rw [a1]; decide), if_neg a2, if_neg a3]), mid]
          simp (disch := omega) only [bnd, bnd0, ↓cdec, ↓cnot, ↓reduceIte, Bo_0, Bo_1, ↓Bo_ok, i10, i01, eq_self, decide_true, decide_false, Bool.or_true, Bool.true_or, Bool.or_false, Bool.false_or, cond_true, cond_false, not_true_eq_false, not_false_eq_true, Bool.false_eq_true, and_self, and_true, true_and, and_false, false_and, nI_clamp, ↓inbc, inb_n, nI_pos, nI_1, c1, b4_2_53, b4_2_58, b4_2_72, e]
      | false =>
        have c1 : J 0 1 2 = 0 := by rw [x2]; rfl
        have c1' := eq_true c1
        have wf : ¬ (false : Bool) = true := by decide
        obtain ⟨K, fK, hK⟩ := x_follows d J t1 t2 k sc b256 hdg ho hx
        have fIK := hf.trans fK
        rcases hK with ⟨a1, a2, a3, e, p⟩ | ⟨a1, a2, e⟩ | ⟨a1, a2, a3, e, p⟩ | ⟨a1, a2, a3, a4, e, p⟩ | ⟨a1, a2, e, p⟩ | ⟨a1, a2, a3, a4, e⟩
        · have es : stP (false, dg, op, pt, pl, dn, dl) (B i) = some (false, dg + 1, op, pt, pl, lngth (B i) dn, dl) := by rw [stP, if_pos ⟨a1, a2, a3⟩]
          rw [fin K _ es]
          obtain ⟨K2, f2, e2⟩ := ih (i + 1) K (some (vi (nI (B i)))) _ _ _ _ pl (lngth (B i) dn) dl (by omega) (Or.inr ⟨_, rfl⟩) fIK p (by omega) ho (fun z => by cases z)
          refine ⟨K2, f2, Eq.trans (mid.trans ?_) e2⟩
          simp (disch := omega) only [bnd, bnd0, ↓cdec, ↓cnot, ↓reduceIte, Bo_0, Bo_1, ↓Bo_ok, i10, i01, eq_self, decide_true, decide_false, Bool.or_true, Bool.true_or, Bool.or_false, Bool.false_or, cond_true, cond_false, not_true_eq_false, not_false_eq_true, Bool.false_eq_true, and_self, and_true, true_and, and_false, false_and, nI_clamp, ↓inbc, inb_n, nI_pos, nI_1, c1', b4_2_64, b4_2_69, b4_2_74, e]
        · refine ⟨K, fIK, ?_⟩
          have hs : sgC (B i) = 0 := by
            have : 48 ≤ B i := by simp [isD] at a1; omega
            rw [sgC, if_neg (by omega), if_neg (by omega), if_neg (by omega), if_neg (by omega), if_neg (by omega)]
          have h57 : 48 ≤ B i ∧ B i ≤ 57 := by simp [isD] at a1; omega
          rw [bad (by rw [stP, if_neg (fun z => a2 z.2), if_neg wf, if_neg (fun z => z hs), if_neg (by omega), if_neg (by omega)]), mid]
          simp (disch := omega) only [bnd, bnd0, ↓cdec, ↓cnot, ↓reduceIte, Bo_0, Bo_1, ↓Bo_ok, i10, i01, eq_self, decide_true, decide_false, Bool.or_true, Bool.true_or, Bool.or_false, Bool.false_or, cond_true, cond_false, not_true_eq_false, not_false_eq_true, Bool.false_eq_true, and_self, and_true, true_and, and_false, false_and, nI_clamp, ↓inbc, inb_n, nI_pos, nI_1, c1', b4_2_64, b4_2_69, b4_2_72, e]
        · have hs : sgC (B i) = 0 := by rw [a2]; rfl
          have es : stP (false, dg, op, pt, pl, dn, dl) (B i) = some (false, 0, op - 1, pt, (popW 1 pl dn).1.tail, (popW 1 pl dn).2, dl) := by rw [stP, if_neg (by rw [a1]; simp), if_neg wf, if_neg (fun z => z hs), if_pos ⟨a2, a3⟩]
          rw [fin K _ es]
          obtain ⟨K2, f2, e2⟩ := ih (i + 1) K (some (vi (nI (B i)))) _ _ _ _ (popW 1 pl dn).1.tail (popW 1 pl dn).2 dl (by omega) (Or.inr ⟨_, rfl⟩) fIK p (by omega) (by omega) (fun z => by cases z)
          refine ⟨K2, f2, Eq.trans (mid.trans ?_) e2⟩
          simp (disch := omega) only [bnd, bnd0, ↓cdec, ↓cnot, ↓reduceIte, Bo_0, Bo_1, ↓Bo_ok, i10, i01, eq_self, decide_true, decide_false, Bool.or_true, Bool.true_or, Bool.or_false, Bool.false_or, cond_true, cond_false, not_true_eq_false, not_false_eq_true, Bool.false_eq_true, and_self, and_true, true_and, and_false, false_and, nI_clamp, ↓inbc, inb_n, nI_pos, nI_1, c1', b4_2_64, b4_2_69, b4_2_74, e]
        · have hs : sgC (B i) = 0 := by rw [a2]; rfl
          have es : stP (false, dg, op, pt, pl, dn, dl) (B i) = some (true, 0, op, true, (popW 1 pl dn).1, (popW 1 pl dn).2, (popW 1 pl dn).2.length) := by rw [stP, if_neg (by rw [a1]; simp), if_neg wf, if_neg (fun z => z hs), if_neg (by omega), if_pos ⟨a2, a3, a4⟩]
          rw [fin K _ es]
          obtain ⟨K2, f2, e2⟩ := ih (i + 1) K (some (vi (nI (B i)))) _ _ _ _ (popW 1 pl dn).1 (popW 1 pl dn).2 (popW 1 pl dn).2.length (by omega) (Or.inr ⟨_, rfl⟩) fIK p (by omega) ho (fun _ => rfl)
          refine ⟨K2, f2, Eq.trans (mid.trans ?_) e2⟩
          simp (disch := omega) only [bnd, bnd0, ↓cdec, ↓cnot, ↓reduceIte, Bo_0, Bo_1, ↓Bo_ok, i10, i01, eq_self, decide_true, decide_false, Bool.or_true, Bool.true_or, Bool.or_false, Bool.false_or, cond_true, cond_false, not_true_eq_false, not_false_eq_true, Bool.false_eq_true, and_self, and_true, true_and, and_false, false_and, nI_clamp, ↓inbc, inb_n, nI_pos, nI_1, c1', b4_2_64, b4_2_69, b4_2_74, e]
        · have es : stP (false, dg, op, pt, pl, dn, dl) (B i) = some (true, 0, op, pt, sgC (B i) :: (popW (rkC (sgC (B i))) pl dn).1, (popW (rkC (sgC (B i))) pl dn).2, dl) := by rw [stP, if_neg (by rw [a1]; simp), if_neg wf, if_pos a2]
          rw [fin K _ es]
          obtain ⟨K2, f2, e2⟩ := ih (i + 1) K (some (vi (nI (B i)))) _ _ _ _ (sgC (B i) :: (popW (rkC (sgC (B i))) pl dn).1) (popW (rkC (sgC (B i))) pl dn).2 dl (by omega) (Or.inr ⟨_, rfl⟩) fIK p (by omega) ho (fun _ => rfl)
          refine ⟨K2, f2, Eq.trans (mid.trans ?_) e2⟩
          simp (disch := omega) only [bnd, bnd0, ↓cdec, ↓cnot, ↓reduceIte, Bo_0, Bo_1, ↓Bo_ok, i10, i01, eq_self, decide_true, decide_false, Bool.or_true, Bool.true_or, Bool.or_false, Bool.false_or, cond_true, cond_false, not_true_eq_false, not_false_eq_true, Bool.false_eq_true, and_self, and_true, true_and, and_false, false_and, nI_clamp, ↓inbc, inb_n, nI_pos, nI_1, c1', b4_2_64, b4_2_69, b4_2_74, e]
        · refine ⟨K, fIK, ?_⟩
          rw [bad (by rw [stP, if_neg (by rw [a1]; simp), if_neg wf, if_neg (fun z => z a2), if_neg a3, if_neg a4]), mid]
          simp (disch := omega) only [bnd, bnd0, ↓cdec, ↓cnot, ↓reduceIte, Bo_0, Bo_1, ↓Bo_ok, i10, i01, eq_self, decide_true, decide_false, Bool.or_true, Bool.true_or, Bool.or_false, Bool.false_or, cond_true, cond_false, not_true_eq_false, not_false_eq_true, Bool.false_eq_true, and_self, and_true, true_and, and_false, false_and, nI_clamp, ↓inbc, inb_n, nI_pos, nI_1, c1', b4_2_64, b4_2_69, b4_2_72, e]
  obtain ⟨K, f, e⟩ := lx n 0 (uI (uI (uI (uI I 0 1 2 1) 0 1 3 0) 0 1 4 0) 0 1 5 0) none true 0 0 false [] [] 0 (by omega) (Or.inl rfl) (fun g j i hn => by rw [uI_ne (by omega), uI_ne (by omega), uI_ne (by omega), uI_ne (by omega)]) ⟨by rw [uI_ne (by omega), uI_ne (by omega), uI_ne (by omega), uI_at (by omega)]; rfl, by rw [uI_ne (by omega), uI_ne (by omega), uI_at (by omega)]; rfl, by rw [uI_ne (by omega), uI_at (by omega)]; rfl, by rw [uI_at (by omega)]; rfl⟩ (by omega) (by omega) (fun _ => rfl)
  refine ⟨K, f, Eq.trans ?_ e⟩
  rw [b4_2_0]
  rfl
end
