/-! the sides worked: reference and class -/
def stkF (f : Nat → Int32) : List Int32 → Prop
  | [] => True
  | v :: r => f r.length = v ∧ stkF f r
theorem stkF.keep {f g : Nat → Int32} : ∀ {st : List Int32}, (∀ j, j < st.length → g j = f j) → stkF f st → stkF g st
  | [], _, _ => trivial
  | v :: r, h, w => ⟨by rw [h _ (by simp)]; exact w.1, stkF.keep (fun j hj => h j (by simp; omega)) w.2⟩
theorem rpn_u (C : Nat → Int32) (x : Int32) (i n : Nat) (st : List Int32) : rpn C x i (n + 1) st = (if C i = -1 then rpn C x (i + 1) n (x :: st) else if 0 ≤ (C i).toInt then rpn C x (i + 1) n (C i :: st) else (match st with
    | b :: a :: r => rpn C x (i + 1) n (wkd (C i) a b :: r)
    | _ => none)) := by
  cases st with
  | nil => rfl
  | cons b s => cases s <;> rfl
theorem rpn_x {C : Nat → Int32} {x : Int32} {i n : Nat} {st : List Int32} (h : C i = -1) : rpn C x i (n + 1) st = rpn C x (i + 1) n (x :: st) := by rw [rpn_u, if_pos h]
theorem rpn_n {C : Nat → Int32} {x : Int32} {i n : Nat} {st : List Int32} (h : ¬ C i = -1) (h0 : 0 ≤ (C i).toInt) : rpn C x i (n + 1) st = rpn C x (i + 1) n (C i :: st) := by rw [rpn_u, if_neg h, if_pos h0]
theorem rpn_s {C : Nat → Int32} {x a b : Int32} {i n : Nat} {st : List Int32} (h : ¬ C i = -1) (h0 : ¬ 0 ≤ (C i).toInt) : rpn C x i (n + 1) (b :: a :: st) = rpn C x (i + 1) n (wkd (C i) a b :: st) := by rw [rpn_u, if_neg h, if_neg h0]
theorem rpn_sg {C : Nat → Int32} {x : Int32} {i n : Nat} {st r : List Int32} (h : ¬ C i = -1) (h0 : ¬ 0 ≤ (C i).toInt) (hs : rpn C x i (n + 1) st = some r) : ∃ b a s, st = b :: a :: s := by
  rw [rpn_u, if_neg h, if_neg h0] at hs
  match st, hs with
  | [], hs => cases hs
  | [b], hs => cases hs
  | b :: a :: s, _ => exact ⟨b, a, s, rfl⟩
theorem sideVal_of {C : Nat → Int32} {n : Nat} {x v : Int32} (h : rpn C x 0 n [] = some [v]) : sideVal C n x = v := by rw [sideVal, h]; rfl
theorem c_lt {c : Int32} (h : ¬ c = -1) (h0 : ¬ 0 ≤ c.toInt) : c < -1 := by
  rw [Int32.lt_iff_toInt_lt, k32_m1]
  have : c.toInt ≠ -1 := fun z => h (Int32.toInt_inj.mp (by rw [z, k32_m1]))
  omega
theorem c_nlt {c : Int32} (h0 : 0 ≤ c.toInt) : ¬ c < -1 := by
  rw [Int32.lt_iff_toInt_lt, k32_m1]
  omega
theorem m1_n1 : ¬ (-1 : Int32) < -1 := by decide
theorem add3 (n : Nat) : (3 : Int32) + nI n = nI (3 + n) := nI_add 3 n
theorem add5 (n : Nat) : nI n + 5 = nI (n + 5) := nI_add n 5
theorem pred_n {n : Nat} (h : 1 ≤ n) : nI n + (-1) = nI (n - 1) := sb_m1 h
theorem pred_s {n : Nat} (h : 1 ≤ n) : nI n - 1 = nI (n - 1) := by rw [← m1_eq, pred_n h]
section
variable (d : Nat) (I : IFn) (t1 t2 : TFn) (k : Nat) (sc : Nat × (Nat → Int32))
theorem m_worked (c a b : Int32) : den (d, 8, 21, 0, [some (vi c), some (vi a), some (vi b)], [], mkH I t1 t2 k sc) = some (some (vi (wkd c a b)), mkH I t1 t2 k sc) := by
  by_cases h2 : c = -2
  · subst h2
    have e : (-2 : Int32).toInt = -2 := by decide
    rw [b8_21_0, e]
    exact b8_21_32 d _ a b I t1 t2 k sc
  · by_cases h3 : c = -3
    · subst h3
      have e : (-3 : Int32).toInt = -3 := by decide
      rw [b8_21_0, e]
      exact b8_21_36 d _ a b I t1 t2 k sc
    · by_cases h4 : c = -4
      · subst h4
        have e : (-4 : Int32).toInt = -4 := by decide
        rw [b8_21_0, e]
        exact b8_21_40 d _ a b I t1 t2 k sc
      · by_cases h5 : c = -5
        · subst h5
          have e : (-5 : Int32).toInt = -5 := by decide
          rw [b8_21_0, e]
          refine (b8_21_44 d _ a b I t1 t2 k sc).trans ?_
          have hw : wkd (-5) a b = if b = 0 then 0 else a / b := rfl
          rw [hw]
          by_cases hb : b = 0
          · rw [if_pos hb]; simp (disch := omega) only [bnd, bnd0, ↓cdec, ↓cnot, ↓reduceIte, Bo_0, Bo_1, ↓Bo_ok, i10, i01, eq_self, decide_true, decide_false, Bool.or_true, Bool.true_or, Bool.or_false, Bool.false_or, cond_true, cond_false, not_true_eq_false, not_false_eq_true, and_self, and_true, true_and, and_false, false_and, nI_clamp, ↓inbc, inb_n, nI_pos, nI_1, hb, b8_21_48, b8_21_55]
          · rw [if_neg hb]; simp (disch := omega) only [bnd, bnd0, ↓cdec, ↓cnot, ↓reduceIte, Bo_0, Bo_1, ↓Bo_ok, i10, i01, eq_self, decide_true, decide_false, Bool.or_true, Bool.true_or, Bool.or_false, Bool.false_or, cond_true, cond_false, not_true_eq_false, not_false_eq_true, and_self, and_true, true_and, and_false, false_and, nI_clamp, ↓inbc, inb_n, nI_pos, nI_1, hb, b8_21_52, b8_21_55]
        · have hb : (decide (c.toInt < -5) || decide (-2 < c.toInt)) = true := by
            have e2 : c.toInt ≠ -2 := fun z => h2 (Int32.toInt_inj.mp (by rw [z]; decide))
            have e3 : c.toInt ≠ -3 := fun z => h3 (Int32.toInt_inj.mp (by rw [z]; decide))
            have e4 : c.toInt ≠ -4 := fun z => h4 (Int32.toInt_inj.mp (by rw [z]; decide))
            have e5 : c.toInt ≠ -5 := fun z => h5 (Int32.toInt_inj.mp (by rw [z]; decide))
            rw [Bool.or_eq_true, decide_eq_true_iff, decide_eq_true_iff]; omega
          rw [b8_21_0, hb, cond_true, wkd, if_neg h2, if_neg h3, if_neg h4, if_neg h5]
          by_cases hz : b = 0
          · rw [if_pos hz]; simp (disch := omega) only [bnd, bnd0, ↓cdec, ↓cnot, ↓reduceIte, Bo_0, Bo_1, ↓Bo_ok, i10, i01, eq_self, decide_true, decide_false, Bool.or_true, Bool.true_or, Bool.or_false, Bool.false_or, cond_true, cond_false, not_true_eq_false, not_false_eq_true, and_self, and_true, true_and, and_false, false_and, nI_clamp, ↓inbc, inb_n, nI_pos, nI_1, hz, b8_21_56, b8_21_60, b8_21_67]
          · rw [if_neg hz]; simp (disch := omega) only [bnd, bnd0, ↓cdec, ↓cnot, ↓reduceIte, Bo_0, Bo_1, ↓Bo_ok, i10, i01, eq_self, decide_true, decide_false, Bool.or_true, Bool.true_or, Bool.or_false, Bool.false_or, cond_true, cond_false, not_true_eq_false, not_false_eq_true, and_self, and_true, true_and, and_false, false_and, nI_clamp, ↓inbc, inb_n, nI_pos, nI_1, hz, b8_21_56, b8_21_64, b8_21_67]
theorem m_rpn {q s b n : Nat} (hq : q < 8) (hs : s < 2) (hn : n ≤ 40) (hb : b + n ≤ 465) (Cc : Nat → Int32) (x v : Int32) (hlen : I 0 57 (105 + 45 * q + (3 + s)) = nI n) (hc : ∀ i, i < n → I 0 57 (b + i) = Cc i) : ∀ m i (J : IFn) (st : List Int32) (l : Option AV), (l = none ∨ ∃ y, l = some (vi y)) → i + m = n → st.length ≤ i → stkF (J 0 64) st → rpn Cc x i m st = some [v] → (∀ g j i, ¬ (g = 0 ∧ j = 64) → J g j i = I g j i) → ∃ J', den (d + 1, 8, 22, 32, [some (vr 0 56), some (vi (nI q)), some (vi (nI s)), some (vi x), some (vi (nI b)), some (vi (nI st.length)), some (vi (nI i)), l], [], mkH (J) t1 t2 k sc) = some (some (vi v), mkH (J') t1 t2 k sc) ∧ ∀ g j i, ¬ (g = 0 ∧ j = 64) → J' g j i = I g j i := by
  intro m
  induction m with
  | zero =>
    intro i J st l hl hi hle hst hr hfr
    have hin : i = n := by omega
    subst hin
    have hst1 : st = [v] := Option.some.inj hr
    subst hst1
    have h0 : J 0 64 0 = v := hst.1
    have hlen' : J 0 57 (105 + 45 * q + (3 + s)) = nI i := by rw [hfr _ _ _ (by omega)]; exact hlen
    have hge : ¬ nI i < nI i := nI_nlt (Nat.le_refl _) (by omega)
    refine ⟨J, ?_, hfr⟩
    rcases hl with rfl | ⟨y, rfl⟩
    · simp (disch := omega) only [bnd, bnd0, ↓cdec, ↓cnot, ↓reduceIte, Bo_0, Bo_1, ↓Bo_ok, i10, i01, eq_self, decide_true, decide_false, Bool.or_true, Bool.true_or, Bool.or_false, Bool.false_or, cond_true, cond_false, not_true_eq_false, not_false_eq_true, and_self, and_true, true_and, and_false, false_and, nI_clamp, ↓inbc, inb_n, nI_pos, nI_1, b8_22_32, b8_22_42, b8_22_127, add3, m_it, hlen', hge, h0]
    · simp (disch := omega) only [bnd, bnd0, ↓cdec, ↓cnot, ↓reduceIte, Bo_0, Bo_1, ↓Bo_ok, i10, i01, eq_self, decide_true, decide_false, Bool.or_true, Bool.true_or, Bool.or_false, Bool.false_or, cond_true, cond_false, not_true_eq_false, not_false_eq_true, and_self, and_true, true_and, and_false, false_and, nI_clamp, ↓inbc, inb_n, nI_pos, nI_1, b8_22_32w, b8_22_42w, b8_22_127w, add3, m_it, hlen', hge, h0]
  | succ m ih =>
    intro i J st l hl hi hle hst hr hfr
    have hlen' : J 0 57 (105 + 45 * q + (3 + s)) = nI n := by rw [hfr _ _ _ (by omega)]; exact hlen
    have hlt : nI i < nI n := nI_lt (by omega) (by omega)
    have hci : J 0 57 (b + i) = Cc i := by rw [hfr _ _ _ (by omega)]; exact hc i (by omega)
    have hd : den (d + 1, 8, 22, 32, [some (vr 0 56), some (vi (nI q)), some (vi (nI s)), some (vi x), some (vi (nI b)), some (vi (nI st.length)), some (vi (nI i)), l], [], mkH (J) t1 t2 k sc) = if Cc i < -1 then den (d + 1, 8, 22, 88, [some (vr 0 56), some (vi (nI q)), some (vi (nI s)), some (vi x), some (vi (nI b)), some (vi (nI st.length)), some (vi (nI i)), some (vi (Cc i))], [], mkH (J) t1 t2 k sc) else den (d + 1, 8, 22, 63, [some (vr 0 56), some (vi (nI q)), some (vi (nI s)), some (vi x), some (vi (nI b)), some (vi (nI st.length)), some (vi (nI i)), some (vi (Cc i))], [], mkH (J) t1 t2 k sc) := by
      rcases hl with rfl | ⟨y, rfl⟩
      · rw [b8_22_32]
        simp (disch := omega) only [bnd, bnd0, ↓cdec, ↓cnot, ↓reduceIte, Bo_0, Bo_1, ↓Bo_ok, i10, i01, eq_self, decide_true, decide_false, Bool.or_true, Bool.true_or, Bool.or_false, Bool.false_or, cond_true, cond_false, not_true_eq_false, not_false_eq_true, and_self, and_true, true_and, and_false, false_and, nI_clamp, ↓inbc, inb_n, nI_pos, nI_1, b8_22_42, b8_22_45, add3, m_it, hlen', hlt, nI_add, hci]
      · rw [b8_22_32w]
        simp (disch := omega) only [bnd, bnd0, ↓cdec, ↓cnot, ↓reduceIte, Bo_0, Bo_1, ↓Bo_ok, i10, i01, eq_self, decide_true, decide_false, Bool.or_true, Bool.true_or, Bool.or_false, Bool.false_or, cond_true, cond_false, not_true_eq_false, not_false_eq_true, and_self, and_true, true_and, and_false, false_and, nI_clamp, ↓inbc, inb_n, nI_pos, nI_1, b8_22_42w, b8_22_45w, add3, m_it, hlen', hlt, nI_add, hci]
    have push : ∀ w : Int32, rpn Cc x (i + 1) m (w :: st) = some [v] → den (d + 1, 8, 22, 81, [some (vr 0 56), some (vi (nI q)), some (vi (nI s)), some (vi x), some (vi (nI b)), some (vi (nI st.length)), some (vi (nI i)), some (vi (Cc i))], [vi w, vi (nI st.length), vr 0 64], mkH (J) t1 t2 k sc) = den (d + 1, 8, 22, 32, [some (vr 0 56), some (vi (nI q)), some (vi (nI s)), some (vi x), some (vi (nI b)), some (vi (nI (st.length + 1))), some (vi (nI (i + 1))), some (vi (Cc i))], [], mkH (uI J 0 64 st.length w) t1 t2 k sc) → ∃ J', den (d + 1, 8, 22, 81, [some (vr 0 56), some (vi (nI q)), some (vi (nI s)), some (vi x), some (vi (nI b)), some (vi (nI st.length)), some (vi (nI i)), some (vi (Cc i))], [vi w, vi (nI st.length), vr 0 64], mkH (J) t1 t2 k sc) = some (some (vi v), mkH (J') t1 t2 k sc) ∧ ∀ g j i, ¬ (g = 0 ∧ j = 64) → J' g j i = I g j i := by
      intro w hw e
      obtain ⟨J', e2, f2⟩ := ih (i + 1) (uI J 0 64 st.length w) (w :: st) (some (vi (Cc i))) (Or.inr ⟨_, rfl⟩) (by omega) (by simp; omega) ⟨uI_at (by omega), hst.keep (fun j hj => uI_ne (by omega))⟩ hw (fun g j i h => by rw [uI_ne (by omega)]; exact hfr _ _ _ h)
      exact ⟨J', e.trans e2, f2⟩
    have pw : ∀ w : Int32, den (d + 1, 8, 22, 81, [some (vr 0 56), some (vi (nI q)), some (vi (nI s)), some (vi x), some (vi (nI b)), some (vi (nI st.length)), some (vi (nI i)), some (vi (Cc i))], [vi w, vi (nI st.length), vr 0 64], mkH (J) t1 t2 k sc) = den (d + 1, 8, 22, 32, [some (vr 0 56), some (vi (nI q)), some (vi (nI s)), some (vi x), some (vi (nI b)), some (vi (nI (st.length + 1))), some (vi (nI (i + 1))), some (vi (Cc i))], [], mkH (uI J 0 64 st.length w) t1 t2 k sc) := by
      intro w
      simp (disch := omega) only [bnd, bnd0, ↓cdec, ↓cnot, ↓reduceIte, Bo_0, Bo_1, ↓Bo_ok, i10, i01, eq_self, decide_true, decide_false, Bool.or_true, Bool.true_or, Bool.or_false, Bool.false_or, cond_true, cond_false, not_true_eq_false, not_false_eq_true, and_self, and_true, true_and, and_false, false_and, nI_clamp, ↓inbc, inb_n, nI_pos, nI_1, b8_22_81, b8_22_121]
    rw [hd]
    by_cases c1 : Cc i = -1
    · rw [if_neg (by rw [c1]; exact m1_n1)]
      obtain ⟨J', e2, f2⟩ := push x (by rw [← rpn_x c1]; exact hr) (pw x)
      refine ⟨J', ?_, f2⟩
      rw [b8_22_63, cdec, if_pos c1, b8_22_75]
      exact e2
    · by_cases c2 : 0 ≤ (Cc i).toInt
      · rw [if_neg (c_nlt c2)]
        obtain ⟨J', e2, f2⟩ := push (Cc i) (by rw [← rpn_n c1 c2]; exact hr) (pw (Cc i))
        refine ⟨J', ?_, f2⟩
        rw [b8_22_63, cdec, if_neg c1, b8_22_79]
        exact e2
      · rw [if_pos (c_lt c1 c2)]
        obtain ⟨y, z, r, rfl⟩ := rpn_sg c1 c2 hr
        rw [rpn_s c1 c2] at hr
        have l1 : (y :: z :: r).length = r.length + 2 := by simp
        have v1 : J 0 64 (r.length + 1) = y := hst.1
        have v2 : J 0 64 r.length = z := hst.2.1
        obtain ⟨J', e2, f2⟩ := ih (i + 1) (uI J 0 64 r.length (wkd (Cc i) z y)) (wkd (Cc i) z y :: r) (some (vi (Cc i))) (Or.inr ⟨_, rfl⟩) (by omega) (by simp; simp at hle; omega) ⟨uI_at (by omega), hst.2.2.keep (fun j hj => uI_ne (by omega))⟩ hr (fun g j i h => by rw [uI_ne (by omega)]; exact hfr _ _ _ h)
        refine ⟨J', ?_, f2⟩
        rw [l1] at hle ⊢
        have p1 : nI (r.length + 2) + (-1) = nI (r.length + 1) := pk_m1 _
        have p2 : nI (r.length + 1) - 1 = nI r.length := nI_pred _
        rw [b8_22_88]
        simp (disch := omega) only [bnd, bnd0, ↓cdec, ↓cnot, ↓reduceIte, Bo_0, Bo_1, ↓Bo_ok, i10, i01, eq_self, decide_true, decide_false, Bool.or_true, Bool.true_or, Bool.or_false, Bool.false_or, cond_true, cond_false, not_true_eq_false, not_false_eq_true, and_self, and_true, true_and, and_false, false_and, nI_clamp, ↓inbc, inb_n, nI_pos, nI_1, p1, p2, b8_22_120, b8_22_121, v1, v2, m_worked]
        exact e2
theorem m_sideOf {q s n1 n2 : Nat} (hq : q < 8) (hs : s < 2) (h12 : n1 + n2 ≤ 40) (x : Int32) (h3 : I 0 57 (105 + 45 * q + 3) = nI n1) (h4 : I 0 57 (105 + 45 * q + 4) = nI n2) (hl : sideOK (fun i => I 0 57 (105 + 45 * q + (2 + (3 + i)))) n1) (hr : sideOK (fun i => I 0 57 (105 + 45 * q + (2 + (3 + n1 + i)))) n2) : ∃ J, den (d + 1, 8, 22, 0, [some (vr 0 56), some (vi (nI q)), some (vi (nI s)), some (vi x), none, none, none, none], [], mkH I t1 t2 k sc) = some (some (vi (if s = 0 then sideVal (fun i => I 0 57 (105 + 45 * q + (2 + (3 + i)))) n1 x else sideVal (fun i => I 0 57 (105 + 45 * q + (2 + (3 + n1 + i)))) n2 x)), mkH (J) t1 t2 k sc) ∧ ∀ g j i, ¬ (g = 0 ∧ j = 64) → J g j i = I g j i := by
  rcases (show s = 0 ∨ s = 1 by omega) with rfl | rfl
  · obtain ⟨v, hv⟩ := hl.2.2 x
    obtain ⟨J, e, f⟩ := m_rpn d I t1 t2 k sc (s := 0) (b := 105 + 45 * q + 5) (n := n1) hq hs (by omega) (by omega) _ x v h3 (fun i hi => by rw [show 105 + 45 * q + 5 + i = 105 + 45 * q + (2 + (3 + i)) by omega]) n1 0 I [] none (Or.inl rfl) (by omega) (by simp) trivial hv (fun g j i h => rfl)
    refine ⟨J, ?_, f⟩
    rw [if_pos rfl, sideVal_of hv]
    simp (disch := omega) only [bnd, bnd0, ↓cdec, ↓cnot, ↓reduceIte, Bo_0, Bo_1, ↓Bo_ok, i10, i01, eq_self, decide_true, decide_false, Bool.or_true, Bool.true_or, Bool.or_false, Bool.false_or, cond_true, cond_false, not_true_eq_false, not_false_eq_true, and_self, and_true, true_and, and_false, false_and, nI_clamp, ↓inbc, inb_n, nI_pos, nI_1, b8_22_0, b8_22_13, b8_22_23, eq_0, mul45, add105, add5, Int32.add_zero]
    exact e
  · obtain ⟨v, hv⟩ := hr.2.2 x
    obtain ⟨J, e, f⟩ := m_rpn d I t1 t2 k sc (s := 1) (b := 105 + 45 * q + 5 + n1) (n := n2) hq hs (by omega) (by omega) _ x v h4 (fun i hi => by rw [show 105 + 45 * q + 5 + n1 + i = 105 + 45 * q + (2 + (3 + n1 + i)) by omega]) n2 0 I [] none (Or.inl rfl) (by omega) (by simp) trivial hv (fun g j i h => rfl)
    refine ⟨J, ?_, f⟩
    rw [if_neg (by omega), sideVal_of hv]
    have e1 : ¬ nI 1 = 0 := by decide
    simp (disch := omega) only [bnd, bnd0, ↓cdec, ↓cnot, ↓reduceIte, Bo_0, Bo_1, ↓Bo_ok, i10, i01, eq_self, decide_true, decide_false, Bool.or_true, Bool.true_or, Bool.or_false, Bool.false_or, cond_true, cond_false, not_true_eq_false, not_false_eq_true, and_self, and_true, true_and, and_false, false_and, nI_clamp, ↓inbc, inb_n, nI_pos, nI_1, b8_22_0, b8_22_17, b8_22_23, e1, mul45, add105, add5, m_it3, h3, nI_add]
    exact e
/-- the class's pile -/
theorem x_joined {c s a b : Int32} (h : (c = -2 ∧ s = -43) ∨ (c = -3 ∧ s = -45) ∨ (c = -4 ∧ s = -42) ∨ (c = -5 ∧ s = -47) ∨ (c = -6 ∧ s = -37)) : den (d, 2, 8, 0, [some (vi (-s)), some (vi a), some (vi b)], [], mkH I t1 t2 k sc) = some (some (vi (wkd c a b)), mkH I t1 t2 k sc) := by
  rcases h with ⟨rfl, rfl⟩ | ⟨rfl, rfl⟩ | ⟨rfl, rfl⟩ | ⟨rfl, rfl⟩ | ⟨rfl, rfl⟩
  · have e : (-(-43) : Int32).toInt = 43 := by decide
    rw [b2_8_0, e]
    exact b2_8_40 d _ a b I t1 t2 k sc
  · have e : (-(-45) : Int32).toInt = 45 := by decide
    rw [b2_8_0, e]
    exact b2_8_44 d _ a b I t1 t2 k sc
  · have e : (-(-42) : Int32).toInt = 42 := by decide
    rw [b2_8_0, e]
    exact b2_8_48 d _ a b I t1 t2 k sc
  · have e : (-(-47) : Int32).toInt = 47 := by decide
    rw [b2_8_0, e]
    refine (b2_8_52 d _ a b I t1 t2 k sc).trans ?_
    have hw : wkd (-5) a b = if b = 0 then 0 else a / b := rfl
    rw [hw]
    by_cases hb : b = 0
    · rw [if_pos hb]; simp (disch := omega) only [bnd, bnd0, ↓cdec, ↓cnot, ↓reduceIte, Bo_0, Bo_1, ↓Bo_ok, i10, i01, eq_self, decide_true, decide_false, Bool.or_true, Bool.true_or, Bool.or_false, Bool.false_or, cond_true, cond_false, not_true_eq_false, not_false_eq_true, and_self, and_true, true_and, and_false, false_and, nI_clamp, ↓inbc, inb_n, nI_pos, nI_1, hb, b2_8_56, b2_8_63]
    · rw [if_neg hb]; simp (disch := omega) only [bnd, bnd0, ↓cdec, ↓cnot, ↓reduceIte, Bo_0, Bo_1, ↓Bo_ok, i10, i01, eq_self, decide_true, decide_false, Bool.or_true, Bool.true_or, Bool.or_false, Bool.false_or, cond_true, cond_false, not_true_eq_false, not_false_eq_true, and_self, and_true, true_and, and_false, false_and, nI_clamp, ↓inbc, inb_n, nI_pos, nI_1, hb, b2_8_60, b2_8_63]
  · have e : (-(-37) : Int32).toInt = 37 := by decide
    rw [b2_8_0, e]
    refine (b2_8_64 d _ a b I t1 t2 k sc).trans ?_
    have hw : wkd (-6) a b = if b = 0 then 0 else jrem a b := rfl
    rw [hw]
    by_cases hb : b = 0
    · rw [if_pos hb]; simp (disch := omega) only [bnd, bnd0, ↓cdec, ↓cnot, ↓reduceIte, Bo_0, Bo_1, ↓Bo_ok, i10, i01, eq_self, decide_true, decide_false, Bool.or_true, Bool.true_or, Bool.or_false, Bool.false_or, cond_true, cond_false, not_true_eq_false, not_false_eq_true, and_self, and_true, true_and, and_false, false_and, nI_clamp, ↓inbc, inb_n, nI_pos, nI_1, hb, b2_8_68, b2_8_75]
    · rw [if_neg hb]; simp (disch := omega) only [bnd, bnd0, ↓cdec, ↓cnot, ↓reduceIte, Bo_0, Bo_1, ↓Bo_ok, i10, i01, eq_self, decide_true, decide_false, Bool.or_true, Bool.true_or, Bool.or_false, Bool.false_or, cond_true, cond_false, not_true_eq_false, not_false_eq_true, and_self, and_true, true_and, and_false, false_and, nI_clamp, ↓inbc, inb_n, nI_pos, nI_1, hb, b2_8_72, b2_8_75]
theorem x_push {e q h : Nat} (hq : q = 3 ∨ q = 6) (hh : h < 40) (h3 : I (e + 1) q 3 = nI h) (v : Int32) : den (d, 2, 6, 0, [some (vr (e + 1) q), some (vi v)], [], mkH I t1 t2 k sc) = some (none, mkH (uI (uI I (e + 1) (q + 2) h v) (e + 1) q 3 (nI (h + 1))) t1 t2 k sc) := by
  simp (disch := omega) only [bnd, bnd0, ↓cdec, ↓cnot, ↓reduceIte, Bo_0, Bo_1, ↓Bo_ok, i10, i01, eq_self, decide_true, decide_false, Bool.or_true, Bool.true_or, Bool.or_false, Bool.false_or, cond_true, cond_false, not_true_eq_false, not_false_eq_true, and_self, and_true, true_and, and_false, false_and, nI_clamp, ↓inbc, inb_n, nI_pos, nI_1, b2_6_0, b2_6_7, b2_6_19, b2_6_39, h3, lt_40, hh, uI_ne]
theorem x_rpn {e q n : Nat} (hq : q = 3 ∨ q = 6) (hn : n ≤ 40) (Cc : Nat → Int32) (x v : Int32) (hlen : I (e + 1) q 1 = nI n) (hc : ∀ i, i < n → stepRel (I (e + 1) (q + 1) i) (Cc i)) : ∀ m i (J : IFn) (st : List Int32) (l : Option AV), (l = none ∨ ∃ y, l = some (vi y)) → i + m = n → st.length ≤ i → stkF (J (e + 1) (q + 2)) st → J (e + 1) q 3 = nI st.length → rpn Cc x i m st = some [v] → (∀ g j i, ¬ (g = e + 1 ∧ ((j = q ∧ i = 3) ∨ j = q + 2)) → J g j i = I g j i) → ∃ J', den (d + 1, 2, 7, 7, [some (vr (e + 1) q), some (vi x), some (vi (nI i)), l], [], mkH (J) t1 t2 k sc) = some (some (vi v), mkH (J') t1 t2 k sc) ∧ ∀ g j i, ¬ (g = e + 1 ∧ ((j = q ∧ i = 3) ∨ j = q + 2)) → J' g j i = I g j i := by
  intro m
  induction m with
  | zero =>
    intro i J st l hl hi hle hst hh hr hfr
    have hin : i = n := by omega
    subst hin
    have hst1 : st = [v] := Option.some.inj hr
    subst hst1
    have h0 : J (e + 1) (q + 2) 0 = v := hst.1
    have hlen' : J (e + 1) q 1 = nI i := by rw [hfr _ _ _ (by omega)]; exact hlen
    have hge : ¬ nI i < nI i := nI_nlt (Nat.le_refl _) (by omega)
    refine ⟨J, ?_, hfr⟩
    rcases hl with rfl | ⟨y, rfl⟩
    · rw [b2_7_7 d e hq]
      simp (disch := omega) only [bnd, bnd0, ↓cdec, ↓cnot, ↓reduceIte, Bo_0, Bo_1, ↓Bo_ok, i10, i01, eq_self, decide_true, decide_false, Bool.or_true, Bool.true_or, Bool.or_false, Bool.false_or, cond_true, cond_false, not_true_eq_false, not_false_eq_true, and_self, and_true, true_and, and_false, false_and, nI_clamp, ↓inbc, inb_n, nI_pos, nI_1, b2_7_129, hlen', hge, h0]
    · rw [b2_7_7w d e hq]
      simp (disch := omega) only [bnd, bnd0, ↓cdec, ↓cnot, ↓reduceIte, Bo_0, Bo_1, ↓Bo_ok, i10, i01, eq_self, decide_true, decide_false, Bool.or_true, Bool.true_or, Bool.or_false, Bool.false_or, cond_true, cond_false, not_true_eq_false, not_false_eq_true, and_self, and_true, true_and, and_false, false_and, nI_clamp, ↓inbc, inb_n, nI_pos, nI_1, b2_7_129w, hlen', hge, h0]
  | succ m ih =>
    intro i J st l hl hi hle hst hh hr hfr
    have hlen' : J (e + 1) q 1 = nI n := by rw [hfr _ _ _ (by omega)]; exact hlen
    have hlt : nI i < nI n := nI_lt (by omega) (by omega)
    have h40 : i < 40 := by omega
    have hsi : J (e + 1) (q + 1) i = I (e + 1) (q + 1) i := hfr _ _ _ (by omega)
    have hci := hc i (by omega)
    rw [← hsi] at hci
    have hd : den (d + 1, 2, 7, 7, [some (vr (e + 1) q), some (vi x), some (vi (nI i)), l], [], mkH (J) t1 t2 k sc) = if J (e + 1) (q + 1) i < 0 then den (d + 1, 2, 7, 43, [some (vr (e + 1) q), some (vi x), some (vi (nI i)), some (vi (J (e + 1) (q + 1) i))], [], mkH (J) t1 t2 k sc) else den (d + 1, 2, 7, 35, [some (vr (e + 1) q), some (vi x), some (vi (nI i)), some (vi (J (e + 1) (q + 1) i))], [], mkH (J) t1 t2 k sc) := by
      rcases hl with rfl | ⟨y, rfl⟩
      · rw [b2_7_7 d e hq]
        simp (disch := omega) only [bnd, bnd0, ↓cdec, ↓cnot, ↓reduceIte, Bo_0, Bo_1, ↓Bo_ok, i10, i01, eq_self, decide_true, decide_false, Bool.or_true, Bool.true_or, Bool.or_false, Bool.false_or, cond_true, cond_false, not_true_eq_false, not_false_eq_true, and_self, and_true, true_and, and_false, false_and, nI_clamp, ↓inbc, inb_n, nI_pos, nI_1, b2_7_15, b2_7_24, hlen', hlt, lt_40, h40]
      · rw [b2_7_7w d e hq]
        simp (disch := omega) only [bnd, bnd0, ↓cdec, ↓cnot, ↓reduceIte, Bo_0, Bo_1, ↓Bo_ok, i10, i01, eq_self, decide_true, decide_false, Bool.or_true, Bool.true_or, Bool.or_false, Bool.false_or, cond_true, cond_false, not_true_eq_false, not_false_eq_true, and_self, and_true, true_and, and_false, false_and, nI_clamp, ↓inbc, inb_n, nI_pos, nI_1, b2_7_15w, b2_7_24w, hlen', hlt, lt_40, h40]
    generalize hS : J (e + 1) (q + 1) i = S at hci hd
    have push : ∀ w : Int32, rpn Cc x (i + 1) m (w :: st) = some [v] → ∃ J', den (d + 1, 2, 7, 123, [some (vr (e + 1) q), some (vi x), some (vi (nI i)), some (vi S)], [], mkH (uI (uI J (e + 1) (q + 2) st.length w) (e + 1) q 3 (nI (st.length + 1))) t1 t2 k sc) = some (some (vi v), mkH (J') t1 t2 k sc) ∧ ∀ g j i, ¬ (g = e + 1 ∧ ((j = q ∧ i = 3) ∨ j = q + 2)) → J' g j i = I g j i := by
      intro w hw
      obtain ⟨J', e2, f2⟩ := ih (i + 1) (uI (uI J (e + 1) (q + 2) st.length w) (e + 1) q 3 (nI (st.length + 1))) (w :: st) (some (vi S)) (Or.inr ⟨_, rfl⟩) (by omega) (by simp; omega) ⟨by rw [uI_ne (by omega), uI_at (by omega)], hst.keep (fun j hj => by rw [uI_ne (by omega), uI_ne (by omega)])⟩ (uI_at (by omega)) hw (fun g j i h => by rw [uI_ne (by omega), uI_ne (by omega)]; exact hfr _ _ _ h)
      refine ⟨J', ?_, f2⟩
      rw [b2_7_123, nI_1]
      exact e2
    have xp := fun w => x_push d J t1 t2 k sc hq (show st.length < 40 by omega) hh w
    rw [hd]
    have sign : ((Cc i = -2 ∧ S = -43) ∨ (Cc i = -3 ∧ S = -45) ∨ (Cc i = -4 ∧ S = -42) ∨ (Cc i = -5 ∧ S = -47) ∨ (Cc i = -6 ∧ S = -37)) → ∃ J', (if S < 0 then den (d + 1, 2, 7, 43, [some (vr (e + 1) q), some (vi x), some (vi (nI i)), some (vi S)], [], mkH (J) t1 t2 k sc) else den (d + 1, 2, 7, 35, [some (vr (e + 1) q), some (vi x), some (vi (nI i)), some (vi S)], [], mkH (J) t1 t2 k sc)) = some (some (vi v), mkH (J') t1 t2 k sc) ∧ ∀ g j i, ¬ (g = e + 1 ∧ ((j = q ∧ i = 3) ∨ j = q + 2)) → J' g j i = I g j i := by
      intro hsg
      have hn : S < 0 ∧ ¬ S = -120 ∧ ¬ Cc i = -1 ∧ ¬ 0 ≤ (Cc i).toInt := by
        rcases hsg with ⟨z1, z2⟩ | ⟨z1, z2⟩ | ⟨z1, z2⟩ | ⟨z1, z2⟩ | ⟨z1, z2⟩ <;> rw [z1, z2] <;> decide
      obtain ⟨n1, n2, n3, n4⟩ := hn
      obtain ⟨y, z, r, rfl⟩ := rpn_sg n3 n4 hr
      rw [rpn_s n3 n4] at hr
      have l1 : (y :: z :: r).length = r.length + 2 := by simp
      rw [l1] at hh hle
      have v1 : J (e + 1) (q + 2) (r.length + 1) = y := hst.1
      have v2 : J (e + 1) (q + 2) r.length = z := hst.2.1
      obtain ⟨J', e2, f2⟩ := ih (i + 1) (uI (uI J (e + 1) q 3 (nI (r.length + 1))) (e + 1) (q + 2) r.length (wkd (Cc i) z y)) (wkd (Cc i) z y :: r) (some (vi S)) (Or.inr ⟨_, rfl⟩) (by omega) (by simp; omega) ⟨uI_at (by omega), hst.2.2.keep (fun j hj => by rw [uI_ne (by omega), uI_ne (by omega)])⟩ (by rw [uI_ne (by omega), uI_at (by omega)]; simp) hr (fun g j i h => by rw [uI_ne (by omega), uI_ne (by omega)]; exact hfr _ _ _ h)
      refine ⟨J', ?_, f2⟩
      have h2 : ¬ r.length + 2 < 2 := by omega
      have h3 : ¬ 40 < r.length + 2 := by omega
      have p1 : nI (r.length + 2) - 1 = nI (r.length + 1) := nI_pred _
      have p2 : nI (r.length + 1) - 1 = nI r.length := nI_pred _
      rw [if_pos n1]
      simp (disch := omega) only [bnd, bnd0, ↓cdec, ↓cnot, ↓reduceIte, Bo_0, Bo_1, ↓Bo_ok, i10, i01, eq_self, decide_true, decide_false, Bool.or_true, Bool.true_or, Bool.or_false, Bool.false_or, cond_true, cond_false, not_true_eq_false, not_false_eq_true, and_self, and_true, true_and, and_false, false_and, nI_clamp, ↓inbc, inb_n, nI_pos, nI_1, b2_7_43, b2_7_57, b2_7_65, b2_7_77, b2_7_122, b2_7_123, n2, hh, lt_2, gt_40, h2, h3, p1, p2, uI_at, uI_ne, v1, v2, x_joined d _ t1 t2 k sc hsg]
      exact e2
    rcases hci with ⟨⟨c, -, hc9, hc1⟩, hc2⟩ | ⟨hc1, hc2⟩ | hsg
    · have n1 : ¬ S < 0 := by rw [hc2, hc1]; exact nI_pos (by omega)
      have n2 : ¬ Cc i = -1 := by
        rw [hc1]
        intro z
        have := congrArg Int32.toInt z
        rw [nI_toInt (by omega), k32_m1] at this
        omega
      have n3 : 0 ≤ (Cc i).toInt := by rw [hc1, nI_toInt (by omega)]; omega
      rw [if_neg n1]
      obtain ⟨J', e2, f2⟩ := push (Cc i) (by rw [← rpn_n n2 n3]; exact hr)
      refine ⟨J', ?_, f2⟩
      rw [← hc2] at e2
      simp (disch := omega) only [bnd0, b2_7_35, xp, b2_7_40]
      exact e2
    · rw [if_pos (by rw [hc2]; decide)]
      obtain ⟨J', e2, f2⟩ := push x (by rw [← rpn_x hc1]; exact hr)
      refine ⟨J', ?_, f2⟩
      simp (disch := omega) only [bnd0, ↓cdec, ↓reduceIte, b2_7_43, hc2, b2_7_49, xp, b2_7_54]
      rw [hc2] at e2
      exact e2
    · exact sign hsg
theorem x_worth {e q n : Nat} (hq : q = 3 ∨ q = 6) (Cc : Nat → Int32) (x : Int32) (hlen : I (e + 1) q 1 = nI n) (hc : ∀ i, i < n → stepRel (I (e + 1) (q + 1) i) (Cc i)) (hs : sideOK Cc n) : ∃ J, den (d + 1, 2, 7, 0, [some (vr (e + 1) q), some (vi x), none, none], [], mkH I t1 t2 k sc) = some (some (vi (sideVal Cc n x)), mkH (J) t1 t2 k sc) ∧ ∀ g j i, ¬ (g = e + 1 ∧ ((j = q ∧ i = 3) ∨ j = q + 2)) → J g j i = I g j i := by
  obtain ⟨v, hv⟩ := hs.2.2 x
  obtain ⟨J, e2, f⟩ := x_rpn d (uI I (e + 1) q 3 0) t1 t2 k sc (e := e) hq hs.2.1 Cc x v (by rw [uI_ne (by omega)]; exact hlen) (fun i hi => by rw [uI_ne (by omega)]; exact hc i hi) n 0 (uI I (e + 1) q 3 0) [] none (Or.inl rfl) (by omega) (by simp) trivial (uI_at (by omega)) hv (fun g j i h => rfl)
  refine ⟨J, ?_, fun g j i h => by rw [f _ _ _ h, uI_ne (by omega)]⟩
  rw [sideVal_of hv]
  exact (b2_7_0 d e hq x I t1 t2 k sc).trans e2
end
