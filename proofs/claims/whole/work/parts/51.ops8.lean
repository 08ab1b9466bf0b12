/-! as, change -/
theorem rpn_congr {C C' : Nat → Int32} (x : Int32) : ∀ (m i : Nat) (st : List Int32), (∀ a, i ≤ a → a < i + m → C' a = C a) → rpn C' x i m st = rpn C x i m st := by
  intro m
  induction m with
  | zero => intro i st _; rfl
  | succ m ih =>
    intro i st hc
    have h1 := hc i (Nat.le_refl _) (by omega)
    have h2 := fun st => ih (i + 1) st (fun a u v => hc a (by omega) (by omega))
    simp only [rpn, h1, h2]
theorem textOK.congrC {I : IFn} {e : Nat} {C C' : Nat → Int32} (h : ∀ a, a < 43 → C' a = C a) (w : textOK I e C) : textOK I e C' := by
  obtain ⟨n1, n2, b0, b1, b2, b3, b4, b5, b6, b7, b8, b9, b10, b11⟩ := w
  refine ⟨n1, n2, b0, ?_, ?_, ?_, ?_, b5, b6, fun i hi => ?_, fun i hi => ?_, ?_, ?_, fun x hx => ?_⟩
  · rw [h 0 (by omega)]; exact b1
  · rw [h 0 (by omega)]; exact b2
  · rw [h 1 (by omega)]; exact b3
  · rw [h 2 (by omega)]; exact b4
  · rw [h (3 + i) (by omega)]; exact b7 i hi
  · rw [h (3 + n1 + i) (by omega)]; exact b8 i hi
  · exact ⟨b9.1, b9.2.1, fun x => by rw [rpn_congr (C := fun i => C (3 + i)) x n1 0 [] (fun a _ ha => h _ (by omega))]; exact b9.2.2 x⟩
  · exact ⟨b10.1, b10.2.1, fun x => by rw [rpn_congr (C := fun i => C (3 + n1 + i)) x n2 0 [] (fun a _ ha => h _ (by omega))]; exact b10.2.2 x⟩
  · unfold sideVal
    rw [rpn_congr (C := fun i => C (3 + i)) (nI x) n1 0 [] (fun a _ ha => h _ (by omega)), rpn_congr (C := fun i => C (3 + n1 + i)) (nI x) n2 0 [] (fun a _ ha => h _ (by omega))]
    exact b11 x hx
theorem sumOK.mod {I : IFn} {t : Option (Nat × Nat)} {k : Nat} {kind m kind' m' : Int32} {C C' : Nat → Int32} (w : sumOK I t k kind m C) (h : ∀ a, 2 ≤ a → a < 45 → C' a = C a) (h0 : kind' = C' 0) (r0 : rng 0 6 (C' 0)) (h1 : m' = C' 1) (r1 : rng 1 99 (C' 1)) : sumOK I t k kind' m' C' := by
  obtain ⟨-, -, -, -, e, he, ht, hx⟩ := w
  exact ⟨h0, r0, h1, r1, e, he, ht, hx.congrC (fun a ha => h (2 + a) (by omega) (by omega))⟩
theorem Inv.sums {I J : IFn} {t1 t2 : TFn} {k : Nat} (v : Inv I t1 t2 k) (hs : ∀ n, n ≤ 8 → I 0 57 0 = nI n → ∀ q, q < n → WSum J 3 (J 0 57) t1 k q) (hfr : ∀ g j i, ¬ Gb g j i → ¬ (g = 0 ∧ (j = 6 ∨ j = 7 ∨ (j = 57 ∧ 105 ≤ i))) → J g j i = I g j i) : Inv J t1 t2 k := by
  obtain ⟨hTo, ⟨n, b0, b1, b2, b3⟩, hSh, ⟨m, m8, ⟨c1, c2, c3, c4, c5, c6⟩, hM, hQ, hTK⟩, hK⟩ := v
  have fr : ∀ j i, ¬ ((j = 0 ∧ i ≠ 7) ∨ (j = 1 ∧ i ≠ 1) ∨ j = 6 ∨ j = 7 ∨ ((j = 8 ∨ j = 24) ∧ i = 12) ∨ (35 ≤ j ∧ j ≤ 46) ∨ (j = 56 ∧ i ≠ 4 ∧ i ≠ 8) ∨ (j = 57 ∧ 105 ≤ i) ∨ j = 59 ∨ (62 ≤ j ∧ j ≤ 66) ∨ 70 ≤ j) → J 0 j i = I 0 j i := fun j i q => hfr 0 j i (by unfold Gb; omega) (by omega)
  have hTS : TextsSame I J k := fun e _ j i q1 q2 q3 q4 => hfr _ _ _ (by unfold Gb; omega) (by omega)
  refine ⟨hTo.congr (fun i _ => fr _ _ (by omega)) (fun i _ => fr _ _ (by omega)), ⟨n, b0, ?_, ?_, fun i hi => ?_⟩, fun s hs => (hSh s hs).congr hs (fun j i _ _ => fr _ _ (by omega)) (fun j i _ _ => fr _ _ (by omega)), ⟨m, m8, ?_, fun p hp => (hM p hp).congr hp (fun j _ _ => fr _ _ (by omega)) (fun i _ _ => fr _ _ (by omega)), hs m m8 c1, hTK⟩, hK.congr2 hTS (fr _ _ (by omega)) (fr _ _ (by omega)) (fun j i _ _ _ => fr _ _ (by omega)) (fun i _ => fr _ _ (by omega))⟩
  · rw [fr _ _ (by omega)]; exact b1
  · rw [fr _ _ (by omega)]; exact b2
  · rw [fr 2 i (by omega), fr 61 i (by omega)]; exact b3 i hi
  · unfold WHd
    rw [fr 57 0 (by omega), fr 57 1 (by omega), fr 57 2 (by omega), fr 57 3 (by omega), fr 57 4 (by omega), fr (3 + 1) 3 (by omega), fr (3 + 5) 9 (by omega), fr (3 + 5) 10 (by omega), fr (3 + 5) 11 (by omega), fr 3 3 (by omega)]
    exact ⟨c1, c2, c3, c4, c5, c6⟩
theorem mul45 (n : Nat) : (45 : Int32) * nI n = nI (45 * n) := (Int32.ofNat_mul 45 n).symm
theorem add105 (n : Nat) : (105 : Int32) + nI n = nI (105 + n) := nI_add 105 n
section
variable (d : Nat) (I : IFn) (t1 t2 : TFn) (k : Nat) (sc : Nat × (Nat → Int32))
theorem m_it0 {q : Nat} (hq : q < 8) : den (d, 8, 7, 0, [some (vr 0 56), some (vi (nI q)), some (vi 0)], [], mkH I t1 t2 k sc) = some (some (vi (I 0 57 (105 + 45 * q + 0))), mkH I t1 t2 k sc) := by
  rw [b8_7_0, mul45, add105, show nI (105 + 45 * q) + 0 = nI (105 + 45 * q + 0) from nI_add _ 0, inb_n (by omega) (by omega), cond_true, nI_clamp (by omega)]
theorem m_it1 {q : Nat} (hq : q < 8) : den (d, 8, 7, 0, [some (vr 0 56), some (vi (nI q)), some (vi 1)], [], mkH I t1 t2 k sc) = some (some (vi (I 0 57 (105 + 45 * q + 1))), mkH I t1 t2 k sc) := by
  rw [b8_7_0, mul45, add105, show nI (105 + 45 * q) + 1 = nI (105 + 45 * q + 1) from nI_add _ 1, inb_n (by omega) (by omega), cond_true, nI_clamp (by omega)]
theorem m_it2 {q : Nat} (hq : q < 8) : den (d, 8, 7, 0, [some (vr 0 56), some (vi (nI q)), some (vi 2)], [], mkH I t1 t2 k sc) = some (some (vi (I 0 57 (105 + 45 * q + 2))), mkH I t1 t2 k sc) := by
  rw [b8_7_0, mul45, add105, show nI (105 + 45 * q) + 2 = nI (105 + 45 * q + 2) from nI_add _ 2, inb_n (by omega) (by omega), cond_true, nI_clamp (by omega)]
theorem m_it3 {q : Nat} (hq : q < 8) : den (d, 8, 7, 0, [some (vr 0 56), some (vi (nI q)), some (vi 3)], [], mkH I t1 t2 k sc) = some (some (vi (I 0 57 (105 + 45 * q + 3))), mkH I t1 t2 k sc) := by
  rw [b8_7_0, mul45, add105, show nI (105 + 45 * q) + 3 = nI (105 + 45 * q + 3) from nI_add _ 3, inb_n (by omega) (by omega), cond_true, nI_clamp (by omega)]
theorem m_it4 {q : Nat} (hq : q < 8) : den (d, 8, 7, 0, [some (vr 0 56), some (vi (nI q)), some (vi 4)], [], mkH I t1 t2 k sc) = some (some (vi (I 0 57 (105 + 45 * q + 4))), mkH I t1 t2 k sc) := by
  rw [b8_7_0, mul45, add105, show nI (105 + 45 * q) + 4 = nI (105 + 45 * q + 4) from nI_add _ 4, inb_n (by omega) (by omega), cond_true, nI_clamp (by omega)]
theorem m_it {q a : Nat} (hq : q < 8) (ha : a < 45) : den (d, 8, 7, 0, [some (vr 0 56), some (vi (nI q)), some (vi (nI a))], [], mkH I t1 t2 k sc) = some (some (vi (I 0 57 (105 + 45 * q + a))), mkH I t1 t2 k sc) := by
  rw [b8_7_0, mul45, add105, nI_add, inb_n (by omega) (by omega), cond_true, nI_clamp (by omega)]
/-- under -/
theorem x_isUnder {a b : Nat} (ha : a < 7) (hb : b < 7) : den (d, 7, 50, 0, [some (vi (nI a)), some (vi (nI b)), none, none], [], mkH I t1 t2 k sc) = some (some (vi (Bo (b = 0 ∨ a = b ∨ (b = 1 ∧ a = 5) ∨ (b = 2 ∧ a = 3)))), mkH I t1 t2 k sc) := by
  have eq : ∀ (x0 : Int32) (c s : Nat), c < 7 → s < 7 → c = b → den (d, 7, 50, 4, [some (vi x0), some (vi (nI b)), some (vi (nI c)), some (vi (nI s))], [], mkH I t1 t2 k sc) = some (some (vi 1), mkH I t1 t2 k sc) := by
    intro x0 c s hc hs e
    subst e
    rw [b7_50_4]
    simp (disch := omega) only [bnd, bnd0, ↓cdec, ↓cnot, ↓reduceIte, Bo_0, Bo_1, ↓Bo_ok, i10, i01, eq_self, decide_true, decide_false, Bool.or_true, Bool.true_or, Bool.or_false, Bool.false_or, cond_true, cond_false, not_true_eq_false, not_false_eq_true, and_self, and_true, true_and, and_false, false_and, nI_clamp, ↓inbc, inb_n, nI_pos, nI_1, lt_7, hc, hs, b7_50_12, b7_50_16, b7_50_24, b7_50_29]
  have st : ∀ (x0 : Int32) (c s : Nat), c < 7 → s < 7 → ¬ c = b → den (d, 7, 50, 4, [some (vi x0), some (vi (nI b)), some (vi (nI c)), some (vi (nI s))], [], mkH I t1 t2 k sc) = den (d, 7, 50, 4, [some (vi x0), some (vi (nI b)), some (vi (lkp 0 [-1, 0, 0, 2, 0, 1, 0] c)), some (vi (nI (s + 1)))], [], mkH I t1 t2 k sc) := by
    intro x0 c s hc hs e
    have e2 : ¬ nI c = nI b := fun z => e ((nI_eq (by omega) (by omega)).mp z)
    rw [b7_50_4]
    simp (disch := omega) only [bnd, bnd0, ↓cdec, ↓cnot, ↓reduceIte, Bo_0, Bo_1, ↓Bo_ok, i10, i01, eq_self, decide_true, decide_false, Bool.or_true, Bool.true_or, Bool.or_false, Bool.false_or, cond_true, cond_false, not_true_eq_false, not_false_eq_true, and_self, and_true, true_and, and_false, false_and, nI_clamp, ↓inbc, inb_n, nI_pos, nI_1, lt_7, hc, hs, e2, b7_50_12, b7_50_16, b7_50_24, b7_50_31]
  have ng : ∀ (x0 : Int32) (s : Nat), s < 7 → den (d, 7, 50, 4, [some (vi x0), some (vi (nI b)), some (vi (-1)), some (vi (nI s))], [], mkH I t1 t2 k sc) = some (some (vi 0), mkH I t1 t2 k sc) := by
    intro x0 s hs
    have : (-1 : Int32) < 0 := by decide
    rw [b7_50_4]
    simp (disch := omega) only [bnd, bnd0, ↓cdec, ↓cnot, ↓reduceIte, Bo_0, Bo_1, ↓Bo_ok, i10, i01, eq_self, decide_true, decide_false, Bool.or_true, Bool.true_or, Bool.or_false, Bool.false_or, cond_true, cond_false, not_true_eq_false, not_false_eq_true, and_self, and_true, true_and, and_false, false_and, nI_clamp, ↓inbc, inb_n, nI_pos, nI_1, lt_7, hs, this, b7_50_12, b7_50_43]
  have z0 : ∀ (x0 : Int32) (s : Nat), s < 6 → den (d, 7, 50, 4, [some (vi x0), some (vi (nI b)), some (vi (nI 0)), some (vi (nI s))], [], mkH I t1 t2 k sc) = some (some (vi (Bo (b = 0))), mkH I t1 t2 k sc) := by
    intro x0 s hs
    by_cases e : 0 = b
    · rw [eq x0 0 s (by omega) (by omega) e, Bo_t e.symm]
    · rw [st x0 0 s (by omega) (by omega) e, Bo_f (fun z => e z.symm)]
      exact ng x0 (s + 1) (by omega)
  refine (b7_50_0 d (nI a) (nI b) I t1 t2 k sc).trans ?_
  by_cases e : a = b
  · rw [Bo_t (Or.inr (Or.inl e))]
    exact eq _ a 0 ha (by omega) e
  · refine (st _ a 0 ha (by omega) e).trans ?_
    match a, ha with
    | 0, _ => rw [Bo_f (by omega)]; exact ng _ 1 (by omega)
    | 1, _ => refine (z0 _ 1 (by omega)).trans ?_; rw [Bo_congr (q := b = 0 ∨ 1 = b ∨ (b = 1 ∧ 1 = 5) ∨ (b = 2 ∧ 1 = 3)) (by omega)]
    | 2, _ => refine (z0 _ 1 (by omega)).trans ?_; rw [Bo_congr (q := b = 0 ∨ 2 = b ∨ (b = 1 ∧ 2 = 5) ∨ (b = 2 ∧ 2 = 3)) (by omega)]
    | 4, _ => refine (z0 _ 1 (by omega)).trans ?_; rw [Bo_congr (q := b = 0 ∨ 4 = b ∨ (b = 1 ∧ 4 = 5) ∨ (b = 2 ∧ 4 = 3)) (by omega)]
    | 6, _ => refine (z0 _ 1 (by omega)).trans ?_; rw [Bo_congr (q := b = 0 ∨ 6 = b ∨ (b = 1 ∧ 6 = 5) ∨ (b = 2 ∧ 6 = 3)) (by omega)]
    | 3, _ =>
      by_cases e2 : 2 = b
      · rw [Bo_t (by omega)]; exact eq _ 2 1 (by omega) (by omega) e2
      · refine (st _ 2 1 (by omega) (by omega) e2).trans ((z0 _ 2 (by omega)).trans ?_); rw [Bo_congr (q := b = 0 ∨ 3 = b ∨ (b = 1 ∧ 3 = 5) ∨ (b = 2 ∧ 3 = 3)) (by omega)]
    | 5, _ =>
      by_cases e2 : 1 = b
      · rw [Bo_t (by omega)]; exact eq _ 1 1 (by omega) (by omega) e2
      · refine (st _ 1 1 (by omega) (by omega) e2).trans ((z0 _ 2 (by omega)).trans ?_); rw [Bo_congr (q := b = 0 ∨ 5 = b ∨ (b = 1 ∧ 5 = 5) ∨ (b = 2 ∧ 5 = 3)) (by omega)]
    | n + 7, h => omega
end
/-- as -/
theorem ok_30 : op_30 Inv := by
  intro a1 a2 I t1 t2 k sc hI
  by_cases h1 : 0 ≤ a1.toInt ∧ a1.toInt ≤ 9
  · by_cases h2 : 0 ≤ a2.toInt ∧ a2.toInt ≤ 6
    · obtain ⟨p, hp, rfl⟩ := nat_of (x := a1) (m := 10) h1.1 (by omega) (by omega)
      obtain ⟨b, hb, rfl⟩ := nat_of (x := a2) (m := 7) h2.1 (by omega) (by omega)
      obtain ⟨n, n8, c0, c0', c1, c2, c3, c4, ht, hQ⟩ := hI.head
      obtain ⟨m, m8, hH, hM, -⟩ := hI.2.2.2.1
      have hmn : m = n := (nI_eq (by omega) (by omega)).mp (hH.1.symm.trans c0)
      subst hmn
      obtain ⟨-, -, g3, g4⟩ := hM p hp
      have e95 : (95 : Int32) + nI p = nI (95 + p) := nI_add 95 p
      have xI := fun x => x_isSum 8 I t1 t2 k sc m8 c0' ht x
      rcases g4 with g4 | ⟨q, hq, g4⟩
      · have x18 : I 0 18 p = -1 := g3.trans g4
        have hn1 : ¬ (0 ≤ (-1 : Int32).toInt ∧ (-1 : Int32).toInt < (m : Int)) := by rw [k32_m1]; omega
        have l1 : (-1 : Int32) < 0 := by decide
        refine ⟨-1000006, uI I 0 47 5 (I 0 47 5 + 1), _, t1, t2, k, ?_, ?_, hI.find (f := 5) (by omega), by omega⟩
        · simp (disch := omega) only [bnd, bnd0, ↓cdec, ↓cnot, ↓reduceIte, Bo_0, Bo_1, ↓Bo_ok, i10, i01, eq_self, decide_true, decide_false, Bool.or_true, Bool.true_or, Bool.or_false, Bool.false_or, cond_true, cond_false, not_true_eq_false, not_false_eq_true, and_self, and_true, true_and, and_false, false_and, nI_clamp, ↓inbc, inb_n, nI_pos, nI_1, b7_31_0, b7_31_4, b7_31_7, b7_31_11, b7_31_21, b7_31_36, b7_31_39, b7_31_45, x_isSpot, x_isKind, h1, h2, x18, xI, hn1, x_f5]
        · simp (disch := omega) only [bnd, bnd0, ↓cdec, ↓cnot, ↓reduceIte, Bo_0, Bo_1, ↓Bo_ok, i10, i01, eq_self, decide_true, decide_false, Bool.or_true, Bool.true_or, Bool.or_false, Bool.false_or, cond_true, cond_false, not_true_eq_false, not_false_eq_true, and_self, and_true, true_and, and_false, false_and, nI_clamp, ↓inbc, inb_n, nI_pos, nI_1, b8_68_0, b8_68_9, b8_68_12, b8_68_21, b8_68_31, b8_68_45, b8_68_51, m_in32, k64_0, k64_9, k64_6, h1, h2, e95, uI_ne, g4, l1, m_f5]
      · have x18 : I 0 18 p = nI q := g3.trans g4
        have hn1 : 0 ≤ (nI q).toInt ∧ (nI q).toInt < (m : Int) := by rw [nI_toInt (by omega)]; omega
        obtain ⟨s0, ⟨a, -, ha6, s1⟩, -⟩ := hQ q hq
        have s1' : I 0 57 (105 + 45 * q + 0) = nI a := s1
        have x6 : I 0 6 q = nI a := s0.trans s1
        by_cases hu : b = 0 ∨ a = b ∨ (b = 1 ∧ a = 5) ∨ (b = 2 ∧ a = 3)
        · refine ⟨nI q, I, I, t1, t2, k, ?_, ?_, hI, by omega⟩
          · simp (disch := omega) only [bnd, bnd0, ↓cdec, ↓cnot, ↓reduceIte, Bo_0, Bo_1, ↓Bo_ok, i10, i01, eq_self, decide_true, decide_false, Bool.or_true, Bool.true_or, Bool.or_false, Bool.false_or, cond_true, cond_false, not_true_eq_false, not_false_eq_true, and_self, and_true, true_and, and_false, false_and, nI_clamp, ↓inbc, inb_n, nI_pos, nI_1, b7_31_0, b7_31_4, b7_31_7, b7_31_11, b7_31_21, b7_31_36, b7_31_46, b7_31_62, b7_31_65, b7_31_75, x_isSpot, x_isKind, h1, h2, x18, xI, hn1, x6, x_isUnder, hu]
          · have tail : den (9 + 1, 8, 68, 92, [some (vr 0 56), some (vi (nI p)), some (vi (nI b)), some (vi (nI q)), some (vi (nI a)), none], [], mkH I t1 t2 k sc) = some (some (vi (nI q)), mkH I t1 t2 k sc) := by
              simp (disch := omega) only [bnd, bnd0, ↓cdec, ↓cnot, ↓reduceIte, Bo_0, Bo_1, ↓Bo_ok, i10, i01, eq_self, decide_true, decide_false, Bool.or_true, Bool.true_or, Bool.or_false, Bool.false_or, cond_true, cond_false, not_true_eq_false, not_false_eq_true, and_self, and_true, true_and, and_false, false_and, nI_clamp, ↓inbc, inb_n, nI_pos, nI_1, b8_68_92, b8_68_97, b8_68_104, b8_68_114]
            have head : den (10, 8, 68, 0, [some (vr 0 56), some (vi (nI p)), some (vi (nI b)), none, none, none], [], mkH I t1 t2 k sc) = den (9 + 1, 8, 68, 58, [some (vr 0 56), some (vi (nI p)), some (vi (nI b)), some (vi (nI q)), none, none], [vi (nI a)], mkH I t1 t2 k sc) := by
              simp (disch := omega) only [bnd, bnd0, ↓cdec, ↓cnot, ↓reduceIte, Bo_0, Bo_1, ↓Bo_ok, i10, i01, eq_self, decide_true, decide_false, Bool.or_true, Bool.true_or, Bool.or_false, Bool.false_or, cond_true, cond_false, not_true_eq_false, not_false_eq_true, and_self, and_true, true_and, and_false, false_and, nI_clamp, ↓inbc, inb_n, nI_pos, nI_1, b8_68_0, b8_68_9, b8_68_12, b8_68_21, b8_68_31, b8_68_52, m_in32, k64_0, k64_9, k64_6, h1, h2, e95, g4, m_it0, s1']
            refine head.trans ?_
            by_cases e0 : b = 0
            · simp (disch := omega) only [bnd, bnd0, ↓cdec, ↓cnot, ↓reduceIte, Bo_0, Bo_1, ↓Bo_ok, i10, i01, eq_self, decide_true, decide_false, Bool.or_true, Bool.true_or, Bool.or_false, Bool.false_or, cond_true, cond_false, not_true_eq_false, not_false_eq_true, and_self, and_true, true_and, and_false, false_and, nI_clamp, ↓inbc, inb_n, nI_pos, nI_1, b8_68_58, eq_0, e0] at tail ⊢
              exact tail
            · by_cases e1 : a = b
              · subst e1
                simp (disch := omega) only [bnd, bnd0, ↓cdec, ↓cnot, ↓reduceIte, Bo_0, Bo_1, ↓Bo_ok, i10, i01, eq_self, decide_true, decide_false, Bool.or_true, Bool.true_or, Bool.or_false, Bool.false_or, cond_true, cond_false, not_true_eq_false, not_false_eq_true, and_self, and_true, true_and, and_false, false_and, nI_clamp, ↓inbc, inb_n, nI_pos, nI_1, b8_68_58, b8_68_64, eq_0, e0]
                exact tail
              · have e1' : ¬ nI a = nI b := fun z => e1 ((nI_eq (by omega) (by omega)).mp z)
                rcases hu with z | z | ⟨z1, z2⟩ | ⟨z1, z2⟩
                · exact absurd z e0
                · exact absurd z e1
                · subst z1 z2
                  simp (disch := omega) only [bnd, bnd0, ↓cdec, ↓cnot, ↓reduceIte, Bo_0, Bo_1, ↓Bo_ok, i10, i01, eq_self, decide_true, decide_false, Bool.or_true, Bool.true_or, Bool.or_false, Bool.false_or, cond_true, cond_false, not_true_eq_false, not_false_eq_true, and_self, and_true, true_and, and_false, false_and, nI_clamp, ↓inbc, inb_n, nI_pos, nI_1, b8_68_58, b8_68_64, b8_68_70, b8_68_75, eq_0, eq_1, eq_5, e1', Nat.reduceEqDiff, Nat.one_ne_zero]
                  exact tail
                · subst z1 z2
                  simp (disch := omega) only [bnd, bnd0, ↓cdec, ↓cnot, ↓reduceIte, Bo_0, Bo_1, ↓Bo_ok, i10, i01, eq_self, decide_true, decide_false, Bool.or_true, Bool.true_or, Bool.or_false, Bool.false_or, cond_true, cond_false, not_true_eq_false, not_false_eq_true, and_self, and_true, true_and, and_false, false_and, nI_clamp, ↓inbc, inb_n, nI_pos, nI_1, b8_68_58, b8_68_64, b8_68_70, b8_68_81, b8_68_86, eq_0, eq_1, eq_2, eq_3, e1', Nat.reduceEqDiff]
                  exact tail
        · have e0 : ¬ b = 0 := fun z => hu (Or.inl z)
          have e1 : ¬ nI a = nI b := fun z => hu (Or.inr (Or.inl ((nI_eq (by omega) (by omega)).mp z)))
          refine ⟨-1000003, uI I 0 47 2 (I 0 47 2 + 1), _, t1, t2, k, ?_, ?_, hI.find (f := 2) (by omega), by omega⟩
          · simp (disch := omega) only [bnd, bnd0, ↓cdec, ↓cnot, ↓reduceIte, Bo_0, Bo_1, ↓Bo_ok, i10, i01, eq_self, decide_true, decide_false, Bool.or_true, Bool.true_or, Bool.or_false, Bool.false_or, cond_true, cond_false, not_true_eq_false, not_false_eq_true, and_self, and_true, true_and, and_false, false_and, nI_clamp, ↓inbc, inb_n, nI_pos, nI_1, b7_31_0, b7_31_4, b7_31_7, b7_31_11, b7_31_21, b7_31_36, b7_31_46, b7_31_62, b7_31_69, b7_31_75, x_isSpot, x_isKind, h1, h2, x18, xI, hn1, x6, x_isUnder, hu, x_f2]
          · have tail : den (9 + 1, 8, 68, 96, [some (vr 0 56), some (vi (nI p)), some (vi (nI b)), some (vi (nI q)), some (vi (nI a)), none], [], mkH (uI I 0 47 2 (I 0 47 2 + 1)) t1 t2 k sc) = some (some (vi (-1000003)), mkH (uI (uI I 0 47 2 (I 0 47 2 + 1)) 0 60 2 ((uI I 0 47 2 (I 0 47 2 + 1)) 0 60 2 + 1)) t1 t2 k sc) := by
              simp (disch := omega) only [bnd, bnd0, ↓cdec, ↓cnot, ↓reduceIte, Bo_0, Bo_1, ↓Bo_ok, i10, i01, eq_self, decide_true, decide_false, Bool.or_true, Bool.true_or, Bool.or_false, Bool.false_or, cond_true, cond_false, not_true_eq_false, not_false_eq_true, and_self, and_true, true_and, and_false, false_and, nI_clamp, ↓inbc, inb_n, nI_pos, nI_1, b8_68_96, b8_68_97, b8_68_108, b8_68_114, m_f2]
            have head : den (10, 8, 68, 0, [some (vr 0 56), some (vi (nI p)), some (vi (nI b)), none, none, none], [], mkH (uI I 0 47 2 (I 0 47 2 + 1)) t1 t2 k sc) = den (9 + 1, 8, 68, 70, [some (vr 0 56), some (vi (nI p)), some (vi (nI b)), some (vi (nI q)), some (vi (nI a)), none], [], mkH (uI I 0 47 2 (I 0 47 2 + 1)) t1 t2 k sc) := by
              simp (disch := omega) only [bnd, bnd0, ↓cdec, ↓cnot, ↓reduceIte, Bo_0, Bo_1, ↓Bo_ok, i10, i01, eq_self, decide_true, decide_false, Bool.or_true, Bool.true_or, Bool.or_false, Bool.false_or, cond_true, cond_false, not_true_eq_false, not_false_eq_true, and_self, and_true, true_and, and_false, false_and, nI_clamp, ↓inbc, inb_n, nI_pos, nI_1, b8_68_0, b8_68_9, b8_68_12, b8_68_21, b8_68_31, b8_68_52, b8_68_58, b8_68_64, m_in32, k64_0, k64_9, k64_6, h1, h2, e95, uI_ne, g4, m_it0, s1', eq_0, e0, e1]
            refine head.trans ?_
            by_cases z1 : b = 1
            · have z2 : ¬ a = 5 := fun z => hu (by omega)
              have z3 : ¬ b = 2 := by omega
              rw [b8_68_70, cdec, if_pos (by rw [eq_1 (by omega)]; exact z1), b8_68_75, cdec, if_neg (by rw [eq_5 (by omega)]; exact z2), b8_68_81, cdec, if_neg (by rw [eq_2 (by omega)]; exact z3)]
              exact tail
            · by_cases z3 : b = 2
              · have z4 : ¬ a = 3 := fun z => hu (by omega)
                rw [b8_68_70, cdec, if_neg (by rw [eq_1 (by omega)]; exact z1), b8_68_81, cdec, if_pos (by rw [eq_2 (by omega)]; exact z3), b8_68_86, cdec, if_neg (by rw [eq_3 (by omega)]; exact z4)]
                exact tail
              · rw [b8_68_70, cdec, if_neg (by rw [eq_1 (by omega)]; exact z1), b8_68_81, cdec, if_neg (by rw [eq_2 (by omega)]; exact z3)]
                exact tail
    · refine ⟨-1000001, uI I 0 47 0 (I 0 47 0 + 1), _, t1, t2, k, ?_, ?_, hI.find (f := 0) (by omega), by omega⟩
      · simp (disch := omega) only [bnd, bnd0, ↓cdec, ↓cnot, ↓reduceIte, Bo_0, Bo_1, ↓Bo_ok, i10, i01, eq_self, decide_true, decide_false, Bool.or_true, Bool.true_or, Bool.or_false, Bool.false_or, cond_true, cond_false, not_true_eq_false, not_false_eq_true, and_self, and_true, true_and, and_false, false_and, nI_clamp, ↓inbc, inb_n, nI_pos, nI_1, b7_31_0, b7_31_4, b7_31_7, b7_31_11, b7_31_14, b7_31_20, x_isSpot, x_isKind, h1, h2, x_f0]
      · simp (disch := omega) only [bnd, bnd0, ↓cdec, ↓cnot, ↓reduceIte, Bo_0, Bo_1, ↓Bo_ok, i10, i01, eq_self, decide_true, decide_false, Bool.or_true, Bool.true_or, Bool.or_false, Bool.false_or, cond_true, cond_false, not_true_eq_false, not_false_eq_true, and_self, and_true, true_and, and_false, false_and, nI_clamp, ↓inbc, inb_n, nI_pos, nI_1, b8_68_0, b8_68_9, b8_68_12, b8_68_21, b8_68_24, b8_68_30, m_in32, k64_0, k64_9, k64_6, h1, h2, m_f0]
  · refine ⟨-1000001, uI I 0 47 0 (I 0 47 0 + 1), _, t1, t2, k, ?_, ?_, hI.find (f := 0) (by omega), by omega⟩
    · simp (disch := omega) only [bnd, bnd0, ↓cdec, ↓cnot, ↓reduceIte, Bo_0, Bo_1, ↓Bo_ok, i10, i01, eq_self, decide_true, decide_false, Bool.or_true, Bool.true_or, Bool.or_false, Bool.false_or, cond_true, cond_false, not_true_eq_false, not_false_eq_true, and_self, and_true, true_and, and_false, false_and, nI_clamp, ↓inbc, inb_n, nI_pos, nI_1, b7_31_0, b7_31_4, b7_31_14, b7_31_20, x_isSpot, h1, x_f0]
    · simp (disch := omega) only [bnd, bnd0, ↓cdec, ↓cnot, ↓reduceIte, Bo_0, Bo_1, ↓Bo_ok, i10, i01, eq_self, decide_true, decide_false, Bool.or_true, Bool.true_or, Bool.or_false, Bool.false_or, cond_true, cond_false, not_true_eq_false, not_false_eq_true, and_self, and_true, true_and, and_false, false_and, nI_clamp, ↓inbc, inb_n, nI_pos, nI_1, b8_68_0, b8_68_9, b8_68_24, b8_68_30, m_in32, k64_0, k64_9, h1, m_f0]
/-- change -/
theorem ok_4 : op_4 Inv := by
  intro a1 a2 a3 I t1 t2 k sc hI
  obtain ⟨n, n8, c0, c0', c1, c2, c3, c4, ht, hQ⟩ := hI.head
  have xI := fun x => x_isSum 8 I t1 t2 k sc n8 c0' ht x
  have mI := fun (J : IFn) (hJ : J 0 57 0 = nI n) x => m_isSum 8 J t1 t2 k sc n8 hJ x
  by_cases h1 : 0 ≤ a1.toInt ∧ a1.toInt < (n : Int)
  · obtain ⟨q, hq, rfl⟩ := nat_of (x := a1) (m := n) h1.1 h1.2 (by omega)
    have hsum : ∀ (w : Nat) (v : Int32), w < 2 → (w = 0 → rng 0 6 v) → (w = 1 → rng 1 99 v) → ∀ J, J = uI (uI I 0 (6 + w) q v) 0 57 (105 + 45 * q + w) v → Inv J t1 t2 k := by
      intro w v hw r0 r1 J hJ
      refine hI.sums ?_ ?_
      · intro n' n8' hn' q' hq'
        have : n' = n := (nI_eq (by omega) (by omega)).mp (hn'.symm.trans c0)
        subst this
        have hTS : TextsSame I J k := fun e _ j i _ _ _ _ => by rw [hJ, uI_ne (by omega), uI_ne (by omega)]
        have g0 : sumOK J (t1 q') k (I 0 (3 + 3) q') (I 0 (3 + 4) q') (fun a => I 0 57 (105 + 45 * q' + a)) := sumOK.congr hTS (hQ q' hq')
        by_cases e : q' = q
        · subst e
          obtain ⟨z0, z1, z2, z3, -⟩ := hQ q' hq'
          refine sumOK.mod g0 (fun a ha _ => ?_) ?_ ?_ ?_ ?_
          · rw [hJ, uI_ne (by omega), uI_ne (by omega)]
          · rcases (show w = 0 ∨ w = 1 by omega) with rfl | rfl
            · rw [hJ, uI_ne (by omega), uI_at (by omega), uI_at (by omega)]
            · rw [hJ, uI_ne (by omega), uI_ne (by omega), uI_ne (by omega), uI_ne (by omega)]; exact z0
          · rcases (show w = 0 ∨ w = 1 by omega) with rfl | rfl
            · rw [hJ, uI_at (by omega)]; exact r0 rfl
            · rw [hJ, uI_ne (by omega), uI_ne (by omega)]; exact z1
          · rcases (show w = 0 ∨ w = 1 by omega) with rfl | rfl
            · rw [hJ, uI_ne (by omega), uI_ne (by omega), uI_ne (by omega), uI_ne (by omega)]; exact z2
            · rw [hJ, uI_ne (by omega), uI_at (by omega), uI_at (by omega)]
          · rcases (show w = 0 ∨ w = 1 by omega) with rfl | rfl
            · rw [hJ, uI_ne (by omega), uI_ne (by omega)]; exact z3
            · rw [hJ, uI_at (by omega)]; exact r1 rfl
        · obtain ⟨z0, z1, z2, z3, -⟩ := hQ q' hq'
          have ec : ∀ a, a < 45 → J 0 57 (105 + 45 * q' + a) = I 0 57 (105 + 45 * q' + a) := fun a ha => by rw [hJ, uI_ne (by omega), uI_ne (by omega)]
          have ex : ∀ j, J 0 j q' = I 0 j q' ∨ j = 57 := fun j => by
            by_cases hj : j = 57
            · exact Or.inr hj
            · left; rw [hJ, uI_ne (by omega), uI_ne (by omega)]
          refine sumOK.mod g0 (fun a ha h45 => ec a h45) ?_ ?_ ?_ ?_
          · rw [ec 0 (by omega), (ex (3 + 3)).resolve_right (by omega)]; exact z0
          · rw [ec 0 (by omega)]; exact z1
          · rw [ec 1 (by omega), (ex (3 + 4)).resolve_right (by omega)]; exact z2
          · rw [ec 1 (by omega)]; exact z3
      · intro g j i _ h
        rw [hJ, uI_ne (by omega), uI_ne (by omega)]
    have h7 : 0 ≤ (nI q).toInt ∧ (nI q).toInt ≤ 7 := by rw [nI_toInt (by omega)]; omega
    have k6 : ((Int32.ofNat 8) - 1).toInt = 7 := by decide
    have k7 : ((Int32.ofNat 8) - 1).toInt = 7 := by decide
    have l6 : (shp 0 6).2 = 8 := rfl
    have l7 : (shp 0 7).2 = 8 := rfl
    by_cases e0 : a2 = 0
    · subst e0
      have w0 : 0 ≤ (0 : Int32).toInt ∧ (0 : Int32).toInt ≤ 1 := by decide
      have z64 : ((0 : Int32).toInt64).toInt = 0 := by decide
      by_cases h3 : 0 ≤ a3.toInt ∧ a3.toInt ≤ 6
      · obtain ⟨v, hv, rfl⟩ := nat_of (x := a3) (m := 7) h3.1 (by omega) (by omega)
        have j0 : (uI I 0 6 q (nI v)) 0 57 0 = nI n := by rw [uI_ne (by omega)]; exact c0
        refine ⟨I 0 57 (105 + 45 * q + 0), uI I 0 6 q (nI v), uI (uI I 0 (6 + 0) q (nI v)) 0 57 (105 + 45 * q + 0) (nI v), t1, t2, k, ?_, ?_, hsum 0 (nI v) (by omega) (fun _ => ⟨v, by omega, by omega, rfl⟩) (fun z => by omega) _ rfl, by omega⟩
        · have g : I 0 6 q = I 0 57 (105 + 45 * q + 0) := (hQ q hq).1
          simp (disch := omega) only [bnd, bnd0, ↓cdec, ↓cnot, ↓reduceIte, Bo_0, Bo_1, ↓Bo_ok, i10, i01, eq_self, decide_true, decide_false, Bool.or_true, Bool.true_or, Bool.or_false, Bool.false_or, cond_true, cond_false, not_true_eq_false, not_false_eq_true, and_self, and_true, true_and, and_false, false_and, nI_clamp, ↓inbc, inb_n, nI_pos, nI_1, b7_5_0, b7_5_5, b7_5_15, b7_5_19, b7_5_23, b7_5_26, b7_5_41, xI, h1, x_isKind, h3, b7_51_0, b7_51_9, b7_51_12, b7_51_14, x_within, k32_0, k6, h7, l6, g]
        · simp (disch := omega) only [bnd, bnd0, ↓cdec, ↓cnot, ↓reduceIte, Bo_0, Bo_1, ↓Bo_ok, i10, i01, eq_self, decide_true, decide_false, Bool.or_true, Bool.true_or, Bool.or_false, Bool.false_or, cond_true, cond_false, not_true_eq_false, not_false_eq_true, and_self, and_true, true_and, and_false, false_and, nI_clamp, ↓inbc, inb_n, nI_pos, nI_1, b8_27_0, b8_27_5, b8_27_8, b8_27_15, b8_27_18, b8_27_26, b8_27_35, b8_27_38, b8_27_48, mI _ j0, h1, m_in32, k64_0, k64_1, k64_6, w0, z64, h3, m_it0]
          rw [b8_27_54, mul45, add105, show nI (105 + 45 * q) + 0 = nI (105 + 45 * q + 0) from nI_add _ 0, inb_n (by omega) (by omega), cond_true, nI_clamp (by omega), uI_ne (by omega)]
      · refine ⟨-1000001, uI I 0 47 0 (I 0 47 0 + 1), _, t1, t2, k, ?_, ?_, hI.find (f := 0) (by omega), by omega⟩
        · simp (disch := omega) only [bnd, bnd0, ↓cdec, ↓cnot, ↓reduceIte, Bo_0, Bo_1, ↓Bo_ok, i10, i01, eq_self, decide_true, decide_false, Bool.or_true, Bool.true_or, Bool.or_false, Bool.false_or, cond_true, cond_false, not_true_eq_false, not_false_eq_true, and_self, and_true, true_and, and_false, false_and, nI_clamp, ↓inbc, inb_n, nI_pos, nI_1, b7_5_0, b7_5_5, b7_5_15, b7_5_19, b7_5_23, b7_5_42, b7_5_73, b7_5_79, xI, h1, x_isKind, h3, x_f0]
        · have j0 : (uI I 0 47 0 (I 0 47 0 + 1)) 0 57 0 = nI n := by rw [uI_ne (by omega)]; exact c0
          simp (disch := omega) only [bnd, bnd0, ↓cdec, ↓cnot, ↓reduceIte, Bo_0, Bo_1, ↓Bo_ok, i10, i01, eq_self, decide_true, decide_false, Bool.or_true, Bool.true_or, Bool.or_false, Bool.false_or, cond_true, cond_false, not_true_eq_false, not_false_eq_true, and_self, and_true, true_and, and_false, false_and, nI_clamp, ↓inbc, inb_n, nI_pos, nI_1, b8_27_0, b8_27_5, b8_27_8, b8_27_15, b8_27_18, b8_27_26, b8_27_35, b8_27_38, b8_27_41, b8_27_47, mI _ j0, h1, m_in32, k64_0, k64_1, k64_6, w0, z64, h3, m_f0]
    · by_cases e1 : a2 = 1
      · subst e1
        have w0 : 0 ≤ (1 : Int32).toInt ∧ (1 : Int32).toInt ≤ 1 := by decide
        have z64 : ((1 : Int32).toInt64).toInt = 1 := by decide
        by_cases h3 : 1 ≤ a3.toInt ∧ a3.toInt ≤ 99
        · obtain ⟨v, hv, rfl⟩ := nat_of (x := a3) (m := 100) (by omega) (by omega) (by omega)
          have v1 : 1 ≤ v := by have := h3.1; rw [nI_toInt (by omega)] at this; omega
          have j0 : (uI I 0 7 q (nI v)) 0 57 0 = nI n := by rw [uI_ne (by omega)]; exact c0
          refine ⟨I 0 57 (105 + 45 * q + 1), uI I 0 7 q (nI v), uI (uI I 0 (6 + 1) q (nI v)) 0 57 (105 + 45 * q + 1) (nI v), t1, t2, k, ?_, ?_, hsum 1 (nI v) (by omega) (fun z => by omega) (fun _ => ⟨v, by omega, by omega, rfl⟩) _ rfl, by omega⟩
          · have g : I 0 7 q = I 0 57 (105 + 45 * q + 1) := (hQ q hq).2.2.1
            simp (disch := omega) only [bnd, bnd0, ↓cdec, ↓cnot, ↓reduceIte, Bo_0, Bo_1, ↓Bo_ok, i10, i01, eq_self, decide_true, decide_false, Bool.or_true, Bool.true_or, Bool.or_false, Bool.false_or, cond_true, cond_false, not_true_eq_false, not_false_eq_true, and_self, and_true, true_and, and_false, false_and, nI_clamp, ↓inbc, inb_n, nI_pos, nI_1, b7_5_0, b7_5_5, b7_5_15, b7_5_42, b7_5_47, b7_5_54, b7_5_57, b7_5_72, xI, h1, x_within, k32_1, k32_99, h3, b7_51_0, b7_51_9, b7_51_12, b7_51_14, k32_0, k7, h7, l7, g]
          · simp (disch := omega) only [bnd, bnd0, ↓cdec, ↓cnot, ↓reduceIte, Bo_0, Bo_1, ↓Bo_ok, i10, i01, eq_self, decide_true, decide_false, Bool.or_true, Bool.true_or, Bool.or_false, Bool.false_or, cond_true, cond_false, not_true_eq_false, not_false_eq_true, and_self, and_true, true_and, and_false, false_and, nI_clamp, ↓inbc, inb_n, nI_pos, nI_1, b8_27_0, b8_27_5, b8_27_8, b8_27_15, b8_27_18, b8_27_32, b8_27_35, b8_27_38, b8_27_48, mI _ j0, h1, m_in32, k64_0, k64_1, k64_99, w0, z64, h3, m_it1]
            rw [b8_27_54, mul45, add105, show nI (105 + 45 * q) + 1 = nI (105 + 45 * q + 1) from nI_add _ 1, inb_n (by omega) (by omega), cond_true, nI_clamp (by omega), uI_ne (by omega)]
        · refine ⟨-1000001, uI I 0 47 0 (I 0 47 0 + 1), _, t1, t2, k, ?_, ?_, hI.find (f := 0) (by omega), by omega⟩
          · simp (disch := omega) only [bnd, bnd0, ↓cdec, ↓cnot, ↓reduceIte, Bo_0, Bo_1, ↓Bo_ok, i10, i01, eq_self, decide_true, decide_false, Bool.or_true, Bool.true_or, Bool.or_false, Bool.false_or, cond_true, cond_false, not_true_eq_false, not_false_eq_true, and_self, and_true, true_and, and_false, false_and, nI_clamp, ↓inbc, inb_n, nI_pos, nI_1, b7_5_0, b7_5_5, b7_5_15, b7_5_42, b7_5_47, b7_5_54, b7_5_73, b7_5_79, xI, h1, x_within, k32_1, k32_99, h3, x_f0]
          · have j0 : (uI I 0 47 0 (I 0 47 0 + 1)) 0 57 0 = nI n := by rw [uI_ne (by omega)]; exact c0
            simp (disch := omega) only [bnd, bnd0, ↓cdec, ↓cnot, ↓reduceIte, Bo_0, Bo_1, ↓Bo_ok, i10, i01, eq_self, decide_true, decide_false, Bool.or_true, Bool.true_or, Bool.or_false, Bool.false_or, cond_true, cond_false, not_true_eq_false, not_false_eq_true, and_self, and_true, true_and, and_false, false_and, nI_clamp, ↓inbc, inb_n, nI_pos, nI_1, b8_27_0, b8_27_5, b8_27_8, b8_27_15, b8_27_18, b8_27_32, b8_27_35, b8_27_38, b8_27_41, b8_27_47, mI _ j0, h1, m_in32, k64_0, k64_1, k64_99, w0, z64, h3, m_f0]
      · have w0 : ¬ (0 ≤ a2.toInt ∧ a2.toInt ≤ 1) := by
          intro z
          obtain ⟨v, hv, rfl⟩ := nat_of (x := a2) (m := 2) z.1 (by omega) (by omega)
          rcases (show v = 0 ∨ v = 1 by omega) with rfl | rfl
          · exact e0 rfl
          · exact e1 rfl
        refine ⟨-1000001, uI I 0 47 0 (I 0 47 0 + 1), _, t1, t2, k, ?_, ?_, hI.find (f := 0) (by omega), by omega⟩
        · simp (disch := omega) only [bnd, bnd0, ↓cdec, ↓cnot, ↓reduceIte, Bo_0, Bo_1, ↓Bo_ok, i10, i01, eq_self, decide_true, decide_false, Bool.or_true, Bool.true_or, Bool.or_false, Bool.false_or, cond_true, cond_false, not_true_eq_false, not_false_eq_true, and_self, and_true, true_and, and_false, false_and, nI_clamp, ↓inbc, inb_n, nI_pos, nI_1, b7_5_0, b7_5_5, b7_5_15, b7_5_42, b7_5_73, b7_5_79, xI, h1, e0, e1, x_f0]
        · have j0 : (uI I 0 47 0 (I 0 47 0 + 1)) 0 57 0 = nI n := by rw [uI_ne (by omega)]; exact c0
          simp (disch := omega) only [bnd, bnd0, ↓cdec, ↓cnot, ↓reduceIte, Bo_0, Bo_1, ↓Bo_ok, i10, i01, eq_self, decide_true, decide_false, Bool.or_true, Bool.true_or, Bool.or_false, Bool.false_or, cond_true, cond_false, not_true_eq_false, not_false_eq_true, and_self, and_true, true_and, and_false, false_and, nI_clamp, ↓inbc, inb_n, nI_pos, nI_1, b8_27_0, b8_27_5, b8_27_8, b8_27_15, b8_27_41, b8_27_47, mI _ j0, h1, m_in32, k64_0, k64_1, w0, m_f0]
  · refine ⟨-1000001, uI I 0 47 0 (I 0 47 0 + 1), _, t1, t2, k, ?_, ?_, hI.find (f := 0) (by omega), by omega⟩
    · simp (disch := omega) only [bnd, bnd0, ↓cdec, ↓cnot, ↓reduceIte, Bo_0, Bo_1, ↓Bo_ok, i10, i01, eq_self, decide_true, decide_false, Bool.or_true, Bool.true_or, Bool.or_false, Bool.false_or, cond_true, cond_false, not_true_eq_false, not_false_eq_true, and_self, and_true, true_and, and_false, false_and, nI_clamp, ↓inbc, inb_n, nI_pos, nI_1, b7_5_0, b7_5_5, b7_5_8, b7_5_14, xI, h1, x_f0]
    · have j0 : (uI I 0 47 0 (I 0 47 0 + 1)) 0 57 0 = nI n := by rw [uI_ne (by omega)]; exact c0
      simp (disch := omega) only [bnd, bnd0, ↓cdec, ↓cnot, ↓reduceIte, Bo_0, Bo_1, ↓Bo_ok, i10, i01, eq_self, decide_true, decide_false, Bool.or_true, Bool.true_or, Bool.or_false, Bool.false_or, cond_true, cond_false, not_true_eq_false, not_false_eq_true, and_self, and_true, true_and, and_false, false_and, nI_clamp, ↓inbc, inb_n, nI_pos, nI_1, b8_27_0, b8_27_5, b8_27_41, b8_27_47, mI _ j0, h1, m_f0]
