/-! alms, feed -/
theorem lpE2 {α : Type} (X : Nat → IFn → Int32 → α) (P : Nat → IFn → Prop) {N : Nat} (h : ∀ p I x, p < N → P p I → ∃ J y, X p I x = X (p + 1) J y ∧ P (p + 1) J) : ∀ p I x, p ≤ N → P p I → ∃ J y, X p I x = X N J y ∧ P N J := by
  intro p I x hp hP
  induction hn : N - p generalizing p I x with
  | zero => rw [show p = N by omega] at hP ⊢; exact ⟨I, x, rfl, hP⟩
  | succ m ih =>
    obtain ⟨J, y, e, hJ⟩ := h p I x (by omega) hP
    obtain ⟨K, z, e2, hK⟩ := ih (p + 1) J y (by omega) hJ (by omega)
    exact ⟨K, z, e.trans e2, hK⟩
/-- alms -/
theorem ok_14 : op_14 Inv := by
  intro a1 I t1 t2 k sc hI
  by_cases h1 : 1 ≤ a1.toInt ∧ a1.toInt ≤ 10
  · obtain ⟨n, hn, rfl⟩ := nat_of (x := a1) (m := 11) (by omega) (by omega) (by omega)
    have n1 : 1 ≤ n := by have := h1.1; rw [nI_toInt (by omega)] at this; omega
    obtain ⟨γ, hX, hM, hok⟩ := hI.men
    obtain ⟨c, n8, c0, c0', c1, c2, c3, c4, ht, -⟩ := hI.head
    obtain ⟨J1, e1, q1, q2, q3⟩ := lpE (fun p J => den (9 + 1, 7, 15, 19, [some (vr 0 0), some (vi (nI n)), some (vi (nI p))], [], mkH (J) t1 t2 k sc))
      (fun p J => MenX 8 J (alm (I 0 57 4) γ p).2 ∧ J 0 3 3 = (alm (I 0 57 4) γ p).1 ∧ ∀ g j i, ¬ (g = 0 ∧ ((j = 3 ∧ i = 3) ∨ (j = 10 ∧ i < 10))) → J g j i = I g j i) (N := n)
      (by
        intro p J hp ⟨r1, r2, r3⟩
        have hlt : nI p < nI n := nI_lt hp (by omega)
        obtain ⟨g1, g2'⟩ := almR_ok (alm (I 0 57 4) γ p).1
        have g3 : jrem (jushr ((alm (I 0 57 4) γ p).1 * 1103515245 + 12345) 8) 10 = nI (almR (alm (I 0 57 4) γ p).1) := g2'
        have hc : (uI J 0 3 3 ((alm (I 0 57 4) γ p).1 * 1103515245 + 12345)) 0 (8 + 2) (almR (alm (I 0 57 4) γ p).1) = (alm (I 0 57 4) γ p).2 1 (almR (alm (I 0 57 4) γ p).1) := by
          rw [uI_ne (by omega)]; exact r1 1 _ (by omega) g1
        have xg := x_give1 7 (uI J 0 3 3 ((alm (I 0 57 4) γ p).1 * 1103515245 + 12345)) t1 t2 k sc g1 (by rw [hc]; exact (alm_ok (I 0 57 4) hok p _ g1).2.1)
        rw [hc] at xg
        refine ⟨uI (uI J 0 3 3 ((alm (I 0 57 4) γ p).1 * 1103515245 + 12345)) 0 (8 + 2) (almR (alm (I 0 57 4) γ p).1) (capF ((alm (I 0 57 4) γ p).2 1 (almR (alm (I 0 57 4) γ p).1))), ?_, ?_, ?_, ?_⟩
        · rw [b7_15_19]
          simp (disch := omega) only [bnd, bnd0, ↓cdec, ↓cnot, ↓reduceIte, Bo_0, Bo_1, ↓Bo_ok, i10, i01, eq_self, decide_true, decide_false, Bool.or_true, Bool.true_or, Bool.or_false, Bool.false_or, cond_true, cond_false, not_true_eq_false, not_false_eq_true, and_self, and_true, true_and, and_false, false_and, nI_clamp, ↓inbc, inb_n, nI_pos, nI_1, hlt, b7_15_24, b6_2_0, b7_15_38, b7_15_45, r2, uI_at, g3, xg]
        · exact MenX.set (a := 1) (p := almR (alm (I 0 57 4) γ p).1) _ (r1.keep (fun j i _ _ _ => uI_ne (by omega)))
        · rw [uI_ne (by omega), uI_at (by omega)]; rfl
        · intro g j i h
          rw [uI_ne (by omega), uI_ne (by omega)]; exact r3 _ _ _ h) 0 I (by omega) ⟨hX, c4, fun g j i h => rfl⟩
    have mstep : ∀ p J, p < n → MenM J (alm (I 0 57 4) γ p).2 → J 0 57 4 = (alm (I 0 57 4) γ p).1 → ∃ J' x', (∀ l : Option AV, (l = none ∨ ∃ x, l = some (vi x)) → den (9 + 1, 8, 40, 21, [some (vr 0 56), some (vi (nI n)), some (vi (nI p)), l], [], mkH (J) t1 t2 k sc) = den (9 + 1, 8, 40, 21, [some (vr 0 56), some (vi (nI n)), some (vi (nI (p + 1))), some (vi x')], [], mkH (J') t1 t2 k sc)) ∧ MenM J' (alm (I 0 57 4) γ (p + 1)).2 ∧ J' 0 57 4 = (alm (I 0 57 4) γ (p + 1)).1 ∧ ∀ g j i, ¬ (g = 0 ∧ j = 57 ∧ 4 ≤ i ∧ i < 95) → J' g j i = J g j i := by
      intro p J hp r1 r2
      have hlt : nI p < nI n := nI_lt hp (by omega)
      obtain ⟨g1, g2'⟩ := almR_ok (alm (I 0 57 4) γ p).1
      have g3 : jrem (jushr ((alm (I 0 57 4) γ p).1 * 1103515245 + 12345) 8) 10 = nI (almR (alm (I 0 57 4) γ p).1) := g2'
      have hc : (uI J 0 57 4 ((alm (I 0 57 4) γ p).1 * 1103515245 + 12345)) 0 57 (5 + 9 * (almR (alm (I 0 57 4) γ p).1) + 1) = (alm (I 0 57 4) γ p).2 1 (almR (alm (I 0 57 4) γ p).1) := by
        rw [uI_ne (by omega)]; exact r1 1 _ (by omega) g1
      refine ⟨uI (uI J 0 57 4 ((alm (I 0 57 4) γ p).1 * 1103515245 + 12345)) 0 57 (5 + 9 * (almR (alm (I 0 57 4) γ p).1) + 1) (capF ((alm (I 0 57 4) γ p).2 1 (almR (alm (I 0 57 4) γ p).1))), nI (almR (alm (I 0 57 4) γ p).1), fun l hl => ?_, ?_, ?_, ?_⟩
      · have mg := m_give1 9 (uI J 0 57 4 ((alm (I 0 57 4) γ p).1 * 1103515245 + 12345)) t1 t2 k sc g1 (nI n) (nI p)
        rw [hc] at mg
        rcases hl with rfl | ⟨x, rfl⟩
        · rw [b8_40_21]
          simp (disch := omega) only [bnd, bnd0, ↓cdec, ↓cnot, ↓reduceIte, Bo_0, Bo_1, ↓Bo_ok, i10, i01, eq_self, decide_true, decide_false, Bool.or_true, Bool.true_or, Bool.or_false, Bool.false_or, cond_true, cond_false, not_true_eq_false, not_false_eq_true, and_self, and_true, true_and, and_false, false_and, nI_clamp, ↓inbc, inb_n, nI_pos, nI_1, hlt, b8_40_26, b8_40_30, b8_10_0, r2, uI_at, g3, mA_1]
          rw [mg, nI_1]
        · rw [b8_40_21w]
          simp (disch := omega) only [bnd, bnd0, ↓cdec, ↓cnot, ↓reduceIte, Bo_0, Bo_1, ↓Bo_ok, i10, i01, eq_self, decide_true, decide_false, Bool.or_true, Bool.true_or, Bool.or_false, Bool.false_or, cond_true, cond_false, not_true_eq_false, not_false_eq_true, and_self, and_true, true_and, and_false, false_and, nI_clamp, ↓inbc, inb_n, nI_pos, nI_1, hlt, b8_40_26w, b8_40_30w, b8_10_0, r2, uI_at, g3, mA_1]
          rw [mg, nI_1]
      · exact MenM.set (a := 1) (p := almR (alm (I 0 57 4) γ p).1) _ (by omega) (r1.keep (fun i _ _ => uI_ne (by omega)))
      · rw [uI_ne (by omega), uI_at (by omega)]; rfl
      · intro g j i h
        rw [uI_ne (by omega), uI_ne (by omega)]
    have hM1 : MenM J1 γ := hM.keep (fun i _ _ => q3 _ _ _ (by omega))
    have z1 : J1 0 57 4 = I 0 57 4 := q3 _ _ _ (by omega)
    obtain ⟨K, y, s1, s2, s3, s4⟩ := mstep 0 J1 (by omega) hM1 z1
    obtain ⟨J2, x2, e2, p1, p2, p3⟩ := lpE2 (fun p J x => den (9 + 1, 8, 40, 21, [some (vr 0 56), some (vi (nI n)), some (vi (nI p)), some (vi x)], [], mkH (J) t1 t2 k sc))
      (fun p J => MenM J (alm (I 0 57 4) γ p).2 ∧ J 0 57 4 = (alm (I 0 57 4) γ p).1 ∧ ∀ g j i, ¬ (g = 0 ∧ j = 57 ∧ 4 ≤ i ∧ i < 95) → J g j i = J1 g j i) (N := n)
      (by
        intro p J x hp ⟨r1, r2, r3⟩
        obtain ⟨J', x', w1, w2, w3, w4⟩ := mstep p J hp r1 r2
        exact ⟨J', x', w1 _ (Or.inr ⟨x, rfl⟩), w2, w3, fun g j i h => (w4 g j i h).trans (r3 g j i h)⟩) 1 K y n1 ⟨s2, s3, s4⟩
    have hge : ¬ nI n < nI n := nI_nlt (Nat.le_refl _) (by omega)
    have hX2 : MenX 8 J2 (alm (I 0 57 4) γ n).2 := q1.keep (fun j p _ _ _ => p3 _ _ _ (by omega))
    refine ⟨sF (fun p => (alm (I 0 57 4) γ n).2 1 p) 10, J1, J2, t1, t2, k, ?_, ?_, ?_, by omega⟩
    · have es : sF (fun p => J1 0 (8 + 2) p) 10 = sF (fun p => (alm (I 0 57 4) γ n).2 1 p) 10 := sF_congr (fun p hp => q1 1 p (by omega) hp)
      simp (disch := omega) only [bnd, bnd0, ↓cdec, ↓cnot, ↓reduceIte, Bo_0, Bo_1, ↓Bo_ok, i10, i01, eq_self, decide_true, decide_false, Bool.or_true, Bool.true_or, Bool.or_false, Bool.false_or, cond_true, cond_false, not_true_eq_false, not_false_eq_true, and_self, and_true, true_and, and_false, false_and, nI_clamp, ↓inbc, inb_n, nI_pos, nI_1, b7_15_0, b7_15_7, b7_15_17, x_within, k32_1, k32_10, h1]
      refine Eq.trans e1 ?_
      rw [b7_15_19]
      simp (disch := omega) only [bnd, bnd0, ↓cdec, ↓cnot, ↓reduceIte, Bo_0, Bo_1, ↓Bo_ok, i10, i01, eq_self, decide_true, decide_false, Bool.or_true, Bool.true_or, Bool.or_false, Bool.false_or, cond_true, cond_false, not_true_eq_false, not_false_eq_true, and_self, and_true, true_and, and_false, false_and, nI_clamp, ↓inbc, inb_n, nI_pos, nI_1, hge, b7_15_51, b7_15_61, x_allChalk, es]
    · have es : sF (fun p => J2 0 57 (5 + 9 * p + 1)) 10 = sF (fun p => (alm (I 0 57 4) γ n).2 1 p) 10 := sF_congr (fun p hp => p1 1 p (by omega) hp)
      simp (disch := omega) only [bnd, bnd0, ↓cdec, ↓cnot, ↓reduceIte, Bo_0, Bo_1, ↓Bo_ok, i10, i01, eq_self, decide_true, decide_false, Bool.or_true, Bool.true_or, Bool.or_false, Bool.false_or, cond_true, cond_false, not_true_eq_false, not_false_eq_true, and_self, and_true, true_and, and_false, false_and, nI_clamp, ↓inbc, inb_n, nI_pos, nI_1, b8_40_0, b8_40_9, b8_40_19, m_in32, k64_1, k64_10, h1]
      refine Eq.trans (s1 none (Or.inl rfl)) (Eq.trans e2 ?_)
      rw [b8_40_21w]
      simp (disch := omega) only [bnd, bnd0, ↓cdec, ↓cnot, ↓reduceIte, Bo_0, Bo_1, ↓Bo_ok, i10, i01, eq_self, decide_true, decide_false, Bool.or_true, Bool.true_or, Bool.or_false, Bool.false_or, cond_true, cond_false, not_true_eq_false, not_false_eq_true, and_self, and_true, true_and, and_false, false_and, nI_clamp, ↓inbc, inb_n, nI_pos, nI_1, hge, b8_40_74w, b8_40_78w, m_chalks, es]
    · refine hI.gaol _ (fun a p ha hp => hX2 a p ha hp) p1 (alm_ok (I 0 57 4) hok n) ?_ ?_ ?_ ?_ ?_ ?_ ?_ ?_
      · rw [p3 _ _ _ (by omega), q3 _ _ _ (by omega), p3 _ _ _ (by omega), q3 _ _ _ (by omega)]; exact c1.1
      · intro m m8 hm
        rw [c0, nI_eq (by omega) (by omega)] at hm
        rw [p3 _ _ _ (by omega), q3 _ _ _ (by omega), ← hm]; exact c1.2
      · rw [p3 _ _ _ (by omega), q3 _ _ _ (by omega), p3 _ _ _ (by omega), q3 _ _ _ (by omega)]; exact c2.1
      · rw [p3 _ _ _ (by omega), q3 _ _ _ (by omega)]; exact c2.2
      · rw [p3 _ _ _ (by omega), q3 _ _ _ (by omega), p3 _ _ _ (by omega), q3 _ _ _ (by omega)]; exact c3.1
      · rw [p3 _ _ _ (by omega), q3 _ _ _ (by omega)]; exact c3.2
      · rw [p3 _ _ _ (by omega), q2]; exact p2.symm
      · intro g j i hc
        unfold Gc at hc
        rw [p3 _ _ _ (by omega), q3 _ _ _ (by omega)]
  · refine ⟨-1000001, uI I 0 47 0 (I 0 47 0 + 1), _, t1, t2, k, ?_, ?_, hI.find (f := 0) (by omega), by omega⟩
    · simp (disch := omega) only [bnd, bnd0, ↓cdec, ↓cnot, ↓reduceIte, Bo_0, Bo_1, ↓Bo_ok, i10, i01, eq_self, decide_true, decide_false, Bool.or_true, Bool.true_or, Bool.or_false, Bool.false_or, cond_true, cond_false, not_true_eq_false, not_false_eq_true, and_self, and_true, true_and, and_false, false_and, nI_clamp, ↓inbc, inb_n, nI_pos, nI_1, b7_15_0, b7_15_7, b7_15_10, b7_15_16, x_within, k32_1, k32_10, h1, x_f0]
    · simp (disch := omega) only [bnd, bnd0, ↓cdec, ↓cnot, ↓reduceIte, Bo_0, Bo_1, ↓Bo_ok, i10, i01, eq_self, decide_true, decide_false, Bool.or_true, Bool.true_or, Bool.or_false, Bool.false_or, cond_true, cond_false, not_true_eq_false, not_false_eq_true, and_self, and_true, true_and, and_false, false_and, nI_clamp, ↓inbc, inb_n, nI_pos, nI_1, b8_40_0, b8_40_9, b8_40_12, b8_40_18, m_in32, k64_1, k64_10, h1, m_f0]
/-! feed -/
theorem byte_eq (x : Int32) {m : Nat} (hm : m < 4) : (jushr x (8 * nI m)) &&& 255 = (x >>> ((8 * nI m) &&& 31)) &&& 255 := by
  apply i32_ext
  intro i hi
  rw [Int32.toBitVec_and, Int32.toBitVec_and, BitVec.getLsbD_and, BitVec.getLsbD_and]
  by_cases h8 : i < 8
  · have e1 : (jushr x (8 * nI m)).toBitVec = x.toBitVec >>> (8 * m) := by
      rcases (show m = 0 ∨ m = 1 ∨ m = 2 ∨ m = 3 by omega) with rfl | rfl | rfl | rfl <;> rfl
    have e2 : (x >>> ((8 * nI m) &&& 31)).toBitVec = x.toBitVec.sshiftRight (8 * m) := by
      rcases (show m = 0 ∨ m = 1 ∨ m = 2 ∨ m = 3 by omega) with rfl | rfl | rfl | rfl <;> rfl
    rw [e1, e2, BitVec.getLsbD_ushiftRight, BitVec.getLsbD_sshiftRight]
    simp [show ¬ 32 ≤ i by omega, show 8 * m + i < 32 by omega]
  · have : ∀ i, i < 32 → 8 ≤ i → (255 : Int32).toBitVec.getLsbD i = false := by decide
    rw [this i hi (by omega), Bool.and_false, Bool.and_false]
theorem byte_rng (x : Int32) : rng 0 255 (x &&& 255) := ⟨x.toBitVec.toNat % 2 ^ 8, by omega, by omega, pk_and x 8 (by decide)⟩
theorem Inv.tapes {I J : IFn} {t1 t2 : TFn} {k : Nat} (v : Inv I t1 t2 k) (hT : TapeOK J) (hfr : ∀ g j i, ¬ Gb g j i → ¬ (g = 0 ∧ (j = 1 ∨ j = 2 ∨ j = 61 ∨ (j = 56 ∧ i = 8))) → J g j i = I g j i) : Inv J t1 t2 k := by
  obtain ⟨hTo, -, hSh, hW, hK⟩ := v
  have fr : ∀ j i, ¬ ((j = 0 ∧ i ≠ 7) ∨ j = 1 ∨ j = 2 ∨ ((j = 8 ∨ j = 24) ∧ i = 12) ∨ (35 ≤ j ∧ j ≤ 46) ∨ (j = 56 ∧ i ≠ 4) ∨ j = 59 ∨ (61 ≤ j ∧ j ≤ 66) ∨ 70 ≤ j) → J 0 j i = I 0 j i := fun j i q => hfr 0 j i (by unfold Gb; omega) (by omega)
  have hTS : TextsSame I J k := fun e _ j i q1 q2 q3 q4 => hfr _ _ _ (by unfold Gb; omega) (by omega)
  exact ⟨hTo.congr (fun i _ => fr _ _ (by omega)) (fun i _ => fr _ _ (by omega)), hT, fun s hs => (hSh s hs).congr hs (fun j i _ _ => fr _ _ (by omega)) (fun j i _ _ => fr _ _ (by omega)), hW.congr hTS (fun j i _ _ _ => fr _ _ (by omega)) (fun i _ => fr _ _ (by omega)), hK.congr2 hTS (fr _ _ (by omega)) (fr _ _ (by omega)) (fun j i _ _ _ => fr _ _ (by omega)) (fun i _ => fr _ _ (by omega))⟩
theorem m1_eq (x : Int32) : x + (-1) = x - 1 := (Int32.sub_eq_add_neg x 1).symm
/-- feed -/
theorem ok_0 : op_0 Inv := by
  intro a1 a2 I t1 t2 k sc hI
  by_cases h1 : 1 ≤ a2.toInt ∧ a2.toInt ≤ 4
  · obtain ⟨n, hn, rfl⟩ := nat_of (x := a2) (m := 5) (by omega) (by omega) (by omega)
    obtain ⟨L, b0, b1, b2, b3⟩ := hI.2.1
    by_cases hf : 40 < L + n
    · refine ⟨-1000002, uI I 0 47 1 (I 0 47 1 + 1), _, t1, t2, k, ?_, ?_, hI.find (f := 1) (by omega), by omega⟩
      · simp (disch := omega) only [bnd, bnd0, ↓cdec, ↓cnot, ↓reduceIte, Bo_0, Bo_1, ↓Bo_ok, i10, i01, eq_self, decide_true, decide_false, Bool.or_true, Bool.true_or, Bool.or_false, Bool.false_or, cond_true, cond_false, not_true_eq_false, not_false_eq_true, and_self, and_true, true_and, and_false, false_and, nI_clamp, ↓inbc, inb_n, nI_pos, nI_1, b7_1_0, b7_1_6, b7_1_16, b7_1_30, b7_1_36, x_within, k32_1, k32_4, h1, b1, nI_add, gt_40, hf, x_f1]
      · simp (disch := omega) only [bnd, bnd0, ↓cdec, ↓cnot, ↓reduceIte, Bo_0, Bo_1, ↓Bo_ok, i10, i01, eq_self, decide_true, decide_false, Bool.or_true, Bool.true_or, Bool.or_false, Bool.false_or, cond_true, cond_false, not_true_eq_false, not_false_eq_true, and_self, and_true, true_and, and_false, false_and, nI_clamp, ↓inbc, inb_n, nI_pos, nI_1, b8_11_0, b8_11_9, b8_11_19, b8_11_30, b8_11_36, m_in32, k64_1, k64_4, h1, uI_ne, b2, nI_add, gt_40, hf, m_f1]
    · obtain ⟨J1, e1, q1, q2, q3⟩ := lpE (fun p J => den (9 + 1, 7, 1, 41, [some (vr 0 0), some (vi a1), some (vi (nI n)), some (vi (nI (n - p) - 1))], [], mkH (J) t1 t2 k sc))
        (fun p J => J 0 1 1 = nI (L + p) ∧ (∀ i, i < p → J 0 2 (L + i) = (jushr a1 (8 * nI (n - 1 - i))) &&& 255) ∧ ∀ g j i, ¬ (g = 0 ∧ ((j = 1 ∧ i = 1) ∨ (j = 2 ∧ L ≤ i))) → J g j i = I g j i) (N := n)
        (by
          intro p J hp ⟨r1, r2, r3⟩
          have e : nI (n - p) - 1 = nI (n - 1 - p) := by rw [show n - p = n - 1 - p + 1 by omega, nI_pred]
          have e' : nI (n - (p + 1)) = nI (n - 1 - p) := by rw [show n - (p + 1) = n - 1 - p by omega]
          have l40 : L + p < 40 := by omega
          refine ⟨uI (uI J 0 2 (L + p) ((jushr a1 (8 * nI (n - 1 - p))) &&& 255)) 0 1 1 (nI (L + p + 1)), ?_, ?_, fun i hi => ?_, fun g j i h => ?_⟩
          · rw [b7_1_41, e, e']
            simp (disch := omega) only [bnd, bnd0, ↓cdec, ↓cnot, ↓reduceIte, Bo_0, Bo_1, ↓Bo_ok, i10, i01, eq_self, decide_true, decide_false, Bool.or_true, Bool.true_or, Bool.or_false, Bool.false_or, cond_true, cond_false, not_true_eq_false, not_false_eq_true, and_self, and_true, true_and, and_false, false_and, nI_clamp, ↓inbc, inb_n, nI_pos, nI_1, b7_1_45, b7_1_62, b4_1_0, b4_1_7, b4_1_19, b4_1_39, r1, uI_ne, lt_40, l40, m1_eq]
          · exact uI_at (by omega)
          · rw [uI_ne (by omega)]
            by_cases ei : i = p
            · subst ei; exact uI_at (by omega)
            · rw [uI_ne (by omega)]; exact r2 i (by omega)
          · rw [uI_ne (by omega), uI_ne (by omega)]; exact r3 _ _ _ h) 0 I (by omega) ⟨b1, fun i hi => by omega, fun g j i h => rfl⟩
      obtain ⟨J2, e2, p1, p2, p3⟩ := lpE (fun p J => den (9 + 1, 8, 11, 41, [some (vr 0 56), some (vi a1), some (vi (nI n)), some (vi (nI (n - p) - 1))], [], mkH (J) t1 t2 k sc))
        (fun p J => J 0 56 8 = nI (L + p) ∧ (∀ i, i < p → J 0 61 (L + i) = (jushr a1 (8 * nI (n - 1 - i))) &&& 255) ∧ ∀ g j i, ¬ (g = 0 ∧ ((j = 56 ∧ i = 8) ∨ (j = 61 ∧ L ≤ i))) → J g j i = J1 g j i) (N := n)
        (by
          intro p J hp ⟨r1, r2, r3⟩
          have e : nI (n - p) - 1 = nI (n - 1 - p) := by rw [show n - p = n - 1 - p + 1 by omega, nI_pred]
          have e' : nI (n - (p + 1)) = nI (n - 1 - p) := by rw [show n - (p + 1) = n - 1 - p by omega]
          refine ⟨uI (uI J 0 61 (L + p) ((jushr a1 (8 * nI (n - 1 - p))) &&& 255)) 0 56 8 (nI (L + p + 1)), ?_, ?_, fun i hi => ?_, fun g j i h => ?_⟩
          · rw [b8_11_41, e, e', byte_eq a1 (show n - 1 - p < 4 by omega)]
            simp (disch := omega) only [bnd, bnd0, ↓cdec, ↓cnot, ↓reduceIte, Bo_0, Bo_1, ↓Bo_ok, i10, i01, eq_self, decide_true, decide_false, Bool.or_true, Bool.true_or, Bool.or_false, Bool.false_or, cond_true, cond_false, not_true_eq_false, not_false_eq_true, and_self, and_true, true_and, and_false, false_and, nI_clamp, ↓inbc, inb_n, nI_pos, nI_1, b8_11_45, r1, uI_ne, m1_eq]
          · exact uI_at (by omega)
          · rw [uI_ne (by omega)]
            by_cases ei : i = p
            · subst ei; exact uI_at (by omega)
            · rw [uI_ne (by omega)]; exact r2 i (by omega)
          · rw [uI_ne (by omega), uI_ne (by omega)]; exact r3 _ _ _ h) 0 J1 (by omega) ⟨by rw [q3 _ _ _ (by omega)]; exact b2, fun i hi => by omega, fun g j i h => rfl⟩
      have hz : nI (n - n) - 1 < 0 := by rw [Nat.sub_self]; decide
      refine ⟨nI (L + n), J1, J2, t1, t2, k, ?_, ?_, hI.tapes ?_ ?_, by omega⟩
      · simp (disch := omega) only [bnd, bnd0, ↓cdec, ↓cnot, ↓reduceIte, Bo_0, Bo_1, ↓Bo_ok, i10, i01, eq_self, decide_true, decide_false, Bool.or_true, Bool.true_or, Bool.or_false, Bool.false_or, cond_true, cond_false, not_true_eq_false, not_false_eq_true, and_self, and_true, true_and, and_false, false_and, nI_clamp, ↓inbc, inb_n, nI_pos, nI_1, b7_1_0, b7_1_6, b7_1_16, b7_1_37, x_within, k32_1, k32_4, h1, b1, nI_add, gt_40, hf]
        refine Eq.trans e1 ?_
        rw [b7_1_41]
        simp (disch := omega) only [bnd, bnd0, ↓cdec, ↓cnot, ↓reduceIte, Bo_0, Bo_1, ↓Bo_ok, i10, i01, eq_self, decide_true, decide_false, Bool.or_true, Bool.true_or, Bool.or_false, Bool.false_or, cond_true, cond_false, not_true_eq_false, not_false_eq_true, and_self, and_true, true_and, and_false, false_and, nI_clamp, ↓inbc, inb_n, nI_pos, nI_1, hz, b7_1_68, q1]
      · have j8 : J1 0 56 8 = nI L := by rw [q3 _ _ _ (by omega)]; exact b2
        simp (disch := omega) only [bnd, bnd0, ↓cdec, ↓cnot, ↓reduceIte, Bo_0, Bo_1, ↓Bo_ok, i10, i01, eq_self, decide_true, decide_false, Bool.or_true, Bool.true_or, Bool.or_false, Bool.false_or, cond_true, cond_false, not_true_eq_false, not_false_eq_true, and_self, and_true, true_and, and_false, false_and, nI_clamp, ↓inbc, inb_n, nI_pos, nI_1, b8_11_0, b8_11_9, b8_11_19, b8_11_37, m_in32, k64_1, k64_4, h1, j8, nI_add, gt_40, hf]
        refine Eq.trans e2 ?_
        rw [b8_11_41]
        simp (disch := omega) only [bnd, bnd0, ↓cdec, ↓cnot, ↓reduceIte, Bo_0, Bo_1, ↓Bo_ok, i10, i01, eq_self, decide_true, decide_false, Bool.or_true, Bool.true_or, Bool.or_false, Bool.false_or, cond_true, cond_false, not_true_eq_false, not_false_eq_true, and_self, and_true, true_and, and_false, false_and, nI_clamp, ↓inbc, inb_n, nI_pos, nI_1, hz, b8_11_80, p1]
      · refine ⟨L + n, by omega, ?_, p1, fun i hi => ?_⟩
        · rw [p3 _ _ _ (by omega)]; exact q1
        · by_cases hl : i < L
          · rw [p3 0 2 i (by omega), q3 0 2 i (by omega), p3 0 61 i (by omega), q3 0 61 i (by omega)]; exact b3 i hl
          · have g1 := q2 (i - L) (by omega)
            have g2' := p2 (i - L) (by omega)
            rw [show L + (i - L) = i by omega] at g1 g2'
            rw [p3 0 2 i (by omega), g1, g2']
            exact ⟨rfl, byte_rng _⟩
      · intro g j i hg h
        unfold Gb at hg
        rw [p3 _ _ _ (by omega), q3 _ _ _ (by omega)]
  · refine ⟨-1000001, uI I 0 47 0 (I 0 47 0 + 1), _, t1, t2, k, ?_, ?_, hI.find (f := 0) (by omega), by omega⟩
    · simp (disch := omega) only [bnd, bnd0, ↓cdec, ↓cnot, ↓reduceIte, Bo_0, Bo_1, ↓Bo_ok, i10, i01, eq_self, decide_true, decide_false, Bool.or_true, Bool.true_or, Bool.or_false, Bool.false_or, cond_true, cond_false, not_true_eq_false, not_false_eq_true, and_self, and_true, true_and, and_false, false_and, nI_clamp, ↓inbc, inb_n, nI_pos, nI_1, b7_1_0, b7_1_6, b7_1_9, b7_1_15, x_within, k32_1, k32_4, h1, x_f0]
    · simp (disch := omega) only [bnd, bnd0, ↓cdec, ↓cnot, ↓reduceIte, Bo_0, Bo_1, ↓Bo_ok, i10, i01, eq_self, decide_true, decide_false, Bool.or_true, Bool.true_or, Bool.or_false, Bool.false_or, cond_true, cond_false, not_true_eq_false, not_false_eq_true, and_self, and_true, true_and, and_false, false_and, nI_clamp, ↓inbc, inb_n, nI_pos, nI_1, b8_11_0, b8_11_9, b8_11_12, b8_11_18, m_in32, k64_1, k64_4, h1, m_f0]
