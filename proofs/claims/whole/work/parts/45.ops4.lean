/-! out, day, set, count, status, prisoner -/
theorem rng01 {x : Int32} (h : rng 0 1 x) : (!decide (x < 1)) = decide (x = 1) := by
  obtain ⟨n, -, h1, rfl⟩ := h
  rcases (show n = 0 ∨ n = 1 by omega) with rfl | rfl <;> decide
theorem out_eq {I : IFn} {γ : Nat → Nat → Int32} (hX : MenX 8 I γ) (hM : MenM I γ) (hok : ∀ p, p < 10 → manOK (fun a => γ a p)) : fS (fun p => !decide (I 0 (8 + 9) p < 1)) 10 = fS (fun p => decide (I 0 57 (5 + 9 * p + 8) = 1)) 10 := by
  apply fS_congr
  intro p hp
  have e1 : I 0 (8 + 9) p = γ 8 p := hX 8 p (by omega) hp
  rw [e1, hM 8 p (by omega) hp]
  exact rng01 (hok p hp).2.2.2.2.2.2.2.2
theorem may_eq {I : IFn} {γ : Nat → Nat → Int32} (hX : MenX 8 I γ) (hM : MenM I γ) (hok : ∀ p, p < 10 → manOK (fun a => γ a p)) : fS (fun p => !decide (I 0 (8 + 5) p < 1)) 10 = fS (fun p => decide (I 0 57 (5 + 9 * p + 4) = 1)) 10 := by
  apply fS_congr
  intro p hp
  have e1 : I 0 (8 + 5) p = γ 4 p := hX 4 p (by omega) hp
  rw [e1, hM 4 p (by omega) hp]
  exact rng01 (hok p hp).2.2.2.2.1
theorem chalk_eq {I : IFn} {γ : Nat → Nat → Int32} (hX : MenX 8 I γ) (hM : MenM I γ) : sF (fun p => I 0 (8 + 2) p) 10 = sF (fun p => I 0 57 (5 + 9 * p + 1)) 10 := by
  apply sF_congr
  intro p hp
  have e1 : I 0 (8 + 2) p = γ 1 p := hX 1 p (by omega) hp
  rw [e1, hM 1 p (by omega) hp]
/-- out -/
theorem ok_17 : op_17 Inv := by
  intro I t1 t2 k sc hI
  obtain ⟨γ, hX, hM, hok⟩ := hI.men
  refine ⟨fS (fun p => decide (I 0 57 (5 + 9 * p + 8) = 1)) 10, I, I, t1, t2, k, ?_, ?_, hI, by omega⟩
  · rw [← out_eq hX hM hok]
    simp (disch := omega) only [bnd, bnd0, ↓cdec, ↓cnot, ↓reduceIte, Bo_0, Bo_1, ↓Bo_ok, i10, i01, eq_self, decide_true, decide_false, Bool.or_true, Bool.true_or, Bool.or_false, Bool.false_or, cond_true, cond_false, not_true_eq_false, not_false_eq_true, and_self, and_true, true_and, and_false, false_and, nI_clamp, ↓inbc, inb_n, nI_pos, nI_1, b7_18_0, b7_18_10, x_outSet]
  · simp (disch := omega) only [bnd, bnd0, ↓cdec, ↓cnot, ↓reduceIte, Bo_0, Bo_1, ↓Bo_ok, i10, i01, eq_self, decide_true, decide_false, Bool.or_true, Bool.true_or, Bool.or_false, Bool.false_or, cond_true, cond_false, not_true_eq_false, not_false_eq_true, and_self, and_true, true_and, and_false, false_and, nI_clamp, ↓inbc, inb_n, nI_pos, nI_1, b8_50_0, b8_50_4, m_outs]
/-- a new day -/
def fl (I : IFn) (q : Nat) (v : Int32) : IFn := uA I 0 q (fil v 10 (I 0 q))
theorem fl_at {I : IFn} {q j i : Nat} {v : Int32} (h : j = q ∧ i < 10) : fl I q v 0 j i = v := by
  rw [fl, uA_at ⟨rfl, h.1⟩, fil, if_pos h.2]
theorem fl_ne {I : IFn} {q g j i : Nat} {v : Int32} (h : ¬ (g = 0 ∧ j = q ∧ i < 10)) : fl I q v g j i = I g j i := by
  by_cases h2 : g = 0 ∧ j = q
  · obtain ⟨rfl, rfl⟩ := h2
    rw [fl, uA_at ⟨rfl, rfl⟩, fil, if_neg (by omega)]
  · rw [fl, uA_ne h2]
def dG (γ : Nat → Nat → Int32) : Nat → Nat → Int32 := fun a p => if a = 6 then -1 else if 5 ≤ a then 0 else γ a p
theorem dG_6 {γ : Nat → Nat → Int32} {a p : Nat} (h : a = 6) : dG γ a p = -1 := if_pos h
theorem dG_0 {γ : Nat → Nat → Int32} {a p : Nat} (h : a ≠ 6 ∧ 5 ≤ a) : dG γ a p = 0 := by rw [dG, if_neg h.1, if_pos h.2]
theorem dG_n {γ : Nat → Nat → Int32} {a p : Nat} (h : a < 5) : dG γ a p = γ a p := by rw [dG, if_neg (by omega), if_neg (by omega)]
theorem dG_ok {γ : Nat → Nat → Int32} (hok : ∀ p, p < 10 → manOK (fun a => γ a p)) : ∀ p, p < 10 → manOK (fun a => dG γ a p) := by
  intro p hp
  obtain ⟨h0, h1, h2, h3, h4, -⟩ := hok p hp
  have z : rng 0 99 0 ∧ rng 0 100 0 ∧ rng 0 60 0 ∧ rng 0 1 0 := ⟨⟨0, by omega, by omega, rfl⟩, ⟨0, by omega, by omega, rfl⟩, ⟨0, by omega, by omega, rfl⟩, ⟨0, by omega, by omega, rfl⟩⟩
  exact ⟨h0, h1, h2, h3, h4, z.1, Or.inl rfl, ⟨z.2.1, fun _ => z.2.2.1⟩, z.2.2.2⟩
section
variable (d : Nat) (I : IFn) (t1 t2 : TFn) (k : Nat) (sc : Nat × (Nat → Int32))
theorem x_flG {g a : Nat} (hg : g = 8 ∨ g = 24 ∨ g = 35) (ha : a = 6 ∨ a = 7 ∨ a = 8 ∨ a = 9) (v : Int32) : den (d, 12, 0, 0, [some (vr 0 (g + a)), some (vi v), none, none], [], mkH I t1 t2 k sc) = some (none, mkH (fl I (g + a) v) t1 t2 k sc) := by
  refine x_fill d I t1 t2 k sc (n := 10) (by omega) ?_ (by omega) v
  rcases hg with rfl | rfl | rfl <;> rcases ha with rfl | rfl | rfl | rfl <;> rfl
theorem x_beginDay {g : Nat} (hg : g = 8 ∨ g = 24 ∨ g = 35) (x : Int32) : ∃ J, den (d + 1, 0, 3, 0, [some (vr 0 g), some (vi x)], [], mkH I t1 t2 k sc) = some (none, mkH (J) t1 t2 k sc) ∧ J 0 g 9 = x ∧ J 0 g 11 = 0 ∧ (∀ γ, MenX g I γ → MenX g J (dG γ)) ∧ ∀ g' j i, ¬ (g' = 0 ∧ ((j = g ∧ (i = 9 ∨ i = 11)) ∨ (g + 6 ≤ j ∧ j ≤ g + 9))) → J g' j i = I g' j i := by
  refine ⟨fl (fl (fl (fl (uI (uI I 0 g 9 x) 0 g 11 0) (g + 6) 0) (g + 8) 0) (g + 7) (-1)) (g + 9) 0, ?_, ?_, ?_, ?_, ?_⟩
  · simp (disch := omega) only [bnd, bnd0, ↓cdec, ↓cnot, ↓reduceIte, Bo_0, Bo_1, ↓Bo_ok, i10, i01, eq_self, decide_true, decide_false, Bool.or_true, Bool.true_or, Bool.or_false, Bool.false_or, cond_true, cond_false, not_true_eq_false, not_false_eq_true, and_self, and_true, true_and, and_false, false_and, nI_clamp, ↓inbc, inb_n, nI_pos, nI_1, b0_3_0, b0_3_18, b0_3_26, b0_3_34, b0_3_42, x_flG]
  · rw [fl_ne (by omega), fl_ne (by omega), fl_ne (by omega), fl_ne (by omega), uI_ne (by omega), uI_at (by omega)]
  · rw [fl_ne (by omega), fl_ne (by omega), fl_ne (by omega), fl_ne (by omega), uI_at (by omega)]
  · intro γ hγ a p ha hp
    by_cases h5 : a < 5
    · rw [dG_n h5, fl_ne (by omega), fl_ne (by omega), fl_ne (by omega), fl_ne (by omega), uI_ne (by omega), uI_ne (by omega)]
      exact hγ a p ha hp
    · by_cases h6 : a = 6
      · rw [dG_6 h6, fl_ne (by omega), fl_at (by omega)]
      · rw [dG_0 (by omega)]
        rcases (show a = 5 ∨ a = 7 ∨ a = 8 by omega) with rfl | rfl | rfl
        · rw [fl_ne (by omega), fl_ne (by omega), fl_ne (by omega), fl_at (by omega)]
        · rw [fl_ne (by omega), fl_ne (by omega), fl_at (by omega)]
        · rw [fl_at (by omega)]
  · intro g' j i h
    rw [fl_ne (by omega), fl_ne (by omega), fl_ne (by omega), fl_ne (by omega), uI_ne (by omega), uI_ne (by omega)]
theorem m_newDay : ∃ J, den (d + 1, 8, 36, 0, [some (vr 0 56), none], [], mkH I t1 t2 k sc) = some (none, mkH (J) t1 t2 k sc) ∧ J 0 57 2 = 0 ∧ (∀ γ, MenM I γ → MenM J (dG γ)) ∧ ∀ g' j i, ¬ (g' = 0 ∧ j = 57 ∧ (i = 2 ∨ (5 ≤ i ∧ i < 95))) → J g' j i = I g' j i := by
  obtain ⟨J, e, h2, hγ, hfr⟩ := lpE (fun p J => den (d + 1, 8, 36, 9, [some (vr 0 56), some (vi (nI p))], [], mkH (J) t1 t2 k sc))
    (fun p J => J 0 57 2 = 0 ∧ (∀ γ, MenM I γ → ∀ a q, a < 9 → q < 10 → J 0 57 (5 + 9 * q + a) = if q < p then dG γ a q else γ a q) ∧ ∀ g' j i, ¬ (g' = 0 ∧ j = 57 ∧ (i = 2 ∨ (5 ≤ i ∧ i < 95))) → J g' j i = I g' j i) (N := 10)
    (by
      intro p J hp hP
      obtain ⟨h2, hγ, hfr⟩ := hP
      refine ⟨uI (uI (uI (uI J 0 57 (5 + 9 * p + 5) 0) 0 57 (5 + 9 * p + 7) 0) 0 57 (5 + 9 * p + 6) (-1)) 0 57 (5 + 9 * p + 8) 0, ?_, ?_, ?_, ?_⟩
      · rw [b8_36_9]
        simp (disch := omega) only [bnd, bnd0, ↓cdec, ↓cnot, ↓reduceIte, Bo_0, Bo_1, ↓Bo_ok, i10, i01, eq_self, decide_true, decide_false, Bool.or_true, Bool.true_or, Bool.or_false, Bool.false_or, cond_true, cond_false, not_true_eq_false, not_false_eq_true, and_self, and_true, true_and, and_false, false_and, nI_clamp, ↓inbc, inb_n, nI_pos, nI_1, lt_10, hp, b8_36_15, b8_36_24, b8_36_36, b8_36_48, b8_36_60, b8_36_68, mA_5, mA_6, mA_7, mA_8]
      · rw [uI_ne (by omega), uI_ne (by omega), uI_ne (by omega), uI_ne (by omega)]; exact h2
      · intro γ hg a q ha hq
        by_cases hqp : q = p
        · subst hqp
          rw [if_pos (by omega)]
          by_cases h5 : a < 5
          · rw [dG_n h5, uI_ne (by omega), uI_ne (by omega), uI_ne (by omega), uI_ne (by omega), hγ γ hg a q ha hq, if_neg (by omega)]
          · by_cases h6 : a = 6
            · rw [dG_6 h6, uI_ne (by omega), uI_at (by omega)]
            · rw [dG_0 (by omega)]
              rcases (show a = 5 ∨ a = 7 ∨ a = 8 by omega) with rfl | rfl | rfl
              · rw [uI_ne (by omega), uI_ne (by omega), uI_ne (by omega), uI_at (by omega)]
              · rw [uI_ne (by omega), uI_ne (by omega), uI_at (by omega)]
              · rw [uI_at (by omega)]
        · rw [uI_ne (by omega), uI_ne (by omega), uI_ne (by omega), uI_ne (by omega), hγ γ hg a q ha hq]
          by_cases h3 : q < p
          · rw [if_pos h3, if_pos (by omega)]
          · rw [if_neg h3, if_neg (by omega)]
      · intro g' j i h
        rw [uI_ne (by omega), uI_ne (by omega), uI_ne (by omega), uI_ne (by omega)]
        exact hfr g' j i h) 0 (uI I 0 57 2 0) (by omega)
    ⟨uI_at (by omega), fun γ hg a q ha hq => by rw [uI_ne (by omega), if_neg (by omega)]; exact hg a q ha hq, fun g' j i h => uI_ne (by omega)⟩
  refine ⟨J, ?_, h2, fun γ hg a p ha hp => by rw [hγ γ hg a p ha hp, if_pos hp], hfr⟩
  refine (b8_36_0 d I t1 t2 k sc).trans (e.trans ?_)
  rw [b8_36_9]
  simp (disch := omega) only [bnd, bnd0, ↓cdec, ↓cnot, ↓reduceIte, Bo_0, Bo_1, ↓Bo_ok, i10, i01, eq_self, decide_true, decide_false, Bool.or_true, Bool.true_or, Bool.or_false, Bool.false_or, cond_true, cond_false, not_true_eq_false, not_false_eq_true, and_self, and_true, true_and, and_false, false_and, nI_clamp, ↓inbc, inb_n, nI_pos, nI_1, lt_10, Nat.lt_irrefl, b8_36_68]
end
/-- day -/
theorem ok_18 : op_18 Inv := by
  intro I t1 t2 k sc hI
  obtain ⟨γ, hX, hM, hok⟩ := hI.men
  obtain ⟨n, n8, c0, c0', c1, c2, c3, c4, ht, -⟩ := hI.head
  obtain ⟨J1, e1, a9, a11, aG, afr⟩ := x_beginDay 8 I t1 t2 k sc (g := 8) (Or.inl rfl) (I 0 8 9)
  obtain ⟨J2, e2, b2, bG, bfr⟩ := m_newDay 8 J1 t1 t2 k sc
  have hM1 : MenM J1 γ := hM.keep (fun i _ _ => afr _ _ _ (by omega))
  have hX1 := aG γ hX
  have hX2 : MenX 8 J2 (dG γ) := hX1.keep (fun j p _ _ _ => bfr _ _ _ (by omega))
  have hM2 := bG γ hM1
  refine ⟨cb (fS (fun p => decide (I 0 57 (5 + 9 * p + 8) = 1)) 10), J1, J2, t1, t2, k, ?_, ?_, ?_, by omega⟩
  · rw [← out_eq hX hM hok]
    simp (disch := omega) only [bnd, bnd0, ↓cdec, ↓cnot, ↓reduceIte, Bo_0, Bo_1, ↓Bo_ok, i10, i01, eq_self, decide_true, decide_false, Bool.or_true, Bool.true_or, Bool.or_false, Bool.false_or, cond_true, cond_false, not_true_eq_false, not_false_eq_true, and_self, and_true, true_and, and_false, false_and, nI_clamp, ↓inbc, inb_n, nI_pos, nI_1, b7_19_0, b7_19_10, b7_19_13, b7_19_34, x_outSet, x_bits, e1]
  · have es : fS (fun p => decide (J1 0 57 (5 + 9 * p + 8) = 1)) 10 = fS (fun p => decide (I 0 57 (5 + 9 * p + 8) = 1)) 10 := by
      apply fS_congr
      intro p hp
      rw [afr _ _ _ (by omega)]
    simp (disch := omega) only [bnd, bnd0, ↓cdec, ↓cnot, ↓reduceIte, Bo_0, Bo_1, ↓Bo_ok, i10, i01, eq_self, decide_true, decide_false, Bool.or_true, Bool.true_or, Bool.or_false, Bool.false_or, cond_true, cond_false, not_true_eq_false, not_false_eq_true, and_self, and_true, true_and, and_false, false_and, nI_clamp, ↓inbc, inb_n, nI_pos, nI_1, b8_51_0, b8_51_4, b8_51_7, b8_51_12, m_outs, m_ones, e2, es]
  · refine hI.gaol (dG γ) (fun a p ha hp => hX2 a p ha hp) hM2 (dG_ok hok) ?_ ?_ ?_ ?_ ?_ ?_ ?_ ?_
    · rw [bfr _ _ _ (by omega), a9, bfr _ _ _ (by omega), afr _ _ _ (by omega)]; exact c1.1
    · intro m m8 hm
      rw [bfr _ _ _ (by omega), afr _ _ _ (by omega)]
      rw [c0, nI_eq (by omega) (by omega)] at hm
      rw [← hm]; exact c1.2
    · rw [bfr _ _ _ (by omega), a11, b2]
    · rw [b2]; exact ⟨0, by omega, by omega, rfl⟩
    · rw [bfr _ _ _ (by omega), afr _ _ _ (by omega), bfr _ _ _ (by omega), afr _ _ _ (by omega)]; exact c3.1
    · rw [bfr _ _ _ (by omega), afr _ _ _ (by omega)]; exact c3.2
    · rw [bfr _ _ _ (by omega), afr _ _ _ (by omega), bfr _ _ _ (by omega), afr _ _ _ (by omega)]; exact c4
    · intro g j i h
      unfold Gc at h
      rw [bfr _ _ _ (by omega), afr _ _ _ (by omega)]
/-- set -/
theorem ok_12 : op_12 Inv := by
  intro a1 I t1 t2 k sc hI
  obtain ⟨γ, hX, hM, hok⟩ := hI.men
  obtain ⟨n, n8, c0, c0', c1, c2, c3, c4, ht, -⟩ := hI.head
  by_cases h : a1 = -1 ∨ (0 ≤ a1.toInt ∧ a1.toInt < n)
  · obtain ⟨J1, e1, a9, a11, aG, afr⟩ := x_beginDay 8 I t1 t2 k sc (g := 8) (Or.inl rfl) a1
    obtain ⟨J2, e2, b2, bG, bfr⟩ := m_newDay 8 (uI J1 0 57 1 a1) t1 t2 k sc
    have hM1 : MenM (uI J1 0 57 1 a1) γ := hM.keep (fun i _ _ => by rw [uI_ne (by omega), afr _ _ _ (by omega)])
    have hX1 := aG γ hX
    have hX2 : MenX 8 J2 (dG γ) := hX1.keep (fun j p _ _ _ => by rw [bfr _ _ _ (by omega), uI_ne (by omega)])
    have hM2 := bG γ hM1
    have j0 : J1 0 57 0 = nI n := by rw [afr _ _ _ (by omega)]; exact c0
    have j1 : J1 0 57 1 = I 0 57 1 := afr _ _ _ (by omega)
    have hx : den (9 + 1, 7, 13, 20, [some (vr 0 0), some (vi a1), none], [], mkH I t1 t2 k sc) = some (some (vi (I 0 57 1)), mkH (J1) t1 t2 k sc) := by
      simp (disch := omega) only [bnd, bnd0, ↓cdec, ↓cnot, ↓reduceIte, Bo_0, Bo_1, ↓Bo_ok, i10, i01, eq_self, decide_true, decide_false, Bool.or_true, Bool.true_or, Bool.or_false, Bool.false_or, cond_true, cond_false, not_true_eq_false, not_false_eq_true, and_self, and_true, true_and, and_false, false_and, nI_clamp, ↓inbc, inb_n, nI_pos, nI_1, b7_13_0, b7_13_5, b7_13_10, b7_13_13, b7_13_19, b7_13_20, b7_13_42, e1, c1.1]
    have hm : den (9 + 1, 8, 37, 20, [some (vr 0 56), some (vi a1), none], [], mkH (J1) t1 t2 k sc) = some (some (vi (I 0 57 1)), mkH (J2) t1 t2 k sc) := by
      simp (disch := omega) only [bnd, bnd0, ↓cdec, ↓cnot, ↓reduceIte, Bo_0, Bo_1, ↓Bo_ok, i10, i01, eq_self, decide_true, decide_false, Bool.or_true, Bool.true_or, Bool.or_false, Bool.false_or, cond_true, cond_false, not_true_eq_false, not_false_eq_true, and_self, and_true, true_and, and_false, false_and, nI_clamp, ↓inbc, inb_n, nI_pos, nI_1, b8_37_0, b8_37_5, b8_37_10, b8_37_13, b8_37_19, b8_37_20, b8_37_38, e2, j1]
    refine ⟨I 0 57 1, J1, J2, t1, t2, k, ?_, ?_, ?_, by omega⟩
    · by_cases h1 : a1 = -1
      · subst h1
        simp (disch := omega) only [bnd, bnd0, ↓cdec, ↓cnot, ↓reduceIte, Bo_0, Bo_1, ↓Bo_ok, i10, i01, eq_self, decide_true, decide_false, Bool.or_true, Bool.true_or, Bool.or_false, Bool.false_or, cond_true, cond_false, not_true_eq_false, not_false_eq_true, and_self, and_true, true_and, and_false, false_and, nI_clamp, ↓inbc, inb_n, nI_pos, nI_1, b7_13_0]
        exact hx
      · have h2 := h.resolve_left h1
        simp (disch := omega) only [bnd, bnd0, ↓cdec, ↓cnot, ↓reduceIte, Bo_0, Bo_1, ↓Bo_ok, i10, i01, eq_self, decide_true, decide_false, Bool.or_true, Bool.true_or, Bool.or_false, Bool.false_or, cond_true, cond_false, not_true_eq_false, not_false_eq_true, and_self, and_true, true_and, and_false, false_and, nI_clamp, ↓inbc, inb_n, nI_pos, nI_1, b7_13_0, b7_13_5, b7_13_10, h1, x_isSum 8 I t1 t2 k sc n8 c0' ht, h2]
        exact hx
    · by_cases h1 : a1 = -1
      · subst h1
        simp (disch := omega) only [bnd, bnd0, ↓cdec, ↓cnot, ↓reduceIte, Bo_0, Bo_1, ↓Bo_ok, i10, i01, eq_self, decide_true, decide_false, Bool.or_true, Bool.true_or, Bool.or_false, Bool.false_or, cond_true, cond_false, not_true_eq_false, not_false_eq_true, and_self, and_true, true_and, and_false, false_and, nI_clamp, ↓inbc, inb_n, nI_pos, nI_1, b8_37_0]
        exact hm
      · have h2 := h.resolve_left h1
        simp (disch := omega) only [bnd, bnd0, ↓cdec, ↓cnot, ↓reduceIte, Bo_0, Bo_1, ↓Bo_ok, i10, i01, eq_self, decide_true, decide_false, Bool.or_true, Bool.true_or, Bool.or_false, Bool.false_or, cond_true, cond_false, not_true_eq_false, not_false_eq_true, and_self, and_true, true_and, and_false, false_and, nI_clamp, ↓inbc, inb_n, nI_pos, nI_1, b8_37_0, b8_37_5, b8_37_10, h1, m_isSum 8 J1 t1 t2 k sc n8 j0, h2]
        exact hm
    · refine hI.gaol (dG γ) (fun a p ha hp => hX2 a p ha hp) hM2 (dG_ok hok) ?_ ?_ ?_ ?_ ?_ ?_ ?_ ?_
      · rw [bfr _ _ _ (by omega), uI_ne (by omega), a9, bfr _ _ _ (by omega), uI_at (by omega)]
      · intro m m8 hm2
        rw [bfr _ _ _ (by omega), uI_at (by omega)]
        rw [c0, nI_eq (by omega) (by omega)] at hm2
        rw [← hm2]; exact opt_of n8 h
      · rw [bfr _ _ _ (by omega), uI_ne (by omega), a11, b2]
      · rw [b2]; exact ⟨0, by omega, by omega, rfl⟩
      · rw [bfr _ _ _ (by omega), uI_ne (by omega), afr _ _ _ (by omega), bfr _ _ _ (by omega), uI_ne (by omega), afr _ _ _ (by omega)]; exact c3.1
      · rw [bfr _ _ _ (by omega), uI_ne (by omega), afr _ _ _ (by omega)]; exact c3.2
      · rw [bfr _ _ _ (by omega), uI_ne (by omega), afr _ _ _ (by omega), bfr _ _ _ (by omega), uI_ne (by omega), afr _ _ _ (by omega)]; exact c4
      · intro g j i hc
        unfold Gc at hc
        rw [bfr _ _ _ (by omega), uI_ne (by omega), afr _ _ _ (by omega)]
  · have h1 : ¬ a1 = -1 := fun q => h (Or.inl q)
    have h2 : ¬ (0 ≤ a1.toInt ∧ a1.toInt < n) := fun q => h (Or.inr q)
    refine ⟨-1000001, uI I 0 47 0 (I 0 47 0 + 1), _, t1, t2, k, ?_, ?_, hI.find (f := 0) (by omega), by omega⟩
    · simp (disch := omega) only [bnd, bnd0, ↓cdec, ↓cnot, ↓reduceIte, Bo_0, Bo_1, ↓Bo_ok, i10, i01, eq_self, decide_true, decide_false, Bool.or_true, Bool.true_or, Bool.or_false, Bool.false_or, cond_true, cond_false, not_true_eq_false, not_false_eq_true, and_self, and_true, true_and, and_false, false_and, nI_clamp, ↓inbc, inb_n, nI_pos, nI_1, b7_13_0, b7_13_5, b7_13_10, b7_13_13, b7_13_19, b7_13_42, h1, x_isSum 8 I t1 t2 k sc n8 c0' ht, h2, x_f0]
    · have j0 : (uI I 0 47 0 (I 0 47 0 + 1)) 0 57 0 = nI n := by rw [uI_ne (by omega)]; exact c0
      simp (disch := omega) only [bnd, bnd0, ↓cdec, ↓cnot, ↓reduceIte, Bo_0, Bo_1, ↓Bo_ok, i10, i01, eq_self, decide_true, decide_false, Bool.or_true, Bool.true_or, Bool.or_false, Bool.false_or, cond_true, cond_false, not_true_eq_false, not_false_eq_true, and_self, and_true, true_and, and_false, false_and, nI_clamp, ↓inbc, inb_n, nI_pos, nI_1, b8_37_0, b8_37_5, b8_37_10, b8_37_13, b8_37_19, b8_37_38, h1, m_isSum 8 _ t1 t2 k sc n8 j0, h2, m_f0]
