/-! school, alms, feed, as, change -/
theorem sub2 {n : Nat} (h : 2 ≤ n) : nI n - 2 = nI (n - 2) := pk_sub (b := 2) h
section
variable (d : Nat) (I : IFn) (t1 t2 : TFn) (k : Nat) (sc : Nat × (Nat → Int32))
theorem x_max0 {n : Nat} (hn : n ≤ 999) : den (d, 11, 0, 0, [some (vi 0), some (vi (nI n - 2))], [], mkH I t1 t2 k sc) = some (some (vi (nI (n - 2))), mkH I t1 t2 k sc) := by
  by_cases h : 2 ≤ n
  · rw [sub2 h]
    by_cases h3 : n - 2 = 0
    · have : ¬ (0 : Int32) < 0 := by decide
      rw [h3]
      simp (disch := omega) only [bnd, bnd0, ↓cdec, ↓cnot, ↓reduceIte, Bo_0, Bo_1, ↓Bo_ok, i10, i01, eq_self, decide_true, decide_false, Bool.or_true, Bool.true_or, Bool.or_false, Bool.false_or, cond_true, cond_false, not_true_eq_false, not_false_eq_true, and_self, and_true, true_and, and_false, false_and, nI_clamp, ↓inbc, inb_n, nI_pos, nI_1, b11_0_0, b11_0_5, b11_0_9, b11_0_10, this, nI_0]
    · have : (0 : Int32) < nI (n - 2) := nI_lt (a := 0) (by omega) (by omega)
      simp (disch := omega) only [bnd, bnd0, ↓cdec, ↓cnot, ↓reduceIte, Bo_0, Bo_1, ↓Bo_ok, i10, i01, eq_self, decide_true, decide_false, Bool.or_true, Bool.true_or, Bool.or_false, Bool.false_or, cond_true, cond_false, not_true_eq_false, not_false_eq_true, and_self, and_true, true_and, and_false, false_and, nI_clamp, ↓inbc, inb_n, nI_pos, nI_1, b11_0_0, b11_0_5, b11_0_9, b11_0_10, this]
  · have : ¬ (0 : Int32) < nI n - 2 := by
      rcases (show n = 0 ∨ n = 1 by omega) with rfl | rfl <;> decide
    rw [show n - 2 = 0 by omega, nI_0]
    simp (disch := omega) only [bnd, bnd0, ↓cdec, ↓cnot, ↓reduceIte, Bo_0, Bo_1, ↓Bo_ok, i10, i01, eq_self, decide_true, decide_false, Bool.or_true, Bool.true_or, Bool.or_false, Bool.false_or, cond_true, cond_false, not_true_eq_false, not_false_eq_true, and_self, and_true, true_and, and_false, false_and, nI_clamp, ↓inbc, inb_n, nI_pos, nI_1, b11_0_0, b11_0_5, b11_0_9, b11_0_10, this]
theorem x_teach {l t n : Nat} (hl : l < 10) (ht : t < 10) (hn : n ≤ 999) (hc : I 0 (8 + 2) t = nI n) : den (d + 2, 0, 10, 0, [some (vr 0 8), some (vi (nI l)), some (vi (nI t))], [], mkH I t1 t2 k sc) = some (none, mkH (uI (uI I 0 (8 + 1) l (I 0 (8 + 1) l + 1)) 0 (8 + 2) t (nI (n - 2))) t1 t2 k sc) := by
  have h1 : 0 ≤ (nI l).toInt ∧ (nI l).toInt ≤ 9 := by rw [nI_toInt (by omega)]; omega
  have h2 : 0 ≤ (nI t).toInt ∧ (nI t).toInt ≤ 9 := by rw [nI_toInt (by omega)]; omega
  simp (disch := omega) only [bnd, bnd0, ↓cdec, ↓cnot, ↓reduceIte, Bo_0, Bo_1, ↓Bo_ok, i10, i01, eq_self, decide_true, decide_false, Bool.or_true, Bool.true_or, Bool.or_false, Bool.false_or, cond_true, cond_false, not_true_eq_false, not_false_eq_true, and_self, and_true, true_and, and_false, false_and, nI_clamp, ↓inbc, inb_n, nI_pos, nI_1, b0_10_0, b0_10_4, b0_10_7, b0_10_11, b0_10_14, b0_10_41, b0_10_42, x_isPrisoner, h1, h2, uI_ne, hc, x_max0]
theorem m_teach {l t n : Nat} (hl : l < 10) (ht : t < 10) (hn : n ≤ 999) (hc : I 0 57 (5 + 9 * t + 1) = nI n) (x1 x2 : Int32) : den (d + 1, 8, 41, 101, [some (vr 0 56), some (vi x1), some (vi x2), some (vi (nI l)), some (vi (nI t))], [vi (nI (5 + 9 * l + 0)), vr 0 57], mkH I t1 t2 k sc) = den (d + 1, 8, 41, 148, [some (vr 0 56), some (vi x1), some (vi x2), some (vi (nI l)), some (vi (nI t))], [vi (nI (n - 2)), vi (nI (5 + 9 * t + 1)), vr 0 57], mkH (uI I 0 57 (5 + 9 * l + 0) (I 0 57 (5 + 9 * l + 0) + 1)) t1 t2 k sc) := by
  by_cases h : n < 2
  · simp (disch := omega) only [bnd, bnd0, ↓cdec, ↓cnot, ↓reduceIte, Bo_0, Bo_1, ↓Bo_ok, i10, i01, eq_self, decide_true, decide_false, Bool.or_true, Bool.true_or, Bool.or_false, Bool.false_or, cond_true, cond_false, not_true_eq_false, not_false_eq_true, and_self, and_true, true_and, and_false, false_and, nI_clamp, ↓inbc, inb_n, nI_pos, nI_1, b8_41_101, b8_41_116, b8_41_126, b8_41_131, mA_1, uI_ne, hc, lt_2, h]
    rw [show n - 2 = 0 by omega, nI_0]
  · simp (disch := omega) only [bnd, bnd0, ↓cdec, ↓cnot, ↓reduceIte, Bo_0, Bo_1, ↓Bo_ok, i10, i01, eq_self, decide_true, decide_false, Bool.or_true, Bool.true_or, Bool.or_false, Bool.false_or, cond_true, cond_false, not_true_eq_false, not_false_eq_true, and_self, and_true, true_and, and_false, false_and, nI_clamp, ↓inbc, inb_n, nI_pos, nI_1, b8_41_101, b8_41_116, b8_41_126, b8_41_135, b8_41_145, mA_1, uI_ne, hc, lt_2, h, sub2]
end
/-- school -/
theorem ok_15 : op_15 Inv := by
  intro a1 a2 I t1 t2 k sc hI
  by_cases h1 : 0 ≤ a1.toInt ∧ a1.toInt ≤ 9
  · by_cases h2 : 0 ≤ a2.toInt ∧ a2.toInt ≤ 9
    · by_cases h12 : a1 = a2
      · refine ⟨-1000001, uI I 0 47 0 (I 0 47 0 + 1), _, t1, t2, k, ?_, ?_, hI.find (f := 0) (by omega), by omega⟩
        · simp (disch := omega) only [bnd, bnd0, ↓cdec, ↓cnot, ↓reduceIte, Bo_0, Bo_1, ↓Bo_ok, i10, i01, eq_self, decide_true, decide_false, Bool.or_true, Bool.true_or, Bool.or_false, Bool.false_or, cond_true, cond_false, not_true_eq_false, not_false_eq_true, and_self, and_true, true_and, and_false, false_and, nI_clamp, ↓inbc, inb_n, nI_pos, nI_1, b7_16_0, b7_16_4, b7_16_7, b7_16_11, b7_16_14, b7_16_19, b7_16_25, x_isPrisoner, h1, h2, h12, x_f0]
        · simp (disch := omega) only [bnd, bnd0, ↓cdec, ↓cnot, ↓reduceIte, Bo_0, Bo_1, ↓Bo_ok, i10, i01, eq_self, decide_true, decide_false, Bool.or_true, Bool.true_or, Bool.or_false, Bool.false_or, cond_true, cond_false, not_true_eq_false, not_false_eq_true, and_self, and_true, true_and, and_false, false_and, nI_clamp, ↓inbc, inb_n, nI_pos, nI_1, b8_41_0, b8_41_4, b8_41_7, b8_41_11, b8_41_14, b8_41_19, b8_41_25, m_isMan, h1, h2, h12, m_f0]
      · obtain ⟨p, hp, rfl⟩ := nat_of (x := a1) (m := 10) h1.1 (by omega) (by omega)
        obtain ⟨q, hq, rfl⟩ := nat_of (x := a2) (m := 10) h2.1 (by omega) (by omega)
        have hpq : p ≠ q := fun z => h12 (by rw [z])
        obtain ⟨γ, hX, hM, hok⟩ := hI.men
        obtain ⟨n, n8, c0, c0', c1, c2, c3, c4, ht, -⟩ := hI.head
        obtain ⟨a, -, ha9, ha⟩ := (hok p hp).1
        obtain ⟨b, -, hb9, hb⟩ := (hok q hq).1
        have xa : I 0 9 p = nI a := (hX 0 p (by omega) hp).trans ha
        have xb : I 0 9 q = nI b := (hX 0 q (by omega) hq).trans hb
        have ma : ∀ J : IFn, (∀ i, J 0 57 i = I 0 57 i) → J 0 57 (5 + 9 * p + 0) = nI a ∧ J 0 57 (5 + 9 * q + 0) = nI b := fun J hJ => ⟨by rw [hJ]; exact (hM 0 p (by omega) hp).trans ha, by rw [hJ]; exact (hM 0 q (by omega) hq).trans hb⟩
        by_cases hab : nI a = nI b
        · refine ⟨-1000005, uI I 0 47 4 (I 0 47 4 + 1), _, t1, t2, k, ?_, ?_, hI.find (f := 4) (by omega), by omega⟩
          · simp (disch := omega) only [bnd, bnd0, ↓cdec, ↓cnot, ↓reduceIte, Bo_0, Bo_1, ↓Bo_ok, i10, i01, eq_self, decide_true, decide_false, Bool.or_true, Bool.true_or, Bool.or_false, Bool.false_or, cond_true, cond_false, not_true_eq_false, not_false_eq_true, and_self, and_true, true_and, and_false, false_and, nI_clamp, ↓inbc, inb_n, nI_pos, nI_1, b7_16_0, b7_16_4, b7_16_7, b7_16_11, b7_16_14, b7_16_26, b7_16_46, b7_16_52, x_isPrisoner, h1, h2, h12, xa, xb, hab, x_f4]
          · obtain ⟨m1, m2⟩ := ma (uI I 0 47 4 (I 0 47 4 + 1)) (fun i => uI_ne (by omega))
            simp (disch := omega) only [bnd, bnd0, ↓cdec, ↓cnot, ↓reduceIte, Bo_0, Bo_1, ↓Bo_ok, i10, i01, eq_self, decide_true, decide_false, Bool.or_true, Bool.true_or, Bool.or_false, Bool.false_or, cond_true, cond_false, not_true_eq_false, not_false_eq_true, and_self, and_true, true_and, and_false, false_and, nI_clamp, ↓inbc, inb_n, nI_pos, nI_1, b8_41_0, b8_41_4, b8_41_7, b8_41_11, b8_41_14, b8_41_26, b8_41_35, b8_41_45, b8_41_49, b8_41_55, m_isMan, h1, h2, h12, mA_0, m1, m2, hab, m_f4]
        · have main : ∀ l t e c : Nat, l < 10 → t < 10 → l ≠ t → γ 0 l = nI e → e < 9 → γ 1 t = nI c → c ≤ 999 → ∀ r : Int32, (∀ J1, den (8 + 1, 0, 10, 0, [some (vr 0 8), some (vi (nI l)), some (vi (nI t))], [], mkH I t1 t2 k sc) = some (none, mkH (J1) t1 t2 k sc) → J1 = uI (uI I 0 (8 + 1) l (I 0 (8 + 1) l + 1)) 0 (8 + 2) t (nI (c - 2)) → den (10, 7, 16, 0, [some (vr 0 0), some (vi (nI p)), some (vi (nI q)), none], [], mkH I t1 t2 k sc) = some (some (vi r), mkH (J1) t1 t2 k sc) ∧ ∀ J2, J2 = uI (uI J1 0 57 (5 + 9 * l + 0) (J1 0 57 (5 + 9 * l + 0) + 1)) 0 57 (5 + 9 * t + 1) (nI (c - 2)) → den (10, 8, 41, 0, [some (vr 0 56), some (vi (nI p)), some (vi (nI q)), none, none], [], mkH (J1) t1 t2 k sc) = some (some (vi r), mkH (J2) t1 t2 k sc)) → ∃ (r : Int32) (I1 I2 : IFn) (u1 u2 : TFn) (k' : Nat), den (10, 7, 16, 0, [some (vr 0 0), some (vi (nI p)), some (vi (nI q)), none], [], mkH I t1 t2 k sc) = some (some (vi r), mkH I1 u1 u2 k' sc) ∧ den (10, 8, 41, 0, [some (vr 0 56), some (vi (nI p)), some (vi (nI q)), none, none], [], mkH I1 u1 u2 k' sc) = some (some (vi r), mkH I2 u1 u2 k' sc) ∧ Inv I2 u1 u2 k' ∧ k' ≤ k + 1 := by
            intro l t e c hl ht2 hlt he he9 hc hc9 r hyp
            have xt := x_teach 7 I t1 t2 k sc hl ht2 hc9 ((hX 1 t (by omega) ht2).trans hc)
            generalize hJ1 : uI (uI I 0 (8 + 1) l (I 0 (8 + 1) l + 1)) 0 (8 + 2) t (nI (c - 2)) = J1 at xt
            obtain ⟨g1, g2'⟩ := hyp J1 xt hJ1.symm
            refine ⟨r, J1, _, t1, t2, k, g1, g2' _ rfl, ?_, by omega⟩
            have hX1 : MenX 8 J1 (g2 (g2 γ 0 l (γ 0 l + 1)) 1 t (nI (c - 2))) := by
              rw [← hJ1]
              have e1 : I 0 (8 + 1) l = γ 0 l := hX 0 l (by omega) hl
              rw [e1]
              exact (hX.set (a := 0) (p := l) (γ 0 l + 1)).set (a := 1) (p := t) (nI (c - 2))
            have fr1 : ∀ g j i, ¬ (g = 0 ∧ (j = 9 ∨ j = 10) ∧ i < 10) → J1 g j i = I g j i := by
              intro g j i h
              rw [← hJ1, uI_ne (by omega), uI_ne (by omega)]
            have hM1 : MenM J1 γ := hM.keep (fun i _ _ => fr1 _ _ _ (by omega))
            have hM2 : MenM (uI (uI J1 0 57 (5 + 9 * l + 0) (J1 0 57 (5 + 9 * l + 0) + 1)) 0 57 (5 + 9 * t + 1) (nI (c - 2))) (g2 (g2 γ 0 l (γ 0 l + 1)) 1 t (nI (c - 2))) := by
              rw [hM1 0 l (by omega) hl]
              exact (hM1.set (γ 0 l + 1) (by omega)).set (nI (c - 2)) (by omega)
            have fr2 : ∀ g j i, ¬ (g = 0 ∧ j = 57 ∧ 5 ≤ i ∧ i < 95) → (uI (uI J1 0 57 (5 + 9 * l + 0) (J1 0 57 (5 + 9 * l + 0) + 1)) 0 57 (5 + 9 * t + 1) (nI (c - 2))) g j i = J1 g j i := by
              intro g j i h
              rw [uI_ne (by omega), uI_ne (by omega)]
            have hX2 : MenX 8 (uI (uI J1 0 57 (5 + 9 * l + 0) (J1 0 57 (5 + 9 * l + 0) + 1)) 0 57 (5 + 9 * t + 1) (nI (c - 2))) (g2 (g2 γ 0 l (γ 0 l + 1)) 1 t (nI (c - 2))) := hX1.keep (fun j i _ _ _ => fr2 _ _ _ (by omega))
            have okl : ∀ q, q < 10 → manOK (fun a => (g2 γ 0 l (γ 0 l + 1)) a q) := g2_ok hok (mo_0 (hok l hl) ⟨e + 1, by omega, by omega, by rw [he, nI_1]⟩)
            have ok2 := g2_ok (a := 1) (p := t) (v := nI (c - 2)) okl (mo_1 (okl t ht2) ⟨c - 2, by omega, by omega, rfl⟩)
            refine hI.gaol _ (fun a p ha hp => hX2 a p ha hp) hM2 ok2 ?_ ?_ ?_ ?_ ?_ ?_ ?_ ?_
            · rw [fr2 _ _ _ (by omega), fr1 _ _ _ (by omega), fr2 _ _ _ (by omega), fr1 _ _ _ (by omega)]; exact c1.1
            · intro m m8 hm
              rw [c0, nI_eq (by omega) (by omega)] at hm
              rw [fr2 _ _ _ (by omega), fr1 _ _ _ (by omega), ← hm]; exact c1.2
            · rw [fr2 _ _ _ (by omega), fr1 _ _ _ (by omega), fr2 _ _ _ (by omega), fr1 _ _ _ (by omega)]; exact c2.1
            · rw [fr2 _ _ _ (by omega), fr1 _ _ _ (by omega)]; exact c2.2
            · rw [fr2 _ _ _ (by omega), fr1 _ _ _ (by omega), fr2 _ _ _ (by omega), fr1 _ _ _ (by omega)]; exact c3.1
            · rw [fr2 _ _ _ (by omega), fr1 _ _ _ (by omega)]; exact c3.2
            · rw [fr2 _ _ _ (by omega), fr1 _ _ _ (by omega), fr2 _ _ _ (by omega), fr1 _ _ _ (by omega)]; exact c4
            · intro g j i hc
              unfold Gc at hc
              rw [fr2 _ _ _ (by omega), fr1 _ _ _ (by omega)]
          have sp : nI p + nI q - nI p = nI q := by rw [nI_add, pk_sub (by omega), show p + q - p = q by omega]
          have sq : nI p + nI q - nI q = nI p := by rw [nI_add, pk_sub (by omega), show p + q - q = p by omega]
          by_cases hlt : nI a < nI b
          · have hlt' : a < b := (nI_ltI (by omega) (by omega)).mp hlt
            obtain ⟨c, -, hc9, hc⟩ := (hok q hq).2.1
            refine main p q a c hp hq hpq ha (by omega) hc hc9 (nI (a + 1)) ?_
            intro J1 xt hJ1
            have fr : ∀ i, J1 0 57 i = I 0 57 i := fun i => by rw [hJ1, uI_ne (by omega), uI_ne (by omega)]
            have xr : J1 0 9 p = nI (a + 1) := by rw [hJ1, uI_ne (by omega), uI_at (by omega), show I 0 (8 + 1) p = nI a from xa, nI_1]
            obtain ⟨m1, m2⟩ := ma J1 fr
            refine ⟨?_, fun J2 hJ2 => ?_⟩
            · simp (disch := omega) only [↓bnd, bnd, bnd0, ↓cdec, ↓cnot, ↓reduceIte, Bo_0, Bo_1, ↓Bo_ok, i10, i01, eq_self, decide_true, decide_false, Bool.or_true, Bool.true_or, Bool.or_false, Bool.false_or, cond_true, cond_false, not_true_eq_false, not_false_eq_true, and_self, and_true, true_and, and_false, false_and, nI_clamp, ↓inbc, inb_n, nI_pos, nI_1, b7_16_0, b7_16_4, b7_16_7, b7_16_11, b7_16_14, b7_16_26, b7_16_53, b7_16_62, b7_16_74, b7_16_89, x_isPrisoner, h1, h2, h12, xa, xb, hab, hlt, xt, xr]
            · simp (disch := omega) only [bnd, bnd0, ↓cdec, ↓cnot, ↓reduceIte, Bo_0, Bo_1, ↓Bo_ok, i10, i01, eq_self, decide_true, decide_false, Bool.or_true, Bool.true_or, Bool.or_false, Bool.false_or, cond_true, cond_false, not_true_eq_false, not_false_eq_true, and_self, and_true, true_and, and_false, false_and, nI_clamp, ↓inbc, inb_n, nI_pos, nI_1, b8_41_0, b8_41_4, b8_41_7, b8_41_11, b8_41_14, b8_41_26, b8_41_35, b8_41_45, b8_41_56, b8_41_65, b8_41_75, b8_41_79, b8_41_84, m_isMan, h1, h2, h12, mA_0, m1, m2, hab, hlt, sp]
              rw [m_teach 9 J1 t1 t2 k sc hp hq hc9 (by rw [fr]; exact (hM 1 q (by omega) hq).trans hc)]
              simp (disch := omega) only [bnd, bnd0, ↓cdec, ↓cnot, ↓reduceIte, Bo_0, Bo_1, ↓Bo_ok, i10, i01, eq_self, decide_true, decide_false, Bool.or_true, Bool.true_or, Bool.or_false, Bool.false_or, cond_true, cond_false, not_true_eq_false, not_false_eq_true, and_self, and_true, true_and, and_false, false_and, nI_clamp, ↓inbc, inb_n, nI_pos, nI_1, b8_41_148, b8_41_158, mA_0]
              rw [← hJ2, hJ2, uI_ne (by omega), uI_at (by omega), m1, nI_1]
          · have hlt' : ¬ a < b := fun z => hlt (nI_lt z (by omega))
            have hne : a ≠ b := fun z => hab (by rw [z])
            obtain ⟨c, -, hc9, hc⟩ := (hok p hp).2.1
            refine main q p b c hq hp (Ne.symm hpq) hb (by omega) hc hc9 (nI a) ?_
            intro J1 xt hJ1
            have fr : ∀ i, J1 0 57 i = I 0 57 i := fun i => by rw [hJ1, uI_ne (by omega), uI_ne (by omega)]
            have xr : J1 0 9 p = nI a := by rw [hJ1, uI_ne (by omega), uI_ne (by omega)]; exact xa
            obtain ⟨m1, m2⟩ := ma J1 fr
            refine ⟨?_, fun J2 hJ2 => ?_⟩
            · simp (disch := omega) only [bnd, bnd0, ↓cdec, ↓cnot, ↓reduceIte, Bo_0, Bo_1, ↓Bo_ok, i10, i01, eq_self, decide_true, decide_false, Bool.or_true, Bool.true_or, Bool.or_false, Bool.false_or, cond_true, cond_false, not_true_eq_false, not_false_eq_true, and_self, and_true, true_and, and_false, false_and, nI_clamp, ↓inbc, inb_n, nI_pos, nI_1, b7_16_0, b7_16_4, b7_16_7, b7_16_11, b7_16_14, b7_16_26, b7_16_53, b7_16_77, b7_16_89, x_isPrisoner, h1, h2, h12, xa, xb, hab, hlt, xt, xr]
            · simp (disch := omega) only [bnd, bnd0, ↓cdec, ↓cnot, ↓reduceIte, Bo_0, Bo_1, ↓Bo_ok, i10, i01, eq_self, decide_true, decide_false, Bool.or_true, Bool.true_or, Bool.or_false, Bool.false_or, cond_true, cond_false, not_true_eq_false, not_false_eq_true, and_self, and_true, true_and, and_false, false_and, nI_clamp, ↓inbc, inb_n, nI_pos, nI_1, b8_41_0, b8_41_4, b8_41_7, b8_41_11, b8_41_14, b8_41_26, b8_41_35, b8_41_45, b8_41_56, b8_41_65, b8_41_75, b8_41_83, b8_41_84, m_isMan, h1, h2, h12, mA_0, m1, m2, hab, hlt, sq]
              rw [m_teach 9 J1 t1 t2 k sc hq hp hc9 (by rw [fr]; exact (hM 1 p (by omega) hp).trans hc)]
              simp (disch := omega) only [bnd, bnd0, ↓cdec, ↓cnot, ↓reduceIte, Bo_0, Bo_1, ↓Bo_ok, i10, i01, eq_self, decide_true, decide_false, Bool.or_true, Bool.true_or, Bool.or_false, Bool.false_or, cond_true, cond_false, not_true_eq_false, not_false_eq_true, and_self, and_true, true_and, and_false, false_and, nI_clamp, ↓inbc, inb_n, nI_pos, nI_1, b8_41_148, b8_41_158, mA_0]
              rw [← hJ2, hJ2, uI_ne (by omega), uI_ne (by omega), m1]
    · refine ⟨-1000001, uI I 0 47 0 (I 0 47 0 + 1), _, t1, t2, k, ?_, ?_, hI.find (f := 0) (by omega), by omega⟩
      · simp (disch := omega) only [bnd, bnd0, ↓cdec, ↓cnot, ↓reduceIte, Bo_0, Bo_1, ↓Bo_ok, i10, i01, eq_self, decide_true, decide_false, Bool.or_true, Bool.true_or, Bool.or_false, Bool.false_or, cond_true, cond_false, not_true_eq_false, not_false_eq_true, and_self, and_true, true_and, and_false, false_and, nI_clamp, ↓inbc, inb_n, nI_pos, nI_1, b7_16_0, b7_16_4, b7_16_7, b7_16_11, b7_16_19, b7_16_25, x_isPrisoner, h1, h2, x_f0]
      · simp (disch := omega) only [bnd, bnd0, ↓cdec, ↓cnot, ↓reduceIte, Bo_0, Bo_1, ↓Bo_ok, i10, i01, eq_self, decide_true, decide_false, Bool.or_true, Bool.true_or, Bool.or_false, Bool.false_or, cond_true, cond_false, not_true_eq_false, not_false_eq_true, and_self, and_true, true_and, and_false, false_and, nI_clamp, ↓inbc, inb_n, nI_pos, nI_1, b8_41_0, b8_41_4, b8_41_7, b8_41_11, b8_41_19, b8_41_25, m_isMan, h1, h2, m_f0]
  · refine ⟨-1000001, uI I 0 47 0 (I 0 47 0 + 1), _, t1, t2, k, ?_, ?_, hI.find (f := 0) (by omega), by omega⟩
    · simp (disch := omega) only [bnd, bnd0, ↓cdec, ↓cnot, ↓reduceIte, Bo_0, Bo_1, ↓Bo_ok, i10, i01, eq_self, decide_true, decide_false, Bool.or_true, Bool.true_or, Bool.or_false, Bool.false_or, cond_true, cond_false, not_true_eq_false, not_false_eq_true, and_self, and_true, true_and, and_false, false_and, nI_clamp, ↓inbc, inb_n, nI_pos, nI_1, b7_16_0, b7_16_4, b7_16_19, b7_16_25, x_isPrisoner, h1, x_f0]
    · simp (disch := omega) only [bnd, bnd0, ↓cdec, ↓cnot, ↓reduceIte, Bo_0, Bo_1, ↓Bo_ok, i10, i01, eq_self, decide_true, decide_false, Bool.or_true, Bool.true_or, Bool.or_false, Bool.false_or, cond_true, cond_false, not_true_eq_false, not_false_eq_true, and_self, and_true, true_and, and_false, false_and, nI_clamp, ↓inbc, inb_n, nI_pos, nI_1, b8_41_0, b8_41_4, b8_41_19, b8_41_25, m_isMan, h1, m_f0]
/-! alms -/
theorem nI_bv (z : Int32) : z = nI z.toBitVec.toNat := by
  apply Int32.toBitVec_inj.mp
  show z.toBitVec = BitVec.ofNat 32 z.toBitVec.toNat
  rw [BitVec.ofNat_toNat, BitVec.setWidth_eq]
theorem draw_of (z : Int32) : ∃ r : Nat, r < 10 ∧ jrem (jushr z 8) 10 = nI r := by
  have h1 : z.toBitVec.toNat < 2 ^ 32 := z.toBitVec.isLt
  have e : jushr z 8 = nI (z.toBitVec.toNat / 2 ^ 8) := by
    have := pk_ushrN (n := z.toBitVec.toNat) h1 8 8 (by decide)
    rw [← nI_bv z] at this
    exact this
  have h2 : z.toBitVec.toNat / 2 ^ 8 < 2 ^ 31 := by omega
  refine ⟨z.toBitVec.toNat / 2 ^ 8 % 10, by omega, ?_⟩
  rw [e, jrem]
  exact pk_rem (d := 10) h2 (by omega) (by omega)
def capF (c : Int32) : Int32 := if c < 999 then c + 1 else c
def almZ (z : Int32) : Int32 := z * 1103515245 + 12345
def almR (z : Int32) : Nat := (jrem (jushr (almZ z) 8) 10).toNatClampNeg
def alm (z : Int32) (γ : Nat → Nat → Int32) : Nat → Int32 × (Nat → Nat → Int32)
  | 0 => (z, γ)
  | i + 1 => (almZ (alm z γ i).1, g2 (alm z γ i).2 1 (almR (alm z γ i).1) (capF ((alm z γ i).2 1 (almR (alm z γ i).1))))
theorem almR_ok (z : Int32) : almR z < 10 ∧ jrem (jushr (almZ z) 8) 10 = nI (almR z) := by
  obtain ⟨r, h1, h2⟩ := draw_of (almZ z)
  rw [almR, h2, nI_clamp (by omega)]
  exact ⟨h1, rfl⟩
theorem cap_ok {c : Int32} (h : rng 0 999 c) : rng 0 999 (capF c) := by
  obtain ⟨n, h0, h1, rfl⟩ := h
  by_cases h2 : n < 999
  · have e : nI n < 999 := nI_lt (b := 999) h2 (by decide)
    rw [capF, if_pos e, nI_1]; exact ⟨n + 1, by omega, by omega, rfl⟩
  · have e : ¬ nI n < 999 := nI_nlt (b := 999) (by omega) (by omega)
    rw [capF, if_neg e]; exact ⟨n, by omega, by omega, rfl⟩
theorem alm_ok (z : Int32) {γ : Nat → Nat → Int32} (hok : ∀ p, p < 10 → manOK (fun a => γ a p)) : ∀ i, ∀ p, p < 10 → manOK (fun a => (alm z γ i).2 a p)
  | 0 => hok
  | i + 1 => g2_ok (alm_ok z hok i) (mo_1 (alm_ok z hok i _ (almR_ok _).1) (cap_ok (alm_ok z hok i _ (almR_ok _).1).2.1))
section
variable (d : Nat) (I : IFn) (t1 t2 : TFn) (k : Nat) (sc : Nat × (Nat → Int32))
theorem x_give1 {r : Nat} (hr : r < 10) (hc : rng 0 999 (I 0 (8 + 2) r)) : den (d + 2, 0, 9, 0, [some (vr 0 8), some (vi (nI r)), some (vi 1)], [], mkH I t1 t2 k sc) = some (none, mkH (uI I 0 (8 + 2) r (capF (I 0 (8 + 2) r))) t1 t2 k sc) := by
  have h1 : 0 ≤ (nI r).toInt ∧ (nI r).toInt ≤ 9 := by rw [nI_toInt (by omega)]; omega
  obtain ⟨n, h0, hn, hc⟩ := hc
  by_cases h2 : n + 1 < 999
  · have e : nI n < 999 := nI_lt (b := 999) (by omega) (by decide)
    rw [hc, capF, if_pos e]
    simp (disch := omega) only [bnd, bnd0, ↓cdec, ↓cnot, ↓reduceIte, Bo_0, Bo_1, ↓Bo_ok, i10, i01, eq_self, decide_true, decide_false, Bool.or_true, Bool.true_or, Bool.or_false, Bool.false_or, cond_true, cond_false, not_true_eq_false, not_false_eq_true, and_self, and_true, true_and, and_false, false_and, nI_clamp, ↓inbc, inb_n, nI_pos, nI_1, b0_9_0, b0_9_4, b0_9_7, b0_9_26, b0_9_27, x_isPrisoner, h1, hc, b11_1_0, b11_1_5, b11_1_9, b11_1_10, lt_999, h2]
  · have e : (if nI n < 999 then nI n + 1 else nI n) = 999 := by
      rcases (show n = 998 ∨ n = 999 by omega) with rfl | rfl <;> decide
    rw [hc, capF, e]
    simp (disch := omega) only [bnd, bnd0, ↓cdec, ↓cnot, ↓reduceIte, Bo_0, Bo_1, ↓Bo_ok, i10, i01, eq_self, decide_true, decide_false, Bool.or_true, Bool.true_or, Bool.or_false, Bool.false_or, cond_true, cond_false, not_true_eq_false, not_false_eq_true, and_self, and_true, true_and, and_false, false_and, nI_clamp, ↓inbc, inb_n, nI_pos, nI_1, b0_9_0, b0_9_4, b0_9_7, b0_9_26, b0_9_27, x_isPrisoner, h1, hc, b11_1_0, b11_1_5, b11_1_9, b11_1_10, lt_999, h2]
theorem m_give1 {r : Nat} (hr : r < 10) (x1 x2 : Int32) : den (d + 1, 8, 40, 43, [some (vr 0 56), some (vi x1), some (vi x2), some (vi (nI r))], [vi (nI (5 + 9 * r + 1)), vr 0 57], mkH I t1 t2 k sc) = den (d + 1, 8, 40, 21, [some (vr 0 56), some (vi x1), some (vi (x2 + 1)), some (vi (nI r))], [], mkH (uI I 0 57 (5 + 9 * r + 1) (capF (I 0 57 (5 + 9 * r + 1)))) t1 t2 k sc) := by
  by_cases h : I 0 57 (5 + 9 * r + 1) < 999
  · rw [capF, if_pos h]
    simp (disch := omega) only [bnd, bnd0, ↓cdec, ↓cnot, ↓reduceIte, Bo_0, Bo_1, ↓Bo_ok, i10, i01, eq_self, decide_true, decide_false, Bool.or_true, Bool.true_or, Bool.or_false, Bool.false_or, cond_true, cond_false, not_true_eq_false, not_false_eq_true, and_self, and_true, true_and, and_false, false_and, nI_clamp, ↓inbc, inb_n, nI_pos, nI_1, b8_40_43, b8_40_54, b8_40_61, b8_40_66, mA_1, h]
  · rw [capF, if_neg h]
    simp (disch := omega) only [bnd, bnd0, ↓cdec, ↓cnot, ↓reduceIte, Bo_0, Bo_1, ↓Bo_ok, i10, i01, eq_self, decide_true, decide_false, Bool.or_true, Bool.true_or, Bool.or_false, Bool.false_or, cond_true, cond_false, not_true_eq_false, not_false_eq_true, and_self, and_true, true_and, and_false, false_and, nI_clamp, ↓inbc, inb_n, nI_pos, nI_1, b8_40_43, b8_40_54, b8_40_65, b8_40_66, mA_1, h, Int32.add_zero]
end
