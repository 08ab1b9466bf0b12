theorem dG_g2 {γ : Men} {a p : Nat} (ha : a < 5) (v : Int32) : dG (g2 γ a p v) = g2 (dG γ) a p v := by
  funext a' q
  by_cases e : a' = a ∧ q = p
  · rw [g2_at e, dG_n (by omega), g2_at e]
  · rw [g2_ne e]
    by_cases h6 : a' = 6
    · rw [dG_6 h6, dG_6 h6]
    · by_cases h5 : 5 ≤ a'
      · rw [dG_0 ⟨h6, h5⟩, dG_0 ⟨h6, h5⟩]
      · rw [dG_n (by omega), dG_n (by omega), g2_ne e]
def skF (h : Nat → Bool) : Nat → Nat → Option Nat
  | 0, _ => none
  | m + 1, r => if h (r + 1) = true then some (r + 1) else skF h m (r + 1)
def skI : Option Nat → Int32
  | none => -1
  | some y => nI y
theorem sk_le {h : Nat → Bool} : ∀ m r y, skF h m r = some y → y ≤ r + m
  | 0, _, _, e => by cases e
  | m + 1, r, y, e => by
    rw [skF] at e
    by_cases z : h (r + 1) = true
    · rw [if_pos z] at e
      have := Option.some.inj e
      omega
    · rw [if_neg z] at e
      have := sk_le m (r + 1) y e
      omega
/-- skillFor -/
theorem ok_25 : op_25 Inv := by
  intro a1 a2 a3 I t1 t2 k sc hI
  obtain ⟨n, n8, c0, c0', c1, c2, c3, c4, ht, hQ⟩ := hI.head
  have xI := fun x => x_isSum 8 I t1 t2 k sc n8 c0' ht x
  by_cases hb : (0 ≤ a1.toInt ∧ a1.toInt ≤ 9) ∧ (0 ≤ a2.toInt ∧ a2.toInt < (n : Int)) ∧ (1 ≤ a3.toInt ∧ a3.toInt ≤ 200)
  · obtain ⟨h1, h2, h3⟩ := hb
    obtain ⟨p, hp, rfl⟩ := nat_of (x := a1) (m := 10) h1.1 (by omega) (by omega)
    obtain ⟨q, hq, rfl⟩ := nat_of (x := a2) (m := n) h2.1 h2.2 (by omega)
    obtain ⟨N, hN, rfl⟩ := nat_of (x := a3) (m := 201) (by omega) (by omega) (by omega)
    obtain ⟨γ, hX, hM, hok⟩ := hI.men
    have hs : SumsOK I t1 k n (cS I) := ⟨n8, c0', ht, hQ⟩
    have okv : ∀ v, 1 ≤ v → v ≤ 9 → okMn (g2 γ 0 p (nI v)) := fun v v1 v9 => g2_ok hok (mo_0 (hok p hp) ⟨v, v1, v9, rfl⟩)
    generalize hh : (fun v => decide ((goF (nI q) (cS I) (I 0 8 10) N (dG (g2 γ 0 p (nI v)))) 8 p = 1)) = h
    have hh' : ∀ v, decide ((goF (nI q) (cS I) (I 0 8 10) N (dG (g2 γ 0 p (nI v)))) 8 p = 1) = h v := fun v => by rw [← hh]
    have lx : ∀ m r (J : IFn), r + m = 9 → FT I J → ∃ J', FT I J' ∧ ((∀ y, skF h m r = some y → den (9 + 1, 7, 26, 36, [some (vr 0 0), some (vi (nI p)), some (vi (nI q)), some (vi (nI N)), some (vi (nI (r + 1)))], [], mkH (J) t1 t2 k sc) = some (some (vi (nI y)), mkH (J') t1 t2 k sc)) ∧ (skF h m r = none → den (9 + 1, 7, 26, 36, [some (vr 0 0), some (vi (nI p)), some (vi (nI q)), some (vi (nI N)), some (vi (nI (r + 1)))], [], mkH (J) t1 t2 k sc) = some (some (vi (-1000004)), mkH (uI J' 0 47 3 (J' 0 47 3 + 1)) t1 t2 k sc))) := by
      intro m
      induction m with
      | zero =>
        intro r J hr hf
        have hg : 9 < r + 1 := by omega
        refine ⟨J, hf, fun y hy => (by cases hy), fun _ => ?_⟩
        rw [b7_26_36]
        simp (disch := omega) only [bnd, bnd0, ↓cdec, ↓cnot, ↓reduceIte, Bo_0, Bo_1, ↓Bo_ok, i10, i01, eq_self, decide_true, decide_false, Bool.or_true, Bool.true_or, Bool.or_false, Bool.false_or, cond_true, cond_false, not_true_eq_false, not_false_eq_true, Bool.false_eq_true, and_self, and_true, true_and, and_false, false_and, nI_clamp, ↓inbc, inb_n, nI_pos, nI_1, gt_9, hg, b7_26_95, b7_26_101, x_f3]
      | succ m ih =>
        intro r J hr hf
        have hg : ¬ 9 < r + 1 := by omega
        obtain ⟨J1, e1, z1, z2, z3, z4⟩ := x_tryDay 6 J t1 t2 k sc (hf.men hX) (nI q)
        have okr : okMn (g2 (dG γ) 0 p (nI (r + 1))) := by rw [← dG_g2 (by omega)]; exact dG_ok (okv (r + 1) (by omega) (by omega))
        have fJ1 : FT J (uI J1 0 36 p (nI (r + 1))) := fun g j i hn => by rw [uI_ne (by omega)]; exact z4 _ _ _ hn
        have z1' : MenX 35 (uI J1 0 36 p (nI (r + 1))) (g2 (dG γ) 0 p (nI (r + 1))) := z1.set (a := 0) (nI (r + 1))
        have s9 : (uI J1 0 36 p (nI (r + 1))) 0 35 9 = nI q := by rw [uI_ne (by omega)]; exact z2
        have s10 : (uI J1 0 36 p (nI (r + 1))) 0 35 10 = I 0 8 10 := by rw [uI_ne (by omega), z3, hf _ _ _ (by omega)]
        obtain ⟨K, e2, k1, k2, k3⟩ := x_go 5 (uI J1 0 36 p (nI (r + 1))) t1 t2 k sc (Or.inr rfl) (show N ≤ 480 by omega) z1' okr ((hs.keep hf).keep fJ1) (by rw [s9]; exact Or.inr ⟨q, hq, rfl⟩)
        rw [s9, s10, ← dG_g2 (by omega)] at k1
        have fK : FT I K := (hf.trans fJ1).trans (fun g j i hn => k3 _ _ _ (by omega))
        have e44 : K 0 44 p = (goF (nI q) (cS I) (I 0 8 10) N (dG (g2 γ 0 p (nI (r + 1))))) 8 p := k1 8 p (by omega) hp
        have ok2 := go_ok (R := I 0 8 10) hs (s := nI q) (Or.inr ⟨q, hq, rfl⟩) N (dG_ok (okv (r + 1) (by omega) (by omega)))
        obtain ⟨o, -, o1, eo⟩ := (ok2 p hp).2.2.2.2.2.2.2.2
        have eo' : (goF (nI q) (cS I) (I 0 8 10) N (dG (g2 γ 0 p (nI (r + 1))))) 8 p = nI o := eo
        rw [eo'] at e44
        rw [skF]
        by_cases hz : h (r + 1) = true
        · rw [if_pos hz]
          have o0 : ¬ o = 0 := by
            intro z
            have y := hh' (r + 1)
            rw [eo', z, hz] at y
            exact absurd (of_decide_eq_true y) (by decide)
          have q0 : ¬ nI o = 0 := by rw [eq_0 (by omega)]; exact o0
          refine ⟨K, fK, fun y hy => ?_, fun hy => (by cases hy)⟩
          have ey : r + 1 = y := Option.some.inj hy
          subst ey
          rw [b7_26_36]
          simp (disch := omega) only [bnd, bnd0, ↓cdec, ↓cnot, ↓reduceIte, Bo_0, Bo_1, ↓Bo_ok, i10, i01, eq_self, decide_true, decide_false, Bool.or_true, Bool.true_or, Bool.or_false, Bool.false_or, cond_true, cond_false, not_true_eq_false, not_false_eq_true, Bool.false_eq_true, and_self, and_true, true_and, and_false, false_and, nI_clamp, ↓inbc, inb_n, nI_pos, nI_1, gt_9, hg, b7_26_43, b7_26_48, b7_26_74, b7_26_86, e1, e2, e44, q0]
        · rw [if_neg hz]
          have o0 : o = 0 := by
            by_cases z : o = 0
            · exact z
            · exfalso
              apply hz
              rw [← hh' (r + 1), eo', show o = 1 by omega]
              decide
          have q0 : nI o = 0 := by rw [o0, nI_0]
          obtain ⟨J', f', g1, g2'⟩ := ih (r + 1) K (by omega) fK
          refine ⟨J', f', fun y hy => Eq.trans ?_ (g1 y hy), fun hy => Eq.trans ?_ (g2' hy)⟩
          · rw [b7_26_36]
            simp (disch := omega) only [bnd, bnd0, ↓cdec, ↓cnot, ↓reduceIte, Bo_0, Bo_1, ↓Bo_ok, i10, i01, eq_self, decide_true, decide_false, Bool.or_true, Bool.true_or, Bool.or_false, Bool.false_or, cond_true, cond_false, not_true_eq_false, not_false_eq_true, Bool.false_eq_true, and_self, and_true, true_and, and_false, false_and, nI_clamp, ↓inbc, inb_n, nI_pos, nI_1, gt_9, hg, b7_26_43, b7_26_48, b7_26_74, b7_26_89, e1, e2, e44, q0]
          · rw [b7_26_36]
            simp (disch := omega) only [bnd, bnd0, ↓cdec, ↓cnot, ↓reduceIte, Bo_0, Bo_1, ↓Bo_ok, i10, i01, eq_self, decide_true, decide_false, Bool.or_true, Bool.true_or, Bool.or_false, Bool.false_or, cond_true, cond_false, not_true_eq_false, not_false_eq_true, Bool.false_eq_true, and_self, and_true, true_and, and_false, false_and, nI_clamp, ↓inbc, inb_n, nI_pos, nI_1, gt_9, hg, b7_26_43, b7_26_48, b7_26_74, b7_26_89, e1, e2, e44, q0]
    have lm : ∀ (I1 : IFn), (∀ i, I1 0 57 i = I 0 57 i) → ∀ m r (J : IFn), r + m = 9 → (∀ g j i, ¬ (g = 0 ∧ (j = 59 ∨ j = 64 ∨ j = 65 ∨ (j = 57 ∧ i = 5 + 9 * p + 0))) → J g j i = I1 g j i) → ∃ (J' : IFn) (r' : Nat), (∀ g j i, ¬ (g = 0 ∧ (j = 59 ∨ j = 64 ∨ j = 65 ∨ (j = 57 ∧ i = 5 + 9 * p + 0))) → J' g j i = I1 g j i) ∧ den (9 + 1, 8, 63, 52, [some (vr 0 56), some (vi (nI p)), some (vi (nI q)), some (vi (nI N)), some (vi (I 0 57 (5 + 9 * p + 0))), some (vi (-1)), some (vi (nI (r + 1)))], [], mkH (J) t1 t2 k sc) = den (9 + 1, 8, 63, 103, [some (vr 0 56), some (vi (nI p)), some (vi (nI q)), some (vi (nI N)), some (vi (I 0 57 (5 + 9 * p + 0))), some (vi (skI (skF h m r))), some (vi (nI r'))], [], mkH (J') t1 t2 k sc) := by
      intro I1 hI1 m
      induction m with
      | zero =>
        intro r J hr hf
        have hl : ¬ r + 1 < 10 := by omega
        refine ⟨J, r + 1, hf, ?_⟩
        rw [b8_63_52]
        simp (disch := omega) only [bnd, bnd0, ↓cdec, ↓cnot, ↓reduceIte, Bo_0, Bo_1, ↓Bo_ok, i10, i01, eq_self, decide_true, decide_false, Bool.or_true, Bool.true_or, Bool.or_false, Bool.false_or, cond_true, cond_false, not_true_eq_false, not_false_eq_true, Bool.false_eq_true, and_self, and_true, true_and, and_false, false_and, nI_clamp, ↓inbc, inb_n, nI_pos, nI_1, lt_10, hl]
        rfl
      | succ m ih =>
        intro r J hr hf
        have hl : r + 1 < 10 := by omega
        have l1 : (-1 : Int32) < 0 := by decide
        have hMv : MenM (uI J 0 57 (5 + 9 * p + 0) (nI (r + 1))) (g2 γ 0 p (nI (r + 1))) := by
          intro a p' ha hp'
          by_cases e : a = 0 ∧ p' = p
          · rw [g2_at e, uI_at (by omega)]
          · rw [g2_ne e, uI_ne (by omega), hf _ _ _ (by omega), hI1]
            exact hM a p' ha hp'
        obtain ⟨K, e, fK⟩ := m_letsOut 3 (uI J 0 57 (5 + 9 * p + 0) (nI (r + 1))) t1 t2 k sc hq (show N ≤ 480 by omega) hMv (okv (r + 1) (by omega) (by omega)) hs (fun q _ => funext fun a => by
          show (uI J 0 57 (5 + 9 * p + 0) (nI (r + 1))) 0 57 _ = I 0 57 _
          rw [uI_ne (by omega), hf _ _ _ (by omega), hI1])
        rw [show (uI J 0 57 (5 + 9 * p + 0) (nI (r + 1))) 0 57 3 = I 0 8 10 by rw [uI_ne (by omega), hf _ _ _ (by omega), hI1, c3.1]] at e
        have bit : (outS (goF (nI q) (cS I) (I 0 8 10) N (dG (g2 γ 0 p (nI (r + 1))))) >>> (nI p &&& 31)) &&& 1 = 1 ↔ h (r + 1) = true := by
          rw [← hh' (r + 1)]
          exact fS_has _ hp
        have fK' : ∀ g j i, ¬ (g = 0 ∧ (j = 59 ∨ j = 64 ∨ j = 65 ∨ (j = 57 ∧ i = 5 + 9 * p + 0))) → K g j i = I1 g j i := fun g j i hn => by
          rw [fK _ _ _ (by omega), uI_ne (by omega)]; exact hf _ _ _ hn
        rw [skF]
        by_cases hz : h (r + 1) = true
        · rw [if_pos hz]
          have b1 := bit.mpr hz
          have st : den (9 + 1, 8, 63, 52, [some (vr 0 56), some (vi (nI p)), some (vi (nI q)), some (vi (nI N)), some (vi (I 0 57 (5 + 9 * p + 0))), some (vi (-1)), some (vi (nI (r + 1)))], [], mkH (J) t1 t2 k sc) = den (9 + 1, 8, 63, 52, [some (vr 0 56), some (vi (nI p)), some (vi (nI q)), some (vi (nI N)), some (vi (I 0 57 (5 + 9 * p + 0))), some (vi (nI (r + 1))), some (vi (nI (r + 1 + 1)))], [], mkH (K) t1 t2 k sc) := by
            rw [b8_63_52]
            simp (disch := omega) only [bnd, bnd0, ↓cdec, ↓cnot, ↓reduceIte, Bo_0, Bo_1, ↓Bo_ok, i10, i01, eq_self, decide_true, decide_false, Bool.or_true, Bool.true_or, Bool.or_false, Bool.false_or, cond_true, cond_false, not_true_eq_false, not_false_eq_true, Bool.false_eq_true, and_self, and_true, true_and, and_false, false_and, nI_clamp, ↓inbc, inb_n, nI_pos, nI_1, lt_10, hl, l1, b8_63_59, b8_63_64, b8_63_73, b8_63_82, b8_63_86, b8_63_89, b8_63_95, b8_8_0, b8_8_9, b8_8_14, mA_0, e, b1]
          refine ⟨K, r + 1 + 1, fK', st.trans ?_⟩
          rw [b8_63_52]
          by_cases hl2 : r + 1 + 1 < 10
          · simp (disch := omega) only [bnd, bnd0, ↓cdec, ↓cnot, ↓reduceIte, Bo_0, Bo_1, ↓Bo_ok, i10, i01, eq_self, decide_true, decide_false, Bool.or_true, Bool.true_or, Bool.or_false, Bool.false_or, cond_true, cond_false, not_true_eq_false, not_false_eq_true, Bool.false_eq_true, and_self, and_true, true_and, and_false, false_and, nI_clamp, ↓inbc, inb_n, nI_pos, nI_1, lt_10, hl2, b8_63_59, skI]
          · simp (disch := omega) only [bnd, bnd0, ↓cdec, ↓cnot, ↓reduceIte, Bo_0, Bo_1, ↓Bo_ok, i10, i01, eq_self, decide_true, decide_false, Bool.or_true, Bool.true_or, Bool.or_false, Bool.false_or, cond_true, cond_false, not_true_eq_false, not_false_eq_true, Bool.false_eq_true, and_self, and_true, true_and, and_false, false_and, nI_clamp, ↓inbc, inb_n, nI_pos, nI_1, lt_10, hl2, skI]
        · rw [if_neg hz]
          have b1 := (not_congr bit).mpr hz
          obtain ⟨J', r', f', g1⟩ := ih (r + 1) K (by omega) fK'
          refine ⟨J', r', f', Eq.trans ?_ g1⟩
          rw [b8_63_52]
          simp (disch := omega) only [bnd, bnd0, ↓cdec, ↓cnot, ↓reduceIte, Bo_0, Bo_1, ↓Bo_ok, i10, i01, eq_self, decide_true, decide_false, Bool.or_true, Bool.true_or, Bool.or_false, Bool.false_or, cond_true, cond_false, not_true_eq_false, not_false_eq_true, Bool.false_eq_true, and_self, and_true, true_and, and_false, false_and, nI_clamp, ↓inbc, inb_n, nI_pos, nI_1, lt_10, hl, l1, b8_63_59, b8_63_64, b8_63_73, b8_63_82, b8_63_86, b8_63_94, b8_63_95, b8_8_0, b8_8_13, b8_8_14, mA_0, e, b1]
    obtain ⟨J1, f1, gs, gn⟩ := lx 9 0 I (by omega) FT.rfl
    have hx0 : den (10, 7, 26, 0, [some (vr 0 0), some (vi (nI p)), some (vi (nI q)), some (vi (nI N)), none], [], mkH I t1 t2 k sc) = den (9 + 1, 7, 26, 36, [some (vr 0 0), some (vi (nI p)), some (vi (nI q)), some (vi (nI N)), some (vi (nI (0 + 1)))], [], mkH I t1 t2 k sc) := by
      simp (disch := omega) only [bnd, bnd0, ↓cdec, ↓cnot, ↓reduceIte, Bo_0, Bo_1, ↓Bo_ok, i10, i01, eq_self, decide_true, decide_false, Bool.or_true, Bool.true_or, Bool.or_false, Bool.false_or, cond_true, cond_false, not_true_eq_false, not_false_eq_true, Bool.false_eq_true, and_self, and_true, true_and, and_false, false_and, nI_clamp, ↓inbc, inb_n, nI_pos, nI_1, b7_26_0, b7_26_4, b7_26_7, b7_26_12, b7_26_15, b7_26_23, b7_26_33, x_isPrisoner, xI, x_within, k32_1, k32_200, h1, h2, h3]
      rfl
    have hm0 : ∀ I1 : IFn, (∀ i, I1 0 57 i = I 0 57 i) → ∃ (J' : IFn) (r' : Nat), FB I1 (uI J' 0 57 (5 + 9 * p + 0) (I 0 57 (5 + 9 * p + 0))) ∧ den (10, 8, 63, 0, [some (vr 0 56), some (vi (nI p)), some (vi (nI q)), some (vi (nI N)), none, none, none], [], mkH (I1) t1 t2 k sc) = den (9 + 1, 8, 63, 103, [some (vr 0 56), some (vi (nI p)), some (vi (nI q)), some (vi (nI N)), some (vi (I 0 57 (5 + 9 * p + 0))), some (vi (skI (skF h 9 0))), some (vi (nI r'))], [], mkH (J') t1 t2 k sc) := by
      intro I1 hI1
      have mI := m_isSum 8 I1 t1 t2 k sc n8 (by rw [hI1]; exact c0)
      obtain ⟨J', r', f', g1⟩ := lm I1 hI1 9 0 I1 (by omega) (fun _ _ _ _ => rfl)
      refine ⟨J', r', fun g j i hn => ?_, Eq.trans ?_ g1⟩
      · by_cases e : g = 0 ∧ j = 57 ∧ i = 5 + 9 * p + 0
        · rw [uI_at e, e.1, e.2.1, e.2.2, hI1]
        · rw [uI_ne e]; exact f' _ _ _ (by omega)
      · simp (disch := omega) only [bnd, bnd0, ↓cdec, ↓cnot, ↓reduceIte, Bo_0, Bo_1, ↓Bo_ok, i10, i01, eq_self, decide_true, decide_false, Bool.or_true, Bool.true_or, Bool.or_false, Bool.false_or, cond_true, cond_false, not_true_eq_false, not_false_eq_true, Bool.false_eq_true, and_self, and_true, true_and, and_false, false_and, nI_clamp, ↓inbc, inb_n, nI_pos, nI_1, b8_63_0, b8_63_4, b8_63_7, b8_63_12, b8_63_15, b8_63_24, b8_63_34, b8_63_43, m_isMan, mI, m_in32, k64_1, k64_200, h1, h2, h3, mA_0, hI1]
        rfl
    cases hw : skF h 9 0 with
    | some y =>
      have y9 := sk_le 9 0 y hw
      obtain ⟨J2, r', f2, em⟩ := hm0 J1 (fun i => f1 _ _ _ (by omega))
      rw [hw, skI] at em
      refine ⟨nI y, J1, uI J2 0 57 (5 + 9 * p + 0) (I 0 57 (5 + 9 * p + 0)), t1, t2, k, hx0.trans (gs y hw), em.trans ?_, hI.garb (FTB.al f1 f2), by omega⟩
      simp (disch := omega) only [bnd, bnd0, ↓cdec, ↓cnot, ↓reduceIte, Bo_0, Bo_1, ↓Bo_ok, i10, i01, eq_self, decide_true, decide_false, Bool.or_true, Bool.true_or, Bool.or_false, Bool.false_or, cond_true, cond_false, not_true_eq_false, not_false_eq_true, Bool.false_eq_true, and_self, and_true, true_and, and_false, false_and, nI_clamp, ↓inbc, inb_n, nI_pos, nI_1, b8_63_103, b8_63_112, b8_63_129, b8_63_131, mA_0]
    | none =>
      obtain ⟨J2, r', f2, em⟩ := hm0 (uI J1 0 47 3 (J1 0 47 3 + 1)) (fun i => by rw [uI_ne (by omega)]; exact f1 _ _ _ (by omega))
      rw [hw, skI] at em
      have l1 : (-1 : Int32) < 0 := by decide
      generalize hK : uI J2 0 57 (5 + 9 * p + 0) (I 0 57 (5 + 9 * p + 0)) = K at f2
      refine ⟨-1000004, uI J1 0 47 3 (J1 0 47 3 + 1), uI K 0 60 3 (K 0 60 3 + 1), t1, t2, k, hx0.trans (gn hw), em.trans ?_, hI.findG (f := 3) (by omega) ?_ ?_, by omega⟩
      · simp (disch := omega) only [bnd, bnd0, ↓cdec, ↓cnot, ↓reduceIte, Bo_0, Bo_1, ↓Bo_ok, i10, i01, eq_self, decide_true, decide_false, Bool.or_true, Bool.true_or, Bool.or_false, Bool.false_or, cond_true, cond_false, not_true_eq_false, not_false_eq_true, Bool.false_eq_true, and_self, and_true, true_and, and_false, false_and, nI_clamp, ↓inbc, inb_n, nI_pos, nI_1, b8_63_103, b8_63_112, b8_63_120, b8_63_126, b8_63_131, mA_0, l1, hK, m_f3]
      · rw [f2 _ _ _ (by omega), uI_at (by omega), f1 _ _ _ (by omega)]
      · intro g j i hg hn
        unfold Gb at hg
        rw [f2 _ _ _ (by omega), uI_ne (by omega), f1 _ _ _ (by omega)]
  · have mI := m_isSum 8 (uI I 0 47 0 (I 0 47 0 + 1)) t1 t2 k sc n8 (by rw [uI_ne (by omega)]; exact c0)
    refine ⟨-1000001, uI I 0 47 0 (I 0 47 0 + 1), uI (uI I 0 47 0 (I 0 47 0 + 1)) 0 60 0 ((uI I 0 47 0 (I 0 47 0 + 1)) 0 60 0 + 1), t1, t2, k, ?_, ?_, hI.find (f := 0) (by omega), by omega⟩
    · by_cases h1 : 0 ≤ a1.toInt ∧ a1.toInt ≤ 9
      · by_cases h2 : 0 ≤ a2.toInt ∧ a2.toInt < (n : Int)
        · have h3 : ¬ (1 ≤ a3.toInt ∧ a3.toInt ≤ 200) := fun z => hb ⟨h1, h2, z⟩
          simp (disch := omega) only [bnd, bnd0, ↓cdec, ↓cnot, ↓reduceIte, Bo_0, Bo_1, ↓Bo_ok, i10, i01, eq_self, decide_true, decide_false, Bool.or_true, Bool.true_or, Bool.or_false, Bool.false_or, cond_true, cond_false, not_true_eq_false, not_false_eq_true, Bool.false_eq_true, and_self, and_true, true_and, and_false, false_and, nI_clamp, ↓inbc, inb_n, nI_pos, nI_1, b7_26_0, b7_26_4, b7_26_7, b7_26_12, b7_26_15, b7_26_23, b7_26_26, b7_26_32, x_isPrisoner, xI, x_within, k32_1, k32_200, h1, h2, h3, x_f0]
        · simp (disch := omega) only [bnd, bnd0, ↓cdec, ↓cnot, ↓reduceIte, Bo_0, Bo_1, ↓Bo_ok, i10, i01, eq_self, decide_true, decide_false, Bool.or_true, Bool.true_or, Bool.or_false, Bool.false_or, cond_true, cond_false, not_true_eq_false, not_false_eq_true, Bool.false_eq_true, and_self, and_true, true_and, and_false, false_and, nI_clamp, ↓inbc, inb_n, nI_pos, nI_1, b7_26_0, b7_26_4, b7_26_7, b7_26_12, b7_26_26, b7_26_32, x_isPrisoner, xI, h1, h2, x_f0]
      · simp (disch := omega) only [bnd, bnd0, ↓cdec, ↓cnot, ↓reduceIte, Bo_0, Bo_1, ↓Bo_ok, i10, i01, eq_self, decide_true, decide_false, Bool.or_true, Bool.true_or, Bool.or_false, Bool.false_or, cond_true, cond_false, not_true_eq_false, not_false_eq_true, Bool.false_eq_true, and_self, and_true, true_and, and_false, false_and, nI_clamp, ↓inbc, inb_n, nI_pos, nI_1, b7_26_0, b7_26_4, b7_26_26, b7_26_32, x_isPrisoner, h1, x_f0]
    · by_cases h1 : 0 ≤ a1.toInt ∧ a1.toInt ≤ 9
      · by_cases h2 : 0 ≤ a2.toInt ∧ a2.toInt < (n : Int)
        · have h3 : ¬ (1 ≤ a3.toInt ∧ a3.toInt ≤ 200) := fun z => hb ⟨h1, h2, z⟩
          simp (disch := omega) only [bnd, bnd0, ↓cdec, ↓cnot, ↓reduceIte, Bo_0, Bo_1, ↓Bo_ok, i10, i01, eq_self, decide_true, decide_false, Bool.or_true, Bool.true_or, Bool.or_false, Bool.false_or, cond_true, cond_false, not_true_eq_false, not_false_eq_true, Bool.false_eq_true, and_self, and_true, true_and, and_false, false_and, nI_clamp, ↓inbc, inb_n, nI_pos, nI_1, b8_63_0, b8_63_4, b8_63_7, b8_63_12, b8_63_15, b8_63_24, b8_63_27, b8_63_33, m_isMan, mI, m_in32, k64_1, k64_200, h1, h2, h3, m_f0]
        · simp (disch := omega) only [bnd, bnd0, ↓cdec, ↓cnot, ↓reduceIte, Bo_0, Bo_1, ↓Bo_ok, i10, i01, eq_self, decide_true, decide_false, Bool.or_true, Bool.true_or, Bool.or_false, Bool.false_or, cond_true, cond_false, not_true_eq_false, not_false_eq_true, Bool.false_eq_true, and_self, and_true, true_and, and_false, false_and, nI_clamp, ↓inbc, inb_n, nI_pos, nI_1, b8_63_0, b8_63_4, b8_63_7, b8_63_12, b8_63_27, b8_63_33, m_isMan, mI, h1, h2, m_f0]
      · simp (disch := omega) only [bnd, bnd0, ↓cdec, ↓cnot, ↓reduceIte, Bo_0, Bo_1, ↓Bo_ok, i10, i01, eq_self, decide_true, decide_false, Bool.or_true, Bool.true_or, Bool.or_false, Bool.false_or, cond_true, cond_false, not_true_eq_false, not_false_eq_true, Bool.false_eq_true, and_self, and_true, true_and, and_false, false_and, nI_clamp, ↓inbc, inb_n, nI_pos, nI_1, b8_63_0, b8_63_4, b8_63_27, b8_63_33, m_isMan, h1, m_f0]
