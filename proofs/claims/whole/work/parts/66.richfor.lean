def dnF (h : Nat → Bool) : Nat → Option Nat
  | 0 => none
  | v + 1 => if h v = true then some v else dnF h v
theorem dn_le {h : Nat → Bool} : ∀ r y, dnF h r = some y → y < r
  | 0, _, e => by cases e
  | v + 1, y, e => by
    rw [dnF] at e
    by_cases z : h v = true
    · rw [if_pos z] at e
      have := Option.some.inj e
      omega
    · rw [if_neg z] at e
      have := dn_le v y e
      omega
def rvN (v : Nat) : Nat := if v = 10 then 999 else 100 * v
def rvI : Option Nat → Int32
  | none => -1
  | some y => nI (rvN y)
theorem rvN_le {v : Nat} (h : v ≤ 10) : rvN v ≤ 999 := by
  unfold rvN
  by_cases z : v = 10
  · rw [if_pos z]; omega
  · rw [if_neg z]; omega
theorem rv_key : ∀ v, v ≤ 10 → (if (nI v * 100 : Int32) < 999 then nI v * 100 else 999) = nI (rvN v) ∧ ((nI v : Int32) = 10 → (999 : Int32) = nI (rvN v)) ∧ (¬ (nI v : Int32) = 10 → (100 : Int32) * nI v = nI (rvN v)) := by decide +kernel
theorem lt_11 {n : Nat} (h : n < 2147483648) : (nI n < (11 : Int32)) = (n < 11) := propext (nI_ltI (b := 11) h (by decide))
section
variable (d : Nat) (I : IFn) (t1 t2 : TFn) (k : Nat) (sc : Nat × (Nat → Int32))
theorem x_min100 {v : Nat} (hv : v ≤ 10) : den (d, 11, 1, 0, [some (vi 999), some (vi (nI v * 100))], [], mkH I t1 t2 k sc) = some (some (vi (nI (rvN v))), mkH I t1 t2 k sc) := by
  rw [← (rv_key v hv).1]
  by_cases h : (nI v * 100 : Int32) < 999
  · rw [if_pos h]
    simp only [bnd, bnd0, ↓cdec, ↓cnot, ↓reduceIte, Bo_0, Bo_1, ↓Bo_ok, i10, i01, eq_self, decide_true, decide_false, Bool.or_true, Bool.true_or, Bool.or_false, Bool.false_or, cond_true, cond_false, not_true_eq_false, not_false_eq_true, Bool.false_eq_true, and_self, and_true, true_and, and_false, false_and, nI_clamp, ↓inbc, inb_n, nI_pos, nI_1, b11_1_0, b11_1_9, b11_1_10, h]
  · rw [if_neg h]
    simp only [bnd, bnd0, ↓cdec, ↓cnot, ↓reduceIte, Bo_0, Bo_1, ↓Bo_ok, i10, i01, eq_self, decide_true, decide_false, Bool.or_true, Bool.true_or, Bool.or_false, Bool.false_or, cond_true, cond_false, not_true_eq_false, not_false_eq_true, Bool.false_eq_true, and_self, and_true, true_and, and_false, false_and, nI_clamp, ↓inbc, inb_n, nI_pos, nI_1, b11_1_0, b11_1_5, b11_1_10, h]
end
/-- richFor -/
theorem ok_26 : op_26 Inv := by
  intro a1 I t1 t2 k sc hI
  obtain ⟨n, n8, c0, c0', c1, c2, c3, c4, ht, hQ⟩ := hI.head
  by_cases h1 : 1 ≤ a1.toInt ∧ a1.toInt ≤ 100
  · obtain ⟨N, hN, rfl⟩ := nat_of (x := a1) (m := 101) (by omega) (by omega) (by omega)
    rcases c1.2 with i1 | ⟨q, hq, i1⟩
    · have x9 : I 0 8 9 = -1 := c1.1.trans i1
      have l1 : (-1 : Int32) < 0 := by decide
      refine ⟨-1000005, uI I 0 47 4 (I 0 47 4 + 1), uI (uI I 0 47 4 (I 0 47 4 + 1)) 0 60 4 ((uI I 0 47 4 (I 0 47 4 + 1)) 0 60 4 + 1), t1, t2, k, ?_, ?_, hI.find (f := 4) (by omega), by omega⟩
      · simp (disch := omega) only [bnd, bnd0, ↓cdec, ↓cnot, ↓reduceIte, Bo_0, Bo_1, ↓Bo_ok, i10, i01, eq_self, decide_true, decide_false, Bool.or_true, Bool.true_or, Bool.or_false, Bool.false_or, cond_true, cond_false, not_true_eq_false, not_false_eq_true, Bool.false_eq_true, and_self, and_true, true_and, and_false, false_and, nI_clamp, ↓inbc, inb_n, nI_pos, nI_1, b7_27_0, b7_27_7, b7_27_17, b7_27_30, b7_27_36, x_within, k32_1, k32_100, h1, x9, l1, x_f4]
      · simp (disch := omega) only [bnd, bnd0, ↓cdec, ↓cnot, ↓reduceIte, Bo_0, Bo_1, ↓Bo_ok, i10, i01, eq_self, decide_true, decide_false, Bool.or_true, Bool.true_or, Bool.or_false, Bool.false_or, cond_true, cond_false, not_true_eq_false, not_false_eq_true, Bool.false_eq_true, and_self, and_true, true_and, and_false, false_and, nI_clamp, ↓inbc, inb_n, nI_pos, nI_1, b8_64_0, b8_64_9, b8_64_19, b8_64_28, b8_64_34, m_in32, k64_1, k64_100, h1, uI_ne, i1, l1, m_f4]
    · have x9 : I 0 8 9 = nI q := c1.1.trans i1
      obtain ⟨γ, hX, hM, hok⟩ := hI.men
      have hs : SumsOK I t1 k n (cS I) := ⟨n8, c0', ht, hQ⟩
      generalize hh : (fun v => decide (fS (fun p => decide ((goF (nI q) (cS I) (nI (rvN v)) N (dG γ)) 8 p = 1) && !decide (γ 4 p = 1)) 10 = 0)) = h
      have hh' : ∀ v, decide (fS (fun p => decide ((goF (nI q) (cS I) (nI (rvN v)) N (dG γ)) 8 p = 1) && !decide (γ 4 p = 1)) 10 = 0) = h v := fun v => by rw [← hh]
      have xo : ∀ v, outS (goF (nI q) (cS I) (nI (rvN v)) N (dG γ)) &&& (mayS γ ^^^ -1) = fS (fun p => decide ((goF (nI q) (cS I) (nI (rvN v)) N (dG γ)) 8 p = 1) && !decide (γ 4 p = 1)) 10 := fun v => fS_and_not _ _ (by omega)
      have kx : ∀ v (J : IFn), FT I J → ∃ K, FT I K ∧ den (9, 7, 55, 0, [some (vr 0 0), some (vi (nI (rvN v))), some (vi (nI N))], [], mkH (J) t1 t2 k sc) = some (some (vi (if h v = true then 1 else 0)), mkH (K) t1 t2 k sc) := by
        intro v J hf
        obtain ⟨J1, e1, z1, z2, z3, z4⟩ := x_tryDay 5 J t1 t2 k sc (hf.men hX) (nI q)
        have fJ1 : FT J (uI J1 0 35 10 (nI (rvN v))) := fun g j i hn => by rw [uI_ne (by omega)]; exact z4 _ _ _ hn
        have s9 : (uI J1 0 35 10 (nI (rvN v))) 0 35 9 = nI q := by rw [uI_ne (by omega)]; exact z2
        have s10 : (uI J1 0 35 10 (nI (rvN v))) 0 35 10 = nI (rvN v) := uI_at (by omega)
        obtain ⟨K, e2, k1, k2, k3⟩ := x_go 4 (uI J1 0 35 10 (nI (rvN v))) t1 t2 k sc (Or.inr rfl) (show N ≤ 480 by omega) (z1.keep (fun j p _ _ _ => uI_ne (by omega))) (dG_ok hok) ((hs.keep hf).keep fJ1) (by rw [s9]; exact Or.inr ⟨q, hq, rfl⟩)
        rw [s9, s10] at k1
        have fK : FT I K := (hf.trans fJ1).trans (fun g j i hn => k3 _ _ _ (by omega))
        have ok2 := go_ok (R := nI (rvN v)) hs (s := nI q) (Or.inr ⟨q, hq, rfl⟩) N (dG_ok hok)
        have j9 : J 0 8 9 = nI q := by rw [hf _ _ _ (by omega)]; exact x9
        have oX := outX k1 ok2
        have mX := mayX (fK.men hX) hok
        refine ⟨K, fK, ?_⟩
        by_cases hz : h v = true
        · rw [if_pos hz]
          have b0 := of_decide_eq_true ((hh' v).trans hz)
          simp (disch := omega) only [bnd, bnd0, ↓cdec, ↓cnot, ↓reduceIte, Bo_0, Bo_1, ↓Bo_ok, i10, i01, eq_self, decide_true, decide_false, Bool.or_true, Bool.true_or, Bool.or_false, Bool.false_or, cond_true, cond_false, not_true_eq_false, not_false_eq_true, Bool.false_eq_true, and_self, and_true, true_and, and_false, false_and, nI_clamp, ↓inbc, inb_n, nI_pos, nI_1, b7_55_0, b7_55_14, b7_55_37, b7_55_44, b7_55_54, b7_55_60, b7_55_65, j9, e1, e2, x_outSet, x_maySet, oX, mX, xo, b0]
        · rw [if_neg hz]
          have b0 : ¬ fS (fun p => decide ((goF (nI q) (cS I) (nI (rvN v)) N (dG γ)) 8 p = 1) && !decide (γ 4 p = 1)) 10 = 0 := fun y => hz ((hh' v).symm.trans (decide_eq_true y))
          simp (disch := omega) only [bnd, bnd0, ↓cdec, ↓cnot, ↓reduceIte, Bo_0, Bo_1, ↓Bo_ok, i10, i01, eq_self, decide_true, decide_false, Bool.or_true, Bool.true_or, Bool.or_false, Bool.false_or, cond_true, cond_false, not_true_eq_false, not_false_eq_true, Bool.false_eq_true, and_self, and_true, true_and, and_false, false_and, nI_clamp, ↓inbc, inb_n, nI_pos, nI_1, b7_55_0, b7_55_14, b7_55_37, b7_55_44, b7_55_54, b7_55_64, b7_55_65, j9, e1, e2, x_outSet, x_maySet, oX, mX, xo, b0]
      have lx : ∀ r, r ≤ 11 → ∀ (J : IFn) (l : Option AV), lok l → FT I J → ∃ J', FT I J' ∧ ((∀ y, dnF h r = some y → den (9 + 1, 7, 27, 40, [some (vr 0 0), some (vi (nI N)), some (vi (nI r + (-1))), l], [], mkH (J) t1 t2 k sc) = some (some (vi (nI (rvN y))), mkH (J') t1 t2 k sc)) ∧ (dnF h r = none → den (9 + 1, 7, 27, 40, [some (vr 0 0), some (vi (nI N)), some (vi (nI r + (-1))), l], [], mkH (J) t1 t2 k sc) = some (some (vi (-1000004)), mkH (uI J' 0 47 3 (J' 0 47 3 + 1)) t1 t2 k sc))) := by
        intro r
        induction r with
        | zero =>
          intro hr J l hl hf
          refine ⟨J, hf, fun y hy => (by cases hy), fun _ => ?_⟩
          have e0 : nI 0 + (-1) = -1 := by decide
          have l1 : (-1 : Int32) < 0 := by decide
          rw [e0]
          rcases hl with rfl | ⟨y, rfl⟩
          · rw [b7_27_40]
            simp (disch := omega) only [bnd, bnd0, ↓cdec, ↓cnot, ↓reduceIte, Bo_0, Bo_1, ↓Bo_ok, i10, i01, eq_self, decide_true, decide_false, Bool.or_true, Bool.true_or, Bool.or_false, Bool.false_or, cond_true, cond_false, not_true_eq_false, not_false_eq_true, Bool.false_eq_true, and_self, and_true, true_and, and_false, false_and, nI_clamp, ↓inbc, inb_n, nI_pos, nI_1, l1, b7_27_72, b7_27_78, x_f3]
          · rw [b7_27_40w]
            simp (disch := omega) only [bnd, bnd0, ↓cdec, ↓cnot, ↓reduceIte, Bo_0, Bo_1, ↓Bo_ok, i10, i01, eq_self, decide_true, decide_false, Bool.or_true, Bool.true_or, Bool.or_false, Bool.false_or, cond_true, cond_false, not_true_eq_false, not_false_eq_true, Bool.false_eq_true, and_self, and_true, true_and, and_false, false_and, nI_clamp, ↓inbc, inb_n, nI_pos, nI_1, l1, b7_27_72w, b7_27_78w, x_f3]
        | succ v ih =>
          intro hr J l hl hf
          have e0 : nI (v + 1) + (-1) = nI v := by rw [m1_eq, pred_s (by omega)]; rfl
          have xm := fun I => x_min100 9 I t1 t2 k sc (show v ≤ 10 by omega)
          obtain ⟨K, fK, e⟩ := kx v J hf
          have mid : den (9 + 1, 7, 27, 40, [some (vr 0 0), some (vi (nI N)), some (vi (nI v)), l], [], mkH (J) t1 t2 k sc) = den (9 + 1, 7, 27, 61, [some (vr 0 0), some (vi (nI N)), some (vi (nI v)), some (vi (nI (rvN v)))], [vi (if h v = true then 1 else 0)], mkH (K) t1 t2 k sc) := by
            rcases hl with rfl | ⟨y, rfl⟩
            · rw [b7_27_40]
              simp (disch := omega) only [bnd, bnd0, ↓cdec, ↓cnot, ↓reduceIte, Bo_0, Bo_1, ↓Bo_ok, i10, i01, eq_self, decide_true, decide_false, Bool.or_true, Bool.true_or, Bool.or_false, Bool.false_or, cond_true, cond_false, not_true_eq_false, not_false_eq_true, Bool.false_eq_true, and_self, and_true, true_and, and_false, false_and, nI_clamp, ↓inbc, inb_n, nI_pos, nI_1, b7_27_44, b7_27_54, xm, e]
            · rw [b7_27_40w]
              simp (disch := omega) only [bnd, bnd0, ↓cdec, ↓cnot, ↓reduceIte, Bo_0, Bo_1, ↓Bo_ok, i10, i01, eq_self, decide_true, decide_false, Bool.or_true, Bool.true_or, Bool.or_false, Bool.false_or, cond_true, cond_false, not_true_eq_false, not_false_eq_true, Bool.false_eq_true, and_self, and_true, true_and, and_false, false_and, nI_clamp, ↓inbc, inb_n, nI_pos, nI_1, b7_27_44w, b7_27_54w, xm, e]
          rw [e0, mid, dnF]
          by_cases hz : h v = true
          · rw [if_pos hz, if_pos hz]
            refine ⟨K, fK, fun y hy => ?_, fun hy => (by cases hy)⟩
            have ey : v = y := Option.some.inj hy
            subst ey
            simp (disch := omega) only [bnd, bnd0, ↓cdec, ↓cnot, ↓reduceIte, Bo_0, Bo_1, ↓Bo_ok, i10, i01, eq_self, decide_true, decide_false, Bool.or_true, Bool.true_or, Bool.or_false, Bool.false_or, cond_true, cond_false, not_true_eq_false, not_false_eq_true, Bool.false_eq_true, and_self, and_true, true_and, and_false, false_and, nI_clamp, ↓inbc, inb_n, nI_pos, nI_1, b7_27_61, b7_27_64]
          · rw [if_neg hz, if_neg hz]
            obtain ⟨J', f', g1, g2'⟩ := ih (by omega) K (some (vi (nI (rvN v)))) (Or.inr ⟨_, rfl⟩) fK
            refine ⟨J', f', fun y hy => Eq.trans ?_ (g1 y hy), fun hy => Eq.trans ?_ (g2' hy)⟩
            · simp (disch := omega) only [bnd, bnd0, ↓cdec, ↓cnot, ↓reduceIte, Bo_0, Bo_1, ↓Bo_ok, i10, i01, eq_self, decide_true, decide_false, Bool.or_true, Bool.true_or, Bool.or_false, Bool.false_or, cond_true, cond_false, not_true_eq_false, not_false_eq_true, Bool.false_eq_true, and_self, and_true, true_and, and_false, false_and, nI_clamp, ↓inbc, inb_n, nI_pos, nI_1, b7_27_61, b7_27_66]
            · simp (disch := omega) only [bnd, bnd0, ↓cdec, ↓cnot, ↓reduceIte, Bo_0, Bo_1, ↓Bo_ok, i10, i01, eq_self, decide_true, decide_false, Bool.or_true, Bool.true_or, Bool.or_false, Bool.false_or, cond_true, cond_false, not_true_eq_false, not_false_eq_true, Bool.false_eq_true, and_self, and_true, true_and, and_false, false_and, nI_clamp, ↓inbc, inb_n, nI_pos, nI_1, b7_27_61, b7_27_66]
      have hmL : ∀ I1 : IFn, (∀ i, I1 0 57 i = I 0 57 i) → ∃ J : IFn, den (9 + 1, 8, 64, 47, [some (vr 0 56), some (vi (nI N)), some (vi (I 0 57 3)), some (vi (rvI (dnF h 0))), some (vi (nI 0))], [], mkH (I1) t1 t2 k sc) = den (9 + 1, 8, 64, 47, [some (vr 0 56), some (vi (nI N)), some (vi (I 0 57 3)), some (vi (rvI (dnF h 11))), some (vi (nI 11))], [], mkH (J) t1 t2 k sc) ∧ ∀ g j i, ¬ (g = 0 ∧ (j = 59 ∨ j = 64 ∨ j = 65 ∨ (j = 57 ∧ i = 3))) → J g j i = I1 g j i := by
        intro I1 hI1
        refine lpE (fun r J => den (9 + 1, 8, 64, 47, [some (vr 0 56), some (vi (nI N)), some (vi (I 0 57 3)), some (vi (rvI (dnF h r))), some (vi (nI r))], [], mkH (J) t1 t2 k sc)) (fun r J => ∀ g j i, ¬ (g = 0 ∧ (j = 59 ∨ j = 64 ∨ j = 65 ∨ (j = 57 ∧ i = 3))) → J g j i = I1 g j i) (N := 11) ?_ 0 I1 (by omega) (fun _ _ _ _ => rfl)
        intro v J hv hf
        have rJ : ∀ i, i ≠ 3 → (uI J 0 57 3 (nI (rvN v))) 0 57 i = I 0 57 i := fun i hi => by rw [uI_ne (by omega), hf _ _ _ (by omega), hI1]
        have hMJ : MenM (uI J 0 57 3 (nI (rvN v))) γ := hM.keep (fun i h5 _ => rJ i (by omega))
        obtain ⟨K, e, fK⟩ := m_letsOut 3 (uI J 0 57 3 (nI (rvN v))) t1 t2 k sc hq (show N ≤ 480 by omega) hMJ hok hs (fun q _ => funext fun a => rJ _ (by omega))
        have s3 : (uI J 0 57 3 (nI (rvN v))) 0 57 3 = nI (rvN v) := uI_at (by omega)
        rw [s3] at e
        have j1 : (uI J 0 57 3 (nI (rvN v))) 0 57 1 = nI q := by rw [rJ 1 (by omega)]; exact i1
        have k3 : K 0 57 3 = nI (rvN v) := by rw [fK _ _ _ (by omega)]; exact s3
        have mm := mayM (fK.men hMJ)
        refine ⟨K, ?_, fun g j i hn => by rw [fK _ _ _ (by omega), uI_ne (by omega)]; exact hf _ _ _ hn⟩
        have i3 : inb 3 465 = true := by decide
        have c3' : (3 : Int32).toNatClampNeg = 3 := by decide
        have mid : den (9 + 1, 8, 64, 47, [some (vr 0 56), some (vi (nI N)), some (vi (I 0 57 3)), some (vi (rvI (dnF h v))), some (vi (nI v))], [], mkH (J) t1 t2 k sc) = bif decide (fS (fun p => decide ((goF (nI q) (cS I) (nI (rvN v)) N (dG γ)) 8 p = 1) && !decide (γ 4 p = 1)) 10 = 0) then den (9 + 1, 8, 64, 99, [some (vr 0 56), some (vi (nI N)), some (vi (I 0 57 3)), some (vi (rvI (dnF h v))), some (vi (nI v))], [], mkH (K) t1 t2 k sc) else den (9 + 1, 8, 64, 108, [some (vr 0 56), some (vi (nI N)), some (vi (I 0 57 3)), some (vi (rvI (dnF h v))), some (vi (nI v))], [], mkH (K) t1 t2 k sc) := by
          rw [b8_64_47]
          by_cases h10 : (nI v : Int32) = 10
          · have r9 := (rv_key v (by omega)).2.1 h10
            have h10' : ((nI v : Int32) = 10) = True := eq_true h10
            simp (disch := omega) only [bnd, bnd0, ↓cdec, ↓cnot, ↓reduceIte, Bo_0, Bo_1, ↓Bo_ok, i10, i01, eq_self, decide_true, decide_false, Bool.or_true, Bool.true_or, Bool.or_false, Bool.false_or, cond_true, cond_false, not_true_eq_false, not_false_eq_true, Bool.false_eq_true, and_self, and_true, true_and, and_false, false_and, nI_clamp, ↓inbc, inb_n, nI_pos, nI_1, lt_11, hv, h10', b8_64_54, b8_64_66, b8_64_77, b8_64_89, b8_64_93, r9, i3, c3', j1, e, m_maySet, mm, xo]
          · have r9 := (rv_key v (by omega)).2.2 h10
            simp (disch := omega) only [bnd, bnd0, ↓cdec, ↓cnot, ↓reduceIte, Bo_0, Bo_1, ↓Bo_ok, i10, i01, eq_self, decide_true, decide_false, Bool.or_true, Bool.true_or, Bool.or_false, Bool.false_or, cond_true, cond_false, not_true_eq_false, not_false_eq_true, Bool.false_eq_true, and_self, and_true, true_and, and_false, false_and, nI_clamp, ↓inbc, inb_n, nI_pos, nI_1, lt_11, hv, h10, b8_64_54, b8_64_72, b8_64_77, b8_64_89, b8_64_93, r9, i3, c3', j1, e, m_maySet, mm, xo]
        refine mid.trans ?_
        rw [hh' v, dnF]
        by_cases hz : h v = true
        · rw [hz, if_pos rfl, rvI]
          simp (disch := omega) only [bnd, bnd0, ↓cdec, ↓cnot, ↓reduceIte, Bo_0, Bo_1, ↓Bo_ok, i10, i01, eq_self, decide_true, decide_false, Bool.or_true, Bool.true_or, Bool.or_false, Bool.false_or, cond_true, cond_false, not_true_eq_false, not_false_eq_true, Bool.false_eq_true, and_self, and_true, true_and, and_false, false_and, nI_clamp, ↓inbc, inb_n, nI_pos, nI_1, b8_64_99, b8_64_109, k3]
        · rw [if_neg hz, Bool.eq_false_iff.mpr hz]
          simp (disch := omega) only [bnd, bnd0, ↓cdec, ↓cnot, ↓reduceIte, Bo_0, Bo_1, ↓Bo_ok, i10, i01, eq_self, decide_true, decide_false, Bool.or_true, Bool.true_or, Bool.or_false, Bool.false_or, cond_true, cond_false, not_true_eq_false, not_false_eq_true, Bool.false_eq_true, and_self, and_true, true_and, and_false, false_and, nI_clamp, ↓inbc, inb_n, nI_pos, nI_1, b8_64_108, b8_64_109]
      obtain ⟨J1, f1, gs, gn⟩ := lx 11 (by omega) I none (Or.inl rfl) FT.rfl
      have hx0 : den (10, 7, 27, 0, [some (vr 0 0), some (vi (nI N)), none, none], [], mkH I t1 t2 k sc) = den (9 + 1, 7, 27, 40, [some (vr 0 0), some (vi (nI N)), some (vi (nI 11 + (-1))), none], [], mkH I t1 t2 k sc) := by
        simp (disch := omega) only [bnd, bnd0, ↓cdec, ↓cnot, ↓reduceIte, Bo_0, Bo_1, ↓Bo_ok, i10, i01, eq_self, decide_true, decide_false, Bool.or_true, Bool.true_or, Bool.or_false, Bool.false_or, cond_true, cond_false, not_true_eq_false, not_false_eq_true, Bool.false_eq_true, and_self, and_true, true_and, and_false, false_and, nI_clamp, ↓inbc, inb_n, nI_pos, nI_1, b7_27_0, b7_27_7, b7_27_17, b7_27_37, x_within, k32_1, k32_100, h1, x9]
        rfl
      have hm0 : ∀ I1 : IFn, (∀ i, I1 0 57 i = I 0 57 i) → ∃ J' : IFn, FB I1 (uI J' 0 57 3 (I 0 57 3)) ∧ den (10, 8, 64, 0, [some (vr 0 56), some (vi (nI N)), none, none, none], [], mkH (I1) t1 t2 k sc) = den (9 + 1, 8, 64, 116, [some (vr 0 56), some (vi (nI N)), some (vi (I 0 57 3)), some (vi (rvI (dnF h 11))), some (vi (nI 11))], [], mkH (J') t1 t2 k sc) := by
        intro I1 hI1
        obtain ⟨J', g1, f'⟩ := hmL I1 hI1
        have i1' : I1 0 57 1 = nI q := (hI1 1).trans i1
        have hl : ¬ 11 < 11 := by omega
        refine ⟨J', fun g j i hn => ?_, Eq.trans ?_ (g1.trans ?_)⟩
        · by_cases e : g = 0 ∧ j = 57 ∧ i = 3
          · rw [uI_at e, e.1, e.2.1, e.2.2, hI1]
          · rw [uI_ne e]; exact f' _ _ _ (by omega)
        · simp (disch := omega) only [bnd, bnd0, ↓cdec, ↓cnot, ↓reduceIte, Bo_0, Bo_1, ↓Bo_ok, i10, i01, eq_self, decide_true, decide_false, Bool.or_true, Bool.true_or, Bool.or_false, Bool.false_or, cond_true, cond_false, not_true_eq_false, not_false_eq_true, Bool.false_eq_true, and_self, and_true, true_and, and_false, false_and, nI_clamp, ↓inbc, inb_n, nI_pos, nI_1, b8_64_0, b8_64_9, b8_64_19, b8_64_35, m_in32, k64_1, k64_100, h1, i1', hI1]
          rfl
        · rw [b8_64_47]
          simp (disch := omega) only [bnd, bnd0, ↓cdec, ↓cnot, ↓reduceIte, Bo_0, Bo_1, ↓Bo_ok, i10, i01, eq_self, decide_true, decide_false, Bool.or_true, Bool.true_or, Bool.or_false, Bool.false_or, cond_true, cond_false, not_true_eq_false, not_false_eq_true, Bool.false_eq_true, and_self, and_true, true_and, and_false, false_and, nI_clamp, ↓inbc, inb_n, nI_pos, nI_1, lt_11, hl]
      cases hw : dnF h 11 with
      | some y =>
        have y9 := dn_le 11 y hw
        have y99 := rvN_le (show y ≤ 10 by omega)
        obtain ⟨J2, f2, em⟩ := hm0 J1 (fun i => f1 _ _ _ (by omega))
        rw [hw, rvI] at em
        refine ⟨nI (rvN y), J1, uI J2 0 57 3 (I 0 57 3), t1, t2, k, hx0.trans (gs y hw), em.trans ?_, hI.garb (FTB.al f1 f2), by omega⟩
        simp (disch := omega) only [bnd, bnd0, ↓cdec, ↓cnot, ↓reduceIte, Bo_0, Bo_1, ↓Bo_ok, i10, i01, eq_self, decide_true, decide_false, Bool.or_true, Bool.true_or, Bool.or_false, Bool.false_or, cond_true, cond_false, not_true_eq_false, not_false_eq_true, Bool.false_eq_true, and_self, and_true, true_and, and_false, false_and, nI_clamp, ↓inbc, inb_n, nI_pos, nI_1, b8_64_116, b8_64_136, b8_64_137]
      | none =>
        obtain ⟨J2, f2, em⟩ := hm0 (uI J1 0 47 3 (J1 0 47 3 + 1)) (fun i => by rw [uI_ne (by omega)]; exact f1 _ _ _ (by omega))
        rw [hw, rvI] at em
        have l1 : (-1 : Int32) < 0 := by decide
        generalize hK : uI J2 0 57 3 (I 0 57 3) = K at f2
        refine ⟨-1000004, uI J1 0 47 3 (J1 0 47 3 + 1), uI K 0 60 3 (K 0 60 3 + 1), t1, t2, k, hx0.trans (gn hw), em.trans ?_, hI.findG (f := 3) (by omega) ?_ ?_, by omega⟩
        · simp (disch := omega) only [bnd, bnd0, ↓cdec, ↓cnot, ↓reduceIte, Bo_0, Bo_1, ↓Bo_ok, i10, i01, eq_self, decide_true, decide_false, Bool.or_true, Bool.true_or, Bool.or_false, Bool.false_or, cond_true, cond_false, not_true_eq_false, not_false_eq_true, Bool.false_eq_true, and_self, and_true, true_and, and_false, false_and, nI_clamp, ↓inbc, inb_n, nI_pos, nI_1, b8_64_116, b8_64_127, b8_64_133, b8_64_137, l1, hK, m_f3]
        · rw [f2 _ _ _ (by omega), uI_at (by omega), f1 _ _ _ (by omega)]
        · intro g j i hg hn
          unfold Gb at hg
          rw [f2 _ _ _ (by omega), uI_ne (by omega), f1 _ _ _ (by omega)]
  · refine ⟨-1000001, uI I 0 47 0 (I 0 47 0 + 1), uI (uI I 0 47 0 (I 0 47 0 + 1)) 0 60 0 ((uI I 0 47 0 (I 0 47 0 + 1)) 0 60 0 + 1), t1, t2, k, ?_, ?_, hI.find (f := 0) (by omega), by omega⟩
    · simp (disch := omega) only [bnd, bnd0, ↓cdec, ↓cnot, ↓reduceIte, Bo_0, Bo_1, ↓Bo_ok, i10, i01, eq_self, decide_true, decide_false, Bool.or_true, Bool.true_or, Bool.or_false, Bool.false_or, cond_true, cond_false, not_true_eq_false, not_false_eq_true, Bool.false_eq_true, and_self, and_true, true_and, and_false, false_and, nI_clamp, ↓inbc, inb_n, nI_pos, nI_1, b7_27_0, b7_27_7, b7_27_10, b7_27_16, x_within, k32_1, k32_100, h1, x_f0]
    · simp (disch := omega) only [bnd, bnd0, ↓cdec, ↓cnot, ↓reduceIte, Bo_0, Bo_1, ↓Bo_ok, i10, i01, eq_self, decide_true, decide_false, Bool.or_true, Bool.true_or, Bool.or_false, Bool.false_or, cond_true, cond_false, not_true_eq_false, not_false_eq_true, Bool.false_eq_true, and_self, and_true, true_and, and_false, false_and, nI_clamp, ↓inbc, inb_n, nI_pos, nI_1, b8_64_0, b8_64_9, b8_64_12, b8_64_18, m_in32, k64_1, k64_100, h1, m_f0]
