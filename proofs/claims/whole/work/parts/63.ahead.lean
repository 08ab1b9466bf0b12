/-! ahead, when, choose -/
theorem ansX {g : Nat} {I : IFn} {γ : Men} (hm : MenX g I γ) : fS (fun p => !decide (I 0 (g + 7) p < 0)) 10 = fS (fun p => !decide (γ 6 p < 0)) 10 := fS_congr (fun p hp => by rw [show I 0 (g + 7) p = γ 6 p from hm 6 p (by omega) hp])
theorem chaX {g : Nat} {I : IFn} {γ : Men} (hm : MenX g I γ) : sF (fun p => I 0 (g + 2) p) 10 = sF (fun p => γ 1 p) 10 := sF_congr (fun p hp => hm 1 p (by omega) hp)
theorem chaM {I : IFn} {γ : Men} (hm : MenM I γ) : sF (fun p => I 0 57 (5 + 9 * p + 1)) 10 = sF (fun p => γ 1 p) 10 := sF_congr (fun p hp => hm 1 p (by omega) hp)
theorem gt_280 {n : Nat} (h : n < 2147483648) : ((280 : Int32) < nI n) = (280 < n) := propext (nI_ltI (a := 280) (by decide) h)
theorem FT.al {I J : IFn} (h : FT I J) : Al I J := fun g j i q => h _ _ _ (by unfold Gb at q; omega)
/-- ahead -/
theorem ok_19 : op_19 Inv := by
  intro a1 a2 I t1 t2 k sc hI
  by_cases h1 : 0 ≤ a1.toInt ∧ a1.toInt ≤ 200
  · by_cases h2 : 0 ≤ a2.toInt ∧ a2.toInt ≤ 2
    · obtain ⟨N, hN, rfl⟩ := nat_of (x := a1) (m := 201) h1.1 (by omega) (by omega)
      obtain ⟨w, hw, rfl⟩ := nat_of (x := a2) (m := 3) h2.1 (by omega) (by omega)
      obtain ⟨γ, hX, hM, hok⟩ := hI.men
      obtain ⟨n, n8, c0, c0', c1, c2, c3, c4, ht, hQ⟩ := hI.head
      have hs : SumsOK I t1 k n (cS I) := ⟨n8, c0', ht, hQ⟩
      obtain ⟨m, -, m480, em⟩ := c2.2
      have em' : I 0 8 11 = nI m := c2.1.trans em
      by_cases hlim : 480 < m + N
      · refine ⟨-1000005, uI I 0 47 4 (I 0 47 4 + 1), _, t1, t2, k, ?_, ?_, hI.find (f := 4) (by omega), by omega⟩
        · simp (disch := omega) only [bnd, bnd0, ↓cdec, ↓cnot, ↓reduceIte, Bo_0, Bo_1, ↓Bo_ok, i10, i01, eq_self, decide_true, decide_false, Bool.or_true, Bool.true_or, Bool.or_false, Bool.false_or, cond_true, cond_false, not_true_eq_false, not_false_eq_true, Bool.false_eq_true, and_self, and_true, true_and, and_false, false_and, nI_clamp, ↓inbc, inb_n, nI_pos, nI_1, b7_20_0, b7_20_8, b7_20_11, b7_20_17, b7_20_27, b7_20_45, b7_20_51, x_within, k32_0, k32_200, k32_2, h1, h2, em', nI_add, gt_480, hlim, x_f4]
        · simp (disch := omega) only [bnd, bnd0, ↓cdec, ↓cnot, ↓reduceIte, Bo_0, Bo_1, ↓Bo_ok, i10, i01, eq_self, decide_true, decide_false, Bool.or_true, Bool.true_or, Bool.or_false, Bool.false_or, cond_true, cond_false, not_true_eq_false, not_false_eq_true, Bool.false_eq_true, and_self, and_true, true_and, and_false, false_and, nI_clamp, ↓inbc, inb_n, nI_pos, nI_1, b8_54_0, b8_54_9, b8_54_12, b8_54_21, b8_54_31, b8_54_45, b8_54_51, m_in32, k64_0, k64_200, k64_2, h1, h2, uI_ne, em, nI_add, gt_480, hlim, m_f4]
      · obtain ⟨J0, e0, z1, z2, z3, z4, z5⟩ := x_trial 8 I t1 t2 k sc hX
        obtain ⟨J1, e1, x1, x2, x3⟩ := x_go 5 J0 t1 t2 k sc (Or.inr rfl) (show N ≤ 480 by omega) z1 hok (hs.keep z5) (by rw [z2, c1.1]; exact c1.2)
        rw [z2, z3, c1.1, c3.1] at x1
        have f1 : FT I J1 := z5.trans (fun g j i h => x3 _ _ _ (by omega))
        have r1 : ∀ i, J1 0 57 i = I 0 57 i := fun i => f1 _ _ _ (by omega)
        obtain ⟨IP, eP, p1, p2⟩ := m_puts 9 J1 t1 t2 k sc
        have rP : ∀ i, IP 0 57 i = I 0 57 i := fun i => by rw [p2 _ _ _ (by omega), r1]
        obtain ⟨J2, e2, y1, y2, y3⟩ := m_go 4 IP t1 t2 k sc (show N ≤ 480 by omega) (hM.keep (fun i _ _ => rP i)) hok hs (fun q _ => funext fun a => rP _) (by rw [rP]; exact c1.2)
        rw [rP, rP] at y1
        have ok2 := go_ok (R := I 0 57 3) hs c1.2 N hok
        obtain ⟨J3, e3, f3⟩ := m_undo 9 t1 t2 k sc (IQ := J2) p1 p2 (fun g j i h => y3 _ _ _ (by omega))
        generalize goF (I 0 57 1) (cS I) (I 0 57 3) N γ = δ at x1 y1 ok2
        have lm : den (9 + 1, 8, 54, 66, [some (vr 0 56), some (vi (nI N)), some (vi (nI w)), some (vi 0), some (vi 0)], [], mkH (J2) t1 t2 k sc) = den (9 + 1, 8, 54, 105, [some (vr 0 56), some (vi (nI N)), some (vi (nI w)), some (vi (fS (fun p => !decide (δ 6 p < 0)) 10)), some (vi (nI 10))], [], mkH (J2) t1 t2 k sc) := by
          have st : ∀ p, p < 10 → den (9 + 1, 8, 54, 66, [some (vr 0 56), some (vi (nI N)), some (vi (nI w)), some (vi (fS (fun p => !decide (δ 6 p < 0)) p)), some (vi (nI p))], [], mkH (J2) t1 t2 k sc) = den (9 + 1, 8, 54, 66, [some (vr 0 56), some (vi (nI N)), some (vi (nI w)), some (vi (fS (fun p => !decide (δ 6 p < 0)) (p + 1))), some (vi (nI (p + 1)))], [], mkH (J2) t1 t2 k sc) := by
            intro p hp
            have e6 : J2 0 57 (5 + 9 * p + 6) = δ 6 p := y1 6 p (by omega) hp
            rw [b8_54_66]
            by_cases h : δ 6 p < 0
            · rw [fS_f (n := p) (by rw [decide_eq_true h]; rfl)]
              simp (disch := omega) only [bnd, bnd0, ↓cdec, ↓cnot, ↓reduceIte, Bo_0, Bo_1, ↓Bo_ok, i10, i01, eq_self, decide_true, decide_false, Bool.or_true, Bool.true_or, Bool.or_false, Bool.false_or, cond_true, cond_false, not_true_eq_false, not_false_eq_true, Bool.false_eq_true, and_self, and_true, true_and, and_false, false_and, nI_clamp, ↓inbc, inb_n, nI_pos, nI_1, lt_10, hp, b8_54_73, b8_54_85, b8_54_89, b8_54_97, mA_6, e6, h, or0]
            · rw [fS_t (n := p) (by rw [decide_eq_false h]; rfl)]
              simp (disch := omega) only [bnd, bnd0, ↓cdec, ↓cnot, ↓reduceIte, Bo_0, Bo_1, ↓Bo_ok, i10, i01, eq_self, decide_true, decide_false, Bool.or_true, Bool.true_or, Bool.or_false, Bool.false_or, cond_true, cond_false, not_true_eq_false, not_false_eq_true, Bool.false_eq_true, and_self, and_true, true_and, and_false, false_and, nI_clamp, ↓inbc, inb_n, nI_pos, nI_1, lt_10, hp, b8_54_73, b8_54_85, b8_54_93, b8_54_97, mA_6, e6, h]
          refine (lp (fun p => den (9 + 1, 8, 54, 66, [some (vr 0 56), some (vi (nI N)), some (vi (nI w)), some (vi (fS (fun p => !decide (δ 6 p < 0)) p)), some (vi (nI p))], [], mkH (J2) t1 t2 k sc)) st 0 (by omega)).trans ?_
          rw [b8_54_66]
          simp (disch := omega) only [bnd, bnd0, ↓cdec, ↓cnot, ↓reduceIte, Bo_0, Bo_1, ↓Bo_ok, i10, i01, eq_self, decide_true, decide_false, Bool.or_true, Bool.true_or, Bool.or_false, Bool.false_or, cond_true, cond_false, not_true_eq_false, not_false_eq_true, Bool.false_eq_true, and_self, and_true, true_and, and_false, false_and, nI_clamp, ↓inbc, inb_n, nI_pos, nI_1, lt_10, Nat.lt_irrefl]
        have hnl : ¬ 480 < m + N := hlim
        have hx0 : den (10, 7, 20, 0, [some (vr 0 0), some (vi (nI N)), some (vi (nI w))], [], mkH I t1 t2 k sc) = den (9 + 1, 7, 20, 81, [some (vr 0 0), some (vi (nI N)), some (vi (nI w))], [], mkH (J1) t1 t2 k sc) := by
          simp (disch := omega) only [bnd, bnd0, ↓cdec, ↓cnot, ↓reduceIte, Bo_0, Bo_1, ↓Bo_ok, i10, i01, eq_self, decide_true, decide_false, Bool.or_true, Bool.true_or, Bool.or_false, Bool.false_or, cond_true, cond_false, not_true_eq_false, not_false_eq_true, Bool.false_eq_true, and_self, and_true, true_and, and_false, false_and, nI_clamp, ↓inbc, inb_n, nI_pos, nI_1, b7_20_0, b7_20_8, b7_20_11, b7_20_17, b7_20_27, b7_20_52, b7_20_66, x_within, k32_0, k32_200, k32_2, h1, h2, em', nI_add, gt_480, hnl, e0, e1]
        have hm0 : den (10, 8, 54, 0, [some (vr 0 56), some (vi (nI N)), some (vi (nI w)), none, none], [], mkH (J1) t1 t2 k sc) = den (9 + 1, 8, 54, 105, [some (vr 0 56), some (vi (nI N)), some (vi (nI w)), some (vi (fS (fun p => !decide (δ 6 p < 0)) 10)), some (vi (nI 10))], [], mkH (J2) t1 t2 k sc) := by
          have em1 : J1 0 57 2 = nI m := (r1 2).trans em
          refine Eq.trans ?_ lm
          simp (disch := omega) only [bnd, bnd0, ↓cdec, ↓cnot, ↓reduceIte, Bo_0, Bo_1, ↓Bo_ok, i10, i01, eq_self, decide_true, decide_false, Bool.or_true, Bool.true_or, Bool.or_false, Bool.false_or, cond_true, cond_false, not_true_eq_false, not_false_eq_true, Bool.false_eq_true, and_self, and_true, true_and, and_false, false_and, nI_clamp, ↓inbc, inb_n, nI_pos, nI_1, b8_54_0, b8_54_9, b8_54_12, b8_54_21, b8_54_31, b8_54_52, b8_54_56, b8_54_61, m_in32, k64_0, k64_200, k64_2, h1, h2, em1, nI_add, gt_480, hnl, eP, e2]
        have fin : Inv J3 t1 t2 k := hI.garb (FTB.al f1 f3)
        have ox := outX x1 ok2
        have om := outM y1
        have ax := ansX x1
        have cx := chaX x1
        have cm := chaM y1
        match w, hw with
        | 0, _ =>
          refine ⟨outS δ, J1, J3, t1, t2, k, hx0.trans ?_, hm0.trans ?_, fin, by omega⟩
          · simp (disch := omega) only [bnd, bnd0, ↓cdec, ↓cnot, ↓reduceIte, Bo_0, Bo_1, ↓Bo_ok, i10, i01, eq_self, decide_true, decide_false, Bool.or_true, Bool.true_or, Bool.or_false, Bool.false_or, cond_true, cond_false, not_true_eq_false, not_false_eq_true, Bool.false_eq_true, and_self, and_true, true_and, and_false, false_and, nI_clamp, ↓inbc, inb_n, nI_pos, nI_1, b7_20_81, b7_20_85, b7_20_92, eq_0, x_outSet, ox]
          · simp (disch := omega) only [bnd, bnd0, ↓cdec, ↓cnot, ↓reduceIte, Bo_0, Bo_1, ↓Bo_ok, i10, i01, eq_self, decide_true, decide_false, Bool.or_true, Bool.true_or, Bool.or_false, Bool.false_or, cond_true, cond_false, not_true_eq_false, not_false_eq_true, Bool.false_eq_true, and_self, and_true, true_and, and_false, false_and, nI_clamp, ↓inbc, inb_n, nI_pos, nI_1, b8_54_105, b8_54_109, b8_54_113, b8_54_129, b8_54_135, eq_0, m_outs, om, e3]
        | 1, _ =>
          have z : ¬ nI 1 = 0 := by decide
          refine ⟨fS (fun p => !decide (δ 6 p < 0)) 10, J1, J3, t1, t2, k, hx0.trans ?_, hm0.trans ?_, fin, by omega⟩
          · simp (disch := omega) only [bnd, bnd0, ↓cdec, ↓cnot, ↓reduceIte, Bo_0, Bo_1, ↓Bo_ok, i10, i01, eq_self, decide_true, decide_false, Bool.or_true, Bool.true_or, Bool.or_false, Bool.false_or, cond_true, cond_false, not_true_eq_false, not_false_eq_true, Bool.false_eq_true, and_self, and_true, true_and, and_false, false_and, nI_clamp, ↓inbc, inb_n, nI_pos, nI_1, b7_20_81, b7_20_93, b7_20_98, b7_20_105, b7_20_115, z, eq_1, x_answerSet, ax]
          · simp (disch := omega) only [bnd, bnd0, ↓cdec, ↓cnot, ↓reduceIte, Bo_0, Bo_1, ↓Bo_ok, i10, i01, eq_self, decide_true, decide_false, Bool.or_true, Bool.true_or, Bool.or_false, Bool.false_or, cond_true, cond_false, not_true_eq_false, not_false_eq_true, Bool.false_eq_true, and_self, and_true, true_and, and_false, false_and, nI_clamp, ↓inbc, inb_n, nI_pos, nI_1, b8_54_105, b8_54_116, b8_54_121, b8_54_129, b8_54_135, z, eq_1, e3]
        | 2, _ =>
          have z : ¬ nI 2 = 0 := by decide
          have z2 : ¬ nI 2 = 1 := by decide
          refine ⟨sF (fun p => δ 1 p) 10, J1, J3, t1, t2, k, hx0.trans ?_, hm0.trans ?_, fin, by omega⟩
          · simp (disch := omega) only [bnd, bnd0, ↓cdec, ↓cnot, ↓reduceIte, Bo_0, Bo_1, ↓Bo_ok, i10, i01, eq_self, decide_true, decide_false, Bool.or_true, Bool.true_or, Bool.or_false, Bool.false_or, cond_true, cond_false, not_true_eq_false, not_false_eq_true, Bool.false_eq_true, and_self, and_true, true_and, and_false, false_and, nI_clamp, ↓inbc, inb_n, nI_pos, nI_1, b7_20_81, b7_20_93, b7_20_108, b7_20_115, z, z2, x_allChalk, cx]
          · simp (disch := omega) only [bnd, bnd0, ↓cdec, ↓cnot, ↓reduceIte, Bo_0, Bo_1, ↓Bo_ok, i10, i01, eq_self, decide_true, decide_false, Bool.or_true, Bool.true_or, Bool.or_false, Bool.false_or, cond_true, cond_false, not_true_eq_false, not_false_eq_true, Bool.false_eq_true, and_self, and_true, true_and, and_false, false_and, nI_clamp, ↓inbc, inb_n, nI_pos, nI_1, b8_54_105, b8_54_116, b8_54_125, b8_54_129, b8_54_135, z, z2, m_chalks, cm, e3]
        | w + 3, h => omega
    · refine ⟨-1000001, uI I 0 47 0 (I 0 47 0 + 1), _, t1, t2, k, ?_, ?_, hI.find (f := 0) (by omega), by omega⟩
      · simp (disch := omega) only [bnd, bnd0, ↓cdec, ↓cnot, ↓reduceIte, Bo_0, Bo_1, ↓Bo_ok, i10, i01, eq_self, decide_true, decide_false, Bool.or_true, Bool.true_or, Bool.or_false, Bool.false_or, cond_true, cond_false, not_true_eq_false, not_false_eq_true, Bool.false_eq_true, and_self, and_true, true_and, and_false, false_and, nI_clamp, ↓inbc, inb_n, nI_pos, nI_1, b7_20_0, b7_20_8, b7_20_11, b7_20_17, b7_20_20, b7_20_26, x_within, k32_0, k32_200, k32_2, h1, h2, x_f0]
      · simp (disch := omega) only [bnd, bnd0, ↓cdec, ↓cnot, ↓reduceIte, Bo_0, Bo_1, ↓Bo_ok, i10, i01, eq_self, decide_true, decide_false, Bool.or_true, Bool.true_or, Bool.or_false, Bool.false_or, cond_true, cond_false, not_true_eq_false, not_false_eq_true, Bool.false_eq_true, and_self, and_true, true_and, and_false, false_and, nI_clamp, ↓inbc, inb_n, nI_pos, nI_1, b8_54_0, b8_54_9, b8_54_12, b8_54_21, b8_54_24, b8_54_30, m_in32, k64_0, k64_200, k64_2, h1, h2, m_f0]
  · refine ⟨-1000001, uI I 0 47 0 (I 0 47 0 + 1), _, t1, t2, k, ?_, ?_, hI.find (f := 0) (by omega), by omega⟩
    · simp (disch := omega) only [bnd, bnd0, ↓cdec, ↓cnot, ↓reduceIte, Bo_0, Bo_1, ↓Bo_ok, i10, i01, eq_self, decide_true, decide_false, Bool.or_true, Bool.true_or, Bool.or_false, Bool.false_or, cond_true, cond_false, not_true_eq_false, not_false_eq_true, Bool.false_eq_true, and_self, and_true, true_and, and_false, false_and, nI_clamp, ↓inbc, inb_n, nI_pos, nI_1, b7_20_0, b7_20_8, b7_20_20, b7_20_26, x_within, k32_0, k32_200, h1, x_f0]
    · simp (disch := omega) only [bnd, bnd0, ↓cdec, ↓cnot, ↓reduceIte, Bo_0, Bo_1, ↓Bo_ok, i10, i01, eq_self, decide_true, decide_false, Bool.or_true, Bool.true_or, Bool.or_false, Bool.false_or, cond_true, cond_false, not_true_eq_false, not_false_eq_true, Bool.false_eq_true, and_self, and_true, true_and, and_false, false_and, nI_clamp, ↓inbc, inb_n, nI_pos, nI_1, b8_54_0, b8_54_9, b8_54_24, b8_54_30, m_in32, k64_0, k64_200, h1, m_f0]
/-- the first minute after which he is out -/
def whF (F : Men → Men) (p : Nat) : Nat → Nat → Men → Option Nat
  | 0, _, _ => none
  | m + 1, n, γ => if (F γ) 8 p = 0 then whF F p m (n + 1) (F γ) else some (n + 1)
section
variable (d : Nat) (I : IFn) (t1 t2 : TFn) (k : Nat) (sc : Nat × (Nat → Int32))
theorem m_min1 {n : Nat} {Cf : Nat → Nat → Int32} {γ : Men} {K : IFn} (hm : MenM I γ) (hok : okMn γ) (hs : SumsOK K t1 k n Cf) (hC : ∀ q, q < n → cS I q = Cf q) (ho : opt n (I 0 57 1)) : ∃ J, den (d + 4, 8, 46, 0, [some (vr 0 56), none, none], [], mkH I t1 t2 k sc) = some (none, mkH (J) t1 t2 k sc) ∧ MenM J (goF (I 0 57 1) Cf (I 0 57 3) 1 γ) ∧ FQ I J := by
  obtain ⟨h1, h2, h3, h4⟩ := hs
  rcases ho with h9 | ⟨q, hq, h9⟩
  · refine ⟨_, m_minute0 (d + 3) I t1 t2 k sc h9, ?_, fun g j i z => uI_ne (by omega)⟩
    rw [h9, go_m1]
    exact hm.keep (fun i _ _ => uI_ne (by omega))
  · obtain ⟨h, g2', g58, eh⟩ := hard_ok (sum_c2 (h4 q hq))
    obtain ⟨J, e, j1, j2, j3⟩ := m_minute d I t1 t2 k sc (show q < 8 by omega) g2' g58 (h4 q hq) eh hm hok h9 (hC q hq)
    refine ⟨J, e, ?_, j3⟩
    rw [h9, go_th (by omega), eh, itF, itF]
    exact j1
end
/-- when -/
theorem ok_20 : op_20 Inv := by
  intro a1 I t1 t2 k sc hI
  by_cases h1 : 0 ≤ a1.toInt ∧ a1.toInt ≤ 9
  · obtain ⟨p, hp, rfl⟩ := nat_of (x := a1) (m := 10) h1.1 (by omega) (by omega)
    obtain ⟨γ, hX, hM, hok⟩ := hI.men
    obtain ⟨n, n8, c0, c0', c1, c2, c3, c4, ht, hQ⟩ := hI.head
    have hs : SumsOK I t1 k n (cS I) := ⟨n8, c0', ht, hQ⟩
    obtain ⟨m, -, m480, em⟩ := c2.2
    have em' : I 0 8 11 = nI m := c2.1.trans em
    have xo : I 0 17 p = γ 8 p := hX 8 p (by omega) hp
    have mo : I 0 57 (5 + 9 * p + 8) = γ 8 p := hM 8 p (by omega) hp
    obtain ⟨o, -, o1, eo⟩ := (hok p hp).2.2.2.2.2.2.2.2
    have eo' : γ 8 p = nI o := eo
    by_cases hst : o = 0 ∧ ¬ 280 < m
    · obtain ⟨rfl, hnl⟩ := hst
      have g0 : γ 8 p = 0 := by rw [eo', nI_0]
      obtain ⟨J0, e0, z1, z2, z3, z4, z5⟩ := x_trial 8 I t1 t2 k sc hX
      have i1 := c1.2
      generalize hF : goF (I 0 57 1) (cS I) (I 0 57 3) 1 = F
      have okF : ∀ δ, okMn δ → okMn (F δ) := fun δ hδ => by rw [← hF]; exact go_ok hs i1 1 hδ
      have lx : ∀ m' r (J : IFn) (δ : Men), r + m' = 200 → MenX 35 J δ → okMn δ → J 0 35 9 = I 0 57 1 → J 0 35 10 = I 0 57 3 → FT I J → ∃ J', FT I J' ∧ ((∀ y, whF F p m' r δ = some y → den (9 + 1, 7, 21, 68, [some (vr 0 0), some (vi (nI p)), some (vi (nI (r + 1)))], [], mkH (J) t1 t2 k sc) = some (some (vi (nI y)), mkH (J') t1 t2 k sc)) ∧ (whF F p m' r δ = none → den (9 + 1, 7, 21, 68, [some (vr 0 0), some (vi (nI p)), some (vi (nI (r + 1)))], [], mkH (J) t1 t2 k sc) = some (some (vi (-1000004)), mkH (uI J' 0 47 3 (J' 0 47 3 + 1)) t1 t2 k sc))) := by
        intro m'
        induction m' with
        | zero =>
          intro r J δ hr hJ hδ h9 h10 hf
          have hg : 200 < r + 1 := by omega
          refine ⟨J, hf, fun y hy => (by cases hy), fun _ => ?_⟩
          rw [b7_21_68]
          simp (disch := omega) only [bnd, bnd0, ↓cdec, ↓cnot, ↓reduceIte, Bo_0, Bo_1, ↓Bo_ok, i10, i01, eq_self, decide_true, decide_false, Bool.or_true, Bool.true_or, Bool.or_false, Bool.false_or, cond_true, cond_false, not_true_eq_false, not_false_eq_true, Bool.false_eq_true, and_self, and_true, true_and, and_false, false_and, nI_clamp, ↓inbc, inb_n, nI_pos, nI_1, gt_200, hg, b7_21_110, b7_21_116, x_f3]
        | succ m' ih =>
          intro r J δ hr hJ hδ h9 h10 hf
          have hg : ¬ 200 < r + 1 := by omega
          obtain ⟨K, e, k1, k2, k3⟩ := x_go 5 J t1 t2 k sc (Or.inr rfl) (show 1 ≤ 480 by omega) hJ hδ (hs.keep hf) (by rw [h9]; exact i1)
          rw [h9, h10, hF] at k1
          have e' : den (9, 0, 11, 0, [some (vr 0 35), some (vr 0 4), some (vi 1), none, none, none, none, none], [], mkH (J) t1 t2 k sc) = some (none, mkH (K) t1 t2 k sc) := e
          have fK : FT I K := hf.trans (fun g j i h => k3 _ _ _ (by omega))
          have e44 : K 0 44 p = F δ 8 p := k1 8 p (by omega) hp
          rw [whF]
          by_cases hz : F δ 8 p = 0
          · rw [if_pos hz]
            obtain ⟨J', f', g1, g2'⟩ := ih (r + 1) K (F δ) (by omega) k1 (okF δ hδ) (by rw [k3 _ _ _ (by omega)]; exact h9) (by rw [k3 _ _ _ (by omega)]; exact h10) fK
            refine ⟨J', f', fun y hy => ?_, fun hy => ?_⟩
            · rw [b7_21_68]
              simp (disch := omega) only [bnd, bnd0, ↓cdec, ↓cnot, ↓reduceIte, Bo_0, Bo_1, ↓Bo_ok, i10, i01, eq_self, decide_true, decide_false, Bool.or_true, Bool.true_or, Bool.or_false, Bool.false_or, cond_true, cond_false, not_true_eq_false, not_false_eq_true, Bool.false_eq_true, and_self, and_true, true_and, and_false, false_and, nI_clamp, ↓inbc, inb_n, nI_pos, nI_1, gt_200, hg, b7_21_75, e', b7_21_90, e44, hz, b7_21_104]
              exact g1 y hy
            · rw [b7_21_68]
              simp (disch := omega) only [bnd, bnd0, ↓cdec, ↓cnot, ↓reduceIte, Bo_0, Bo_1, ↓Bo_ok, i10, i01, eq_self, decide_true, decide_false, Bool.or_true, Bool.true_or, Bool.or_false, Bool.false_or, cond_true, cond_false, not_true_eq_false, not_false_eq_true, Bool.false_eq_true, and_self, and_true, true_and, and_false, false_and, nI_clamp, ↓inbc, inb_n, nI_pos, nI_1, gt_200, hg, b7_21_75, e', b7_21_90, e44, hz, b7_21_104]
              exact g2' hy
          · rw [if_neg hz]
            refine ⟨K, fK, fun y hy => ?_, fun hy => by cases hy⟩
            have ey : r + 1 = y := Option.some.inj hy
            subst ey
            rw [b7_21_68]
            simp (disch := omega) only [bnd, bnd0, ↓cdec, ↓cnot, ↓reduceIte, Bo_0, Bo_1, ↓Bo_ok, i10, i01, eq_self, decide_true, decide_false, Bool.or_true, Bool.true_or, Bool.or_false, Bool.false_or, cond_true, cond_false, not_true_eq_false, not_false_eq_true, Bool.false_eq_true, and_self, and_true, true_and, and_false, false_and, nI_clamp, ↓inbc, inb_n, nI_pos, nI_1, gt_200, hg, b7_21_75, e', b7_21_90, e44, hz, b7_21_102]
      have lm : ∀ (IP : IFn), (∀ i, IP 0 57 i = I 0 57 i) → ∀ m' r (J : IFn) (δ : Men), r + m' = 200 → MenM J δ → okMn δ → δ 8 p = 0 → FQ IP J → ∃ (J' : IFn) (r' : Nat) (δ' : Men), r' ≤ 200 ∧ MenM J' δ' ∧ okMn δ' ∧ FQ IP J' ∧ den (9 + 1, 8, 55, 54, [some (vr 0 56), some (vi (nI p)), some (vi (nI r)), none], [], mkH (J) t1 t2 k sc) = den (9 + 1, 8, 55, 85, [some (vr 0 56), some (vi (nI p)), some (vi (nI r')), none], [], mkH (J') t1 t2 k sc) ∧ ((whF F p m' r δ = some r' ∧ ¬ δ' 8 p = 0) ∨ (whF F p m' r δ = none ∧ δ' 8 p = 0)) := by
        intro IP hIP m'
        induction m' with
        | zero =>
          intro r J δ hr hJ hδ h8 hf
          have hl : ¬ r < 200 := by omega
          refine ⟨J, r, δ, by omega, hJ, hδ, hf, ?_, Or.inr ⟨rfl, h8⟩⟩
          rw [b8_55_54]
          simp (disch := omega) only [bnd, bnd0, ↓cdec, ↓cnot, ↓reduceIte, Bo_0, Bo_1, ↓Bo_ok, i10, i01, eq_self, decide_true, decide_false, Bool.or_true, Bool.true_or, Bool.or_false, Bool.false_or, cond_true, cond_false, not_true_eq_false, not_false_eq_true, Bool.false_eq_true, and_self, and_true, true_and, and_false, false_and, nI_clamp, ↓inbc, inb_n, nI_pos, nI_1, lt_200, hl]
        | succ m' ih =>
          intro r J δ hr hJ hδ h8 hf
          have hl : r < 200 := by omega
          have e8 : J 0 57 (5 + 9 * p + 8) = δ 8 p := hJ 8 p (by omega) hp
          obtain ⟨K, e, k1, k2⟩ := m_min1 5 J t1 t2 k sc hJ hδ hs (fun q _ => (hf.cS q).trans (funext fun a => hIP _)) (by rw [hf _ _ _ (by omega), hIP]; exact i1)
          rw [hf 0 57 1 (by omega), hf 0 57 3 (by omega), hIP, hIP, hF] at k1
          have st : den (9 + 1, 8, 55, 54, [some (vr 0 56), some (vi (nI p)), some (vi (nI r)), none], [], mkH (J) t1 t2 k sc) = den (9 + 1, 8, 55, 54, [some (vr 0 56), some (vi (nI p)), some (vi (nI (r + 1))), none], [], mkH (K) t1 t2 k sc) := by
            rw [b8_55_54]
            simp (disch := omega) only [bnd, bnd0, ↓cdec, ↓cnot, ↓reduceIte, Bo_0, Bo_1, ↓Bo_ok, i10, i01, eq_self, decide_true, decide_false, Bool.or_true, Bool.true_or, Bool.or_false, Bool.false_or, cond_true, cond_false, not_true_eq_false, not_false_eq_true, Bool.false_eq_true, and_self, and_true, true_and, and_false, false_and, nI_clamp, ↓inbc, inb_n, nI_pos, nI_1, lt_200, hl, b8_55_61, b8_55_71, b8_55_75, b8_55_79, mA_8, e8, h8, e]
          rw [whF]
          by_cases hz : F δ 8 p = 0
          · rw [if_pos hz]
            obtain ⟨J', r', δ', q1, q2, q3, q4, q5, q6⟩ := ih (r + 1) K (F δ) (by omega) k1 (okF δ hδ) hz (hf.trans k2)
            exact ⟨J', r', δ', q1, q2, q3, q4, st.trans q5, q6⟩
          · rw [if_neg hz]
            refine ⟨K, r + 1, F δ, by omega, k1, okF δ hδ, hf.trans k2, st.trans ?_, Or.inl ⟨rfl, hz⟩⟩
            have e8' : K 0 57 (5 + 9 * p + 8) = F δ 8 p := k1 8 p (by omega) hp
            rw [b8_55_54]
            by_cases hl2 : r + 1 < 200
            · simp (disch := omega) only [bnd, bnd0, ↓cdec, ↓cnot, ↓reduceIte, Bo_0, Bo_1, ↓Bo_ok, i10, i01, eq_self, decide_true, decide_false, Bool.or_true, Bool.true_or, Bool.or_false, Bool.false_or, cond_true, cond_false, not_true_eq_false, not_false_eq_true, Bool.false_eq_true, and_self, and_true, true_and, and_false, false_and, nI_clamp, ↓inbc, inb_n, nI_pos, nI_1, lt_200, hl2, b8_55_61, b8_55_71, mA_8, e8', hz]
            · simp (disch := omega) only [bnd, bnd0, ↓cdec, ↓cnot, ↓reduceIte, Bo_0, Bo_1, ↓Bo_ok, i10, i01, eq_self, decide_true, decide_false, Bool.or_true, Bool.true_or, Bool.or_false, Bool.false_or, cond_true, cond_false, not_true_eq_false, not_false_eq_true, Bool.false_eq_true, and_self, and_true, true_and, and_false, false_and, nI_clamp, ↓inbc, inb_n, nI_pos, nI_1, lt_200, hl2]
      obtain ⟨J1, f1, gs, gn⟩ := lx 200 0 J0 γ (by omega) z1 hok (by rw [z2]; exact c1.1) (by rw [z3]; exact c3.1) z5
      have hx0 : den (10, 7, 21, 0, [some (vr 0 0), some (vi (nI p)), none], [], mkH I t1 t2 k sc) = den (9 + 1, 7, 21, 68, [some (vr 0 0), some (vi (nI p)), some (vi (nI (0 + 1)))], [], mkH (J0) t1 t2 k sc) := by
        simp (disch := omega) only [bnd, bnd0, ↓cdec, ↓cnot, ↓reduceIte, Bo_0, Bo_1, ↓Bo_ok, i10, i01, eq_self, decide_true, decide_false, Bool.or_true, Bool.true_or, Bool.or_false, Bool.false_or, cond_true, cond_false, not_true_eq_false, not_false_eq_true, Bool.false_eq_true, and_self, and_true, true_and, and_false, false_and, nI_clamp, ↓inbc, inb_n, nI_pos, nI_1, b7_21_0, b7_21_4, b7_21_14, b7_21_29, b7_21_52, b7_21_66, x_isPrisoner, h1, xo, g0, em', gt_280, hnl, e0]
        rfl
      have hm0 : ∀ I1 : IFn, (∀ i, I1 0 57 i = I 0 57 i) → ∃ (J3 : IFn) (r' : Nat) (δ' : Men), FB I1 J3 ∧ ((whF F p 200 0 γ = some r' ∧ ¬ δ' 8 p = 0) ∨ (whF F p 200 0 γ = none ∧ δ' 8 p = 0)) ∧ (¬ δ' 8 p = 0 → den (10, 8, 55, 0, [some (vr 0 56), some (vi (nI p)), none, none], [], mkH (I1) t1 t2 k sc) = some (some (vi (nI r')), mkH (J3) t1 t2 k sc)) ∧ (δ' 8 p = 0 → den (10, 8, 55, 0, [some (vr 0 56), some (vi (nI p)), none, none], [], mkH (I1) t1 t2 k sc) = some (some (vi (-1000004)), mkH (uI J3 0 60 3 (J3 0 60 3 + 1)) t1 t2 k sc)) := by
        intro I1 hI1
        obtain ⟨IP, eP, p1, p2⟩ := m_puts 9 I1 t1 t2 k sc
        have rP : ∀ i, IP 0 57 i = I 0 57 i := fun i => by rw [p2 _ _ _ (by omega), hI1]
        obtain ⟨J2, r', δ', q1, q2, q3, q4, q5, q6⟩ := lm IP rP 200 0 IP γ (by omega) (hM.keep (fun i _ _ => rP i)) hok g0 FQ.rfl
        obtain ⟨J3, e3, f3⟩ := m_undo 9 t1 t2 k sc (IQ := J2) p1 p2 (fun g j i h => q4 _ _ _ (by omega))
        have e8 : J2 0 57 (5 + 9 * p + 8) = δ' 8 p := q2 8 p (by omega) hp
        have em1 : I1 0 57 2 = nI m := (hI1 2).trans em
        have mo1 : I1 0 57 (5 + 9 * p + 8) = 0 := by rw [hI1, mo, g0]
        have head : den (10, 8, 55, 0, [some (vr 0 56), some (vi (nI p)), none, none], [], mkH (I1) t1 t2 k sc) = den (9 + 1, 8, 55, 85, [some (vr 0 56), some (vi (nI p)), some (vi (nI r')), none], [], mkH (J2) t1 t2 k sc) := by
          refine Eq.trans ?_ q5
          simp (disch := omega) only [bnd, bnd0, ↓cdec, ↓cnot, ↓reduceIte, Bo_0, Bo_1, ↓Bo_ok, i10, i01, eq_self, decide_true, decide_false, Bool.or_true, Bool.true_or, Bool.or_false, Bool.false_or, cond_true, cond_false, not_true_eq_false, not_false_eq_true, Bool.false_eq_true, and_self, and_true, true_and, and_false, false_and, nI_clamp, ↓inbc, inb_n, nI_pos, nI_1, b8_55_0, b8_55_4, b8_55_14, b8_55_24, b8_55_29, b8_55_48, b8_55_52, m_isMan, h1, mA_8, mo1, em1, gt_280, hnl, eP, nI_0]
        refine ⟨J3, r', δ', f3, q6, fun hz => head.trans ?_, fun hz => head.trans ?_⟩
        · have h81 : δ' 8 p = 1 := by
            obtain ⟨o', -, o1', eo''⟩ := (q3 p hp).2.2.2.2.2.2.2.2
            have eo3 : δ' 8 p = nI o' := eo''
            rcases (show o' = 0 ∨ o' = 1 by omega) with z | z
            · exact absurd (by rw [eo3, z, nI_0]) hz
            · rw [eo3, z]; rfl
          simp (disch := omega) only [bnd, bnd0, ↓cdec, ↓cnot, ↓reduceIte, Bo_0, Bo_1, ↓Bo_ok, i10, i01, eq_self, decide_true, decide_false, Bool.or_true, Bool.true_or, Bool.or_false, Bool.false_or, cond_true, cond_false, not_true_eq_false, not_false_eq_true, Bool.false_eq_true, and_self, and_true, true_and, and_false, false_and, nI_clamp, ↓inbc, inb_n, nI_pos, nI_1, b8_55_85, b8_55_95, b8_55_100, b8_55_105, b8_55_110, b8_55_114, b8_55_124, mA_8, e8, h81, e3]
        · simp (disch := omega) only [bnd, bnd0, ↓cdec, ↓cnot, ↓reduceIte, Bo_0, Bo_1, ↓Bo_ok, i10, i01, eq_self, decide_true, decide_false, Bool.or_true, Bool.true_or, Bool.or_false, Bool.false_or, cond_true, cond_false, not_true_eq_false, not_false_eq_true, Bool.false_eq_true, and_self, and_true, true_and, and_false, false_and, nI_clamp, ↓inbc, inb_n, nI_pos, nI_1, b8_55_85, b8_55_95, b8_55_104, b8_55_105, b8_55_110, b8_55_118, b8_55_124, mA_8, e8, hz, e3, m_f3]
      cases hw : whF F p 200 0 γ with
      | some y =>
        obtain ⟨J3, r', δ', f3, q6, g1, -⟩ := hm0 J1 (fun i => f1 _ _ _ (by omega))
        rcases q6 with ⟨w1, w2⟩ | ⟨w1, w2⟩
        · have ey : y = r' := Option.some.inj (hw.symm.trans w1)
          subst ey
          exact ⟨nI y, J1, J3, t1, t2, k, hx0.trans (gs y hw), g1 w2, hI.garb (FTB.al f1 f3), by omega⟩
        · rw [hw] at w1; cases w1
      | none =>
        obtain ⟨J3, r', δ', f3, q6, -, g1⟩ := hm0 (uI J1 0 47 3 (J1 0 47 3 + 1)) (fun i => by rw [uI_ne (by omega)]; exact f1 _ _ _ (by omega))
        rcases q6 with ⟨w1, w2⟩ | ⟨w1, w2⟩
        · rw [hw] at w1; cases w1
        · refine ⟨-1000004, uI J1 0 47 3 (J1 0 47 3 + 1), _, t1, t2, k, hx0.trans (gn hw), g1 w2, hI.findG (f := 3) (by omega) ?_ ?_, by omega⟩
          · rw [f3 _ _ _ (by omega), uI_at (by omega), f1 _ _ _ (by omega)]
          · intro g j i hg hn
            unfold Gb at hg
            rw [f3 _ _ _ (by omega), uI_ne (by omega), f1 _ _ _ (by omega)]
    · refine ⟨-1000005, uI I 0 47 4 (I 0 47 4 + 1), _, t1, t2, k, ?_, ?_, hI.find (f := 4) (by omega), by omega⟩
      · by_cases ho : o = 0
        · have hl : 280 < m := by
            by_cases hl : 280 < m
            · exact hl
            · exact absurd ⟨ho, hl⟩ hst
          have g0 : γ 8 p = 0 := by rw [eo', ho, nI_0]
          simp (disch := omega) only [bnd, bnd0, ↓cdec, ↓cnot, ↓reduceIte, Bo_0, Bo_1, ↓Bo_ok, i10, i01, eq_self, decide_true, decide_false, Bool.or_true, Bool.true_or, Bool.or_false, Bool.false_or, cond_true, cond_false, not_true_eq_false, not_false_eq_true, Bool.false_eq_true, and_self, and_true, true_and, and_false, false_and, nI_clamp, ↓inbc, inb_n, nI_pos, nI_1, b7_21_0, b7_21_4, b7_21_14, b7_21_29, b7_21_45, b7_21_51, x_isPrisoner, h1, xo, g0, em', gt_280, hl, x_f4]
        · have g0 : ¬ γ 8 p = 0 := by rw [eo', eq_0 (by omega)]; exact ho
          simp (disch := omega) only [bnd, bnd0, ↓cdec, ↓cnot, ↓reduceIte, Bo_0, Bo_1, ↓Bo_ok, i10, i01, eq_self, decide_true, decide_false, Bool.or_true, Bool.true_or, Bool.or_false, Bool.false_or, cond_true, cond_false, not_true_eq_false, not_false_eq_true, Bool.false_eq_true, and_self, and_true, true_and, and_false, false_and, nI_clamp, ↓inbc, inb_n, nI_pos, nI_1, b7_21_0, b7_21_4, b7_21_14, b7_21_45, b7_21_51, x_isPrisoner, h1, xo, g0, x_f4]
      · by_cases ho : o = 0
        · have hl : 280 < m := by
            by_cases hl : 280 < m
            · exact hl
            · exact absurd ⟨ho, hl⟩ hst
          have g0 : γ 8 p = 0 := by rw [eo', ho, nI_0]
          simp (disch := omega) only [bnd, bnd0, ↓cdec, ↓cnot, ↓reduceIte, Bo_0, Bo_1, ↓Bo_ok, i10, i01, eq_self, decide_true, decide_false, Bool.or_true, Bool.true_or, Bool.or_false, Bool.false_or, cond_true, cond_false, not_true_eq_false, not_false_eq_true, Bool.false_eq_true, and_self, and_true, true_and, and_false, false_and, nI_clamp, ↓inbc, inb_n, nI_pos, nI_1, b8_55_0, b8_55_4, b8_55_14, b8_55_24, b8_55_29, b8_55_41, b8_55_47, m_isMan, h1, mA_8, uI_ne, mo, g0, em, gt_280, hl, m_f4]
        · have g0 : γ 8 p = 1 := by rw [eo', show o = 1 by omega]; rfl
          simp (disch := omega) only [bnd, bnd0, ↓cdec, ↓cnot, ↓reduceIte, Bo_0, Bo_1, ↓Bo_ok, i10, i01, eq_self, decide_true, decide_false, Bool.or_true, Bool.true_or, Bool.or_false, Bool.false_or, cond_true, cond_false, not_true_eq_false, not_false_eq_true, Bool.false_eq_true, and_self, and_true, true_and, and_false, false_and, nI_clamp, ↓inbc, inb_n, nI_pos, nI_1, b8_55_0, b8_55_4, b8_55_14, b8_55_24, b8_55_41, b8_55_47, m_isMan, h1, mA_8, uI_ne, mo, g0, m_f4]
  · refine ⟨-1000001, uI I 0 47 0 (I 0 47 0 + 1), _, t1, t2, k, ?_, ?_, hI.find (f := 0) (by omega), by omega⟩
    · simp (disch := omega) only [bnd, bnd0, ↓cdec, ↓cnot, ↓reduceIte, Bo_0, Bo_1, ↓Bo_ok, i10, i01, eq_self, decide_true, decide_false, Bool.or_true, Bool.true_or, Bool.or_false, Bool.false_or, cond_true, cond_false, not_true_eq_false, not_false_eq_true, Bool.false_eq_true, and_self, and_true, true_and, and_false, false_and, nI_clamp, ↓inbc, inb_n, nI_pos, nI_1, b7_21_0, b7_21_4, b7_21_7, b7_21_13, x_isPrisoner, h1, x_f0]
    · simp (disch := omega) only [bnd, bnd0, ↓cdec, ↓cnot, ↓reduceIte, Bo_0, Bo_1, ↓Bo_ok, i10, i01, eq_self, decide_true, decide_false, Bool.or_true, Bool.true_or, Bool.or_false, Bool.false_or, cond_true, cond_false, not_true_eq_false, not_false_eq_true, Bool.false_eq_true, and_self, and_true, true_and, and_false, false_and, nI_clamp, ↓inbc, inb_n, nI_pos, nI_1, b8_55_0, b8_55_4, b8_55_7, b8_55_13, m_isMan, h1, m_f0]
