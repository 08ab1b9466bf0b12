/-! trials: what lies ahead -/
def outS (γ : Men) : Int32 := fS (fun p => decide (γ 8 p = 1)) 10
def mayS (γ : Men) : Int32 := fS (fun p => decide (γ 4 p = 1)) 10
def FT (I J : IFn) : Prop := ∀ g j i, ¬ (g = 0 ∧ 35 ≤ j ∧ j ≤ 44) → J g j i = I g j i
theorem FT.rfl {I : IFn} : FT I I := fun _ _ _ _ => Eq.refl _
theorem FT.trans {I J K : IFn} (h : FT I J) (h2 : FT J K) : FT I K := fun g j i q => (h2 g j i q).trans (h g j i q)
def FB (I J : IFn) : Prop := ∀ g j i, ¬ (g = 0 ∧ (j = 59 ∨ j = 64 ∨ j = 65)) → J g j i = I g j i
theorem FB.rfl {I : IFn} : FB I I := fun _ _ _ _ => Eq.refl _
theorem FB.trans {I J K : IFn} (h : FB I J) (h2 : FB J K) : FB I K := fun g j i q => (h2 g j i q).trans (h g j i q)
theorem FB.cS {I J : IFn} (h : FB I J) (q : Nat) : cS J q = cS I q := funext fun a => h _ _ _ (by omega)
theorem FTB.al {I J K : IFn} (h : FT I J) (h2 : FB J K) : Al I K := fun g j i q => by
  unfold Gb at q
  rw [h2 _ _ _ (by omega), h _ _ _ (by omega)]
theorem SumsOK.keep {I J : IFn} {t1 : TFn} {k n : Nat} {Cf : Nat → Nat → Int32} (h : SumsOK I t1 k n Cf) (hf : FT I J) : SumsOK J t1 k n Cf := by
  obtain ⟨h1, h2, h3, h4⟩ := h
  refine ⟨h1, by rw [hf _ _ _ (by omega)]; exact h2, h3, fun q hq => ?_⟩
  rw [hf 0 6 q (by omega), hf 0 7 q (by omega)]
  exact sumOK.congr (fun e _ j i _ _ _ _ => hf _ _ _ (by omega)) (h4 q hq)
theorem outX {g : Nat} {I : IFn} {γ : Men} (hm : MenX g I γ) (hok : okMn γ) : fS (fun p => !decide (I 0 (g + 9) p < 1)) 10 = outS γ := fS_congr (fun p hp => by
  rw [show I 0 (g + 9) p = γ 8 p from hm 8 p (by omega) hp]
  exact rng01 (hok p hp).2.2.2.2.2.2.2.2)
theorem outM {I : IFn} {γ : Men} (hm : MenM I γ) : fS (fun p => decide (I 0 57 (5 + 9 * p + 8) = 1)) 10 = outS γ := fS_congr (fun p hp => by rw [hm 8 p (by omega) hp])
theorem mayX {g : Nat} {I : IFn} {γ : Men} (hm : MenX g I γ) (hok : okMn γ) : fS (fun p => !decide (I 0 (g + 5) p < 1)) 10 = mayS γ := fS_congr (fun p hp => by
  rw [show I 0 (g + 5) p = γ 4 p from hm 4 p (by omega) hp]
  exact rng01 (hok p hp).2.2.2.2.1)
theorem mayM {I : IFn} {γ : Men} (hm : MenM I γ) : fS (fun p => decide (I 0 57 (5 + 9 * p + 4) = 1)) 10 = mayS γ := fS_congr (fun p hp => by rw [hm 4 p (by omega) hp])
theorem FT.men {I J : IFn} {γ : Men} (h : FT I J) (hm : MenX 8 I γ) : MenX 8 J γ := hm.keep (fun j p _ _ _ => h _ _ _ (by omega))
theorem FB.men {I J : IFn} {γ : Men} (h : FB I J) (hm : MenM I γ) : MenM J γ := hm.keep (fun i _ _ => h _ _ _ (by omega))
section
variable (d : Nat) (I : IFn) (t1 t2 : TFn) (k : Nat) (sc : Nat × (Nat → Int32))
theorem m_puts : ∃ J, den (d, 8, 52, 0, [some (vr 0 56), none], [], mkH I t1 t2 k sc) = some (none, mkH (J) t1 t2 k sc) ∧ (∀ i, i < 465 → J 0 59 i = I 0 57 i) ∧ ∀ g j i, ¬ (g = 0 ∧ j = 59) → J g j i = I g j i := by
  obtain ⟨J, e, q1, q2⟩ := lpE (fun p J => den (d, 8, 52, 2, [some (vr 0 56), some (vi (nI p))], [], mkH (J) t1 t2 k sc))
    (fun p J => (∀ i, i < p → J 0 59 i = I 0 57 i) ∧ ∀ g j i, ¬ (g = 0 ∧ j = 59) → J g j i = I g j i) (N := 465)
    (by
      intro p J hp ⟨r1, r2⟩
      refine ⟨uI J 0 59 p (J 0 57 p), ?_, fun i hi => ?_, fun g' j i h => ?_⟩
      · rw [b8_52_2]
        simp (disch := omega) only [bnd, bnd0, ↓cdec, ↓cnot, ↓reduceIte, Bo_0, Bo_1, ↓Bo_ok, i10, i01, eq_self, decide_true, decide_false, Bool.or_true, Bool.true_or, Bool.or_false, Bool.false_or, cond_true, cond_false, not_true_eq_false, not_false_eq_true, Bool.false_eq_true, and_self, and_true, true_and, and_false, false_and, nI_clamp, ↓inbc, inb_n, nI_pos, nI_1, lt_465, hp, b8_52_9]
      · by_cases ei : i = p
        · subst ei; rw [uI_at (by omega), r2 _ _ _ (by omega)]
        · rw [uI_ne (by omega)]; exact r1 i (by omega)
      · rw [uI_ne (by omega)]; exact r2 _ _ _ h) 0 I (by omega) ⟨fun i hi => by omega, fun g' j i h => rfl⟩
  refine ⟨J, ?_, q1, q2⟩
  refine (b8_52_0 d I t1 t2 k sc).trans (e.trans ?_)
  rw [b8_52_2]
  simp (disch := omega) only [bnd, bnd0, ↓cdec, ↓cnot, ↓reduceIte, Bo_0, Bo_1, ↓Bo_ok, i10, i01, eq_self, decide_true, decide_false, Bool.or_true, Bool.true_or, Bool.or_false, Bool.false_or, cond_true, cond_false, not_true_eq_false, not_false_eq_true, Bool.false_eq_true, and_self, and_true, true_and, and_false, false_and, nI_clamp, ↓inbc, inb_n, nI_pos, nI_1, lt_465, Nat.lt_irrefl, b8_52_27]
theorem m_back : ∃ J, den (d, 8, 53, 0, [some (vr 0 56), none], [], mkH I t1 t2 k sc) = some (none, mkH (J) t1 t2 k sc) ∧ (∀ i, i < 465 → J 0 57 i = I 0 59 i) ∧ ∀ g j i, ¬ (g = 0 ∧ j = 57 ∧ i < 465) → J g j i = I g j i := by
  obtain ⟨J, e, q1, q2⟩ := lpE (fun p J => den (d, 8, 53, 2, [some (vr 0 56), some (vi (nI p))], [], mkH (J) t1 t2 k sc))
    (fun p J => (∀ i, i < p → J 0 57 i = I 0 59 i) ∧ ∀ g j i, ¬ (g = 0 ∧ j = 57 ∧ i < 465) → J g j i = I g j i) (N := 465)
    (by
      intro p J hp ⟨r1, r2⟩
      refine ⟨uI J 0 57 p (J 0 59 p), ?_, fun i hi => ?_, fun g' j i h => ?_⟩
      · rw [b8_53_2]
        simp (disch := omega) only [bnd, bnd0, ↓cdec, ↓cnot, ↓reduceIte, Bo_0, Bo_1, ↓Bo_ok, i10, i01, eq_self, decide_true, decide_false, Bool.or_true, Bool.true_or, Bool.or_false, Bool.false_or, cond_true, cond_false, not_true_eq_false, not_false_eq_true, Bool.false_eq_true, and_self, and_true, true_and, and_false, false_and, nI_clamp, ↓inbc, inb_n, nI_pos, nI_1, lt_465, hp, b8_53_9]
      · by_cases ei : i = p
        · subst ei; rw [uI_at (by omega), r2 _ _ _ (by omega)]
        · rw [uI_ne (by omega)]; exact r1 i (by omega)
      · rw [uI_ne (by omega)]; exact r2 _ _ _ h) 0 I (by omega) ⟨fun i hi => by omega, fun g' j i h => rfl⟩
  refine ⟨J, ?_, q1, q2⟩
  refine (b8_53_0 d I t1 t2 k sc).trans (e.trans ?_)
  rw [b8_53_2]
  simp (disch := omega) only [bnd, bnd0, ↓cdec, ↓cnot, ↓reduceIte, Bo_0, Bo_1, ↓Bo_ok, i10, i01, eq_self, decide_true, decide_false, Bool.or_true, Bool.true_or, Bool.or_false, Bool.false_or, cond_true, cond_false, not_true_eq_false, not_false_eq_true, Bool.false_eq_true, and_self, and_true, true_and, and_false, false_and, nI_clamp, ↓inbc, inb_n, nI_pos, nI_1, lt_465, Nat.lt_irrefl, b8_53_27]
theorem x_trial {γ : Men} (hm : MenX 8 I γ) : ∃ J, den (d + 1, 0, 2, 0, [some (vr 0 35), some (vr 0 8), none], [], mkH I t1 t2 k sc) = some (none, mkH (J) t1 t2 k sc) ∧ MenX 35 J γ ∧ J 0 35 9 = I 0 8 9 ∧ J 0 35 10 = I 0 8 10 ∧ J 0 35 11 = I 0 8 11 ∧ FT I J := by
  obtain ⟨J, e, b1, b2, b3, b4, b5⟩ := x_gbec d I t1 t2 k sc (g := 35) (q := 8) (by omega) (by omega) (by omega)
  refine ⟨J, e, fun a p ha hp => ?_, b2, b3, b4, fun g j i h => b5 _ _ _ (by omega)⟩
  rw [b1 a p ha hp]; exact hm a p ha hp
/-- run and put back: whatever happens to row 57 between -/
theorem m_undo {I0 IP IQ : IFn} (hp : ∀ i, i < 465 → IP 0 59 i = I0 0 57 i) (hpf : ∀ g j i, ¬ (g = 0 ∧ j = 59) → IP g j i = I0 g j i) (hq : ∀ g j i, ¬ (g = 0 ∧ (j = 64 ∨ j = 65 ∨ (j = 57 ∧ i < 465))) → IQ g j i = IP g j i) : ∃ J, den (d, 8, 53, 0, [some (vr 0 56), none], [], mkH (IQ) t1 t2 k sc) = some (none, mkH (J) t1 t2 k sc) ∧ FB I0 J := by
  obtain ⟨J, e, b1, b2⟩ := m_back d IQ t1 t2 k sc
  refine ⟨J, e, fun g j i h => ?_⟩
  by_cases h57 : g = 0 ∧ j = 57 ∧ i < 465
  · obtain ⟨rfl, rfl, hi⟩ := h57
    rw [b1 i hi, hq _ _ _ (by omega), hp i hi]
  · rw [b2 _ _ _ h57, hq _ _ _ (by omega), hpf _ _ _ (by omega)]
theorem x_tryDay {γ : Men} (hm : MenX 8 I γ) (x : Int32) : ∃ J, den (d + 3, 7, 52, 0, [some (vr 0 0), some (vi x)], [], mkH I t1 t2 k sc) = some (none, mkH (J) t1 t2 k sc) ∧ MenX 35 J (dG γ) ∧ J 0 35 9 = x ∧ J 0 35 10 = I 0 8 10 ∧ FT I J := by
  obtain ⟨J1, e1, a1, a2, a3, a4, a5⟩ := x_trial (d + 1) I t1 t2 k sc hm
  obtain ⟨J2, e2, b1, b2, b3, b4⟩ := x_beginDay (d + 1) J1 t1 t2 k sc (g := 35) (by omega) x
  refine ⟨J2, ?_, b3 γ a1, b1, by rw [b4 _ _ _ (by omega)]; exact a3, a5.trans (fun g j i h => b4 _ _ _ (by omega))⟩
  simp (disch := omega) only [bnd, bnd0, ↓cdec, ↓cnot, ↓reduceIte, Bo_0, Bo_1, ↓Bo_ok, i10, i01, eq_self, decide_true, decide_false, Bool.or_true, Bool.true_or, Bool.or_false, Bool.false_or, cond_true, cond_false, not_true_eq_false, not_false_eq_true, Bool.false_eq_true, and_self, and_true, true_and, and_false, false_and, nI_clamp, ↓inbc, inb_n, nI_pos, nI_1, b7_52_0, b7_52_14, b7_52_22, e1, e2]
theorem x_letOut {n th N : Nat} (hth : th < n) (hN : N ≤ 480) {Cf : Nat → Nat → Int32} {γ : Men} (hm : MenX 8 I γ) (hok : okMn γ) (hs : SumsOK I t1 k n Cf) : ∃ J, den (d + 5, 7, 53, 0, [some (vr 0 0), some (vi (nI th)), some (vi (nI N))], [], mkH I t1 t2 k sc) = some (some (vi (outS (goF (nI th) Cf (I 0 8 10) N (dG γ)))), mkH (J) t1 t2 k sc) ∧ FT I J := by
  obtain ⟨J1, e1, a1, a2, a3, a4⟩ := x_tryDay (d + 1) I t1 t2 k sc hm (nI th)
  obtain ⟨J2, e2, b1, b2, b3⟩ := x_go d J1 t1 t2 k sc (Or.inr rfl) hN a1 (dG_ok hok) (hs.keep a4) (by rw [a2]; exact Or.inr ⟨th, hth, rfl⟩)
  rw [a2, a3] at b1
  have ok2 := go_ok (R := I 0 8 10) hs (Or.inr ⟨th, hth, rfl⟩) N (dG_ok hok)
  refine ⟨J2, ?_, a4.trans (fun g j i h => b3 _ _ _ (by omega))⟩
  rw [← outX b1 ok2]
  simp (disch := omega) only [bnd, bnd0, ↓cdec, ↓cnot, ↓reduceIte, Bo_0, Bo_1, ↓Bo_ok, i10, i01, eq_self, decide_true, decide_false, Bool.or_true, Bool.true_or, Bool.or_false, Bool.false_or, cond_true, cond_false, not_true_eq_false, not_false_eq_true, Bool.false_eq_true, and_self, and_true, true_and, and_false, false_and, nI_clamp, ↓inbc, inb_n, nI_pos, nI_1, b7_53_0, b7_53_5, b7_53_20, b7_53_27, e1, e2, x_outSet]
theorem m_letsOut {n th N : Nat} (hth : th < n) (hN : N ≤ 480) {Cf : Nat → Nat → Int32} {γ : Men} {K : IFn} (hm : MenM I γ) (hok : okMn γ) (hs : SumsOK K t1 k n Cf) (hC : ∀ q, q < n → cS I q = Cf q) : ∃ J, den (d + 6, 8, 56, 0, [some (vr 0 56), some (vi (nI th)), some (vi (nI N)), none], [], mkH I t1 t2 k sc) = some (some (vi (outS (goF (nI th) Cf (I 0 57 3) N (dG γ)))), mkH (J) t1 t2 k sc) ∧ FB I J := by
  obtain ⟨IP, e1, p1, p2⟩ := m_puts (d + 5) I t1 t2 k sc
  obtain ⟨J1, e2, a1, a2, a3⟩ := m_newDay (d + 4) (uI IP 0 57 1 (nI th)) t1 t2 k sc
  have m1 : MenM J1 (dG γ) := a2 γ (hm.keep (fun i _ _ => by rw [uI_ne (by omega), p2 _ _ _ (by omega)]))
  have j1 : J1 0 57 1 = nI th := by rw [a3 _ _ _ (by omega), uI_at (by omega)]
  have j3 : J1 0 57 3 = I 0 57 3 := by rw [a3 _ _ _ (by omega), uI_ne (by omega), p2 _ _ _ (by omega)]
  obtain ⟨J2, e3, b1, b2, b3⟩ := m_go d J1 t1 t2 k sc hN m1 (dG_ok hok) hs (fun q hq => by
    rw [← hC q hq]
    exact funext fun a => by
      show J1 0 57 _ = I 0 57 _
      rw [a3 _ _ _ (by omega), uI_ne (by omega), p2 _ _ _ (by omega)]) (by rw [j1]; exact Or.inr ⟨th, hth, rfl⟩)
  rw [j1, j3] at b1
  obtain ⟨J3, e4, f4⟩ := m_undo (d + 5) t1 t2 k sc (IQ := J2) p1 p2 (fun g j i h => by rw [b3 _ _ _ (by omega), a3 _ _ _ (by omega), uI_ne (by omega)])
  refine ⟨J3, ?_, f4⟩
  rw [← outM b1]
  simp (disch := omega) only [bnd, bnd0, ↓cdec, ↓cnot, ↓reduceIte, Bo_0, Bo_1, ↓Bo_ok, i10, i01, eq_self, decide_true, decide_false, Bool.or_true, Bool.true_or, Bool.or_false, Bool.false_or, cond_true, cond_false, not_true_eq_false, not_false_eq_true, Bool.false_eq_true, and_self, and_true, true_and, and_false, false_and, nI_clamp, ↓inbc, inb_n, nI_pos, nI_1, b8_56_0, b8_56_4, b8_56_15, b8_56_20, b8_56_24, b8_56_29, e1, e2, e3, e4, m_outs]
theorem m_maySet : den (d + 1, 8, 58, 0, [some (vr 0 56), none, none], [], mkH I t1 t2 k sc) = some (some (vi (fS (fun p => decide (I 0 57 (5 + 9 * p + 4) = 1)) 10)), mkH I t1 t2 k sc) := by
  have st : ∀ p, p < 10 → den (d + 1, 8, 58, 4, [some (vr 0 56), some (vi (fS (fun p => decide (I 0 57 (5 + 9 * p + 4) = 1)) p)), some (vi (nI p))], [], mkH I t1 t2 k sc) = den (d + 1, 8, 58, 4, [some (vr 0 56), some (vi (fS (fun p => decide (I 0 57 (5 + 9 * p + 4) = 1)) (p + 1))), some (vi (nI (p + 1)))], [], mkH I t1 t2 k sc) := by
    intro p hp
    rw [b8_58_4]
    by_cases h : I 0 57 (5 + 9 * p + 4) = 1
    · rw [fS_t (n := p) (decide_eq_true h)]
      simp (disch := omega) only [bnd, bnd0, ↓cdec, ↓cnot, ↓reduceIte, Bo_0, Bo_1, ↓Bo_ok, i10, i01, eq_self, decide_true, decide_false, Bool.or_true, Bool.true_or, Bool.or_false, Bool.false_or, cond_true, cond_false, not_true_eq_false, not_false_eq_true, Bool.false_eq_true, and_self, and_true, true_and, and_false, false_and, nI_clamp, ↓inbc, inb_n, nI_pos, nI_1, lt_10, hp, h, b8_58_10, b8_58_20, b8_58_25, b8_58_31, b8_58_32, b8_58_40, mA_4]
    · rw [fS_f (n := p) (decide_eq_false h)]
      simp (disch := omega) only [bnd, bnd0, ↓cdec, ↓cnot, ↓reduceIte, Bo_0, Bo_1, ↓Bo_ok, i10, i01, eq_self, decide_true, decide_false, Bool.or_true, Bool.true_or, Bool.or_false, Bool.false_or, cond_true, cond_false, not_true_eq_false, not_false_eq_true, Bool.false_eq_true, and_self, and_true, true_and, and_false, false_and, nI_clamp, ↓inbc, inb_n, nI_pos, nI_1, lt_10, hp, h, b8_58_10, b8_58_20, b8_58_25, b8_58_31, b8_58_32, b8_58_40, mA_4, or0]
  refine (b8_58_0 d I t1 t2 k sc).trans ?_
  refine (lp (fun p => den (d + 1, 8, 58, 4, [some (vr 0 56), some (vi (fS (fun p => decide (I 0 57 (5 + 9 * p + 4) = 1)) p)), some (vi (nI p))], [], mkH I t1 t2 k sc)) st 0 (by omega)).trans ?_
  rw [b8_58_4]
  simp (disch := omega) only [bnd, bnd0, ↓cdec, ↓cnot, ↓reduceIte, Bo_0, Bo_1, ↓Bo_ok, i10, i01, eq_self, decide_true, decide_false, Bool.or_true, Bool.true_or, Bool.or_false, Bool.false_or, cond_true, cond_false, not_true_eq_false, not_false_eq_true, Bool.false_eq_true, and_self, and_true, true_and, and_false, false_and, nI_clamp, ↓inbc, inb_n, nI_pos, nI_1, lt_10, Nat.lt_irrefl, b8_58_10, b8_58_20, b8_58_25, b8_58_31, b8_58_32, b8_58_40]
end
/-- lets -/
theorem ok_21 : op_21 Inv := by
  intro a1 a2 I t1 t2 k sc hI
  obtain ⟨n, n8, c0, c0', c1, c2, c3, c4, ht, hQ⟩ := hI.head
  have xI := fun x => x_isSum 8 I t1 t2 k sc n8 c0' ht x
  by_cases h1 : 0 ≤ a1.toInt ∧ a1.toInt < (n : Int)
  · by_cases h2 : 1 ≤ a2.toInt ∧ a2.toInt ≤ 200
    · obtain ⟨q, hq, rfl⟩ := nat_of (x := a1) (m := n) h1.1 h1.2 (by omega)
      obtain ⟨N, hN, rfl⟩ := nat_of (x := a2) (m := 201) (by omega) (by omega) (by omega)
      obtain ⟨γ, hX, hM, hok⟩ := hI.men
      have hs : SumsOK I t1 k n (cS I) := ⟨n8, c0', ht, hQ⟩
      obtain ⟨J1, e1, f1⟩ := x_letOut 4 I t1 t2 k sc hq (show N ≤ 480 by omega) hX hok hs
      have r1 : ∀ i, J1 0 57 i = I 0 57 i := fun i => f1 _ _ _ (by omega)
      obtain ⟨J2, e2, f2⟩ := m_letsOut 3 J1 t1 t2 k sc hq (show N ≤ 480 by omega) (hM.keep (fun i _ _ => r1 i)) hok hs (fun q _ => funext fun a => r1 _)
      rw [r1, ← c3.1] at e2
      have mI := m_isSum 8 J1 t1 t2 k sc n8 (by rw [r1]; exact c0)
      refine ⟨outS (goF (nI q) (cS I) (I 0 8 10) N (dG γ)), J1, J2, t1, t2, k, ?_, ?_, hI.garb (FTB.al f1 f2), by omega⟩
      · simp (disch := omega) only [bnd, bnd0, ↓cdec, ↓cnot, ↓reduceIte, Bo_0, Bo_1, ↓Bo_ok, i10, i01, eq_self, decide_true, decide_false, Bool.or_true, Bool.true_or, Bool.or_false, Bool.false_or, cond_true, cond_false, not_true_eq_false, not_false_eq_true, Bool.false_eq_true, and_self, and_true, true_and, and_false, false_and, nI_clamp, ↓inbc, inb_n, nI_pos, nI_1, b7_22_0, b7_22_5, b7_22_8, b7_22_16, b7_22_19, b7_22_25, b7_22_26, b7_22_32, xI, h1, x_within, k32_1, k32_200, h2, e1]
      · simp (disch := omega) only [bnd, bnd0, ↓cdec, ↓cnot, ↓reduceIte, Bo_0, Bo_1, ↓Bo_ok, i10, i01, eq_self, decide_true, decide_false, Bool.or_true, Bool.true_or, Bool.or_false, Bool.false_or, cond_true, cond_false, not_true_eq_false, not_false_eq_true, Bool.false_eq_true, and_self, and_true, true_and, and_false, false_and, nI_clamp, ↓inbc, inb_n, nI_pos, nI_1, b8_57_0, b8_57_5, b8_57_8, b8_57_17, b8_57_20, b8_57_26, b8_57_29, b8_57_35, mI, h1, m_in32, k64_1, k64_200, h2, e2]
    · have mI := m_isSum 8 (uI I 0 47 0 (I 0 47 0 + 1)) t1 t2 k sc n8 (by rw [uI_ne (by omega)]; exact c0)
      refine ⟨-1000001, uI I 0 47 0 (I 0 47 0 + 1), _, t1, t2, k, ?_, ?_, hI.find (f := 0) (by omega), by omega⟩
      · simp (disch := omega) only [bnd, bnd0, ↓cdec, ↓cnot, ↓reduceIte, Bo_0, Bo_1, ↓Bo_ok, i10, i01, eq_self, decide_true, decide_false, Bool.or_true, Bool.true_or, Bool.or_false, Bool.false_or, cond_true, cond_false, not_true_eq_false, not_false_eq_true, Bool.false_eq_true, and_self, and_true, true_and, and_false, false_and, nI_clamp, ↓inbc, inb_n, nI_pos, nI_1, b7_22_0, b7_22_5, b7_22_8, b7_22_16, b7_22_19, b7_22_25, b7_22_26, b7_22_32, xI, h1, x_within, k32_1, k32_200, h2, x_f0]
      · simp (disch := omega) only [bnd, bnd0, ↓cdec, ↓cnot, ↓reduceIte, Bo_0, Bo_1, ↓Bo_ok, i10, i01, eq_self, decide_true, decide_false, Bool.or_true, Bool.true_or, Bool.or_false, Bool.false_or, cond_true, cond_false, not_true_eq_false, not_false_eq_true, Bool.false_eq_true, and_self, and_true, true_and, and_false, false_and, nI_clamp, ↓inbc, inb_n, nI_pos, nI_1, b8_57_0, b8_57_5, b8_57_8, b8_57_17, b8_57_20, b8_57_26, b8_57_29, b8_57_35, mI, h1, m_in32, k64_1, k64_200, h2, m_f0]
  · have mI := m_isSum 8 (uI I 0 47 0 (I 0 47 0 + 1)) t1 t2 k sc n8 (by rw [uI_ne (by omega)]; exact c0)
    refine ⟨-1000001, uI I 0 47 0 (I 0 47 0 + 1), _, t1, t2, k, ?_, ?_, hI.find (f := 0) (by omega), by omega⟩
    · simp (disch := omega) only [bnd, bnd0, ↓cdec, ↓cnot, ↓reduceIte, Bo_0, Bo_1, ↓Bo_ok, i10, i01, eq_self, decide_true, decide_false, Bool.or_true, Bool.true_or, Bool.or_false, Bool.false_or, cond_true, cond_false, not_true_eq_false, not_false_eq_true, Bool.false_eq_true, and_self, and_true, true_and, and_false, false_and, nI_clamp, ↓inbc, inb_n, nI_pos, nI_1, b7_22_0, b7_22_5, b7_22_8, b7_22_16, b7_22_19, b7_22_25, b7_22_26, b7_22_32, xI, h1, x_f0]
    · simp (disch := omega) only [bnd, bnd0, ↓cdec, ↓cnot, ↓reduceIte, Bo_0, Bo_1, ↓Bo_ok, i10, i01, eq_self, decide_true, decide_false, Bool.or_true, Bool.true_or, Bool.or_false, Bool.false_or, cond_true, cond_false, not_true_eq_false, not_false_eq_true, Bool.false_eq_true, and_self, and_true, true_and, and_false, false_and, nI_clamp, ↓inbc, inb_n, nI_pos, nI_1, b8_57_0, b8_57_5, b8_57_8, b8_57_17, b8_57_20, b8_57_26, b8_57_29, b8_57_35, mI, h1, m_f0]
/-- wrongs -/
theorem ok_23 : op_23 Inv := by
  intro a1 a2 I t1 t2 k sc hI
  obtain ⟨n, n8, c0, c0', c1, c2, c3, c4, ht, hQ⟩ := hI.head
  have xI := fun x => x_isSum 8 I t1 t2 k sc n8 c0' ht x
  by_cases h1 : 0 ≤ a1.toInt ∧ a1.toInt < (n : Int)
  · by_cases h2 : 1 ≤ a2.toInt ∧ a2.toInt ≤ 200
    · obtain ⟨q, hq, rfl⟩ := nat_of (x := a1) (m := n) h1.1 h1.2 (by omega)
      obtain ⟨N, hN, rfl⟩ := nat_of (x := a2) (m := 201) (by omega) (by omega) (by omega)
      obtain ⟨γ, hX, hM, hok⟩ := hI.men
      have hs : SumsOK I t1 k n (cS I) := ⟨n8, c0', ht, hQ⟩
      obtain ⟨J1, e1, f1⟩ := x_letOut 4 I t1 t2 k sc hq (show N ≤ 480 by omega) hX hok hs
      have r1 : ∀ i, J1 0 57 i = I 0 57 i := fun i => f1 _ _ _ (by omega)
      have hM1 : MenM J1 γ := hM.keep (fun i _ _ => r1 i)
      obtain ⟨J2, e2, f2⟩ := m_letsOut 2 J1 t1 t2 k sc hq (show N ≤ 480 by omega) hM1 hok hs (fun q _ => funext fun a => r1 _)
      rw [r1, ← c3.1] at e2
      have mI := m_isSum 8 J1 t1 t2 k sc n8 (by rw [r1]; exact c0)
      have mx := mayX (f1.men hX) hok
      have mm := mayM (f2.men hM1)
      have xo : outS (goF (nI q) (cS I) (I 0 8 10) N (dG γ)) ^^^ mayS γ = fS (fun p => decide ((goF (nI q) (cS I) (I 0 8 10) N (dG γ)) 8 p = 1) != decide (γ 4 p = 1)) 10 := fS_xor _ _ (by omega)
      refine ⟨cb (fS (fun p => decide ((goF (nI q) (cS I) (I 0 8 10) N (dG γ)) 8 p = 1) != decide (γ 4 p = 1)) 10), J1, J2, t1, t2, k, ?_, ?_, hI.garb (FTB.al f1 f2), by omega⟩
      · simp (disch := omega) only [bnd, bnd0, ↓cdec, ↓cnot, ↓reduceIte, Bo_0, Bo_1, ↓Bo_ok, i10, i01, eq_self, decide_true, decide_false, Bool.or_true, Bool.true_or, Bool.or_false, Bool.false_or, cond_true, cond_false, not_true_eq_false, not_false_eq_true, Bool.false_eq_true, and_self, and_true, true_and, and_false, false_and, nI_clamp, ↓inbc, inb_n, nI_pos, nI_1, b7_24_0, b7_24_5, b7_24_8, b7_24_16, b7_24_19, b7_24_25, b7_24_26, b7_24_32, b7_24_42, b7_24_46, xI, h1, x_within, k32_1, k32_200, h2, e1, x_maySet, mx, xo, x_bits]
      · simp (disch := omega) only [bnd, bnd0, ↓cdec, ↓cnot, ↓reduceIte, Bo_0, Bo_1, ↓Bo_ok, i10, i01, eq_self, decide_true, decide_false, Bool.or_true, Bool.true_or, Bool.or_false, Bool.false_or, cond_true, cond_false, not_true_eq_false, not_false_eq_true, Bool.false_eq_true, and_self, and_true, true_and, and_false, false_and, nI_clamp, ↓inbc, inb_n, nI_pos, nI_1, b8_61_0, b8_61_5, b8_61_8, b8_61_17, b8_61_20, b8_61_26, b8_61_29, b8_61_35, b8_59_0, b8_59_6, b8_59_10, b8_59_14, mI, h1, m_in32, k64_1, k64_200, h2, e2, m_maySet, mm, xo, m_ones]
    · have mI := m_isSum 8 (uI I 0 47 0 (I 0 47 0 + 1)) t1 t2 k sc n8 (by rw [uI_ne (by omega)]; exact c0)
      refine ⟨-1000001, uI I 0 47 0 (I 0 47 0 + 1), _, t1, t2, k, ?_, ?_, hI.find (f := 0) (by omega), by omega⟩
      · simp (disch := omega) only [bnd, bnd0, ↓cdec, ↓cnot, ↓reduceIte, Bo_0, Bo_1, ↓Bo_ok, i10, i01, eq_self, decide_true, decide_false, Bool.or_true, Bool.true_or, Bool.or_false, Bool.false_or, cond_true, cond_false, not_true_eq_false, not_false_eq_true, Bool.false_eq_true, and_self, and_true, true_and, and_false, false_and, nI_clamp, ↓inbc, inb_n, nI_pos, nI_1, b7_24_0, b7_24_5, b7_24_8, b7_24_16, b7_24_19, b7_24_25, b7_24_26, b7_24_32, b7_24_42, b7_24_46, xI, h1, x_within, k32_1, k32_200, h2, x_f0]
      · simp (disch := omega) only [bnd, bnd0, ↓cdec, ↓cnot, ↓reduceIte, Bo_0, Bo_1, ↓Bo_ok, i10, i01, eq_self, decide_true, decide_false, Bool.or_true, Bool.true_or, Bool.or_false, Bool.false_or, cond_true, cond_false, not_true_eq_false, not_false_eq_true, Bool.false_eq_true, and_self, and_true, true_and, and_false, false_and, nI_clamp, ↓inbc, inb_n, nI_pos, nI_1, b8_61_0, b8_61_5, b8_61_8, b8_61_17, b8_61_20, b8_61_26, b8_61_29, b8_61_35, mI, h1, m_in32, k64_1, k64_200, h2, m_f0]
  · have mI := m_isSum 8 (uI I 0 47 0 (I 0 47 0 + 1)) t1 t2 k sc n8 (by rw [uI_ne (by omega)]; exact c0)
    refine ⟨-1000001, uI I 0 47 0 (I 0 47 0 + 1), _, t1, t2, k, ?_, ?_, hI.find (f := 0) (by omega), by omega⟩
    · simp (disch := omega) only [bnd, bnd0, ↓cdec, ↓cnot, ↓reduceIte, Bo_0, Bo_1, ↓Bo_ok, i10, i01, eq_self, decide_true, decide_false, Bool.or_true, Bool.true_or, Bool.or_false, Bool.false_or, cond_true, cond_false, not_true_eq_false, not_false_eq_true, Bool.false_eq_true, and_self, and_true, true_and, and_false, false_and, nI_clamp, ↓inbc, inb_n, nI_pos, nI_1, b7_24_0, b7_24_5, b7_24_8, b7_24_16, b7_24_19, b7_24_25, b7_24_26, b7_24_32, b7_24_42, b7_24_46, xI, h1, x_f0]
    · simp (disch := omega) only [bnd, bnd0, ↓cdec, ↓cnot, ↓reduceIte, Bo_0, Bo_1, ↓Bo_ok, i10, i01, eq_self, decide_true, decide_false, Bool.or_true, Bool.true_or, Bool.or_false, Bool.false_or, cond_true, cond_false, not_true_eq_false, not_false_eq_true, Bool.false_eq_true, and_self, and_true, true_and, and_false, false_and, nI_clamp, ↓inbc, inb_n, nI_pos, nI_1, b8_61_0, b8_61_5, b8_61_8, b8_61_17, b8_61_20, b8_61_26, b8_61_29, b8_61_35, mI, h1, m_f0]
