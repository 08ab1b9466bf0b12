theorem cnt_le : ∀ f m, cntF f m ≤ f
  | 0, _ => Nat.le_refl 0
  | f + 1, m => by
    rw [cntF]
    have h := cnt_le f (m &&& (m - 1))
    by_cases z : m = 0
    · rw [if_pos z]; omega
    · rw [if_neg z]; omega
def csF (w : Nat → Nat) : Nat → Int32 × Nat
  | 0 => (-1, 11)
  | s + 1 => if w s < (csF w s).2 then (nI s, w s) else csF w s
theorem cs_t {w : Nat → Nat} {s : Nat} (h : w s < (csF w s).2) : csF w (s + 1) = (nI s, w s) := if_pos h
theorem cs_f {w : Nat → Nat} {s : Nat} (h : ¬ w s < (csF w s).2) : csF w (s + 1) = csF w s := if_neg h
theorem cs_le {w : Nat → Nat} (hw : ∀ s, w s ≤ 10) : ∀ s, (csF w s).2 ≤ 11
  | 0 => Nat.le_refl 11
  | s + 1 => by
    by_cases h : w s < (csF w s).2
    · rw [cs_t h]; have := hw s; show w s ≤ 11; omega
    · rw [cs_f h]; exact cs_le hw s
theorem cs_pos {w : Nat → Nat} (hw : ∀ s, w s ≤ 10) : ∀ s, ∃ b f, b ≤ s ∧ f ≤ 10 ∧ csF w (s + 1) = (nI b, f)
  | 0 => ⟨0, w 0, Nat.le_refl _, hw 0, cs_t (by have := hw 0; show w 0 < 11; omega)⟩
  | s + 1 => by
    obtain ⟨b, f, h1, h2, h3⟩ := cs_pos hw s
    by_cases h : w (s + 1) < (csF w (s + 1)).2
    · exact ⟨s + 1, w (s + 1), Nat.le_refl _, hw _, cs_t h⟩
    · exact ⟨b, f, by omega, h2, by rw [cs_f h]; exact h3⟩
def csM (w : Nat → Nat) : Nat → Int32
  | 0 => 0
  | s + 1 => nI (csF w (s + 1)).2
/-- choose -/
theorem ok_22 : op_22 Inv := by
  intro a1 I t1 t2 k sc hI
  by_cases h1 : 1 ≤ a1.toInt ∧ a1.toInt ≤ 200
  · obtain ⟨N, hN, rfl⟩ := nat_of (x := a1) (m := 201) (by omega) (by omega) (by omega)
    obtain ⟨γ, hX, hM, hok⟩ := hI.men
    obtain ⟨n, n8, c0, c0', c1, c2, c3, c4, ht, hQ⟩ := hI.head
    have hs : SumsOK I t1 k n (cS I) := ⟨n8, c0', ht, hQ⟩
    generalize hw : (fun s => cntF 10 (fS (fun p => decide ((goF (nI s) (cS I) (I 0 8 10) N (dG γ)) 8 p = 1) != decide (γ 4 p = 1)) 10).toNatClampNeg) = w
    have hw' : ∀ s, cb (fS (fun p => decide ((goF (nI s) (cS I) (I 0 8 10) N (dG γ)) 8 p = 1) != decide (γ 4 p = 1)) 10) = nI (w s) := fun s => by rw [← hw]; rfl
    have w10 : ∀ s, w s ≤ 10 := fun s => by rw [← hw]; exact cnt_le 10 _
    have xo : ∀ s, outS (goF (nI s) (cS I) (I 0 8 10) N (dG γ)) ^^^ mayS γ = fS (fun p => decide ((goF (nI s) (cS I) (I 0 8 10) N (dG γ)) 8 p = 1) != decide (γ 4 p = 1)) 10 := fun s => fS_xor _ _ (by omega)
    have xo' : ∀ s, mayS γ ^^^ outS (goF (nI s) (cS I) (I 0 8 10) N (dG γ)) = fS (fun p => decide ((goF (nI s) (cS I) (I 0 8 10) N (dG γ)) 8 p = 1) != decide (γ 4 p = 1)) 10 := fun s => (Int32.xor_comm _ _).trans (xo s)
    obtain ⟨J1, l1, hl1, ex, f1⟩ := lpLE (fun s J l => den (9 + 1, 7, 23, 26, [some (vr 0 0), some (vi (nI N)), some (vi (csF w s).1), some (vi (nI (csF w s).2)), some (vi (nI s)), l], [], mkH (J) t1 t2 k sc)) (fun _ J => FT I J) (N := n)
      (by
        intro s J l hsn hf hl
        obtain ⟨K, e, fK⟩ := x_letOut 4 J t1 t2 k sc hsn (show N ≤ 480 by omega) (hf.men hX) hok (hs.keep hf)
        have r10 : J 0 8 10 = I 0 8 10 := hf _ _ _ (by omega)
        rw [r10] at e
        have j3 : J 0 4 3 = nI n := by rw [hf _ _ _ (by omega)]; exact c0'
        have mx := mayX ((hf.trans fK).men hX) hok
        have g1 : nI s < nI n := nI_lt hsn (by omega)
        have b1 := w10 s
        have b2 := cs_le w10 s
        refine ⟨K, nI (w s), ?_, hf.trans fK⟩
        by_cases hc : w s < (csF w s).2
        · have g3 : nI (w s) < nI (csF w s).2 := nI_lt hc (by omega)
          rw [cs_t hc]
          rcases hl with rfl | ⟨y, rfl⟩
          · rw [b7_23_26]
            simp (disch := omega) only [bnd, bnd0, ↓cdec, ↓cnot, ↓reduceIte, Bo_0, Bo_1, ↓Bo_ok, i10, i01, eq_self, decide_true, decide_false, Bool.or_true, Bool.true_or, Bool.or_false, Bool.false_or, cond_true, cond_false, not_true_eq_false, not_false_eq_true, Bool.false_eq_true, and_self, and_true, true_and, and_false, false_and, nI_clamp, ↓inbc, inb_n, nI_pos, nI_1, j3, g1, g3, b7_23_41, b7_23_48, b7_23_58, b7_23_62, b7_23_70, b7_23_76, e, x_maySet, mx, xo, xo', x_bits, hw']
          · rw [b7_23_26w]
            simp (disch := omega) only [bnd, bnd0, ↓cdec, ↓cnot, ↓reduceIte, Bo_0, Bo_1, ↓Bo_ok, i10, i01, eq_self, decide_true, decide_false, Bool.or_true, Bool.true_or, Bool.or_false, Bool.false_or, cond_true, cond_false, not_true_eq_false, not_false_eq_true, Bool.false_eq_true, and_self, and_true, true_and, and_false, false_and, nI_clamp, ↓inbc, inb_n, nI_pos, nI_1, j3, g1, g3, b7_23_41w, b7_23_48w, b7_23_58w, b7_23_62w, b7_23_70, b7_23_76, e, x_maySet, mx, xo, xo', x_bits, hw']
        · have g3 : ¬ nI (w s) < nI (csF w s).2 := nI_nlt (by omega) (by omega)
          rw [cs_f hc]
          rcases hl with rfl | ⟨y, rfl⟩
          · rw [b7_23_26]
            simp (disch := omega) only [bnd, bnd0, ↓cdec, ↓cnot, ↓reduceIte, Bo_0, Bo_1, ↓Bo_ok, i10, i01, eq_self, decide_true, decide_false, Bool.or_true, Bool.true_or, Bool.or_false, Bool.false_or, cond_true, cond_false, not_true_eq_false, not_false_eq_true, Bool.false_eq_true, and_self, and_true, true_and, and_false, false_and, nI_clamp, ↓inbc, inb_n, nI_pos, nI_1, j3, g1, g3, b7_23_41, b7_23_48, b7_23_58, b7_23_62, b7_23_76, e, x_maySet, mx, xo, xo', x_bits, hw']
          · rw [b7_23_26w]
            simp (disch := omega) only [bnd, bnd0, ↓cdec, ↓cnot, ↓reduceIte, Bo_0, Bo_1, ↓Bo_ok, i10, i01, eq_self, decide_true, decide_false, Bool.or_true, Bool.true_or, Bool.or_false, Bool.false_or, cond_true, cond_false, not_true_eq_false, not_false_eq_true, Bool.false_eq_true, and_self, and_true, true_and, and_false, false_and, nI_clamp, ↓inbc, inb_n, nI_pos, nI_1, j3, g1, g3, b7_23_41w, b7_23_48w, b7_23_58w, b7_23_62w, b7_23_76, e, x_maySet, mx, xo, xo', x_bits, hw']) 0 I none (by omega) FT.rfl (Or.inl rfl)
    have hmL : ∀ I1 : IFn, (∀ i, I1 0 57 i = I 0 57 i) → ∃ J l', lok l' ∧ den (9 + 1, 8, 60, 26, [some (vr 0 56), some (vi (nI N)), some (vi (csF w 0).1), some (vi (csM w 0)), some (vi (nI 0)), none], [], mkH (I1) t1 t2 k sc) = den (9 + 1, 8, 60, 26, [some (vr 0 56), some (vi (nI N)), some (vi (csF w n).1), some (vi (csM w n)), some (vi (nI n)), l'], [], mkH (J) t1 t2 k sc) ∧ FB I1 J := by
      intro I1 hI1
      refine lpLE (fun s J l => den (9 + 1, 8, 60, 26, [some (vr 0 56), some (vi (nI N)), some (vi (csF w s).1), some (vi (csM w s)), some (vi (nI s)), l], [], mkH (J) t1 t2 k sc)) (fun _ J => FB I1 J) (N := n) ?_ 0 I1 none (by omega) FB.rfl (Or.inl rfl)
      intro s J l hsn hf hl
      have rJ : ∀ i, J 0 57 i = I 0 57 i := fun i => (hf _ _ _ (by omega)).trans (hI1 i)
      have hMJ : MenM J γ := hM.keep (fun i _ _ => rJ i)
      obtain ⟨K, e, fK⟩ := m_letsOut 2 J t1 t2 k sc hsn (show N ≤ 480 by omega) hMJ hok hs (fun q _ => funext fun a => rJ _)
      rw [rJ, ← c3.1] at e
      have mm := mayM (fK.men hMJ)
      have j0 : J 0 57 0 = nI n := by rw [rJ]; exact c0
      have g1 : nI s < nI n := nI_lt hsn (by omega)
      have b1 := w10 s
      refine ⟨K, nI (w s), ?_, hf.trans fK⟩
      have us : den (9, 8, 59, 0, [some (vr 0 56), some (vi (nI s)), some (vi (nI N))], [], mkH (J) t1 t2 k sc) = some (some (vi (nI (w s))), mkH (K) t1 t2 k sc) := by
        simp (disch := omega) only [bnd, bnd0, ↓cdec, ↓cnot, ↓reduceIte, Bo_0, Bo_1, ↓Bo_ok, i10, i01, eq_self, decide_true, decide_false, Bool.or_true, Bool.true_or, Bool.or_false, Bool.false_or, cond_true, cond_false, not_true_eq_false, not_false_eq_true, Bool.false_eq_true, and_self, and_true, true_and, and_false, false_and, nI_clamp, ↓inbc, inb_n, nI_pos, nI_1, b8_59_0, b8_59_6, b8_59_10, b8_59_14, e, m_maySet, mm, xo, xo', m_ones, hw']
      have mid : den (9 + 1, 8, 60, 26, [some (vr 0 56), some (vi (nI N)), some (vi (csF w s).1), some (vi (csM w s)), some (vi (nI s)), l], [], mkH (J) t1 t2 k sc) = bif decide ((csF w s).1 < 0) then den (9 + 1, 8, 60, 56, [some (vr 0 56), some (vi (nI N)), some (vi (csF w s).1), some (vi (csM w s)), some (vi (nI s)), some (vi (nI (w s)))], [], mkH (K) t1 t2 k sc) else den (9 + 1, 8, 60, 50, [some (vr 0 56), some (vi (nI N)), some (vi (csF w s).1), some (vi (csM w s)), some (vi (nI s)), some (vi (nI (w s)))], [], mkH (K) t1 t2 k sc) := by
        rcases hl with rfl | ⟨y, rfl⟩
        · rw [b8_60_26]
          simp (disch := omega) only [bnd, bnd0, ↓cdec, ↓cnot, ↓reduceIte, Bo_0, Bo_1, ↓Bo_ok, i10, i01, eq_self, decide_true, decide_false, Bool.or_true, Bool.true_or, Bool.or_false, Bool.false_or, cond_true, cond_false, not_true_eq_false, not_false_eq_true, Bool.false_eq_true, and_self, and_true, true_and, and_false, false_and, nI_clamp, ↓inbc, inb_n, nI_pos, nI_1, j0, g1, b8_60_37, b8_60_44, us]
        · rw [b8_60_26w]
          simp (disch := omega) only [bnd, bnd0, ↓cdec, ↓cnot, ↓reduceIte, Bo_0, Bo_1, ↓Bo_ok, i10, i01, eq_self, decide_true, decide_false, Bool.or_true, Bool.true_or, Bool.or_false, Bool.false_or, cond_true, cond_false, not_true_eq_false, not_false_eq_true, Bool.false_eq_true, and_self, and_true, true_and, and_false, false_and, nI_clamp, ↓inbc, inb_n, nI_pos, nI_1, j0, g1, b8_60_37w, b8_60_44w, us]
      refine mid.trans ?_
      cases s with
      | zero =>
        have hc : w 0 < (csF w 0).2 := by show w 0 < 11; omega
        have l1 : (csF w 0).1 < 0 := by show (-1 : Int32) < 0; decide
        have e2 : csM w (0 + 1) = nI (w 0) := by rw [csM, cs_t hc]
        rw [cs_t hc, e2]
        simp (disch := omega) only [bnd, bnd0, ↓cdec, ↓cnot, ↓reduceIte, Bo_0, Bo_1, ↓Bo_ok, i10, i01, eq_self, decide_true, decide_false, Bool.or_true, Bool.true_or, Bool.or_false, Bool.false_or, cond_true, cond_false, not_true_eq_false, not_false_eq_true, Bool.false_eq_true, and_self, and_true, true_and, and_false, false_and, nI_clamp, ↓inbc, inb_n, nI_pos, nI_1, b8_60_56, b8_60_62, l1]
      | succ s =>
        obtain ⟨b, f, q1, q2, q3⟩ := cs_pos w10 s
        have e1 : (csF w (s + 1)).1 = nI b := by rw [q3]
        have e2 : csM w (s + 1) = nI f := by rw [csM, q3]
        have e3 : (csF w (s + 1)).2 = f := by rw [q3]
        have l1 : ¬ nI b < 0 := nI_nlt (b := 0) (Nat.zero_le _) (by omega)
        by_cases hc : w (s + 1) < (csF w (s + 1)).2
        · have g3 : nI (w (s + 1)) < nI f := nI_lt (by omega) (by omega)
          have e4 : csM w (s + 1 + 1) = nI (w (s + 1)) := by rw [csM, cs_t hc]
          rw [e1, e2, e4, cs_t hc]
          simp (disch := omega) only [bnd, bnd0, ↓cdec, ↓cnot, ↓reduceIte, Bo_0, Bo_1, ↓Bo_ok, i10, i01, eq_self, decide_true, decide_false, Bool.or_true, Bool.true_or, Bool.or_false, Bool.false_or, cond_true, cond_false, not_true_eq_false, not_false_eq_true, Bool.false_eq_true, and_self, and_true, true_and, and_false, false_and, nI_clamp, ↓inbc, inb_n, nI_pos, nI_1, b8_60_50, b8_60_56, b8_60_62, l1, g3]
        · have g3 : ¬ nI (w (s + 1)) < nI f := nI_nlt (by omega) (by omega)
          have e4 : csM w (s + 1 + 1) = nI f := by rw [csM, cs_f hc, e3]
          rw [e1, e2, e4, cs_f hc, e1]
          simp (disch := omega) only [bnd, bnd0, ↓cdec, ↓cnot, ↓reduceIte, Bo_0, Bo_1, ↓Bo_ok, i10, i01, eq_self, decide_true, decide_false, Bool.or_true, Bool.true_or, Bool.or_false, Bool.false_or, cond_true, cond_false, not_true_eq_false, not_false_eq_true, Bool.false_eq_true, and_self, and_true, true_and, and_false, false_and, nI_clamp, ↓inbc, inb_n, nI_pos, nI_1, b8_60_50, b8_60_62, l1, g3]
    have hx0 : den (10, 7, 23, 0, [some (vr 0 0), some (vi (nI N)), none, none, none, none], [], mkH I t1 t2 k sc) = den (9 + 1, 7, 23, 26, [some (vr 0 0), some (vi (nI N)), some (vi (csF w n).1), some (vi (nI (csF w n).2)), some (vi (nI n)), l1], [], mkH (J1) t1 t2 k sc) := by
      refine Eq.trans ?_ ex
      simp (disch := omega) only [bnd, bnd0, ↓cdec, ↓cnot, ↓reduceIte, Bo_0, Bo_1, ↓Bo_ok, i10, i01, eq_self, decide_true, decide_false, Bool.or_true, Bool.true_or, Bool.or_false, Bool.false_or, cond_true, cond_false, not_true_eq_false, not_false_eq_true, Bool.false_eq_true, and_self, and_true, true_and, and_false, false_and, nI_clamp, ↓inbc, inb_n, nI_pos, nI_1, b7_23_0, b7_23_8, b7_23_18, x_within, k32_1, k32_200, h1]
      rfl
    have hm0 : ∀ I1 : IFn, ∀ z, z = den (9 + 1, 8, 60, 26, [some (vr 0 56), some (vi (nI N)), some (vi (csF w 0).1), some (vi (csM w 0)), some (vi (nI 0)), none], [], mkH (I1) t1 t2 k sc) → den (10, 8, 60, 0, [some (vr 0 56), some (vi (nI N)), none, none, none, none], [], mkH (I1) t1 t2 k sc) = z := by
      intro I1 z hz
      rw [hz]
      simp (disch := omega) only [bnd, bnd0, ↓cdec, ↓cnot, ↓reduceIte, Bo_0, Bo_1, ↓Bo_ok, i10, i01, eq_self, decide_true, decide_false, Bool.or_true, Bool.true_or, Bool.or_false, Bool.false_or, cond_true, cond_false, not_true_eq_false, not_false_eq_true, Bool.false_eq_true, and_self, and_true, true_and, and_false, false_and, nI_clamp, ↓inbc, inb_n, nI_pos, nI_1, b8_60_0, b8_60_9, b8_60_19, m_in32, k64_1, k64_200, h1]
      rfl
    have j3 : J1 0 4 3 = nI n := by rw [f1 _ _ _ (by omega)]; exact c0'
    have nl : ¬ nI n < nI n := nI_nlt (by omega) (by omega)
    cases n with
    | zero =>
      obtain ⟨J2, l2, hl2, em, f2⟩ := hmL (uI J1 0 47 3 (J1 0 47 3 + 1)) (fun i => by rw [uI_ne (by omega)]; exact f1 _ _ _ (by omega))
      have j0 : J2 0 57 0 = nI 0 := by rw [f2 _ _ _ (by omega), uI_ne (by omega), f1 _ _ _ (by omega)]; exact c0
      have l0 : (csF w 0).1 < 0 := by show (-1 : Int32) < 0; decide
      refine ⟨-1000004, uI J1 0 47 3 (J1 0 47 3 + 1), uI J2 0 60 3 (J2 0 60 3 + 1), t1, t2, k, hx0.trans ?_, (hm0 _ _ rfl).trans (em.trans ?_), hI.findG (f := 3) (by omega) ?_ ?_, by omega⟩
      · rcases hl1 with rfl | ⟨y, rfl⟩
        · rw [b7_23_26]
          simp (disch := omega) only [bnd, bnd0, ↓cdec, ↓cnot, ↓reduceIte, Bo_0, Bo_1, ↓Bo_ok, i10, i01, eq_self, decide_true, decide_false, Bool.or_true, Bool.true_or, Bool.or_false, Bool.false_or, cond_true, cond_false, not_true_eq_false, not_false_eq_true, Bool.false_eq_true, and_self, and_true, true_and, and_false, false_and, nI_clamp, ↓inbc, inb_n, nI_pos, nI_1, j3, nl, l0, b7_23_82, b7_23_90, b7_23_96, x_f3]
        · rw [b7_23_26w]
          simp (disch := omega) only [bnd, bnd0, ↓cdec, ↓cnot, ↓reduceIte, Bo_0, Bo_1, ↓Bo_ok, i10, i01, eq_self, decide_true, decide_false, Bool.or_true, Bool.true_or, Bool.or_false, Bool.false_or, cond_true, cond_false, not_true_eq_false, not_false_eq_true, Bool.false_eq_true, and_self, and_true, true_and, and_false, false_and, nI_clamp, ↓inbc, inb_n, nI_pos, nI_1, j3, nl, l0, b7_23_82w, b7_23_90w, b7_23_96w, x_f3]
      · rcases hl2 with rfl | ⟨y, rfl⟩
        · rw [b8_60_26]
          simp (disch := omega) only [bnd, bnd0, ↓cdec, ↓cnot, ↓reduceIte, Bo_0, Bo_1, ↓Bo_ok, i10, i01, eq_self, decide_true, decide_false, Bool.or_true, Bool.true_or, Bool.or_false, Bool.false_or, cond_true, cond_false, not_true_eq_false, not_false_eq_true, Bool.false_eq_true, and_self, and_true, true_and, and_false, false_and, nI_clamp, ↓inbc, inb_n, nI_pos, nI_1, j0, nl, l0, b8_60_68, b8_60_72, b8_60_78, b8_60_82, m_f3]
        · rw [b8_60_26w]
          simp (disch := omega) only [bnd, bnd0, ↓cdec, ↓cnot, ↓reduceIte, Bo_0, Bo_1, ↓Bo_ok, i10, i01, eq_self, decide_true, decide_false, Bool.or_true, Bool.true_or, Bool.or_false, Bool.false_or, cond_true, cond_false, not_true_eq_false, not_false_eq_true, Bool.false_eq_true, and_self, and_true, true_and, and_false, false_and, nI_clamp, ↓inbc, inb_n, nI_pos, nI_1, j0, nl, l0, b8_60_68w, b8_60_72w, b8_60_78w, b8_60_82w, m_f3]
      · rw [f2 _ _ _ (by omega), uI_at (by omega), f1 _ _ _ (by omega)]
      · intro g j i hg hn
        unfold Gb at hg
        rw [f2 _ _ _ (by omega), uI_ne (by omega), f1 _ _ _ (by omega)]
    | succ n =>
      obtain ⟨J2, l2, hl2, em, f2⟩ := hmL J1 (fun i => f1 _ _ _ (by omega))
      have j0 : J2 0 57 0 = nI (n + 1) := by rw [f2 _ _ _ (by omega), f1 _ _ _ (by omega)]; exact c0
      obtain ⟨b, f, q1, q2, q3⟩ := cs_pos w10 n
      have e1 : (csF w (n + 1)).1 = nI b := by rw [q3]
      have l0 : ¬ nI b < 0 := nI_nlt (b := 0) (Nat.zero_le _) (by omega)
      rw [e1] at hx0 em
      refine ⟨nI b, J1, J2, t1, t2, k, hx0.trans ?_, (hm0 _ _ rfl).trans (em.trans ?_), hI.garb (FTB.al f1 f2), by omega⟩
      · rcases hl1 with rfl | ⟨y, rfl⟩
        · rw [b7_23_26]
          simp (disch := omega) only [bnd, bnd0, ↓cdec, ↓cnot, ↓reduceIte, Bo_0, Bo_1, ↓Bo_ok, i10, i01, eq_self, decide_true, decide_false, Bool.or_true, Bool.true_or, Bool.or_false, Bool.false_or, cond_true, cond_false, not_true_eq_false, not_false_eq_true, Bool.false_eq_true, and_self, and_true, true_and, and_false, false_and, nI_clamp, ↓inbc, inb_n, nI_pos, nI_1, j3, nl, l0, b7_23_82, b7_23_86, b7_23_96]
        · rw [b7_23_26w]
          simp (disch := omega) only [bnd, bnd0, ↓cdec, ↓cnot, ↓reduceIte, Bo_0, Bo_1, ↓Bo_ok, i10, i01, eq_self, decide_true, decide_false, Bool.or_true, Bool.true_or, Bool.or_false, Bool.false_or, cond_true, cond_false, not_true_eq_false, not_false_eq_true, Bool.false_eq_true, and_self, and_true, true_and, and_false, false_and, nI_clamp, ↓inbc, inb_n, nI_pos, nI_1, j3, nl, l0, b7_23_82w, b7_23_86w, b7_23_96w]
      · rcases hl2 with rfl | ⟨y, rfl⟩
        · rw [b8_60_26]
          simp (disch := omega) only [bnd, bnd0, ↓cdec, ↓cnot, ↓reduceIte, Bo_0, Bo_1, ↓Bo_ok, i10, i01, eq_self, decide_true, decide_false, Bool.or_true, Bool.true_or, Bool.or_false, Bool.false_or, cond_true, cond_false, not_true_eq_false, not_false_eq_true, Bool.false_eq_true, and_self, and_true, true_and, and_false, false_and, nI_clamp, ↓inbc, inb_n, nI_pos, nI_1, j0, nl, l0, b8_60_68, b8_60_81, b8_60_82]
        · rw [b8_60_26w]
          simp (disch := omega) only [bnd, bnd0, ↓cdec, ↓cnot, ↓reduceIte, Bo_0, Bo_1, ↓Bo_ok, i10, i01, eq_self, decide_true, decide_false, Bool.or_true, Bool.true_or, Bool.or_false, Bool.false_or, cond_true, cond_false, not_true_eq_false, not_false_eq_true, Bool.false_eq_true, and_self, and_true, true_and, and_false, false_and, nI_clamp, ↓inbc, inb_n, nI_pos, nI_1, j0, nl, l0, b8_60_68w, b8_60_81w, b8_60_82w]
  · refine ⟨-1000001, uI I 0 47 0 (I 0 47 0 + 1), uI (uI I 0 47 0 (I 0 47 0 + 1)) 0 60 0 ((uI I 0 47 0 (I 0 47 0 + 1)) 0 60 0 + 1), t1, t2, k, ?_, ?_, hI.find (f := 0) (by omega), by omega⟩
    · simp (disch := omega) only [bnd, bnd0, ↓cdec, ↓cnot, ↓reduceIte, Bo_0, Bo_1, ↓Bo_ok, i10, i01, eq_self, decide_true, decide_false, Bool.or_true, Bool.true_or, Bool.or_false, Bool.false_or, cond_true, cond_false, not_true_eq_false, not_false_eq_true, Bool.false_eq_true, and_self, and_true, true_and, and_false, false_and, nI_clamp, ↓inbc, inb_n, nI_pos, nI_1, b7_23_0, b7_23_8, b7_23_11, b7_23_17, x_within, k32_1, k32_200, h1, x_f0]
    · simp (disch := omega) only [bnd, bnd0, ↓cdec, ↓cnot, ↓reduceIte, Bo_0, Bo_1, ↓Bo_ok, i10, i01, eq_self, decide_true, decide_false, Bool.or_true, Bool.true_or, Bool.or_false, Bool.false_or, cond_true, cond_false, not_true_eq_false, not_false_eq_true, Bool.false_eq_true, and_self, and_true, true_and, and_false, false_and, nI_clamp, ↓inbc, inb_n, nI_pos, nI_1, b8_60_0, b8_60_9, b8_60_12, b8_60_18, m_in32, k64_1, k64_200, h1, m_f0]
