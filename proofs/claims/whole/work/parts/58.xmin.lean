/-! a minute of the class -/
def oI : Option Nat → Int32
  | none => -1
  | some q => nI q
def XB (I : IFn) (t1 : TFn) (k n th : Nat) (C : Nat → Int32) : Prop := n ≤ 8 ∧ I 0 4 3 = nI n ∧ (∀ q, q < n → ∃ e, t1 q = some (e + 1, 0)) ∧ th < n ∧ sumOK I (t1 th) k (I 0 6 th) (I 0 7 th) C
def FG (g : Nat) (I J : IFn) : Prop := ∀ g' j i, ¬ (g' = 0 ∧ ((j = g ∧ i = 12) ∨ (g + 1 ≤ j ∧ j ≤ g + 9))) → J g' j i = I g' j i
theorem FG.rfl {g : Nat} {I : IFn} : FG g I I := fun _ _ _ _ => Eq.refl _
theorem FG.trans {g : Nat} {I J K : IFn} (h : FG g I J) (h2 : FG g J K) : FG g I K := fun g' j i q => (h2 g' j i q).trans (h g' j i q)
theorem XB.keep {g : Nat} (hg : g = 8 ∨ g = 35) {I J : IFn} {t1 : TFn} {k n th : Nat} {C : Nat → Int32} (h : XB I t1 k n th C) (hf : FG g I J) : XB J t1 k n th C := by
  obtain ⟨h1, h2, h3, h4, h5⟩ := h
  refine ⟨h1, by rw [hf _ _ _ (by omega)]; exact h2, h3, h4, ?_⟩
  rw [hf 0 6 th (by omega), hf 0 7 th (by omega)]
  exact sumOK.congr (fun e _ j i _ _ _ _ => hf _ _ _ (by omega)) h5
/-- one step of a minute: the men changed, and marked so, or left as they were -/
def XR (g : Nat) (I J : IFn) (γ γ' : Men) : Prop := MenX g J γ' ∧ FG g I J ∧ (J 0 g 12 = 1 ∨ (J 0 g 12 = I 0 g 12 ∧ γ' = γ))
theorem XR.rfl {g : Nat} {I : IFn} {γ : Men} (h : MenX g I γ) : XR g I I γ γ := ⟨h, FG.rfl, Or.inr ⟨Eq.refl _, Eq.refl _⟩⟩
theorem XR.trans {g : Nat} {I J K : IFn} {γ γ' γ'' : Men} (h : XR g I J γ γ') (h2 : XR g J K γ' γ'') : XR g I K γ γ'' := by
  obtain ⟨a1, a2, a3⟩ := h
  obtain ⟨b1, b2, b3⟩ := h2
  refine ⟨b1, a2.trans b2, ?_⟩
  rcases b3 with z | ⟨z1, z2⟩
  · exact Or.inl z
  · rcases a3 with y | ⟨y1, y2⟩
    · exact Or.inl (z1.trans y)
    · exact Or.inr ⟨z1.trans y1, z2.trans y2⟩
theorem fS_test : ∀ m, m < 1024 → ∀ n, n < 10 → (((nI m >>> (nI n &&& 31)) &&& 1 = 1) ↔ (nI m).toBitVec.getLsbD n = true) := by decide +kernel
theorem fS_has (f : Nat → Bool) {n : Nat} (hn : n < 10) : ((fS f 10 >>> (nI n &&& 31)) &&& 1 = 1) ↔ f n = true := by
  have h2 := fS_bit f (n := 10) (by omega) n (by omega)
  have h1 : decide (n < 10) = true := decide_eq_true hn
  rw [h1, Bool.true_and] at h2
  obtain ⟨m, h3, h4⟩ := fS_nat f (n := 10) (by omega)
  rw [h4] at h2 ⊢
  rw [fS_test m h3 n hn, h2]
section
variable (d : Nat) (I : IFn) (t1 t2 : TFn) (k : Nat) (sc : Nat × (Nat → Int32))
theorem x_seeks {g p : Nat} (hg : g = 8 ∨ g = 35) {γ : Men} (hm : MenX g I γ) (hp : p < 10) : den (d, 0, 12, 0, [some (vr 0 g), some (vi (nI p))], [], mkH I t1 t2 k sc) = some (some (vi (Bo (opB γ p = true))), mkH I t1 t2 k sc) := by
  have e8 : I 0 (g + 9) p = γ 8 p := hm 8 p (by omega) hp
  have e6 : I 0 (g + 7) p = γ 6 p := hm 6 p (by omega) hp
  by_cases h8 : γ 8 p = 0
  · by_cases h6 : γ 6 p < 0
    · rw [Bo_t (op_t.mpr ⟨h8, h6⟩)]
      simp (disch := omega) only [bnd, bnd0, ↓cdec, ↓cnot, ↓reduceIte, Bo_0, Bo_1, ↓Bo_ok, i10, i01, eq_self, decide_true, decide_false, Bool.or_true, Bool.true_or, Bool.or_false, Bool.false_or, cond_true, cond_false, not_true_eq_false, not_false_eq_true, Bool.false_eq_true, and_self, and_true, true_and, and_false, false_and, nI_clamp, ↓inbc, inb_n, nI_pos, nI_1, b0_12_0, b0_12_4, b0_12_10, b0_12_19, b0_12_28, b0_12_32, b0_12_33, lt_10, hp, e8, e6, h8, h6]
    · rw [Bo_f (fun z => h6 (op_t.mp z).2)]
      simp (disch := omega) only [bnd, bnd0, ↓cdec, ↓cnot, ↓reduceIte, Bo_0, Bo_1, ↓Bo_ok, i10, i01, eq_self, decide_true, decide_false, Bool.or_true, Bool.true_or, Bool.or_false, Bool.false_or, cond_true, cond_false, not_true_eq_false, not_false_eq_true, Bool.false_eq_true, and_self, and_true, true_and, and_false, false_and, nI_clamp, ↓inbc, inb_n, nI_pos, nI_1, b0_12_0, b0_12_4, b0_12_10, b0_12_19, b0_12_28, b0_12_32, b0_12_33, lt_10, hp, e8, e6, h8, h6]
  · rw [Bo_f (fun z => h8 (op_t.mp z).1)]
    simp (disch := omega) only [bnd, bnd0, ↓cdec, ↓cnot, ↓reduceIte, Bo_0, Bo_1, ↓Bo_ok, i10, i01, eq_self, decide_true, decide_false, Bool.or_true, Bool.true_or, Bool.or_false, Bool.false_or, cond_true, cond_false, not_true_eq_false, not_false_eq_true, Bool.false_eq_true, and_self, and_true, true_and, and_false, false_and, nI_clamp, ↓inbc, inb_n, nI_pos, nI_1, b0_12_0, b0_12_4, b0_12_10, b0_12_19, b0_12_28, b0_12_32, b0_12_33, lt_10, hp, e8, e6, h8]
theorem x_sells {g p : Nat} (hg : g = 8 ∨ g = 35) {γ : Men} (hm : MenX g I γ) (hp : p < 10) : den (d, 0, 13, 0, [some (vr 0 g), some (vi (nI p))], [], mkH I t1 t2 k sc) = some (some (vi (Bo (seB γ p = true))), mkH I t1 t2 k sc) := by
  have e8 : I 0 (g + 9) p = γ 8 p := hm 8 p (by omega) hp
  have e6 : I 0 (g + 7) p = γ 6 p := hm 6 p (by omega) hp
  by_cases h8 : γ 8 p = 0
  · by_cases h6 : γ 6 p < 0
    · rw [Bo_f (fun z => (se_t.mp z).2 h6)]
      simp (disch := omega) only [bnd, bnd0, ↓cdec, ↓cnot, ↓reduceIte, Bo_0, Bo_1, ↓Bo_ok, i10, i01, eq_self, decide_true, decide_false, Bool.or_true, Bool.true_or, Bool.or_false, Bool.false_or, cond_true, cond_false, not_true_eq_false, not_false_eq_true, Bool.false_eq_true, and_self, and_true, true_and, and_false, false_and, nI_clamp, ↓inbc, inb_n, nI_pos, nI_1, b0_13_0, b0_13_4, b0_13_10, b0_13_19, b0_13_28, b0_13_32, b0_13_33, lt_10, hp, e8, e6, h8, h6]
    · rw [Bo_t (se_t.mpr ⟨h8, h6⟩)]
      simp (disch := omega) only [bnd, bnd0, ↓cdec, ↓cnot, ↓reduceIte, Bo_0, Bo_1, ↓Bo_ok, i10, i01, eq_self, decide_true, decide_false, Bool.or_true, Bool.true_or, Bool.or_false, Bool.false_or, cond_true, cond_false, not_true_eq_false, not_false_eq_true, Bool.false_eq_true, and_self, and_true, true_and, and_false, false_and, nI_clamp, ↓inbc, inb_n, nI_pos, nI_1, b0_13_0, b0_13_4, b0_13_10, b0_13_19, b0_13_28, b0_13_32, b0_13_33, lt_10, hp, e8, e6, h8, h6]
  · rw [Bo_f (fun z => h8 (se_t.mp z).1)]
    simp (disch := omega) only [bnd, bnd0, ↓cdec, ↓cnot, ↓reduceIte, Bo_0, Bo_1, ↓Bo_ok, i10, i01, eq_self, decide_true, decide_false, Bool.or_true, Bool.true_or, Bool.or_false, Bool.false_or, cond_true, cond_false, not_true_eq_false, not_false_eq_true, Bool.false_eq_true, and_self, and_true, true_and, and_false, false_and, nI_clamp, ↓inbc, inb_n, nI_pos, nI_1, b0_13_0, b0_13_4, b0_13_10, b0_13_19, b0_13_28, b0_13_32, b0_13_33, lt_10, hp, e8, e6, h8]
theorem x_tries {g p h n th : Nat} (hg : g = 8 ∨ g = 35) (hp : p < 10) (h2 : 2 ≤ h) (h58 : h ≤ 58) {C : Nat → Int32} : ∀ f t (J : IFn) (γ : Men), t + f = 1000 → MenX g J γ → rng 0 99 (γ 5 p) → (∃ w : Nat, γ 7 p = nI w ∧ w < f ∧ w ≤ 69) → J 0 g 9 = nI th → XB J t1 k n th C → ∃ K, den (d + 3, 0, 14, 55, [some (vr 0 g), some (vi (nI p)), some (vr 0 4), some (vi (nI h)), some (vi (nI t))], [], mkH (J) t1 t2 k sc) = some (none, mkH (K) t1 t2 k sc) ∧ MenX g K (trF (nI h) (solC C) p f γ) ∧ FG g J K ∧ K 0 g 12 = J 0 g 12
  | 0, t, J, γ, _, _, _, ⟨w, _, hw, _⟩, _, _ => by omega
  | f + 1, t, J, γ, ht, hm, h5, ⟨w, ew, hw, w69⟩, h9, hx => by
    have e7 : J 0 (g + 8) p = γ 7 p := hm 7 p (by omega) hp
    have e6 : J 0 (g + 7) p = γ 6 p := hm 6 p (by omega) hp
    have e5 : J 0 (g + 6) p = γ 5 p := hm 5 p (by omega) hp
    have t1000 : t < 1000 := by omega
    by_cases c7 : γ 7 p < nI h
    · refine ⟨J, ?_, by rw [tr_no (fun z => z.1 c7)]; exact hm, FG.rfl, rfl⟩
      rw [b0_14_55]
      simp (disch := omega) only [bnd, bnd0, ↓cdec, ↓cnot, ↓reduceIte, Bo_0, Bo_1, ↓Bo_ok, i10, i01, eq_self, decide_true, decide_false, Bool.or_true, Bool.true_or, Bool.or_false, Bool.false_or, cond_true, cond_false, not_true_eq_false, not_false_eq_true, Bool.false_eq_true, and_self, and_true, true_and, and_false, false_and, nI_clamp, ↓inbc, inb_n, nI_pos, nI_1, lt_1000, t1000, b0_14_63, b0_14_159, e7, c7]
    · by_cases c6 : γ 6 p < 0
      · obtain ⟨x, -, x99, ex⟩ := h5
        have hwh : h ≤ w := by
          rw [ew, nI_ltI (by omega) (by omega)] at c7; omega
        have ed : γ 7 p - nI h = nI (w - h) := by rw [ew, pk_sub hwh]
        have f1 : FG g J (uI J 0 (g + 8) p (γ 7 p - nI h)) := fun g' j i q => uI_ne (by omega)
        have hx1 := hx.keep hg f1
        have m1 : MenX g (uI J 0 (g + 8) p (γ 7 p - nI h)) (g2 γ 7 p (γ 7 p - nI h)) := hm.set (a := 7) (p := p) _
        obtain ⟨b1, b2, b3, b4, b5⟩ := hx1
        have xs := x_solC d (uI J 0 (g + 8) p (γ 7 p - nI h)) t1 t2 k sc b1 b2 b3 b4 (show x < 100 by omega) b5
        have i9 : (uI J 0 (g + 8) p (γ 7 p - nI h)) 0 g 9 = nI th := by rw [uI_ne (by omega)]; exact h9
        have i5 : (uI J 0 (g + 8) p (γ 7 p - nI h)) 0 (g + 6) p = nI x := by rw [uI_ne (by omega), e5, ex]
        have cl5 : (γ 5 p).toNatClampNeg = x := by rw [ex, nI_clamp (by omega)]
        by_cases hs : solC C x = true
        · have ht1 : t1F (nI h) (solC C) p γ = g2 (g2 γ 7 p (γ 7 p - nI h)) 6 p (γ 5 p) := by rw [t1F, cl5, if_pos hs]
          obtain ⟨K, e, k1, k2, k3⟩ := x_tries hg hp h2 h58 f (t + 1) (uI (uI J 0 (g + 8) p (γ 7 p - nI h)) 0 (g + 7) p (nI x)) (t1F (nI h) (solC C) p γ) (by omega) (by rw [ht1, ex]; exact m1.set (a := 6) (p := p) _) (by rw [ht1, g2_ne (by omega), g2_ne (by omega)]; exact ⟨x, by omega, by omega, ex⟩) ⟨w - h, by rw [ht1, g2_ne (by omega), g2_at ⟨rfl, rfl⟩, ed], by omega, by omega⟩ (by rw [uI_ne (by omega)]; exact i9) (hx.keep hg (f1.trans (fun g' j i q => uI_ne (by omega))))
          refine ⟨K, ?_, by rw [tr_go ⟨c7, c6⟩]; exact k1, (f1.trans (fun g' j i q => uI_ne (by omega))).trans k2, by rw [k3, uI_ne (by omega), uI_ne (by omega)]⟩
          rw [b0_14_55]
          simp (disch := omega) only [bnd, bnd0, ↓cdec, ↓cnot, ↓reduceIte, Bo_0, Bo_1, ↓Bo_ok, i10, i01, eq_self, decide_true, decide_false, Bool.or_true, Bool.true_or, Bool.or_false, Bool.false_or, cond_true, cond_false, not_true_eq_false, not_false_eq_true, Bool.false_eq_true, and_self, and_true, true_and, and_false, false_and, nI_clamp, ↓inbc, inb_n, nI_pos, nI_1, lt_1000, t1000, b0_14_63, b0_14_73, b0_14_82, b0_14_106, b0_14_109, b0_14_153, e7, e6, c7, c6, i9, i5, xs, hs]
          exact e
        · have hnx : (if nI x < 99 then nI (x + 1) else 0) = nxN (γ 5 p) := by rw [ex, nxN, nI_1]
          have ht1 : t1F (nI h) (solC C) p γ = g2 (g2 γ 7 p (γ 7 p - nI h)) 5 p (nxN (γ 5 p)) := by rw [t1F, cl5, if_neg hs]
          obtain ⟨K, e, k1, k2, k3⟩ := x_tries hg hp h2 h58 f (t + 1) (uI (uI J 0 (g + 8) p (γ 7 p - nI h)) 0 (g + 6) p (nxN (γ 5 p))) (t1F (nI h) (solC C) p γ) (by omega) (by rw [ht1]; exact m1.set (a := 5) (p := p) _) (by rw [ht1, g2_at ⟨rfl, rfl⟩]; exact (nx_ok ⟨x, by omega, by omega, ex⟩).1) ⟨w - h, by rw [ht1, g2_ne (by omega), g2_at ⟨rfl, rfl⟩, ed], by omega, by omega⟩ (by rw [uI_ne (by omega)]; exact i9) (hx.keep hg (f1.trans (fun g' j i q => uI_ne (by omega))))
          refine ⟨K, ?_, by rw [tr_go ⟨c7, c6⟩]; exact k1, (f1.trans (fun g' j i q => uI_ne (by omega))).trans k2, by rw [k3, uI_ne (by omega), uI_ne (by omega)]⟩
          rw [b0_14_55]
          by_cases h99 : nI x < 99
          · rw [if_pos h99] at hnx
            rw [← hnx] at e
            simp (disch := omega) only [bnd, bnd0, ↓cdec, ↓cnot, ↓reduceIte, Bo_0, Bo_1, ↓Bo_ok, i10, i01, eq_self, decide_true, decide_false, Bool.or_true, Bool.true_or, Bool.or_false, Bool.false_or, cond_true, cond_false, not_true_eq_false, not_false_eq_true, Bool.false_eq_true, and_self, and_true, true_and, and_false, false_and, nI_clamp, ↓inbc, inb_n, nI_pos, nI_1, lt_1000, t1000, b0_14_63, b0_14_73, b0_14_82, b0_14_106, b0_14_124, b0_14_144, b0_14_152, b0_14_153, e7, e6, c7, c6, i9, i5, xs, hs, h99]
            exact e
          · rw [if_neg h99] at hnx
            rw [← hnx] at e
            simp (disch := omega) only [bnd, bnd0, ↓cdec, ↓cnot, ↓reduceIte, Bo_0, Bo_1, ↓Bo_ok, i10, i01, eq_self, decide_true, decide_false, Bool.or_true, Bool.true_or, Bool.or_false, Bool.false_or, cond_true, cond_false, not_true_eq_false, not_false_eq_true, Bool.false_eq_true, and_self, and_true, true_and, and_false, false_and, nI_clamp, ↓inbc, inb_n, nI_pos, nI_1, lt_1000, t1000, b0_14_63, b0_14_73, b0_14_82, b0_14_106, b0_14_124, b0_14_140, b0_14_152, b0_14_153, e7, e6, c7, c6, i9, i5, xs, hs, h99]
            exact e
      · refine ⟨J, ?_, by rw [tr_no (fun z => c6 z.2)]; exact hm, FG.rfl, rfl⟩
        rw [b0_14_55]
        simp (disch := omega) only [bnd, bnd0, ↓cdec, ↓cnot, ↓reduceIte, Bo_0, Bo_1, ↓Bo_ok, i10, i01, eq_self, decide_true, decide_false, Bool.or_true, Bool.true_or, Bool.or_false, Bool.false_or, cond_true, cond_false, not_true_eq_false, not_false_eq_true, Bool.false_eq_true, and_self, and_true, true_and, and_false, false_and, nI_clamp, ↓inbc, inb_n, nI_pos, nI_1, lt_1000, t1000, b0_14_63, b0_14_73, b0_14_159, e7, e6, c7, c6]
theorem x_workOn {g p h n th : Nat} (hg : g = 8 ∨ g = 35) (hp : p < 10) (h2 : 2 ≤ h) (h58 : h ≤ 58) {C : Nat → Int32} {γ : Men} (hm : MenX g I γ) (hok : okMn γ) (h9 : I 0 g 9 = nI th) (hx : XB I t1 k n th C) : ∃ J, den (d + 3, 0, 14, 0, [some (vr 0 g), some (vi (nI p)), some (vr 0 4), some (vi (nI h)), none], [], mkH I t1 t2 k sc) = some (none, mkH (J) t1 t2 k sc) ∧ XR g I J γ (woF (nI h) (solC C) γ p) := by
  have xs := x_seeks (d + 2) I t1 t2 k sc hg hm hp
  have e1 : I 0 (g + 2) p = γ 1 p := hm 1 p (by omega) hp
  by_cases ho : opB γ p = true
  · by_cases hz : γ 1 p = 0
    · refine ⟨I, ?_, by rw [woF, if_pos ho, if_pos hz]; exact XR.rfl hm⟩
      simp (disch := omega) only [bnd, bnd0, ↓cdec, ↓cnot, ↓reduceIte, Bo_0, Bo_1, ↓Bo_ok, i10, i01, eq_self, decide_true, decide_false, Bool.or_true, Bool.true_or, Bool.or_false, Bool.false_or, cond_true, cond_false, not_true_eq_false, not_false_eq_true, Bool.false_eq_true, and_self, and_true, true_and, and_false, false_and, nI_clamp, ↓inbc, inb_n, nI_pos, nI_1, b0_14_0, b0_14_5, b0_14_8, b0_14_21, xs, ho, e1, hz]
    · obtain ⟨g1, g2', w, g3, g4⟩ := w0_X hok hp ho hz
      have e7 : I 0 (g + 8) p = γ 7 p := hm 7 p (by omega) hp
      have e0 : I 0 (g + 1) p = γ 0 p := hm 0 p (by omega) hp
      have hp0 : 0 < h := by omega
      have fA : FG g I (uI (uI (uI I 0 g 12 1) 0 (g + 2) p (γ 1 p - 1)) 0 (g + 8) p (γ 7 p + γ 0 p)) := fun g' j i q => by rw [uI_ne (by omega), uI_ne (by omega), uI_ne (by omega)]
      have mA : MenX g (uI (uI (uI I 0 g 12 1) 0 (g + 2) p (γ 1 p - 1)) 0 (g + 8) p (γ 7 p + γ 0 p)) (w0F p γ) := ((hm.keep (fun j i _ _ _ => uI_ne (by omega))).set (a := 1) (p := p) (γ 1 p - 1)).set (a := 7) (p := p) (γ 7 p + γ 0 p)
      obtain ⟨K, e, k1, k2, k3⟩ := x_tries d t1 t2 k sc (n := n) (th := th) hg hp h2 h58 (C := C) 1000 0 (uI (uI (uI I 0 g 12 1) 0 (g + 2) p (γ 1 p - 1)) 0 (g + 8) p (γ 7 p + γ 0 p)) (w0F p γ) (by omega) mA g2'.2.2.2.2.2.1 ⟨w, g3, by omega, g4⟩ (by rw [fA _ _ _ (by omega)]; exact h9) (hx.keep hg fA)
      refine ⟨K, ?_, by rw [woF, if_pos ho, if_neg hz]; exact ⟨k1, fA.trans k2, Or.inl (by rw [k3, uI_ne (by omega), uI_ne (by omega), uI_at (by omega)])⟩⟩
      simp (disch := omega) only [bnd, bnd0, ↓cdec, ↓cnot, ↓reduceIte, Bo_0, Bo_1, ↓Bo_ok, i10, i01, eq_self, decide_true, decide_false, Bool.or_true, Bool.true_or, Bool.or_false, Bool.false_or, cond_true, cond_false, not_true_eq_false, not_false_eq_true, Bool.false_eq_true, and_self, and_true, true_and, and_false, false_and, nI_clamp, ↓inbc, inb_n, nI_pos, nI_1, b0_14_0, b0_14_5, b0_14_8, b0_14_17, b0_14_22, xs, ho, e1, hz, gt0, hp0, uI_ne, e7, e0]
      exact e
  · refine ⟨I, ?_, by rw [woF, if_neg ho]; exact XR.rfl hm⟩
    simp (disch := omega) only [bnd, bnd0, ↓cdec, ↓cnot, ↓reduceIte, Bo_0, Bo_1, ↓Bo_ok, i10, i01, eq_self, decide_true, decide_false, Bool.or_true, Bool.true_or, Bool.or_false, Bool.false_or, cond_true, cond_false, not_true_eq_false, not_false_eq_true, Bool.false_eq_true, and_self, and_true, true_and, and_false, false_and, nI_clamp, ↓inbc, inb_n, nI_pos, nI_1, b0_14_0, b0_14_5, b0_14_21, xs, ho]
theorem x_cheap {g : Nat} (hg : g = 8 ∨ g = 35) {γ : Men} (hm : MenX g I γ) : den (d + 1, 0, 16, 0, [some (vr 0 g), none, none], [], mkH I t1 t2 k sc) = some (some (vi (oI (chF γ 10))), mkH I t1 t2 k sc) := by
  have st : ∀ p, p < 10 → den (d + 1, 0, 16, 4, [some (vr 0 g), some (vi (oI (chF γ p))), some (vi (nI p))], [], mkH I t1 t2 k sc) = den (d + 1, 0, 16, 4, [some (vr 0 g), some (vi (oI (chF γ (p + 1)))), some (vi (nI (p + 1)))], [], mkH I t1 t2 k sc) := by
    intro p hp
    have xs := x_sells d I t1 t2 k sc hg hm hp
    have ep : I 0 (g + 3) p = γ 2 p := hm 2 p (by omega) hp
    rw [b0_16_4, chF]
    cases hb : chF γ p with
    | none =>
      have l1 : (-1 : Int32) < 0 := by decide
      rw [chN]
      by_cases hs : seB γ p = true
      · simp (disch := omega) only [bnd, bnd0, ↓cdec, ↓cnot, ↓reduceIte, Bo_0, Bo_1, ↓Bo_ok, i10, i01, eq_self, decide_true, decide_false, Bool.or_true, Bool.true_or, Bool.or_false, Bool.false_or, cond_true, cond_false, not_true_eq_false, not_false_eq_true, Bool.false_eq_true, and_self, and_true, true_and, and_false, false_and, nI_clamp, ↓inbc, inb_n, nI_pos, nI_1, lt_10, hp, b0_16_10, b0_16_15, b0_16_18, b0_16_37, b0_16_39, xs, hs, oI, l1]
      · simp (disch := omega) only [bnd, bnd0, ↓cdec, ↓cnot, ↓reduceIte, Bo_0, Bo_1, ↓Bo_ok, i10, i01, eq_self, decide_true, decide_false, Bool.or_true, Bool.true_or, Bool.or_false, Bool.false_or, cond_true, cond_false, not_true_eq_false, not_false_eq_true, Bool.false_eq_true, and_self, and_true, true_and, and_false, false_and, nI_clamp, ↓inbc, inb_n, nI_pos, nI_1, lt_10, hp, b0_16_10, b0_16_15, b0_16_39, xs, hs, oI]
    | some b =>
      have hb10 := (ch_se p b hb).1
      have eb : I 0 (g + 3) b = γ 2 b := hm 2 b (by omega) (by omega)
      rw [chN]
      by_cases hs : seB γ p = true
      · by_cases hl : γ 2 p < γ 2 b
        · simp (disch := omega) only [bnd, bnd0, ↓cdec, ↓cnot, ↓reduceIte, Bo_0, Bo_1, ↓Bo_ok, i10, i01, eq_self, decide_true, decide_false, Bool.or_true, Bool.true_or, Bool.or_false, Bool.false_or, cond_true, cond_false, not_true_eq_false, not_false_eq_true, Bool.false_eq_true, and_self, and_true, true_and, and_false, false_and, nI_clamp, ↓inbc, inb_n, nI_pos, nI_1, lt_10, hp, b0_16_10, b0_16_15, b0_16_18, b0_16_22, b0_16_37, b0_16_39, xs, hs, oI, ep, eb, hl]
        · simp (disch := omega) only [bnd, bnd0, ↓cdec, ↓cnot, ↓reduceIte, Bo_0, Bo_1, ↓Bo_ok, i10, i01, eq_self, decide_true, decide_false, Bool.or_true, Bool.true_or, Bool.or_false, Bool.false_or, cond_true, cond_false, not_true_eq_false, not_false_eq_true, Bool.false_eq_true, and_self, and_true, true_and, and_false, false_and, nI_clamp, ↓inbc, inb_n, nI_pos, nI_1, lt_10, hp, b0_16_10, b0_16_15, b0_16_18, b0_16_22, b0_16_39, xs, hs, oI, ep, eb, hl]
      · simp (disch := omega) only [bnd, bnd0, ↓cdec, ↓cnot, ↓reduceIte, Bo_0, Bo_1, ↓Bo_ok, i10, i01, eq_self, decide_true, decide_false, Bool.or_true, Bool.true_or, Bool.or_false, Bool.false_or, cond_true, cond_false, not_true_eq_false, not_false_eq_true, Bool.false_eq_true, and_self, and_true, true_and, and_false, false_and, nI_clamp, ↓inbc, inb_n, nI_pos, nI_1, lt_10, hp, b0_16_10, b0_16_15, b0_16_39, xs, hs, oI]
  refine (b0_16_0 d g I t1 t2 k sc).trans ?_
  refine (lp (fun p => den (d + 1, 0, 16, 4, [some (vr 0 g), some (vi (oI (chF γ p))), some (vi (nI p))], [], mkH I t1 t2 k sc)) st 0 (by omega)).trans ?_
  rw [b0_16_4]
  simp (disch := omega) only [bnd, bnd0, ↓cdec, ↓cnot, ↓reduceIte, Bo_0, Bo_1, ↓Bo_ok, i10, i01, eq_self, decide_true, decide_false, Bool.or_true, Bool.true_or, Bool.or_false, Bool.false_or, cond_true, cond_false, not_true_eq_false, not_false_eq_true, Bool.false_eq_true, and_self, and_true, true_and, and_false, false_and, nI_clamp, ↓inbc, inb_n, nI_pos, nI_1, lt_10, Nat.lt_irrefl, b0_16_45]
theorem x_give {g s : Nat} (hg : g = 8 ∨ g = 35) (hs : s < 10) (v : Int32) : den (d + 2, 0, 9, 0, [some (vr 0 g), some (vi (nI s)), some (vi v)], [], mkH I t1 t2 k sc) = some (none, mkH (uI I 0 (g + 2) s (mnF (I 0 (g + 2) s + v))) t1 t2 k sc) := by
  have h1 : 0 ≤ (nI s).toInt ∧ (nI s).toInt ≤ 9 := by rw [nI_toInt (by omega)]; omega
  by_cases h : I 0 (g + 2) s + v < 999
  · rw [mnF, if_pos h]
    simp (disch := omega) only [bnd, bnd0, ↓cdec, ↓cnot, ↓reduceIte, Bo_0, Bo_1, ↓Bo_ok, i10, i01, eq_self, decide_true, decide_false, Bool.or_true, Bool.true_or, Bool.or_false, Bool.false_or, cond_true, cond_false, not_true_eq_false, not_false_eq_true, Bool.false_eq_true, and_self, and_true, true_and, and_false, false_and, nI_clamp, ↓inbc, inb_n, nI_pos, nI_1, b0_9_0, b0_9_4, b0_9_7, b0_9_26, b0_9_27, x_isPrisoner, h1, b11_1_0, b11_1_5, b11_1_9, b11_1_10, h]
  · rw [mnF, if_neg h]
    simp (disch := omega) only [bnd, bnd0, ↓cdec, ↓cnot, ↓reduceIte, Bo_0, Bo_1, ↓Bo_ok, i10, i01, eq_self, decide_true, decide_false, Bool.or_true, Bool.true_or, Bool.or_false, Bool.false_or, cond_true, cond_false, not_true_eq_false, not_false_eq_true, Bool.false_eq_true, and_self, and_true, true_and, and_false, false_and, nI_clamp, ↓inbc, inb_n, nI_pos, nI_1, b0_9_0, b0_9_4, b0_9_7, b0_9_26, b0_9_27, x_isPrisoner, h1, b11_1_0, b11_1_5, b11_1_9, b11_1_10, h]
theorem x_buy {g p : Nat} (hg : g = 8 ∨ g = 35) (hp : p < 10) {γ : Men} (hm : MenX g I γ) : ∃ J, den (d + 3, 0, 15, 0, [some (vr 0 g), some (vi (nI p)), none], [], mkH I t1 t2 k sc) = some (none, mkH (J) t1 t2 k sc) ∧ XR g I J γ (buF γ p) := by
  have xs := x_seeks (d + 2) I t1 t2 k sc hg hm hp
  have xc := x_cheap (d + 1) I t1 t2 k sc hg hm
  by_cases ho : opB γ p = true
  · cases hb : chF γ 10 with
    | none =>
      have l1 : (-1 : Int32) < 0 := by decide
      refine ⟨I, ?_, by rw [buF, if_pos ho, hb, buO]; exact XR.rfl hm⟩
      simp (disch := omega) only [bnd, bnd0, ↓cdec, ↓cnot, ↓reduceIte, Bo_0, Bo_1, ↓Bo_ok, i10, i01, eq_self, decide_true, decide_false, Bool.or_true, Bool.true_or, Bool.or_false, Bool.false_or, cond_true, cond_false, not_true_eq_false, not_false_eq_true, Bool.false_eq_true, and_self, and_true, true_and, and_false, false_and, nI_clamp, ↓inbc, inb_n, nI_pos, nI_1, b0_15_0, b0_15_5, b0_15_9, b0_15_13, b0_15_33, xs, ho, xc, hb, oI, l1]
    | some s =>
      have hs10 := (ch_se 10 s hb).1
      have e1 : I 0 (g + 2) p = γ 1 p := hm 1 p (by omega) hp
      have e2 : I 0 (g + 3) s = γ 2 s := hm 2 s (by omega) hs10
      by_cases hl : γ 1 p < γ 2 s
      · refine ⟨I, ?_, by rw [buF, if_pos ho, hb, buO, if_pos hl]; exact XR.rfl hm⟩
        simp (disch := omega) only [bnd, bnd0, ↓cdec, ↓cnot, ↓reduceIte, Bo_0, Bo_1, ↓Bo_ok, i10, i01, eq_self, decide_true, decide_false, Bool.or_true, Bool.true_or, Bool.or_false, Bool.false_or, cond_true, cond_false, not_true_eq_false, not_false_eq_true, Bool.false_eq_true, and_self, and_true, true_and, and_false, false_and, nI_clamp, ↓inbc, inb_n, nI_pos, nI_1, b0_15_0, b0_15_5, b0_15_9, b0_15_13, b0_15_18, b0_15_33, xs, ho, xc, hb, oI, e1, e2, hl]
      · have m1 : MenX g (uI (uI I 0 g 12 1) 0 (g + 2) p (γ 1 p - γ 2 s)) (g2 γ 1 p (γ 1 p - γ 2 s)) := (hm.keep (fun j i _ _ _ => uI_ne (by omega))).set (a := 1) (p := p) _
        have ec : (uI (uI I 0 g 12 1) 0 (g + 2) p (γ 1 p - γ 2 s)) 0 (g + 2) s = (g2 γ 1 p (γ 1 p - γ 2 s)) 1 s := m1 1 s (by omega) hs10
        have xg := x_give d (uI (uI I 0 g 12 1) 0 (g + 2) p (γ 1 p - γ 2 s)) t1 t2 k sc hg hs10 (γ 2 s)
        rw [ec] at xg
        have m2 : MenX g (uI (uI (uI I 0 g 12 1) 0 (g + 2) p (γ 1 p - γ 2 s)) 0 (g + 2) s (mnF ((g2 γ 1 p (γ 1 p - γ 2 s)) 1 s + γ 2 s))) (g2 (g2 γ 1 p (γ 1 p - γ 2 s)) 1 s (mnF ((g2 γ 1 p (γ 1 p - γ 2 s)) 1 s + γ 2 s))) := m1.set (a := 1) (p := s) _
        have e6 : I 0 (g + 7) s = γ 6 s := hm 6 s (by omega) hs10
        refine ⟨uI (uI (uI (uI I 0 g 12 1) 0 (g + 2) p (γ 1 p - γ 2 s)) 0 (g + 2) s (mnF ((g2 γ 1 p (γ 1 p - γ 2 s)) 1 s + γ 2 s))) 0 (g + 7) p (γ 6 s), ?_, ?_⟩
        · simp (disch := omega) only [bnd, bnd0, ↓cdec, ↓cnot, ↓reduceIte, Bo_0, Bo_1, ↓Bo_ok, i10, i01, eq_self, decide_true, decide_false, Bool.or_true, Bool.true_or, Bool.or_false, Bool.false_or, cond_true, cond_false, not_true_eq_false, not_false_eq_true, Bool.false_eq_true, and_self, and_true, true_and, and_false, false_and, nI_clamp, ↓inbc, inb_n, nI_pos, nI_1, b0_15_0, b0_15_5, b0_15_9, b0_15_13, b0_15_18, b0_15_34, xs, ho, xc, hb, oI, e1, e2, hl, uI_ne, xg, b0_15_65, e6]
        · rw [buF, if_pos ho, hb, buO, if_neg hl]
          refine ⟨m2.set (a := 6) (p := p) _, fun g' j i q => by rw [uI_ne (by omega), uI_ne (by omega), uI_ne (by omega), uI_ne (by omega)], Or.inl ?_⟩
          rw [uI_ne (by omega), uI_ne (by omega), uI_ne (by omega), uI_at (by omega)]
  · refine ⟨I, ?_, by rw [buF, if_neg ho]; exact XR.rfl hm⟩
    simp (disch := omega) only [bnd, bnd0, ↓cdec, ↓cnot, ↓reduceIte, Bo_0, Bo_1, ↓Bo_ok, i10, i01, eq_self, decide_true, decide_false, Bool.or_true, Bool.true_or, Bool.or_false, Bool.false_or, cond_true, cond_false, not_true_eq_false, not_false_eq_true, Bool.false_eq_true, and_self, and_true, true_and, and_false, false_and, nI_clamp, ↓inbc, inb_n, nI_pos, nI_1, b0_15_0, b0_15_5, b0_15_8, xs, ho]
theorem x_first {g : Nat} (hg : g = 8 ∨ g = 35) {γ : Men} (hm : MenX g I γ) (spk : Nat → Bool) (w : Int32) : den (d, 0, 18, 0, [some (vr 0 g), some (vi w), some (vi (fS spk 10)), none], [], mkH I t1 t2 k sc) = some (some (vi (oI (fiF γ spk w 10 0))), mkH I t1 t2 k sc) := by
  have lo : ∀ m i, i + m = 10 → den (d, 0, 18, 2, [some (vr 0 g), some (vi w), some (vi (fS spk 10)), some (vi (nI i))], [], mkH I t1 t2 k sc) = some (some (vi (oI (fiF γ spk w m i))), mkH I t1 t2 k sc) := by
    intro m
    induction m with
    | zero =>
      intro i hi
      have : ¬ i < 10 := by omega
      rw [b0_18_2]
      simp (disch := omega) only [bnd, bnd0, ↓cdec, ↓cnot, ↓reduceIte, Bo_0, Bo_1, ↓Bo_ok, i10, i01, eq_self, decide_true, decide_false, Bool.or_true, Bool.true_or, Bool.or_false, Bool.false_or, cond_true, cond_false, not_true_eq_false, not_false_eq_true, Bool.false_eq_true, and_self, and_true, true_and, and_false, false_and, nI_clamp, ↓inbc, inb_n, nI_pos, nI_1, lt_10, this, b0_18_35, fiF, oI]
    | succ m ih =>
      intro i hi
      have hi10 : i < 10 := by omega
      have e3 : I 0 (g + 4) i = γ 3 i := hm 3 i (by omega) hi10
      have hb := fS_has spk hi10
      rw [b0_18_2, fiF]
      by_cases h3 : γ 3 i = w
      · by_cases hs : spk i = true
        · have hb' := hb.mpr hs
          rw [if_pos ⟨h3, hs⟩]
          simp (disch := omega) only [bnd, bnd0, ↓cdec, ↓cnot, ↓reduceIte, Bo_0, Bo_1, ↓Bo_ok, i10, i01, eq_self, decide_true, decide_false, Bool.or_true, Bool.true_or, Bool.or_false, Bool.false_or, cond_true, cond_false, not_true_eq_false, not_false_eq_true, Bool.false_eq_true, and_self, and_true, true_and, and_false, false_and, nI_clamp, ↓inbc, inb_n, nI_pos, nI_1, lt_10, hi10, b0_18_8, b0_18_18, b0_18_27, e3, h3, hb', oI]
        · have hb' : ¬ ((fS spk 10 >>> (nI i &&& 31)) &&& 1 = 1) := fun z => hs (hb.mp z)
          rw [if_neg (fun z => hs z.2)]
          simp (disch := omega) only [bnd, bnd0, ↓cdec, ↓cnot, ↓reduceIte, Bo_0, Bo_1, ↓Bo_ok, i10, i01, eq_self, decide_true, decide_false, Bool.or_true, Bool.true_or, Bool.or_false, Bool.false_or, cond_true, cond_false, not_true_eq_false, not_false_eq_true, Bool.false_eq_true, and_self, and_true, true_and, and_false, false_and, nI_clamp, ↓inbc, inb_n, nI_pos, nI_1, lt_10, hi10, b0_18_8, b0_18_18, b0_18_29, e3, h3, hb']
          exact ih (i + 1) (by omega)
      · rw [if_neg (fun z => h3 z.1)]
        simp (disch := omega) only [bnd, bnd0, ↓cdec, ↓cnot, ↓reduceIte, Bo_0, Bo_1, ↓Bo_ok, i10, i01, eq_self, decide_true, decide_false, Bool.or_true, Bool.true_or, Bool.or_false, Bool.false_or, cond_true, cond_false, not_true_eq_false, not_false_eq_true, Bool.false_eq_true, and_self, and_true, true_and, and_false, false_and, nI_clamp, ↓inbc, inb_n, nI_pos, nI_1, lt_10, hi10, b0_18_8, b0_18_29, e3, h3]
        exact ih (i + 1) (by omega)
  exact (b0_18_0 d g w (fS spk 10) I t1 t2 k sc).trans (lo 10 0 (by omega))
theorem x_lips {g p : Nat} (hg : g = 8 ∨ g = 35) (hp : p < 10) {γ : Men} (hm : MenX g I γ) (spk : Nat → Bool) : ∃ J, den (d + 1, 0, 17, 0, [some (vr 0 g), some (vi (nI p)), some (vi (fS spk 10)), none], [], mkH I t1 t2 k sc) = some (none, mkH (J) t1 t2 k sc) ∧ XR g I J γ (liF spk γ p) := by
  have xs := x_seeks d I t1 t2 k sc hg hm hp
  have xf := fun w => x_first d I t1 t2 k sc hg hm spk w
  have e3 : I 0 (g + 4) p = γ 3 p := hm 3 p (by omega) hp
  have l1 : (-1 : Int32) < 0 := by decide
  by_cases ho : opB γ p = true
  · have fin : ∀ s, s < 10 → heF γ spk p = some s → XR g I (uI (uI I 0 g 12 1) 0 (g + 7) p (γ 6 s)) γ (liF spk γ p) := by
      intro s hs10 hh
      rw [liF, if_pos ho, hh, liO]
      refine ⟨(hm.keep (fun j i _ _ _ => uI_ne (by omega))).set (a := 6) (p := p) _, fun g' j i q => by rw [uI_ne (by omega), uI_ne (by omega)], Or.inl ?_⟩
      rw [uI_ne (by omega), uI_at (by omega)]
    cases h1 : fiF γ spk (γ 3 p - 1) 10 0 with
    | some s =>
      have hs10 : s < 10 := by have := fi_se 10 0 s h1; omega
      have e6 : I 0 (g + 7) s = γ 6 s := hm 6 s (by omega) hs10
      have hh : heF γ spk p = some s := by rw [heF, h1, orO]
      refine ⟨_, ?_, fin s hs10 hh⟩
      simp (disch := omega) only [bnd, bnd0, ↓cdec, ↓cnot, ↓reduceIte, Bo_0, Bo_1, ↓Bo_ok, i10, i01, eq_self, decide_true, decide_false, Bool.or_true, Bool.true_or, Bool.or_false, Bool.false_or, cond_true, cond_false, not_true_eq_false, not_false_eq_true, Bool.false_eq_true, and_self, and_true, true_and, and_false, false_and, nI_clamp, ↓inbc, inb_n, nI_pos, nI_1, b0_17_0, b0_17_5, b0_17_9, b0_17_22, b0_17_41, b0_17_45, b0_17_62, xs, ho, xf, e3, h1, oI, uI_ne, e6]
    | none =>
      cases h2 : fiF γ spk (γ 3 p + 1) 10 0 with
      | some s =>
        have hs10 : s < 10 := by have := fi_se 10 0 s h2; omega
        have e6 : I 0 (g + 7) s = γ 6 s := hm 6 s (by omega) hs10
        have hh : heF γ spk p = some s := by rw [heF, h1, orO, h2]
        refine ⟨_, ?_, fin s hs10 hh⟩
        simp (disch := omega) only [bnd, bnd0, ↓cdec, ↓cnot, ↓reduceIte, Bo_0, Bo_1, ↓Bo_ok, i10, i01, eq_self, decide_true, decide_false, Bool.or_true, Bool.true_or, Bool.or_false, Bool.false_or, cond_true, cond_false, not_true_eq_false, not_false_eq_true, Bool.false_eq_true, and_self, and_true, true_and, and_false, false_and, nI_clamp, ↓inbc, inb_n, nI_pos, nI_1, b0_17_0, b0_17_5, b0_17_9, b0_17_22, b0_17_27, b0_17_40, b0_17_41, b0_17_45, b0_17_62, xs, ho, xf, e3, h1, h2, oI, l1, uI_ne, e6]
      | none =>
        have hh : heF γ spk p = none := by rw [heF, h1, orO, h2]
        refine ⟨I, ?_, by rw [liF, if_pos ho, hh, liO]; exact XR.rfl hm⟩
        simp (disch := omega) only [bnd, bnd0, ↓cdec, ↓cnot, ↓reduceIte, Bo_0, Bo_1, ↓Bo_ok, i10, i01, eq_self, decide_true, decide_false, Bool.or_true, Bool.true_or, Bool.or_false, Bool.false_or, cond_true, cond_false, not_true_eq_false, not_false_eq_true, Bool.false_eq_true, and_self, and_true, true_and, and_false, false_and, nI_clamp, ↓inbc, inb_n, nI_pos, nI_1, b0_17_0, b0_17_5, b0_17_9, b0_17_22, b0_17_27, b0_17_40, b0_17_41, b0_17_62, xs, ho, xf, e3, h1, h2, oI, l1]
  · refine ⟨I, ?_, by rw [liF, if_neg ho]; exact XR.rfl hm⟩
    simp (disch := omega) only [bnd, bnd0, ↓cdec, ↓cnot, ↓reduceIte, Bo_0, Bo_1, ↓Bo_ok, i10, i01, eq_self, decide_true, decide_false, Bool.or_true, Bool.true_or, Bool.or_false, Bool.false_or, cond_true, cond_false, not_true_eq_false, not_false_eq_true, Bool.false_eq_true, and_self, and_true, true_and, and_false, false_and, nI_clamp, ↓inbc, inb_n, nI_pos, nI_1, b0_17_0, b0_17_5, b0_17_8, xs, ho]
theorem x_door {g p : Nat} (hg : g = 8 ∨ g = 35) (hp : p < 10) {γ : Men} (hm : MenX g I γ) {R : Int32} (hR : I 0 g 10 = R) : ∃ J, den (d + 1, 0, 19, 0, [some (vr 0 g), some (vi (nI p))], [], mkH I t1 t2 k sc) = some (none, mkH (J) t1 t2 k sc) ∧ XR g I J γ (doF R γ p) := by
  have xs := x_sells d I t1 t2 k sc hg hm hp
  have e1 : I 0 (g + 2) p = γ 1 p := hm 1 p (by omega) hp
  by_cases hs : seB γ p = true
  · by_cases hl : R < γ 1 p
    · refine ⟨I, ?_, by rw [doF, if_neg (fun z => z.2 hl)]; exact XR.rfl hm⟩
      simp (disch := omega) only [bnd, bnd0, ↓cdec, ↓cnot, ↓reduceIte, Bo_0, Bo_1, ↓Bo_ok, i10, i01, eq_self, decide_true, decide_false, Bool.or_true, Bool.true_or, Bool.or_false, Bool.false_or, cond_true, cond_false, not_true_eq_false, not_false_eq_true, Bool.false_eq_true, and_self, and_true, true_and, and_false, false_and, nI_clamp, ↓inbc, inb_n, nI_pos, nI_1, b0_19_0, b0_19_5, b0_19_8, b0_19_21, b0_19_33, xs, hs, e1, hR, hl]
    · refine ⟨uI (uI I 0 g 12 1) 0 (g + 9) p 1, ?_, ?_⟩
      · simp (disch := omega) only [bnd, bnd0, ↓cdec, ↓cnot, ↓reduceIte, Bo_0, Bo_1, ↓Bo_ok, i10, i01, eq_self, decide_true, decide_false, Bool.or_true, Bool.true_or, Bool.or_false, Bool.false_or, cond_true, cond_false, not_true_eq_false, not_false_eq_true, Bool.false_eq_true, and_self, and_true, true_and, and_false, false_and, nI_clamp, ↓inbc, inb_n, nI_pos, nI_1, b0_19_0, b0_19_5, b0_19_8, b0_19_21, b0_19_33, xs, hs, e1, hR, hl]
      · rw [doF, if_pos ⟨hs, hl⟩]
        refine ⟨(hm.keep (fun j i _ _ _ => uI_ne (by omega))).set (a := 8) (p := p) _, fun g' j i q => by rw [uI_ne (by omega), uI_ne (by omega)], Or.inl ?_⟩
        rw [uI_ne (by omega), uI_at (by omega)]
  · refine ⟨I, ?_, by rw [doF, if_neg (fun z => hs z.1)]; exact XR.rfl hm⟩
    simp (disch := omega) only [bnd, bnd0, ↓cdec, ↓cnot, ↓reduceIte, Bo_0, Bo_1, ↓Bo_ok, i10, i01, eq_self, decide_true, decide_false, Bool.or_true, Bool.true_or, Bool.or_false, Bool.false_or, cond_true, cond_false, not_true_eq_false, not_false_eq_true, Bool.false_eq_true, and_self, and_true, true_and, and_false, false_and, nI_clamp, ↓inbc, inb_n, nI_pos, nI_1, b0_19_0, b0_19_5, b0_19_8, b0_19_21, b0_19_33, xs, hs]
theorem x_sel {g : Nat} {γ : Men} (hm : MenX g I γ) (hok : okMn γ) : fS (fun p => !decide (I 0 (g + 7) p < 0)) 10 &&& (fS (fun p => !decide (I 0 (g + 9) p < 1)) 10 ^^^ -1) = fS (seB γ) 10 := by
  rw [fS_and_not _ _ (by omega)]
  apply fS_congr
  intro p hp
  have e8 : I 0 (g + 9) p = γ 8 p := hm 8 p (by omega) hp
  have e6 : I 0 (g + 7) p = γ 6 p := hm 6 p (by omega) hp
  obtain ⟨n, -, n1, en⟩ := (hok p hp).2.2.2.2.2.2.2.2
  have en' : γ 8 p = nI n := en
  show (!decide (I 0 (g + 7) p < 0) && !!decide (I 0 (g + 9) p < 1)) = (decide (γ 8 p = 0) && !decide (γ 6 p < 0))
  rw [e6, e8, Bool.not_not, Bool.and_comm]
  congr 1
  rw [en']
  rcases (show n = 0 ∨ n = 1 by omega) with rfl | rfl <;> decide
/-- one stage: all ten, one after the other -/
theorem x_stage {g : Nat} {F : Men → Nat → Men} (X : Nat → IFn → Option AO) (Q : IFn → Men → Prop) {γ : Men} (hQ : ∀ p, p < 10 → ∀ J, XR g I J γ (fpF F γ p) → Q J (fpF F γ p)) (st : ∀ p J δ, p < 10 → MenX g J δ → Q J δ → ∃ K, X p J = X (p + 1) K ∧ XR g J K δ (F δ p)) (hm : MenX g I γ) : ∃ J, X 0 I = X 10 J ∧ XR g I J γ (fpF F γ 10) := by
  obtain ⟨J, e, h⟩ := lpE X (fun p J => XR g I J γ (fpF F γ p)) (N := 10) (by
    intro p J hp hP
    obtain ⟨K, e, hK⟩ := st p J (fpF F γ p) hp hP.1 (hQ p hp J hP)
    exact ⟨K, e, hP.trans hK⟩) 0 I (by omega) (XR.rfl hm)
  exact ⟨J, e, h⟩
end
