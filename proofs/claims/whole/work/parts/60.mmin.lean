/-! a minute of the reference -/
def FM (I J : IFn) : Prop := ∀ g j i, ¬ (g = 0 ∧ (j = 64 ∨ (j = 57 ∧ 5 ≤ i ∧ i < 95))) → J g j i = I g j i
theorem FM.rfl {I : IFn} : FM I I := fun _ _ _ _ => Eq.refl _
theorem FM.trans {I J K : IFn} (h : FM I J) (h2 : FM J K) : FM I K := fun g j i q => (h2 g j i q).trans (h g j i q)
theorem FM.cS {I J : IFn} (h : FM I J) (q : Nat) : cS J q = cS I q := funext fun a => h _ _ _ (by omega)
theorem FM.one {I : IFn} {p a : Nat} (hp : p < 10) (ha : a < 9) (v : Int32) : FM I (uI I 0 57 (5 + 9 * p + a) v) := fun g j i q => uI_ne (by omega)
theorem F64.fm {I J : IFn} (h : F64 I J) : FM I J := fun g j i q => h _ _ _ (by omega)
theorem mn_eq (v : Int32) : (if (999 : Int32) < v then 999 else v) = mnF v := by
  rw [mnF]
  by_cases h : v < 999
  · rw [if_pos h, if_neg]
    intro z
    have h1 := Int32.lt_iff_toInt_lt.mp h
    have h2 := Int32.lt_iff_toInt_lt.mp z
    omega
  · rw [if_neg h]
    by_cases h2 : (999 : Int32) < v
    · rw [if_pos h2]
    · rw [if_neg h2]
      have h3 : ¬ v.toInt < (999 : Int32).toInt := fun q => h (Int32.lt_iff_toInt_lt.mpr q)
      have h4 : ¬ (999 : Int32).toInt < v.toInt := fun q => h2 (Int32.lt_iff_toInt_lt.mpr q)
      exact Int32.toInt_inj.mp (by omega)
/-! who is heard, as the reference finds him -/
def fjF (γ : Men) (spk : Nat → Bool) (w : Int32) : Nat → Option Nat
  | 0 => none
  | n + 1 => orO (fjF γ spk w n) (if γ 3 n = w ∧ spk n = true then some n else none)
theorem or_assoc3 (a b c : Option Nat) : orO (orO a b) c = orO a (orO b c) := by cases a <;> rfl
theorem or_none (a : Option Nat) : orO a none = a := by cases a <;> rfl
theorem fj_fi {γ : Men} {spk : Nat → Bool} {w : Int32} : ∀ m i, orO (fjF γ spk w i) (fiF γ spk w m i) = fjF γ spk w (i + m)
  | 0, i => by rw [fiF, or_none]; rfl
  | m + 1, i => by
    rw [show i + (m + 1) = i + 1 + m by omega, ← fj_fi m (i + 1), fjF, or_assoc3, fiF]
    congr 1
    by_cases h : γ 3 i = w ∧ spk i = true
    · rw [if_pos h, if_pos h]; rfl
    · rw [if_neg h, if_neg h]; rfl
theorem fj_10 {γ : Men} {spk : Nat → Bool} {w : Int32} : fjF γ spk w 10 = fiF γ spk w 10 0 := (fj_fi 10 0).symm
theorem fj_se {γ : Men} {spk : Nat → Bool} {w : Int32} : ∀ n s, fjF γ spk w n = some s → s < n ∧ γ 3 s = w ∧ spk s = true
  | 0, s, h => by cases h
  | n + 1, s, h => by
    rw [fjF] at h
    cases hb : fjF γ spk w n with
    | some b =>
      rw [hb, orO] at h
      have e : b = s := Option.some.inj h
      rw [e] at hb
      have := fj_se n s hb
      exact ⟨by omega, this.2⟩
    | none =>
      rw [hb, orO] at h
      by_cases hc : γ 3 n = w ∧ spk n = true
      · rw [if_pos hc] at h
        have e : n = s := Option.some.inj h
        rw [← e]; exact ⟨by omega, hc⟩
      · rw [if_neg hc] at h; cases h
def seeB (γ : Men) (spk : Nat → Bool) (A B : Int32) (q : Nat) : Bool := spk q && (decide (γ 3 q = B) || decide (γ 3 q = A))
theorem see_t {γ : Men} {spk : Nat → Bool} {A B : Int32} {q : Nat} : seeB γ spk A B q = true ↔ (spk q = true ∧ (γ 3 q = B ∨ γ 3 q = A)) := by
  rw [seeB, Bool.and_eq_true, Bool.or_eq_true, decide_eq_true_iff, decide_eq_true_iff]
def rdN (γ : Men) (spk : Nat → Bool) (A B : Int32) (q : Nat) : Option Nat → Option Nat
  | none => if seeB γ spk A B q = true then some q else none
  | some b => if seeB γ spk A B q = true ∧ γ 3 q < γ 3 b then some q else some b
def rdF (γ : Men) (spk : Nat → Bool) (A B : Int32) : Nat → Option Nat
  | 0 => none
  | n + 1 => rdN γ spk A B n (rdF γ spk A B n)
theorem rd_eq {γ : Men} {spk : Nat → Bool} {A B : Int32} (l1 : A < B) (l2 : ¬ B < B) (l3 : ¬ A < A) (l4 : ¬ B < A) (l5 : ¬ B = A) : ∀ n, rdF γ spk A B n = orO (fjF γ spk A n) (fjF γ spk B n)
  | 0 => rfl
  | n + 1 => by
    rw [rdF, rd_eq l1 l2 l3 l4 l5 n, fjF, fjF]
    by_cases hsee : seeB γ spk A B n = true
    · obtain ⟨hs, hab⟩ := see_t.mp hsee
      rcases hab with hB | hA
      · have hA : ¬ (γ 3 n = A ∧ spk n = true) := fun z => l5 (hB.symm.trans z.1)
        rw [if_neg hA, if_pos ⟨hB, hs⟩, or_none]
        cases ha : fjF γ spk A n with
        | some s =>
          have h3 := (fj_se n s ha).2.1
          rw [orO, orO, rdN, if_neg (fun z => by rw [hB, h3] at z; exact l4 z.2)]
        | none =>
          rw [orO, orO]
          cases hb : fjF γ spk B n with
          | some s =>
            have h3 := (fj_se n s hb).2.1
            rw [orO, rdN, if_neg (fun z => by rw [hB, h3] at z; exact l2 z.2)]
          | none => rw [orO, rdN, if_pos hsee]
      · have hB : ¬ (γ 3 n = B ∧ spk n = true) := fun z => l5 (z.1.symm.trans hA)
        rw [if_pos ⟨hA, hs⟩, if_neg hB, or_none]
        cases ha : fjF γ spk A n with
        | some s =>
          have h3 := (fj_se n s ha).2.1
          rw [orO, orO, orO, rdN, if_neg (fun z => by rw [hA, h3] at z; exact l3 z.2)]
        | none =>
          rw [orO, orO, orO]
          cases hb : fjF γ spk B n with
          | some s =>
            have h3 := (fj_se n s hb).2.1
            rw [rdN, if_pos ⟨hsee, by rw [hA, h3]; exact l1⟩]
          | none => rw [rdN, if_pos hsee]
    · have hA : ¬ (γ 3 n = A ∧ spk n = true) := fun z => hsee (see_t.mpr ⟨z.2, Or.inr z.1⟩)
      have hB : ¬ (γ 3 n = B ∧ spk n = true) := fun z => hsee (see_t.mpr ⟨z.2, Or.inl z.1⟩)
      rw [if_neg hA, if_neg hB, or_none, or_none]
      cases ho : orO (fjF γ spk A n) (fjF γ spk B n) with
      | none => rw [rdN, if_neg hsee]
      | some s => rw [rdN, if_neg (fun z => hsee z.1)]
theorem rd_he {γ : Men} {spk : Nat → Bool} {p : Nat} (hc : rng 0 19 (γ 3 p)) : rdF γ spk (γ 3 p - 1) (γ 3 p + 1) 10 = heF γ spk p := by
  have hlt : γ 3 p - 1 < γ 3 p + 1 ∧ ¬ γ 3 p + 1 < γ 3 p + 1 ∧ ¬ γ 3 p - 1 < γ 3 p - 1 ∧ ¬ γ 3 p + 1 < γ 3 p - 1 ∧ ¬ γ 3 p + 1 = γ 3 p - 1 := by
    obtain ⟨c, -, c9, e⟩ := hc
    rw [e]
    have : ∀ c, c < 20 → nI c - 1 < nI c + 1 ∧ ¬ nI c + 1 < nI c + 1 ∧ ¬ nI c - 1 < nI c - 1 ∧ ¬ nI c + 1 < nI c - 1 ∧ ¬ nI c + 1 = nI c - 1 := by decide
    exact this c (by omega)
  rw [rd_eq hlt.1 hlt.2.1 hlt.2.2.1 hlt.2.2.2.1 hlt.2.2.2.2 10, heF, fj_10, fj_10]
theorem rd_lt {γ : Men} {spk : Nat → Bool} {A B : Int32} : ∀ n s, rdF γ spk A B n = some s → s < n
  | 0, s, h => by cases h
  | n + 1, s, h => by
    rw [rdF] at h
    cases hb : rdF γ spk A B n with
    | none =>
      rw [hb, rdN] at h
      by_cases hs : seeB γ spk A B n = true
      · rw [if_pos hs] at h; have e : n = s := Option.some.inj h; omega
      · rw [if_neg hs] at h; cases h
    | some b =>
      rw [hb, rdN] at h
      by_cases hs : seeB γ spk A B n = true ∧ γ 3 n < γ 3 b
      · rw [if_pos hs] at h; have e : n = s := Option.some.inj h; omega
      · rw [if_neg hs] at h
        have e : b = s := Option.some.inj h
        have := rd_lt n b hb
        omega
theorem off1 (x y : Int32) : (x - y = 1) = (x = y + 1) := propext ⟨fun h => by rw [← h, Int32.add_comm, Int32.sub_add_cancel], fun h => by rw [h, Int32.add_comm, Int32.add_sub_cancel]⟩
theorem offm (x y : Int32) : (x - y = -1) = (x = y - 1) := propext ⟨fun h => by rw [Int32.sub_eq_add_neg y 1, ← h, Int32.add_comm, Int32.sub_add_cancel], fun h => by rw [h, Int32.sub_eq_add_neg y 1, Int32.add_comm, Int32.add_sub_cancel]⟩
section
variable (d : Nat) (I : IFn) (t1 t2 : TFn) (k : Nat) (sc : Nat × (Nat → Int32))
theorem m_isOpen {p : Nat} {γ : Men} (hm : MenM I γ) (hp : p < 10) : den (d + 1, 8, 43, 0, [some (vr 0 56), some (vi (nI p))], [], mkH I t1 t2 k sc) = some (some (vi (Bo (opB γ p = true))), mkH I t1 t2 k sc) := by
  have e8 : I 0 57 (5 + 9 * p + 8) = γ 8 p := hm 8 p (by omega) hp
  have e6 : I 0 57 (5 + 9 * p + 6) = γ 6 p := hm 6 p (by omega) hp
  by_cases h8 : γ 8 p = 0
  · by_cases h6 : γ 6 p < 0
    · rw [Bo_t (op_t.mpr ⟨h8, h6⟩)]
      simp (disch := omega) only [bnd, bnd0, ↓cdec, ↓cnot, ↓reduceIte, Bo_0, Bo_1, ↓Bo_ok, i10, i01, eq_self, decide_true, decide_false, Bool.or_true, Bool.true_or, Bool.or_false, Bool.false_or, cond_true, cond_false, not_true_eq_false, not_false_eq_true, Bool.false_eq_true, and_self, and_true, true_and, and_false, false_and, nI_clamp, ↓inbc, inb_n, nI_pos, nI_1, b8_43_0, b8_43_10, b8_43_14, b8_43_24, b8_43_28, b8_43_32, b8_43_33, mA_8, mA_6, e8, e6, h8, h6]
    · rw [Bo_f (fun z => h6 (op_t.mp z).2)]
      simp (disch := omega) only [bnd, bnd0, ↓cdec, ↓cnot, ↓reduceIte, Bo_0, Bo_1, ↓Bo_ok, i10, i01, eq_self, decide_true, decide_false, Bool.or_true, Bool.true_or, Bool.or_false, Bool.false_or, cond_true, cond_false, not_true_eq_false, not_false_eq_true, Bool.false_eq_true, and_self, and_true, true_and, and_false, false_and, nI_clamp, ↓inbc, inb_n, nI_pos, nI_1, b8_43_0, b8_43_10, b8_43_14, b8_43_24, b8_43_28, b8_43_32, b8_43_33, mA_8, mA_6, e8, e6, h8, h6]
  · rw [Bo_f (fun z => h8 (op_t.mp z).1)]
    simp (disch := omega) only [bnd, bnd0, ↓cdec, ↓cnot, ↓reduceIte, Bo_0, Bo_1, ↓Bo_ok, i10, i01, eq_self, decide_true, decide_false, Bool.or_true, Bool.true_or, Bool.or_false, Bool.false_or, cond_true, cond_false, not_true_eq_false, not_false_eq_true, Bool.false_eq_true, and_self, and_true, true_and, and_false, false_and, nI_clamp, ↓inbc, inb_n, nI_pos, nI_1, b8_43_0, b8_43_10, b8_43_14, b8_43_24, b8_43_28, b8_43_32, b8_43_33, mA_8, e8, h8]
theorem m_tries {p h th : Nat} (hp : p < 10) (hth : th < 8) (h2 : 2 ≤ h) (h58 : h ≤ 58) {C : Nat → Int32} {K0 : IFn} {t0 : Option (Nat × Nat)} {k0 : Nat} {kd0 m0 : Int32} (hS : sumOK K0 t0 k0 kd0 m0 C) : ∀ f (J : IFn) (γ : Men), MenM J γ → rng 0 99 (γ 5 p) → (∃ w : Nat, γ 7 p = nI w ∧ w < f ∧ w ≤ 69) → J 0 57 1 = nI th → cS J th = C → ∃ K, den (d + 3, 8, 42, 63, [some (vr 0 56), some (vi (nI p)), some (vi (nI h))], [], mkH (J) t1 t2 k sc) = some (none, mkH (K) t1 t2 k sc) ∧ MenM K (trF (nI h) (solC C) p f γ) ∧ FM J K
  | 0, J, γ, _, _, ⟨w, _, hw, _⟩, _, _ => by omega
  | f + 1, J, γ, hm, h5, ⟨w, ew, hw, w69⟩, h1, hC => by
    have e7 : J 0 57 (5 + 9 * p + 7) = γ 7 p := hm 7 p (by omega) hp
    have e6 : J 0 57 (5 + 9 * p + 6) = γ 6 p := hm 6 p (by omega) hp
    have e5 : J 0 57 (5 + 9 * p + 5) = γ 5 p := hm 5 p (by omega) hp
    by_cases c7 : γ 7 p < nI h
    · refine ⟨J, ?_, by rw [tr_no (fun z => z.1 c7)]; exact hm, FM.rfl⟩
      rw [b8_42_63]
      simp (disch := omega) only [bnd, bnd0, ↓cdec, ↓cnot, ↓reduceIte, Bo_0, Bo_1, ↓Bo_ok, i10, i01, eq_self, decide_true, decide_false, Bool.or_true, Bool.true_or, Bool.or_false, Bool.false_or, cond_true, cond_false, not_true_eq_false, not_false_eq_true, Bool.false_eq_true, and_self, and_true, true_and, and_false, false_and, nI_clamp, ↓inbc, inb_n, nI_pos, nI_1, mA_7, b8_42_73, b8_42_182, e7, c7]
    · by_cases c6 : γ 6 p < 0
      · obtain ⟨x, -, x99, ex⟩ := h5
        have hwh : h ≤ w := by
          rw [ew, nI_ltI (by omega) (by omega)] at c7; omega
        have ed : γ 7 p - nI h = nI (w - h) := by rw [ew, pk_sub hwh]
        have f1 : FM J (uI J 0 57 (5 + 9 * p + 7) (γ 7 p - nI h)) := FM.one hp (by omega) _
        have m1 : MenM (uI J 0 57 (5 + 9 * p + 7) (γ 7 p - nI h)) (g2 γ 7 p (γ 7 p - nI h)) := hm.set (a := 7) (p := p) _ (by omega)
        have hC1 : cS (uI J 0 57 (5 + 9 * p + 7) (γ 7 p - nI h)) th = C := (f1.cS th).trans hC
        obtain ⟨J2, xs, f2⟩ := m_isSolved d (uI J 0 57 (5 + 9 * p + 7) (γ 7 p - nI h)) t1 t2 k sc hth (show x < 100 by omega) (by rw [hC1]; exact hS)
        rw [hC1] at xs
        have i1 : (uI J 0 57 (5 + 9 * p + 7) (γ 7 p - nI h)) 0 57 1 = nI th := by rw [uI_ne (by omega)]; exact h1
        have i5 : (uI J 0 57 (5 + 9 * p + 7) (γ 7 p - nI h)) 0 57 (5 + 9 * p + 5) = nI x := by rw [uI_ne (by omega), e5, ex]
        have m2 : MenM J2 (g2 γ 7 p (γ 7 p - nI h)) := m1.keep (fun i _ _ => f2 _ _ _ (by omega))
        have j5 : J2 0 57 (5 + 9 * p + 5) = nI x := by rw [f2 _ _ _ (by omega)]; exact i5
        have cl5 : (γ 5 p).toNatClampNeg = x := by rw [ex, nI_clamp (by omega)]
        have fj : FM J J2 := f1.trans f2.fm
        by_cases hs : solC C x = true
        · have ht1 : t1F (nI h) (solC C) p γ = g2 (g2 γ 7 p (γ 7 p - nI h)) 6 p (γ 5 p) := by rw [t1F, cl5, if_pos hs]
          have f3 : FM J (uI J2 0 57 (5 + 9 * p + 6) (nI x)) := fj.trans (FM.one hp (by omega) _)
          obtain ⟨K, e, k1, k2⟩ := m_tries hp hth h2 h58 hS f (uI J2 0 57 (5 + 9 * p + 6) (nI x)) (t1F (nI h) (solC C) p γ) (by rw [ht1, ex]; exact m2.set (a := 6) (p := p) _ (by omega)) (by rw [ht1, g2_ne (by omega), g2_ne (by omega)]; exact ⟨x, by omega, by omega, ex⟩) ⟨w - h, by rw [ht1, g2_ne (by omega), g2_at ⟨rfl, rfl⟩, ed], by omega, by omega⟩ (by rw [f3 _ _ _ (by omega)]; exact h1) ((f3.cS th).trans hC)
          refine ⟨K, ?_, by rw [tr_go ⟨c7, c6⟩]; exact k1, f3.trans k2⟩
          rw [b8_42_63]
          simp (disch := omega) only [bnd, bnd0, ↓cdec, ↓cnot, ↓reduceIte, Bo_0, Bo_1, ↓Bo_ok, i10, i01, eq_self, decide_true, decide_false, Bool.or_true, Bool.true_or, Bool.or_false, Bool.false_or, cond_true, cond_false, not_true_eq_false, not_false_eq_true, Bool.false_eq_true, and_self, and_true, true_and, and_false, false_and, nI_clamp, ↓inbc, inb_n, nI_pos, nI_1, mA_7, mA_6, mA_5, b8_42_73, b8_42_78, b8_42_88, b8_42_92, b8_42_102, b8_42_123, b8_42_127, b8_42_130, b8_42_140, b8_42_149, e7, e6, c7, c6, i1, i5, xs, hs, j5]
          exact e
        · have ht1 : t1F (nI h) (solC C) p γ = g2 (g2 γ 7 p (γ 7 p - nI h)) 5 p (nxN (γ 5 p)) := by rw [t1F, cl5, if_neg hs]
          have hnx : jrem (nI (x + 1)) 100 = nxN (γ 5 p) := by
            have := (nx_ok ⟨x, by omega, by omega, ex⟩).2
            rw [ex, nI_1] at this
            rw [ex]; exact this
          have f3 : FM J (uI J2 0 57 (5 + 9 * p + 5) (nxN (γ 5 p))) := fj.trans (FM.one hp (by omega) _)
          obtain ⟨K, e, k1, k2⟩ := m_tries hp hth h2 h58 hS f (uI J2 0 57 (5 + 9 * p + 5) (nxN (γ 5 p))) (t1F (nI h) (solC C) p γ) (by rw [ht1]; exact m2.set (a := 5) (p := p) _ (by omega)) (by rw [ht1, g2_at ⟨rfl, rfl⟩]; exact (nx_ok ⟨x, by omega, by omega, ex⟩).1) ⟨w - h, by rw [ht1, g2_ne (by omega), g2_at ⟨rfl, rfl⟩, ed], by omega, by omega⟩ (by rw [f3 _ _ _ (by omega)]; exact h1) ((f3.cS th).trans hC)
          refine ⟨K, ?_, by rw [tr_go ⟨c7, c6⟩]; exact k1, f3.trans k2⟩
          rw [b8_42_63]
          simp (disch := omega) only [bnd, bnd0, ↓cdec, ↓cnot, ↓reduceIte, Bo_0, Bo_1, ↓Bo_ok, i10, i01, eq_self, decide_true, decide_false, Bool.or_true, Bool.true_or, Bool.or_false, Bool.false_or, cond_true, cond_false, not_true_eq_false, not_false_eq_true, Bool.false_eq_true, and_self, and_true, true_and, and_false, false_and, nI_clamp, ↓inbc, inb_n, nI_pos, nI_1, mA_7, mA_6, mA_5, b8_42_73, b8_42_78, b8_42_88, b8_42_92, b8_42_102, b8_42_123, b8_42_127, b8_42_154, b8_42_163, b8_42_172, e7, e6, c7, c6, i1, i5, xs, hs, j5, hnx]
          exact e
      · refine ⟨J, ?_, by rw [tr_no (fun z => c6 z.2)]; exact hm, FM.rfl⟩
        rw [b8_42_63]
        simp (disch := omega) only [bnd, bnd0, ↓cdec, ↓cnot, ↓reduceIte, Bo_0, Bo_1, ↓Bo_ok, i10, i01, eq_self, decide_true, decide_false, Bool.or_true, Bool.true_or, Bool.or_false, Bool.false_or, cond_true, cond_false, not_true_eq_false, not_false_eq_true, Bool.false_eq_true, and_self, and_true, true_and, and_false, false_and, nI_clamp, ↓inbc, inb_n, nI_pos, nI_1, mA_7, mA_6, b8_42_73, b8_42_78, b8_42_88, b8_42_182, e7, e6, c7, c6]
theorem m_works {p h th : Nat} (hp : p < 10) (hth : th < 8) (h2 : 2 ≤ h) (h58 : h ≤ 58) {C : Nat → Int32} {K0 : IFn} {t0 : Option (Nat × Nat)} {k0 : Nat} {kd0 m0 : Int32} (hS : sumOK K0 t0 k0 kd0 m0 C) (hH : hardC C = nI h) {γ : Men} (hm : MenM I γ) (hok : okMn γ) (ho : opB γ p = true) (h1 : I 0 57 1 = nI th) (hC : cS I th = C) : ∃ J, den (d + 3, 8, 42, 0, [some (vr 0 56), some (vi (nI p)), none], [], mkH I t1 t2 k sc) = some (none, mkH (J) t1 t2 k sc) ∧ MenM J (woF (nI h) (solC C) γ p) ∧ FM I J := by
  have e1 : I 0 57 (5 + 9 * p + 1) = γ 1 p := hm 1 p (by omega) hp
  by_cases hz : γ 1 p = 0
  · refine ⟨I, ?_, by rw [woF, if_pos ho, if_pos hz]; exact hm, FM.rfl⟩
    simp (disch := omega) only [bnd, bnd0, ↓cdec, ↓cnot, ↓reduceIte, Bo_0, Bo_1, ↓Bo_ok, i10, i01, eq_self, decide_true, decide_false, Bool.or_true, Bool.true_or, Bool.or_false, Bool.false_or, cond_true, cond_false, not_true_eq_false, not_false_eq_true, Bool.false_eq_true, and_self, and_true, true_and, and_false, false_and, nI_clamp, ↓inbc, inb_n, nI_pos, nI_1, b8_42_0, b8_42_9, b8_42_13, mA_1, e1, hz]
  · obtain ⟨g1, g2', w, g3, g4⟩ := w0_X hok hp ho hz
    have e7 : I 0 57 (5 + 9 * p + 7) = γ 7 p := hm 7 p (by omega) hp
    have e0 : I 0 57 (5 + 9 * p + 0) = γ 0 p := hm 0 p (by omega) hp
    have fA : FM I (uI (uI I 0 57 (5 + 9 * p + 1) (γ 1 p - 1)) 0 57 (5 + 9 * p + 7) (γ 7 p + γ 0 p)) := (FM.one hp (by omega) _).trans (FM.one hp (by omega) _)
    have mA' : MenM (uI (uI I 0 57 (5 + 9 * p + 1) (γ 1 p - 1)) 0 57 (5 + 9 * p + 7) (γ 7 p + γ 0 p)) (w0F p γ) := (hm.set (a := 1) (p := p) (γ 1 p - 1) (by omega)).set (a := 7) (p := p) (γ 7 p + γ 0 p) (by omega)
    have mh := m_hard (d + 1) I t1 t2 k sc hth
    rw [hC, hH] at mh
    obtain ⟨K, e, k1, k2⟩ := m_tries d t1 t2 k sc hp hth h2 h58 hS 1000 _ _ mA' g2'.2.2.2.2.2.1 ⟨w, g3, by omega, g4⟩ (by rw [fA _ _ _ (by omega)]; exact h1) ((fA.cS th).trans hC)
    refine ⟨K, ?_, by rw [woF, if_pos ho, if_neg hz]; exact k1, fA.trans k2⟩
    simp (disch := omega) only [bnd, bnd0, ↓cdec, ↓cnot, ↓reduceIte, Bo_0, Bo_1, ↓Bo_ok, i10, i01, eq_self, decide_true, decide_false, Bool.or_true, Bool.true_or, Bool.or_false, Bool.false_or, cond_true, cond_false, not_true_eq_false, not_false_eq_true, Bool.false_eq_true, and_self, and_true, true_and, and_false, false_and, nI_clamp, ↓inbc, inb_n, nI_pos, nI_1, mA_1, mA_7, mA_0, b8_42_0, b8_42_9, b8_42_14, b8_42_24, b8_42_34, b8_42_49, b8_42_60, e1, hz, h1, mh, uI_ne, e7, e0]
    exact e
theorem m_cheap {p : Nat} {γ : Men} (hm : MenM I γ) (x1 : Int32) : ∃ y, den (d + 1, 8, 44, 0, [some (vr 0 56), some (vi x1), none, none, none], [], mkH I t1 t2 k sc) = den (d + 1, 8, 44, 89, [some (vr 0 56), some (vi x1), some (vi (oI (chF γ 10))), some (vi (nI 10)), some (vi y)], [], mkH I t1 t2 k sc) := by
  have st : ∀ p l, p < 10 → lok l → ∃ y, den (d + 1, 8, 44, 4, [some (vr 0 56), some (vi x1), some (vi (oI (chF γ p))), some (vi (nI p)), l], [], mkH I t1 t2 k sc) = den (d + 1, 8, 44, 4, [some (vr 0 56), some (vi x1), some (vi (oI (chF γ (p + 1)))), some (vi (nI (p + 1))), some (vi y)], [], mkH I t1 t2 k sc) := by
    intro p l hp hl
    have e8 : I 0 57 (5 + 9 * p + 8) = γ 8 p := hm 8 p (by omega) hp
    have e6 : I 0 57 (5 + 9 * p + 6) = γ 6 p := hm 6 p (by omega) hp
    have e2 : I 0 57 (5 + 9 * p + 2) = γ 2 p := hm 2 p (by omega) hp
    by_cases hs : seB γ p = true
    · obtain ⟨h8, h6⟩ := se_t.mp hs
      refine ⟨1, ?_⟩
      have hd : den (d + 1, 8, 44, 4, [some (vr 0 56), some (vi x1), some (vi (oI (chF γ p))), some (vi (nI p)), l], [], mkH I t1 t2 k sc) = den (d + 1, 8, 44, 50, [some (vr 0 56), some (vi x1), some (vi (oI (chF γ p))), some (vi (nI p)), some (vi 1)], [], mkH I t1 t2 k sc) := by
        rcases hl with rfl | ⟨y, rfl⟩
        · rw [b8_44_4]
          simp (disch := omega) only [bnd, bnd0, ↓cdec, ↓cnot, ↓reduceIte, Bo_0, Bo_1, ↓Bo_ok, i10, i01, eq_self, decide_true, decide_false, Bool.or_true, Bool.true_or, Bool.or_false, Bool.false_or, cond_true, cond_false, not_true_eq_false, not_false_eq_true, Bool.false_eq_true, and_self, and_true, true_and, and_false, false_and, nI_clamp, ↓inbc, inb_n, nI_pos, nI_1, lt_10, hp, b8_44_10, b8_44_20, b8_44_24, b8_44_34, b8_44_38, b8_44_43, mA_8, mA_6, e8, e6, h8, h6]
        · rw [b8_44_4w]
          simp (disch := omega) only [bnd, bnd0, ↓cdec, ↓cnot, ↓reduceIte, Bo_0, Bo_1, ↓Bo_ok, i10, i01, eq_self, decide_true, decide_false, Bool.or_true, Bool.true_or, Bool.or_false, Bool.false_or, cond_true, cond_false, not_true_eq_false, not_false_eq_true, Bool.false_eq_true, and_self, and_true, true_and, and_false, false_and, nI_clamp, ↓inbc, inb_n, nI_pos, nI_1, lt_10, hp, b8_44_10w, b8_44_20w, b8_44_24w, b8_44_34w, b8_44_38w, b8_44_43w, mA_8, mA_6, e8, e6, h8, h6]
      refine hd.trans ?_
      rw [chF]
      cases hb : chF γ p with
      | none =>
        have l1 : (-1 : Int32) < 0 := by decide
        rw [chN, if_pos hs]
        simp (disch := omega) only [bnd, bnd0, ↓cdec, ↓cnot, ↓reduceIte, Bo_0, Bo_1, ↓Bo_ok, i10, i01, eq_self, decide_true, decide_false, Bool.or_true, Bool.true_or, Bool.or_false, Bool.false_or, cond_true, cond_false, not_true_eq_false, not_false_eq_true, Bool.false_eq_true, and_self, and_true, true_and, and_false, false_and, nI_clamp, ↓inbc, inb_n, nI_pos, nI_1, b8_44_50, b8_44_77, b8_44_82, oI, l1]
      | some b =>
        have hb10 := (ch_se p b hb).1
        have eb : I 0 57 (5 + 9 * b + 2) = γ 2 b := hm 2 b (by omega) (by omega)
        rw [chN]
        by_cases hl : γ 2 p < γ 2 b
        · rw [if_pos ⟨hs, hl⟩]
          simp (disch := omega) only [bnd, bnd0, ↓cdec, ↓cnot, ↓reduceIte, Bo_0, Bo_1, ↓Bo_ok, i10, i01, eq_self, decide_true, decide_false, Bool.or_true, Bool.true_or, Bool.or_false, Bool.false_or, cond_true, cond_false, not_true_eq_false, not_false_eq_true, Bool.false_eq_true, and_self, and_true, true_and, and_false, false_and, nI_clamp, ↓inbc, inb_n, nI_pos, nI_1, b8_44_50, b8_44_54, b8_44_63, b8_44_73, b8_44_77, b8_44_82, oI, mA_2, e2, eb, hl]
        · rw [if_neg (fun z => hl z.2)]
          simp (disch := omega) only [bnd, bnd0, ↓cdec, ↓cnot, ↓reduceIte, Bo_0, Bo_1, ↓Bo_ok, i10, i01, eq_self, decide_true, decide_false, Bool.or_true, Bool.true_or, Bool.or_false, Bool.false_or, cond_true, cond_false, not_true_eq_false, not_false_eq_true, Bool.false_eq_true, and_self, and_true, true_and, and_false, false_and, nI_clamp, ↓inbc, inb_n, nI_pos, nI_1, b8_44_50, b8_44_54, b8_44_63, b8_44_73, b8_44_81, b8_44_82, oI, mA_2, e2, eb, hl]
    · refine ⟨0, ?_⟩
      have hd : den (d + 1, 8, 44, 4, [some (vr 0 56), some (vi x1), some (vi (oI (chF γ p))), some (vi (nI p)), l], [], mkH I t1 t2 k sc) = den (d + 1, 8, 44, 81, [some (vr 0 56), some (vi x1), some (vi (oI (chF γ p))), some (vi (nI p)), some (vi 0)], [], mkH I t1 t2 k sc) := by
        by_cases h8 : γ 8 p = 0
        · have h6 : γ 6 p < 0 := by
            by_cases h6 : γ 6 p < 0
            · exact h6
            · exact absurd (se_t.mpr ⟨h8, h6⟩) hs
          rcases hl with rfl | ⟨y, rfl⟩
          · rw [b8_44_4]
            simp (disch := omega) only [bnd, bnd0, ↓cdec, ↓cnot, ↓reduceIte, Bo_0, Bo_1, ↓Bo_ok, i10, i01, eq_self, decide_true, decide_false, Bool.or_true, Bool.true_or, Bool.or_false, Bool.false_or, cond_true, cond_false, not_true_eq_false, not_false_eq_true, Bool.false_eq_true, and_self, and_true, true_and, and_false, false_and, nI_clamp, ↓inbc, inb_n, nI_pos, nI_1, lt_10, hp, b8_44_10, b8_44_20, b8_44_24, b8_44_34, b8_44_42, b8_44_43, mA_8, mA_6, e8, e6, h8, h6]
          · rw [b8_44_4w]
            simp (disch := omega) only [bnd, bnd0, ↓cdec, ↓cnot, ↓reduceIte, Bo_0, Bo_1, ↓Bo_ok, i10, i01, eq_self, decide_true, decide_false, Bool.or_true, Bool.true_or, Bool.or_false, Bool.false_or, cond_true, cond_false, not_true_eq_false, not_false_eq_true, Bool.false_eq_true, and_self, and_true, true_and, and_false, false_and, nI_clamp, ↓inbc, inb_n, nI_pos, nI_1, lt_10, hp, b8_44_10w, b8_44_20w, b8_44_24w, b8_44_34w, b8_44_42w, b8_44_43w, mA_8, mA_6, e8, e6, h8, h6]
        · rcases hl with rfl | ⟨y, rfl⟩
          · rw [b8_44_4]
            simp (disch := omega) only [bnd, bnd0, ↓cdec, ↓cnot, ↓reduceIte, Bo_0, Bo_1, ↓Bo_ok, i10, i01, eq_self, decide_true, decide_false, Bool.or_true, Bool.true_or, Bool.or_false, Bool.false_or, cond_true, cond_false, not_true_eq_false, not_false_eq_true, Bool.false_eq_true, and_self, and_true, true_and, and_false, false_and, nI_clamp, ↓inbc, inb_n, nI_pos, nI_1, lt_10, hp, b8_44_10, b8_44_20, b8_44_42, b8_44_43, mA_8, e8, h8]
          · rw [b8_44_4w]
            simp (disch := omega) only [bnd, bnd0, ↓cdec, ↓cnot, ↓reduceIte, Bo_0, Bo_1, ↓Bo_ok, i10, i01, eq_self, decide_true, decide_false, Bool.or_true, Bool.true_or, Bool.or_false, Bool.false_or, cond_true, cond_false, not_true_eq_false, not_false_eq_true, Bool.false_eq_true, and_self, and_true, true_and, and_false, false_and, nI_clamp, ↓inbc, inb_n, nI_pos, nI_1, lt_10, hp, b8_44_10w, b8_44_20w, b8_44_42w, b8_44_43w, mA_8, e8, h8]
      refine hd.trans ?_
      have hc : chF γ (p + 1) = chF γ p := by
        rw [chF]
        cases hb : chF γ p with
        | none => rw [chN, if_neg hs]
        | some b => rw [chN, if_neg (fun z => hs z.1)]
      rw [hc]
      simp (disch := omega) only [bnd, bnd0, ↓cdec, ↓cnot, ↓reduceIte, Bo_0, Bo_1, ↓Bo_ok, i10, i01, eq_self, decide_true, decide_false, Bool.or_true, Bool.true_or, Bool.or_false, Bool.false_or, cond_true, cond_false, not_true_eq_false, not_false_eq_true, Bool.false_eq_true, and_self, and_true, true_and, and_false, false_and, nI_clamp, ↓inbc, inb_n, nI_pos, nI_1, b8_44_81, b8_44_82]
  obtain ⟨y, e0⟩ := st 0 none (by omega) (Or.inl rfl)
  obtain ⟨l', hl', e⟩ := lpL (fun p l => den (d + 1, 8, 44, 4, [some (vr 0 56), some (vi x1), some (vi (oI (chF γ p))), some (vi (nI p)), l], [], mkH I t1 t2 k sc)) (N := 9) (fun j l hj hl => st j l (by omega) hl) 1 (some (vi y)) (by omega) (Or.inr ⟨y, rfl⟩)
  obtain ⟨y2, e9⟩ := st 9 l' (by omega) hl'
  refine ⟨y2, ?_⟩
  refine (b8_44_0 d x1 I t1 t2 k sc).trans (e0.trans (e.trans (e9.trans ?_)))
  rw [b8_44_4w]
  simp (disch := omega) only [bnd, bnd0, ↓cdec, ↓cnot, ↓reduceIte, Bo_0, Bo_1, ↓Bo_ok, i10, i01, eq_self, decide_true, decide_false, Bool.or_true, Bool.true_or, Bool.or_false, Bool.false_or, cond_true, cond_false, not_true_eq_false, not_false_eq_true, Bool.false_eq_true, and_self, and_true, true_and, and_false, false_and, nI_clamp, ↓inbc, inb_n, nI_pos, nI_1, lt_10, Nat.reduceAdd, Nat.lt_irrefl]
theorem m_buys {p : Nat} (hp : p < 10) {γ : Men} (hm : MenM I γ) (ho : opB γ p = true) : ∃ J, den (d + 1, 8, 44, 0, [some (vr 0 56), some (vi (nI p)), none, none, none], [], mkH I t1 t2 k sc) = some (none, mkH (J) t1 t2 k sc) ∧ MenM J (buF γ p) ∧ FM I J := by
  obtain ⟨y, e⟩ := m_cheap d I t1 t2 k sc (p := p) hm (nI p)
  rw [buF, if_pos ho]
  cases hb : chF γ 10 with
  | none =>
    have l1 : (-1 : Int32) < 0 := by decide
    refine ⟨I, e.trans ?_, hm, FM.rfl⟩
    rw [hb]
    simp (disch := omega) only [bnd, bnd0, ↓cdec, ↓cnot, ↓reduceIte, Bo_0, Bo_1, ↓Bo_ok, i10, i01, eq_self, decide_true, decide_false, Bool.or_true, Bool.true_or, Bool.or_false, Bool.false_or, cond_true, cond_false, not_true_eq_false, not_false_eq_true, Bool.false_eq_true, and_self, and_true, true_and, and_false, false_and, nI_clamp, ↓inbc, inb_n, nI_pos, nI_1, b8_44_89w, b8_44_209w, oI, l1]
  | some s =>
    have hs10 := (ch_se 10 s hb).1
    rw [buO]
    have e1 : I 0 57 (5 + 9 * p + 1) = γ 1 p := hm 1 p (by omega) hp
    have e2 : I 0 57 (5 + 9 * s + 2) = γ 2 s := hm 2 s (by omega) hs10
    by_cases hl : γ 1 p < γ 2 s
    · rw [if_pos hl]
      refine ⟨I, e.trans ?_, hm, FM.rfl⟩
      rw [hb]
      simp (disch := omega) only [bnd, bnd0, ↓cdec, ↓cnot, ↓reduceIte, Bo_0, Bo_1, ↓Bo_ok, i10, i01, eq_self, decide_true, decide_false, Bool.or_true, Bool.true_or, Bool.or_false, Bool.false_or, cond_true, cond_false, not_true_eq_false, not_false_eq_true, Bool.false_eq_true, and_self, and_true, true_and, and_false, false_and, nI_clamp, ↓inbc, inb_n, nI_pos, nI_1, b8_44_89w, b8_44_93w, b8_44_102w, b8_44_112w, b8_44_209w, oI, mA_1, mA_2, e1, e2, hl]
    · rw [if_neg hl]
      have m1 : MenM (uI I 0 57 (5 + 9 * p + 1) (γ 1 p - γ 2 s)) (g2 γ 1 p (γ 1 p - γ 2 s)) := hm.set (a := 1) (p := p) _ (by omega)
      have ec : (uI I 0 57 (5 + 9 * p + 1) (γ 1 p - γ 2 s)) 0 57 (5 + 9 * s + 1) = (g2 γ 1 p (γ 1 p - γ 2 s)) 1 s := m1 1 s (by omega) hs10
      have m2 : MenM (uI (uI I 0 57 (5 + 9 * p + 1) (γ 1 p - γ 2 s)) 0 57 (5 + 9 * s + 1) (mnF ((g2 γ 1 p (γ 1 p - γ 2 s)) 1 s + γ 2 s))) (g2 (g2 γ 1 p (γ 1 p - γ 2 s)) 1 s (mnF ((g2 γ 1 p (γ 1 p - γ 2 s)) 1 s + γ 2 s))) := m1.set (a := 1) (p := s) _ (by omega)
      have e6 : I 0 57 (5 + 9 * s + 6) = γ 6 s := hm 6 s (by omega) hs10
      refine ⟨uI (uI (uI I 0 57 (5 + 9 * p + 1) (γ 1 p - γ 2 s)) 0 57 (5 + 9 * s + 1) (mnF ((g2 γ 1 p (γ 1 p - γ 2 s)) 1 s + γ 2 s))) 0 57 (5 + 9 * p + 6) (γ 6 s), e.trans ?_, m2.set (a := 6) (p := p) _ (by omega), ((FM.one hp (by omega) _).trans (FM.one hs10 (by omega) _)).trans (FM.one hp (by omega) _)⟩
      rw [hb, ← mn_eq]
      by_cases h9 : (999 : Int32) < (g2 γ 1 p (γ 1 p - γ 2 s)) 1 s + γ 2 s
      · rw [if_pos h9]
        simp (disch := omega) only [bnd, bnd0, ↓cdec, ↓cnot, ↓reduceIte, Bo_0, Bo_1, ↓Bo_ok, i10, i01, eq_self, decide_true, decide_false, Bool.or_true, Bool.true_or, Bool.or_false, Bool.false_or, cond_true, cond_false, not_true_eq_false, not_false_eq_true, Bool.false_eq_true, and_self, and_true, true_and, and_false, false_and, nI_clamp, ↓inbc, inb_n, nI_pos, nI_1, b8_44_89w, b8_44_93w, b8_44_102w, b8_44_112w, b8_44_116w, b8_44_125w, b8_44_136w, b8_44_150w, b8_44_159w, b8_44_168w, b8_44_186w, b8_44_197w, b8_44_207w, b8_44_209w, oI, mA_1, mA_2, mA_6, e1, e2, hl, ec, h9, uI_ne, e6]
      · rw [if_neg h9]
        simp (disch := omega) only [bnd, bnd0, ↓cdec, ↓cnot, ↓reduceIte, Bo_0, Bo_1, ↓Bo_ok, i10, i01, eq_self, decide_true, decide_false, Bool.or_true, Bool.true_or, Bool.or_false, Bool.false_or, cond_true, cond_false, not_true_eq_false, not_false_eq_true, Bool.false_eq_true, and_self, and_true, true_and, and_false, false_and, nI_clamp, ↓inbc, inb_n, nI_pos, nI_1, b8_44_89w, b8_44_93w, b8_44_102w, b8_44_112w, b8_44_116w, b8_44_125w, b8_44_136w, b8_44_150w, b8_44_159w, b8_44_174w, b8_44_183w, b8_44_186w, b8_44_197w, b8_44_207w, b8_44_209w, oI, mA_1, mA_2, mA_6, e1, e2, hl, ec, h9, uI_ne, e6]
theorem m_heard {p : Nat} (hp : p < 10) {γ : Men} (hm : MenM I γ) (spk : Nat → Bool) (h65 : ∀ q, q < 10 → (I 0 65 q < 0 ↔ ¬ spk q = true)) : ∃ y z, den (d + 1, 8, 45, 0, [some (vr 0 56), some (vi (nI p)), none, none, none, none], [], mkH I t1 t2 k sc) = den (d + 1, 8, 45, 105, [some (vr 0 56), some (vi (nI p)), some (vi (oI (rdF γ spk (γ 3 p - 1) (γ 3 p + 1) 10))), some (vi (nI 10)), some (vi y), some (vi z)], [], mkH I t1 t2 k sc) := by
  have ep : I 0 57 (5 + 9 * p + 3) = γ 3 p := hm 3 p (by omega) hp
  have st : ∀ q l4 l5, q < 10 → ((l4 = none ∧ l5 = none) ∨ ∃ a b, l4 = some (vi a) ∧ l5 = some (vi b)) → ∃ y z, den (d + 1, 8, 45, 4, [some (vr 0 56), some (vi (nI p)), some (vi (oI (rdF γ spk (γ 3 p - 1) (γ 3 p + 1) q))), some (vi (nI q)), l4, l5], [], mkH I t1 t2 k sc) = den (d + 1, 8, 45, 4, [some (vr 0 56), some (vi (nI p)), some (vi (oI (rdF γ spk (γ 3 p - 1) (γ 3 p + 1) (q + 1)))), some (vi (nI (q + 1))), some (vi y), some (vi z)], [], mkH I t1 t2 k sc) := by
    intro q l4 l5 hq hl
    have eq : I 0 57 (5 + 9 * q + 3) = γ 3 q := hm 3 q (by omega) hq
    have h5 := h65 q hq
    by_cases hs : seeB γ spk (γ 3 p - 1) (γ 3 p + 1) q = true
    · obtain ⟨hsp, hab⟩ := see_t.mp hs
      have hn : ¬ I 0 65 q < 0 := fun z => h5.mp z hsp
      refine ⟨γ 3 q - γ 3 p, 1, ?_⟩
      have hd : den (d + 1, 8, 45, 4, [some (vr 0 56), some (vi (nI p)), some (vi (oI (rdF γ spk (γ 3 p - 1) (γ 3 p + 1) q))), some (vi (nI q)), l4, l5], [], mkH I t1 t2 k sc) = den (d + 1, 8, 45, 66, [some (vr 0 56), some (vi (nI p)), some (vi (oI (rdF γ spk (γ 3 p - 1) (γ 3 p + 1) q))), some (vi (nI q)), some (vi (γ 3 q - γ 3 p)), some (vi 1)], [], mkH I t1 t2 k sc) := by
        by_cases hB : γ 3 q = γ 3 p + 1
        · have hB' : γ 3 q - γ 3 p = 1 := by rw [off1]; exact hB
          rcases hl with ⟨rfl, rfl⟩ | ⟨a, b, rfl, rfl⟩
          · rw [b8_45_4]
            simp (disch := omega) only [bnd, bnd0, ↓cdec, ↓cnot, ↓reduceIte, Bo_0, Bo_1, ↓Bo_ok, i10, i01, eq_self, decide_true, decide_false, Bool.or_true, Bool.true_or, Bool.or_false, Bool.false_or, cond_true, cond_false, not_true_eq_false, not_false_eq_true, Bool.false_eq_true, and_self, and_true, true_and, and_false, false_and, nI_clamp, ↓inbc, inb_n, nI_pos, nI_1, lt_10, hq, b8_45_10, b8_45_19, b8_45_29, b8_45_42, b8_45_54, b8_45_59, mA_3, eq, ep, hn, hB']
          · rw [b8_45_4w]
            simp (disch := omega) only [bnd, bnd0, ↓cdec, ↓cnot, ↓reduceIte, Bo_0, Bo_1, ↓Bo_ok, i10, i01, eq_self, decide_true, decide_false, Bool.or_true, Bool.true_or, Bool.or_false, Bool.false_or, cond_true, cond_false, not_true_eq_false, not_false_eq_true, Bool.false_eq_true, and_self, and_true, true_and, and_false, false_and, nI_clamp, ↓inbc, inb_n, nI_pos, nI_1, lt_10, hq, b8_45_10w, b8_45_19w, b8_45_29w, b8_45_42w, b8_45_54w, b8_45_59w, mA_3, eq, ep, hn, hB']
        · have hA := hab.resolve_left hB
          have hA' : γ 3 q - γ 3 p = -1 := by rw [offm]; exact hA
          have z1 : ¬ (-1 : Int32) = 1 := by decide
          rcases hl with ⟨rfl, rfl⟩ | ⟨a, b, rfl, rfl⟩
          · rw [b8_45_4]
            simp (disch := omega) only [bnd, bnd0, ↓cdec, ↓cnot, ↓reduceIte, Bo_0, Bo_1, ↓Bo_ok, i10, i01, eq_self, decide_true, decide_false, Bool.or_true, Bool.true_or, Bool.or_false, Bool.false_or, cond_true, cond_false, not_true_eq_false, not_false_eq_true, Bool.false_eq_true, and_self, and_true, true_and, and_false, false_and, nI_clamp, ↓inbc, inb_n, nI_pos, nI_1, lt_10, hq, b8_45_10, b8_45_19, b8_45_29, b8_45_42, b8_45_48, b8_45_54, b8_45_59, mA_3, eq, ep, hn, hA', z1]
          · rw [b8_45_4w]
            simp (disch := omega) only [bnd, bnd0, ↓cdec, ↓cnot, ↓reduceIte, Bo_0, Bo_1, ↓Bo_ok, i10, i01, eq_self, decide_true, decide_false, Bool.or_true, Bool.true_or, Bool.or_false, Bool.false_or, cond_true, cond_false, not_true_eq_false, not_false_eq_true, Bool.false_eq_true, and_self, and_true, true_and, and_false, false_and, nI_clamp, ↓inbc, inb_n, nI_pos, nI_1, lt_10, hq, b8_45_10w, b8_45_19w, b8_45_29w, b8_45_42w, b8_45_48w, b8_45_54w, b8_45_59w, mA_3, eq, ep, hn, hA', z1]
      refine hd.trans ?_
      rw [rdF]
      cases hb : rdF γ spk (γ 3 p - 1) (γ 3 p + 1) q with
      | none =>
        have l1 : (-1 : Int32) < 0 := by decide
        rw [rdN, if_pos hs]
        simp (disch := omega) only [bnd, bnd0, ↓cdec, ↓cnot, ↓reduceIte, Bo_0, Bo_1, ↓Bo_ok, i10, i01, eq_self, decide_true, decide_false, Bool.or_true, Bool.true_or, Bool.or_false, Bool.false_or, cond_true, cond_false, not_true_eq_false, not_false_eq_true, Bool.false_eq_true, and_self, and_true, true_and, and_false, false_and, nI_clamp, ↓inbc, inb_n, nI_pos, nI_1, b8_45_66, b8_45_93, b8_45_98, oI, l1]
      | some b =>
        have hb10 := rd_lt q b hb
        have eb : I 0 57 (5 + 9 * b + 3) = γ 3 b := hm 3 b (by omega) (by omega)
        rw [rdN]
        by_cases hl : γ 3 q < γ 3 b
        · rw [if_pos ⟨hs, hl⟩]
          simp (disch := omega) only [bnd, bnd0, ↓cdec, ↓cnot, ↓reduceIte, Bo_0, Bo_1, ↓Bo_ok, i10, i01, eq_self, decide_true, decide_false, Bool.or_true, Bool.true_or, Bool.or_false, Bool.false_or, cond_true, cond_false, not_true_eq_false, not_false_eq_true, Bool.false_eq_true, and_self, and_true, true_and, and_false, false_and, nI_clamp, ↓inbc, inb_n, nI_pos, nI_1, b8_45_66, b8_45_70, b8_45_79, b8_45_89, b8_45_93, b8_45_98, oI, mA_3, eq, eb, hl]
        · rw [if_neg (fun z => hl z.2)]
          simp (disch := omega) only [bnd, bnd0, ↓cdec, ↓cnot, ↓reduceIte, Bo_0, Bo_1, ↓Bo_ok, i10, i01, eq_self, decide_true, decide_false, Bool.or_true, Bool.true_or, Bool.or_false, Bool.false_or, cond_true, cond_false, not_true_eq_false, not_false_eq_true, Bool.false_eq_true, and_self, and_true, true_and, and_false, false_and, nI_clamp, ↓inbc, inb_n, nI_pos, nI_1, b8_45_66, b8_45_70, b8_45_79, b8_45_89, b8_45_97, b8_45_98, oI, mA_3, eq, eb, hl]
    · have hc : rdF γ spk (γ 3 p - 1) (γ 3 p + 1) (q + 1) = rdF γ spk (γ 3 p - 1) (γ 3 p + 1) q := by
        rw [rdF]
        cases hb : rdF γ spk (γ 3 p - 1) (γ 3 p + 1) q with
        | none => rw [rdN, if_neg hs]
        | some b => rw [rdN, if_neg (fun z => hs z.1)]
      refine ⟨γ 3 q - γ 3 p, 0, ?_⟩
      rw [hc]
      by_cases hn : I 0 65 q < 0
      · rcases hl with ⟨rfl, rfl⟩ | ⟨a, b, rfl, rfl⟩
        · rw [b8_45_4]
          simp (disch := omega) only [bnd, bnd0, ↓cdec, ↓cnot, ↓reduceIte, Bo_0, Bo_1, ↓Bo_ok, i10, i01, eq_self, decide_true, decide_false, Bool.or_true, Bool.true_or, Bool.or_false, Bool.false_or, cond_true, cond_false, not_true_eq_false, not_false_eq_true, Bool.false_eq_true, and_self, and_true, true_and, and_false, false_and, nI_clamp, ↓inbc, inb_n, nI_pos, nI_1, lt_10, hq, b8_45_10, b8_45_19, b8_45_29, b8_45_58, b8_45_59, b8_45_97, b8_45_98, mA_3, eq, ep, hn]
        · rw [b8_45_4w]
          simp (disch := omega) only [bnd, bnd0, ↓cdec, ↓cnot, ↓reduceIte, Bo_0, Bo_1, ↓Bo_ok, i10, i01, eq_self, decide_true, decide_false, Bool.or_true, Bool.true_or, Bool.or_false, Bool.false_or, cond_true, cond_false, not_true_eq_false, not_false_eq_true, Bool.false_eq_true, and_self, and_true, true_and, and_false, false_and, nI_clamp, ↓inbc, inb_n, nI_pos, nI_1, lt_10, hq, b8_45_10w, b8_45_19w, b8_45_29w, b8_45_58w, b8_45_59w, b8_45_97, b8_45_98, mA_3, eq, ep, hn]
      · have hsp : spk q = true := by
          cases hz : spk q with
          | true => rfl
          | false => exact absurd (h5.mpr (by rw [hz]; decide)) hn
        have hB' : ¬ γ 3 q - γ 3 p = 1 := by rw [off1]; exact fun z => hs (see_t.mpr ⟨hsp, Or.inl z⟩)
        have hA' : ¬ γ 3 q - γ 3 p = -1 := by rw [offm]; exact fun z => hs (see_t.mpr ⟨hsp, Or.inr z⟩)
        rcases hl with ⟨rfl, rfl⟩ | ⟨a, b, rfl, rfl⟩
        · rw [b8_45_4]
          simp (disch := omega) only [bnd, bnd0, ↓cdec, ↓cnot, ↓reduceIte, Bo_0, Bo_1, ↓Bo_ok, i10, i01, eq_self, decide_true, decide_false, Bool.or_true, Bool.true_or, Bool.or_false, Bool.false_or, cond_true, cond_false, not_true_eq_false, not_false_eq_true, Bool.false_eq_true, and_self, and_true, true_and, and_false, false_and, nI_clamp, ↓inbc, inb_n, nI_pos, nI_1, lt_10, hq, b8_45_10, b8_45_19, b8_45_29, b8_45_42, b8_45_48, b8_45_58, b8_45_59, b8_45_97, b8_45_98, mA_3, eq, ep, hn, hA', hB']
        · rw [b8_45_4w]
          simp (disch := omega) only [bnd, bnd0, ↓cdec, ↓cnot, ↓reduceIte, Bo_0, Bo_1, ↓Bo_ok, i10, i01, eq_self, decide_true, decide_false, Bool.or_true, Bool.true_or, Bool.or_false, Bool.false_or, cond_true, cond_false, not_true_eq_false, not_false_eq_true, Bool.false_eq_true, and_self, and_true, true_and, and_false, false_and, nI_clamp, ↓inbc, inb_n, nI_pos, nI_1, lt_10, hq, b8_45_10w, b8_45_19w, b8_45_29w, b8_45_42w, b8_45_48w, b8_45_58w, b8_45_59w, b8_45_97, b8_45_98, mA_3, eq, ep, hn, hA', hB']
  have lo : ∀ m q, 1 ≤ q → q + m = 10 → ∀ a b, ∃ y z, den (d + 1, 8, 45, 4, [some (vr 0 56), some (vi (nI p)), some (vi (oI (rdF γ spk (γ 3 p - 1) (γ 3 p + 1) q))), some (vi (nI q)), some (vi a), some (vi b)], [], mkH I t1 t2 k sc) = den (d + 1, 8, 45, 4, [some (vr 0 56), some (vi (nI p)), some (vi (oI (rdF γ spk (γ 3 p - 1) (γ 3 p + 1) 10))), some (vi (nI 10)), some (vi y), some (vi z)], [], mkH I t1 t2 k sc) := by
    intro m
    induction m with
    | zero => intro q _ hq a b; rw [show q = 10 by omega]; exact ⟨a, b, rfl⟩
    | succ m ih =>
      intro q h1 hq a b
      obtain ⟨y, z, e⟩ := st q (some (vi a)) (some (vi b)) (by omega) (Or.inr ⟨a, b, rfl, rfl⟩)
      obtain ⟨y2, z2, e2⟩ := ih (q + 1) (by omega) (by omega) y z
      exact ⟨y2, z2, e.trans e2⟩
  obtain ⟨y, z, e0⟩ := st 0 none none (by omega) (Or.inl ⟨rfl, rfl⟩)
  obtain ⟨y2, z2, e⟩ := lo 9 1 (by omega) (by omega) y z
  refine ⟨y2, z2, ?_⟩
  refine (b8_45_0 d (nI p) I t1 t2 k sc).trans (e0.trans (e.trans ?_))
  rw [b8_45_4w]
  simp (disch := omega) only [bnd, bnd0, ↓cdec, ↓cnot, ↓reduceIte, Bo_0, Bo_1, ↓Bo_ok, i10, i01, eq_self, decide_true, decide_false, Bool.or_true, Bool.true_or, Bool.or_false, Bool.false_or, cond_true, cond_false, not_true_eq_false, not_false_eq_true, Bool.false_eq_true, and_self, and_true, true_and, and_false, false_and, nI_clamp, ↓inbc, inb_n, nI_pos, nI_1, lt_10, Nat.lt_irrefl]
theorem m_reads {p : Nat} (hp : p < 10) {γ0 γ : Men} (hm : MenM I γ) (hok : okMn γ) (ho : opB γ p = true) (hk : Kp γ0 γ) (h65 : ∀ q, q < 10 → I 0 65 q = if seB γ0 q = true then γ0 6 q else -1) : ∃ J, den (d + 1, 8, 45, 0, [some (vr 0 56), some (vi (nI p)), none, none, none, none], [], mkH I t1 t2 k sc) = some (none, mkH (J) t1 t2 k sc) ∧ MenM J (liF (seB γ0) γ p) ∧ FM I J := by
  have hlt : ∀ q, q < 10 → (I 0 65 q < 0 ↔ ¬ seB γ0 q = true) := by
    intro q hq
    rw [h65 q hq]
    by_cases hs : seB γ0 q = true
    · rw [if_pos hs]
      exact ⟨fun z => absurd z (se_t.mp hs).2, fun z => absurd hs z⟩
    · rw [if_neg hs]
      exact ⟨fun _ => hs, fun _ => by decide⟩
  obtain ⟨y, z, e⟩ := m_heard d I t1 t2 k sc hp hm (seB γ0) hlt
  rw [rd_he (hok p hp).2.2.2.1] at e
  rw [liF, if_pos ho]
  cases hh : heF γ (seB γ0) p with
  | none =>
    have l1 : (-1 : Int32) < 0 := by decide
    have h6 : γ 6 p = -1 := (opt_neg (hok p hp).2.2.2.2.2.2.1 (by omega)).mp (op_t.mp ho).2
    refine ⟨uI I 0 57 (5 + 9 * p + 6) (-1), e.trans ?_, ?_, FM.one hp (by omega) _⟩
    · rw [hh]
      simp (disch := omega) only [bnd, bnd0, ↓cdec, ↓cnot, ↓reduceIte, Bo_0, Bo_1, ↓Bo_ok, i10, i01, eq_self, decide_true, decide_false, Bool.or_true, Bool.true_or, Bool.or_false, Bool.false_or, cond_true, cond_false, not_true_eq_false, not_false_eq_true, Bool.false_eq_true, and_self, and_true, true_and, and_false, false_and, nI_clamp, ↓inbc, inb_n, nI_pos, nI_1, b8_45_105w, b8_45_115w, b8_45_119w, b8_45_129w, oI, l1, mA_6]
    · have : g2 γ 6 p (-1) = γ := by
        funext a q
        by_cases ez : a = 6 ∧ q = p
        · rw [g2_at ez, ez.1, ez.2, h6]
        · rw [g2_ne ez]
      have g := hm.set (a := 6) (p := p) (-1) (by omega)
      rw [this] at g
      exact g
  | some s =>
    obtain ⟨hs10, hse⟩ := he_se hh
    have e5 : I 0 65 s = γ 6 s := by rw [h65 s hs10, if_pos hse, (hk s hse).1]
    refine ⟨uI I 0 57 (5 + 9 * p + 6) (γ 6 s), e.trans ?_, hm.set (a := 6) (p := p) _ (by omega), FM.one hp (by omega) _⟩
    rw [hh]
    simp (disch := omega) only [bnd, bnd0, ↓cdec, ↓cnot, ↓reduceIte, Bo_0, Bo_1, ↓Bo_ok, i10, i01, eq_self, decide_true, decide_false, Bool.or_true, Bool.true_or, Bool.or_false, Bool.false_or, cond_true, cond_false, not_true_eq_false, not_false_eq_true, Bool.false_eq_true, and_self, and_true, true_and, and_false, false_and, nI_clamp, ↓inbc, inb_n, nI_pos, nI_1, b8_45_105w, b8_45_115w, b8_45_123w, b8_45_129w, oI, mA_6, e5]
end
