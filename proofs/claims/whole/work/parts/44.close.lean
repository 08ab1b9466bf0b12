/-! what is not seen of a heap, and how the relation is closed -/
def Gb (g j i : Nat) : Prop := (g = 0 ∧ ((j = 0 ∧ i ≠ 7) ∨ (j = 1 ∧ i ≠ 1) ∨ ((j = 8 ∨ j = 24) ∧ i = 12) ∨ (35 ≤ j ∧ j ≤ 46) ∨ (j = 56 ∧ i ≠ 4 ∧ i ≠ 8) ∨ j = 59 ∨ (62 ≤ j ∧ j ≤ 66) ∨ 70 ≤ j)) ∨ (1 ≤ g ∧ (j = 5 ∨ j = 8 ∨ 9 ≤ j ∨ ((j = 3 ∨ j = 6) ∧ i = 3)))
/-- alike but for what isn't seen -/
def Al (I J : IFn) : Prop := ∀ g j i, ¬ Gb g j i → J g j i = I g j i
theorem Al.rfl {I : IFn} : Al I I := fun _ _ _ _ => Eq.refl _
theorem Al.trans {I J K : IFn} (h : Al I J) (h2 : Al J K) : Al I K := fun g j i q => (h2 g j i q).trans (h g j i q)
theorem Inv.garb {I J : IFn} {t1 t2 : TFn} {k : Nat} (h : Al I J) (v : Inv I t1 t2 k) : Inv J t1 t2 k := by
  refine Inv.congr (fun e _ j i h1 h2 h3 h4 => h _ _ _ ?_) (h _ _ _ ?_) (fun j i h1 h2 h3 h4 => h _ _ _ ?_) (fun i hi => h _ _ _ ?_) (fun j i h1 h2 => h _ _ _ ?_) (h _ _ _ ?_) (h _ _ _ ?_) (fun i hi => h _ _ _ ?_) (fun i hi => h _ _ _ ?_) (fun i hi => h _ _ _ ?_) (fun i hi => h _ _ _ ?_) (fun j i h1 h2 => h _ _ _ ?_) v <;> unfold Gb <;> omega
theorem Inv.find2 {I J : IFn} {t1 t2 : TFn} {k f : Nat} (hf : f < 7) (v : Inv I t1 t2 k) (h47 : J 0 47 f = I 0 47 f + 1) (h60 : J 0 60 f = I 0 60 f + 1) (h : ∀ g j i, ¬ Gb g j i → ¬ (g = 0 ∧ (j = 47 ∨ j = 60) ∧ i = f) → J g j i = I g j i) : Inv J t1 t2 k := by
  refine Inv.garb ?_ (v.find hf)
  intro g j i hg
  by_cases h1 : g = 0 ∧ j = 47 ∧ i = f
  · obtain ⟨rfl, rfl, rfl⟩ := h1
    rw [uI_ne (by omega), uI_at (by omega), h47]
  · by_cases h2 : g = 0 ∧ j = 60 ∧ i = f
    · obtain ⟨rfl, rfl, rfl⟩ := h2
      rw [uI_at (by omega), uI_ne (by omega), h60]
    · rw [uI_ne h2, uI_ne h1]
      exact h g j i hg (by omega)
theorem KeptOK.congr2 {I J : IFn} {t2 : TFn} {k : Nat} (hT : TextsSame I J k) (h0 : J 0 0 7 = I 0 0 7) (h56 : J 0 56 4 = I 0 56 4) (hj : ∀ j i, 19 ≤ j → j ≤ 34 → ¬ (j = 24 ∧ i = 12) → J 0 j i = I 0 j i) (h58 : ∀ i, i < 465 → J 0 58 i = I 0 58 i) (v : KeptOK I t2 k) : KeptOK J t2 k := by
  rcases v with ⟨z1, z2⟩ | ⟨z1, z2, z3⟩
  · exact Or.inl ⟨by rw [h0]; exact z1, by rw [h56]; exact z2⟩
  · exact Or.inr ⟨by rw [h0]; exact z1, by rw [h56]; exact z2, z3.congr hT (fun j i q1 q2 q3 => hj j i (by omega) (by omega) (by omega)) h58⟩
/-- the cells of the gaol, of both sides -/
def Gc (g j i : Nat) : Prop := Gb g j i ∨ (g = 0 ∧ ((8 ≤ j ∧ j ≤ 17) ∨ (j = 57 ∧ 1 ≤ i ∧ i < 95) ∨ (j = 3 ∧ i = 3)))
theorem Inv.gaol {I J : IFn} {t1 t2 : TFn} {k : Nat} (v : Inv I t1 t2 k) (γ : Nat → Nat → Int32) (hX : ∀ a p, a < 9 → p < 10 → J 0 (9 + a) p = γ a p) (hS : ∀ a p, a < 9 → p < 10 → J 0 57 (5 + 9 * p + a) = γ a p) (hok : ∀ p, p < 10 → manOK (fun a => γ a p)) (h9 : J 0 8 9 = J 0 57 1) (h1 : ∀ n, n ≤ 8 → I 0 57 0 = nI n → opt n (J 0 57 1)) (h11 : J 0 8 11 = J 0 57 2) (h2 : rng 0 480 (J 0 57 2)) (h10 : J 0 8 10 = J 0 57 3) (h3 : rng 0 999 (J 0 57 3)) (hz : J 0 3 3 = J 0 57 4) (hfr : ∀ g j i, ¬ Gc g j i → J g j i = I g j i) : Inv J t1 t2 k := by
  obtain ⟨hT, ⟨n, b0, b1, b2, b3⟩, hSh, ⟨m, m8, ⟨c1, c2, c3, c4, c5, c6⟩, hM, hQ, hTK⟩, hK⟩ := v
  have fr : ∀ g j i, ¬ (1 ≤ g ∨ (j = 0 ∧ i ≠ 7) ∨ (j = 1 ∧ i ≠ 1) ∨ (j = 24 ∧ i = 12) ∨ (35 ≤ j ∧ j ≤ 46) ∨ (j = 56 ∧ i ≠ 4 ∧ i ≠ 8) ∨ j = 59 ∨ (62 ≤ j ∧ j ≤ 66) ∨ 70 ≤ j ∨ (8 ≤ j ∧ j ≤ 17) ∨ (j = 57 ∧ 1 ≤ i ∧ i < 95) ∨ (j = 3 ∧ i = 3)) → J g j i = I g j i := fun g j i q => hfr g j i (by unfold Gc Gb; omega)
  have hTS : TextsSame I J k := fun e _ j i q1 q2 q3 q4 => hfr _ _ _ (by unfold Gc Gb; omega)
  refine ⟨hT.congr (fun i _ => fr _ _ _ (by omega)) (fun i _ => fr _ _ _ (by omega)), ⟨n, b0, ?_, ?_, fun i hi => ?_⟩, fun s hs => (hSh s hs).congr hs (fun j i _ _ => fr _ _ _ (by omega)) (fun j i _ _ => fr _ _ _ (by omega)), ⟨m, m8, ⟨?_, ?_, ⟨h9, ?_⟩, ⟨h11, h2⟩, ⟨h10, h3⟩, hz⟩, fun p hp => ?_, fun q hq => ?_, hTK⟩, ?_⟩
  · rw [fr _ _ _ (by omega)]; exact b1
  · rw [fr _ _ _ (by omega)]; exact b2
  · rw [fr 0 2 i (by omega), fr 0 61 i (by omega)]; exact b3 i hi
  · rw [fr _ _ _ (by omega)]; exact c1
  · rw [fr _ _ _ (by omega)]; exact c2
  · exact h1 m m8 c1
  · obtain ⟨g1, g2, g3, g4⟩ := hM p hp
    refine ⟨fun a ha => ?_, ?_, ?_, ?_⟩
    · rw [hS a p ha hp]; exact hX a p ha hp
    · have e : ∀ a, a < 9 → J 0 57 (5 + 9 * p + a) = γ a p := fun a ha => hS a p ha hp
      have g := hok p hp
      unfold manOK at g ⊢
      dsimp only at g ⊢
      rw [e 0 (by omega), e 1 (by omega), e 2 (by omega), e 3 (by omega), e 4 (by omega), e 5 (by omega), e 6 (by omega), e 7 (by omega), e 8 (by omega)]
      exact g
    · rw [fr 0 (3 + 15) p (by omega), fr 0 57 (95 + p) (by omega)]; exact g3
    · rw [fr 0 57 (95 + p) (by omega)]; exact g4
  · exact (hQ q hq).congr (by omega) hTS (fun j _ _ => fr _ _ _ (by omega)) (fun i _ _ => fr _ _ _ (by omega))
  · exact hK.congr2 hTS (fr _ _ _ (by omega)) (fr _ _ _ (by omega)) (fun j i _ _ _ => fr _ _ _ (by omega)) (fun i _ => fr _ _ _ (by omega))
theorem mo_0 {f : Nat → Int32} {v : Int32} (h : manOK f) (hv : rng 1 9 v) : manOK (fun a => if a = 0 then v else f a) := ⟨hv, h.2⟩
theorem mo_1 {f : Nat → Int32} {v : Int32} (h : manOK f) (hv : rng 0 999 v) : manOK (fun a => if a = 1 then v else f a) := ⟨h.1, hv, h.2.2⟩
theorem mo_2 {f : Nat → Int32} {v : Int32} (h : manOK f) (hv : rng 0 99 v) : manOK (fun a => if a = 2 then v else f a) := ⟨h.1, h.2.1, hv, h.2.2.2⟩
theorem mo_3 {f : Nat → Int32} {v : Int32} (h : manOK f) (hv : rng 0 19 v) : manOK (fun a => if a = 3 then v else f a) := ⟨h.1, h.2.1, h.2.2.1, hv, h.2.2.2.2⟩
theorem mo_4 {f : Nat → Int32} {v : Int32} (h : manOK f) (hv : rng 0 1 v) : manOK (fun a => if a = 4 then v else f a) := ⟨h.1, h.2.1, h.2.2.1, h.2.2.2.1, hv, h.2.2.2.2.2⟩
theorem mo_8 {f : Nat → Int32} {v : Int32} (h : manOK f) (hv : rng 0 1 v) : manOK (fun a => if a = 8 then v else f a) := ⟨h.1, h.2.1, h.2.2.1, h.2.2.2.1, h.2.2.2.2.1, h.2.2.2.2.2.1, h.2.2.2.2.2.2.1, h.2.2.2.2.2.2.2.1, hv⟩
/-- one cell of the men -/
def g2 (γ : Nat → Nat → Int32) (a p : Nat) (v : Int32) : Nat → Nat → Int32 := fun a' p' => if a' = a ∧ p' = p then v else γ a' p'
theorem g2_at {γ : Nat → Nat → Int32} {a p a' p' : Nat} {v : Int32} (h : a' = a ∧ p' = p) : g2 γ a p v a' p' = v := if_pos h
theorem g2_ne {γ : Nat → Nat → Int32} {a p a' p' : Nat} {v : Int32} (h : ¬ (a' = a ∧ p' = p)) : g2 γ a p v a' p' = γ a' p' := if_neg h
theorem g2_ok {γ : Nat → Nat → Int32} {a p : Nat} {v : Int32} (h : ∀ q, q < 10 → manOK (fun a => γ a q)) (hp : manOK (fun a' => if a' = a then v else γ a' p)) : ∀ q, q < 10 → manOK (fun a' => g2 γ a p v a' q) := by
  intro q hq
  by_cases e : q = p
  · subst e
    have : (fun a' => g2 γ a q v a' q) = fun a' => if a' = a then v else γ a' q := by
      funext a'
      by_cases h2 : a' = a
      · rw [g2_at ⟨h2, rfl⟩, if_pos h2]
      · rw [g2_ne (fun z => h2 z.1), if_neg h2]
    rw [this]; exact hp
  · have : (fun a' => g2 γ a p v a' q) = fun a' => γ a' q := by
      funext a'
      rw [g2_ne (fun z => e z.2)]
    rw [this]; exact h q hq
/-- the men of the class, at a gaol, and of the reference -/
def MenX (g : Nat) (I : IFn) (γ : Nat → Nat → Int32) : Prop := ∀ a p, a < 9 → p < 10 → I 0 (g + 1 + a) p = γ a p
def MenM (I : IFn) (γ : Nat → Nat → Int32) : Prop := ∀ a p, a < 9 → p < 10 → I 0 57 (5 + 9 * p + a) = γ a p
theorem MenX.set {g a p : Nat} {I : IFn} {γ : Nat → Nat → Int32} (v : Int32) (h : MenX g I γ) : MenX g (uI I 0 (g + 1 + a) p v) (g2 γ a p v) := by
  intro a' p' ha hp
  by_cases e : a' = a ∧ p' = p
  · rw [g2_at e, uI_at (by omega)]
  · rw [g2_ne e, uI_ne (by omega)]; exact h a' p' ha hp
theorem MenM.set {a p : Nat} {I : IFn} {γ : Nat → Nat → Int32} (v : Int32) (ha : a < 9) (h : MenM I γ) : MenM (uI I 0 57 (5 + 9 * p + a) v) (g2 γ a p v) := by
  intro a' p' ha' hp
  by_cases e : a' = a ∧ p' = p
  · rw [g2_at e, uI_at (by omega)]
  · rw [g2_ne e, uI_ne (by omega)]; exact h a' p' ha' hp
theorem MenX.keep {g : Nat} {I J : IFn} {γ : Nat → Nat → Int32} (h : MenX g I γ) (hk : ∀ j p, g < j → j ≤ g + 9 → p < 10 → J 0 j p = I 0 j p) : MenX g J γ := fun a p ha hp => by rw [hk _ _ (by omega) (by omega) hp]; exact h a p ha hp
theorem MenM.keep {I J : IFn} {γ : Nat → Nat → Int32} (h : MenM I γ) (hk : ∀ i, 5 ≤ i → i < 95 → J 0 57 i = I 0 57 i) : MenM J γ := fun a p ha hp => by rw [hk _ (by omega) (by omega)]; exact h a p ha hp
/-- what the relation says of the men -/
theorem Inv.men {I : IFn} {t1 t2 : TFn} {k : Nat} (v : Inv I t1 t2 k) : ∃ γ : Nat → Nat → Int32, MenX 8 I γ ∧ MenM I γ ∧ ∀ p, p < 10 → manOK (fun a => γ a p) := by
  obtain ⟨-, -, -, ⟨m, m8, -, hM, -⟩, -⟩ := v
  refine ⟨fun a p => I 0 57 (5 + 9 * p + a), fun a p ha hp => (hM p hp).1 a ha, fun a p ha hp => rfl, fun p hp => (hM p hp).2.1⟩
/-- and of the rest of a world -/
theorem Inv.head {I : IFn} {t1 t2 : TFn} {k : Nat} (v : Inv I t1 t2 k) : ∃ n : Nat, n ≤ 8 ∧ I 0 57 0 = nI n ∧ I 0 4 3 = nI n ∧ (I 0 8 9 = I 0 57 1 ∧ opt n (I 0 57 1)) ∧ (I 0 8 11 = I 0 57 2 ∧ rng 0 480 (I 0 57 2)) ∧ (I 0 8 10 = I 0 57 3 ∧ rng 0 999 (I 0 57 3)) ∧ I 0 3 3 = I 0 57 4 ∧ (∀ q, q < n → ∃ e, t1 q = some (e + 1, 0)) ∧ ∀ q, q < n → WSum I 3 (I 0 57) t1 k q := by
  obtain ⟨-, -, -, ⟨m, m8, ⟨c1, c2, c3, c4, c5, c6⟩, hM, hQ, -⟩, -⟩ := v
  refine ⟨m, m8, c1, c2, c3, c4, c5, c6, fun q hq => ?_, hQ⟩
  obtain ⟨-, -, -, -, e, -, h, -⟩ := hQ q hq
  exact ⟨e, h⟩
section
variable (d : Nat) (I : IFn) (t1 t2 : TFn) (k : Nat) (sc : Nat × (Nat → Int32))
theorem x_f0 : den (d, 7, 42, 0, [some (vr 0 0), some (vi (-1000001)), none], [], mkH I t1 t2 k sc) = some (some (vi (-1000001)), mkH (uI I 0 47 0 (I 0 47 0 + 1)) t1 t2 k sc) := x_find d I t1 t2 k sc (f := 0) (by omega) (by decide)
theorem m_f0 : den (d, 8, 2, 0, [some (vr 0 56), some (vi (-1000001))], [], mkH I t1 t2 k sc) = some (some (vi (-1000001)), mkH (uI I 0 60 0 (I 0 60 0 + 1)) t1 t2 k sc) := m_find d I t1 t2 k sc (f := 0) (by omega) (by decide)
theorem x_f1 : den (d, 7, 42, 0, [some (vr 0 0), some (vi (-1000002)), none], [], mkH I t1 t2 k sc) = some (some (vi (-1000002)), mkH (uI I 0 47 1 (I 0 47 1 + 1)) t1 t2 k sc) := x_find d I t1 t2 k sc (f := 1) (by omega) (by decide)
theorem m_f1 : den (d, 8, 2, 0, [some (vr 0 56), some (vi (-1000002))], [], mkH I t1 t2 k sc) = some (some (vi (-1000002)), mkH (uI I 0 60 1 (I 0 60 1 + 1)) t1 t2 k sc) := m_find d I t1 t2 k sc (f := 1) (by omega) (by decide)
theorem x_f2 : den (d, 7, 42, 0, [some (vr 0 0), some (vi (-1000003)), none], [], mkH I t1 t2 k sc) = some (some (vi (-1000003)), mkH (uI I 0 47 2 (I 0 47 2 + 1)) t1 t2 k sc) := x_find d I t1 t2 k sc (f := 2) (by omega) (by decide)
theorem m_f2 : den (d, 8, 2, 0, [some (vr 0 56), some (vi (-1000003))], [], mkH I t1 t2 k sc) = some (some (vi (-1000003)), mkH (uI I 0 60 2 (I 0 60 2 + 1)) t1 t2 k sc) := m_find d I t1 t2 k sc (f := 2) (by omega) (by decide)
theorem x_f3 : den (d, 7, 42, 0, [some (vr 0 0), some (vi (-1000004)), none], [], mkH I t1 t2 k sc) = some (some (vi (-1000004)), mkH (uI I 0 47 3 (I 0 47 3 + 1)) t1 t2 k sc) := x_find d I t1 t2 k sc (f := 3) (by omega) (by decide)
theorem m_f3 : den (d, 8, 2, 0, [some (vr 0 56), some (vi (-1000004))], [], mkH I t1 t2 k sc) = some (some (vi (-1000004)), mkH (uI I 0 60 3 (I 0 60 3 + 1)) t1 t2 k sc) := m_find d I t1 t2 k sc (f := 3) (by omega) (by decide)
theorem x_f4 : den (d, 7, 42, 0, [some (vr 0 0), some (vi (-1000005)), none], [], mkH I t1 t2 k sc) = some (some (vi (-1000005)), mkH (uI I 0 47 4 (I 0 47 4 + 1)) t1 t2 k sc) := x_find d I t1 t2 k sc (f := 4) (by omega) (by decide)
theorem m_f4 : den (d, 8, 2, 0, [some (vr 0 56), some (vi (-1000005))], [], mkH I t1 t2 k sc) = some (some (vi (-1000005)), mkH (uI I 0 60 4 (I 0 60 4 + 1)) t1 t2 k sc) := m_find d I t1 t2 k sc (f := 4) (by omega) (by decide)
theorem x_f5 : den (d, 7, 42, 0, [some (vr 0 0), some (vi (-1000006)), none], [], mkH I t1 t2 k sc) = some (some (vi (-1000006)), mkH (uI I 0 47 5 (I 0 47 5 + 1)) t1 t2 k sc) := x_find d I t1 t2 k sc (f := 5) (by omega) (by decide)
theorem m_f5 : den (d, 8, 2, 0, [some (vr 0 56), some (vi (-1000006))], [], mkH I t1 t2 k sc) = some (some (vi (-1000006)), mkH (uI I 0 60 5 (I 0 60 5 + 1)) t1 t2 k sc) := m_find d I t1 t2 k sc (f := 5) (by omega) (by decide)
theorem x_f6 : den (d, 7, 42, 0, [some (vr 0 0), some (vi (-1000007)), none], [], mkH I t1 t2 k sc) = some (some (vi (-1000007)), mkH (uI I 0 47 6 (I 0 47 6 + 1)) t1 t2 k sc) := x_find d I t1 t2 k sc (f := 6) (by omega) (by decide)
theorem m_f6 : den (d, 8, 2, 0, [some (vr 0 56), some (vi (-1000007))], [], mkH I t1 t2 k sc) = some (some (vi (-1000007)), mkH (uI I 0 60 6 (I 0 60 6 + 1)) t1 t2 k sc) := m_find d I t1 t2 k sc (f := 6) (by omega) (by decide)
theorem x_isKind (x : Int32) : den (d + 1, 7, 44, 0, [some (vi x)], [], mkH I t1 t2 k sc) = some (some (vi (Bo (0 ≤ x.toInt ∧ x.toInt ≤ 6))), mkH I t1 t2 k sc) := by
  simp (disch := omega) only [bnd, bnd0, ↓cdec, ↓cnot, ↓reduceIte, Bo_0, Bo_1, ↓Bo_ok, i10, i01, eq_self, decide_true, decide_false, Bool.or_true, Bool.true_or, Bool.or_false, Bool.false_or, cond_true, cond_false, not_true_eq_false, not_false_eq_true, and_self, and_true, true_and, and_false, false_and, nI_clamp, ↓inbc, inb_n, nI_pos, nI_1, b7_44_0, b7_44_11, x_within, k32_0, k71]
theorem x_isNumber (x : Int32) : den (d + 1, 7, 45, 0, [some (vi x)], [], mkH I t1 t2 k sc) = some (some (vi (Bo (0 ≤ x.toInt ∧ x.toInt ≤ 99))), mkH I t1 t2 k sc) := by
  simp (disch := omega) only [bnd, bnd0, ↓cdec, ↓cnot, ↓reduceIte, Bo_0, Bo_1, ↓Bo_ok, i10, i01, eq_self, decide_true, decide_false, Bool.or_true, Bool.true_or, Bool.or_false, Bool.false_or, cond_true, cond_false, not_true_eq_false, not_false_eq_true, and_self, and_true, true_and, and_false, false_and, nI_clamp, ↓inbc, inb_n, nI_pos, nI_1, b7_45_0, b7_45_7, x_within, k32_0, k32_99]
theorem x_isSheet (x : Int32) : den (d + 1, 7, 49, 0, [some (vr 0 0), some (vi x)], [], mkH I t1 t2 k sc) = some (some (vi (Bo (0 ≤ x.toInt ∧ x.toInt ≤ 3))), mkH I t1 t2 k sc) := by
  by_cases h : 0 ≤ x.toInt ∧ x.toInt ≤ 3
  · obtain ⟨n, hn, rfl⟩ := nat_of (x := x) (m := 4) h.1 (by omega) (by omega)
    have hr : rR (mkH I t1 t2 k sc) 0 45 n = some (0, 48 + 2 * n) := by
      match n, hn with
      | 0, _ => rfl
      | 1, _ => rfl
      | 2, _ => rfl
      | 3, _ => rfl
      | n + 4, h => omega
    rw [Bo_t h]
    simp (disch := omega) only [bnd, bnd0, ↓cdec, ↓cnot, ↓reduceIte, Bo_0, Bo_1, ↓Bo_ok, i10, i01, eq_self, decide_true, decide_false, Bool.or_true, Bool.true_or, Bool.or_false, Bool.false_or, cond_true, cond_false, not_true_eq_false, not_false_eq_true, and_self, and_true, true_and, and_false, false_and, nI_clamp, ↓inbc, inb_n, nI_pos, nI_1, b7_49_0, b7_49_6, b7_49_9, b7_49_15, b7_49_18, b7_49_23, x_within, k32_0, k32_3, h, hr]
  · rw [Bo_f h]
    simp (disch := omega) only [bnd, bnd0, ↓cdec, ↓cnot, ↓reduceIte, Bo_0, Bo_1, ↓Bo_ok, i10, i01, eq_self, decide_true, decide_false, Bool.or_true, Bool.true_or, Bool.or_false, Bool.false_or, cond_true, cond_false, not_true_eq_false, not_false_eq_true, and_self, and_true, true_and, and_false, false_and, nI_clamp, ↓inbc, inb_n, nI_pos, nI_1, b7_49_0, b7_49_6, b7_49_22, b7_49_23, x_within, k32_0, k32_3, h]
theorem m_isOne (x : Int32) : den (d + 1, 8, 69, 0, [some (vi x)], [], mkH I t1 t2 k sc) = some (some (vi (Bo (0 ≤ x.toInt ∧ x.toInt ≤ 3))), mkH I t1 t2 k sc) := by
  simp (disch := omega) only [bnd, bnd0, ↓cdec, ↓cnot, ↓reduceIte, Bo_0, Bo_1, ↓Bo_ok, i10, i01, eq_self, decide_true, decide_false, Bool.or_true, Bool.true_or, Bool.or_false, Bool.false_or, cond_true, cond_false, not_true_eq_false, not_false_eq_true, and_self, and_true, true_and, and_false, false_and, nI_clamp, ↓inbc, inb_n, nI_pos, nI_1, b8_69_0, b8_69_9, m_in32, k64_0, k64_3]
end
