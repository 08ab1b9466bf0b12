/-! what the relation reads, and what it does not -/
theorem textOK.congr {I J : IFn} {e : Nat} {C : Nat → Int32} (h : ∀ j i, j ≤ 8 → j ≠ 5 → j ≠ 8 → ¬ ((j = 3 ∨ j = 6) ∧ i = 3) → J (e + 1) j i = I (e + 1) j i) (w : textOK I e C) : textOK J e C := by
  obtain ⟨n1, n2, h0, h1, h2, h3, h4, h5, h6, h7, h8, h9, h10, h11⟩ := w
  refine ⟨n1, n2, h0, ?_, h2, h3, h4, ?_, ?_, fun i hi => ?_, fun i hi => ?_, h9, h10, fun x hx => ?_⟩
  · rw [h 0 4 (by omega) (by omega) (by omega) (by omega)]; exact h1
  · rw [h 3 1 (by omega) (by omega) (by omega) (by omega)]; exact h5
  · rw [h 6 1 (by omega) (by omega) (by omega) (by omega)]; exact h6
  · rw [h 4 i (by omega) (by omega) (by omega) (by omega)]; exact h7 i hi
  · rw [h 7 i (by omega) (by omega) (by omega) (by omega)]; exact h8 i hi
  · rw [h 1 x (by omega) (by omega) (by omega) (by omega), h 2 x (by omega) (by omega) (by omega) (by omega)]; exact h11 x hx
/-- texts are left as they are, but for their piles -/
def TextsSame (I J : IFn) (k : Nat) : Prop := ∀ e, e < k → ∀ j i, j ≤ 8 → j ≠ 5 → j ≠ 8 → ¬ ((j = 3 ∨ j = 6) ∧ i = 3) → J (e + 1) j i = I (e + 1) j i
theorem sumOK.congr {I J : IFn} {t : Option (Nat × Nat)} {k : Nat} {kind m : Int32} {C : Nat → Int32} (h : TextsSame I J k) (w : sumOK I t k kind m C) : sumOK J t k kind m C := by
  obtain ⟨h1, h2, h3, h4, e, he, ht, hx⟩ := w
  exact ⟨h1, h2, h3, h4, e, he, ht, hx.congr (h e he)⟩
theorem WHd.congr {I J : IFn} {w n : Nat} {S S' : Nat → Int32} (hj : ∀ j i, w ≤ j → j ≤ w + 15 → ¬ (j = w + 5 ∧ i = 12) → J 0 j i = I 0 j i) (hS : ∀ i, i < 465 → S' i = S i) (r : WHd I w S n) : WHd J w S' n := by
  obtain ⟨h1, h2, h3, h4, h5, h6⟩ := r
  unfold WHd
  rw [hS 0 (by omega), hS 1 (by omega), hS 2 (by omega), hS 3 (by omega), hS 4 (by omega), hj (w + 1) 3 (by omega) (by omega) (by omega), hj (w + 5) 9 (by omega) (by omega) (by omega), hj (w + 5) 10 (by omega) (by omega) (by omega), hj (w + 5) 11 (by omega) (by omega) (by omega), hj w 3 (by omega) (by omega) (by omega)]
  exact ⟨h1, h2, h3, h4, h5, h6⟩
theorem WMan.congr {I J : IFn} {w n p : Nat} {S S' : Nat → Int32} (hp : p < 10) (hj : ∀ j, w + 6 ≤ j → j ≤ w + 15 → J 0 j p = I 0 j p) (hS : ∀ i, 5 ≤ i → i < 105 → S' i = S i) (r : WMan I w S n p) : WMan J w S' n p := by
  obtain ⟨g1, g2, g3, g4⟩ := r
  refine ⟨fun a ha => ?_, ?_, ?_, ?_⟩
  · rw [hj (w + 6 + a) (by omega) (by omega), hS (5 + 9 * p + a) (by omega) (by omega)]; exact g1 a ha
  · have e : ∀ a, a < 9 → S' (5 + 9 * p + a) = S (5 + 9 * p + a) := fun a ha => hS _ (by omega) (by omega)
    unfold manOK
    dsimp only
    rw [e 0 (by omega), e 1 (by omega), e 2 (by omega), e 3 (by omega), e 4 (by omega), e 5 (by omega), e 6 (by omega), e 7 (by omega), e 8 (by omega)]
    exact g2
  · rw [hj (w + 15) (by omega) (by omega), hS (95 + p) (by omega) (by omega)]; exact g3
  · rw [hS (95 + p) (by omega) (by omega)]; exact g4
theorem WSum.congr {I J : IFn} {w k q : Nat} {S S' : Nat → Int32} {t : TFn} (hq : q < 8) (hT : TextsSame I J k) (hj : ∀ j, w + 3 ≤ j → j ≤ w + 4 → J 0 j q = I 0 j q) (hS : ∀ i, 105 ≤ i → i < 465 → S' i = S i) (g : WSum I w S t k q) : WSum J w S' t k q := by
  unfold WSum
  rw [hj (w + 3) (by omega) (by omega), hj (w + 4) (by omega) (by omega)]
  obtain ⟨a1, a2, a3, a4, e, he, ht, n1, n2, b0, b1, b2, b3, b4, b5, b6, b7, b8, b9, b10, b11⟩ := g
  have es : ∀ a, a < 45 → S' (105 + 45 * q + a) = S (105 + 45 * q + a) := fun a ha => hS _ (by omega) (by omega)
  have rp : ∀ (C C' : Nat → Int32) (x : Int32) (m i : Nat) (st : List Int32), (∀ a, i ≤ a → a < i + m → C' a = C a) → rpn C' x i m st = rpn C x i m st := by
    intro C C' x m
    induction m with
    | zero => intro i st _; rfl
    | succ m ih =>
      intro i st hc
      have h1 := hc i (Nat.le_refl _) (by omega)
      have h2 := fun st => ih (i + 1) st (fun a u v => hc a (by omega) (by omega))
      simp only [rpn, h1, h2]
  refine ⟨?_, ?_, ?_, ?_, e, he, ht, textOK.congr (hT e he) ⟨n1, n2, b0, ?_, ?_, ?_, ?_, b5, b6, fun i hi => ?_, fun i hi => ?_, ?_, ?_, fun x hx => ?_⟩⟩
  · show _ = S' (105 + 45 * q + 0); rw [es 0 (by omega)]; exact a1
  · show rng 0 6 (S' (105 + 45 * q + 0)); rw [es 0 (by omega)]; exact a2
  · show _ = S' (105 + 45 * q + 1); rw [es 1 (by omega)]; exact a3
  · show rng 1 99 (S' (105 + 45 * q + 1)); rw [es 1 (by omega)]; exact a4
  · show _ = S' (105 + 45 * q + (2 + 0)); rw [es (2 + 0) (by omega)]; exact b1
  · show rng 2 39 (S' (105 + 45 * q + (2 + 0))); rw [es (2 + 0) (by omega)]; exact b2
  · show S' (105 + 45 * q + (2 + 1)) = _; rw [es (2 + 1) (by omega)]; exact b3
  · show S' (105 + 45 * q + (2 + 2)) = _; rw [es (2 + 2) (by omega)]; exact b4
  · show stepRel _ (S' (105 + 45 * q + (2 + (3 + i)))); rw [es (2 + (3 + i)) (by omega)]; exact b7 i hi
  · show stepRel _ (S' (105 + 45 * q + (2 + (3 + n1 + i)))); rw [es (2 + (3 + n1 + i)) (by omega)]; exact b8 i hi
  · exact ⟨b9.1, b9.2.1, fun x => by rw [rp (fun i => S (105 + 45 * q + (2 + (3 + i)))) _ x n1 0 [] (fun a _ ha => es _ (by omega))]; exact b9.2.2 x⟩
  · exact ⟨b10.1, b10.2.1, fun x => by rw [rp (fun i => S (105 + 45 * q + (2 + (3 + n1 + i)))) _ x n2 0 [] (fun a _ ha => es _ (by omega))]; exact b10.2.2 x⟩
  · unfold sideVal
    rw [rp (fun i => S (105 + 45 * q + (2 + (3 + i)))) _ (nI x) n1 0 [] (fun a _ ha => es _ (by omega)), rp (fun i => S (105 + 45 * q + (2 + (3 + n1 + i)))) _ (nI x) n2 0 [] (fun a _ ha => es _ (by omega))]
    exact b11 x hx
theorem WRel.congr {I J : IFn} {w : Nat} {S S' : Nat → Int32} {t : TFn} {k : Nat} (hT : TextsSame I J k) (hj : ∀ j i, w ≤ j → j ≤ w + 15 → ¬ (j = w + 5 ∧ i = 12) → J 0 j i = I 0 j i) (hS : ∀ i, i < 465 → S' i = S i) (r : WRel I w S t k) : WRel J w S' t k := by
  obtain ⟨n, h0, h1, h2, h3, hTK⟩ := r
  exact ⟨n, h0, h1.congr hj hS, fun p hp => (h2 p hp).congr hp (fun j q1 q2 => hj j p (by omega) (by omega) (by omega)) (fun i _ q => hS i (by omega)), fun q hq => (h3 q hq).congr (by omega) hT (fun j q1 q2 => hj j q (by omega) (by omega) (by omega)) (fun i _ q => hS i q), hTK⟩
/-- a change that the relation doesn't see -/
theorem Inv.congr {I J : IFn} {t1 t2 : TFn} {k : Nat} (hT : TextsSame I J k) (h0 : J 0 0 7 = I 0 0 7) (hj : ∀ j i, 1 ≤ j → j ≤ 34 → ¬ ((j = 8 ∨ j = 24) ∧ i = 12) → ¬ (j = 1 ∧ i ≠ 1) → J 0 j i = I 0 j i) (h47 : ∀ i, i < 7 → J 0 47 i = I 0 47 i) (hs : ∀ j i, 48 ≤ j → j ≤ 55 → J 0 j i = I 0 j i) (h56 : J 0 56 4 = I 0 56 4) (h568 : J 0 56 8 = I 0 56 8) (h57 : ∀ i, i < 465 → J 0 57 i = I 0 57 i) (h58 : ∀ i, i < 465 → J 0 58 i = I 0 58 i) (h60 : ∀ i, i < 7 → J 0 60 i = I 0 60 i) (h61 : ∀ i, i < 40 → J 0 61 i = I 0 61 i) (h67 : ∀ j i, 67 ≤ j → j ≤ 69 → J 0 j i = I 0 j i) (v : Inv I t1 t2 k) : Inv J t1 t2 k := by
  obtain ⟨a, ⟨n, b0, b1, b2, b3⟩, c, w, z⟩ := v
  refine ⟨fun f hf => by rw [h47 f hf, h60 f hf]; exact a f hf, ⟨n, b0, by rw [hj 1 1 (by omega) (by omega) (by omega) (by omega)]; exact b1, by rw [h568]; exact b2, fun i hi => ?_⟩, fun s hs4 => ?_, w.congr hT (fun j i q1 q2 q3 => hj j i (by omega) (by omega) (by omega) (by omega)) h57, ?_⟩
  · rw [hj 2 i (by omega) (by omega) (by omega) (by omega), h61 i (by omega)]
    exact b3 i hi
  · obtain ⟨b, m, e0, e1, e2, e3, e4, e5, e6⟩ := c s hs4
    refine ⟨b, m, e0, e1, ?_, ?_, ?_, ?_, fun i hi => ?_⟩
    · rw [hs _ _ (by omega) (by omega)]; exact e2
    · rw [h67 _ _ (by omega) (by omega)]; exact e3
    · rw [hs _ _ (by omega) (by omega)]; exact e4
    · rw [h67 _ _ (by omega) (by omega)]; exact e5
    · rw [hs _ _ (by omega) (by omega), h67 _ _ (by omega) (by omega)]; exact e6 i hi
  · rcases z with ⟨z1, z2⟩ | ⟨z1, z2, z3⟩
    · exact Or.inl ⟨by rw [h0]; exact z1, by rw [h56]; exact z2⟩
    · exact Or.inr ⟨by rw [h0]; exact z1, by rw [h56]; exact z2, z3.congr hT (fun j i q1 q2 q3 => hj j i (by omega) (by omega) (by omega) (by omega)) h58⟩
