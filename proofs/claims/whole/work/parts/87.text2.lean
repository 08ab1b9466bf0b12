/-! Text's constructor, whole -/
section
variable (d : Nat) (I : IFn) (t1 t2 : TFn) (k : Nat) (sc : Nat × (Nat → Int32))
theorem x_text {n a g1 g2 : Nat} {l1 d1 l2 d2 : List Int32} (B : Nat → Nat) (hn : n ≤ 40) (h11 : I 0 1 1 = nI n) (hB : ∀ i, i < n → I 0 2 i = nI (B i) ∧ B i < 256) (ha : a < n) (hBa : B a = 61) (hlo : ∀ j, j < a → ¬ B j = 61) (hhi : ∀ j, a < j → j < n → ¬ B j = 61)
    (hr1 : rdP B 0 a (true, 0, 0, false, [], [], 0) = .inr (false, g1, 0, false, l1, d1, 0))
    (hr2 : rdP B (a + 1) (n - a - 1) (true, 0, 0, true, [], [], (popW 1 l1 d1).2.length) = .inr (false, g2, 0, true, l2, d2, (popW 1 l1 d1).2.length))
    (hh1 : hgt (popW 1 l1 d1).2 1) (hh2 : hgt (popW 1 l2 d2).2 1) (hl1 : (popW 1 l1 d1).2.length ≤ a) (hl2 : (popW 1 l2 d2).2.length ≤ n - a - 1) :
    ∃ K, den (d + 4, 5, 0, 0, [some (vr (k + 1) 0), some (vr 0 1), none, none, none, none], [], (zT I (k + 1) 0, nT (RF t1 t2) (k + 1) 0, (k + 1, 1), sc)) = some (none, mkH K t1 t2 (k + 1) sc) ∧ (∀ g j i, ¬ g = k + 1 → K g j i = I g j i) ∧ K (k + 1) 0 4 = nI (mkF B 0 n) ∧ K (k + 1) 3 1 = nI (popW 1 l1 d1).2.length ∧ K (k + 1) 6 1 = nI (popW 1 l2 d2).2.length ∧ stkS (K (k + 1) 4) (popW 1 l1 d1).2 ∧ stkS (K (k + 1) 7) (popW 1 l2 d2).2 ∧ ∀ x, x < 100 → K (k + 1) 1 x = sideVal (cOf (popW 1 l1 d1).2) (popW 1 l1 d1).2.length (nI x) ∧ K (k + 1) 2 x = sideVal (cOf (popW 1 l2 d2).2) (popW 1 l2 d2).2.length (nI x) := by
  have A1 := (q5_0 (d + 3) (zT I (k + 1) 0) (nT (RF t1 t2) (k + 1) 0) k sc).trans (q5_12 (d + 3) _ _ k sc)
  rw [R_text] at A1
  generalize hI2 : zT (zT (zT I (k + 1) 0) (k + 1) 1) (k + 1) 2 = I2 at A1
  have f2 : ∀ g j i, ¬ g = k + 1 → I2 g j i = I g j i := fun g j i h => by rw [← hI2, zT_ne (by omega), zT_ne (by omega), zT_ne (by omega)]
  obtain ⟨y, A2⟩ := t_loop (d + 3) I2 t1 t2 k none none (k + 1, 3) sc (e := k) B hn (by rw [f2 _ _ _ (by omega)]; exact h11) (fun i hi => by rw [f2 _ _ _ (by omega)]; exact hB i hi) ha hBa hlo hhi
  have A3 := (q5_97 (d + 3) I2 (RT t1 t2 k none none) k sc (k + 1, 3) (nI a) (nI (mkF B 0 n)) (nI n) y).trans (q5_102 (d + 3) _ _ k sc _ _ _ _)
  generalize hI4 : zT (uI I2 (k + 1) 0 4 (nI (mkF B 0 n))) (k + 1) 3 = I4 at A3
  have f4 : ∀ g j i, ¬ g = k + 1 → I4 g j i = I g j i := fun g j i h => by rw [← hI4, zT_ne (by omega), uI_ne (by omega)]; exact f2 _ _ _ h
  have m4 : I4 (k + 1) 0 4 = nI (mkF B 0 n) := by rw [← hI4, zT_ne (by omega), uI_at (by omega)]
  have hr4 : nT (RT t1 t2 k none none) (k + 1) 3 0 1 0 = some (0, 2) := by rw [nT_ne (by omega), RT_ne (by omega)]; rfl
  have A4 := q5_107 (d + 3) I4 (nT (RT t1 t2 k none none) (k + 1) 3) k sc (k + 1, 4) (nI a) (nI (mkF B 0 n)) (nI n) y hr4
  have A5 := (q2_3a (d + 2) I4 (nT (RT t1 t2 k none none) (k + 1) 3) k sc 0 (nI a)).trans (q2_3b (d + 2) _ _ k sc 0 (nI a))
  rw [R_side3] at A5
  generalize hI5 : uI (zT (uI (zT I4 (k + 1) 4) (k + 1) 3 1 0) (k + 1) 5) (k + 1) 3 3 0 = I5 at A5
  have f5 : ∀ g j i, ¬ g = k + 1 → I5 g j i = I g j i := fun g j i h => by rw [← hI5, uI_ne (by omega), zT_ne (by omega), uI_ne (by omega), zT_ne (by omega)]; exact f4 _ _ _ h
  have m5 : I5 (k + 1) 0 4 = nI (mkF B 0 n) := by rw [← hI5, uI_ne (by omega), zT_ne (by omega), uI_ne (by omega), zT_ne (by omega)]; exact m4
  obtain ⟨K1, F1, A6, n1, s1⟩ := s_init d I5 t1 t2 k none none (k + 1, 6) sc (e := k) (q := 3) (fr := 0) (en := a) B (Or.inl rfl) (by omega) (by omega) (fun i hi => by rw [f5 _ _ _ (by omega)]; exact hB i (by omega)) hr1 (fun j _ hj => hlo j hj) (by rw [← hI5, uI_ne (by omega), zT_ne (by omega), uI_at (by omega)]) (by rw [← hI5, uI_at (by omega)]) rfl
  have A7 : den (d + 3 + 1, 5, 0, 107, [some (vr (k + 1) 0), some (vr 0 1), some (vi (nI a)), some (vi (nI (mkF B 0 n))), some (vi (nI n)), some (vi y)], [vr (k + 1) 3, vr (k + 1) 3, vr (k + 1) 0], (I4, nT (RT t1 t2 k none none) (k + 1) 3, (k + 1, 4), sc)) = den (d + 3 + 1, 5, 0, 116, [some (vr (k + 1) 0), some (vr 0 1), some (vi (nI a)), some (vi (nI (mkF B 0 n))), some (vi (nI n)), some (vi y)], [vr (k + 1) 3, vr (k + 1) 0], (K1, RT t1 t2 k none none, (k + 1, 6), sc)) := A4.trans ((congrArg (fun z => Option.bind z _) (A5.trans A6)).trans rfl)
  have A8 := q5_116 (d + 3) K1 (RT t1 t2 k none none) k sc (k + 1, 6) (nI a) (nI (mkF B 0 n)) (nI n) y
  rw [R_left] at A8
  have A9 := q5_119 (d + 3) K1 (RT t1 t2 k (some (k + 1, 3)) none) k sc (nI a) (nI (mkF B 0 n)) (nI n) y
  have fk1 : ∀ g j i, ¬ g = k + 1 → K1 g j i = I g j i := fun g j i h => by rw [F1 _ _ _ (by omega)]; exact f5 _ _ _ h
  have mk1 : K1 (k + 1) 0 4 = nI (mkF B 0 n) := by rw [F1 _ _ _ (by omega)]; exact m5
  generalize hI6 : zT K1 (k + 1) 6 = I6 at A9
  have f6 : ∀ g j i, ¬ g = k + 1 → I6 g j i = I g j i := fun g j i h => by rw [← hI6, zT_ne (by omega)]; exact fk1 _ _ _ h
  have o6 : ∀ j i, ¬ j = 6 → I6 (k + 1) j i = K1 (k + 1) j i := fun j i h => by rw [← hI6, zT_ne (by omega)]
  have hr6 : nT (RT t1 t2 k (some (k + 1, 3)) none) (k + 1) 6 0 1 0 = some (0, 2) := by rw [nT_ne (by omega), RT_ne (by omega)]; rfl
  have A10 := q5_124 (d + 3) I6 (nT (RT t1 t2 k (some (k + 1, 3)) none) (k + 1) 6) k sc (k + 1, 7) (nI a) (nI (mkF B 0 n)) (nI n) y hr6
  have i611 : I6 0 1 1 = nI n := by rw [f6 _ _ _ (by omega)]; exact h11
  rw [i611, nI_1] at A10
  have A11 := (q2_6a (d + 2) I6 (nT (RT t1 t2 k (some (k + 1, 3)) none) (k + 1) 6) k sc (nI (a + 1)) (nI n)).trans (q2_6b (d + 2) _ _ k sc (nI (a + 1)) (nI n))
  rw [R_side6] at A11
  generalize hI7 : uI (zT (uI (zT I6 (k + 1) 7) (k + 1) 6 1 0) (k + 1) 8) (k + 1) 6 3 0 = I7 at A11
  have f7 : ∀ g j i, ¬ g = k + 1 → I7 g j i = I g j i := fun g j i h => by rw [← hI7, uI_ne (by omega), zT_ne (by omega), uI_ne (by omega), zT_ne (by omega)]; exact f6 _ _ _ h
  have o7 : ∀ j i, j < 6 → I7 (k + 1) j i = K1 (k + 1) j i := fun j i h => by rw [← hI7, uI_ne (by omega), zT_ne (by omega), uI_ne (by omega), zT_ne (by omega)]; exact o6 _ _ (by omega)
  obtain ⟨K2, F2, A12, n2, s2⟩ := s_init d I7 t1 t2 k (some (k + 1, 3)) none (k + 2, 0) sc (e := k) (q := 6) (fr := a + 1) (en := n) B (Or.inr rfl) (by omega) hn (fun i hi => by rw [f7 _ _ _ (by omega)]; exact hB i (by omega)) (by rw [show n - (a + 1) = n - a - 1 by omega]; exact hr2) (fun j h1 h2 => hhi j (by omega) h2) (by rw [← hI7, uI_ne (by omega), zT_ne (by omega), uI_at (by omega)]) (by rw [← hI7, uI_at (by omega)]) rfl
  have A13 : den (d + 3 + 1, 5, 0, 124, [some (vr (k + 1) 0), some (vr 0 1), some (vi (nI a)), some (vi (nI (mkF B 0 n))), some (vi (nI n)), some (vi y)], [vr (k + 1) 6, vr (k + 1) 6, vr (k + 1) 0], (I6, nT (RT t1 t2 k (some (k + 1, 3)) none) (k + 1) 6, (k + 1, 7), sc)) = den (d + 3 + 1, 5, 0, 138, [some (vr (k + 1) 0), some (vr 0 1), some (vi (nI a)), some (vi (nI (mkF B 0 n))), some (vi (nI n)), some (vi y)], [vr (k + 1) 6, vr (k + 1) 0], (K2, RT t1 t2 k (some (k + 1, 3)) none, (k + 2, 0), sc)) := A10.trans ((congrArg (fun z => Option.bind z _) (A11.trans A12)).trans rfl)
  have A14 := q5_138 (d + 3) K2 (RT t1 t2 k (some (k + 1, 3)) none) k sc (k + 2, 0) (nI a) (nI (mkF B 0 n)) (nI n) y
  rw [R_right] at A14
  have fk2 : ∀ g j i, ¬ g = k + 1 → K2 g j i = I g j i := fun g j i h => by rw [F2 _ _ _ (by omega)]; exact f7 _ _ _ h
  have o2 : ∀ j i, j < 6 → K2 (k + 1) j i = K1 (k + 1) j i := fun j i h => by rw [F2 _ _ _ (by omega)]; exact o7 _ _ h
  have w1 : stkS (K2 (k + 1) 4) (popW 1 l1 d1).2 := s1.keep (fun j hj => o2 4 j (by omega))
  obtain ⟨K3, F3, A15, v3⟩ := t_worth (d + 2) K2 t1 t2 (k + 1) sc (e := k) (nI a) (nI (mkF B 0 n)) (nI n) y (by rw [o2 _ _ (by omega)]; exact n1) n2 w1 s2 (side_ok (cOf_ok _) hh1 (by omega)) (side_ok (cOf_ok _) hh2 (by omega))
  refine ⟨K3, ?_, fun g j i h => by rw [F3 _ _ _ (by omega)]; exact fk2 _ _ _ h, ?_, ?_, ?_, ?_, ?_, v3⟩
  · exact A1.trans (A2.trans (A3.trans (A7.trans (A8.trans (A9.trans (A13.trans (A14.trans A15)))))))
  · rw [F3 _ _ _ (by omega), o2 _ _ (by omega)]; exact mk1
  · rw [F3 _ _ _ (by omega), o2 _ _ (by omega)]; exact n1
  · rw [F3 _ _ _ (by omega)]; exact n2
  · exact w1.keep (fun j hj => F3 _ _ _ (by omega))
  · exact s2.keep (fun j hj => F3 _ _ _ (by omega))
end
