/-! images: become, image, undo -/
def tS (t : TFn) (i : Nat) (v : Option (Nat × Nat)) : TFn := fun j => if j = i then v else t j
theorem tS_at {t : TFn} {i j : Nat} {v : Option (Nat × Nat)} (h : j = i) : tS t i v j = v := if_pos h
theorem tS_ne {t : TFn} {i j : Nat} {v : Option (Nat × Nat)} (h : ¬ j = i) : tS t i v j = t j := if_neg h
section
variable (d : Nat) (I : IFn) (t1 t2 : TFn) (k : Nat) (sc : Nat × (Nat → Int32))
theorem wR21 (i : Nat) (v : Option (Nat × Nat)) : wR (mkH I t1 t2 k sc) 0 21 i v = mkH I t1 (tS t2 i v) k sc := by
  have : (fun g' j' i' => if g' = 0 ∧ j' = 21 ∧ i' = i then v else RF t1 t2 g' j' i') = RF t1 (tS t2 i v) := by
    funext g' j' i'
    cases g' with
    | succ g' => rw [if_neg (by omega)]; rfl
    | zero =>
      by_cases h : j' = 21
      · subst h
        by_cases hi : i' = i
        · subst hi
          rw [if_pos ⟨rfl, rfl, rfl⟩]
          show v = tS t2 i' v i'
          rw [tS_at rfl]
        · rw [if_neg (fun z => hi z.2.2)]
          show t2 i' = tS t2 i v i'
          rw [tS_ne hi]
      · rw [if_neg (fun z => h z.2.1)]
        have hb : Nat.beq j' 21 = false := Bool.eq_false_iff.mpr (fun z => h (Nat.eq_of_beq_eq_true z))
        simp only [RF, hb, cond_false]
  exact congrArg (fun R => ((I, R, (k + 1, 0), sc) : AH)) this
theorem wR5 (i : Nat) (v : Option (Nat × Nat)) : wR (mkH I t1 t2 k sc) 0 5 i v = mkH I (tS t1 i v) t2 k sc := by
  have : (fun g' j' i' => if g' = 0 ∧ j' = 5 ∧ i' = i then v else RF t1 t2 g' j' i') = RF (tS t1 i v) t2 := by
    funext g' j' i'
    cases g' with
    | succ g' => rw [if_neg (by omega)]; rfl
    | zero =>
      by_cases h : j' = 5
      · subst h
        by_cases hi : i' = i
        · subst hi
          rw [if_pos ⟨rfl, rfl, rfl⟩]
          show v = tS t1 i' v i'
          rw [tS_at rfl]
        · rw [if_neg (fun z => hi z.2.2)]
          show t1 i' = tS t1 i v i'
          rw [tS_ne hi]
      · rw [if_neg (fun z => h z.2.1)]
        have hb : Nat.beq j' 5 = false := Bool.eq_false_iff.mpr (fun z => h (Nat.eq_of_beq_eq_true z))
        simp only [RF, hb, cond_false]
  exact congrArg (fun R => ((I, R, (k + 1, 0), sc) : AH)) this
end
theorem lpT {α : Type} (X : Nat → IFn → TFn → α) (P : Nat → IFn → TFn → Prop) {N : Nat} (h : ∀ p I u, p < N → P p I u → ∃ J v, X p I u = X (p + 1) J v ∧ P (p + 1) J v) : ∀ p I u, p ≤ N → P p I u → ∃ J v, X p I u = X N J v ∧ P N J v := by
  intro p I u hp hP
  induction hn : N - p generalizing p I u with
  | zero => rw [show p = N by omega] at hP ⊢; exact ⟨I, u, rfl, hP⟩
  | succ m ih =>
    obtain ⟨J, v, e, hJ⟩ := h p I u (by omega) hP
    obtain ⟨K, w, e2, hK⟩ := ih (p + 1) J v (by omega) hJ (by omega)
    exact ⟨K, w, e.trans e2, hK⟩
section
variable (d : Nat) (I : IFn) (t1 t2 : TFn) (k : Nat) (sc : Nat × (Nat → Int32))
set_option maxRecDepth 20000 in
theorem sb20_0 : den (d, 3, 3, 0, [some (vr 0 20), some (vr 0 4), none], [], mkH I t1 t2 k sc) = den (d, 3, 3, 2, [some (vr 0 20), some (vr 0 4), some (vi 0)], [], mkH I t1 t2 k sc) := (S_go rfl).trans ((S_go rfl).trans (rfl))
set_option maxRecDepth 20000 in
theorem sb20_2 (x : Int32) : den (d, 3, 3, 2, [some (vr 0 20), some (vr 0 4), some (vi x)], [], mkH I t1 t2 k sc) = bif decide (x < 8) then den (d, 3, 3, 11, [some (vr 0 20), some (vr 0 4), some (vi x)], [], mkH I t1 t2 k sc) else den (d, 3, 3, 53, [some (vr 0 20), some (vr 0 4), some (vi x)], [], mkH I t1 t2 k sc) := (S_go rfl).trans ((S_go rfl).trans ((S_go rfl).trans ((S_go rfl).trans ((S_br rfl).trans rfl))))
set_option maxRecDepth 20000 in
theorem sb20_11 {x : Int32} (hx : inb x 8 = true) : den (d, 3, 3, 11, [some (vr 0 20), some (vr 0 4), some (vi x)], [], mkH I t1 t2 k sc) = den (d, 3, 3, 22, [some (vr 0 20), some (vr 0 4), some (vi x)], [.inr (.inr (rR (mkH I t1 t2 k sc) 0 5 x.toNatClampNeg)), vi x, vr 0 21], mkH I t1 t2 k sc) := (S_go rfl).trans ((S_go rfl).trans ((S_go rfl).trans ((S_go rfl).trans ((S_go rfl).trans ((S_go rfl).trans ((S_brt rfl hx).trans (rfl)))))))
set_option maxRecDepth 20000 in
theorem sb20_22n {x : Int32} (hx : inb x 8 = true) : den (d, 3, 3, 22, [some (vr 0 20), some (vr 0 4), some (vi x)], [vn, vi x, vr 0 21], mkH I t1 t2 k sc) = den (d, 3, 3, 23, [some (vr 0 20), some (vr 0 4), some (vi x)], [], wR (mkH I t1 t2 k sc) 0 21 x.toNatClampNeg none) := (S_brt rfl hx).trans (rfl)
set_option maxRecDepth 20000 in
theorem sb20_22t (e : Nat) {x : Int32} (hx : inb x 8 = true) : den (d, 3, 3, 22, [some (vr 0 20), some (vr 0 4), some (vi x)], [vr (e + 1) 0, vi x, vr 0 21], mkH I t1 t2 k sc) = den (d, 3, 3, 23, [some (vr 0 20), some (vr 0 4), some (vi x)], [], wR (mkH I t1 t2 k sc) 0 21 x.toNatClampNeg (some (e + 1, 0))) := (S_brt rfl hx).trans (rfl)
set_option maxRecDepth 20000 in
theorem sb20_23 {x : Int32} (hx : inb x 8 = true) : den (d, 3, 3, 23, [some (vr 0 20), some (vr 0 4), some (vi x)], [], mkH I t1 t2 k sc) = den (d, 3, 3, 2, [some (vr 0 20), some (vr 0 4), some (vi (x + 1))], [], mkH (uI (uI I 0 22 x.toNatClampNeg (I 0 6 x.toNatClampNeg)) 0 23 x.toNatClampNeg ((uI I 0 22 x.toNatClampNeg (I 0 6 x.toNatClampNeg)) 0 7 x.toNatClampNeg)) t1 t2 k sc) := (S_go rfl).trans ((S_go rfl).trans ((S_go rfl).trans ((S_go rfl).trans ((S_go rfl).trans ((S_go rfl).trans ((S_brt rfl hx).trans ((S_brt rfl hx).trans ((S_go rfl).trans ((S_go rfl).trans ((S_go rfl).trans ((S_go rfl).trans ((S_go rfl).trans ((S_go rfl).trans ((S_brt rfl hx).trans ((S_brt rfl hx).trans ((S_go rfl).trans ((S_go rfl).trans (rfl))))))))))))))))))
set_option maxRecDepth 20000 in
theorem sb20_53 (x : Int32) : den (d, 3, 3, 53, [some (vr 0 20), some (vr 0 4), some (vi x)], [], mkH I t1 t2 k sc) = some (none, mkH (uI I 0 20 3 (I 0 4 3)) t1 t2 k sc) := (S_go rfl).trans ((S_go rfl).trans ((S_go rfl).trans ((S_go rfl).trans (S_ret rfl))))
theorem x_sbec20 (hT : TOK t1) : ∃ J u, den (d, 3, 3, 0, [some (vr 0 20), some (vr 0 4), none], [], mkH I t1 t2 k sc) = some (none, mkH J t1 u k sc) ∧ (∀ i, i < 8 → u i = t1 i) ∧ (∀ i, i < 8 → J 0 22 i = I 0 6 i ∧ J 0 23 i = I 0 7 i) ∧ J 0 20 3 = I 0 4 3 ∧ ∀ g' j i, ¬ (g' = 0 ∧ ((j = 20 ∧ i = 3) ∨ ((j = 22 ∨ j = 23) ∧ i < 8))) → J g' j i = I g' j i := by
  obtain ⟨J, u, e, q1, q2, q3⟩ := lpT (fun p J u => den (d, 3, 3, 2, [some (vr 0 20), some (vr 0 4), some (vi (nI p))], [], mkH J t1 u k sc))
    (fun p J u => (∀ i, i < p → u i = t1 i) ∧ (∀ i, i < p → J 0 22 i = I 0 6 i ∧ J 0 23 i = I 0 7 i) ∧ ∀ g' j i, ¬ (g' = 0 ∧ (j = 22 ∨ j = 23) ∧ i < 8) → J g' j i = I g' j i) (N := 8)
    (by
      intro p J u hp ⟨r1, r2, r3⟩
      have hx : inb (nI p) 8 = true := inb_n hp (by omega)
      have hc : (nI p).toNatClampNeg = p := nI_clamp (by omega)
      refine ⟨uI (uI J 0 22 p (J 0 6 p)) 0 23 p (J 0 7 p), tS u p (t1 p), ?_, fun i hi => ?_, fun i hi => ?_, fun g' j i h => ?_⟩
      · rw [sb20_2, cdec, if_pos (by rw [lt_8 (by omega)]; exact hp), sb20_11 d _ _ _ k sc hx, hc]
        have hr : rR (mkH J t1 u k sc) 0 5 p = t1 p := rfl
        rw [hr]
        have fin : den (d, 3, 3, 23, [some (vr 0 20), some (vr 0 4), some (vi (nI p))], [], wR (mkH J t1 u k sc) 0 21 (nI p).toNatClampNeg (t1 p)) = den (d, 3, 3, 2, [some (vr 0 20), some (vr 0 4), some (vi (nI (p + 1)))], [], mkH (uI (uI J 0 22 p (J 0 6 p)) 0 23 p (J 0 7 p)) t1 (tS u p (t1 p)) k sc) := by
          rw [wR21, sb20_23 d _ _ _ k sc hx, hc, nI_1, uI_ne (show ¬ (0 = 0 ∧ 7 = 22 ∧ p = p) by omega)]
        rcases hT p hp with z | ⟨e, z⟩
        · rw [z] at fin ⊢
          exact (sb20_22n d _ _ _ k sc hx).trans fin
        · rw [z] at fin ⊢
          exact (sb20_22t d _ _ _ k sc e hx).trans fin
      · by_cases ei : i = p
        · rw [tS_at ei, ei]
        · rw [tS_ne ei]; exact r1 i (by omega)
      · by_cases ei : i = p
        · subst ei
          rw [uI_ne (by omega), uI_at (by omega), uI_at (by omega), r3 _ _ _ (by omega), r3 _ _ _ (by omega)]
          exact ⟨rfl, rfl⟩
        · rw [uI_ne (by omega), uI_ne (by omega), uI_ne (by omega), uI_ne (by omega)]; exact r2 i (by omega)
      · rw [uI_ne (by omega), uI_ne (by omega)]; exact r3 _ _ _ h) 0 I t2 (by omega) ⟨fun i hi => by omega, fun i hi => by omega, fun g' j i h => rfl⟩
  refine ⟨uI J 0 20 3 (J 0 4 3), u, ?_, q1, fun i hi => ?_, ?_, fun g' j i h => ?_⟩
  · refine (sb20_0 d I t1 t2 k sc).trans (e.trans ?_)
    rw [sb20_2, cdec, if_neg (by rw [lt_8 (by omega)]; omega), sb20_53]
  · rw [uI_ne (by omega), uI_ne (by omega)]; exact q2 i hi
  · rw [uI_at (by omega), q3 _ _ _ (by omega)]
  · rw [uI_ne (by omega)]; exact q3 _ _ _ (by omega)
set_option maxRecDepth 20000 in
theorem sb4_0 : den (d, 3, 3, 0, [some (vr 0 4), some (vr 0 20), none], [], mkH I t1 t2 k sc) = den (d, 3, 3, 2, [some (vr 0 4), some (vr 0 20), some (vi 0)], [], mkH I t1 t2 k sc) := (S_go rfl).trans ((S_go rfl).trans (rfl))
set_option maxRecDepth 20000 in
theorem sb4_2 (x : Int32) : den (d, 3, 3, 2, [some (vr 0 4), some (vr 0 20), some (vi x)], [], mkH I t1 t2 k sc) = bif decide (x < 8) then den (d, 3, 3, 11, [some (vr 0 4), some (vr 0 20), some (vi x)], [], mkH I t1 t2 k sc) else den (d, 3, 3, 53, [some (vr 0 4), some (vr 0 20), some (vi x)], [], mkH I t1 t2 k sc) := (S_go rfl).trans ((S_go rfl).trans ((S_go rfl).trans ((S_go rfl).trans ((S_br rfl).trans rfl))))
set_option maxRecDepth 20000 in
theorem sb4_11 {x : Int32} (hx : inb x 8 = true) : den (d, 3, 3, 11, [some (vr 0 4), some (vr 0 20), some (vi x)], [], mkH I t1 t2 k sc) = den (d, 3, 3, 22, [some (vr 0 4), some (vr 0 20), some (vi x)], [.inr (.inr (rR (mkH I t1 t2 k sc) 0 21 x.toNatClampNeg)), vi x, vr 0 5], mkH I t1 t2 k sc) := (S_go rfl).trans ((S_go rfl).trans ((S_go rfl).trans ((S_go rfl).trans ((S_go rfl).trans ((S_go rfl).trans ((S_brt rfl hx).trans (rfl)))))))
set_option maxRecDepth 20000 in
theorem sb4_22n {x : Int32} (hx : inb x 8 = true) : den (d, 3, 3, 22, [some (vr 0 4), some (vr 0 20), some (vi x)], [vn, vi x, vr 0 5], mkH I t1 t2 k sc) = den (d, 3, 3, 23, [some (vr 0 4), some (vr 0 20), some (vi x)], [], wR (mkH I t1 t2 k sc) 0 5 x.toNatClampNeg none) := (S_brt rfl hx).trans (rfl)
set_option maxRecDepth 20000 in
theorem sb4_22t (e : Nat) {x : Int32} (hx : inb x 8 = true) : den (d, 3, 3, 22, [some (vr 0 4), some (vr 0 20), some (vi x)], [vr (e + 1) 0, vi x, vr 0 5], mkH I t1 t2 k sc) = den (d, 3, 3, 23, [some (vr 0 4), some (vr 0 20), some (vi x)], [], wR (mkH I t1 t2 k sc) 0 5 x.toNatClampNeg (some (e + 1, 0))) := (S_brt rfl hx).trans (rfl)
set_option maxRecDepth 20000 in
theorem sb4_23 {x : Int32} (hx : inb x 8 = true) : den (d, 3, 3, 23, [some (vr 0 4), some (vr 0 20), some (vi x)], [], mkH I t1 t2 k sc) = den (d, 3, 3, 2, [some (vr 0 4), some (vr 0 20), some (vi (x + 1))], [], mkH (uI (uI I 0 6 x.toNatClampNeg (I 0 22 x.toNatClampNeg)) 0 7 x.toNatClampNeg ((uI I 0 6 x.toNatClampNeg (I 0 22 x.toNatClampNeg)) 0 23 x.toNatClampNeg)) t1 t2 k sc) := (S_go rfl).trans ((S_go rfl).trans ((S_go rfl).trans ((S_go rfl).trans ((S_go rfl).trans ((S_go rfl).trans ((S_brt rfl hx).trans ((S_brt rfl hx).trans ((S_go rfl).trans ((S_go rfl).trans ((S_go rfl).trans ((S_go rfl).trans ((S_go rfl).trans ((S_go rfl).trans ((S_brt rfl hx).trans ((S_brt rfl hx).trans ((S_go rfl).trans ((S_go rfl).trans (rfl))))))))))))))))))
set_option maxRecDepth 20000 in
theorem sb4_53 (x : Int32) : den (d, 3, 3, 53, [some (vr 0 4), some (vr 0 20), some (vi x)], [], mkH I t1 t2 k sc) = some (none, mkH (uI I 0 4 3 (I 0 20 3)) t1 t2 k sc) := (S_go rfl).trans ((S_go rfl).trans ((S_go rfl).trans ((S_go rfl).trans (S_ret rfl))))
theorem x_sbec4 (hT : TOK t2) : ∃ J u, den (d, 3, 3, 0, [some (vr 0 4), some (vr 0 20), none], [], mkH I t1 t2 k sc) = some (none, mkH J u t2 k sc) ∧ (∀ i, i < 8 → u i = t2 i) ∧ (∀ i, i < 8 → J 0 6 i = I 0 22 i ∧ J 0 7 i = I 0 23 i) ∧ J 0 4 3 = I 0 20 3 ∧ ∀ g' j i, ¬ (g' = 0 ∧ ((j = 4 ∧ i = 3) ∨ ((j = 6 ∨ j = 7) ∧ i < 8))) → J g' j i = I g' j i := by
  obtain ⟨J, u, e, q1, q2, q3⟩ := lpT (fun p J u => den (d, 3, 3, 2, [some (vr 0 4), some (vr 0 20), some (vi (nI p))], [], mkH J u t2 k sc))
    (fun p J u => (∀ i, i < p → u i = t2 i) ∧ (∀ i, i < p → J 0 6 i = I 0 22 i ∧ J 0 7 i = I 0 23 i) ∧ ∀ g' j i, ¬ (g' = 0 ∧ (j = 6 ∨ j = 7) ∧ i < 8) → J g' j i = I g' j i) (N := 8)
    (by
      intro p J u hp ⟨r1, r2, r3⟩
      have hx : inb (nI p) 8 = true := inb_n hp (by omega)
      have hc : (nI p).toNatClampNeg = p := nI_clamp (by omega)
      refine ⟨uI (uI J 0 6 p (J 0 22 p)) 0 7 p (J 0 23 p), tS u p (t2 p), ?_, fun i hi => ?_, fun i hi => ?_, fun g' j i h => ?_⟩
      · rw [sb4_2, cdec, if_pos (by rw [lt_8 (by omega)]; exact hp), sb4_11 d _ _ _ k sc hx, hc]
        have hr : rR (mkH J u t2 k sc) 0 21 p = t2 p := rfl
        rw [hr]
        have fin : den (d, 3, 3, 23, [some (vr 0 4), some (vr 0 20), some (vi (nI p))], [], wR (mkH J u t2 k sc) 0 5 (nI p).toNatClampNeg (t2 p)) = den (d, 3, 3, 2, [some (vr 0 4), some (vr 0 20), some (vi (nI (p + 1)))], [], mkH (uI (uI J 0 6 p (J 0 22 p)) 0 7 p (J 0 23 p)) (tS u p (t2 p)) t2 k sc) := by
          rw [wR5, sb4_23 d _ _ _ k sc hx, hc, nI_1, uI_ne (show ¬ (0 = 0 ∧ 23 = 6 ∧ p = p) by omega)]
        rcases hT p hp with z | ⟨e, z⟩
        · rw [z] at fin ⊢
          exact (sb4_22n d _ _ _ k sc hx).trans fin
        · rw [z] at fin ⊢
          exact (sb4_22t d _ _ _ k sc e hx).trans fin
      · by_cases ei : i = p
        · rw [tS_at ei, ei]
        · rw [tS_ne ei]; exact r1 i (by omega)
      · by_cases ei : i = p
        · subst ei
          rw [uI_ne (by omega), uI_at (by omega), uI_at (by omega), r3 _ _ _ (by omega), r3 _ _ _ (by omega)]
          exact ⟨rfl, rfl⟩
        · rw [uI_ne (by omega), uI_ne (by omega), uI_ne (by omega), uI_ne (by omega)]; exact r2 i (by omega)
      · rw [uI_ne (by omega), uI_ne (by omega)]; exact r3 _ _ _ h) 0 I t1 (by omega) ⟨fun i hi => by omega, fun i hi => by omega, fun g' j i h => rfl⟩
  refine ⟨uI J 0 4 3 (J 0 20 3), u, ?_, q1, fun i hi => ?_, ?_, fun g' j i h => ?_⟩
  · refine (sb4_0 d I t1 t2 k sc).trans (e.trans ?_)
    rw [sb4_2, cdec, if_neg (by rw [lt_8 (by omega)]; omega), sb4_53]
  · rw [uI_ne (by omega), uI_ne (by omega)]; exact q2 i hi
  · rw [uI_at (by omega), q3 _ _ _ (by omega)]
  · rw [uI_ne (by omega)]; exact q3 _ _ _ (by omega)
theorem x_gbec {g q : Nat} (hg : g = 8 ∨ g = 24 ∨ g = 35) (hq : q = 8 ∨ q = 24) (hne : g ≠ q) : ∃ J, den (d + 1, 0, 2, 0, [some (vr 0 g), some (vr 0 q), none], [], mkH I t1 t2 k sc) = some (none, mkH (J) t1 t2 k sc) ∧ (∀ a p, a < 9 → p < 10 → J 0 (g + 1 + a) p = I 0 (q + 1 + a) p) ∧ J 0 g 9 = I 0 q 9 ∧ J 0 g 10 = I 0 q 10 ∧ J 0 g 11 = I 0 q 11 ∧ ∀ g' j i, ¬ (g' = 0 ∧ ((j = g ∧ 9 ≤ i ∧ i ≤ 11) ∨ (g + 1 ≤ j ∧ j ≤ g + 9))) → J g' j i = I g' j i := by
  obtain ⟨J, e, q1, q2⟩ := lpE (fun p J => den (d + 1, 0, 2, 2, [some (vr 0 g), some (vr 0 q), some (vi (nI p))], [], mkH (J) t1 t2 k sc))
    (fun w J => (∀ a p, a < w → p < 10 → J 0 (g + 1 + a) p = I 0 (q + 1 + a) p) ∧ ∀ g' j i, ¬ (g' = 0 ∧ g + 1 ≤ j ∧ j ≤ g + 9) → J g' j i = I g' j i) (N := 9)
    (by
      intro w J hw ⟨r1, r2⟩
      have hb : (!decide ((0 : Int32) < 0) && !decide ((0 : Int32) < 0) && !decide ((10 : Int32) < 0) && decide ((0 : Int32).toNatClampNeg + (10 : Int32).toNatClampNeg ≤ 10) && decide ((0 : Int32).toNatClampNeg + (10 : Int32).toNatClampNeg ≤ 10)) = true := by decide
      refine ⟨uA J 0 (g + 1 + w) (va_cpy (J 0 (q + 1 + w)) (J 0 (g + 1 + w)) 0 0 10), ?_, fun a p ha hp => ?_, fun g' j i h => ?_⟩
      · rw [b0_2_2]
        simp (disch := omega) only [bnd, ↓cdec, ↓reduceIte, lt_9, hw, b0_2_8, b0_2_13, x_row]
        rw [b0_2_19 d g q (by omega) (by omega), hb, cond_true, b0_2_25, nI_1]
        rfl
      · by_cases ea : a = w
        · subst ea
          rw [uA_at (by omega), pk_cpy_in (by omega) (by omega), r2 _ _ _ (by omega), show 0 + (p - 0) = p by omega]
        · rw [uA_ne (by omega)]; exact r1 a p (by omega) hp
      · rw [uA_ne (by omega)]; exact r2 _ _ _ h) 0 I (by omega) ⟨fun a p ha => by omega, fun g' j i h => rfl⟩
  refine ⟨uI (uI (uI J 0 g 9 (J 0 q 9)) 0 g 10 (J 0 q 10)) 0 g 11 (J 0 q 11), ?_, fun a p ha hp => ?_, ?_, ?_, ?_, fun g' j i h => ?_⟩
  · refine (b0_2_0 d g q I t1 t2 k sc).trans (e.trans ?_)
    rw [b0_2_2, cdec, if_neg (by rw [lt_9 (by omega)]; omega), b0_2_31 d hg hq]
    simp (disch := omega) only [uI_ne]
  · rw [uI_ne (by omega), uI_ne (by omega), uI_ne (by omega)]; exact q1 a p ha hp
  · rw [uI_ne (by omega), uI_ne (by omega), uI_at (by omega)]; exact q2 _ _ _ (by omega)
  · rw [uI_ne (by omega), uI_at (by omega)]; exact q2 _ _ _ (by omega)
  · rw [uI_at (by omega)]; exact q2 _ _ _ (by omega)
  · rw [uI_ne (by omega), uI_ne (by omega), uI_ne (by omega)]; exact q2 _ _ _ (by omega)
end
/-- a world copied from offset q to offset g -/
def WCp (I J : IFn) (g q : Nat) : Prop := J 0 g 3 = I 0 q 3 ∧ J 0 (g + 1) 3 = I 0 (q + 1) 3 ∧ (∀ i, i < 8 → J 0 (g + 3) i = I 0 (q + 3) i ∧ J 0 (g + 4) i = I 0 (q + 4) i) ∧ (J 0 (g + 5) 9 = I 0 (q + 5) 9 ∧ J 0 (g + 5) 10 = I 0 (q + 5) 10 ∧ J 0 (g + 5) 11 = I 0 (q + 5) 11) ∧ (∀ a p, a < 9 → p < 10 → J 0 (g + 6 + a) p = I 0 (q + 6 + a) p) ∧ ∀ p, p < 10 → J 0 (g + 15) p = I 0 (q + 15) p
theorem WRel.move {I J : IFn} {g q k : Nat} {S S' : Nat → Int32} {t u : TFn} (hc : WCp I J g q) (hS : ∀ i, i < 465 → S' i = S i) (hu : ∀ i, i < 8 → u i = t i) (hT : TextsSame I J k) (r : WRel I q S t k) : WRel J g S' u k := by
  obtain ⟨d1, d2, d3, ⟨d4, d5, d6⟩, d7, d8⟩ := hc
  obtain ⟨n, n8, ⟨h1, h2, h3, h4, h5, h6⟩, hM, hQ, hK⟩ := r
  refine ⟨n, n8, ?_, fun p hp => ?_, fun i hi => ?_, fun i hi => ?_⟩
  · unfold WHd
    rw [hS 0 (by omega), hS 1 (by omega), hS 2 (by omega), hS 3 (by omega), hS 4 (by omega), d1, d2, d4, d5, d6]
    exact ⟨h1, h2, h3, h4, h5, h6⟩
  · obtain ⟨g1, g2', g3, g4⟩ := hM p hp
    have e : ∀ a, a < 9 → S' (5 + 9 * p + a) = S (5 + 9 * p + a) := fun a ha => hS _ (by omega)
    refine ⟨fun a ha => ?_, ?_, ?_, ?_⟩
    · rw [d7 a p ha hp, e a ha]; exact g1 a ha
    · unfold manOK
      dsimp only
      rw [e 0 (by omega), e 1 (by omega), e 2 (by omega), e 3 (by omega), e 4 (by omega), e 5 (by omega), e 6 (by omega), e 7 (by omega), e 8 (by omega)]
      exact g2'
    · rw [d8 p hp, hS (95 + p) (by omega)]; exact g3
    · rw [hS (95 + p) (by omega)]; exact g4
  · have g0 : sumOK J (t i) k (I 0 (q + 3) i) (I 0 (q + 4) i) (fun a => S (105 + 45 * i + a)) := sumOK.congr hT (hQ i hi)
    have ec : ∀ a, a < 45 → S' (105 + 45 * i + a) = S (105 + 45 * i + a) := fun a ha => hS _ (by omega)
    obtain ⟨z0, z1, z2, z3, -⟩ := hQ i hi
    unfold WSum
    rw [hu i (by omega), (d3 i (by omega)).1, (d3 i (by omega)).2]
    refine sumOK.mod g0 (fun a _ ha => ec a ha) ?_ ?_ ?_ ?_
    · rw [ec 0 (by omega)]; exact z0
    · rw [ec 0 (by omega)]; exact z1
    · rw [ec 1 (by omega)]; exact z2
    · rw [ec 1 (by omega)]; exact z3
  · rw [hu i hi]; exact hK i hi
section
variable (d : Nat) (I : IFn) (t1 t2 : TFn) (k : Nat) (sc : Nat × (Nat → Int32))
theorem x_wbec19 (hT : TOK t1) : ∃ J u, den (d + 2, 6, 1, 0, [some (vr 0 19), some (vr 0 3)], [], mkH I t1 t2 k sc) = some (none, mkH J t1 u k sc) ∧ (∀ i, i < 8 → u i = t1 i) ∧ WCp I J 19 3 ∧ ∀ g' j i, ¬ (g' = 0 ∧ 19 ≤ j ∧ j ≤ 34) → J g' j i = I g' j i := by
  obtain ⟨J1, u, e1, a1, a2, a3, a4⟩ := x_sbec20 (d + 1) I t1 t2 k sc hT
  obtain ⟨J2, e2, b1, b2, b3, b4, b5⟩ := x_gbec d J1 t1 u k sc (g := 24) (q := 8) (by omega) (by omega) (by omega)
  generalize hJ3 : uA J2 0 (19 + 15) (va_cpy (J2 0 (3 + 15)) (J2 0 (19 + 15)) 0 0 10) = J3
  have c1 : ∀ g' j i, ¬ (g' = 0 ∧ j = 34) → J3 g' j i = J2 g' j i := fun g' j i h => by rw [← hJ3, uA_ne (by omega)]
  refine ⟨uI J3 0 19 3 (J3 0 3 3), u, ?_, a1, ⟨?_, ?_, fun i hi => ?_, ⟨?_, ?_, ?_⟩, fun a p ha hp => ?_, fun p hp => ?_⟩, fun g' j i h => ?_⟩
  · rw [b6_1_0 (d + 1) (by omega) (by omega)]
    refine (congrArg (fun z => Option.bind z _) e1).trans ?_
    refine (b6_1_11 (d + 1) (g := 19) (q := 3) (by omega) (by omega) J1 t1 u k sc).trans ?_
    refine (congrArg (fun z => Option.bind z _) e2).trans ?_
    refine (b6_1_22 (d + 1) (g := 19) (q := 3) (by omega) (by omega) J2 t1 u k sc).trans ?_
    rw [hJ3, b6_1_37 (d + 1) (by omega) (by omega)]
  · rw [uI_at (by omega), c1 _ _ _ (by omega), b5 _ _ _ (by omega)]; exact a4 _ _ _ (by omega)
  · rw [uI_ne (by omega), c1 _ _ _ (by omega), b5 _ _ _ (by omega)]; exact a3
  · rw [uI_ne (by omega), c1 _ _ _ (by omega), b5 _ _ _ (by omega), uI_ne (by omega), c1 _ _ _ (by omega), b5 _ _ _ (by omega)]; exact a2 i hi
  · rw [uI_ne (by omega), c1 _ _ _ (by omega)]; exact b2.trans (a4 _ _ _ (by omega))
  · rw [uI_ne (by omega), c1 _ _ _ (by omega)]; exact b3.trans (a4 _ _ _ (by omega))
  · rw [uI_ne (by omega), c1 _ _ _ (by omega)]; exact b4.trans (a4 _ _ _ (by omega))
  · rw [uI_ne (by omega), c1 _ _ _ (by omega)]; exact (b1 a p ha hp).trans (a4 _ _ _ (by omega))
  · rw [uI_ne (by omega), ← hJ3, uA_at (by omega), pk_cpy_in (by omega) (by omega), show 0 + (p - 0) = p by omega, b5 _ _ _ (by omega), a4 _ _ _ (by omega)]
  · rw [uI_ne (by omega), c1 _ _ _ (by omega), b5 _ _ _ (by omega)]; exact a4 _ _ _ (by omega)
theorem x_wbec3 (hT : TOK t2) : ∃ J u, den (d + 2, 6, 1, 0, [some (vr 0 3), some (vr 0 19)], [], mkH I t1 t2 k sc) = some (none, mkH J u t2 k sc) ∧ (∀ i, i < 8 → u i = t2 i) ∧ WCp I J 3 19 ∧ ∀ g' j i, ¬ (g' = 0 ∧ 3 ≤ j ∧ j ≤ 18) → J g' j i = I g' j i := by
  obtain ⟨J1, u, e1, a1, a2, a3, a4⟩ := x_sbec4 (d + 1) I t1 t2 k sc hT
  obtain ⟨J2, e2, b1, b2, b3, b4, b5⟩ := x_gbec d J1 u t2 k sc (g := 8) (q := 24) (by omega) (by omega) (by omega)
  generalize hJ3 : uA J2 0 (3 + 15) (va_cpy (J2 0 (19 + 15)) (J2 0 (3 + 15)) 0 0 10) = J3
  have c1 : ∀ g' j i, ¬ (g' = 0 ∧ j = 18) → J3 g' j i = J2 g' j i := fun g' j i h => by rw [← hJ3, uA_ne (by omega)]
  refine ⟨uI J3 0 3 3 (J3 0 19 3), u, ?_, a1, ⟨?_, ?_, fun i hi => ?_, ⟨?_, ?_, ?_⟩, fun a p ha hp => ?_, fun p hp => ?_⟩, fun g' j i h => ?_⟩
  · rw [b6_1_0 (d + 1) (by omega) (by omega)]
    refine (congrArg (fun z => Option.bind z _) e1).trans ?_
    refine (b6_1_11 (d + 1) (g := 3) (q := 19) (by omega) (by omega) J1 u t2 k sc).trans ?_
    refine (congrArg (fun z => Option.bind z _) e2).trans ?_
    refine (b6_1_22 (d + 1) (g := 3) (q := 19) (by omega) (by omega) J2 u t2 k sc).trans ?_
    rw [hJ3, b6_1_37 (d + 1) (by omega) (by omega)]
  · rw [uI_at (by omega), c1 _ _ _ (by omega), b5 _ _ _ (by omega)]; exact a4 _ _ _ (by omega)
  · rw [uI_ne (by omega), c1 _ _ _ (by omega), b5 _ _ _ (by omega)]; exact a3
  · rw [uI_ne (by omega), c1 _ _ _ (by omega), b5 _ _ _ (by omega), uI_ne (by omega), c1 _ _ _ (by omega), b5 _ _ _ (by omega)]; exact a2 i hi
  · rw [uI_ne (by omega), c1 _ _ _ (by omega)]; exact b2.trans (a4 _ _ _ (by omega))
  · rw [uI_ne (by omega), c1 _ _ _ (by omega)]; exact b3.trans (a4 _ _ _ (by omega))
  · rw [uI_ne (by omega), c1 _ _ _ (by omega)]; exact b4.trans (a4 _ _ _ (by omega))
  · rw [uI_ne (by omega), c1 _ _ _ (by omega)]; exact (b1 a p ha hp).trans (a4 _ _ _ (by omega))
  · rw [uI_ne (by omega), ← hJ3, uA_at (by omega), pk_cpy_in (by omega) (by omega), show 0 + (p - 0) = p by omega, b5 _ _ _ (by omega), a4 _ _ _ (by omega)]
  · rw [uI_ne (by omega), c1 _ _ _ (by omega), b5 _ _ _ (by omega)]; exact a4 _ _ _ (by omega)
end
/-- image -/
theorem ok_36 : op_36 Inv := by
  intro I t1 t2 k sc hI
  obtain ⟨hTo, ⟨n, b0, b1, b2, b3⟩, hSh, hW, hK⟩ := hI
  have hTK : TOK t1 := by
    obtain ⟨_, _, _, _, _, z⟩ := hW
    exact z
  obtain ⟨J1, u, e1, a1, a2, a3⟩ := x_wbec19 7 I t1 t2 k sc hTK
  generalize hJ2 : uI J1 0 0 7 1 = J2
  have j2 : ∀ g' j i, ¬ (g' = 0 ∧ j = 0 ∧ i = 7) → J2 g' j i = J1 g' j i := fun g' j i h => by rw [← hJ2, uI_ne h]
  obtain ⟨J3, e3, c1, c2⟩ := lpE (fun p J => den (10, 8, 77, 2, [some (vr 0 56), some (vi (nI p))], [], mkH J t1 u k sc))
    (fun p J => (∀ i, i < p → J 0 58 i = J2 0 57 i) ∧ ∀ g' j i, ¬ (g' = 0 ∧ j = 58) → J g' j i = J2 g' j i) (N := 465)
    (by
      intro p J hp ⟨r1, r2⟩
      refine ⟨uI J 0 58 p (J 0 57 p), ?_, fun i hi => ?_, fun g' j i h => ?_⟩
      · rw [b8_77_2]
        simp (disch := omega) only [bnd, bnd0, ↓cdec, ↓cnot, ↓reduceIte, Bo_0, Bo_1, ↓Bo_ok, i10, i01, eq_self, decide_true, decide_false, Bool.or_true, Bool.true_or, Bool.or_false, Bool.false_or, cond_true, cond_false, not_true_eq_false, not_false_eq_true, and_self, and_true, true_and, and_false, false_and, nI_clamp, ↓inbc, inb_n, nI_pos, nI_1, lt_465, hp, b8_77_9]
      · by_cases ei : i = p
        · subst ei; rw [uI_at (by omega), r2 _ _ _ (by omega)]
        · rw [uI_ne (by omega)]; exact r1 i (by omega)
      · rw [uI_ne (by omega)]; exact r2 _ _ _ h) 0 J2 (by omega) ⟨fun i hi => by omega, fun g' j i h => rfl⟩
  have fr : ∀ g' j i, ¬ (g' = 0 ∧ ((19 ≤ j ∧ j ≤ 34) ∨ (j = 0 ∧ i = 7) ∨ j = 58 ∨ (j = 56 ∧ i = 4))) → (uI J3 0 56 4 1) g' j i = I g' j i := by
    intro g' j i h
    rw [uI_ne (by omega), c2 _ _ _ (by omega), j2 _ _ _ (by omega), a3 _ _ _ (by omega)]
  have f3 : ∀ g' j i, ¬ (g' = 0 ∧ ((j = 0 ∧ i = 7) ∨ j = 58 ∨ (j = 56 ∧ i = 4))) → (uI J3 0 56 4 1) g' j i = J1 g' j i := by
    intro g' j i h
    rw [uI_ne (by omega), c2 _ _ _ (by omega), j2 _ _ _ (by omega)]
  have hTS : TextsSame I (uI J3 0 56 4 1) k := fun e _ j i _ _ _ _ => fr _ _ _ (by omega)
  refine ⟨1, J2, uI J3 0 56 4 1, t1, u, k, ?_, ?_, ⟨hTo.congr (fun i _ => fr _ _ _ (by omega)) (fun i _ => fr _ _ _ (by omega)), ⟨n, b0, ?_, ?_, fun i hi => ?_⟩, fun s hs => (hSh s hs).congr hs (fun j i _ _ => fr _ _ _ (by omega)) (fun j i _ _ => fr _ _ _ (by omega)), hW.congr hTS (fun j i _ _ _ => fr _ _ _ (by omega)) (fun i _ => fr _ _ _ (by omega)), Or.inr ⟨?_, ?_, ?_⟩⟩, by omega⟩
  · show den (10, 7, 37, 0, [some (vr 0 0)], [], mkH I t1 t2 k sc) = _
    rw [b7_37_0 9]
    refine (congrArg (fun z => Option.bind z _) e1).trans ?_
    refine (b7_37_11 9 J1 t1 u k sc).trans ?_
    rw [hJ2]
  · show den (10, 8, 77, 0, [some (vr 0 56), none], [], mkH J2 t1 u k sc) = _
    refine (b8_77_0 10 J2 t1 u k sc).trans (e3.trans ?_)
    rw [b8_77_2]
    simp (disch := omega) only [bnd, bnd0, ↓cdec, ↓cnot, ↓reduceIte, Bo_0, Bo_1, ↓Bo_ok, i10, i01, eq_self, decide_true, decide_false, Bool.or_true, Bool.true_or, Bool.or_false, Bool.false_or, cond_true, cond_false, not_true_eq_false, not_false_eq_true, and_self, and_true, true_and, and_false, false_and, nI_clamp, ↓inbc, inb_n, nI_pos, nI_1, lt_465, Nat.lt_irrefl, b8_77_27]
  · rw [fr _ _ _ (by omega)]; exact b1
  · rw [fr _ _ _ (by omega)]; exact b2
  · rw [fr 0 2 i (by omega), fr 0 61 i (by omega)]; exact b3 i hi
  · rw [uI_ne (by omega), c2 _ _ _ (by omega), ← hJ2, uI_at (by omega)]
  · rw [uI_at (by omega)]
  · refine WRel.move (I := I) (q := 3) (S := I 0 57) (t := t1) ?_ (fun i hi => ?_) a1 hTS hW
    · obtain ⟨d1, d2, d3, ⟨d4, d5, d6⟩, d7, d8⟩ := a2
      refine ⟨?_, ?_, fun i hi => ?_, ⟨?_, ?_, ?_⟩, fun a p ha hp => ?_, fun p hp => ?_⟩
      · rw [f3 _ _ _ (by omega)]; exact d1
      · rw [f3 _ _ _ (by omega)]; exact d2
      · rw [f3 _ _ _ (by omega), f3 _ _ _ (by omega)]; exact d3 i hi
      · rw [f3 _ _ _ (by omega)]; exact d4
      · rw [f3 _ _ _ (by omega)]; exact d5
      · rw [f3 _ _ _ (by omega)]; exact d6
      · rw [f3 _ _ _ (by omega)]; exact d7 a p ha hp
      · rw [f3 _ _ _ (by omega)]; exact d8 p hp
    · rw [uI_ne (by omega), c1 i hi, j2 _ _ _ (by omega), a3 _ _ _ (by omega)]
/-- undo -/
theorem ok_37 : op_37 Inv := by
  intro I t1 t2 k sc hI
  have hI0 := hI
  obtain ⟨hTo, ⟨n, b0, b1, b2, b3⟩, hSh, hW, hK⟩ := hI
  rcases hK with ⟨z1, z2⟩ | ⟨z1, z2, hW2⟩
  · refine ⟨-1000004, uI I 0 47 3 (I 0 47 3 + 1), _, t1, t2, k, ?_, ?_, hI0.find (f := 3) (by omega), by omega⟩
    · simp (disch := omega) only [bnd, bnd0, ↓cdec, ↓cnot, ↓reduceIte, Bo_0, Bo_1, ↓Bo_ok, i10, i01, eq_self, decide_true, decide_false, Bool.or_true, Bool.true_or, Bool.or_false, Bool.false_or, cond_true, cond_false, not_true_eq_false, not_false_eq_true, and_self, and_true, true_and, and_false, false_and, nI_clamp, ↓inbc, inb_n, nI_pos, nI_1, b7_38_0, b7_38_7, b7_38_13, z1, x_f3]
    · simp (disch := omega) only [bnd, bnd0, ↓cdec, ↓cnot, ↓reduceIte, Bo_0, Bo_1, ↓Bo_ok, i10, i01, eq_self, decide_true, decide_false, Bool.or_true, Bool.true_or, Bool.or_false, Bool.false_or, cond_true, cond_false, not_true_eq_false, not_false_eq_true, and_self, and_true, true_and, and_false, false_and, nI_clamp, ↓inbc, inb_n, nI_pos, nI_1, b8_78_0, b8_78_7, b8_78_13, uI_ne, z2, m_f3]
  · have hTK : TOK t2 := by
      obtain ⟨_, _, _, _, _, z⟩ := hW2
      exact z
    obtain ⟨J1, u, e1, a1, a2, a3⟩ := x_wbec3 7 I t1 t2 k sc hTK
    obtain ⟨J2, e3, c1, c2⟩ := lpE (fun p J => den (9 + 1, 8, 78, 16, [some (vr 0 56), some (vi (nI p))], [], mkH J u t2 k sc))
      (fun p J => (∀ i, i < p → J 0 57 i = J1 0 58 i) ∧ ∀ g' j i, ¬ (g' = 0 ∧ j = 57) → J g' j i = J1 g' j i) (N := 465)
      (by
        intro p J hp ⟨r1, r2⟩
        refine ⟨uI J 0 57 p (J 0 58 p), ?_, fun i hi => ?_, fun g' j i h => ?_⟩
        · rw [b8_78_16]
          simp (disch := omega) only [bnd, bnd0, ↓cdec, ↓cnot, ↓reduceIte, Bo_0, Bo_1, ↓Bo_ok, i10, i01, eq_self, decide_true, decide_false, Bool.or_true, Bool.true_or, Bool.or_false, Bool.false_or, cond_true, cond_false, not_true_eq_false, not_false_eq_true, and_self, and_true, true_and, and_false, false_and, nI_clamp, ↓inbc, inb_n, nI_pos, nI_1, lt_465, hp, b8_78_23]
        · by_cases ei : i = p
          · subst ei; rw [uI_at (by omega), r2 _ _ _ (by omega)]
          · rw [uI_ne (by omega)]; exact r1 i (by omega)
        · rw [uI_ne (by omega)]; exact r2 _ _ _ h) 0 J1 (by omega) ⟨fun i hi => by omega, fun g' j i h => rfl⟩
    have fr : ∀ g' j i, ¬ (g' = 0 ∧ ((3 ≤ j ∧ j ≤ 18) ∨ j = 57)) → J2 g' j i = I g' j i := by
      intro g' j i h
      rw [c2 _ _ _ (by omega), a3 _ _ _ (by omega)]
    have hTS : TextsSame I J2 k := fun e _ j i _ _ _ _ => fr _ _ _ (by omega)
    have hr : J1 0 8 11 = J2 0 57 2 := by
      obtain ⟨_, _, _, ⟨_, _, d6⟩, _, _⟩ := a2
      obtain ⟨_, _, ⟨_, _, _, h4, _, _⟩, _, _, _⟩ := hW2
      rw [show J1 0 8 11 = J1 0 (3 + 5) 11 from rfl, d6, c1 2 (by omega), a3 _ _ _ (by omega)]
      exact h4.1
    refine ⟨J2 0 57 2, J1, J2, u, t2, k, ?_, ?_, ⟨hTo.congr (fun i _ => fr _ _ _ (by omega)) (fun i _ => fr _ _ _ (by omega)), ⟨n, b0, ?_, ?_, fun i hi => ?_⟩, fun s hs => (hSh s hs).congr hs (fun j i _ _ => fr _ _ _ (by omega)) (fun j i _ _ => fr _ _ _ (by omega)), ?_, Or.inr ⟨?_, ?_, ?_⟩⟩, by omega⟩
    · show den (10, 7, 38, 0, [some (vr 0 0)], [], mkH I t1 t2 k sc) = _
      rw [b7_38_0 9, cdec, if_neg (by rw [z1]; decide), b7_38_14 9]
      refine (congrArg (fun z => Option.bind z _) e1).trans ?_
      refine (b7_38_25 9 J1 u t2 k sc).trans ?_
      rw [hr]
    · show den (10, 8, 78, 0, [some (vr 0 56), none], [], mkH J1 u t2 k sc) = _
      have k4 : J1 0 56 4 = 1 := by rw [a3 _ _ _ (by omega)]; exact z2
      rw [b8_78_0 9, cdec, if_neg (by rw [k4]; decide), b8_78_14 9]
      refine Eq.trans e3 ?_
      rw [b8_78_16]
      simp (disch := omega) only [bnd, bnd0, ↓cdec, ↓cnot, ↓reduceIte, Bo_0, Bo_1, ↓Bo_ok, i10, i01, eq_self, decide_true, decide_false, Bool.or_true, Bool.true_or, Bool.or_false, Bool.false_or, cond_true, cond_false, not_true_eq_false, not_false_eq_true, and_self, and_true, true_and, and_false, false_and, nI_clamp, ↓inbc, inb_n, nI_pos, nI_1, lt_465, Nat.lt_irrefl, b8_78_41]
    · rw [fr _ _ _ (by omega)]; exact b1
    · rw [fr _ _ _ (by omega)]; exact b2
    · rw [fr 0 2 i (by omega), fr 0 61 i (by omega)]; exact b3 i hi
    · refine WRel.move (I := I) (q := 19) (S := I 0 58) (t := t2) ?_ (fun i hi => ?_) a1 hTS hW2
      · obtain ⟨d1, d2, d3, ⟨d4, d5, d6⟩, d7, d8⟩ := a2
        refine ⟨?_, ?_, fun i hi => ?_, ⟨?_, ?_, ?_⟩, fun a p ha hp => ?_, fun p hp => ?_⟩
        · rw [c2 _ _ _ (by omega)]; exact d1
        · rw [c2 _ _ _ (by omega)]; exact d2
        · rw [c2 _ _ _ (by omega), c2 _ _ _ (by omega)]; exact d3 i hi
        · rw [c2 _ _ _ (by omega)]; exact d4
        · rw [c2 _ _ _ (by omega)]; exact d5
        · rw [c2 _ _ _ (by omega)]; exact d6
        · rw [c2 _ _ _ (by omega)]; exact d7 a p ha hp
        · rw [c2 _ _ _ (by omega)]; exact d8 p hp
      · rw [c1 i hi, a3 _ _ _ (by omega)]
    · rw [fr _ _ _ (by omega)]; exact z1
    · rw [fr _ _ _ (by omega)]; exact z2
    · exact hW2.congr hTS (fun j i _ _ _ => fr _ _ _ (by omega)) (fun i _ => fr _ _ _ (by omega))
