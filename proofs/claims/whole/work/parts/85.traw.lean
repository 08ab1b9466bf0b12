/-! making a Text: the pieces that make cells and put references, over raw heaps -/
def zT (I : IFn) (g j : Nat) : IFn := fun g' j' i' => if g' = g ∧ j' = j then 0 else I g' j' i'
def nT (R : RFn) (g j : Nat) : RFn := fun g' j' i' => if g' = g ∧ j' = j then none else R g' j' i'
def uT (R : RFn) (g j i : Nat) (v : Option (Nat × Nat)) : RFn := fun g' j' i' => if g' = g ∧ j' = j ∧ i' = i then v else R g' j' i'
theorem zT_ne {I : IFn} {g j g' j' i : Nat} (h : ¬ (g' = g ∧ j' = j)) : zT I g j g' j' i = I g' j' i := if_neg h
theorem zT_at {I : IFn} {g j g' j' i : Nat} (h : g' = g ∧ j' = j) : zT I g j g' j' i = 0 := if_pos h
theorem nT_ne {R : RFn} {g j g' j' i : Nat} (h : ¬ (g' = g ∧ j' = j)) : nT R g j g' j' i = R g' j' i := if_neg h
theorem nT_at {R : RFn} {g j g' j' i : Nat} (h : g' = g ∧ j' = j) : nT R g j g' j' i = none := if_pos h
theorem uT_ne {R : RFn} {g j i g' j' i' : Nat} {v : Option (Nat × Nat)} (h : ¬ (g' = g ∧ j' = j ∧ i' = i)) : uT R g j i v g' j' i' = R g' j' i' := if_neg h
theorem uT_at {R : RFn} {g j i g' j' i' : Nat} {v : Option (Nat × Nat)} (h : g' = g ∧ j' = j ∧ i' = i) : uT R g j i v g' j' i' = v := if_pos h
theorem RT_ne {t1 t2 : TFn} {k : Nat} {v0 v1 : Option (Nat × Nat)} {g j i : Nat} (h : ¬ (g = k + 1 ∧ j = 0 ∧ (i = 0 ∨ i = 1))) : RT t1 t2 k v0 v1 g j i = RF t1 t2 g j i := by
  have e : ∀ a b : Nat, ¬ a = b → Nat.beq a b = false := fun a b q => Bool.eq_false_iff.mpr (fun z => q (Nat.eq_of_beq_eq_true z))
  unfold RT
  by_cases h1 : j = 0
  · by_cases h2 : g = k + 1
    · rw [e i 0 (by omega), e i 1 (by omega)]
      simp
    · rw [e g (k + 1) h2]
      simp
  · rw [e j 0 h1]
    simp
theorem RT_0 {t1 t2 : TFn} {k : Nat} {v0 v1 : Option (Nat × Nat)} : RT t1 t2 k v0 v1 (k + 1) 0 0 = v0 := by
  have e : Nat.beq (k + 1) (k + 1) = true := Nat.beq_refl _
  unfold RT
  rw [e]
  rfl
theorem RT_1 {t1 t2 : TFn} {k : Nat} {v0 v1 : Option (Nat × Nat)} : RT t1 t2 k v0 v1 (k + 1) 0 1 = v1 := by
  have e : Nat.beq (k + 1) (k + 1) = true := Nat.beq_refl _
  unfold RT
  rw [e]
  rfl
/-- the rows lefts and rights are made and put -/
theorem R_text (t1 t2 : TFn) (k : Nat) : uT (nT (uT (nT (nT (RF t1 t2) (k + 1) 0) (k + 1) 1) (k + 1) 0 2 (some (k + 1, 1))) (k + 1) 2) (k + 1) 0 3 (some (k + 1, 2)) = RT t1 t2 k none none := by
  funext g j i
  by_cases hg : g = k + 1
  · subst hg
    by_cases h0 : j = 0
    · subst h0
      match i with
      | 0 => rw [uT_ne (by omega), nT_ne (by omega), uT_ne (by omega), nT_ne (by omega), nT_at (by omega), RT_0]
      | 1 => rw [uT_ne (by omega), nT_ne (by omega), uT_ne (by omega), nT_ne (by omega), nT_at (by omega), RT_1]
      | 2 => rw [uT_ne (by omega), nT_ne (by omega), uT_at (by omega), RT_ne (by omega)]; rfl
      | 3 => rw [uT_at (by omega), RT_ne (by omega)]; rfl
      | i + 4 => rw [uT_ne (by omega), nT_ne (by omega), uT_ne (by omega), nT_ne (by omega), nT_at (by omega), RT_ne (by omega)]; cases i <;> rfl
    · rw [uT_ne (by omega), RT_ne (by omega)]
      by_cases h2 : j = 2
      · subst h2; rw [nT_at (by omega)]; rfl
      · rw [nT_ne (by omega), uT_ne (by omega)]
        by_cases h1 : j = 1
        · subst h1; rw [nT_at (by omega)]; rfl
        · rw [nT_ne (by omega), nT_ne (by omega)]
  · rw [uT_ne (by omega), nT_ne (by omega), uT_ne (by omega), nT_ne (by omega), nT_ne (by omega), RT_ne (by omega)]
theorem R_side3 (t1 t2 : TFn) (k : Nat) (v0 v1 : Option (Nat × Nat)) : uT (nT (uT (nT (nT (RT t1 t2 k v0 v1) (k + 1) 3) (k + 1) 4) (k + 1) 3 0 (some (k + 1, 4))) (k + 1) 5) (k + 1) 3 2 (some (k + 1, 5)) = RT t1 t2 k v0 v1 := by
  funext g j i
  by_cases hg : g = k + 1
  · subst hg
    by_cases h0 : j = 3
    · subst h0
      match i with
      | 0 => rw [uT_ne (by omega), nT_ne (by omega), uT_at (by omega), RT_ne (by omega)]; rfl
      | 1 => rw [uT_ne (by omega), nT_ne (by omega), uT_ne (by omega), nT_ne (by omega), nT_at (by omega), RT_ne (by omega)]; rfl
      | 2 => rw [uT_at (by omega), RT_ne (by omega)]; rfl
      | 3 => rw [uT_ne (by omega), nT_ne (by omega), uT_ne (by omega), nT_ne (by omega), nT_at (by omega), RT_ne (by omega)]; rfl
      | i + 4 => rw [uT_ne (by omega), nT_ne (by omega), uT_ne (by omega), nT_ne (by omega), nT_at (by omega), RT_ne (by omega)]; cases i <;> rfl
    · rw [uT_ne (by omega)]
      by_cases h2 : j = 5
      · subst h2; rw [nT_at (by omega), RT_ne (by omega)]; rfl
      · rw [nT_ne (by omega), uT_ne (by omega)]
        by_cases h1 : j = 4
        · subst h1; rw [nT_at (by omega), RT_ne (by omega)]; rfl
        · rw [nT_ne (by omega), nT_ne (by omega)]
  · rw [uT_ne (by omega), nT_ne (by omega), uT_ne (by omega), nT_ne (by omega), nT_ne (by omega)]
theorem R_side6 (t1 t2 : TFn) (k : Nat) (v0 v1 : Option (Nat × Nat)) : uT (nT (uT (nT (nT (RT t1 t2 k v0 v1) (k + 1) 6) (k + 1) 7) (k + 1) 6 0 (some (k + 1, 7))) (k + 1) 8) (k + 1) 6 2 (some (k + 1, 8)) = RT t1 t2 k v0 v1 := by
  funext g j i
  by_cases hg : g = k + 1
  · subst hg
    by_cases h0 : j = 6
    · subst h0
      match i with
      | 0 => rw [uT_ne (by omega), nT_ne (by omega), uT_at (by omega), RT_ne (by omega)]; rfl
      | 1 => rw [uT_ne (by omega), nT_ne (by omega), uT_ne (by omega), nT_ne (by omega), nT_at (by omega), RT_ne (by omega)]; rfl
      | 2 => rw [uT_at (by omega), RT_ne (by omega)]; rfl
      | 3 => rw [uT_ne (by omega), nT_ne (by omega), uT_ne (by omega), nT_ne (by omega), nT_at (by omega), RT_ne (by omega)]; rfl
      | i + 4 => rw [uT_ne (by omega), nT_ne (by omega), uT_ne (by omega), nT_ne (by omega), nT_at (by omega), RT_ne (by omega)]; cases i <;> rfl
    · rw [uT_ne (by omega)]
      by_cases h2 : j = 8
      · subst h2; rw [nT_at (by omega), RT_ne (by omega)]; rfl
      · rw [nT_ne (by omega), uT_ne (by omega)]
        by_cases h1 : j = 7
        · subst h1; rw [nT_at (by omega), RT_ne (by omega)]; rfl
        · rw [nT_ne (by omega), nT_ne (by omega)]
  · rw [uT_ne (by omega), nT_ne (by omega), uT_ne (by omega), nT_ne (by omega), nT_ne (by omega)]
theorem R_left (t1 t2 : TFn) (k : Nat) (v0 v1 v : Option (Nat × Nat)) : uT (RT t1 t2 k v0 v1) (k + 1) 0 0 v = RT t1 t2 k v v1 := by
  funext g j i
  by_cases h : g = k + 1 ∧ j = 0 ∧ i = 0
  · rw [uT_at h]; obtain ⟨rfl, rfl, rfl⟩ := h; rw [RT_0]
  · rw [uT_ne h]
    by_cases h1 : g = k + 1 ∧ j = 0 ∧ i = 1
    · obtain ⟨rfl, rfl, rfl⟩ := h1; rw [RT_1, RT_1]
    · rw [RT_ne (by omega), RT_ne (by omega)]
theorem R_right (t1 t2 : TFn) (k : Nat) (v1 : Option (Nat × Nat)) : uT (RT t1 t2 k (some (k + 1, 3)) v1) (k + 1) 0 1 (some (k + 1, 6)) = RF t1 t2 := by
  funext g j i
  by_cases h : g = k + 1 ∧ j = 0 ∧ i = 1
  · rw [uT_at h]; obtain ⟨rfl, rfl, rfl⟩ := h; rfl
  · rw [uT_ne h]
    by_cases h1 : g = k + 1 ∧ j = 0 ∧ i = 0
    · obtain ⟨rfl, rfl, rfl⟩ := h1; rw [RT_0]; rfl
    · rw [RT_ne (by omega)]
section
variable (d : Nat) (I : IFn) (R : RFn) (k : Nat) (sc : Nat × (Nat → Int32))
set_option maxRecDepth 20000 in
theorem q5_0 : den (d + 1, 5, 0, 0, [some (vr (k + 1) 0), some (vr 0 1), none, none, none, none], [], (I, R, (k + 1, 1), sc)) = den (d + 1, 5, 0, 12, [some (vr (k + 1) 0), some (vr 0 1), none, none, none, none], [], (zT I (k + 1) 1, uT (nT R (k + 1) 1) (k + 1) 0 2 (some (k + 1, 1)), (k + 1, 2), sc)) := (S_go rfl).trans ((S_go rfl).trans ((S_go rfl).trans ((S_go rfl).trans ((S_go rfl).trans (S_go rfl)))))
set_option maxRecDepth 20000 in
theorem q5_12 : den (d + 1, 5, 0, 12, [some (vr (k + 1) 0), some (vr 0 1), none, none, none, none], [], (I, R, (k + 1, 2), sc)) = den (d + 1, 5, 0, 20, [some (vr (k + 1) 0), some (vr 0 1), none, none, none, none], [], (zT I (k + 1) 2, uT (nT R (k + 1) 2) (k + 1) 0 3 (some (k + 1, 2)), (k + 1, 3), sc)) := (S_go rfl).trans ((S_go rfl).trans ((S_go rfl).trans (S_go rfl)))
set_option maxRecDepth 20000 in
theorem q5_97 (al : Nat × Nat) (x2 x3 x4 x5 : Int32) : den (d + 1, 5, 0, 97, [some (vr (k + 1) 0), some (vr 0 1), some (vi x2), some (vi x3), some (vi x4), some (vi x5)], [], (I, R, al, sc)) = den (d + 1, 5, 0, 102, [some (vr (k + 1) 0), some (vr 0 1), some (vi x2), some (vi x3), some (vi x4), some (vi x5)], [], (uI I (k + 1) 0 4 x3, R, al, sc)) := (S_go rfl).trans ((S_go rfl).trans (S_go rfl))
set_option maxRecDepth 20000 in
theorem q5_102 (x2 x3 x4 x5 : Int32) : den (d + 1, 5, 0, 102, [some (vr (k + 1) 0), some (vr 0 1), some (vi x2), some (vi x3), some (vi x4), some (vi x5)], [], (I, R, (k + 1, 3), sc)) = den (d + 1, 5, 0, 107, [some (vr (k + 1) 0), some (vr 0 1), some (vi x2), some (vi x3), some (vi x4), some (vi x5)], [vr (k + 1) 3, vr (k + 1) 3, vr (k + 1) 0], (zT I (k + 1) 3, nT R (k + 1) 3, (k + 1, 4), sc)) := (S_go rfl).trans ((S_go rfl).trans (S_go rfl))
set_option maxRecDepth 20000 in
theorem q5_107 (al : Nat × Nat) (x2 x3 x4 x5 : Int32) (hr : R 0 1 0 = some (0, 2)) : den (d + 1, 5, 0, 107, [some (vr (k + 1) 0), some (vr 0 1), some (vi x2), some (vi x3), some (vi x4), some (vi x5)], [vr (k + 1) 3, vr (k + 1) 3, vr (k + 1) 0], (I, R, al, sc)) = (den (d, 2, 0, 0, [some (vr (k + 1) 3), some (vr 0 2), some (vi 0), some (vi x2), none, none, none], [], (I, R, al, sc))).bind (fun o => den (d + 1, 5, 0, 116, [some (vr (k + 1) 0), some (vr 0 1), some (vi x2), some (vi x3), some (vi x4), some (vi x5)], o.1.toList ++ [vr (k + 1) 3, vr (k + 1) 0], o.2)) := by
  refine (show _ = den (d + 1, 5, 0, 111, [some (vr (k + 1) 0), some (vr 0 1), some (vi x2), some (vi x3), some (vi x4), some (vi x5)], [.inr (.inr (R 0 1 0)), vr (k + 1) 3, vr (k + 1) 3, vr (k + 1) 0], (I, R, al, sc)) from (S_go rfl).trans (S_go rfl)).trans ?_
  rw [hr]
  exact (S_go rfl).trans ((S_go rfl).trans (S_call rfl))
set_option maxRecDepth 20000 in
theorem q5_116 (al : Nat × Nat) (x2 x3 x4 x5 : Int32) : den (d + 1, 5, 0, 116, [some (vr (k + 1) 0), some (vr 0 1), some (vi x2), some (vi x3), some (vi x4), some (vi x5)], [vr (k + 1) 3, vr (k + 1) 0], (I, R, al, sc)) = den (d + 1, 5, 0, 119, [some (vr (k + 1) 0), some (vr 0 1), some (vi x2), some (vi x3), some (vi x4), some (vi x5)], [], (I, uT R (k + 1) 0 0 (some (k + 1, 3)), al, sc)) := S_go rfl
set_option maxRecDepth 20000 in
theorem q5_119 (x2 x3 x4 x5 : Int32) : den (d + 1, 5, 0, 119, [some (vr (k + 1) 0), some (vr 0 1), some (vi x2), some (vi x3), some (vi x4), some (vi x5)], [], (I, R, (k + 1, 6), sc)) = den (d + 1, 5, 0, 124, [some (vr (k + 1) 0), some (vr 0 1), some (vi x2), some (vi x3), some (vi x4), some (vi x5)], [vr (k + 1) 6, vr (k + 1) 6, vr (k + 1) 0], (zT I (k + 1) 6, nT R (k + 1) 6, (k + 1, 7), sc)) := (S_go rfl).trans ((S_go rfl).trans (S_go rfl))
set_option maxRecDepth 20000 in
theorem q5_124 (al : Nat × Nat) (x2 x3 x4 x5 : Int32) (hr : R 0 1 0 = some (0, 2)) : den (d + 1, 5, 0, 124, [some (vr (k + 1) 0), some (vr 0 1), some (vi x2), some (vi x3), some (vi x4), some (vi x5)], [vr (k + 1) 6, vr (k + 1) 6, vr (k + 1) 0], (I, R, al, sc)) = (den (d, 2, 0, 0, [some (vr (k + 1) 6), some (vr 0 2), some (vi (x2 + 1)), some (vi (I 0 1 1)), none, none, none], [], (I, R, al, sc))).bind (fun o => den (d + 1, 5, 0, 138, [some (vr (k + 1) 0), some (vr 0 1), some (vi x2), some (vi x3), some (vi x4), some (vi x5)], o.1.toList ++ [vr (k + 1) 6, vr (k + 1) 0], o.2)) := by
  refine (show _ = den (d + 1, 5, 0, 128, [some (vr (k + 1) 0), some (vr 0 1), some (vi x2), some (vi x3), some (vi x4), some (vi x5)], [.inr (.inr (R 0 1 0)), vr (k + 1) 6, vr (k + 1) 6, vr (k + 1) 0], (I, R, al, sc)) from (S_go rfl).trans (S_go rfl)).trans ?_
  rw [hr]
  exact (S_go rfl).trans ((S_go rfl).trans ((S_go rfl).trans ((S_go rfl).trans ((S_go rfl).trans (S_call rfl)))))
set_option maxRecDepth 20000 in
theorem q5_138 (al : Nat × Nat) (x2 x3 x4 x5 : Int32) : den (d + 1, 5, 0, 138, [some (vr (k + 1) 0), some (vr 0 1), some (vi x2), some (vi x3), some (vi x4), some (vi x5)], [vr (k + 1) 6, vr (k + 1) 0], (I, R, al, sc)) = den (d + 1, 5, 0, 141, [some (vr (k + 1) 0), some (vr 0 1), some (vi x2), some (vi x3), some (vi x4), some (vi x5)], [], (I, uT R (k + 1) 0 1 (some (k + 1, 6)), al, sc)) := S_go rfl
set_option maxRecDepth 20000 in
theorem q2_3a (x2 x3 : Int32) : den (d + 1, 2, 0, 0, [some (vr (k + 1) 3), some (vr 0 2), some (vi x2), some (vi x3), none, none, none], [], (I, R, (k + 1, 4), sc)) = den (d + 1, 2, 0, 17, [some (vr (k + 1) 3), some (vr 0 2), some (vi x2), some (vi x3), none, none, none], [], (uI (zT I (k + 1) 4) (k + 1) 3 1 0, uT (nT R (k + 1) 4) (k + 1) 3 0 (some (k + 1, 4)), (k + 1, 5), sc)) := (S_go rfl).trans ((S_go rfl).trans ((S_go rfl).trans ((S_go rfl).trans ((S_go rfl).trans ((S_go rfl).trans ((S_go rfl).trans ((S_go rfl).trans (S_go rfl))))))))
set_option maxRecDepth 20000 in
theorem q2_3b (x2 x3 : Int32) : den (d + 1, 2, 0, 17, [some (vr (k + 1) 3), some (vr 0 2), some (vi x2), some (vi x3), none, none, none], [], (I, R, (k + 1, 5), sc)) = den (d + 1, 2, 0, 30, [some (vr (k + 1) 3), some (vr 0 2), some (vi x2), some (vi x3), none, none, none], [], (uI (zT I (k + 1) 5) (k + 1) 3 3 0, uT (nT R (k + 1) 5) (k + 1) 3 2 (some (k + 1, 5)), (k + 1, 6), sc)) := (S_go rfl).trans ((S_go rfl).trans ((S_go rfl).trans ((S_go rfl).trans ((S_go rfl).trans ((S_go rfl).trans (S_go rfl))))))
set_option maxRecDepth 20000 in
theorem q2_6a (x2 x3 : Int32) : den (d + 1, 2, 0, 0, [some (vr (k + 1) 6), some (vr 0 2), some (vi x2), some (vi x3), none, none, none], [], (I, R, (k + 1, 7), sc)) = den (d + 1, 2, 0, 17, [some (vr (k + 1) 6), some (vr 0 2), some (vi x2), some (vi x3), none, none, none], [], (uI (zT I (k + 1) 7) (k + 1) 6 1 0, uT (nT R (k + 1) 7) (k + 1) 6 0 (some (k + 1, 7)), (k + 1, 8), sc)) := (S_go rfl).trans ((S_go rfl).trans ((S_go rfl).trans ((S_go rfl).trans ((S_go rfl).trans ((S_go rfl).trans ((S_go rfl).trans ((S_go rfl).trans (S_go rfl))))))))
set_option maxRecDepth 20000 in
theorem q2_6b (x2 x3 : Int32) : den (d + 1, 2, 0, 17, [some (vr (k + 1) 6), some (vr 0 2), some (vi x2), some (vi x3), none, none, none], [], (I, R, (k + 1, 8), sc)) = den (d + 1, 2, 0, 30, [some (vr (k + 1) 6), some (vr 0 2), some (vi x2), some (vi x3), none, none, none], [], (uI (zT I (k + 1) 8) (k + 1) 6 3 0, uT (nT R (k + 1) 8) (k + 1) 6 2 (some (k + 1, 8)), (k + 2, 0), sc)) := (S_go rfl).trans ((S_go rfl).trans ((S_go rfl).trans ((S_go rfl).trans ((S_go rfl).trans ((S_go rfl).trans (S_go rfl))))))
end
