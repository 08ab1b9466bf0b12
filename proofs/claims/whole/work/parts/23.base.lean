abbrev IFn : Type := Nat → Nat → Nat → Int32
abbrev TFn : Type := Nat → Option (Nat × Nat)
abbrev INV : Type := IFn → TFn → TFn → Nat → Prop
/-! numbers: branches, bounds -/
theorem cdec {α : Type} (p : Prop) [Decidable p] (a b : α) : (bif decide p then a else b) = if p then a else b := by by_cases h : p <;> simp [h]
def Bo (p : Prop) [Decidable p] : Int32 := if p then 1 else 0
theorem Bo_t {p : Prop} [Decidable p] (h : p) : Bo p = 1 := if_pos h
theorem Bo_f {p : Prop} [Decidable p] (h : ¬ p) : Bo p = 0 := if_neg h
theorem Bo_ok (p : Prop) [Decidable p] : (decide (Bo p = 0) || decide (Bo p = 1)) = true := by
  by_cases h : p
  · rw [Bo_t h]; rfl
  · rw [Bo_f h]; rfl
theorem Bo_0 (p : Prop) [Decidable p] : Bo p = 0 ↔ ¬ p := by
  by_cases h : p
  · rw [Bo_t h]; simp [h]
  · rw [Bo_f h]; simp [h]
theorem Bo_congr {p q : Prop} [Decidable p] [Decidable q] (h : p ↔ q) : Bo p = Bo q := by
  by_cases hp : p
  · rw [Bo_t hp, Bo_t (h.mp hp)]
  · rw [Bo_f hp, Bo_f (fun z => hp (h.mpr z))]
theorem uI_ap (I : IFn) (g j i : Nat) (v : Int32) (g' j' i' : Nat) : uI I g j i v g' j' i' = if g' = g ∧ j' = j ∧ i' = i then v else I g' j' i' := rfl
theorem uI_eq (I : IFn) (g j i : Nat) (v : Int32) : uI I g j i v g j i = v := if_pos ⟨rfl, rfl, rfl⟩
theorem uI_nej {I : IFn} {g j i : Nat} {v : Int32} {j' i' : Nat} (h : j' ≠ j) : uI I g j i v g j' i' = I g j' i' := if_neg (fun q => h q.2.1)
theorem uI_nei {I : IFn} {g j i : Nat} {v : Int32} {i' : Nat} (h : i' ≠ i) : uI I g j i v g j i' = I g j i' := if_neg (fun q => h q.2.2)
theorem uI_row {I : IFn} {g j i : Nat} {v : Int32} {j' : Nat} (h : j' ≠ j) : uI I g j i v g j' = I g j' := funext fun _ => uI_nej h
theorem uI_self {I : IFn} {g j i : Nat} {v : Int32} : uI I g j i v g j = upd (I g j) i v := by
  funext x
  by_cases h : x = i
  · subst h; rw [uI_eq]; simp [upd]
  · rw [uI_nei h]; simp [upd, h]
theorem uI_grp {I : IFn} {g j i : Nat} {v : Int32} {g' : Nat} (h : g' ≠ g) : uI I g j i v g' = I g' := funext fun _ => funext fun _ => if_neg (fun q => h q.1)
/-- within bounds -/
theorem inb_n {n m : Nat} (h : n < m) (hm : m ≤ 4000) : inb (nI n) m = true := by
  have e2 := nI_clamp (n := n) (by omega)
  have e3 := nI_pos (n := n) (by omega)
  rw [inb, e2]
  simp only [e3, decide_false, Bool.false_or, Bool.not_eq_true', decide_eq_false_iff_not]
  omega
/-- an int between 0 and a bound, as a number -/
theorem nat_of {x : Int32} {m : Nat} (h0 : 0 ≤ x.toInt) (h1 : x.toInt < m) (hm : m ≤ 4000) : ∃ n : Nat, n < m ∧ x = nI n := by
  refine ⟨x.toInt.toNat, by omega, ?_⟩
  apply Int32.toInt_inj.mp
  rw [nI_toInt (by omega)]
  omega
section
variable (d : Nat) (I : IFn) (t1 t2 : TFn) (k : Nat) (sc : Nat × (Nat → Int32))
/-- in(v, low, high) -/
theorem m_in (a b c : Int64) : den (d, 8, 1, 0, [some (vl a), none, some (vl b), none, some (vl c), none], [], mkH I t1 t2 k sc) = some (some (vi (Bo (b.toInt ≤ a.toInt ∧ a.toInt ≤ c.toInt))), mkH I t1 t2 k sc) := by
  rw [b8_1_0, cdec]
  by_cases h1 : lg_cmp a b < 0
  · rw [if_pos h1, b8_1_17, b8_1_18]
    have h2 := Int64.lt_iff_toInt_lt.mp ((lg_cmp_lt a b).mp h1)
    rw [Bo_f (by omega)]
    rfl
  · rw [if_neg h1, b8_1_6, cdec]
    have h2 : ¬ a.toInt < b.toInt := fun q => h1 ((lg_cmp_lt a b).mpr (Int64.lt_iff_toInt_lt.mpr q))
    by_cases h3 : 0 < lg_cmp a c
    · have h4 := Int64.lt_iff_toInt_lt.mp ((lg_cmp_gt a c).mp h3)
      rw [if_pos h3, b8_1_17, b8_1_18, Bo_f (by omega)]
      rfl
    · have h4 : ¬ c.toInt < a.toInt := fun q => h3 ((lg_cmp_gt a c).mpr (Int64.lt_iff_toInt_lt.mpr q))
      rw [if_neg h3, b8_1_13, b8_1_18, Bo_t (by omega)]
      rfl
theorem m_in32 (x : Int32) (b c : Int64) : den (d, 8, 1, 0, [some (vl x.toInt64), none, some (vl b), none, some (vl c), none], [], mkH I t1 t2 k sc) = some (some (vi (Bo (b.toInt ≤ x.toInt ∧ x.toInt ≤ c.toInt))), mkH I t1 t2 k sc) := by
  rw [m_in]
  simp only [Int32.toInt_toInt64]
theorem m_at (p w : Int32) : den (d, 8, 3, 0, [some (vi p), some (vi w)], [], mkH I t1 t2 k sc) = some (some (vi (5 + 9 * p + w)), mkH I t1 t2 k sc) := b8_3_0 d p w I t1 t2 k sc
theorem m_isMan (x : Int32) : den (d + 1, 8, 5, 0, [some (vi x)], [], mkH I t1 t2 k sc) = some (some (vi (Bo (0 ≤ x.toInt ∧ x.toInt ≤ 9))), mkH I t1 t2 k sc) := by
  rw [b8_5_0, m_in32]
  refine (b8_5_9 d x _ I t1 t2 k sc).trans ?_
  rw [Bo_ok, cond_true]
  rfl
end
