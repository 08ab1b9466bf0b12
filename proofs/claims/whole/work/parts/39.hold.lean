section
variable (I : IFn) (t1 t2 : TFn) (k : Nat) (sc : Nat × (Nat → Int32))
theorem x_hold_ok {n p : Nat} (hn : n ≤ 8) (h0 : I 0 4 3 = nI n) (ht : ∀ q, q < n → ∃ e, t1 q = some (e + 1, 0)) (hp : p < 10) {v : Int32} (hv : v = -1 ∨ (0 ≤ v.toInt ∧ v.toInt < n)) : den (10, 7, 30, 0, [some (vr 0 0), some (vi (nI p)), some (vi v)], [], mkH I t1 t2 k sc) = some (some (vi 1), mkH (uI I 0 18 p v) t1 t2 k sc) := by
  have hp2 : 0 ≤ (nI p).toInt ∧ (nI p).toInt ≤ 9 := by rw [nI_toInt (by omega)]; omega
  have hend : den (10, 7, 30, 27, [some (vr 0 0), some (vi (nI p)), some (vi v)], [], mkH I t1 t2 k sc) = some (some (vi 1), mkH (uI I 0 18 p v) t1 t2 k sc) := by
    rw [b7_30_27 9, inb_n hp (by omega), cond_true, nI_clamp (by omega)]
  rw [b7_30_0 9, x_isSpot 8]
  refine (b7_30_4 9 (nI p) v _ I t1 t2 k sc).trans ?_
  rw [cdec, Bo_t hp2, if_neg (by decide), b7_30_7 9, cdec]
  by_cases h1 : v = -1
  · rw [if_pos h1]; exact hend
  · rw [if_neg h1, b7_30_12 9, x_isSum 8 I t1 t2 k sc hn h0 ht]
    refine (b7_30_17 9 (nI p) v _ I t1 t2 k sc).trans ?_
    rw [cdec, Bo_t (hv.resolve_left h1), if_neg (by decide)]
    exact hend
theorem x_hold_no {n : Nat} (hn : n ≤ 8) (h0 : I 0 4 3 = nI n) (ht : ∀ q, q < n → ∃ e, t1 q = some (e + 1, 0)) {x v : Int32} (hv : ¬ ((0 ≤ x.toInt ∧ x.toInt ≤ 9) ∧ (v = -1 ∨ (0 ≤ v.toInt ∧ v.toInt < n)))) : den (10, 7, 30, 0, [some (vr 0 0), some (vi x), some (vi v)], [], mkH I t1 t2 k sc) = some (some (vi (-1000001)), mkH (uI I 0 47 0 (I 0 47 0 + 1)) t1 t2 k sc) := by
  have hend : den (10, 7, 30, 20, [some (vr 0 0), some (vi x), some (vi v)], [], mkH I t1 t2 k sc) = some (some (vi (-1000001)), mkH (uI I 0 47 0 (I 0 47 0 + 1)) t1 t2 k sc) := by
    rw [b7_30_20 9, x_find (f := 0) (hf := by omega) (hw := by decide)]
    exact b7_30_26 9 x v _ _ t1 t2 k sc
  rw [b7_30_0 9, x_isSpot 8]
  refine (b7_30_4 9 x v _ I t1 t2 k sc).trans ?_
  by_cases hp : 0 ≤ x.toInt ∧ x.toInt ≤ 9
  · rw [cdec, Bo_t hp, if_neg (by decide), b7_30_7 9, cdec, if_neg (fun q => hv ⟨hp, Or.inl q⟩), b7_30_12 9, x_isSum 8 I t1 t2 k sc hn h0 ht]
    refine (b7_30_17 9 x v _ I t1 t2 k sc).trans ?_
    rw [cdec, Bo_f (fun q => hv ⟨hp, Or.inr q⟩), if_pos rfl]
    exact hend
  · rw [cdec, Bo_f hp, if_pos rfl]
    exact hend
end
