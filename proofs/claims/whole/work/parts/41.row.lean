theorem x_row (d : Nat) {g a : Nat} (hg : g = 8 ∨ g = 24 ∨ g = 35) (ha : a < 9) (I : IFn) (t1 t2 : TFn) (k : Nat) (sc : Nat × (Nat → Int32)) : den (d, 0, 1, 0, [some (vr 0 g), some (vi (nI a))], [], mkH I t1 t2 k sc) = some (some (vr 0 (g + 1 + a)), mkH I t1 t2 k sc) := by
  have e : (nI a).toInt = (a : Int) := nI_toInt (by omega)
  rw [b0_1_0, e]
  match a, ha with
  | 0, _ => exact b0_1_48 d hg _ I t1 t2 k sc
  | 1, _ => exact b0_1_53 d hg _ I t1 t2 k sc
  | 2, _ => exact b0_1_58 d hg _ I t1 t2 k sc
  | 3, _ => exact b0_1_63 d hg _ I t1 t2 k sc
  | 4, _ => exact b0_1_68 d hg _ I t1 t2 k sc
  | 5, _ => exact b0_1_73 d hg _ I t1 t2 k sc
  | 6, _ => exact b0_1_78 d hg _ I t1 t2 k sc
  | 7, _ => exact b0_1_83 d hg _ I t1 t2 k sc
  | 8, _ => exact b0_1_88 d hg _ I t1 t2 k sc
  | n + 9, h => omega
