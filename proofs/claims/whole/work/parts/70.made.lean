abbrev RFn : Type := Nat → Nat → Nat → Option (Nat × Nat)
def z0 (I : IFn) (j : Nat) : IFn := fun g' j' i' => if g' = 0 ∧ j' = j then 0 else I g' j' i'
def n0 (R : RFn) (j : Nat) : RFn := fun g' j' i' => if g' = 0 ∧ j' = j then none else R g' j' i'
def uR (R : RFn) (j i : Nat) (v : Option (Nat × Nat)) : RFn := fun g' j' i' => if g' = 0 ∧ j' = j ∧ i' = i then v else R g' j' i'
def flI (I : IFn) (j : Nat) (v : Int32) : Nat → IFn
  | 0 => I
  | p + 1 => uI (flI I j v p) 0 j p v
abbrev fq (q : Nat) : Prop := q = 9 ∨ q = 10 ∨ q = 11 ∨ q = 13 ∨ q = 15 ∨ q = 18 ∨ q = 25 ∨ q = 26 ∨ q = 27 ∨ q = 29 ∨ q = 31 ∨ q = 34 ∨ q = 36 ∨ q = 37 ∨ q = 38 ∨ q = 40 ∨ q = 42
theorem rf_0 (d : Nat) {q : Nat} (hq : fq q) (v : Int32) (h : AH) : den (d, 12, 0, 0, [some (vr 0 q), some (vi v), none, none], [], h) = den (d, 12, 0, 5, [some (vr 0 q), some (vi v), some (vi 0), some (vi 10)], [], h) := by rcases hq with rfl | rfl | rfl | rfl | rfl | rfl | rfl | rfl | rfl | rfl | rfl | rfl | rfl | rfl | rfl | rfl | rfl <;> exact (S_go rfl).trans ((S_go rfl).trans ((S_go rfl).trans ((S_go rfl).trans (S_go rfl))))
theorem rf_5 (d q : Nat) (v x2 x3 : Int32) (h : AH) : den (d, 12, 0, 5, [some (vr 0 q), some (vi v), some (vi x2), some (vi x3)], [], h) = bif decide (x2 < x3) then den (d, 12, 0, 10, [some (vr 0 q), some (vi v), some (vi x2), some (vi x3)], [], h) else den (d, 12, 0, 20, [some (vr 0 q), some (vi v), some (vi x2), some (vi x3)], [], h) := (S_go rfl).trans ((S_go rfl).trans ((S_br rfl).trans rfl))
theorem rf_10 (d : Nat) {q : Nat} (hq : fq q) (v x2 x3 : Int32) (I : IFn) (R : RFn) (al : Nat × Nat) (sc : Nat × (Nat → Int32)) : den (d, 12, 0, 10, [some (vr 0 q), some (vi v), some (vi x2), some (vi x3)], [], (I, R, al, sc)) = bif inb x2 10 then den (d, 12, 0, 5, [some (vr 0 q), some (vi v), some (vi (x2 + 1)), some (vi x3)], [], (uI I 0 q x2.toNatClampNeg v, R, al, sc)) else none := by rcases hq with rfl | rfl | rfl | rfl | rfl | rfl | rfl | rfl | rfl | rfl | rfl | rfl | rfl | rfl | rfl | rfl | rfl <;> exact (S_go rfl).trans ((S_go rfl).trans ((S_go rfl).trans ((S_br0 rfl).trans (congrArg (fun z => bif inb x2 10 then z else none) ((S_go rfl).trans (S_go rfl))))))
theorem rf_20 (d q : Nat) (v x2 x3 : Int32) (h : AH) : den (d, 12, 0, 20, [some (vr 0 q), some (vi v), some (vi x2), some (vi x3)], [], h) = some (none, h) := S_ret rfl
theorem r_fill (d : Nat) {q : Nat} (hq : fq q) (v : Int32) (I : IFn) (R : RFn) (al : Nat × Nat) (sc : Nat × (Nat → Int32)) : den (d, 12, 0, 0, [some (vr 0 q), some (vi v), none, none], [], (I, R, al, sc)) = some (none, (flI I q v 10, R, al, sc)) := by
  rw [rf_0 d hq]
  refine (lp (fun p => den (d, 12, 0, 5, [some (vr 0 q), some (vi v), some (vi (nI p)), some (vi 10)], [], (flI I q v p, R, al, sc))) (N := 10) ?_ 0 (by omega)).trans ?_
  · intro p hp
    have h1 : nI p < (10 : Int32) := by rw [lt_10 (by omega)]; exact hp
    have h2 : inb (nI p) 10 = true := inb_n hp (by omega)
    show den _ = den _
    rw [rf_5, decide_eq_true h1, cond_true, rf_10 d hq, h2, cond_true, nI_clamp (by omega), nI_1]
    rfl
  · have h1 : ¬ nI 10 < (10 : Int32) := by decide
    show den _ = _
    rw [rf_5, decide_eq_false h1, cond_false, rf_20]
set_option maxRecDepth 20000 in
theorem k4_s0 (d : Nat) (I : IFn) (R : RFn) (sc : Nat × (Nat → Int32)) : den (d + 1, 4, 0, 0, [some (vr 0 1)], [], (I, R, (0, 2), sc)) = den (d + 1, 4, 0, 12, [some (vr 0 1)], [], (z0 (I) 2, uR (n0 (R) 2) 1 0 (some (0, 2)), (0, 3), sc)) := (S_go rfl).trans ((S_go rfl).trans ((S_go rfl).trans ((S_go rfl).trans ((S_go rfl).trans (S_go rfl)))))
set_option maxRecDepth 20000 in
theorem k4_s12 (d : Nat) (I : IFn) (R : RFn) (sc : Nat × (Nat → Int32)) : den (d + 1, 4, 0, 12, [some (vr 0 1)], [], (I, R, (0, 3), sc)) = den (d + 1, 4, 0, 17, [some (vr 0 1)], [], (uI (I) 0 1 1 0, R, (0, 3), sc)) := (S_go rfl).trans ((S_go rfl).trans (S_go rfl))
theorem k4 (d : Nat) (I : IFn) (R : RFn) (sc : Nat × (Nat → Int32)) : den (d + 1, 4, 0, 0, [some (vr 0 1)], [], (I, R, (0, 2), sc)) = den (d + 1, 4, 0, 17, [some (vr 0 1)], [], (uI ((z0 (I) 2)) 0 1 1 0, (uR (n0 (R) 2) 1 0 (some (0, 2))), (0, 3), sc)) := (k4_s0 d _ _ sc).trans (k4_s12 d _ _ sc)
theorem k4r (d : Nat) (h : AH) : den (d, 4, 0, 17, [some (vr 0 1)], [], h) = some (none, h) := S_ret rfl
set_option maxRecDepth 20000 in
theorem k3_4_s0 (d : Nat) (I : IFn) (R : RFn) (sc : Nat × (Nat → Int32)) : den (d + 1, 3, 0, 0, [some (vr 0 4)], [], (I, R, (0, 5), sc)) = den (d + 1, 3, 0, 13, [some (vr 0 4)], [], (z0 (I) 5, uR (n0 (R) 5) 4 0 (some (0, 5)), (0, 6), sc)) := (S_go rfl).trans ((S_go rfl).trans ((S_go rfl).trans ((S_go rfl).trans ((S_go rfl).trans (S_go rfl)))))
set_option maxRecDepth 20000 in
theorem k3_4_s13 (d : Nat) (I : IFn) (R : RFn) (sc : Nat × (Nat → Int32)) : den (d + 1, 3, 0, 13, [some (vr 0 4)], [], (I, R, (0, 6), sc)) = den (d + 1, 3, 0, 21, [some (vr 0 4)], [], (z0 (I) 6, uR (n0 (R) 6) 4 1 (some (0, 6)), (0, 7), sc)) := (S_go rfl).trans ((S_go rfl).trans ((S_go rfl).trans (S_go rfl)))
set_option maxRecDepth 20000 in
theorem k3_4_s21 (d : Nat) (I : IFn) (R : RFn) (sc : Nat × (Nat → Int32)) : den (d + 1, 3, 0, 21, [some (vr 0 4)], [], (I, R, (0, 7), sc)) = den (d + 1, 3, 0, 29, [some (vr 0 4)], [], (z0 (I) 7, uR (n0 (R) 7) 4 2 (some (0, 7)), (0, 8), sc)) := (S_go rfl).trans ((S_go rfl).trans ((S_go rfl).trans (S_go rfl)))
set_option maxRecDepth 20000 in
theorem k3_4_s29 (d : Nat) (I : IFn) (R : RFn) (sc : Nat × (Nat → Int32)) : den (d + 1, 3, 0, 29, [some (vr 0 4)], [], (I, R, (0, 8), sc)) = den (d + 1, 3, 0, 34, [some (vr 0 4)], [], (uI (I) 0 4 3 0, R, (0, 8), sc)) := (S_go rfl).trans ((S_go rfl).trans (S_go rfl))
theorem k3_4 (d : Nat) (I : IFn) (R : RFn) (sc : Nat × (Nat → Int32)) : den (d + 1, 3, 0, 0, [some (vr 0 4)], [], (I, R, (0, 5), sc)) = den (d + 1, 3, 0, 34, [some (vr 0 4)], [], (uI ((z0 ((z0 ((z0 (I) 5)) 6)) 7)) 0 4 3 0, (uR (n0 ((uR (n0 ((uR (n0 (R) 5) 4 0 (some (0, 5)))) 6) 4 1 (some (0, 6)))) 7) 4 2 (some (0, 7))), (0, 8), sc)) := (k3_4_s0 d _ _ sc).trans ((k3_4_s13 d _ _ sc).trans ((k3_4_s21 d _ _ sc).trans (k3_4_s29 d _ _ sc)))
theorem k3r_4 (d : Nat) (h : AH) : den (d, 3, 0, 34, [some (vr 0 4)], [], h) = some (none, h) := S_ret rfl
set_option maxRecDepth 20000 in
theorem k3_20_s0 (d : Nat) (I : IFn) (R : RFn) (sc : Nat × (Nat → Int32)) : den (d + 1, 3, 0, 0, [some (vr 0 20)], [], (I, R, (0, 21), sc)) = den (d + 1, 3, 0, 13, [some (vr 0 20)], [], (z0 (I) 21, uR (n0 (R) 21) 20 0 (some (0, 21)), (0, 22), sc)) := (S_go rfl).trans ((S_go rfl).trans ((S_go rfl).trans ((S_go rfl).trans ((S_go rfl).trans (S_go rfl)))))
set_option maxRecDepth 20000 in
theorem k3_20_s13 (d : Nat) (I : IFn) (R : RFn) (sc : Nat × (Nat → Int32)) : den (d + 1, 3, 0, 13, [some (vr 0 20)], [], (I, R, (0, 22), sc)) = den (d + 1, 3, 0, 21, [some (vr 0 20)], [], (z0 (I) 22, uR (n0 (R) 22) 20 1 (some (0, 22)), (0, 23), sc)) := (S_go rfl).trans ((S_go rfl).trans ((S_go rfl).trans (S_go rfl)))
set_option maxRecDepth 20000 in
theorem k3_20_s21 (d : Nat) (I : IFn) (R : RFn) (sc : Nat × (Nat → Int32)) : den (d + 1, 3, 0, 21, [some (vr 0 20)], [], (I, R, (0, 23), sc)) = den (d + 1, 3, 0, 29, [some (vr 0 20)], [], (z0 (I) 23, uR (n0 (R) 23) 20 2 (some (0, 23)), (0, 24), sc)) := (S_go rfl).trans ((S_go rfl).trans ((S_go rfl).trans (S_go rfl)))
set_option maxRecDepth 20000 in
theorem k3_20_s29 (d : Nat) (I : IFn) (R : RFn) (sc : Nat × (Nat → Int32)) : den (d + 1, 3, 0, 29, [some (vr 0 20)], [], (I, R, (0, 24), sc)) = den (d + 1, 3, 0, 34, [some (vr 0 20)], [], (uI (I) 0 20 3 0, R, (0, 24), sc)) := (S_go rfl).trans ((S_go rfl).trans (S_go rfl))
theorem k3_20 (d : Nat) (I : IFn) (R : RFn) (sc : Nat × (Nat → Int32)) : den (d + 1, 3, 0, 0, [some (vr 0 20)], [], (I, R, (0, 21), sc)) = den (d + 1, 3, 0, 34, [some (vr 0 20)], [], (uI ((z0 ((z0 ((z0 (I) 21)) 22)) 23)) 0 20 3 0, (uR (n0 ((uR (n0 ((uR (n0 (R) 21) 20 0 (some (0, 21)))) 22) 20 1 (some (0, 22)))) 23) 20 2 (some (0, 23))), (0, 24), sc)) := (k3_20_s0 d _ _ sc).trans ((k3_20_s13 d _ _ sc).trans ((k3_20_s21 d _ _ sc).trans (k3_20_s29 d _ _ sc)))
theorem k3r_20 (d : Nat) (h : AH) : den (d, 3, 0, 34, [some (vr 0 20)], [], h) = some (none, h) := S_ret rfl
set_option maxRecDepth 20000 in
theorem k1_48_s0 (d : Nat) (I : IFn) (R : RFn) (sc : Nat × (Nat → Int32)) : den (d + 1, 1, 0, 0, [some (vr 0 48)], [], (I, R, (0, 49), sc)) = den (d + 1, 1, 0, 12, [some (vr 0 48)], [], (z0 (I) 49, uR (n0 (R) 49) 48 0 (some (0, 49)), (0, 50), sc)) := (S_go rfl).trans ((S_go rfl).trans ((S_go rfl).trans ((S_go rfl).trans ((S_go rfl).trans (S_go rfl)))))
set_option maxRecDepth 20000 in
theorem k1_48_s12 (d : Nat) (I : IFn) (R : RFn) (sc : Nat × (Nat → Int32)) : den (d + 1, 1, 0, 12, [some (vr 0 48)], [], (I, R, (0, 50), sc)) = den (d + 1, 1, 0, 17, [some (vr 0 48)], [], (uI (I) 0 48 1 0, R, (0, 50), sc)) := (S_go rfl).trans ((S_go rfl).trans (S_go rfl))
set_option maxRecDepth 20000 in
theorem k1_48_s17 (d : Nat) (I : IFn) (R : RFn) (sc : Nat × (Nat → Int32)) : den (d + 1, 1, 0, 17, [some (vr 0 48)], [], (I, R, (0, 50), sc)) = den (d + 1, 1, 0, 22, [some (vr 0 48)], [], (uI (I) 0 48 2 0, R, (0, 50), sc)) := (S_go rfl).trans ((S_go rfl).trans (S_go rfl))
theorem k1_48 (d : Nat) (I : IFn) (R : RFn) (sc : Nat × (Nat → Int32)) : den (d + 1, 1, 0, 0, [some (vr 0 48)], [], (I, R, (0, 49), sc)) = den (d + 1, 1, 0, 22, [some (vr 0 48)], [], (uI ((uI ((z0 (I) 49)) 0 48 1 0)) 0 48 2 0, ((uR (n0 (R) 49) 48 0 (some (0, 49)))), (0, 50), sc)) := (k1_48_s0 d _ _ sc).trans ((k1_48_s12 d _ _ sc).trans (k1_48_s17 d _ _ sc))
theorem k1r_48 (d : Nat) (h : AH) : den (d, 1, 0, 22, [some (vr 0 48)], [], h) = some (none, h) := S_ret rfl
set_option maxRecDepth 20000 in
theorem k1_50_s0 (d : Nat) (I : IFn) (R : RFn) (sc : Nat × (Nat → Int32)) : den (d + 1, 1, 0, 0, [some (vr 0 50)], [], (I, R, (0, 51), sc)) = den (d + 1, 1, 0, 12, [some (vr 0 50)], [], (z0 (I) 51, uR (n0 (R) 51) 50 0 (some (0, 51)), (0, 52), sc)) := (S_go rfl).trans ((S_go rfl).trans ((S_go rfl).trans ((S_go rfl).trans ((S_go rfl).trans (S_go rfl)))))
set_option maxRecDepth 20000 in
theorem k1_50_s12 (d : Nat) (I : IFn) (R : RFn) (sc : Nat × (Nat → Int32)) : den (d + 1, 1, 0, 12, [some (vr 0 50)], [], (I, R, (0, 52), sc)) = den (d + 1, 1, 0, 17, [some (vr 0 50)], [], (uI (I) 0 50 1 0, R, (0, 52), sc)) := (S_go rfl).trans ((S_go rfl).trans (S_go rfl))
set_option maxRecDepth 20000 in
theorem k1_50_s17 (d : Nat) (I : IFn) (R : RFn) (sc : Nat × (Nat → Int32)) : den (d + 1, 1, 0, 17, [some (vr 0 50)], [], (I, R, (0, 52), sc)) = den (d + 1, 1, 0, 22, [some (vr 0 50)], [], (uI (I) 0 50 2 0, R, (0, 52), sc)) := (S_go rfl).trans ((S_go rfl).trans (S_go rfl))
theorem k1_50 (d : Nat) (I : IFn) (R : RFn) (sc : Nat × (Nat → Int32)) : den (d + 1, 1, 0, 0, [some (vr 0 50)], [], (I, R, (0, 51), sc)) = den (d + 1, 1, 0, 22, [some (vr 0 50)], [], (uI ((uI ((z0 (I) 51)) 0 50 1 0)) 0 50 2 0, ((uR (n0 (R) 51) 50 0 (some (0, 51)))), (0, 52), sc)) := (k1_50_s0 d _ _ sc).trans ((k1_50_s12 d _ _ sc).trans (k1_50_s17 d _ _ sc))
theorem k1r_50 (d : Nat) (h : AH) : den (d, 1, 0, 22, [some (vr 0 50)], [], h) = some (none, h) := S_ret rfl
set_option maxRecDepth 20000 in
theorem k1_52_s0 (d : Nat) (I : IFn) (R : RFn) (sc : Nat × (Nat → Int32)) : den (d + 1, 1, 0, 0, [some (vr 0 52)], [], (I, R, (0, 53), sc)) = den (d + 1, 1, 0, 12, [some (vr 0 52)], [], (z0 (I) 53, uR (n0 (R) 53) 52 0 (some (0, 53)), (0, 54), sc)) := (S_go rfl).trans ((S_go rfl).trans ((S_go rfl).trans ((S_go rfl).trans ((S_go rfl).trans (S_go rfl)))))
set_option maxRecDepth 20000 in
theorem k1_52_s12 (d : Nat) (I : IFn) (R : RFn) (sc : Nat × (Nat → Int32)) : den (d + 1, 1, 0, 12, [some (vr 0 52)], [], (I, R, (0, 54), sc)) = den (d + 1, 1, 0, 17, [some (vr 0 52)], [], (uI (I) 0 52 1 0, R, (0, 54), sc)) := (S_go rfl).trans ((S_go rfl).trans (S_go rfl))
set_option maxRecDepth 20000 in
theorem k1_52_s17 (d : Nat) (I : IFn) (R : RFn) (sc : Nat × (Nat → Int32)) : den (d + 1, 1, 0, 17, [some (vr 0 52)], [], (I, R, (0, 54), sc)) = den (d + 1, 1, 0, 22, [some (vr 0 52)], [], (uI (I) 0 52 2 0, R, (0, 54), sc)) := (S_go rfl).trans ((S_go rfl).trans (S_go rfl))
theorem k1_52 (d : Nat) (I : IFn) (R : RFn) (sc : Nat × (Nat → Int32)) : den (d + 1, 1, 0, 0, [some (vr 0 52)], [], (I, R, (0, 53), sc)) = den (d + 1, 1, 0, 22, [some (vr 0 52)], [], (uI ((uI ((z0 (I) 53)) 0 52 1 0)) 0 52 2 0, ((uR (n0 (R) 53) 52 0 (some (0, 53)))), (0, 54), sc)) := (k1_52_s0 d _ _ sc).trans ((k1_52_s12 d _ _ sc).trans (k1_52_s17 d _ _ sc))
theorem k1r_52 (d : Nat) (h : AH) : den (d, 1, 0, 22, [some (vr 0 52)], [], h) = some (none, h) := S_ret rfl
set_option maxRecDepth 20000 in
theorem k1_54_s0 (d : Nat) (I : IFn) (R : RFn) (sc : Nat × (Nat → Int32)) : den (d + 1, 1, 0, 0, [some (vr 0 54)], [], (I, R, (0, 55), sc)) = den (d + 1, 1, 0, 12, [some (vr 0 54)], [], (z0 (I) 55, uR (n0 (R) 55) 54 0 (some (0, 55)), (0, 56), sc)) := (S_go rfl).trans ((S_go rfl).trans ((S_go rfl).trans ((S_go rfl).trans ((S_go rfl).trans (S_go rfl)))))
set_option maxRecDepth 20000 in
theorem k1_54_s12 (d : Nat) (I : IFn) (R : RFn) (sc : Nat × (Nat → Int32)) : den (d + 1, 1, 0, 12, [some (vr 0 54)], [], (I, R, (0, 56), sc)) = den (d + 1, 1, 0, 17, [some (vr 0 54)], [], (uI (I) 0 54 1 0, R, (0, 56), sc)) := (S_go rfl).trans ((S_go rfl).trans (S_go rfl))
set_option maxRecDepth 20000 in
theorem k1_54_s17 (d : Nat) (I : IFn) (R : RFn) (sc : Nat × (Nat → Int32)) : den (d + 1, 1, 0, 17, [some (vr 0 54)], [], (I, R, (0, 56), sc)) = den (d + 1, 1, 0, 22, [some (vr 0 54)], [], (uI (I) 0 54 2 0, R, (0, 56), sc)) := (S_go rfl).trans ((S_go rfl).trans (S_go rfl))
theorem k1_54 (d : Nat) (I : IFn) (R : RFn) (sc : Nat × (Nat → Int32)) : den (d + 1, 1, 0, 0, [some (vr 0 54)], [], (I, R, (0, 55), sc)) = den (d + 1, 1, 0, 22, [some (vr 0 54)], [], (uI ((uI ((z0 (I) 55)) 0 54 1 0)) 0 54 2 0, ((uR (n0 (R) 55) 54 0 (some (0, 55)))), (0, 56), sc)) := (k1_54_s0 d _ _ sc).trans ((k1_54_s12 d _ _ sc).trans (k1_54_s17 d _ _ sc))
theorem k1r_54 (d : Nat) (h : AH) : den (d, 1, 0, 22, [some (vr 0 54)], [], h) = some (none, h) := S_ret rfl
set_option maxRecDepth 20000 in
theorem k0_8_s0 (d : Nat) (I : IFn) (R : RFn) (sc : Nat × (Nat → Int32)) : den (d + 1, 0, 0, 0, [some (vr 0 8), none], [], (I, R, (0, 9), sc)) = den (d + 1, 0, 0, 12, [some (vr 0 8), none], [], (z0 (I) 9, uR (n0 (R) 9) 8 0 (some (0, 9)), (0, 10), sc)) := (S_go rfl).trans ((S_go rfl).trans ((S_go rfl).trans ((S_go rfl).trans ((S_go rfl).trans (S_go rfl)))))
set_option maxRecDepth 20000 in
theorem k0_8_s12 (d : Nat) (I : IFn) (R : RFn) (sc : Nat × (Nat → Int32)) : den (d + 1, 0, 0, 12, [some (vr 0 8), none], [], (I, R, (0, 10), sc)) = den (d + 1, 0, 0, 20, [some (vr 0 8), none], [], (z0 (I) 10, uR (n0 (R) 10) 8 1 (some (0, 10)), (0, 11), sc)) := (S_go rfl).trans ((S_go rfl).trans ((S_go rfl).trans (S_go rfl)))
set_option maxRecDepth 20000 in
theorem k0_8_s20 (d : Nat) (I : IFn) (R : RFn) (sc : Nat × (Nat → Int32)) : den (d + 1, 0, 0, 20, [some (vr 0 8), none], [], (I, R, (0, 11), sc)) = den (d + 1, 0, 0, 28, [some (vr 0 8), none], [], (z0 (I) 11, uR (n0 (R) 11) 8 2 (some (0, 11)), (0, 12), sc)) := (S_go rfl).trans ((S_go rfl).trans ((S_go rfl).trans (S_go rfl)))
set_option maxRecDepth 20000 in
theorem k0_8_s28 (d : Nat) (I : IFn) (R : RFn) (sc : Nat × (Nat → Int32)) : den (d + 1, 0, 0, 28, [some (vr 0 8), none], [], (I, R, (0, 12), sc)) = den (d + 1, 0, 0, 36, [some (vr 0 8), none], [], (z0 (I) 12, uR (n0 (R) 12) 8 3 (some (0, 12)), (0, 13), sc)) := (S_go rfl).trans ((S_go rfl).trans ((S_go rfl).trans (S_go rfl)))
set_option maxRecDepth 20000 in
theorem k0_8_s36 (d : Nat) (I : IFn) (R : RFn) (sc : Nat × (Nat → Int32)) : den (d + 1, 0, 0, 36, [some (vr 0 8), none], [], (I, R, (0, 13), sc)) = den (d + 1, 0, 0, 44, [some (vr 0 8), none], [], (z0 (I) 13, uR (n0 (R) 13) 8 4 (some (0, 13)), (0, 14), sc)) := (S_go rfl).trans ((S_go rfl).trans ((S_go rfl).trans (S_go rfl)))
set_option maxRecDepth 20000 in
theorem k0_8_s44 (d : Nat) (I : IFn) (R : RFn) (sc : Nat × (Nat → Int32)) : den (d + 1, 0, 0, 44, [some (vr 0 8), none], [], (I, R, (0, 14), sc)) = den (d + 1, 0, 0, 52, [some (vr 0 8), none], [], (z0 (I) 14, uR (n0 (R) 14) 8 5 (some (0, 14)), (0, 15), sc)) := (S_go rfl).trans ((S_go rfl).trans ((S_go rfl).trans (S_go rfl)))
set_option maxRecDepth 20000 in
theorem k0_8_s52 (d : Nat) (I : IFn) (R : RFn) (sc : Nat × (Nat → Int32)) : den (d + 1, 0, 0, 52, [some (vr 0 8), none], [], (I, R, (0, 15), sc)) = den (d + 1, 0, 0, 60, [some (vr 0 8), none], [], (z0 (I) 15, uR (n0 (R) 15) 8 6 (some (0, 15)), (0, 16), sc)) := (S_go rfl).trans ((S_go rfl).trans ((S_go rfl).trans (S_go rfl)))
set_option maxRecDepth 20000 in
theorem k0_8_s60 (d : Nat) (I : IFn) (R : RFn) (sc : Nat × (Nat → Int32)) : den (d + 1, 0, 0, 60, [some (vr 0 8), none], [], (I, R, (0, 16), sc)) = den (d + 1, 0, 0, 68, [some (vr 0 8), none], [], (z0 (I) 16, uR (n0 (R) 16) 8 7 (some (0, 16)), (0, 17), sc)) := (S_go rfl).trans ((S_go rfl).trans ((S_go rfl).trans (S_go rfl)))
set_option maxRecDepth 20000 in
theorem k0_8_s68 (d : Nat) (I : IFn) (R : RFn) (sc : Nat × (Nat → Int32)) : den (d + 1, 0, 0, 68, [some (vr 0 8), none], [], (I, R, (0, 17), sc)) = den (d + 1, 0, 0, 76, [some (vr 0 8), none], [], (z0 (I) 17, uR (n0 (R) 17) 8 8 (some (0, 17)), (0, 18), sc)) := (S_go rfl).trans ((S_go rfl).trans ((S_go rfl).trans (S_go rfl)))
set_option maxRecDepth 20000 in
theorem k0_8_s76 (d : Nat) (I : IFn) (R : RFn) (sc : Nat × (Nat → Int32)) : den (d + 1, 0, 0, 76, [some (vr 0 8), none], [], (I, R, (0, 18), sc)) = den (d + 1, 0, 0, 81, [some (vr 0 8), none], [], (uI (I) 0 8 9 (-1), R, (0, 18), sc)) := (S_go rfl).trans ((S_go rfl).trans (S_go rfl))
set_option maxRecDepth 20000 in
theorem k0_8_s81 (d : Nat) (I : IFn) (R : RFn) (sc : Nat × (Nat → Int32)) : den (d + 1, 0, 0, 81, [some (vr 0 8), none], [], (I, R, (0, 18), sc)) = den (d + 1, 0, 0, 88, [some (vr 0 8), none], [], (uI (I) 0 8 10 999, R, (0, 18), sc)) := (S_go rfl).trans ((S_go rfl).trans (S_go rfl))
set_option maxRecDepth 20000 in
theorem k0_8_s88 (d : Nat) (I : IFn) (R : RFn) (sc : Nat × (Nat → Int32)) : den (d + 1, 0, 0, 88, [some (vr 0 8), none], [], (I, R, (0, 18), sc)) = den (d + 1, 0, 0, 93, [some (vr 0 8), none], [], (uI (I) 0 8 11 0, R, (0, 18), sc)) := (S_go rfl).trans ((S_go rfl).trans (S_go rfl))
set_option maxRecDepth 20000 in
theorem k0_8_s93 (d : Nat) (I : IFn) (R : RFn) (sc : Nat × (Nat → Int32)) : den (d + 1, 0, 0, 93, [some (vr 0 8), none], [], (I, R, (0, 18), sc)) = den (d + 1, 0, 0, 98, [some (vr 0 8), none], [], (uI (I) 0 8 12 0, R, (0, 18), sc)) := (S_go rfl).trans ((S_go rfl).trans (S_brt rfl rfl))
theorem k0_8 (d : Nat) (I : IFn) (R : RFn) (sc : Nat × (Nat → Int32)) : den (d + 1, 0, 0, 0, [some (vr 0 8), none], [], (I, R, (0, 9), sc)) = den (d + 1, 0, 0, 98, [some (vr 0 8), none], [], (uI ((uI ((uI ((uI ((z0 ((z0 ((z0 ((z0 ((z0 ((z0 ((z0 ((z0 ((z0 (I) 9)) 10)) 11)) 12)) 13)) 14)) 15)) 16)) 17)) 0 8 9 (-1))) 0 8 10 999)) 0 8 11 0)) 0 8 12 0, ((((uR (n0 ((uR (n0 ((uR (n0 ((uR (n0 ((uR (n0 ((uR (n0 ((uR (n0 ((uR (n0 ((uR (n0 (R) 9) 8 0 (some (0, 9)))) 10) 8 1 (some (0, 10)))) 11) 8 2 (some (0, 11)))) 12) 8 3 (some (0, 12)))) 13) 8 4 (some (0, 13)))) 14) 8 5 (some (0, 14)))) 15) 8 6 (some (0, 15)))) 16) 8 7 (some (0, 16)))) 17) 8 8 (some (0, 17)))))), (0, 18), sc)) := (k0_8_s0 d _ _ sc).trans ((k0_8_s12 d _ _ sc).trans ((k0_8_s20 d _ _ sc).trans ((k0_8_s28 d _ _ sc).trans ((k0_8_s36 d _ _ sc).trans ((k0_8_s44 d _ _ sc).trans ((k0_8_s52 d _ _ sc).trans ((k0_8_s60 d _ _ sc).trans ((k0_8_s68 d _ _ sc).trans ((k0_8_s76 d _ _ sc).trans ((k0_8_s81 d _ _ sc).trans ((k0_8_s88 d _ _ sc).trans (k0_8_s93 d _ _ sc))))))))))))
set_option maxRecDepth 20000 in
theorem k0_8_98 (d : Nat) (I : IFn) (R : RFn) (al : Nat × Nat) (sc : Nat × (Nat → Int32)) (hr : R 0 8 0 = some (0, 9)) : den (d + 1, 0, 0, 98, [some (vr 0 8), none], [], (I, R, al, sc)) = den (d + 1, 0, 0, 106, [some (vr 0 8), none], [], (flI I 9 3 10, R, al, sc)) := by
  refine (show _ = den (d + 1, 0, 0, 102, [some (vr 0 8), none], [.inr (.inr (R 0 8 0))], (I, R, al, sc)) from (S_go rfl).trans (S_go rfl)).trans ?_
  rw [hr]
  refine (S_go rfl).trans ((S_call rfl).trans ?_)
  exact (congrArg (fun z => Option.bind z _) (r_fill d (q := 9) (by omega) 3 I R al sc)).trans rfl
set_option maxRecDepth 20000 in
theorem k0_8_106 (d : Nat) (I : IFn) (R : RFn) (al : Nat × Nat) (sc : Nat × (Nat → Int32)) (hr : R 0 8 1 = some (0, 10)) : den (d + 1, 0, 0, 106, [some (vr 0 8), none], [], (I, R, al, sc)) = den (d + 1, 0, 0, 115, [some (vr 0 8), none], [], (flI I 10 50 10, R, al, sc)) := by
  refine (show _ = den (d + 1, 0, 0, 110, [some (vr 0 8), none], [.inr (.inr (R 0 8 1))], (I, R, al, sc)) from (S_go rfl).trans (S_go rfl)).trans ?_
  rw [hr]
  refine (S_go rfl).trans ((S_call rfl).trans ?_)
  exact (congrArg (fun z => Option.bind z _) (r_fill d (q := 10) (by omega) 50 I R al sc)).trans rfl
set_option maxRecDepth 20000 in
theorem k0_8_115 (d : Nat) (I : IFn) (R : RFn) (al : Nat × Nat) (sc : Nat × (Nat → Int32)) (hr : R 0 8 2 = some (0, 11)) : den (d + 1, 0, 0, 115, [some (vr 0 8), none], [], (I, R, al, sc)) = den (d + 1, 0, 0, 124, [some (vr 0 8), none], [], (flI I 11 10 10, R, al, sc)) := by
  refine (show _ = den (d + 1, 0, 0, 119, [some (vr 0 8), none], [.inr (.inr (R 0 8 2))], (I, R, al, sc)) from (S_go rfl).trans (S_go rfl)).trans ?_
  rw [hr]
  refine (S_go rfl).trans ((S_call rfl).trans ?_)
  exact (congrArg (fun z => Option.bind z _) (r_fill d (q := 11) (by omega) 10 I R al sc)).trans rfl
set_option maxRecDepth 20000 in
theorem k0_8_124 (d : Nat) (I : IFn) (R : RFn) (al : Nat × Nat) (sc : Nat × (Nat → Int32)) (hr : R 0 8 4 = some (0, 13)) : den (d + 1, 0, 0, 124, [some (vr 0 8), none], [], (I, R, al, sc)) = den (d + 1, 0, 0, 132, [some (vr 0 8), none], [], (flI I 13 1 10, R, al, sc)) := by
  refine (show _ = den (d + 1, 0, 0, 128, [some (vr 0 8), none], [.inr (.inr (R 0 8 4))], (I, R, al, sc)) from (S_go rfl).trans (S_go rfl)).trans ?_
  rw [hr]
  refine (S_go rfl).trans ((S_call rfl).trans ?_)
  exact (congrArg (fun z => Option.bind z _) (r_fill d (q := 13) (by omega) 1 I R al sc)).trans rfl
set_option maxRecDepth 20000 in
theorem k0_8_132 (d : Nat) (I : IFn) (R : RFn) (al : Nat × Nat) (sc : Nat × (Nat → Int32)) (hr : R 0 8 6 = some (0, 15)) : den (d + 1, 0, 0, 132, [some (vr 0 8), none], [], (I, R, al, sc)) = den (d + 1, 0, 0, 140, [some (vr 0 8), none], [], (flI I 15 (-1) 10, R, al, sc)) := by
  refine (show _ = den (d + 1, 0, 0, 136, [some (vr 0 8), none], [.inr (.inr (R 0 8 6))], (I, R, al, sc)) from (S_go rfl).trans (S_go rfl)).trans ?_
  rw [hr]
  refine (S_go rfl).trans ((S_call rfl).trans ?_)
  exact (congrArg (fun z => Option.bind z _) (r_fill d (q := 15) (by omega) (-1) I R al sc)).trans rfl
theorem k0_8_140 (d : Nat) (h : AH) : den (d, 0, 0, 140, [some (vr 0 8), none], [], h) = den (d, 0, 0, 142, [some (vr 0 8), some (vi (nI 0))], [], h) := (S_go rfl).trans (S_go rfl)
set_option maxRecDepth 20000 in
theorem k0_8_142 (d : Nat) (x : Int32) (h : AH) : den (d, 0, 0, 142, [some (vr 0 8), some (vi x)], [], h) = bif decide (x < 10) then den (d, 0, 0, 148, [some (vr 0 8), some (vi x)], [], h) else den (d, 0, 0, 161, [some (vr 0 8), some (vi x)], [], h) := (S_go rfl).trans ((S_go rfl).trans ((S_br rfl).trans rfl))
set_option maxRecDepth 20000 in
theorem k0_8_148 (d : Nat) (x : Int32) (I : IFn) (R : RFn) (al : Nat × Nat) (sc : Nat × (Nat → Int32)) (hr : R 0 8 3 = some (0, 12)) : den (d, 0, 0, 148, [some (vr 0 8), some (vi x)], [], (I, R, al, sc)) = bif inb x 10 then den (d, 0, 0, 142, [some (vr 0 8), some (vi (x + 1))], [], (uI I 0 12 x.toNatClampNeg x, R, al, sc)) else none := by
  refine (show _ = den (d, 0, 0, 152, [some (vr 0 8), some (vi x)], [.inr (.inr (R 0 8 3))], (I, R, al, sc)) from (S_go rfl).trans (S_go rfl)).trans ?_
  rw [hr]
  exact (S_go rfl).trans ((S_go rfl).trans ((S_br0 rfl).trans (congrArg (fun z => bif inb x 10 then z else none) ((S_go rfl).trans (S_go rfl)))))
theorem k0_8_161 (d : Nat) (l : List (Option AV)) (h : AH) : den (d, 0, 0, 161, l, [], h) = some (none, h) := S_ret rfl
set_option maxRecDepth 20000 in
theorem k0_24_s0 (d : Nat) (I : IFn) (R : RFn) (sc : Nat × (Nat → Int32)) : den (d + 1, 0, 0, 0, [some (vr 0 24), none], [], (I, R, (0, 25), sc)) = den (d + 1, 0, 0, 12, [some (vr 0 24), none], [], (z0 (I) 25, uR (n0 (R) 25) 24 0 (some (0, 25)), (0, 26), sc)) := (S_go rfl).trans ((S_go rfl).trans ((S_go rfl).trans ((S_go rfl).trans ((S_go rfl).trans (S_go rfl)))))
set_option maxRecDepth 20000 in
theorem k0_24_s12 (d : Nat) (I : IFn) (R : RFn) (sc : Nat × (Nat → Int32)) : den (d + 1, 0, 0, 12, [some (vr 0 24), none], [], (I, R, (0, 26), sc)) = den (d + 1, 0, 0, 20, [some (vr 0 24), none], [], (z0 (I) 26, uR (n0 (R) 26) 24 1 (some (0, 26)), (0, 27), sc)) := (S_go rfl).trans ((S_go rfl).trans ((S_go rfl).trans (S_go rfl)))
set_option maxRecDepth 20000 in
theorem k0_24_s20 (d : Nat) (I : IFn) (R : RFn) (sc : Nat × (Nat → Int32)) : den (d + 1, 0, 0, 20, [some (vr 0 24), none], [], (I, R, (0, 27), sc)) = den (d + 1, 0, 0, 28, [some (vr 0 24), none], [], (z0 (I) 27, uR (n0 (R) 27) 24 2 (some (0, 27)), (0, 28), sc)) := (S_go rfl).trans ((S_go rfl).trans ((S_go rfl).trans (S_go rfl)))
set_option maxRecDepth 20000 in
theorem k0_24_s28 (d : Nat) (I : IFn) (R : RFn) (sc : Nat × (Nat → Int32)) : den (d + 1, 0, 0, 28, [some (vr 0 24), none], [], (I, R, (0, 28), sc)) = den (d + 1, 0, 0, 36, [some (vr 0 24), none], [], (z0 (I) 28, uR (n0 (R) 28) 24 3 (some (0, 28)), (0, 29), sc)) := (S_go rfl).trans ((S_go rfl).trans ((S_go rfl).trans (S_go rfl)))
set_option maxRecDepth 20000 in
theorem k0_24_s36 (d : Nat) (I : IFn) (R : RFn) (sc : Nat × (Nat → Int32)) : den (d + 1, 0, 0, 36, [some (vr 0 24), none], [], (I, R, (0, 29), sc)) = den (d + 1, 0, 0, 44, [some (vr 0 24), none], [], (z0 (I) 29, uR (n0 (R) 29) 24 4 (some (0, 29)), (0, 30), sc)) := (S_go rfl).trans ((S_go rfl).trans ((S_go rfl).trans (S_go rfl)))
set_option maxRecDepth 20000 in
theorem k0_24_s44 (d : Nat) (I : IFn) (R : RFn) (sc : Nat × (Nat → Int32)) : den (d + 1, 0, 0, 44, [some (vr 0 24), none], [], (I, R, (0, 30), sc)) = den (d + 1, 0, 0, 52, [some (vr 0 24), none], [], (z0 (I) 30, uR (n0 (R) 30) 24 5 (some (0, 30)), (0, 31), sc)) := (S_go rfl).trans ((S_go rfl).trans ((S_go rfl).trans (S_go rfl)))
set_option maxRecDepth 20000 in
theorem k0_24_s52 (d : Nat) (I : IFn) (R : RFn) (sc : Nat × (Nat → Int32)) : den (d + 1, 0, 0, 52, [some (vr 0 24), none], [], (I, R, (0, 31), sc)) = den (d + 1, 0, 0, 60, [some (vr 0 24), none], [], (z0 (I) 31, uR (n0 (R) 31) 24 6 (some (0, 31)), (0, 32), sc)) := (S_go rfl).trans ((S_go rfl).trans ((S_go rfl).trans (S_go rfl)))
set_option maxRecDepth 20000 in
theorem k0_24_s60 (d : Nat) (I : IFn) (R : RFn) (sc : Nat × (Nat → Int32)) : den (d + 1, 0, 0, 60, [some (vr 0 24), none], [], (I, R, (0, 32), sc)) = den (d + 1, 0, 0, 68, [some (vr 0 24), none], [], (z0 (I) 32, uR (n0 (R) 32) 24 7 (some (0, 32)), (0, 33), sc)) := (S_go rfl).trans ((S_go rfl).trans ((S_go rfl).trans (S_go rfl)))
set_option maxRecDepth 20000 in
theorem k0_24_s68 (d : Nat) (I : IFn) (R : RFn) (sc : Nat × (Nat → Int32)) : den (d + 1, 0, 0, 68, [some (vr 0 24), none], [], (I, R, (0, 33), sc)) = den (d + 1, 0, 0, 76, [some (vr 0 24), none], [], (z0 (I) 33, uR (n0 (R) 33) 24 8 (some (0, 33)), (0, 34), sc)) := (S_go rfl).trans ((S_go rfl).trans ((S_go rfl).trans (S_go rfl)))
set_option maxRecDepth 20000 in
theorem k0_24_s76 (d : Nat) (I : IFn) (R : RFn) (sc : Nat × (Nat → Int32)) : den (d + 1, 0, 0, 76, [some (vr 0 24), none], [], (I, R, (0, 34), sc)) = den (d + 1, 0, 0, 81, [some (vr 0 24), none], [], (uI (I) 0 24 9 (-1), R, (0, 34), sc)) := (S_go rfl).trans ((S_go rfl).trans (S_go rfl))
set_option maxRecDepth 20000 in
theorem k0_24_s81 (d : Nat) (I : IFn) (R : RFn) (sc : Nat × (Nat → Int32)) : den (d + 1, 0, 0, 81, [some (vr 0 24), none], [], (I, R, (0, 34), sc)) = den (d + 1, 0, 0, 88, [some (vr 0 24), none], [], (uI (I) 0 24 10 999, R, (0, 34), sc)) := (S_go rfl).trans ((S_go rfl).trans (S_go rfl))
set_option maxRecDepth 20000 in
theorem k0_24_s88 (d : Nat) (I : IFn) (R : RFn) (sc : Nat × (Nat → Int32)) : den (d + 1, 0, 0, 88, [some (vr 0 24), none], [], (I, R, (0, 34), sc)) = den (d + 1, 0, 0, 93, [some (vr 0 24), none], [], (uI (I) 0 24 11 0, R, (0, 34), sc)) := (S_go rfl).trans ((S_go rfl).trans (S_go rfl))
set_option maxRecDepth 20000 in
theorem k0_24_s93 (d : Nat) (I : IFn) (R : RFn) (sc : Nat × (Nat → Int32)) : den (d + 1, 0, 0, 93, [some (vr 0 24), none], [], (I, R, (0, 34), sc)) = den (d + 1, 0, 0, 98, [some (vr 0 24), none], [], (uI (I) 0 24 12 0, R, (0, 34), sc)) := (S_go rfl).trans ((S_go rfl).trans (S_brt rfl rfl))
theorem k0_24 (d : Nat) (I : IFn) (R : RFn) (sc : Nat × (Nat → Int32)) : den (d + 1, 0, 0, 0, [some (vr 0 24), none], [], (I, R, (0, 25), sc)) = den (d + 1, 0, 0, 98, [some (vr 0 24), none], [], (uI ((uI ((uI ((uI ((z0 ((z0 ((z0 ((z0 ((z0 ((z0 ((z0 ((z0 ((z0 (I) 25)) 26)) 27)) 28)) 29)) 30)) 31)) 32)) 33)) 0 24 9 (-1))) 0 24 10 999)) 0 24 11 0)) 0 24 12 0, ((((uR (n0 ((uR (n0 ((uR (n0 ((uR (n0 ((uR (n0 ((uR (n0 ((uR (n0 ((uR (n0 ((uR (n0 (R) 25) 24 0 (some (0, 25)))) 26) 24 1 (some (0, 26)))) 27) 24 2 (some (0, 27)))) 28) 24 3 (some (0, 28)))) 29) 24 4 (some (0, 29)))) 30) 24 5 (some (0, 30)))) 31) 24 6 (some (0, 31)))) 32) 24 7 (some (0, 32)))) 33) 24 8 (some (0, 33)))))), (0, 34), sc)) := (k0_24_s0 d _ _ sc).trans ((k0_24_s12 d _ _ sc).trans ((k0_24_s20 d _ _ sc).trans ((k0_24_s28 d _ _ sc).trans ((k0_24_s36 d _ _ sc).trans ((k0_24_s44 d _ _ sc).trans ((k0_24_s52 d _ _ sc).trans ((k0_24_s60 d _ _ sc).trans ((k0_24_s68 d _ _ sc).trans ((k0_24_s76 d _ _ sc).trans ((k0_24_s81 d _ _ sc).trans ((k0_24_s88 d _ _ sc).trans (k0_24_s93 d _ _ sc))))))))))))
set_option maxRecDepth 20000 in
theorem k0_24_98 (d : Nat) (I : IFn) (R : RFn) (al : Nat × Nat) (sc : Nat × (Nat → Int32)) (hr : R 0 24 0 = some (0, 25)) : den (d + 1, 0, 0, 98, [some (vr 0 24), none], [], (I, R, al, sc)) = den (d + 1, 0, 0, 106, [some (vr 0 24), none], [], (flI I 25 3 10, R, al, sc)) := by
  refine (show _ = den (d + 1, 0, 0, 102, [some (vr 0 24), none], [.inr (.inr (R 0 24 0))], (I, R, al, sc)) from (S_go rfl).trans (S_go rfl)).trans ?_
  rw [hr]
  refine (S_go rfl).trans ((S_call rfl).trans ?_)
  exact (congrArg (fun z => Option.bind z _) (r_fill d (q := 25) (by omega) 3 I R al sc)).trans rfl
set_option maxRecDepth 20000 in
theorem k0_24_106 (d : Nat) (I : IFn) (R : RFn) (al : Nat × Nat) (sc : Nat × (Nat → Int32)) (hr : R 0 24 1 = some (0, 26)) : den (d + 1, 0, 0, 106, [some (vr 0 24), none], [], (I, R, al, sc)) = den (d + 1, 0, 0, 115, [some (vr 0 24), none], [], (flI I 26 50 10, R, al, sc)) := by
  refine (show _ = den (d + 1, 0, 0, 110, [some (vr 0 24), none], [.inr (.inr (R 0 24 1))], (I, R, al, sc)) from (S_go rfl).trans (S_go rfl)).trans ?_
  rw [hr]
  refine (S_go rfl).trans ((S_call rfl).trans ?_)
  exact (congrArg (fun z => Option.bind z _) (r_fill d (q := 26) (by omega) 50 I R al sc)).trans rfl
set_option maxRecDepth 20000 in
theorem k0_24_115 (d : Nat) (I : IFn) (R : RFn) (al : Nat × Nat) (sc : Nat × (Nat → Int32)) (hr : R 0 24 2 = some (0, 27)) : den (d + 1, 0, 0, 115, [some (vr 0 24), none], [], (I, R, al, sc)) = den (d + 1, 0, 0, 124, [some (vr 0 24), none], [], (flI I 27 10 10, R, al, sc)) := by
  refine (show _ = den (d + 1, 0, 0, 119, [some (vr 0 24), none], [.inr (.inr (R 0 24 2))], (I, R, al, sc)) from (S_go rfl).trans (S_go rfl)).trans ?_
  rw [hr]
  refine (S_go rfl).trans ((S_call rfl).trans ?_)
  exact (congrArg (fun z => Option.bind z _) (r_fill d (q := 27) (by omega) 10 I R al sc)).trans rfl
set_option maxRecDepth 20000 in
theorem k0_24_124 (d : Nat) (I : IFn) (R : RFn) (al : Nat × Nat) (sc : Nat × (Nat → Int32)) (hr : R 0 24 4 = some (0, 29)) : den (d + 1, 0, 0, 124, [some (vr 0 24), none], [], (I, R, al, sc)) = den (d + 1, 0, 0, 132, [some (vr 0 24), none], [], (flI I 29 1 10, R, al, sc)) := by
  refine (show _ = den (d + 1, 0, 0, 128, [some (vr 0 24), none], [.inr (.inr (R 0 24 4))], (I, R, al, sc)) from (S_go rfl).trans (S_go rfl)).trans ?_
  rw [hr]
  refine (S_go rfl).trans ((S_call rfl).trans ?_)
  exact (congrArg (fun z => Option.bind z _) (r_fill d (q := 29) (by omega) 1 I R al sc)).trans rfl
set_option maxRecDepth 20000 in
theorem k0_24_132 (d : Nat) (I : IFn) (R : RFn) (al : Nat × Nat) (sc : Nat × (Nat → Int32)) (hr : R 0 24 6 = some (0, 31)) : den (d + 1, 0, 0, 132, [some (vr 0 24), none], [], (I, R, al, sc)) = den (d + 1, 0, 0, 140, [some (vr 0 24), none], [], (flI I 31 (-1) 10, R, al, sc)) := by
  refine (show _ = den (d + 1, 0, 0, 136, [some (vr 0 24), none], [.inr (.inr (R 0 24 6))], (I, R, al, sc)) from (S_go rfl).trans (S_go rfl)).trans ?_
  rw [hr]
  refine (S_go rfl).trans ((S_call rfl).trans ?_)
  exact (congrArg (fun z => Option.bind z _) (r_fill d (q := 31) (by omega) (-1) I R al sc)).trans rfl
theorem k0_24_140 (d : Nat) (h : AH) : den (d, 0, 0, 140, [some (vr 0 24), none], [], h) = den (d, 0, 0, 142, [some (vr 0 24), some (vi (nI 0))], [], h) := (S_go rfl).trans (S_go rfl)
set_option maxRecDepth 20000 in
theorem k0_24_142 (d : Nat) (x : Int32) (h : AH) : den (d, 0, 0, 142, [some (vr 0 24), some (vi x)], [], h) = bif decide (x < 10) then den (d, 0, 0, 148, [some (vr 0 24), some (vi x)], [], h) else den (d, 0, 0, 161, [some (vr 0 24), some (vi x)], [], h) := (S_go rfl).trans ((S_go rfl).trans ((S_br rfl).trans rfl))
set_option maxRecDepth 20000 in
theorem k0_24_148 (d : Nat) (x : Int32) (I : IFn) (R : RFn) (al : Nat × Nat) (sc : Nat × (Nat → Int32)) (hr : R 0 24 3 = some (0, 28)) : den (d, 0, 0, 148, [some (vr 0 24), some (vi x)], [], (I, R, al, sc)) = bif inb x 10 then den (d, 0, 0, 142, [some (vr 0 24), some (vi (x + 1))], [], (uI I 0 28 x.toNatClampNeg x, R, al, sc)) else none := by
  refine (show _ = den (d, 0, 0, 152, [some (vr 0 24), some (vi x)], [.inr (.inr (R 0 24 3))], (I, R, al, sc)) from (S_go rfl).trans (S_go rfl)).trans ?_
  rw [hr]
  exact (S_go rfl).trans ((S_go rfl).trans ((S_br0 rfl).trans (congrArg (fun z => bif inb x 10 then z else none) ((S_go rfl).trans (S_go rfl)))))
theorem k0_24_161 (d : Nat) (l : List (Option AV)) (h : AH) : den (d, 0, 0, 161, l, [], h) = some (none, h) := S_ret rfl
set_option maxRecDepth 20000 in
theorem k0_35_s0 (d : Nat) (I : IFn) (R : RFn) (sc : Nat × (Nat → Int32)) : den (d + 1, 0, 0, 0, [some (vr 0 35), none], [], (I, R, (0, 36), sc)) = den (d + 1, 0, 0, 12, [some (vr 0 35), none], [], (z0 (I) 36, uR (n0 (R) 36) 35 0 (some (0, 36)), (0, 37), sc)) := (S_go rfl).trans ((S_go rfl).trans ((S_go rfl).trans ((S_go rfl).trans ((S_go rfl).trans (S_go rfl)))))
set_option maxRecDepth 20000 in
theorem k0_35_s12 (d : Nat) (I : IFn) (R : RFn) (sc : Nat × (Nat → Int32)) : den (d + 1, 0, 0, 12, [some (vr 0 35), none], [], (I, R, (0, 37), sc)) = den (d + 1, 0, 0, 20, [some (vr 0 35), none], [], (z0 (I) 37, uR (n0 (R) 37) 35 1 (some (0, 37)), (0, 38), sc)) := (S_go rfl).trans ((S_go rfl).trans ((S_go rfl).trans (S_go rfl)))
set_option maxRecDepth 20000 in
theorem k0_35_s20 (d : Nat) (I : IFn) (R : RFn) (sc : Nat × (Nat → Int32)) : den (d + 1, 0, 0, 20, [some (vr 0 35), none], [], (I, R, (0, 38), sc)) = den (d + 1, 0, 0, 28, [some (vr 0 35), none], [], (z0 (I) 38, uR (n0 (R) 38) 35 2 (some (0, 38)), (0, 39), sc)) := (S_go rfl).trans ((S_go rfl).trans ((S_go rfl).trans (S_go rfl)))
set_option maxRecDepth 20000 in
theorem k0_35_s28 (d : Nat) (I : IFn) (R : RFn) (sc : Nat × (Nat → Int32)) : den (d + 1, 0, 0, 28, [some (vr 0 35), none], [], (I, R, (0, 39), sc)) = den (d + 1, 0, 0, 36, [some (vr 0 35), none], [], (z0 (I) 39, uR (n0 (R) 39) 35 3 (some (0, 39)), (0, 40), sc)) := (S_go rfl).trans ((S_go rfl).trans ((S_go rfl).trans (S_go rfl)))
set_option maxRecDepth 20000 in
theorem k0_35_s36 (d : Nat) (I : IFn) (R : RFn) (sc : Nat × (Nat → Int32)) : den (d + 1, 0, 0, 36, [some (vr 0 35), none], [], (I, R, (0, 40), sc)) = den (d + 1, 0, 0, 44, [some (vr 0 35), none], [], (z0 (I) 40, uR (n0 (R) 40) 35 4 (some (0, 40)), (0, 41), sc)) := (S_go rfl).trans ((S_go rfl).trans ((S_go rfl).trans (S_go rfl)))
set_option maxRecDepth 20000 in
theorem k0_35_s44 (d : Nat) (I : IFn) (R : RFn) (sc : Nat × (Nat → Int32)) : den (d + 1, 0, 0, 44, [some (vr 0 35), none], [], (I, R, (0, 41), sc)) = den (d + 1, 0, 0, 52, [some (vr 0 35), none], [], (z0 (I) 41, uR (n0 (R) 41) 35 5 (some (0, 41)), (0, 42), sc)) := (S_go rfl).trans ((S_go rfl).trans ((S_go rfl).trans (S_go rfl)))
set_option maxRecDepth 20000 in
theorem k0_35_s52 (d : Nat) (I : IFn) (R : RFn) (sc : Nat × (Nat → Int32)) : den (d + 1, 0, 0, 52, [some (vr 0 35), none], [], (I, R, (0, 42), sc)) = den (d + 1, 0, 0, 60, [some (vr 0 35), none], [], (z0 (I) 42, uR (n0 (R) 42) 35 6 (some (0, 42)), (0, 43), sc)) := (S_go rfl).trans ((S_go rfl).trans ((S_go rfl).trans (S_go rfl)))
set_option maxRecDepth 20000 in
theorem k0_35_s60 (d : Nat) (I : IFn) (R : RFn) (sc : Nat × (Nat → Int32)) : den (d + 1, 0, 0, 60, [some (vr 0 35), none], [], (I, R, (0, 43), sc)) = den (d + 1, 0, 0, 68, [some (vr 0 35), none], [], (z0 (I) 43, uR (n0 (R) 43) 35 7 (some (0, 43)), (0, 44), sc)) := (S_go rfl).trans ((S_go rfl).trans ((S_go rfl).trans (S_go rfl)))
set_option maxRecDepth 20000 in
theorem k0_35_s68 (d : Nat) (I : IFn) (R : RFn) (sc : Nat × (Nat → Int32)) : den (d + 1, 0, 0, 68, [some (vr 0 35), none], [], (I, R, (0, 44), sc)) = den (d + 1, 0, 0, 76, [some (vr 0 35), none], [], (z0 (I) 44, uR (n0 (R) 44) 35 8 (some (0, 44)), (0, 45), sc)) := (S_go rfl).trans ((S_go rfl).trans ((S_go rfl).trans (S_go rfl)))
set_option maxRecDepth 20000 in
theorem k0_35_s76 (d : Nat) (I : IFn) (R : RFn) (sc : Nat × (Nat → Int32)) : den (d + 1, 0, 0, 76, [some (vr 0 35), none], [], (I, R, (0, 45), sc)) = den (d + 1, 0, 0, 81, [some (vr 0 35), none], [], (uI (I) 0 35 9 (-1), R, (0, 45), sc)) := (S_go rfl).trans ((S_go rfl).trans (S_go rfl))
set_option maxRecDepth 20000 in
theorem k0_35_s81 (d : Nat) (I : IFn) (R : RFn) (sc : Nat × (Nat → Int32)) : den (d + 1, 0, 0, 81, [some (vr 0 35), none], [], (I, R, (0, 45), sc)) = den (d + 1, 0, 0, 88, [some (vr 0 35), none], [], (uI (I) 0 35 10 999, R, (0, 45), sc)) := (S_go rfl).trans ((S_go rfl).trans (S_go rfl))
set_option maxRecDepth 20000 in
theorem k0_35_s88 (d : Nat) (I : IFn) (R : RFn) (sc : Nat × (Nat → Int32)) : den (d + 1, 0, 0, 88, [some (vr 0 35), none], [], (I, R, (0, 45), sc)) = den (d + 1, 0, 0, 93, [some (vr 0 35), none], [], (uI (I) 0 35 11 0, R, (0, 45), sc)) := (S_go rfl).trans ((S_go rfl).trans (S_go rfl))
set_option maxRecDepth 20000 in
theorem k0_35_s93 (d : Nat) (I : IFn) (R : RFn) (sc : Nat × (Nat → Int32)) : den (d + 1, 0, 0, 93, [some (vr 0 35), none], [], (I, R, (0, 45), sc)) = den (d + 1, 0, 0, 98, [some (vr 0 35), none], [], (uI (I) 0 35 12 0, R, (0, 45), sc)) := (S_go rfl).trans ((S_go rfl).trans (S_brt rfl rfl))
theorem k0_35 (d : Nat) (I : IFn) (R : RFn) (sc : Nat × (Nat → Int32)) : den (d + 1, 0, 0, 0, [some (vr 0 35), none], [], (I, R, (0, 36), sc)) = den (d + 1, 0, 0, 98, [some (vr 0 35), none], [], (uI ((uI ((uI ((uI ((z0 ((z0 ((z0 ((z0 ((z0 ((z0 ((z0 ((z0 ((z0 (I) 36)) 37)) 38)) 39)) 40)) 41)) 42)) 43)) 44)) 0 35 9 (-1))) 0 35 10 999)) 0 35 11 0)) 0 35 12 0, ((((uR (n0 ((uR (n0 ((uR (n0 ((uR (n0 ((uR (n0 ((uR (n0 ((uR (n0 ((uR (n0 ((uR (n0 (R) 36) 35 0 (some (0, 36)))) 37) 35 1 (some (0, 37)))) 38) 35 2 (some (0, 38)))) 39) 35 3 (some (0, 39)))) 40) 35 4 (some (0, 40)))) 41) 35 5 (some (0, 41)))) 42) 35 6 (some (0, 42)))) 43) 35 7 (some (0, 43)))) 44) 35 8 (some (0, 44)))))), (0, 45), sc)) := (k0_35_s0 d _ _ sc).trans ((k0_35_s12 d _ _ sc).trans ((k0_35_s20 d _ _ sc).trans ((k0_35_s28 d _ _ sc).trans ((k0_35_s36 d _ _ sc).trans ((k0_35_s44 d _ _ sc).trans ((k0_35_s52 d _ _ sc).trans ((k0_35_s60 d _ _ sc).trans ((k0_35_s68 d _ _ sc).trans ((k0_35_s76 d _ _ sc).trans ((k0_35_s81 d _ _ sc).trans ((k0_35_s88 d _ _ sc).trans (k0_35_s93 d _ _ sc))))))))))))
set_option maxRecDepth 20000 in
theorem k0_35_98 (d : Nat) (I : IFn) (R : RFn) (al : Nat × Nat) (sc : Nat × (Nat → Int32)) (hr : R 0 35 0 = some (0, 36)) : den (d + 1, 0, 0, 98, [some (vr 0 35), none], [], (I, R, al, sc)) = den (d + 1, 0, 0, 106, [some (vr 0 35), none], [], (flI I 36 3 10, R, al, sc)) := by
  refine (show _ = den (d + 1, 0, 0, 102, [some (vr 0 35), none], [.inr (.inr (R 0 35 0))], (I, R, al, sc)) from (S_go rfl).trans (S_go rfl)).trans ?_
  rw [hr]
  refine (S_go rfl).trans ((S_call rfl).trans ?_)
  exact (congrArg (fun z => Option.bind z _) (r_fill d (q := 36) (by omega) 3 I R al sc)).trans rfl
set_option maxRecDepth 20000 in
theorem k0_35_106 (d : Nat) (I : IFn) (R : RFn) (al : Nat × Nat) (sc : Nat × (Nat → Int32)) (hr : R 0 35 1 = some (0, 37)) : den (d + 1, 0, 0, 106, [some (vr 0 35), none], [], (I, R, al, sc)) = den (d + 1, 0, 0, 115, [some (vr 0 35), none], [], (flI I 37 50 10, R, al, sc)) := by
  refine (show _ = den (d + 1, 0, 0, 110, [some (vr 0 35), none], [.inr (.inr (R 0 35 1))], (I, R, al, sc)) from (S_go rfl).trans (S_go rfl)).trans ?_
  rw [hr]
  refine (S_go rfl).trans ((S_call rfl).trans ?_)
  exact (congrArg (fun z => Option.bind z _) (r_fill d (q := 37) (by omega) 50 I R al sc)).trans rfl
set_option maxRecDepth 20000 in
theorem k0_35_115 (d : Nat) (I : IFn) (R : RFn) (al : Nat × Nat) (sc : Nat × (Nat → Int32)) (hr : R 0 35 2 = some (0, 38)) : den (d + 1, 0, 0, 115, [some (vr 0 35), none], [], (I, R, al, sc)) = den (d + 1, 0, 0, 124, [some (vr 0 35), none], [], (flI I 38 10 10, R, al, sc)) := by
  refine (show _ = den (d + 1, 0, 0, 119, [some (vr 0 35), none], [.inr (.inr (R 0 35 2))], (I, R, al, sc)) from (S_go rfl).trans (S_go rfl)).trans ?_
  rw [hr]
  refine (S_go rfl).trans ((S_call rfl).trans ?_)
  exact (congrArg (fun z => Option.bind z _) (r_fill d (q := 38) (by omega) 10 I R al sc)).trans rfl
set_option maxRecDepth 20000 in
theorem k0_35_124 (d : Nat) (I : IFn) (R : RFn) (al : Nat × Nat) (sc : Nat × (Nat → Int32)) (hr : R 0 35 4 = some (0, 40)) : den (d + 1, 0, 0, 124, [some (vr 0 35), none], [], (I, R, al, sc)) = den (d + 1, 0, 0, 132, [some (vr 0 35), none], [], (flI I 40 1 10, R, al, sc)) := by
  refine (show _ = den (d + 1, 0, 0, 128, [some (vr 0 35), none], [.inr (.inr (R 0 35 4))], (I, R, al, sc)) from (S_go rfl).trans (S_go rfl)).trans ?_
  rw [hr]
  refine (S_go rfl).trans ((S_call rfl).trans ?_)
  exact (congrArg (fun z => Option.bind z _) (r_fill d (q := 40) (by omega) 1 I R al sc)).trans rfl
set_option maxRecDepth 20000 in
theorem k0_35_132 (d : Nat) (I : IFn) (R : RFn) (al : Nat × Nat) (sc : Nat × (Nat → Int32)) (hr : R 0 35 6 = some (0, 42)) : den (d + 1, 0, 0, 132, [some (vr 0 35), none], [], (I, R, al, sc)) = den (d + 1, 0, 0, 140, [some (vr 0 35), none], [], (flI I 42 (-1) 10, R, al, sc)) := by
  refine (show _ = den (d + 1, 0, 0, 136, [some (vr 0 35), none], [.inr (.inr (R 0 35 6))], (I, R, al, sc)) from (S_go rfl).trans (S_go rfl)).trans ?_
  rw [hr]
  refine (S_go rfl).trans ((S_call rfl).trans ?_)
  exact (congrArg (fun z => Option.bind z _) (r_fill d (q := 42) (by omega) (-1) I R al sc)).trans rfl
theorem k0_35_140 (d : Nat) (h : AH) : den (d, 0, 0, 140, [some (vr 0 35), none], [], h) = den (d, 0, 0, 142, [some (vr 0 35), some (vi (nI 0))], [], h) := (S_go rfl).trans (S_go rfl)
set_option maxRecDepth 20000 in
theorem k0_35_142 (d : Nat) (x : Int32) (h : AH) : den (d, 0, 0, 142, [some (vr 0 35), some (vi x)], [], h) = bif decide (x < 10) then den (d, 0, 0, 148, [some (vr 0 35), some (vi x)], [], h) else den (d, 0, 0, 161, [some (vr 0 35), some (vi x)], [], h) := (S_go rfl).trans ((S_go rfl).trans ((S_br rfl).trans rfl))
set_option maxRecDepth 20000 in
theorem k0_35_148 (d : Nat) (x : Int32) (I : IFn) (R : RFn) (al : Nat × Nat) (sc : Nat × (Nat → Int32)) (hr : R 0 35 3 = some (0, 39)) : den (d, 0, 0, 148, [some (vr 0 35), some (vi x)], [], (I, R, al, sc)) = bif inb x 10 then den (d, 0, 0, 142, [some (vr 0 35), some (vi (x + 1))], [], (uI I 0 39 x.toNatClampNeg x, R, al, sc)) else none := by
  refine (show _ = den (d, 0, 0, 152, [some (vr 0 35), some (vi x)], [.inr (.inr (R 0 35 3))], (I, R, al, sc)) from (S_go rfl).trans (S_go rfl)).trans ?_
  rw [hr]
  exact (S_go rfl).trans ((S_go rfl).trans ((S_br0 rfl).trans (congrArg (fun z => bif inb x 10 then z else none) ((S_go rfl).trans (S_go rfl)))))
theorem k0_35_161 (d : Nat) (l : List (Option AV)) (h : AH) : den (d, 0, 0, 161, l, [], h) = some (none, h) := S_ret rfl
