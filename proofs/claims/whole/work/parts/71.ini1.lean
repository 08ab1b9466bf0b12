def clI (I : IFn) (j : Nat) : Nat → IFn
  | 0 => I
  | p + 1 => uI (clI I j p) 0 j p (nI p)
def tpI (I : IFn) : IFn := uI ((z0 (I) 2)) 0 1 1 0
def tpR (R : RFn) : RFn := (uR (n0 (R) 2) 1 0 (some (0, 2)))
theorem tp (d : Nat) (I : IFn) (R : RFn) (sc : Nat × (Nat → Int32)) : den (d + 1, 4, 0, 0, [some (vr 0 1)], [], (I, R, (0, 2), sc)) = some (none, (tpI I, tpR R, (0, 3), sc)) := (k4 d I R sc).trans (k4r (d + 1) _)
def su4_I (I : IFn) : IFn := uI ((z0 ((z0 ((z0 (I) 5)) 6)) 7)) 0 4 3 0
def su4_R (R : RFn) : RFn := (uR (n0 ((uR (n0 ((uR (n0 (R) 5) 4 0 (some (0, 5)))) 6) 4 1 (some (0, 6)))) 7) 4 2 (some (0, 7)))
theorem su4_ (d : Nat) (I : IFn) (R : RFn) (sc : Nat × (Nat → Int32)) : den (d + 1, 3, 0, 0, [some (vr 0 4)], [], (I, R, (0, 5), sc)) = some (none, (su4_I I, su4_R R, (0, 8), sc)) := (k3_4 d I R sc).trans (k3r_4 (d + 1) _)
def su20_I (I : IFn) : IFn := uI ((z0 ((z0 ((z0 (I) 21)) 22)) 23)) 0 20 3 0
def su20_R (R : RFn) : RFn := (uR (n0 ((uR (n0 ((uR (n0 (R) 21) 20 0 (some (0, 21)))) 22) 20 1 (some (0, 22)))) 23) 20 2 (some (0, 23)))
theorem su20_ (d : Nat) (I : IFn) (R : RFn) (sc : Nat × (Nat → Int32)) : den (d + 1, 3, 0, 0, [some (vr 0 20)], [], (I, R, (0, 21), sc)) = some (none, (su20_I I, su20_R R, (0, 24), sc)) := (k3_20 d I R sc).trans (k3r_20 (d + 1) _)
def sh48_I (I : IFn) : IFn := uI ((uI ((z0 (I) 49)) 0 48 1 0)) 0 48 2 0
def sh48_R (R : RFn) : RFn := ((uR (n0 (R) 49) 48 0 (some (0, 49))))
theorem sh48_ (d : Nat) (I : IFn) (R : RFn) (sc : Nat × (Nat → Int32)) : den (d + 1, 1, 0, 0, [some (vr 0 48)], [], (I, R, (0, 49), sc)) = some (none, (sh48_I I, sh48_R R, (0, 50), sc)) := (k1_48 d I R sc).trans (k1r_48 (d + 1) _)
def sh50_I (I : IFn) : IFn := uI ((uI ((z0 (I) 51)) 0 50 1 0)) 0 50 2 0
def sh50_R (R : RFn) : RFn := ((uR (n0 (R) 51) 50 0 (some (0, 51))))
theorem sh50_ (d : Nat) (I : IFn) (R : RFn) (sc : Nat × (Nat → Int32)) : den (d + 1, 1, 0, 0, [some (vr 0 50)], [], (I, R, (0, 51), sc)) = some (none, (sh50_I I, sh50_R R, (0, 52), sc)) := (k1_50 d I R sc).trans (k1r_50 (d + 1) _)
def sh52_I (I : IFn) : IFn := uI ((uI ((z0 (I) 53)) 0 52 1 0)) 0 52 2 0
def sh52_R (R : RFn) : RFn := ((uR (n0 (R) 53) 52 0 (some (0, 53))))
theorem sh52_ (d : Nat) (I : IFn) (R : RFn) (sc : Nat × (Nat → Int32)) : den (d + 1, 1, 0, 0, [some (vr 0 52)], [], (I, R, (0, 53), sc)) = some (none, (sh52_I I, sh52_R R, (0, 54), sc)) := (k1_52 d I R sc).trans (k1r_52 (d + 1) _)
def sh54_I (I : IFn) : IFn := uI ((uI ((z0 (I) 55)) 0 54 1 0)) 0 54 2 0
def sh54_R (R : RFn) : RFn := ((uR (n0 (R) 55) 54 0 (some (0, 55))))
theorem sh54_ (d : Nat) (I : IFn) (R : RFn) (sc : Nat × (Nat → Int32)) : den (d + 1, 1, 0, 0, [some (vr 0 54)], [], (I, R, (0, 55), sc)) = some (none, (sh54_I I, sh54_R R, (0, 56), sc)) := (k1_54 d I R sc).trans (k1r_54 (d + 1) _)
def gb8_I (I : IFn) : IFn := flI (flI (flI (flI (flI (uI ((uI ((uI ((uI ((z0 ((z0 ((z0 ((z0 ((z0 ((z0 ((z0 ((z0 ((z0 (I) 9)) 10)) 11)) 12)) 13)) 14)) 15)) 16)) 17)) 0 8 9 (-1))) 0 8 10 999)) 0 8 11 0)) 0 8 12 0) 9 3 10) 10 50 10) 11 10 10) 13 1 10) 15 (-1) 10
def ga8_I (I : IFn) : IFn := clI (gb8_I I) 12 10
def ga8_R (R : RFn) : RFn := ((((uR (n0 ((uR (n0 ((uR (n0 ((uR (n0 ((uR (n0 ((uR (n0 ((uR (n0 ((uR (n0 ((uR (n0 (R) 9) 8 0 (some (0, 9)))) 10) 8 1 (some (0, 10)))) 11) 8 2 (some (0, 11)))) 12) 8 3 (some (0, 12)))) 13) 8 4 (some (0, 13)))) 14) 8 5 (some (0, 14)))) 15) 8 6 (some (0, 15)))) 16) 8 7 (some (0, 16)))) 17) 8 8 (some (0, 17))))))
theorem ga8_a (d : Nat) (I : IFn) (R : RFn) (sc : Nat × (Nat → Int32)) : den (d + 1, 0, 0, 0, [some (vr 0 8), none], [], (I, R, (0, 9), sc)) = den (d + 1, 0, 0, 142, [some (vr 0 8), some (vi (nI 0))], [], (gb8_I I, ga8_R R, (0, 18), sc)) := (k0_8 d I R sc).trans ((k0_8_98 d _ _ (0, 18) sc rfl).trans ((k0_8_106 d _ _ (0, 18) sc rfl).trans ((k0_8_115 d _ _ (0, 18) sc rfl).trans ((k0_8_124 d _ _ (0, 18) sc rfl).trans ((k0_8_132 d _ _ (0, 18) sc rfl).trans (k0_8_140 (d + 1) _))))))
theorem ga8_ (d : Nat) (I : IFn) (R : RFn) (sc : Nat × (Nat → Int32)) : den (d + 1, 0, 0, 0, [some (vr 0 8), none], [], (I, R, (0, 9), sc)) = some (none, (ga8_I I, ga8_R R, (0, 18), sc)) := by
  refine (ga8_a d I R sc).trans ?_
  refine (lp (fun p => den (d + 1, 0, 0, 142, [some (vr 0 8), some (vi (nI p))], [], (clI (gb8_I I) 12 p, ga8_R R, (0, 18), sc))) (N := 10) ?_ 0 (by omega)).trans ?_
  · intro p hp
    have h1 : nI p < (10 : Int32) := by rw [lt_10 (by omega)]; exact hp
    have h2 : inb (nI p) 10 = true := inb_n hp (by omega)
    show den _ = den _
    rw [k0_8_142, decide_eq_true h1, cond_true, k0_8_148 (d + 1) _ _ _ _ _ rfl, h2, cond_true, nI_clamp (by omega), nI_1]
    rfl
  · have h1 : ¬ nI 10 < (10 : Int32) := by decide
    show den _ = _
    rw [k0_8_142, decide_eq_false h1, cond_false, k0_8_161]
    rfl
def gb24_I (I : IFn) : IFn := flI (flI (flI (flI (flI (uI ((uI ((uI ((uI ((z0 ((z0 ((z0 ((z0 ((z0 ((z0 ((z0 ((z0 ((z0 (I) 25)) 26)) 27)) 28)) 29)) 30)) 31)) 32)) 33)) 0 24 9 (-1))) 0 24 10 999)) 0 24 11 0)) 0 24 12 0) 25 3 10) 26 50 10) 27 10 10) 29 1 10) 31 (-1) 10
def ga24_I (I : IFn) : IFn := clI (gb24_I I) 28 10
def ga24_R (R : RFn) : RFn := ((((uR (n0 ((uR (n0 ((uR (n0 ((uR (n0 ((uR (n0 ((uR (n0 ((uR (n0 ((uR (n0 ((uR (n0 (R) 25) 24 0 (some (0, 25)))) 26) 24 1 (some (0, 26)))) 27) 24 2 (some (0, 27)))) 28) 24 3 (some (0, 28)))) 29) 24 4 (some (0, 29)))) 30) 24 5 (some (0, 30)))) 31) 24 6 (some (0, 31)))) 32) 24 7 (some (0, 32)))) 33) 24 8 (some (0, 33))))))
theorem ga24_a (d : Nat) (I : IFn) (R : RFn) (sc : Nat × (Nat → Int32)) : den (d + 1, 0, 0, 0, [some (vr 0 24), none], [], (I, R, (0, 25), sc)) = den (d + 1, 0, 0, 142, [some (vr 0 24), some (vi (nI 0))], [], (gb24_I I, ga24_R R, (0, 34), sc)) := (k0_24 d I R sc).trans ((k0_24_98 d _ _ (0, 34) sc rfl).trans ((k0_24_106 d _ _ (0, 34) sc rfl).trans ((k0_24_115 d _ _ (0, 34) sc rfl).trans ((k0_24_124 d _ _ (0, 34) sc rfl).trans ((k0_24_132 d _ _ (0, 34) sc rfl).trans (k0_24_140 (d + 1) _))))))
theorem ga24_ (d : Nat) (I : IFn) (R : RFn) (sc : Nat × (Nat → Int32)) : den (d + 1, 0, 0, 0, [some (vr 0 24), none], [], (I, R, (0, 25), sc)) = some (none, (ga24_I I, ga24_R R, (0, 34), sc)) := by
  refine (ga24_a d I R sc).trans ?_
  refine (lp (fun p => den (d + 1, 0, 0, 142, [some (vr 0 24), some (vi (nI p))], [], (clI (gb24_I I) 28 p, ga24_R R, (0, 34), sc))) (N := 10) ?_ 0 (by omega)).trans ?_
  · intro p hp
    have h1 : nI p < (10 : Int32) := by rw [lt_10 (by omega)]; exact hp
    have h2 : inb (nI p) 10 = true := inb_n hp (by omega)
    show den _ = den _
    rw [k0_24_142, decide_eq_true h1, cond_true, k0_24_148 (d + 1) _ _ _ _ _ rfl, h2, cond_true, nI_clamp (by omega), nI_1]
    rfl
  · have h1 : ¬ nI 10 < (10 : Int32) := by decide
    show den _ = _
    rw [k0_24_142, decide_eq_false h1, cond_false, k0_24_161]
    rfl
def gb35_I (I : IFn) : IFn := flI (flI (flI (flI (flI (uI ((uI ((uI ((uI ((z0 ((z0 ((z0 ((z0 ((z0 ((z0 ((z0 ((z0 ((z0 (I) 36)) 37)) 38)) 39)) 40)) 41)) 42)) 43)) 44)) 0 35 9 (-1))) 0 35 10 999)) 0 35 11 0)) 0 35 12 0) 36 3 10) 37 50 10) 38 10 10) 40 1 10) 42 (-1) 10
def ga35_I (I : IFn) : IFn := clI (gb35_I I) 39 10
def ga35_R (R : RFn) : RFn := ((((uR (n0 ((uR (n0 ((uR (n0 ((uR (n0 ((uR (n0 ((uR (n0 ((uR (n0 ((uR (n0 ((uR (n0 (R) 36) 35 0 (some (0, 36)))) 37) 35 1 (some (0, 37)))) 38) 35 2 (some (0, 38)))) 39) 35 3 (some (0, 39)))) 40) 35 4 (some (0, 40)))) 41) 35 5 (some (0, 41)))) 42) 35 6 (some (0, 42)))) 43) 35 7 (some (0, 43)))) 44) 35 8 (some (0, 44))))))
theorem ga35_a (d : Nat) (I : IFn) (R : RFn) (sc : Nat × (Nat → Int32)) : den (d + 1, 0, 0, 0, [some (vr 0 35), none], [], (I, R, (0, 36), sc)) = den (d + 1, 0, 0, 142, [some (vr 0 35), some (vi (nI 0))], [], (gb35_I I, ga35_R R, (0, 45), sc)) := (k0_35 d I R sc).trans ((k0_35_98 d _ _ (0, 45) sc rfl).trans ((k0_35_106 d _ _ (0, 45) sc rfl).trans ((k0_35_115 d _ _ (0, 45) sc rfl).trans ((k0_35_124 d _ _ (0, 45) sc rfl).trans ((k0_35_132 d _ _ (0, 45) sc rfl).trans (k0_35_140 (d + 1) _))))))
theorem ga35_ (d : Nat) (I : IFn) (R : RFn) (sc : Nat × (Nat → Int32)) : den (d + 1, 0, 0, 0, [some (vr 0 35), none], [], (I, R, (0, 36), sc)) = some (none, (ga35_I I, ga35_R R, (0, 45), sc)) := by
  refine (ga35_a d I R sc).trans ?_
  refine (lp (fun p => den (d + 1, 0, 0, 142, [some (vr 0 35), some (vi (nI p))], [], (clI (gb35_I I) 39 p, ga35_R R, (0, 45), sc))) (N := 10) ?_ 0 (by omega)).trans ?_
  · intro p hp
    have h1 : nI p < (10 : Int32) := by rw [lt_10 (by omega)]; exact hp
    have h2 : inb (nI p) 10 = true := inb_n hp (by omega)
    show den _ = den _
    rw [k0_35_142, decide_eq_true h1, cond_true, k0_35_148 (d + 1) _ _ _ _ _ rfl, h2, cond_true, nI_clamp (by omega), nI_1]
    rfl
  · have h1 : ¬ nI 10 < (10 : Int32) := by decide
    show den _ = _
    rw [k0_35_142, decide_eq_false h1, cond_false, k0_35_161]
    rfl
set_option maxRecDepth 20000 in
theorem wo3_p0 (d : Nat) (I : IFn) (R : RFn) (sc : Nat × (Nat → Int32)) : den (d + 2, 6, 0, 0, [some (vr 0 3)], [], (I, R, (0, 4), sc)) = den (d + 2, 6, 0, 9, [some (vr 0 3)], [vr 0 4, vr 0 4, vr 0 3], (z0 (I) 4, n0 (R) 4, (0, 5), sc)) := (S_go rfl).trans ((S_go rfl).trans ((S_go rfl).trans ((S_go rfl).trans (S_go rfl))))
theorem wo3_c9 (d : Nat) (I : IFn) (R : RFn) (sc : Nat × (Nat → Int32)) : den (d + 2, 6, 0, 9, [some (vr 0 3)], [vr 0 4, vr 0 4, vr 0 3], (I, R, (0, 5), sc)) = den (d + 2, 6, 0, 12, [some (vr 0 3)], [vr 0 4, vr 0 3], (su4_I I, su4_R R, (0, 8), sc)) := (S_call rfl).trans ((congrArg (fun z => Option.bind z _) (su4_ (d) I R sc)).trans rfl)
set_option maxRecDepth 20000 in
theorem wo3_p12_s12 (d : Nat) (I : IFn) (R : RFn) (sc : Nat × (Nat → Int32)) : den (d + 2, 6, 0, 12, [some (vr 0 3)], [vr 0 4, vr 0 3], (I, R, (0, 8), sc)) = den (d + 2, 6, 0, 15, [some (vr 0 3)], [], (I, uR (R) 3 0 (some (0, 4)), (0, 8), sc)) := S_go rfl
set_option maxRecDepth 20000 in
theorem wo3_p12_s15 (d : Nat) (I : IFn) (R : RFn) (sc : Nat × (Nat → Int32)) : den (d + 2, 6, 0, 15, [some (vr 0 3)], [], (I, R, (0, 8), sc)) = den (d + 2, 6, 0, 20, [some (vr 0 3)], [vr 0 8, vr 0 8, vr 0 3], (z0 (I) 8, n0 (R) 8, (0, 9), sc)) := (S_go rfl).trans ((S_go rfl).trans (S_go rfl))
theorem wo3_p12 (d : Nat) (I : IFn) (R : RFn) (sc : Nat × (Nat → Int32)) : den (d + 2, 6, 0, 12, [some (vr 0 3)], [vr 0 4, vr 0 3], (I, R, (0, 8), sc)) = den (d + 2, 6, 0, 20, [some (vr 0 3)], [vr 0 8, vr 0 8, vr 0 3], (z0 (I) 8, n0 ((uR (R) 3 0 (some (0, 4)))) 8, (0, 9), sc)) := (wo3_p12_s12 d _ _ sc).trans (wo3_p12_s15 d _ _ sc)
theorem wo3_c20 (d : Nat) (I : IFn) (R : RFn) (sc : Nat × (Nat → Int32)) : den (d + 2, 6, 0, 20, [some (vr 0 3)], [vr 0 8, vr 0 8, vr 0 3], (I, R, (0, 9), sc)) = den (d + 2, 6, 0, 23, [some (vr 0 3)], [vr 0 8, vr 0 3], (ga8_I I, ga8_R R, (0, 18), sc)) := (S_call rfl).trans ((congrArg (fun z => Option.bind z _) (ga8_ (d) I R sc)).trans rfl)
set_option maxRecDepth 20000 in
theorem wo3_p23_s23 (d : Nat) (I : IFn) (R : RFn) (sc : Nat × (Nat → Int32)) : den (d + 2, 6, 0, 23, [some (vr 0 3)], [vr 0 8, vr 0 3], (I, R, (0, 18), sc)) = den (d + 2, 6, 0, 26, [some (vr 0 3)], [], (I, uR (R) 3 1 (some (0, 8)), (0, 18), sc)) := S_go rfl
set_option maxRecDepth 20000 in
theorem wo3_p23_s26 (d : Nat) (I : IFn) (R : RFn) (sc : Nat × (Nat → Int32)) : den (d + 2, 6, 0, 26, [some (vr 0 3)], [], (I, R, (0, 18), sc)) = den (d + 2, 6, 0, 34, [some (vr 0 3)], [], (z0 (I) 18, uR (n0 (R) 18) 3 2 (some (0, 18)), (0, 19), sc)) := (S_go rfl).trans ((S_go rfl).trans ((S_go rfl).trans (S_go rfl)))
set_option maxRecDepth 20000 in
theorem wo3_p23_s34 (d : Nat) (I : IFn) (R : RFn) (sc : Nat × (Nat → Int32)) : den (d + 2, 6, 0, 34, [some (vr 0 3)], [], (I, R, (0, 19), sc)) = den (d + 2, 6, 0, 39, [some (vr 0 3)], [], (uI (I) 0 3 3 1, R, (0, 19), sc)) := (S_go rfl).trans ((S_go rfl).trans (S_go rfl))
theorem wo3_p23 (d : Nat) (I : IFn) (R : RFn) (sc : Nat × (Nat → Int32)) : den (d + 2, 6, 0, 23, [some (vr 0 3)], [vr 0 8, vr 0 3], (I, R, (0, 18), sc)) = den (d + 2, 6, 0, 39, [some (vr 0 3)], [], (uI ((z0 (I) 18)) 0 3 3 1, (uR (n0 ((uR (R) 3 1 (some (0, 8)))) 18) 3 2 (some (0, 18))), (0, 19), sc)) := (wo3_p23_s23 d _ _ sc).trans ((wo3_p23_s26 d _ _ sc).trans (wo3_p23_s34 d _ _ sc))
def wo3_I (I : IFn) : IFn := flI (uI ((z0 ((ga8_I (z0 ((su4_I (z0 ((I)) 4))) 8))) 18)) 0 3 3 1) 18 (-1) 10
def wo3_R (R : RFn) : RFn := (uR (n0 ((uR ((ga8_R (n0 ((uR ((su4_R (n0 ((R)) 4))) 3 0 (some (0, 4)))) 8))) 3 1 (some (0, 8)))) 18) 3 2 (some (0, 18)))
set_option maxRecDepth 20000 in
theorem wo3_f (d : Nat) (I : IFn) (R : RFn) (al : Nat × Nat) (sc : Nat × (Nat → Int32)) (hr : R 0 3 2 = some (0, 18)) : den (d + 2, 6, 0, 39, [some (vr 0 3)], [], (I, R, al, sc)) = some (none, (flI I 18 (-1) 10, R, al, sc)) := by
  refine (show _ = den (d + 2, 6, 0, 43, [some (vr 0 3)], [.inr (.inr (R 0 3 2))], (I, R, al, sc)) from (S_go rfl).trans (S_go rfl)).trans ?_
  rw [hr]
  refine (S_go rfl).trans ((S_call rfl).trans ?_)
  refine (congrArg (fun z => Option.bind z _) (r_fill (d + 1) (q := 18) (by omega) (-1) I R al sc)).trans ?_
  exact S_ret rfl
theorem wo3_ (d : Nat) (I : IFn) (R : RFn) (sc : Nat × (Nat → Int32)) : den (d + 2, 6, 0, 0, [some (vr 0 3)], [], (I, R, (0, 4), sc)) = some (none, (wo3_I I, wo3_R R, (0, 19), sc)) := (wo3_p0 d I R sc).trans ((wo3_c9 d _ _ sc).trans ((wo3_p12 d _ _ sc).trans ((wo3_c20 d _ _ sc).trans ((wo3_p23 d _ _ sc).trans (wo3_f d _ _ (0, 19) sc rfl)))))
set_option maxRecDepth 20000 in
theorem wo19_p0 (d : Nat) (I : IFn) (R : RFn) (sc : Nat × (Nat → Int32)) : den (d + 2, 6, 0, 0, [some (vr 0 19)], [], (I, R, (0, 20), sc)) = den (d + 2, 6, 0, 9, [some (vr 0 19)], [vr 0 20, vr 0 20, vr 0 19], (z0 (I) 20, n0 (R) 20, (0, 21), sc)) := (S_go rfl).trans ((S_go rfl).trans ((S_go rfl).trans ((S_go rfl).trans (S_go rfl))))
theorem wo19_c9 (d : Nat) (I : IFn) (R : RFn) (sc : Nat × (Nat → Int32)) : den (d + 2, 6, 0, 9, [some (vr 0 19)], [vr 0 20, vr 0 20, vr 0 19], (I, R, (0, 21), sc)) = den (d + 2, 6, 0, 12, [some (vr 0 19)], [vr 0 20, vr 0 19], (su20_I I, su20_R R, (0, 24), sc)) := (S_call rfl).trans ((congrArg (fun z => Option.bind z _) (su20_ (d) I R sc)).trans rfl)
set_option maxRecDepth 20000 in
theorem wo19_p12_s12 (d : Nat) (I : IFn) (R : RFn) (sc : Nat × (Nat → Int32)) : den (d + 2, 6, 0, 12, [some (vr 0 19)], [vr 0 20, vr 0 19], (I, R, (0, 24), sc)) = den (d + 2, 6, 0, 15, [some (vr 0 19)], [], (I, uR (R) 19 0 (some (0, 20)), (0, 24), sc)) := S_go rfl
set_option maxRecDepth 20000 in
theorem wo19_p12_s15 (d : Nat) (I : IFn) (R : RFn) (sc : Nat × (Nat → Int32)) : den (d + 2, 6, 0, 15, [some (vr 0 19)], [], (I, R, (0, 24), sc)) = den (d + 2, 6, 0, 20, [some (vr 0 19)], [vr 0 24, vr 0 24, vr 0 19], (z0 (I) 24, n0 (R) 24, (0, 25), sc)) := (S_go rfl).trans ((S_go rfl).trans (S_go rfl))
theorem wo19_p12 (d : Nat) (I : IFn) (R : RFn) (sc : Nat × (Nat → Int32)) : den (d + 2, 6, 0, 12, [some (vr 0 19)], [vr 0 20, vr 0 19], (I, R, (0, 24), sc)) = den (d + 2, 6, 0, 20, [some (vr 0 19)], [vr 0 24, vr 0 24, vr 0 19], (z0 (I) 24, n0 ((uR (R) 19 0 (some (0, 20)))) 24, (0, 25), sc)) := (wo19_p12_s12 d _ _ sc).trans (wo19_p12_s15 d _ _ sc)
theorem wo19_c20 (d : Nat) (I : IFn) (R : RFn) (sc : Nat × (Nat → Int32)) : den (d + 2, 6, 0, 20, [some (vr 0 19)], [vr 0 24, vr 0 24, vr 0 19], (I, R, (0, 25), sc)) = den (d + 2, 6, 0, 23, [some (vr 0 19)], [vr 0 24, vr 0 19], (ga24_I I, ga24_R R, (0, 34), sc)) := (S_call rfl).trans ((congrArg (fun z => Option.bind z _) (ga24_ (d) I R sc)).trans rfl)
set_option maxRecDepth 20000 in
theorem wo19_p23_s23 (d : Nat) (I : IFn) (R : RFn) (sc : Nat × (Nat → Int32)) : den (d + 2, 6, 0, 23, [some (vr 0 19)], [vr 0 24, vr 0 19], (I, R, (0, 34), sc)) = den (d + 2, 6, 0, 26, [some (vr 0 19)], [], (I, uR (R) 19 1 (some (0, 24)), (0, 34), sc)) := S_go rfl
set_option maxRecDepth 20000 in
theorem wo19_p23_s26 (d : Nat) (I : IFn) (R : RFn) (sc : Nat × (Nat → Int32)) : den (d + 2, 6, 0, 26, [some (vr 0 19)], [], (I, R, (0, 34), sc)) = den (d + 2, 6, 0, 34, [some (vr 0 19)], [], (z0 (I) 34, uR (n0 (R) 34) 19 2 (some (0, 34)), (0, 35), sc)) := (S_go rfl).trans ((S_go rfl).trans ((S_go rfl).trans (S_go rfl)))
set_option maxRecDepth 20000 in
theorem wo19_p23_s34 (d : Nat) (I : IFn) (R : RFn) (sc : Nat × (Nat → Int32)) : den (d + 2, 6, 0, 34, [some (vr 0 19)], [], (I, R, (0, 35), sc)) = den (d + 2, 6, 0, 39, [some (vr 0 19)], [], (uI (I) 0 19 3 1, R, (0, 35), sc)) := (S_go rfl).trans ((S_go rfl).trans (S_go rfl))
theorem wo19_p23 (d : Nat) (I : IFn) (R : RFn) (sc : Nat × (Nat → Int32)) : den (d + 2, 6, 0, 23, [some (vr 0 19)], [vr 0 24, vr 0 19], (I, R, (0, 34), sc)) = den (d + 2, 6, 0, 39, [some (vr 0 19)], [], (uI ((z0 (I) 34)) 0 19 3 1, (uR (n0 ((uR (R) 19 1 (some (0, 24)))) 34) 19 2 (some (0, 34))), (0, 35), sc)) := (wo19_p23_s23 d _ _ sc).trans ((wo19_p23_s26 d _ _ sc).trans (wo19_p23_s34 d _ _ sc))
def wo19_I (I : IFn) : IFn := flI (uI ((z0 ((ga24_I (z0 ((su20_I (z0 ((I)) 20))) 24))) 34)) 0 19 3 1) 34 (-1) 10
def wo19_R (R : RFn) : RFn := (uR (n0 ((uR ((ga24_R (n0 ((uR ((su20_R (n0 ((R)) 20))) 19 0 (some (0, 20)))) 24))) 19 1 (some (0, 24)))) 34) 19 2 (some (0, 34)))
set_option maxRecDepth 20000 in
theorem wo19_f (d : Nat) (I : IFn) (R : RFn) (al : Nat × Nat) (sc : Nat × (Nat → Int32)) (hr : R 0 19 2 = some (0, 34)) : den (d + 2, 6, 0, 39, [some (vr 0 19)], [], (I, R, al, sc)) = some (none, (flI I 34 (-1) 10, R, al, sc)) := by
  refine (show _ = den (d + 2, 6, 0, 43, [some (vr 0 19)], [.inr (.inr (R 0 19 2))], (I, R, al, sc)) from (S_go rfl).trans (S_go rfl)).trans ?_
  rw [hr]
  refine (S_go rfl).trans ((S_call rfl).trans ?_)
  refine (congrArg (fun z => Option.bind z _) (r_fill (d + 1) (q := 34) (by omega) (-1) I R al sc)).trans ?_
  exact S_ret rfl
theorem wo19_ (d : Nat) (I : IFn) (R : RFn) (sc : Nat × (Nat → Int32)) : den (d + 2, 6, 0, 0, [some (vr 0 19)], [], (I, R, (0, 20), sc)) = some (none, (wo19_I I, wo19_R R, (0, 35), sc)) := (wo19_p0 d I R sc).trans ((wo19_c9 d _ _ sc).trans ((wo19_p12 d _ _ sc).trans ((wo19_c20 d _ _ sc).trans ((wo19_p23 d _ _ sc).trans (wo19_f d _ _ (0, 35) sc rfl)))))
