set_option maxRecDepth 20000 in
theorem sd_p0 (d : Nat) (I : IFn) (R : RFn) (sc : Nat × (Nat → Int32)) : den (d + 3, 7, 0, 0, [some (vr 0 0), none], [], (I, R, (0, 1), sc)) = den (d + 3, 7, 0, 9, [some (vr 0 0), none], [vr 0 1, vr 0 1, vr 0 0], (z0 (I) 1, n0 (R) 1, (0, 2), sc)) := (S_go rfl).trans ((S_go rfl).trans ((S_go rfl).trans ((S_go rfl).trans (S_go rfl))))
theorem sd_c9 (d : Nat) (I : IFn) (R : RFn) (sc : Nat × (Nat → Int32)) : den (d + 3, 7, 0, 9, [some (vr 0 0), none], [vr 0 1, vr 0 1, vr 0 0], (I, R, (0, 2), sc)) = den (d + 3, 7, 0, 12, [some (vr 0 0), none], [vr 0 1, vr 0 0], (tpI I, tpR R, (0, 3), sc)) := (S_call rfl).trans ((congrArg (fun z => Option.bind z _) (tp (d + 1) I R sc)).trans rfl)
set_option maxRecDepth 20000 in
theorem sd_p12_s12 (d : Nat) (I : IFn) (R : RFn) (sc : Nat × (Nat → Int32)) : den (d + 3, 7, 0, 12, [some (vr 0 0), none], [vr 0 1, vr 0 0], (I, R, (0, 3), sc)) = den (d + 3, 7, 0, 15, [some (vr 0 0), none], [], (I, uR (R) 0 0 (some (0, 1)), (0, 3), sc)) := S_go rfl
set_option maxRecDepth 20000 in
theorem sd_p12_s15 (d : Nat) (I : IFn) (R : RFn) (sc : Nat × (Nat → Int32)) : den (d + 3, 7, 0, 15, [some (vr 0 0), none], [], (I, R, (0, 3), sc)) = den (d + 3, 7, 0, 20, [some (vr 0 0), none], [vr 0 3, vr 0 3, vr 0 0], (z0 (I) 3, n0 (R) 3, (0, 4), sc)) := (S_go rfl).trans ((S_go rfl).trans (S_go rfl))
theorem sd_p12 (d : Nat) (I : IFn) (R : RFn) (sc : Nat × (Nat → Int32)) : den (d + 3, 7, 0, 12, [some (vr 0 0), none], [vr 0 1, vr 0 0], (I, R, (0, 3), sc)) = den (d + 3, 7, 0, 20, [some (vr 0 0), none], [vr 0 3, vr 0 3, vr 0 0], (z0 (I) 3, n0 ((uR (R) 0 0 (some (0, 1)))) 3, (0, 4), sc)) := (sd_p12_s12 d _ _ sc).trans (sd_p12_s15 d _ _ sc)
theorem sd_c20 (d : Nat) (I : IFn) (R : RFn) (sc : Nat × (Nat → Int32)) : den (d + 3, 7, 0, 20, [some (vr 0 0), none], [vr 0 3, vr 0 3, vr 0 0], (I, R, (0, 4), sc)) = den (d + 3, 7, 0, 23, [some (vr 0 0), none], [vr 0 3, vr 0 0], (wo3_I I, wo3_R R, (0, 19), sc)) := (S_call rfl).trans ((congrArg (fun z => Option.bind z _) (wo3_ (d) I R sc)).trans rfl)
set_option maxRecDepth 20000 in
theorem sd_p23_s23 (d : Nat) (I : IFn) (R : RFn) (sc : Nat × (Nat → Int32)) : den (d + 3, 7, 0, 23, [some (vr 0 0), none], [vr 0 3, vr 0 0], (I, R, (0, 19), sc)) = den (d + 3, 7, 0, 26, [some (vr 0 0), none], [], (I, uR (R) 0 1 (some (0, 3)), (0, 19), sc)) := S_go rfl
set_option maxRecDepth 20000 in
theorem sd_p23_s26 (d : Nat) (I : IFn) (R : RFn) (sc : Nat × (Nat → Int32)) : den (d + 3, 7, 0, 26, [some (vr 0 0), none], [], (I, R, (0, 19), sc)) = den (d + 3, 7, 0, 31, [some (vr 0 0), none], [vr 0 19, vr 0 19, vr 0 0], (z0 (I) 19, n0 (R) 19, (0, 20), sc)) := (S_go rfl).trans ((S_go rfl).trans (S_go rfl))
theorem sd_p23 (d : Nat) (I : IFn) (R : RFn) (sc : Nat × (Nat → Int32)) : den (d + 3, 7, 0, 23, [some (vr 0 0), none], [vr 0 3, vr 0 0], (I, R, (0, 19), sc)) = den (d + 3, 7, 0, 31, [some (vr 0 0), none], [vr 0 19, vr 0 19, vr 0 0], (z0 (I) 19, n0 ((uR (R) 0 1 (some (0, 3)))) 19, (0, 20), sc)) := (sd_p23_s23 d _ _ sc).trans (sd_p23_s26 d _ _ sc)
theorem sd_c31 (d : Nat) (I : IFn) (R : RFn) (sc : Nat × (Nat → Int32)) : den (d + 3, 7, 0, 31, [some (vr 0 0), none], [vr 0 19, vr 0 19, vr 0 0], (I, R, (0, 20), sc)) = den (d + 3, 7, 0, 34, [some (vr 0 0), none], [vr 0 19, vr 0 0], (wo19_I I, wo19_R R, (0, 35), sc)) := (S_call rfl).trans ((congrArg (fun z => Option.bind z _) (wo19_ (d) I R sc)).trans rfl)
set_option maxRecDepth 20000 in
theorem sd_p34_s34 (d : Nat) (I : IFn) (R : RFn) (sc : Nat × (Nat → Int32)) : den (d + 3, 7, 0, 34, [some (vr 0 0), none], [vr 0 19, vr 0 0], (I, R, (0, 35), sc)) = den (d + 3, 7, 0, 37, [some (vr 0 0), none], [], (I, uR (R) 0 2 (some (0, 19)), (0, 35), sc)) := S_go rfl
set_option maxRecDepth 20000 in
theorem sd_p34_s37 (d : Nat) (I : IFn) (R : RFn) (sc : Nat × (Nat → Int32)) : den (d + 3, 7, 0, 37, [some (vr 0 0), none], [], (I, R, (0, 35), sc)) = den (d + 3, 7, 0, 42, [some (vr 0 0), none], [vr 0 35, vr 0 35, vr 0 0], (z0 (I) 35, n0 (R) 35, (0, 36), sc)) := (S_go rfl).trans ((S_go rfl).trans (S_go rfl))
theorem sd_p34 (d : Nat) (I : IFn) (R : RFn) (sc : Nat × (Nat → Int32)) : den (d + 3, 7, 0, 34, [some (vr 0 0), none], [vr 0 19, vr 0 0], (I, R, (0, 35), sc)) = den (d + 3, 7, 0, 42, [some (vr 0 0), none], [vr 0 35, vr 0 35, vr 0 0], (z0 (I) 35, n0 ((uR (R) 0 2 (some (0, 19)))) 35, (0, 36), sc)) := (sd_p34_s34 d _ _ sc).trans (sd_p34_s37 d _ _ sc)
theorem sd_c42 (d : Nat) (I : IFn) (R : RFn) (sc : Nat × (Nat → Int32)) : den (d + 3, 7, 0, 42, [some (vr 0 0), none], [vr 0 35, vr 0 35, vr 0 0], (I, R, (0, 36), sc)) = den (d + 3, 7, 0, 45, [some (vr 0 0), none], [vr 0 35, vr 0 0], (ga35_I I, ga35_R R, (0, 45), sc)) := (S_call rfl).trans ((congrArg (fun z => Option.bind z _) (ga35_ (d + 1) I R sc)).trans rfl)
set_option maxRecDepth 20000 in
theorem sd_p45_s45 (d : Nat) (I : IFn) (R : RFn) (sc : Nat × (Nat → Int32)) : den (d + 3, 7, 0, 45, [some (vr 0 0), none], [vr 0 35, vr 0 0], (I, R, (0, 45), sc)) = den (d + 3, 7, 0, 48, [some (vr 0 0), none], [], (I, uR (R) 0 3 (some (0, 35)), (0, 45), sc)) := S_go rfl
set_option maxRecDepth 20000 in
theorem sd_p45_s48 (d : Nat) (I : IFn) (R : RFn) (sc : Nat × (Nat → Int32)) : den (d + 3, 7, 0, 48, [some (vr 0 0), none], [], (I, R, (0, 45), sc)) = den (d + 3, 7, 0, 56, [some (vr 0 0), none], [], (z0 (I) 45, uR (n0 (R) 45) 0 4 (some (0, 45)), (0, 46), sc)) := (S_go rfl).trans ((S_go rfl).trans ((S_go rfl).trans (S_go rfl)))
set_option maxRecDepth 20000 in
theorem sd_p45_s56 (d : Nat) (I : IFn) (R : RFn) (sc : Nat × (Nat → Int32)) : den (d + 3, 7, 0, 56, [some (vr 0 0), none], [], (I, R, (0, 46), sc)) = den (d + 3, 7, 0, 64, [some (vr 0 0), none], [], (z0 (I) 46, uR (n0 (R) 46) 0 5 (some (0, 46)), (0, 47), sc)) := (S_go rfl).trans ((S_go rfl).trans ((S_go rfl).trans (S_go rfl)))
set_option maxRecDepth 20000 in
theorem sd_p45_s64 (d : Nat) (I : IFn) (R : RFn) (sc : Nat × (Nat → Int32)) : den (d + 3, 7, 0, 64, [some (vr 0 0), none], [], (I, R, (0, 47), sc)) = den (d + 3, 7, 0, 72, [some (vr 0 0), none], [], (z0 (I) 47, uR (n0 (R) 47) 0 6 (some (0, 47)), (0, 48), sc)) := (S_go rfl).trans ((S_go rfl).trans ((S_go rfl).trans (S_go rfl)))
set_option maxRecDepth 20000 in
theorem sd_p45_s72 (d : Nat) (I : IFn) (R : RFn) (sc : Nat × (Nat → Int32)) : den (d + 3, 7, 0, 72, [some (vr 0 0), none], [], (I, R, (0, 48), sc)) = den (d + 3, 7, 0, 77, [some (vr 0 0), none], [], (uI (I) 0 0 7 0, R, (0, 48), sc)) := (S_go rfl).trans ((S_go rfl).trans (S_brt rfl rfl))
theorem sd_p45 (d : Nat) (I : IFn) (R : RFn) (sc : Nat × (Nat → Int32)) : den (d + 3, 7, 0, 45, [some (vr 0 0), none], [vr 0 35, vr 0 0], (I, R, (0, 45), sc)) = den (d + 3, 7, 0, 77, [some (vr 0 0), none], [], (uI ((z0 ((z0 ((z0 (I) 45)) 46)) 47)) 0 0 7 0, (uR (n0 ((uR (n0 ((uR (n0 ((uR (R) 0 3 (some (0, 35)))) 45) 0 4 (some (0, 45)))) 46) 0 5 (some (0, 46)))) 47) 0 6 (some (0, 47))), (0, 48), sc)) := (sd_p45_s45 d _ _ sc).trans ((sd_p45_s48 d _ _ sc).trans ((sd_p45_s56 d _ _ sc).trans ((sd_p45_s64 d _ _ sc).trans (sd_p45_s72 d _ _ sc))))
def sd0I (I : IFn) : IFn := uI ((z0 ((z0 ((z0 ((ga35_I (z0 ((wo19_I (z0 ((wo3_I (z0 ((tpI (z0 ((I)) 1))) 3))) 19))) 35))) 45)) 46)) 47)) 0 0 7 0
def sd0R (R : RFn) : RFn := (uR (n0 ((uR (n0 ((uR (n0 ((uR ((ga35_R (n0 ((uR ((wo19_R (n0 ((uR ((wo3_R (n0 ((uR ((tpR (n0 ((R)) 1))) 0 0 (some (0, 1)))) 3))) 0 1 (some (0, 3)))) 19))) 0 2 (some (0, 19)))) 35))) 0 3 (some (0, 35)))) 45) 0 4 (some (0, 45)))) 46) 0 5 (some (0, 46)))) 47) 0 6 (some (0, 47)))
theorem sd0 (d : Nat) (I : IFn) (R : RFn) (sc : Nat × (Nat → Int32)) : den (d + 3, 7, 0, 0, [some (vr 0 0), none], [], (I, R, (0, 1), sc)) = den (d + 3, 7, 0, 79, [some (vr 0 0), some (vi 0)], [], (sd0I I, sd0R R, (0, 48), sc)) := (sd_p0 d _ _ sc).trans ((sd_c9 d _ _ sc).trans ((sd_p12 d _ _ sc).trans ((sd_c20 d _ _ sc).trans ((sd_p23 d _ _ sc).trans ((sd_c31 d _ _ sc).trans ((sd_p34 d _ _ sc).trans ((sd_c42 d _ _ sc).trans ((sd_p45 d _ _ sc).trans ((S_go rfl).trans (S_go rfl))))))))))
set_option maxRecDepth 20000 in
theorem sl_0 (d : Nat) (I : IFn) (R : RFn) (sc : Nat × (Nat → Int32)) (hr : R 0 0 4 = some (0, 45)) : den (d + 3, 7, 0, 79, [some (vr 0 0), some (vi 0)], [], (I, R, (0, 48), sc)) = den (d + 3, 7, 0, 79, [some (vr 0 0), some (vi 1)], [], (sh48_I (z0 I 48), uR (sh48_R (n0 R 48)) 45 0 (some (0, 48)), (0, 50), sc)) := by
  refine (show _ = den (d + 3, 7, 0, 84, [some (vr 0 0), some (vi 0)], [.inr (.inr (R 0 0 4)), vi 0], (I, R, (0, 48), sc)) from (S_go rfl).trans ((S_go rfl).trans (S_go rfl))).trans ?_
  rw [hr]
  refine (show _ = den (d + 3, 7, 0, 88, [some (vr 0 0), some (vi 0)], [], (I, R, (0, 48), sc)) from (S_go rfl).trans ((S_br rfl).trans rfl)).trans ?_
  refine (show _ = den (d + 3, 7, 0, 92, [some (vr 0 0), some (vi 0)], [.inr (.inr (R 0 0 4))], (I, R, (0, 48), sc)) from (S_go rfl).trans (S_go rfl)).trans ?_
  rw [hr]
  refine (show _ = den (d + 3, 7, 0, 97, [some (vr 0 0), some (vi 0)], [vr 0 48, vr 0 48, vi 0, vr 0 45], (z0 I 48, n0 R 48, (0, 49), sc)) from (S_go rfl).trans ((S_go rfl).trans (S_go rfl))).trans ?_
  refine (S_call rfl).trans ((congrArg (fun z => Option.bind z _) (sh48_ (d + 1) (z0 I 48) (n0 R 48) sc)).trans ?_)
  exact (S_brt rfl rfl).trans ((S_go rfl).trans (S_go rfl))
set_option maxRecDepth 20000 in
theorem sl_1 (d : Nat) (I : IFn) (R : RFn) (sc : Nat × (Nat → Int32)) (hr : R 0 0 4 = some (0, 45)) : den (d + 3, 7, 0, 79, [some (vr 0 0), some (vi 1)], [], (I, R, (0, 50), sc)) = den (d + 3, 7, 0, 79, [some (vr 0 0), some (vi 2)], [], (sh50_I (z0 I 50), uR (sh50_R (n0 R 50)) 45 1 (some (0, 50)), (0, 52), sc)) := by
  refine (show _ = den (d + 3, 7, 0, 84, [some (vr 0 0), some (vi 1)], [.inr (.inr (R 0 0 4)), vi 1], (I, R, (0, 50), sc)) from (S_go rfl).trans ((S_go rfl).trans (S_go rfl))).trans ?_
  rw [hr]
  refine (show _ = den (d + 3, 7, 0, 88, [some (vr 0 0), some (vi 1)], [], (I, R, (0, 50), sc)) from (S_go rfl).trans ((S_br rfl).trans rfl)).trans ?_
  refine (show _ = den (d + 3, 7, 0, 92, [some (vr 0 0), some (vi 1)], [.inr (.inr (R 0 0 4))], (I, R, (0, 50), sc)) from (S_go rfl).trans (S_go rfl)).trans ?_
  rw [hr]
  refine (show _ = den (d + 3, 7, 0, 97, [some (vr 0 0), some (vi 1)], [vr 0 50, vr 0 50, vi 1, vr 0 45], (z0 I 50, n0 R 50, (0, 51), sc)) from (S_go rfl).trans ((S_go rfl).trans (S_go rfl))).trans ?_
  refine (S_call rfl).trans ((congrArg (fun z => Option.bind z _) (sh50_ (d + 1) (z0 I 50) (n0 R 50) sc)).trans ?_)
  exact (S_brt rfl rfl).trans ((S_go rfl).trans (S_go rfl))
set_option maxRecDepth 20000 in
theorem sl_2 (d : Nat) (I : IFn) (R : RFn) (sc : Nat × (Nat → Int32)) (hr : R 0 0 4 = some (0, 45)) : den (d + 3, 7, 0, 79, [some (vr 0 0), some (vi 2)], [], (I, R, (0, 52), sc)) = den (d + 3, 7, 0, 79, [some (vr 0 0), some (vi 3)], [], (sh52_I (z0 I 52), uR (sh52_R (n0 R 52)) 45 2 (some (0, 52)), (0, 54), sc)) := by
  refine (show _ = den (d + 3, 7, 0, 84, [some (vr 0 0), some (vi 2)], [.inr (.inr (R 0 0 4)), vi 2], (I, R, (0, 52), sc)) from (S_go rfl).trans ((S_go rfl).trans (S_go rfl))).trans ?_
  rw [hr]
  refine (show _ = den (d + 3, 7, 0, 88, [some (vr 0 0), some (vi 2)], [], (I, R, (0, 52), sc)) from (S_go rfl).trans ((S_br rfl).trans rfl)).trans ?_
  refine (show _ = den (d + 3, 7, 0, 92, [some (vr 0 0), some (vi 2)], [.inr (.inr (R 0 0 4))], (I, R, (0, 52), sc)) from (S_go rfl).trans (S_go rfl)).trans ?_
  rw [hr]
  refine (show _ = den (d + 3, 7, 0, 97, [some (vr 0 0), some (vi 2)], [vr 0 52, vr 0 52, vi 2, vr 0 45], (z0 I 52, n0 R 52, (0, 53), sc)) from (S_go rfl).trans ((S_go rfl).trans (S_go rfl))).trans ?_
  refine (S_call rfl).trans ((congrArg (fun z => Option.bind z _) (sh52_ (d + 1) (z0 I 52) (n0 R 52) sc)).trans ?_)
  exact (S_brt rfl rfl).trans ((S_go rfl).trans (S_go rfl))
set_option maxRecDepth 20000 in
theorem sl_3 (d : Nat) (I : IFn) (R : RFn) (sc : Nat × (Nat → Int32)) (hr : R 0 0 4 = some (0, 45)) : den (d + 3, 7, 0, 79, [some (vr 0 0), some (vi 3)], [], (I, R, (0, 54), sc)) = den (d + 3, 7, 0, 79, [some (vr 0 0), some (vi 4)], [], (sh54_I (z0 I 54), uR (sh54_R (n0 R 54)) 45 3 (some (0, 54)), (0, 56), sc)) := by
  refine (show _ = den (d + 3, 7, 0, 84, [some (vr 0 0), some (vi 3)], [.inr (.inr (R 0 0 4)), vi 3], (I, R, (0, 54), sc)) from (S_go rfl).trans ((S_go rfl).trans (S_go rfl))).trans ?_
  rw [hr]
  refine (show _ = den (d + 3, 7, 0, 88, [some (vr 0 0), some (vi 3)], [], (I, R, (0, 54), sc)) from (S_go rfl).trans ((S_br rfl).trans rfl)).trans ?_
  refine (show _ = den (d + 3, 7, 0, 92, [some (vr 0 0), some (vi 3)], [.inr (.inr (R 0 0 4))], (I, R, (0, 54), sc)) from (S_go rfl).trans (S_go rfl)).trans ?_
  rw [hr]
  refine (show _ = den (d + 3, 7, 0, 97, [some (vr 0 0), some (vi 3)], [vr 0 54, vr 0 54, vi 3, vr 0 45], (z0 I 54, n0 R 54, (0, 55), sc)) from (S_go rfl).trans ((S_go rfl).trans (S_go rfl))).trans ?_
  refine (S_call rfl).trans ((congrArg (fun z => Option.bind z _) (sh54_ (d + 1) (z0 I 54) (n0 R 54) sc)).trans ?_)
  exact (S_brt rfl rfl).trans ((S_go rfl).trans (S_go rfl))
set_option maxRecDepth 20000 in
theorem sl_4 (d : Nat) (I : IFn) (R : RFn) (al : Nat × Nat) (sc : Nat × (Nat → Int32)) (hr : R 0 0 4 = some (0, 45)) : den (d + 3, 7, 0, 79, [some (vr 0 0), some (vi 4)], [], (I, R, al, sc)) = some (none, (I, R, al, sc)) := by
  refine (show _ = den (d + 3, 7, 0, 84, [some (vr 0 0), some (vi 4)], [.inr (.inr (R 0 0 4)), vi 4], (I, R, al, sc)) from (S_go rfl).trans ((S_go rfl).trans (S_go rfl))).trans ?_
  rw [hr]
  refine (show _ = den (d + 3, 7, 0, 107, [some (vr 0 0), some (vi 4)], [], (I, R, al, sc)) from (S_go rfl).trans ((S_br rfl).trans rfl)).trans ?_
  exact S_ret rfl
def sdI (I : IFn) : IFn := sh54_I (z0 (sh52_I (z0 (sh50_I (z0 (sh48_I (z0 (sd0I I) 48)) 50)) 52)) 54)
def sdR (R : RFn) : RFn := uR (sh54_R (n0 (uR (sh52_R (n0 (uR (sh50_R (n0 (uR (sh48_R (n0 (sd0R R) 48)) 45 0 (some (0, 48))) 50)) 45 1 (some (0, 50))) 52)) 45 2 (some (0, 52))) 54)) 45 3 (some (0, 54))
theorem sd_ (d : Nat) (I : IFn) (R : RFn) (sc : Nat × (Nat → Int32)) : den (d + 3, 7, 0, 0, [some (vr 0 0), none], [], (I, R, (0, 1), sc)) = some (none, (sdI I, sdR R, (0, 56), sc)) := (sd0 d I R sc).trans ((sl_0 d _ _ sc rfl).trans ((sl_1 d _ _ sc rfl).trans ((sl_2 d _ _ sc rfl).trans ((sl_3 d _ _ sc rfl).trans (sl_4 d _ _ (0, 56) sc rfl)))))
set_option maxRecDepth 20000 in
theorem mo_p_s0 (d : Nat) (I : IFn) (R : RFn) (sc : Nat × (Nat → Int32)) : den (d + 1, 8, 0, 0, [some (vr 0 56), none], [], (I, R, (0, 57), sc)) = den (d + 1, 8, 0, 13, [some (vr 0 56), none], [], (z0 (I) 57, uR (n0 (R) 57) 56 0 (some (0, 57)), (0, 58), sc)) := (S_go rfl).trans ((S_go rfl).trans ((S_go rfl).trans ((S_go rfl).trans ((S_go rfl).trans (S_go rfl)))))
set_option maxRecDepth 20000 in
theorem mo_p_s13 (d : Nat) (I : IFn) (R : RFn) (sc : Nat × (Nat → Int32)) : den (d + 1, 8, 0, 13, [some (vr 0 56), none], [], (I, R, (0, 58), sc)) = den (d + 1, 8, 0, 22, [some (vr 0 56), none], [], (z0 (I) 58, uR (n0 (R) 58) 56 1 (some (0, 58)), (0, 59), sc)) := (S_go rfl).trans ((S_go rfl).trans ((S_go rfl).trans (S_go rfl)))
set_option maxRecDepth 20000 in
theorem mo_p_s22 (d : Nat) (I : IFn) (R : RFn) (sc : Nat × (Nat → Int32)) : den (d + 1, 8, 0, 22, [some (vr 0 56), none], [], (I, R, (0, 59), sc)) = den (d + 1, 8, 0, 31, [some (vr 0 56), none], [], (z0 (I) 59, uR (n0 (R) 59) 56 2 (some (0, 59)), (0, 60), sc)) := (S_go rfl).trans ((S_go rfl).trans ((S_go rfl).trans (S_go rfl)))
set_option maxRecDepth 20000 in
theorem mo_p_s31 (d : Nat) (I : IFn) (R : RFn) (sc : Nat × (Nat → Int32)) : den (d + 1, 8, 0, 31, [some (vr 0 56), none], [], (I, R, (0, 60), sc)) = den (d + 1, 8, 0, 39, [some (vr 0 56), none], [], (z0 (I) 60, uR (n0 (R) 60) 56 3 (some (0, 60)), (0, 61), sc)) := (S_go rfl).trans ((S_go rfl).trans ((S_go rfl).trans (S_go rfl)))
set_option maxRecDepth 20000 in
theorem mo_p_s39 (d : Nat) (I : IFn) (R : RFn) (sc : Nat × (Nat → Int32)) : den (d + 1, 8, 0, 39, [some (vr 0 56), none], [], (I, R, (0, 61), sc)) = den (d + 1, 8, 0, 47, [some (vr 0 56), none], [], (z0 (I) 61, uR (n0 (R) 61) 56 5 (some (0, 61)), (0, 62), sc)) := (S_go rfl).trans ((S_go rfl).trans ((S_go rfl).trans (S_go rfl)))
set_option maxRecDepth 20000 in
theorem mo_p_s47 (d : Nat) (I : IFn) (R : RFn) (sc : Nat × (Nat → Int32)) : den (d + 1, 8, 0, 47, [some (vr 0 56), none], [], (I, R, (0, 62), sc)) = den (d + 1, 8, 0, 55, [some (vr 0 56), none], [], (z0 (I) 62, uR (n0 (R) 62) 56 6 (some (0, 62)), (0, 63), sc)) := (S_go rfl).trans ((S_go rfl).trans ((S_go rfl).trans (S_go rfl)))
set_option maxRecDepth 20000 in
theorem mo_p_s55 (d : Nat) (I : IFn) (R : RFn) (sc : Nat × (Nat → Int32)) : den (d + 1, 8, 0, 55, [some (vr 0 56), none], [], (I, R, (0, 63), sc)) = den (d + 1, 8, 0, 63, [some (vr 0 56), none], [], (z0 (I) 63, uR (n0 (R) 63) 56 7 (some (0, 63)), (0, 64), sc)) := (S_go rfl).trans ((S_go rfl).trans ((S_go rfl).trans (S_go rfl)))
set_option maxRecDepth 20000 in
theorem mo_p_s63 (d : Nat) (I : IFn) (R : RFn) (sc : Nat × (Nat → Int32)) : den (d + 1, 8, 0, 63, [some (vr 0 56), none], [], (I, R, (0, 64), sc)) = den (d + 1, 8, 0, 71, [some (vr 0 56), none], [], (z0 (I) 64, uR (n0 (R) 64) 56 16 (some (0, 64)), (0, 65), sc)) := (S_go rfl).trans ((S_go rfl).trans ((S_go rfl).trans (S_go rfl)))
set_option maxRecDepth 20000 in
theorem mo_p_s71 (d : Nat) (I : IFn) (R : RFn) (sc : Nat × (Nat → Int32)) : den (d + 1, 8, 0, 71, [some (vr 0 56), none], [], (I, R, (0, 65), sc)) = den (d + 1, 8, 0, 79, [some (vr 0 56), none], [], (z0 (I) 65, uR (n0 (R) 65) 56 17 (some (0, 65)), (0, 66), sc)) := (S_go rfl).trans ((S_go rfl).trans ((S_go rfl).trans (S_go rfl)))
set_option maxRecDepth 20000 in
theorem mo_p_s79 (d : Nat) (I : IFn) (R : RFn) (sc : Nat × (Nat → Int32)) : den (d + 1, 8, 0, 79, [some (vr 0 56), none], [], (I, R, (0, 66), sc)) = den (d + 1, 8, 0, 87, [some (vr 0 56), none], [], (z0 (I) 66, uR (n0 (R) 66) 56 18 (some (0, 66)), (0, 67), sc)) := (S_go rfl).trans ((S_go rfl).trans ((S_go rfl).trans (S_go rfl)))
set_option maxRecDepth 20000 in
theorem mo_p_s87 (d : Nat) (I : IFn) (R : RFn) (sc : Nat × (Nat → Int32)) : den (d + 1, 8, 0, 87, [some (vr 0 56), none], [], (I, R, (0, 67), sc)) = den (d + 1, 8, 0, 94, [some (vr 0 56), none], [], (z0 (I) 67, uR (n0 (R) 67) 56 19 (some (0, 67)), (0, 68), sc)) := (S_go rfl).trans ((S_go rfl).trans ((S_go rfl).trans (S_go rfl)))
set_option maxRecDepth 20000 in
theorem mo_p_s94 (d : Nat) (I : IFn) (R : RFn) (sc : Nat × (Nat → Int32)) : den (d + 1, 8, 0, 94, [some (vr 0 56), none], [], (I, R, (0, 68), sc)) = den (d + 1, 8, 0, 101, [some (vr 0 56), none], [], (z0 (I) 68, uR (n0 (R) 68) 56 20 (some (0, 68)), (0, 69), sc)) := (S_go rfl).trans ((S_go rfl).trans ((S_go rfl).trans (S_go rfl)))
set_option maxRecDepth 20000 in
theorem mo_p_s101 (d : Nat) (I : IFn) (R : RFn) (sc : Nat × (Nat → Int32)) : den (d + 1, 8, 0, 101, [some (vr 0 56), none], [], (I, R, (0, 69), sc)) = den (d + 1, 8, 0, 110, [some (vr 0 56), none], [], (z0 (I) 69, uR (n0 (R) 69) 56 21 (some (0, 69)), (0, 70), sc)) := (S_go rfl).trans ((S_go rfl).trans ((S_go rfl).trans (S_go rfl)))
set_option maxRecDepth 20000 in
theorem mo_p_s110 (d : Nat) (I : IFn) (R : RFn) (sc : Nat × (Nat → Int32)) : den (d + 1, 8, 0, 110, [some (vr 0 56), none], [], (I, R, (0, 70), sc)) = den (d + 1, 8, 0, 118, [some (vr 0 56), none], [], (z0 (I) 70, uR (n0 (R) 70) 56 22 (some (0, 70)), (1, 0), sc)) := (S_go rfl).trans ((S_go rfl).trans ((S_go rfl).trans (S_go rfl)))
theorem mo_p (d : Nat) (I : IFn) (R : RFn) (sc : Nat × (Nat → Int32)) : den (d + 1, 8, 0, 0, [some (vr 0 56), none], [], (I, R, (0, 57), sc)) = den (d + 1, 8, 0, 118, [some (vr 0 56), none], [], (z0 ((z0 ((z0 ((z0 ((z0 ((z0 ((z0 ((z0 ((z0 ((z0 ((z0 ((z0 ((z0 ((z0 (I) 57)) 58)) 59)) 60)) 61)) 62)) 63)) 64)) 65)) 66)) 67)) 68)) 69)) 70, uR (n0 ((uR (n0 ((uR (n0 ((uR (n0 ((uR (n0 ((uR (n0 ((uR (n0 ((uR (n0 ((uR (n0 ((uR (n0 ((uR (n0 ((uR (n0 ((uR (n0 ((uR (n0 (R) 57) 56 0 (some (0, 57)))) 58) 56 1 (some (0, 58)))) 59) 56 2 (some (0, 59)))) 60) 56 3 (some (0, 60)))) 61) 56 5 (some (0, 61)))) 62) 56 6 (some (0, 62)))) 63) 56 7 (some (0, 63)))) 64) 56 16 (some (0, 64)))) 65) 56 17 (some (0, 65)))) 66) 56 18 (some (0, 66)))) 67) 56 19 (some (0, 67)))) 68) 56 20 (some (0, 68)))) 69) 56 21 (some (0, 69)))) 70) 56 22 (some (0, 70)), (1, 0), sc)) := (mo_p_s0 d _ _ sc).trans ((mo_p_s13 d _ _ sc).trans ((mo_p_s22 d _ _ sc).trans ((mo_p_s31 d _ _ sc).trans ((mo_p_s39 d _ _ sc).trans ((mo_p_s47 d _ _ sc).trans ((mo_p_s55 d _ _ sc).trans ((mo_p_s63 d _ _ sc).trans ((mo_p_s71 d _ _ sc).trans ((mo_p_s79 d _ _ sc).trans ((mo_p_s87 d _ _ sc).trans ((mo_p_s94 d _ _ sc).trans ((mo_p_s101 d _ _ sc).trans (mo_p_s110 d _ _ sc)))))))))))))
set_option maxRecDepth 20000 in
theorem mo_118 (d : Nat) (I : IFn) (R : RFn) (al : Nat × Nat) (sc : Nat × (Nat → Int32)) (hr : R 0 56 0 = some (0, 57)) : den (d + 1, 8, 0, 118, [some (vr 0 56), none], [], (I, R, al, sc)) = den (d + 1, 8, 0, 125, [some (vr 0 56), none], [], (uI I 0 57 1 (-1), R, al, sc)) := by
  refine (show _ = den (d + 1, 8, 0, 122, [some (vr 0 56), none], [.inr (.inr (R 0 56 0))], (I, R, al, sc)) from (S_go rfl).trans (S_go rfl)).trans ?_
  rw [hr]
  exact (S_go rfl).trans ((S_go rfl).trans (S_brt rfl rfl))
set_option maxRecDepth 20000 in
theorem mo_125 (d : Nat) (I : IFn) (R : RFn) (al : Nat × Nat) (sc : Nat × (Nat → Int32)) (hr : R 0 56 0 = some (0, 57)) : den (d + 1, 8, 0, 125, [some (vr 0 56), none], [], (I, R, al, sc)) = den (d + 1, 8, 0, 134, [some (vr 0 56), none], [], (uI I 0 57 3 999, R, al, sc)) := by
  refine (show _ = den (d + 1, 8, 0, 129, [some (vr 0 56), none], [.inr (.inr (R 0 56 0))], (I, R, al, sc)) from (S_go rfl).trans (S_go rfl)).trans ?_
  rw [hr]
  exact (S_go rfl).trans ((S_go rfl).trans (S_brt rfl rfl))
set_option maxRecDepth 20000 in
theorem mo_134 (d : Nat) (I : IFn) (R : RFn) (al : Nat × Nat) (sc : Nat × (Nat → Int32)) (hr : R 0 56 0 = some (0, 57)) : den (d + 1, 8, 0, 134, [some (vr 0 56), none], [], (I, R, al, sc)) = den (d + 1, 8, 0, 141, [some (vr 0 56), none], [], (uI I 0 57 4 1, R, al, sc)) := by
  refine (show _ = den (d + 1, 8, 0, 138, [some (vr 0 56), none], [.inr (.inr (R 0 56 0))], (I, R, al, sc)) from (S_go rfl).trans (S_go rfl)).trans ?_
  rw [hr]
  exact (S_go rfl).trans ((S_go rfl).trans (S_brt rfl rfl))
def mo0I (I : IFn) : IFn := uI (uI (uI (z0 ((z0 ((z0 ((z0 ((z0 ((z0 ((z0 ((z0 ((z0 ((z0 ((z0 ((z0 ((z0 ((z0 (I) 57)) 58)) 59)) 60)) 61)) 62)) 63)) 64)) 65)) 66)) 67)) 68)) 69)) 70) 0 57 1 (-1)) 0 57 3 999) 0 57 4 1
def moR (R : RFn) : RFn := uR (n0 ((uR (n0 ((uR (n0 ((uR (n0 ((uR (n0 ((uR (n0 ((uR (n0 ((uR (n0 ((uR (n0 ((uR (n0 ((uR (n0 ((uR (n0 ((uR (n0 ((uR (n0 (R) 57) 56 0 (some (0, 57)))) 58) 56 1 (some (0, 58)))) 59) 56 2 (some (0, 59)))) 60) 56 3 (some (0, 60)))) 61) 56 5 (some (0, 61)))) 62) 56 6 (some (0, 62)))) 63) 56 7 (some (0, 63)))) 64) 56 16 (some (0, 64)))) 65) 56 17 (some (0, 65)))) 66) 56 18 (some (0, 66)))) 67) 56 19 (some (0, 67)))) 68) 56 20 (some (0, 68)))) 69) 56 21 (some (0, 69)))) 70) 56 22 (some (0, 70))
theorem mq_0 (d : Nat) (I : IFn) (R : RFn) (sc : Nat × (Nat → Int32)) : den (d + 1, 8, 0, 0, [some (vr 0 56), none], [], (I, R, (0, 57), sc)) = den (d + 1, 8, 0, 143, [some (vr 0 56), some (vi (nI 0))], [], (mo0I I, moR R, (1, 0), sc)) := (mo_p d I R sc).trans ((mo_118 d _ _ (1, 0) sc rfl).trans ((mo_125 d _ _ (1, 0) sc rfl).trans ((mo_134 d _ _ (1, 0) sc rfl).trans ((S_go rfl).trans (S_go rfl)))))
set_option maxRecDepth 20000 in
theorem ra_ (d : Nat) {p k : Nat} (h : AH) : den (d, 8, 3, 0, [some (vi (nI p)), some (vi (nI k))], [], h) = some (some (vi (nI (5 + 9 * p + k))), h) := by
  refine ((S_go rfl).trans ((S_go rfl).trans ((S_go rfl).trans ((S_go rfl).trans ((S_go rfl).trans ((S_go rfl).trans ((S_go rfl).trans (S_ret rfl)))))))).trans ?_
  show some (some (vi ((5 : Int32) + 9 * nI p + nI k)), h) = _
  rw [show (9 : Int32) * nI p = nI (9 * p) from (Int32.ofNat_mul 9 p).symm, show (5 : Int32) + nI (9 * p) = nI (5 + 9 * p) from nI_add 5 (9 * p), nI_add]
theorem mo_143 (d : Nat) (x : Int32) (h : AH) : den (d, 8, 0, 143, [some (vr 0 56), some (vi x)], [], h) = bif decide (x < 10) then den (d, 8, 0, 149, [some (vr 0 56), some (vi x)], [], h) else den (d, 8, 0, 234, [some (vr 0 56), some (vi x)], [], h) := (S_go rfl).trans ((S_go rfl).trans ((S_br rfl).trans rfl))
theorem mo_234 (d : Nat) (l : List (Option AV)) (h : AH) : den (d, 8, 0, 234, l, [], h) = some (none, h) := S_ret rfl
set_option maxRecDepth 20000 in
theorem mo_149 (d : Nat) {p : Nat} (hp : p < 10) (I : IFn) (R : RFn) (al : Nat × Nat) (sc : Nat × (Nat → Int32)) (hr : R 0 56 0 = some (0, 57)) : den (d + 1, 8, 0, 149, [some (vr 0 56), some (vi (nI p))], [], (I, R, al, sc)) = den (d + 1, 8, 0, 160, [some (vr 0 56), some (vi (nI p))], [], (uI I 0 57 (5 + 9 * p + 0) 3, R, al, sc)) := by
  refine (show _ = den (d + 1, 8, 0, 153, [some (vr 0 56), some (vi (nI p))], [.inr (.inr (R 0 56 0))], (I, R, al, sc)) from (S_go rfl).trans (S_go rfl)).trans ?_
  rw [hr]
  refine (S_go rfl).trans ((S_go rfl).trans ((S_call rfl).trans ?_))
  refine (congrArg (fun z => Option.bind z _) (ra_ d (p := p) (k := 0) (I, R, al, sc))).trans ?_
  refine (S_go rfl).trans ((S_br0 rfl).trans ?_)
  show (bif inb (nI (5 + 9 * p + 0)) 465 then den (d + 1, 8, 0, 160, [some (vr 0 56), some (vi (nI p))], [], (uI I 0 57 (nI (5 + 9 * p + 0)).toNatClampNeg 3, R, al, sc)) else none) = _
  rw [show inb (nI (5 + 9 * p + 0)) 465 = true from inb_n (by omega) (by omega), cond_true, nI_clamp (by omega)]
set_option maxRecDepth 20000 in
theorem mo_160 (d : Nat) {p : Nat} (hp : p < 10) (I : IFn) (R : RFn) (al : Nat × Nat) (sc : Nat × (Nat → Int32)) (hr : R 0 56 0 = some (0, 57)) : den (d + 1, 8, 0, 160, [some (vr 0 56), some (vi (nI p))], [], (I, R, al, sc)) = den (d + 1, 8, 0, 172, [some (vr 0 56), some (vi (nI p))], [], (uI I 0 57 (5 + 9 * p + 1) 50, R, al, sc)) := by
  refine (show _ = den (d + 1, 8, 0, 164, [some (vr 0 56), some (vi (nI p))], [.inr (.inr (R 0 56 0))], (I, R, al, sc)) from (S_go rfl).trans (S_go rfl)).trans ?_
  rw [hr]
  refine (S_go rfl).trans ((S_go rfl).trans ((S_call rfl).trans ?_))
  refine (congrArg (fun z => Option.bind z _) (ra_ d (p := p) (k := 1) (I, R, al, sc))).trans ?_
  refine (S_go rfl).trans ((S_br0 rfl).trans ?_)
  show (bif inb (nI (5 + 9 * p + 1)) 465 then den (d + 1, 8, 0, 172, [some (vr 0 56), some (vi (nI p))], [], (uI I 0 57 (nI (5 + 9 * p + 1)).toNatClampNeg 50, R, al, sc)) else none) = _
  rw [show inb (nI (5 + 9 * p + 1)) 465 = true from inb_n (by omega) (by omega), cond_true, nI_clamp (by omega)]
set_option maxRecDepth 20000 in
theorem mo_172 (d : Nat) {p : Nat} (hp : p < 10) (I : IFn) (R : RFn) (al : Nat × Nat) (sc : Nat × (Nat → Int32)) (hr : R 0 56 0 = some (0, 57)) : den (d + 1, 8, 0, 172, [some (vr 0 56), some (vi (nI p))], [], (I, R, al, sc)) = den (d + 1, 8, 0, 184, [some (vr 0 56), some (vi (nI p))], [], (uI I 0 57 (5 + 9 * p + 2) 10, R, al, sc)) := by
  refine (show _ = den (d + 1, 8, 0, 176, [some (vr 0 56), some (vi (nI p))], [.inr (.inr (R 0 56 0))], (I, R, al, sc)) from (S_go rfl).trans (S_go rfl)).trans ?_
  rw [hr]
  refine (S_go rfl).trans ((S_go rfl).trans ((S_call rfl).trans ?_))
  refine (congrArg (fun z => Option.bind z _) (ra_ d (p := p) (k := 2) (I, R, al, sc))).trans ?_
  refine (S_go rfl).trans ((S_br0 rfl).trans ?_)
  show (bif inb (nI (5 + 9 * p + 2)) 465 then den (d + 1, 8, 0, 184, [some (vr 0 56), some (vi (nI p))], [], (uI I 0 57 (nI (5 + 9 * p + 2)).toNatClampNeg 10, R, al, sc)) else none) = _
  rw [show inb (nI (5 + 9 * p + 2)) 465 = true from inb_n (by omega) (by omega), cond_true, nI_clamp (by omega)]
set_option maxRecDepth 20000 in
theorem mo_184 (d : Nat) {p : Nat} (hp : p < 10) (I : IFn) (R : RFn) (al : Nat × Nat) (sc : Nat × (Nat → Int32)) (hr : R 0 56 0 = some (0, 57)) : den (d + 1, 8, 0, 184, [some (vr 0 56), some (vi (nI p))], [], (I, R, al, sc)) = den (d + 1, 8, 0, 195, [some (vr 0 56), some (vi (nI p))], [], (uI I 0 57 (5 + 9 * p + 3) (nI p), R, al, sc)) := by
  refine (show _ = den (d + 1, 8, 0, 188, [some (vr 0 56), some (vi (nI p))], [.inr (.inr (R 0 56 0))], (I, R, al, sc)) from (S_go rfl).trans (S_go rfl)).trans ?_
  rw [hr]
  refine (S_go rfl).trans ((S_go rfl).trans ((S_call rfl).trans ?_))
  refine (congrArg (fun z => Option.bind z _) (ra_ d (p := p) (k := 3) (I, R, al, sc))).trans ?_
  refine (S_go rfl).trans ((S_br0 rfl).trans ?_)
  show (bif inb (nI (5 + 9 * p + 3)) 465 then den (d + 1, 8, 0, 195, [some (vr 0 56), some (vi (nI p))], [], (uI I 0 57 (nI (5 + 9 * p + 3)).toNatClampNeg (nI p), R, al, sc)) else none) = _
  rw [show inb (nI (5 + 9 * p + 3)) 465 = true from inb_n (by omega) (by omega), cond_true, nI_clamp (by omega)]
set_option maxRecDepth 20000 in
theorem mo_195 (d : Nat) {p : Nat} (hp : p < 10) (I : IFn) (R : RFn) (al : Nat × Nat) (sc : Nat × (Nat → Int32)) (hr : R 0 56 0 = some (0, 57)) : den (d + 1, 8, 0, 195, [some (vr 0 56), some (vi (nI p))], [], (I, R, al, sc)) = den (d + 1, 8, 0, 206, [some (vr 0 56), some (vi (nI p))], [], (uI I 0 57 (5 + 9 * p + 4) 1, R, al, sc)) := by
  refine (show _ = den (d + 1, 8, 0, 199, [some (vr 0 56), some (vi (nI p))], [.inr (.inr (R 0 56 0))], (I, R, al, sc)) from (S_go rfl).trans (S_go rfl)).trans ?_
  rw [hr]
  refine (S_go rfl).trans ((S_go rfl).trans ((S_call rfl).trans ?_))
  refine (congrArg (fun z => Option.bind z _) (ra_ d (p := p) (k := 4) (I, R, al, sc))).trans ?_
  refine (S_go rfl).trans ((S_br0 rfl).trans ?_)
  show (bif inb (nI (5 + 9 * p + 4)) 465 then den (d + 1, 8, 0, 206, [some (vr 0 56), some (vi (nI p))], [], (uI I 0 57 (nI (5 + 9 * p + 4)).toNatClampNeg 1, R, al, sc)) else none) = _
  rw [show inb (nI (5 + 9 * p + 4)) 465 = true from inb_n (by omega) (by omega), cond_true, nI_clamp (by omega)]
set_option maxRecDepth 20000 in
theorem mo_206 (d : Nat) {p : Nat} (hp : p < 10) (I : IFn) (R : RFn) (al : Nat × Nat) (sc : Nat × (Nat → Int32)) (hr : R 0 56 0 = some (0, 57)) : den (d + 1, 8, 0, 206, [some (vr 0 56), some (vi (nI p))], [], (I, R, al, sc)) = den (d + 1, 8, 0, 218, [some (vr 0 56), some (vi (nI p))], [], (uI I 0 57 (5 + 9 * p + 6) (-1), R, al, sc)) := by
  refine (show _ = den (d + 1, 8, 0, 210, [some (vr 0 56), some (vi (nI p))], [.inr (.inr (R 0 56 0))], (I, R, al, sc)) from (S_go rfl).trans (S_go rfl)).trans ?_
  rw [hr]
  refine (S_go rfl).trans ((S_go rfl).trans ((S_call rfl).trans ?_))
  refine (congrArg (fun z => Option.bind z _) (ra_ d (p := p) (k := 6) (I, R, al, sc))).trans ?_
  refine (S_go rfl).trans ((S_br0 rfl).trans ?_)
  show (bif inb (nI (5 + 9 * p + 6)) 465 then den (d + 1, 8, 0, 218, [some (vr 0 56), some (vi (nI p))], [], (uI I 0 57 (nI (5 + 9 * p + 6)).toNatClampNeg (-1), R, al, sc)) else none) = _
  rw [show inb (nI (5 + 9 * p + 6)) 465 = true from inb_n (by omega) (by omega), cond_true, nI_clamp (by omega)]
set_option maxRecDepth 20000 in
theorem mo_218 (d : Nat) {p : Nat} (hp : p < 10) (I : IFn) (R : RFn) (al : Nat × Nat) (sc : Nat × (Nat → Int32)) (hr : R 0 56 0 = some (0, 57)) : den (d + 1, 8, 0, 218, [some (vr 0 56), some (vi (nI p))], [], (I, R, al, sc)) = den (d + 1, 8, 0, 143, [some (vr 0 56), some (vi (nI (p + 1)))], [], (uI I 0 57 (95 + p) (-1), R, al, sc)) := by
  refine (show _ = den (d + 1, 8, 0, 222, [some (vr 0 56), some (vi (nI p))], [.inr (.inr (R 0 56 0))], (I, R, al, sc)) from (S_go rfl).trans (S_go rfl)).trans ?_
  rw [hr]
  refine (show _ = den (d + 1, 8, 0, 226, [some (vr 0 56), some (vi (nI p))], [vi ((95 : Int32) + nI p), vr 0 57], (I, R, al, sc)) from (S_go rfl).trans ((S_go rfl).trans (S_go rfl))).trans ?_
  rw [show (95 : Int32) + nI p = nI (95 + p) from nI_add 95 p]
  refine (S_go rfl).trans ((S_br0 rfl).trans ?_)
  show (bif inb (nI (95 + p)) 465 then den (d + 1, 8, 0, 228, [some (vr 0 56), some (vi (nI p))], [], (uI I 0 57 (nI (95 + p)).toNatClampNeg (-1), R, al, sc)) else none) = _
  rw [show inb (nI (95 + p)) 465 = true from inb_n (by omega) (by omega), cond_true, nI_clamp (by omega)]
  refine (show _ = den (d + 1, 8, 0, 143, [some (vr 0 56), some (vi (nI p + 1))], [], (uI I 0 57 (95 + p) (-1), R, al, sc)) from (S_go rfl).trans (S_go rfl)).trans ?_
  rw [nI_1]
def mdI (I : IFn) : Nat → IFn
  | 0 => I
  | p + 1 => uI (uI (uI (uI (uI (uI (uI (mdI I p) 0 57 (5 + 9 * p + 0) 3) 0 57 (5 + 9 * p + 1) 50) 0 57 (5 + 9 * p + 2) 10) 0 57 (5 + 9 * p + 3) (nI p)) 0 57 (5 + 9 * p + 4) 1) 0 57 (5 + 9 * p + 6) (-1)) 0 57 (95 + p) (-1)
def moI (I : IFn) : IFn := mdI (mo0I I) 10
theorem mo_ (d : Nat) (I : IFn) (R : RFn) (sc : Nat × (Nat → Int32)) : den (d + 1, 8, 0, 0, [some (vr 0 56), none], [], (I, R, (0, 57), sc)) = some (none, (moI I, moR R, (1, 0), sc)) := by
  refine (mq_0 d I R sc).trans ?_
  refine (lp (fun p => den (d + 1, 8, 0, 143, [some (vr 0 56), some (vi (nI p))], [], (mdI (mo0I I) p, moR R, (1, 0), sc))) (N := 10) ?_ 0 (by omega)).trans ?_
  · intro p hp
    have h1 : nI p < (10 : Int32) := by rw [lt_10 (by omega)]; exact hp
    show den _ = den _
    rw [mo_143, decide_eq_true h1, cond_true]
    exact (mo_149 d hp _ _ _ sc rfl).trans ((mo_160 d hp _ _ _ sc rfl).trans ((mo_172 d hp _ _ _ sc rfl).trans ((mo_184 d hp _ _ _ sc rfl).trans ((mo_195 d hp _ _ _ sc rfl).trans ((mo_206 d hp _ _ _ sc rfl).trans (mo_218 d hp _ _ _ sc rfl))))))
  · have h1 : ¬ nI 10 < (10 : Int32) := by decide
    show den _ = _
    rw [mo_143, decide_eq_false h1, cond_false, mo_234]
    rfl
def I00 : IFn := moI (z0 (sdI (z0 (fun _ _ _ => 0) 0)) 56)
def R00 : RFn := fun g j i => match g with
  | 0 => none
  | g + 1 => R1 g j i
def R01 : RFn := moR (n0 (sdR (n0 R00 0)) 56)
theorem lw_0 (I : IFn) (R : RFn) (sc : Nat × (Nat → Int32)) : den (11, 9, 0, 0, [some (vr 0 1003), none, none, none], [], (I, R, (0, 0), sc)) = den (11, 9, 0, 8, [some (vr 0 1003), some (vr 0 0), none, none], [], (sdI (z0 I 0), sdR (n0 R 0), (0, 56), sc)) := by
  refine (show _ = den (11, 9, 0, 4, [some (vr 0 1003), none, none, none], [vr 0 0, vr 0 0], (z0 I 0, n0 R 0, (0, 1), sc)) from (S_go rfl).trans (S_go rfl)).trans ?_
  refine (S_call rfl).trans ((congrArg (fun z => Option.bind z _) (sd_ 7 (z0 I 0) (n0 R 0) sc)).trans ?_)
  exact S_go rfl
theorem lw_8 (I : IFn) (R : RFn) (sc : Nat × (Nat → Int32)) : den (11, 9, 0, 8, [some (vr 0 1003), some (vr 0 0), none, none], [], (I, R, (0, 56), sc)) = den (11, 9, 0, 18, [some (vr 0 1003), some (vr 0 0), some (vr 0 56), some (vi 0)], [], (moI (z0 I 56), moR (n0 R 56), (1, 0), sc)) := by
  refine (show _ = den (11, 9, 0, 12, [some (vr 0 1003), some (vr 0 0), none, none], [vr 0 56, vr 0 56], (z0 I 56, n0 R 56, (0, 57), sc)) from (S_go rfl).trans (S_go rfl)).trans ?_
  refine (S_call rfl).trans ((congrArg (fun z => Option.bind z _) (mo_ 9 (z0 I 56) (n0 R 56) sc)).trans ?_)
  exact (S_go rfl).trans ((S_go rfl).trans (S_go rfl))
