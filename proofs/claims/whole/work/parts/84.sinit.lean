/-! a Side's constructor behind its rows: the loop over the bytes -/
def SXs (J : IFn) (e q : Nat) : PSt → Prop
  | (_, _, _, _, pl, dn, _) => SX J e q pl dn
def dgO : PSt → Nat
  | (_, dg, _, _, _, _, _) => dg
theorem num_step {s : Int32} {v : Nat} (hv : v ≤ 999) (h : stepRel s (nI v)) : s = nI v := by
  have nn : ∀ c : Int32, c.toInt < 0 → ¬ nI v = c := by
    intro c hc z
    have := congrArg Int32.toInt z
    rw [nI_toInt (by omega)] at this
    omega
  rcases h with ⟨-, h⟩ | ⟨h, -⟩ | ⟨h, -⟩ | ⟨h, -⟩ | ⟨h, -⟩ | ⟨h, -⟩ | ⟨h, -⟩
  · exact h
  · exact absurd h (nn _ (by decide))
  · exact absurd h (nn _ (by decide))
  · exact absurd h (nn _ (by decide))
  · exact absurd h (nn _ (by decide))
  · exact absurd h (nn _ (by decide))
  · exact absurd h (nn _ (by decide))
theorem bN_0 : (bN false : Int32) = 0 := rfl
theorem bN_1 : (bN true : Int32) = 1 := rfl
section
variable (d : Nat) (I : IFn) (t1 t2 : TFn) (k : Nat) (v0 v1 : Option (Nat × Nat)) (al : Nat × Nat) (sc : Nat × (Nat → Int32))
/-- one byte -/
theorem s_byte {e q b M kk i : Nat} (x2 x3 : Int32) {s t : PSt} (hq : q = 3 ∨ q = 6) (hb : b < 256) (h61 : ¬ b = 61) (hM : M < 40) (hi : i < 40) (hP : PB M kk s) (hs : stP s b = some t) (hx : SXs I e q s) : ∃ K, FS e q I K ∧ den (d + 3, 2, 0, 64, [some (vr (e + 1) q), some (vr 0 2), some (vi x2), some (vi x3), some (vi (bN (decide (0 < dgO s)))), some (vi (nI i)), some (vi (nI b))], [vi (bN (isD b))], mkS I t1 t2 k v0 v1 al sc) = den (d + 3, 2, 0, 40, [some (vr (e + 1) q), some (vr 0 2), some (vi x2), some (vi x3), some (vi (bN (decide (0 < dgO t)))), some (vi (nI (i + 1))), some (vi (nI b))], [], mkS (K) t1 t2 k v0 v1 al sc) ∧ SXs K e q t := by
  obtain ⟨w, dg, op, pt, pl, dn, dl⟩ := s
  obtain ⟨hA, h2, h3, h4, h5⟩ := hP
  obtain ⟨a1, a2, a3, a4, a5, a6⟩ := hA
  have hx' : SX I e q pl dn := hx
  have xd := fun J => s_isD (d + 2) J t1 t2 k v0 v1 al sc hb
  have tail : ∀ (K : IFn) (x4 : Int32), den (d + 3, 2, 0, 102, [some (vr (e + 1) q), some (vr 0 2), some (vi x2), some (vi x3), some (vi x4), some (vi (nI i)), some (vi (nI b))], [], mkS (K) t1 t2 k v0 v1 al sc) = den (d + 3, 2, 0, 40, [some (vr (e + 1) q), some (vr 0 2), some (vi x2), some (vi x3), some (vi (bN (isD b))), some (vi (nI (i + 1))), some (vi (nI b))], [], mkS (K) t1 t2 k v0 v1 al sc) := by
    intro K x4
    simp (disch := omega) only [bnd, bnd0, ↓cdec, ↓cnot, ↓reduceIte, Bo_0, Bo_1, ↓Bo_ok, i10, i01, eq_self, decide_true, decide_false, Bool.or_true, Bool.true_or, Bool.or_false, Bool.false_or, cond_true, cond_false, not_true_eq_false, not_false_eq_true, Bool.false_eq_true, and_self, and_true, true_and, and_false, false_and, nI_clamp, ↓inbc, inb_n, nI_pos, nI_1, s2_0_102, s2_0_107, xd]
  have sg : ∀ (K : IFn) (x4 : Int32), isD b = false → den (d + 2, 2, 1, 0, [some (vr (e + 1) q), some (vi (nI b))], [], mkS I t1 t2 k v0 v1 al sc) = some (none, mkS (K) t1 t2 k v0 v1 al sc) → den (d + 3, 2, 0, 64, [some (vr (e + 1) q), some (vr 0 2), some (vi x2), some (vi x3), some (vi x4), some (vi (nI i)), some (vi (nI b))], [vi (bN (isD b))], mkS I t1 t2 k v0 v1 al sc) = den (d + 3, 2, 0, 40, [some (vr (e + 1) q), some (vr 0 2), some (vi x2), some (vi x3), some (vi (bN false)), some (vi (nI (i + 1))), some (vi (nI b))], [], mkS (K) t1 t2 k v0 v1 al sc) := by
    intro K x4 hd e1
    have tl := tail K x4
    rw [hd] at tl ⊢
    rw [← tl]
    simp (disch := omega) only [bnd, bnd0, ↓cdec, ↓cnot, ↓reduceIte, Bo_0, Bo_1, ↓Bo_ok, i10, i01, eq_self, decide_true, decide_false, Bool.or_true, Bool.true_or, Bool.or_false, Bool.false_or, cond_true, cond_false, not_true_eq_false, not_false_eq_true, Bool.false_eq_true, and_self, and_true, true_and, and_false, false_and, nI_clamp, ↓inbc, inb_n, nI_pos, nI_1, bN_0, s2_0_64, s2_0_67, s2_0_73, e1]
  have z0 : ∀ n : Nat, n = 0 → decide (0 < n) = false := fun n hn => decide_eq_false (by omega)
  rcases stP_cases hs with ⟨q1, q2, q3, rfl⟩ | ⟨q0, q1, q2, rfl⟩ | ⟨q0, q1, q2, rfl⟩ | ⟨q0, q1, q2, q3, rfl⟩ | ⟨q0, q1, q2, rfl⟩ | ⟨q0, q1, q2, q3, q4, rfl⟩ | ⟨q0, q1, q2, q3, q4, q5, rfl⟩
  · obtain ⟨v, r, rfl, hv⟩ := h4 q2
    obtain ⟨u, u1, u2, u3⟩ := dig_lng (v := v) q1
    have p3 : v < 10 ^ 2 := Nat.lt_of_lt_of_le hv (Nat.pow_le_pow_right (by omega) (by omega))
    have el : lngth b (nI v :: r) = nI u :: r := by rw [lngth, u2]
    obtain ⟨g1, g3, gS, gP⟩ := hx'
    have g1' : I (e + 1) q 1 = nI (r.length + 1) := g1
    have hl : (nI v :: r).length = r.length + 1 := by simp
    rw [hl] at a5
    have ev : I (e + 1) (q + 1) r.length = nI v := num_step (by omega) gS.1
    have ln := s_len (d + 2) I t1 t2 k v0 v1 al sc (e := e) hq (show r.length < 40 by omega) g1' (nI b - 48)
    rw [ev, u3] at ln
    refine ⟨uI I (e + 1) (q + 1) r.length (nI u), fun g j i hn => by rw [uI_ne (by omega)], ?_, ?_⟩
    · have tl := tail (uI I (e + 1) (q + 1) r.length (nI u)) (bN (decide (0 < dgO (w, dg, op, pt, pl, nI v :: r, dl))))
      have e1 : decide (0 < dgO (w, dg, op, pt, pl, nI v :: r, dl)) = true := decide_eq_true q2
      have e2 : decide (0 < dgO (w, dg + 1, op, pt, pl, lngth b (nI v :: r), dl)) = true := decide_eq_true (Nat.succ_pos dg)
      rw [e1, q1] at tl ⊢
      rw [e2, ← tl]
      simp (disch := omega) only [bnd, bnd0, ↓cdec, ↓cnot, ↓reduceIte, Bo_0, Bo_1, ↓Bo_ok, i10, i01, eq_self, decide_true, decide_false, Bool.or_true, Bool.true_or, Bool.or_false, Bool.false_or, cond_true, cond_false, not_true_eq_false, not_false_eq_true, Bool.false_eq_true, and_self, and_true, true_and, and_false, false_and, nI_clamp, ↓inbc, inb_n, nI_pos, nI_1, bN_1, s2_0_64, s2_0_76, s2_0_81, s2_0_90, ln]
    · show SX _ e q pl (lngth b (nI v :: r))
      rw [el]
      exact ⟨by rw [uI_ne (by omega)]; exact g1, by rw [uI_ne (by omega)]; exact g3, ⟨by rw [uI_at (by omega)]; exact Or.inl ⟨⟨u, by omega, by omega, rfl⟩, rfl⟩, gS.2.keep (fun j hj => by rw [uI_ne (by omega)])⟩, gP.keep (fun j hj => by rw [uI_ne (by omega)])⟩
  · obtain ⟨v, v1', v2, v3⟩ := dig_sub q1
    have d0 := a3 q0
    obtain ⟨g1, g3, gS, gP⟩ := hx'
    have ad := s_add (d + 2) I t1 t2 k v0 v1 al sc (e := e) hq (show dn.length < 40 by omega) g1 (nI b - 48)
    refine ⟨uI (uI I (e + 1) (q + 1) dn.length (nI b - 48)) (e + 1) q 1 (nI (dn.length + 1)), fun g j i hn => by rw [uI_ne (by omega), uI_ne (by omega)], ?_, ?_⟩
    · have tl := tail (uI (uI I (e + 1) (q + 1) dn.length (nI b - 48)) (e + 1) q 1 (nI (dn.length + 1))) (bN (decide (0 < dgO (w, dg, op, pt, pl, dn, dl))))
      have e1 : decide (0 < dgO (w, dg, op, pt, pl, dn, dl)) = false := z0 _ d0
      have e2 : decide (0 < dgO (false, 1, op, pt, pl, (nI b - 48) :: dn, dl)) = true := rfl
      rw [e1, q1] at tl ⊢
      rw [e2, ← tl]
      simp (disch := omega) only [bnd, bnd0, ↓cdec, ↓cnot, ↓reduceIte, Bo_0, Bo_1, ↓Bo_ok, i10, i01, eq_self, decide_true, decide_false, Bool.or_true, Bool.true_or, Bool.or_false, Bool.false_or, cond_true, cond_false, not_true_eq_false, not_false_eq_true, Bool.false_eq_true, and_self, and_true, true_and, and_false, false_and, nI_clamp, ↓inbc, inb_n, nI_pos, nI_1, bN_1, bN_0, s2_0_64, s2_0_76, s2_0_93, ad]
    · exact ⟨by rw [uI_at (by omega)]; rfl, by rw [uI_ne (by omega), uI_ne (by omega)]; exact g3, ⟨by rw [uI_ne (by omega), uI_at (by omega)]; exact Or.inl ⟨⟨v, by omega, by omega, v3⟩, rfl⟩, gS.keep (fun j hj => by rw [uI_ne (by omega), uI_ne (by omega)])⟩, gP.keep (fun j hj => by rw [uI_ne (by omega), uI_ne (by omega)])⟩
  · subst q2
    obtain ⟨K, f, e1, x⟩ := s_sg_x d I t1 t2 k v0 v1 al sc hq (by omega) hx'
    exact ⟨K, f, sg K _ q1 e1, x⟩
  · subst q2
    have d0 := a3 q0
    obtain ⟨K, f, e1, x⟩ := s_sg_o d I t1 t2 k v0 v1 al sc hq (by omega) hx'
    refine ⟨K, f, ?_, x⟩
    have e2 : decide (0 < dgO (w, dg, op + 1, pt, -7 :: pl, dn, dl)) = false := z0 _ d0
    rw [e2]
    exact sg K _ q1 e1
  · obtain ⟨K, f, e1, x⟩ := s_sg_s d I t1 t2 k v0 v1 al sc hq hb (by omega) q2 hx'
    exact ⟨K, f, sg K _ (sg_nd q2).1 e1, x⟩
  · subst q3
    obtain ⟨K, f, e1, x⟩ := s_sg_c d I t1 t2 k v0 v1 al sc hq (by omega) (by omega) hx'
    exact ⟨K, f, sg K _ rfl e1, x⟩
  · exact absurd q3 h61
/-- the loop -/
theorem s_loop {e q en : Nat} (B : Nat → Nat) (x2 : Int32) (hq : q = 3 ∨ q = 6) (hen : en ≤ 40) (hB : ∀ i, i < en → I 0 2 i = nI (B i) ∧ B i < 256) : ∀ m i (J : IFn) (l : Option AV) (s t : PSt) (M kk : Nat), i + m = en → M ≤ i → rdP B i m s = .inr t → (∀ j, i ≤ j → j < en → ¬ B j = 61) → PB M kk s → FS e q I J → SXs J e q s → lok l → ∃ K l', FS e q I K ∧ den (d + 3, 2, 0, 40, [some (vr (e + 1) q), some (vr 0 2), some (vi x2), some (vi (nI en)), some (vi (bN (decide (0 < dgO s)))), some (vi (nI i)), l], [], mkS (J) t1 t2 k v0 v1 al sc) = den (d + 3, 2, 0, 115, [some (vr (e + 1) q), some (vr 0 2), some (vi x2), some (vi (nI en)), some (vi (bN (decide (0 < dgO t)))), some (vi (nI en)), l'], [], mkS (K) t1 t2 k v0 v1 al sc) ∧ SXs K e q t ∧ lok l' := by
  intro m
  induction m with
  | zero =>
    intro i J l s t M kk hi hM hr h61 hP hf hx hl
    rw [rdP] at hr
    have hst := Sum.inr.inj hr
    subst hst
    have hie : i = en := by omega
    subst hie
    have nl : ¬ nI i < nI i := nI_nlt (Nat.le_refl _) (by omega)
    refine ⟨J, l, hf, ?_, hx, hl⟩
    rcases hl with rfl | ⟨y, rfl⟩
    · rw [s2_0_40]
      simp (disch := omega) only [bnd, bnd0, ↓cdec, ↓cnot, ↓reduceIte, Bo_0, Bo_1, ↓Bo_ok, i10, i01, eq_self, decide_true, decide_false, Bool.or_true, Bool.true_or, Bool.or_false, Bool.false_or, cond_true, cond_false, not_true_eq_false, not_false_eq_true, Bool.false_eq_true, and_self, and_true, true_and, and_false, false_and, nI_clamp, ↓inbc, inb_n, nI_pos, nI_1, nl]
    · rw [s2_0_40w]
      simp (disch := omega) only [bnd, bnd0, ↓cdec, ↓cnot, ↓reduceIte, Bo_0, Bo_1, ↓Bo_ok, i10, i01, eq_self, decide_true, decide_false, Bool.or_true, Bool.true_or, Bool.or_false, Bool.false_or, cond_true, cond_false, not_true_eq_false, not_false_eq_true, Bool.false_eq_true, and_self, and_true, true_and, and_false, false_and, nI_clamp, ↓inbc, inb_n, nI_pos, nI_1, nl]
  | succ m ih =>
    intro i J l s t M kk hi hM hr h61 hP hf hx hl
    rw [rdP] at hr
    cases hs : stP s (B i) with
    | none => rw [hs] at hr; cases hr
    | some u =>
      rw [hs] at hr
      obtain ⟨eB, b256⟩ := hB i (by omega)
      have jB : J 0 2 i = nI (B i) := by rw [hf _ _ _ (by omega)]; exact eB
      have il : nI i < nI en := nI_lt (by omega) (by omega)
      have i40 : i < 40 := by omega
      have xd := s_isD (d + 2) J t1 t2 k v0 v1 al sc b256
      have n61 := h61 i (by omega) (by omega)
      obtain ⟨K, f, e1, x⟩ := s_byte d J t1 t2 k v0 v1 al sc x2 (nI en) hq b256 n61 (show M < 40 by omega) i40 hP hs hx
      obtain ⟨hP', -, -⟩ := PB_step hP n61 hs
      obtain ⟨K2, l', f2, e2, x2', hl'⟩ := ih (i + 1) K (some (vi (nI (B i)))) u t (M + 1) _ (by omega) (by omega) hr (fun j h1 h2 => h61 j (by omega) h2) hP' (hf.trans f) x (Or.inr ⟨_, rfl⟩)
      refine ⟨K2, l', f2, Eq.trans (Eq.trans ?_ e1) e2, x2', hl'⟩
      rcases hl with rfl | ⟨y, rfl⟩
      · rw [s2_0_40]
        simp (disch := omega) only [bnd, bnd0, ↓cdec, ↓cnot, ↓reduceIte, Bo_0, Bo_1, ↓Bo_ok, i10, i01, eq_self, decide_true, decide_false, Bool.or_true, Bool.true_or, Bool.or_false, Bool.false_or, cond_true, cond_false, not_true_eq_false, not_false_eq_true, Bool.false_eq_true, and_self, and_true, true_and, and_false, false_and, nI_clamp, ↓inbc, inb_n, nI_pos, nI_1, il, lt_40, i40, s2_0_46, s2_0_53, jB, xd]
      · rw [s2_0_40w]
        simp (disch := omega) only [bnd, bnd0, ↓cdec, ↓cnot, ↓reduceIte, Bo_0, Bo_1, ↓Bo_ok, i10, i01, eq_self, decide_true, decide_false, Bool.or_true, Bool.true_or, Bool.or_false, Bool.false_or, cond_true, cond_false, not_true_eq_false, not_false_eq_true, Bool.false_eq_true, and_self, and_true, true_and, and_false, false_and, nI_clamp, ↓inbc, inb_n, nI_pos, nI_1, il, lt_40, i40, s2_0_46w, s2_0_53w, jB, xd]
/-- from its rows on -/
theorem s_init {e q fr en dl : Nat} {pt : Bool} (B : Nat → Nat) (hq : q = 3 ∨ q = 6) (hfr : fr ≤ en) (hen : en ≤ 40) (hB : ∀ i, i < en → I 0 2 i = nI (B i) ∧ B i < 256) {t : PSt} (hr : rdP B fr (en - fr) (true, 0, 0, pt, [], [], dl) = .inr t) (h61 : ∀ j, fr ≤ j → j < en → ¬ B j = 61) (h1 : I (e + 1) q 1 = 0) (h3 : I (e + 1) q 3 = 0) {g op : Nat} {w pt' : Bool} {pl dn : List Int32} {dl' : Nat} (ht : t = (w, g, op, pt', pl, dn, dl')) : ∃ K, FS e q I K ∧ den (d + 3, 2, 0, 30, [some (vr (e + 1) q), some (vr 0 2), some (vi (nI fr)), some (vi (nI en)), none, none, none], [], mkS I t1 t2 k v0 v1 al sc) = some (none, mkS (K) t1 t2 k v0 v1 al sc) ∧ K (e + 1) q 1 = nI (popW 1 pl dn).2.length ∧ stkS (K (e + 1) (q + 1)) (popW 1 pl dn).2 := by
  have PB0 : PB 0 0 (true, 0, 0, pt, [], [], dl) := ⟨⟨by omega, by omega, fun _ => rfl, rfl, by simp, fun z => by omega⟩, fun c hc => absurd hc (by simp), rfl, fun z => by omega, by simp [opN]⟩
  obtain ⟨K, l', f, e1, x, hl'⟩ := s_loop d I t1 t2 k v0 v1 al sc (e := e) B (nI fr) hq hen hB (en - fr) fr I none _ t 0 0 (by omega) (by omega) hr h61 PB0 FS.rfl (⟨h1, h3, trivial, trivial⟩ : SX I e q [] []) (Or.inl rfl)
  have hPt := rd_PA B (en - fr) fr 0 _ t PB0.1 hr
  subst ht
  have x' : SX K e q pl dn := x
  have a5 := hPt.2.2.2.2.1
  obtain ⟨K2, f2, e2, g1, -, gS, -⟩ := s_take (d + 1) t1 t2 k v0 v1 al sc (e := e) (r := 1) hq (by omega) (by omega) pl dn K (by omega) x'
  have e2' : den (d + 2, 2, 2, 0, [some (vr (e + 1) q), some (vi 1)], [], mkS (K) t1 t2 k v0 v1 al sc) = some (none, mkS (K2) t1 t2 k v0 v1 al sc) := e2
  have mx := s_max (d + 2) I t1 t2 k v0 v1 al sc (n := fr) (by omega)
  refine ⟨K2, f.trans f2, ?_, g1, gS⟩
  have st : den (d + 3, 2, 0, 30, [some (vr (e + 1) q), some (vr 0 2), some (vi (nI fr)), some (vi (nI en)), none, none, none], [], mkS I t1 t2 k v0 v1 al sc) = den (d + 3, 2, 0, 40, [some (vr (e + 1) q), some (vr 0 2), some (vi (nI fr)), some (vi (nI en)), some (vi (bN (decide (0 < dgO (true, 0, 0, pt, [], [], dl))))), some (vi (nI fr)), none], [], mkS I t1 t2 k v0 v1 al sc) := by
    simp (disch := omega) only [bnd, bnd0, ↓cdec, ↓cnot, ↓reduceIte, Bo_0, Bo_1, ↓Bo_ok, i10, i01, eq_self, decide_true, decide_false, Bool.or_true, Bool.true_or, Bool.or_false, Bool.false_or, cond_true, cond_false, not_true_eq_false, not_false_eq_true, Bool.false_eq_true, and_self, and_true, true_and, and_false, false_and, nI_clamp, ↓inbc, inb_n, nI_pos, nI_1, s2_0_30, s2_0_38, mx]
    rfl
  rw [st, e1]
  rcases hl' with rfl | ⟨y, rfl⟩
  · simp (disch := omega) only [bnd, bnd0, ↓cdec, ↓cnot, ↓reduceIte, Bo_0, Bo_1, ↓Bo_ok, i10, i01, eq_self, decide_true, decide_false, Bool.or_true, Bool.true_or, Bool.or_false, Bool.false_or, cond_true, cond_false, not_true_eq_false, not_false_eq_true, Bool.false_eq_true, and_self, and_true, true_and, and_false, false_and, nI_clamp, ↓inbc, inb_n, nI_pos, nI_1, s2_0_115, s2_0_120, e2']
  · simp (disch := omega) only [bnd, bnd0, ↓cdec, ↓cnot, ↓reduceIte, Bo_0, Bo_1, ↓Bo_ok, i10, i01, eq_self, decide_true, decide_false, Bool.or_true, Bool.true_or, Bool.or_false, Bool.false_or, cond_true, cond_false, not_true_eq_false, not_false_eq_true, Bool.false_eq_true, and_self, and_true, true_and, and_false, false_and, nI_clamp, ↓inbc, inb_n, nI_pos, nI_1, s2_0_115w, s2_0_120w, e2']
end
