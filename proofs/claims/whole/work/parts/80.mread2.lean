/-! the reference's reader -/
def FD (I J : IFn) : Prop := ∀ g j i, ¬ (g = 0 ∧ (j = 63 ∨ (j = 56 ∧ (i = 9 ∨ i = 10)))) → J g j i = I g j i
theorem FD.rfl {I : IFn} : FD I I := fun _ _ _ _ => Eq.refl _
theorem FD.trans {I J K : IFn} (h : FD I J) (h2 : FD J K) : FD I K := fun g j i q => (h2 g j i q).trans (h g j i q)
def FRd (I J : IFn) : Prop := ∀ g j i, ¬ (g = 0 ∧ (j = 62 ∨ j = 63 ∨ (j = 56 ∧ 9 ≤ i ∧ i ≤ 15))) → J g j i = I g j i
theorem FRd.rfl {I : IFn} : FRd I I := fun _ _ _ _ => Eq.refl _
theorem FRd.trans {I J K : IFn} (h : FRd I J) (h2 : FRd J K) : FRd I K := fun g j i q => (h2 g j i q).trans (h g j i q)
def PD (J : IFn) (pl dn : List Int32) : Prop := J 0 56 9 = nI pl.length ∧ J 0 56 10 = nI dn.length ∧ stkF (J 0 62) pl ∧ stkF (J 0 63) dn
theorem lt_nn {a b : Nat} (ha : a < 2147483648) (hb : b < 2147483648) : (nI a < nI b) = (a < b) := propext (nI_ltI ha hb)
section
variable (d : Nat) (I : IFn) (t1 t2 : TFn) (k : Nat) (sc : Nat × (Nat → Int32))
theorem m_does {r : Nat} (hr : r ≤ 2) : ∀ (pl dn : List Int32) (J : IFn), pl.length + dn.length ≤ 40 → PD J pl dn → ∃ K, FD J K ∧ den (d + 1, 8, 15, 0, [some (vr 0 56), some (vi (nI r))], [], mkH (J) t1 t2 k sc) = some (none, mkH (K) t1 t2 k sc) ∧ PD K (popW r pl dn).1 (popW r pl dn).2 := by
  intro pl
  induction pl with
  | nil =>
    intro dn J h40 hp
    obtain ⟨h9, h10, h62, h63⟩ := hp
    have h9' : J 0 56 9 = nI 0 := h9
    have z : ¬ (0 : Nat) < 0 := by omega
    refine ⟨J, FD.rfl, ?_, h9, h10, h62, h63⟩
    rw [b8_15_0]
    simp (disch := omega) only [bnd, bnd0, ↓cdec, ↓cnot, ↓reduceIte, Bo_0, Bo_1, ↓Bo_ok, i10, i01, eq_self, decide_true, decide_false, Bool.or_true, Bool.true_or, Bool.or_false, Bool.false_or, cond_true, cond_false, not_true_eq_false, not_false_eq_true, Bool.false_eq_true, and_self, and_true, true_and, and_false, false_and, nI_clamp, ↓inbc, inb_n, nI_pos, nI_1, h9', gt0, z, b8_15_82]
  | cons c pl ih =>
    intro dn J h40 hp
    have hp' := hp
    obtain ⟨h9, h10, h62, h63⟩ := hp
    have hl : (c :: pl).length = pl.length + 1 := by simp
    rw [hl] at h9 h40
    have p1 : nI (pl.length + 1) - 1 = nI pl.length := nI_pred _
    have z : 0 < pl.length + 1 := by omega
    have v : J 0 62 pl.length = c := h62.1
    have hrk := rk_le c
    rw [popW]
    by_cases h7 : c = -7
    · rw [if_pos (Or.inl h7)]
      have h7' := eq_true h7
      refine ⟨J, FD.rfl, ?_, hp'⟩
      rw [b8_15_0]
      simp (disch := omega) only [bnd, bnd0, ↓cdec, ↓cnot, ↓reduceIte, Bo_0, Bo_1, ↓Bo_ok, i10, i01, eq_self, decide_true, decide_false, Bool.or_true, Bool.true_or, Bool.or_false, Bool.false_or, cond_true, cond_false, not_true_eq_false, not_false_eq_true, Bool.false_eq_true, and_self, and_true, true_and, and_false, false_and, nI_clamp, ↓inbc, inb_n, nI_pos, nI_1, h9, gt0, z, b8_15_7, p1, v, h7', b8_15_82]
    · by_cases hk : rkC c < r
      · rw [if_pos (Or.inr hk)]
        refine ⟨J, FD.rfl, ?_, hp'⟩
        rw [b8_15_0]
        simp (disch := omega) only [bnd, bnd0, ↓cdec, ↓cnot, ↓reduceIte, Bo_0, Bo_1, ↓Bo_ok, i10, i01, eq_self, decide_true, decide_false, Bool.or_true, Bool.true_or, Bool.or_false, Bool.false_or, cond_true, cond_false, not_true_eq_false, not_false_eq_true, Bool.false_eq_true, and_self, and_true, true_and, and_false, false_and, nI_clamp, ↓inbc, inb_n, nI_pos, nI_1, h9, gt0, z, b8_15_7, b8_15_23, b8_15_37, p1, v, h7, m_rank, lt_nn, hk, b8_15_82]
      · rw [if_neg (fun q => q.elim h7 hk)]
        obtain ⟨K, f, e, q⟩ := ih (c :: dn) (uI (uI (uI J 0 56 9 (nI pl.length)) 0 63 dn.length c) 0 56 10 (nI (dn.length + 1))) (by simp only [List.length_cons]; omega) ⟨by rw [uI_ne (by omega), uI_ne (by omega), uI_at (by omega)], by rw [uI_at (by omega)]; rfl, h62.2.keep (fun j hj => by rw [uI_ne (by omega), uI_ne (by omega), uI_ne (by omega)]), by rw [uI_ne (by omega), uI_at (by omega)], h63.keep (fun j hj => by rw [uI_ne (by omega), uI_ne (by omega), uI_ne (by omega)])⟩
        refine ⟨K, FD.trans (fun g j i hn => by rw [uI_ne (by omega), uI_ne (by omega), uI_ne (by omega)]) f, Eq.trans ?_ e, q⟩
        rw [b8_15_0]
        simp (disch := omega) only [bnd, bnd0, ↓cdec, ↓cnot, ↓reduceIte, Bo_0, Bo_1, ↓Bo_ok, i10, i01, eq_self, decide_true, decide_false, Bool.or_true, Bool.true_or, Bool.or_false, Bool.false_or, cond_true, cond_false, not_true_eq_false, not_false_eq_true, Bool.false_eq_true, and_self, and_true, true_and, and_false, false_and, nI_clamp, ↓inbc, inb_n, nI_pos, nI_1, h9, gt0, z, b8_15_7, b8_15_23, b8_15_37, b8_15_41, p1, v, h7, m_rank, lt_nn, hk, h10, uI_at, uI_ne]
end
def MX (J : IFn) (w : Bool) (dg op : Nat) (pt : Bool) (pl dn : List Int32) (dl : Nat) : Prop := PD J pl dn ∧ J 0 56 11 = nI op ∧ J 0 56 12 = bN pt ∧ J 0 56 13 = nI dg ∧ (pt = true → J 0 56 14 = nI dl) ∧ J 0 56 15 = bN w
def MXs (J : IFn) : PSt → Prop
  | (w, dg, op, pt, pl, dn, dl) => MX J w dg op pt pl dn dl
/-- what a step of the reference's reader gives -/
def GO (E : Option AO) (J : IFn) (t1 t2 : TFn) (k : Nat) (sc : Nat × (Nat → Int32)) (r : Option PSt) : Prop := match r with
  | some s => ∃ K, FRd J K ∧ E = some (some (vi 1), mkH K t1 t2 k sc) ∧ MXs K s
  | none => ∃ K, FRd J K ∧ E = some (some (vi 0), mkH K t1 t2 k sc)
section
variable (d : Nat) (I : IFn) (t1 t2 : TFn) (k : Nat) (sc : Nat × (Nat → Int32))
theorem m_dig {b : Nat} (hb : b < 256) : den (d, 8, 1, 0, [some (vl (nI b).toInt64), none, some (vl 48), none, some (vl 57), none], [], mkH I t1 t2 k sc) = some (some (vi (bN (isD b))), mkH I t1 t2 k sc) := by
  rw [m_in32, nI_toInt (by omega)]
  have e1 : (48 : Int64).toInt = 48 := by decide
  have e2 : (57 : Int64).toInt = 57 := by decide
  rw [e1, e2]
  by_cases h : 48 ≤ b ∧ b ≤ 57
  · rw [Bo_t (by omega), show isD b = true by simp [isD]; omega]; rfl
  · rw [Bo_f (by omega), show isD b = false by simp [isD]; omega]; rfl
/-- an operand is wanted: begins -/
theorem m_begins {b op : Nat} {pt : Bool} {pl dn : List Int32} {dl : Nat} (hb : b < 256) (hl : pl.length + dn.length < 40) (ho : op ≤ 4) (hx : MX I true 0 op pt pl dn dl) : GO (den (d, 8, 17, 0, [some (vr 0 56), some (vi (nI b)), some (vi (bN (isD b)))], [], mkH I t1 t2 k sc)) I t1 t2 k sc (stP (true, 0, op, pt, pl, dn, dl) b) := by
  obtain ⟨⟨h9, h10, h62, h63⟩, h11, h12, h13, h14, h15⟩ := hx
  have n0' : ¬ (isD b = true ∧ 0 < 0 ∧ 0 < 3) := by omega
  have q : ∀ m : Nat, m < 256 → ∀ x : Int32, x = nI m → (nI b = x) = (b = m) := fun m hm x e => by rw [e]; exact eqN (by omega) (by omega)
  have q40 := q 40 (by omega) 40 rfl
  have q120 := q 120 (by omega) 120 rfl
  cases hd : isD b with
  | true =>
    rw [stP, if_neg (by omega), if_pos rfl, if_pos hd]
    have b1 : (bN true : Int32) = 1 := rfl
    refine ⟨uI (uI (uI (uI I 0 63 dn.length (nI b - 48)) 0 56 10 (nI (dn.length + 1))) 0 56 13 1) 0 56 15 0, fun g j i hn => by rw [uI_ne (by omega), uI_ne (by omega), uI_ne (by omega), uI_ne (by omega)], ?_, ⟨⟨?_, ?_, ?_, ?_⟩, ?_, ?_, ?_, fun z => ?_, ?_⟩⟩
    · simp (disch := omega) only [bnd, bnd0, ↓cdec, ↓cnot, ↓reduceIte, Bo_0, Bo_1, ↓Bo_ok, i10, i01, eq_self, decide_true, decide_false, Bool.or_true, Bool.true_or, Bool.or_false, Bool.false_or, cond_true, cond_false, not_true_eq_false, not_false_eq_true, Bool.false_eq_true, and_self, and_true, true_and, and_false, false_and, nI_clamp, ↓inbc, inb_n, nI_pos, nI_1, b1, b8_17_0, b8_17_10, b8_17_22, b8_17_30, b8_17_46, b8_17_51, h10, uI_ne]
    · rw [uI_ne (by omega), uI_ne (by omega), uI_ne (by omega), uI_ne (by omega)]; exact h9
    · rw [uI_ne (by omega), uI_ne (by omega), uI_at (by omega)]; rfl
    · exact h62.keep (fun j hj => by rw [uI_ne (by omega), uI_ne (by omega), uI_ne (by omega), uI_ne (by omega)])
    · exact ⟨by rw [uI_ne (by omega), uI_ne (by omega), uI_ne (by omega), uI_at (by omega)], h63.keep (fun j hj => by rw [uI_ne (by omega), uI_ne (by omega), uI_ne (by omega), uI_ne (by omega)])⟩
    · rw [uI_ne (by omega), uI_ne (by omega), uI_ne (by omega), uI_ne (by omega)]; exact h11
    · rw [uI_ne (by omega), uI_ne (by omega), uI_ne (by omega), uI_ne (by omega)]; exact h12
    · rw [uI_ne (by omega), uI_at (by omega)]; rfl
    · rw [uI_ne (by omega), uI_ne (by omega), uI_ne (by omega), uI_ne (by omega)]; exact h14 z
    · rw [uI_at (by omega)]; rfl
  | false =>
    have b1 : (bN false : Int32) = 0 := rfl
    have nd : ¬ isD b = true := by rw [hd]; decide
    rw [stP, if_neg (by omega), if_pos rfl, if_neg nd]
    by_cases h120 : b = 120
    · rw [if_pos h120]
      have h120' := eq_true h120
      refine ⟨uI (uI (uI (uI I 0 63 dn.length (-1)) 0 56 10 (nI (dn.length + 1))) 0 56 13 0) 0 56 15 0, fun g j i hn => by rw [uI_ne (by omega), uI_ne (by omega), uI_ne (by omega), uI_ne (by omega)], ?_, ⟨⟨?_, ?_, ?_, ?_⟩, ?_, ?_, ?_, fun z => ?_, ?_⟩⟩
      · simp (disch := omega) only [bnd, bnd0, ↓cdec, ↓cnot, ↓reduceIte, Bo_0, Bo_1, ↓Bo_ok, i10, i01, eq_self, decide_true, decide_false, Bool.or_true, Bool.true_or, Bool.or_false, Bool.false_or, cond_true, cond_false, not_true_eq_false, not_false_eq_true, Bool.false_eq_true, and_self, and_true, true_and, and_false, false_and, nI_clamp, ↓inbc, inb_n, nI_pos, nI_1, b1, b8_17_0, b8_17_4, b8_17_10, b8_17_29, b8_17_30, b8_17_50, b8_17_51, q120, h120', h10, uI_ne]
      · rw [uI_ne (by omega), uI_ne (by omega), uI_ne (by omega), uI_ne (by omega)]; exact h9
      · rw [uI_ne (by omega), uI_ne (by omega), uI_at (by omega)]; rfl
      · exact h62.keep (fun j hj => by rw [uI_ne (by omega), uI_ne (by omega), uI_ne (by omega), uI_ne (by omega)])
      · exact ⟨by rw [uI_ne (by omega), uI_ne (by omega), uI_ne (by omega), uI_at (by omega)], h63.keep (fun j hj => by rw [uI_ne (by omega), uI_ne (by omega), uI_ne (by omega), uI_ne (by omega)])⟩
      · rw [uI_ne (by omega), uI_ne (by omega), uI_ne (by omega), uI_ne (by omega)]; exact h11
      · rw [uI_ne (by omega), uI_ne (by omega), uI_ne (by omega), uI_ne (by omega)]; exact h12
      · rw [uI_ne (by omega), uI_at (by omega)]; rfl
      · rw [uI_ne (by omega), uI_ne (by omega), uI_ne (by omega), uI_ne (by omega)]; exact h14 z
      · rw [uI_at (by omega)]; rfl
    · rw [if_neg h120]
      by_cases h40 : b = 40
      · have h40' := eq_true h40
        by_cases o4 : op < 4
        · rw [if_pos ⟨h40, o4⟩]
          refine ⟨uI (uI (uI I 0 62 pl.length (-7)) 0 56 9 (nI (pl.length + 1))) 0 56 11 (nI (op + 1)), fun g j i hn => by rw [uI_ne (by omega), uI_ne (by omega), uI_ne (by omega)], ?_, ⟨⟨?_, ?_, ?_, ?_⟩, ?_, ?_, ?_, fun z => ?_, ?_⟩⟩
          · simp (disch := omega) only [bnd, bnd0, ↓cdec, ↓cnot, ↓reduceIte, Bo_0, Bo_1, ↓Bo_ok, i10, i01, eq_self, decide_true, decide_false, Bool.or_true, Bool.true_or, Bool.or_false, Bool.false_or, cond_true, cond_false, not_true_eq_false, not_false_eq_true, Bool.false_eq_true, and_self, and_true, true_and, and_false, false_and, nI_clamp, ↓inbc, inb_n, nI_pos, nI_1, b1, b8_17_0, b8_17_4, b8_17_61, b8_17_67, b8_17_75, q120, h120, q40, h40', h11, lt_4, o4, h9, uI_ne]
          · rw [uI_ne (by omega), uI_at (by omega)]; rfl
          · rw [uI_ne (by omega), uI_ne (by omega), uI_ne (by omega)]; exact h10
          · exact ⟨by rw [uI_ne (by omega), uI_ne (by omega), uI_at (by omega)], h62.keep (fun j hj => by rw [uI_ne (by omega), uI_ne (by omega), uI_ne (by omega)])⟩
          · exact h63.keep (fun j hj => by rw [uI_ne (by omega), uI_ne (by omega), uI_ne (by omega)])
          · rw [uI_at (by omega)]
          · rw [uI_ne (by omega), uI_ne (by omega), uI_ne (by omega)]; exact h12
          · rw [uI_ne (by omega), uI_ne (by omega), uI_ne (by omega)]; exact h13
          · rw [uI_ne (by omega), uI_ne (by omega), uI_ne (by omega)]; exact h14 z
          · rw [uI_ne (by omega), uI_ne (by omega), uI_ne (by omega)]; exact h15
        · rw [if_neg (fun z => o4 z.2)]
          refine ⟨I, FRd.rfl, ?_⟩
          simp (disch := omega) only [bnd, bnd0, ↓cdec, ↓cnot, ↓reduceIte, Bo_0, Bo_1, ↓Bo_ok, i10, i01, eq_self, decide_true, decide_false, Bool.or_true, Bool.true_or, Bool.or_false, Bool.false_or, cond_true, cond_false, not_true_eq_false, not_false_eq_true, Bool.false_eq_true, and_self, and_true, true_and, and_false, false_and, nI_clamp, ↓inbc, inb_n, nI_pos, nI_1, b1, b8_17_0, b8_17_4, b8_17_61, b8_17_67, b8_17_108, q120, h120, q40, h40', h11, lt_4, o4]
      · rw [if_neg (fun z => h40 z.1)]
        refine ⟨I, FRd.rfl, ?_⟩
        simp (disch := omega) only [bnd, bnd0, ↓cdec, ↓cnot, ↓reduceIte, Bo_0, Bo_1, ↓Bo_ok, i10, i01, eq_self, decide_true, decide_false, Bool.or_true, Bool.true_or, Bool.or_false, Bool.false_or, cond_true, cond_false, not_true_eq_false, not_false_eq_true, Bool.false_eq_true, and_self, and_true, true_and, and_false, false_and, nI_clamp, ↓inbc, inb_n, nI_pos, nI_1, b1, b8_17_0, b8_17_4, b8_17_61, b8_17_108, q120, h120, q40, h40]
end
section
variable (d : Nat) (I : IFn) (t1 t2 : TFn) (k : Nat) (sc : Nat × (Nat → Int32))
/-- a byte -/
theorem m_goes {b : Nat} {w pt : Bool} {dg op dl : Nat} {pl dn : List Int32} {m : Nat} (hb : b < 256) (hm : m < 40) (hA : PA m (w, dg, op, pt, pl, dn, dl)) (hx : MX I w dg op pt pl dn dl) : GO (den (d + 2, 8, 16, 0, [some (vr 0 56), some (vi (nI b)), none, none], [], mkH I t1 t2 k sc)) I t1 t2 k sc (stP (w, dg, op, pt, pl, dn, dl) b) := by
  obtain ⟨a1, a2, a3, a4, a5, a6⟩ := hA
  have hx0 := hx
  obtain ⟨⟨h9, h10, h62, h63⟩, h11, h12, h13, h14, h15⟩ := hx
  have xd := m_dig (d + 1) I t1 t2 k sc hb
  have q : ∀ m : Nat, m < 256 → ∀ x : Int32, x = nI m → (nI b = x) = (b = m) := fun m hm x e => by rw [e]; exact eqN (by omega) (by omega)
  have q41 := q 41 (by omega) 41 rfl
  have q61 := q 61 (by omega) 61 rfl
  by_cases hdd : isD b = true ∧ 0 < dg ∧ dg < 3
  · obtain ⟨e1, e2, e3⟩ := hdd
    rw [stP, if_pos ⟨e1, e2, e3⟩]
    rw [e1] at xd
    have xd1 : den (d + 1, 8, 1, 0, [some (vl (nI b).toInt64), none, some (vl 48), none, some (vl 57), none], [], mkH I t1 t2 k sc) = some (some (vi 1), mkH I t1 t2 k sc) := xd
    have l0 := a6 e2
    cases dn with
    | nil => simp at l0
    | cons c r =>
      have hl : (c :: r).length = r.length + 1 := by simp
      rw [hl] at h10 a5
      have p1 : nI (r.length + 1) - 1 = nI r.length := nI_pred _
      have v : I 0 63 r.length = c := h63.1
      refine ⟨uI (uI I 0 63 r.length (10 * c + nI b - 48)) 0 56 13 (nI (dg + 1)), fun g j i hn => by rw [uI_ne (by omega), uI_ne (by omega)], ?_, ⟨⟨?_, ?_, ?_, ?_⟩, ?_, ?_, ?_, fun z => ?_, ?_⟩⟩
      · simp (disch := omega) only [bnd, bnd0, ↓cdec, ↓cnot, ↓reduceIte, Bo_0, Bo_1, ↓Bo_ok, i10, i01, eq_self, decide_true, decide_false, Bool.or_true, Bool.true_or, Bool.or_false, Bool.false_or, cond_true, cond_false, not_true_eq_false, not_false_eq_true, Bool.false_eq_true, and_self, and_true, true_and, and_false, false_and, nI_clamp, ↓inbc, inb_n, nI_pos, nI_1, b8_16_0, b8_16_11, b8_16_16, b8_16_23, b8_16_31, xd1, h13, gt0, lt_3, e2, e3, h10, p1, v, uI_ne]
      · rw [uI_ne (by omega), uI_ne (by omega)]; exact h9
      · rw [uI_ne (by omega), uI_ne (by omega)]; exact h10
      · exact h62.keep (fun j hj => by rw [uI_ne (by omega), uI_ne (by omega)])
      · exact ⟨by rw [uI_ne (by omega), uI_at (by omega)], h63.2.keep (fun j hj => by rw [uI_ne (by omega), uI_ne (by omega)])⟩
      · rw [uI_ne (by omega), uI_ne (by omega)]; exact h11
      · rw [uI_ne (by omega), uI_ne (by omega)]; exact h12
      · rw [uI_at (by omega)]
      · rw [uI_ne (by omega), uI_ne (by omega)]; exact h14 z
      · rw [uI_ne (by omega), uI_ne (by omega)]; exact h15
  · -- to the fork
    have fork : den (d + 2, 8, 16, 0, [some (vr 0 56), some (vi (nI b)), none, none], [], mkH I t1 t2 k sc) = den (d + 2, 8, 16, 73, [some (vr 0 56), some (vi (nI b)), some (vi (bN (isD b))), none], [], mkH I t1 t2 k sc) := by
      cases hd : isD b with
      | false =>
        rw [hd] at xd
        have b1 : (bN false : Int32) = 0 := rfl
        rw [b1] at xd ⊢
        simp (disch := omega) only [bnd, bnd0, ↓cdec, ↓cnot, ↓reduceIte, Bo_0, Bo_1, ↓Bo_ok, i10, i01, eq_self, decide_true, decide_false, Bool.or_true, Bool.true_or, Bool.or_false, Bool.false_or, cond_true, cond_false, not_true_eq_false, not_false_eq_true, Bool.false_eq_true, and_self, and_true, true_and, and_false, false_and, nI_clamp, ↓inbc, inb_n, nI_pos, nI_1, b8_16_0, b8_16_11, xd]
      | true =>
        rw [hd] at xd
        have b1 : (bN true : Int32) = 1 := rfl
        rw [b1] at xd ⊢
        by_cases g0 : 0 < dg
        · have g3 : ¬ dg < 3 := fun z => hdd ⟨hd, g0, z⟩
          simp (disch := omega) only [bnd, bnd0, ↓cdec, ↓cnot, ↓reduceIte, Bo_0, Bo_1, ↓Bo_ok, i10, i01, eq_self, decide_true, decide_false, Bool.or_true, Bool.true_or, Bool.or_false, Bool.false_or, cond_true, cond_false, not_true_eq_false, not_false_eq_true, Bool.false_eq_true, and_self, and_true, true_and, and_false, false_and, nI_clamp, ↓inbc, inb_n, nI_pos, nI_1, b8_16_0, b8_16_11, b8_16_16, b8_16_23, xd, h13, gt0, lt_3, g0, g3]
        · simp (disch := omega) only [bnd, bnd0, ↓cdec, ↓cnot, ↓reduceIte, Bo_0, Bo_1, ↓Bo_ok, i10, i01, eq_self, decide_true, decide_false, Bool.or_true, Bool.true_or, Bool.or_false, Bool.false_or, cond_true, cond_false, not_true_eq_false, not_false_eq_true, Bool.false_eq_true, and_self, and_true, true_and, and_false, false_and, nI_clamp, ↓inbc, inb_n, nI_pos, nI_1, b8_16_0, b8_16_11, b8_16_16, xd, h13, gt0, g0]
    rw [fork]
    cases w with
    | true =>
      have d0 := a3 rfl
      subst d0
      have k15 : I 0 56 15 = 1 := h15
      have mb := m_begins (d + 1) I t1 t2 k sc hb (by omega) a2 hx0
      have e17 : den (d + 2, 8, 16, 73, [some (vr 0 56), some (vi (nI b)), some (vi (bN (isD b))), none], [], mkH I t1 t2 k sc) = (den (d + 1, 8, 17, 0, [some (vr 0 56), some (vi (nI b)), some (vi (bN (isD b)))], [], mkH I t1 t2 k sc)).bind (fun o => den (d + 2, 8, 16, 86, [some (vr 0 56), some (vi (nI b)), some (vi (bN (isD b))), none], o.1.toList ++ [], o.2)) := by
        rw [b8_16_73, k15]
        simp (disch := omega) only [bnd, bnd0, ↓cdec, ↓cnot, ↓reduceIte, Bo_0, Bo_1, ↓Bo_ok, i10, i01, eq_self, decide_true, decide_false, Bool.or_true, Bool.true_or, Bool.or_false, Bool.false_or, cond_true, cond_false, not_true_eq_false, not_false_eq_true, Bool.false_eq_true, and_self, and_true, true_and, and_false, false_and, nI_clamp, ↓inbc, inb_n, nI_pos, nI_1, b8_16_80]
      rw [e17]
      cases hs : stP (true, 0, op, pt, pl, dn, dl) b with
      | none =>
        rw [hs] at mb
        obtain ⟨K, f, e⟩ := mb
        refine ⟨K, f, ?_⟩
        rw [e]
        simp (disch := omega) only [bnd, bnd0, ↓cdec, ↓cnot, ↓reduceIte, Bo_0, Bo_1, ↓Bo_ok, i10, i01, eq_self, decide_true, decide_false, Bool.or_true, Bool.true_or, Bool.or_false, Bool.false_or, cond_true, cond_false, not_true_eq_false, not_false_eq_true, Bool.false_eq_true, and_self, and_true, true_and, and_false, false_and, nI_clamp, ↓inbc, inb_n, nI_pos, nI_1, b8_16_86]
      | some s =>
        rw [hs] at mb
        obtain ⟨K, f, e, x⟩ := mb
        refine ⟨K, f, ?_, x⟩
        rw [e]
        simp (disch := omega) only [bnd, bnd0, ↓cdec, ↓cnot, ↓reduceIte, Bo_0, Bo_1, ↓Bo_ok, i10, i01, eq_self, decide_true, decide_false, Bool.or_true, Bool.true_or, Bool.or_false, Bool.false_or, cond_true, cond_false, not_true_eq_false, not_false_eq_true, Bool.false_eq_true, and_self, and_true, true_and, and_false, false_and, nI_clamp, ↓inbc, inb_n, nI_pos, nI_1, b8_16_86]
    | false =>
      have k15 : I 0 56 15 = 0 := h15
      have k15' := eq_true k15
      have wf : ¬ (false : Bool) = true := by decide
      rw [stP, if_neg hdd, if_neg wf]
      have J0 : MX (uI I 0 56 13 0) false 0 op pt pl dn dl := ⟨⟨by rw [uI_ne (by omega)]; exact h9, by rw [uI_ne (by omega)]; exact h10, h62.keep (fun j hj => uI_ne (by omega)), h63.keep (fun j hj => uI_ne (by omega))⟩, by rw [uI_ne (by omega)]; exact h11, by rw [uI_ne (by omega)]; exact h12, by rw [uI_at (by omega)]; rfl, fun z => by rw [uI_ne (by omega)]; exact h14 z, by rw [uI_ne (by omega)]; exact h15⟩
      have f0 : FRd I (uI I 0 56 13 0) := fun g j i hn => uI_ne (by omega)
      have mid : den (d + 2, 8, 16, 73, [some (vr 0 56), some (vi (nI b)), some (vi (bN (isD b))), none], [], mkH I t1 t2 k sc) = bif decide (sgC b = 0) then den (d + 2, 8, 16, 136, [some (vr 0 56), some (vi (nI b)), some (vi (bN (isD b))), some (vi (sgC b))], [], mkH (uI I 0 56 13 0) t1 t2 k sc) else den (d + 2, 8, 16, 101, [some (vr 0 56), some (vi (nI b)), some (vi (bN (isD b))), some (vi (sgC b))], [], mkH (uI I 0 56 13 0) t1 t2 k sc) := by
        rw [b8_16_73, k15]
        simp (disch := omega) only [bnd, bnd0, ↓cdec, ↓cnot, ↓reduceIte, Bo_0, Bo_1, ↓Bo_ok, i10, i01, eq_self, decide_true, decide_false, Bool.or_true, Bool.true_or, Bool.or_false, Bool.false_or, cond_true, cond_false, not_true_eq_false, not_false_eq_true, Bool.false_eq_true, and_self, and_true, true_and, and_false, false_and, nI_clamp, ↓inbc, inb_n, nI_pos, nI_1, b8_16_87, m_sgn, b8_16_96]
      rw [mid]
      generalize hJ : uI I 0 56 13 0 = J at J0 f0
      obtain ⟨g0, g11, g12, g13, g14, g15⟩ := J0
      by_cases hs : sgC b = 0
      · have hs' := eq_true hs
        rw [decide_eq_true hs, cond_true, if_neg (fun z => z hs)]
        by_cases h41 : b = 41
        · have h41' := eq_true h41
          by_cases o0 : 0 < op
          · rw [if_pos ⟨h41, o0⟩]
            obtain ⟨K, f, e, k9, k10, k62, k63⟩ := m_does d t1 t2 k sc (r := 1) (by omega) pl dn J (by omega) g0
            have e' : den (d + 1, 8, 15, 0, [some (vr 0 56), some (vi 1)], [], mkH (J) t1 t2 k sc) = some (none, mkH (K) t1 t2 k sc) := e
            have kj : ∀ i, 11 ≤ i → K 0 56 i = J 0 56 i := fun i hi => f _ _ _ (by omega)
            have k11 := (kj 11 (by omega)).trans g11
            have e2 := pop_pa 1 pl dn
            rcases pop_one' pl dn with z | ⟨r, z⟩
            · rw [z, a4] at e2
              have : paN [] = 0 := rfl
              omega
            · rw [z] at k9 k62
              have p1 : nI (r.length + 1) - 1 = nI r.length := nI_pred _
              have k9' : K 0 56 9 = nI (r.length + 1) := k9
              have p2 : nI op - 1 = nI (op - 1) := pred_s (by omega)
              rw [z, List.tail_cons]
              refine ⟨uI (uI K 0 56 9 (nI r.length)) 0 56 11 (nI (op - 1)), f0.trans (fun g j i hn => by rw [uI_ne (by omega), uI_ne (by omega)]; exact f _ _ _ (by omega)), ?_, ⟨⟨?_, ?_, ?_, ?_⟩, ?_, ?_, ?_, fun z => ?_, ?_⟩⟩
              · simp (disch := omega) only [bnd, bnd0, ↓cdec, ↓cnot, ↓reduceIte, Bo_0, Bo_1, ↓Bo_ok, i10, i01, eq_self, decide_true, decide_false, Bool.or_true, Bool.true_or, Bool.or_false, Bool.false_or, cond_true, cond_false, not_true_eq_false, not_false_eq_true, Bool.false_eq_true, and_self, and_true, true_and, and_false, false_and, nI_clamp, ↓inbc, inb_n, nI_pos, nI_1, b8_16_136, b8_16_142, b8_16_149, b8_16_154, q41, h41', g11, gt0, o0, e', k9', p1, uI_ne, k11, p2]
              · rw [uI_ne (by omega), uI_at (by omega)]
              · rw [uI_ne (by omega), uI_ne (by omega)]; exact k10
              · exact k62.2.keep (fun j hj => by rw [uI_ne (by omega), uI_ne (by omega)])
              · exact k63.keep (fun j hj => by rw [uI_ne (by omega), uI_ne (by omega)])
              · rw [uI_at (by omega)]
              · rw [uI_ne (by omega), uI_ne (by omega), kj 12 (by omega)]; exact g12
              · rw [uI_ne (by omega), uI_ne (by omega), kj 13 (by omega)]; exact g13
              · rw [uI_ne (by omega), uI_ne (by omega), kj 14 (by omega)]; exact g14 z
              · rw [uI_ne (by omega), uI_ne (by omega), kj 15 (by omega)]; exact g15
          · rw [if_neg (fun z => o0 z.2), if_neg (by omega)]
            have h61 : ¬ b = 61 := by omega
            refine ⟨J, f0, ?_⟩
            simp (disch := omega) only [bnd, bnd0, ↓cdec, ↓cnot, ↓reduceIte, Bo_0, Bo_1, ↓Bo_ok, i10, i01, eq_self, decide_true, decide_false, Bool.or_true, Bool.true_or, Bool.or_false, Bool.false_or, cond_true, cond_false, not_true_eq_false, not_false_eq_true, Bool.false_eq_true, and_self, and_true, true_and, and_false, false_and, nI_clamp, ↓inbc, inb_n, nI_pos, nI_1, b8_16_136, b8_16_142, b8_16_176, b8_16_221, q41, h41', g11, gt0, o0, q61, h61]
        · rw [if_neg (fun z => h41 z.1)]
          by_cases h61 : b = 61
          · have h61' := eq_true h61
            by_cases o0 : op = 0
            · have o0' := eq_true o0
              cases hp : pt with
              | true =>
                rw [if_neg (fun z => (by cases z.2.2))]
                rw [hp] at g12
                have b5 : ¬ (bN true : Int32) = 0 := by decide
                refine ⟨J, f0, ?_⟩
                simp (disch := omega) only [bnd, bnd0, ↓cdec, ↓cnot, ↓reduceIte, Bo_0, Bo_1, ↓Bo_ok, i10, i01, eq_self, decide_true, decide_false, Bool.or_true, Bool.true_or, Bool.or_false, Bool.false_or, cond_true, cond_false, not_true_eq_false, not_false_eq_true, Bool.false_eq_true, and_self, and_true, true_and, and_false, false_and, nI_clamp, ↓inbc, inb_n, nI_pos, nI_1, b8_16_136, b8_16_176, b8_16_182, b8_16_189, b8_16_221, q41, h41, q61, h61', g11, eq_0, o0', g12, b5]
              | false =>
                rw [if_pos ⟨h61, o0, rfl⟩]
                rw [hp] at g12
                have b5 : ((bN false : Int32) = 0) = True := eq_true rfl
                obtain ⟨K, f, e, k9, k10, k62, k63⟩ := m_does d t1 t2 k sc (r := 1) (by omega) pl dn J (by omega) g0
                have e' : den (d + 1, 8, 15, 0, [some (vr 0 56), some (vi 1)], [], mkH (J) t1 t2 k sc) = some (none, mkH (K) t1 t2 k sc) := e
                have kj : ∀ i, 11 ≤ i → K 0 56 i = J 0 56 i := fun i hi => f _ _ _ (by omega)
                refine ⟨uI (uI (uI K 0 56 14 (nI (popW 1 pl dn).2.length)) 0 56 12 1) 0 56 15 1, f0.trans (fun g j i hn => by rw [uI_ne (by omega), uI_ne (by omega), uI_ne (by omega)]; exact f _ _ _ (by omega)), ?_, ⟨⟨?_, ?_, ?_, ?_⟩, ?_, ?_, ?_, fun z => ?_, ?_⟩⟩
                · simp (disch := omega) only [bnd, bnd0, ↓cdec, ↓cnot, ↓reduceIte, Bo_0, Bo_1, ↓Bo_ok, i10, i01, eq_self, decide_true, decide_false, Bool.or_true, Bool.true_or, Bool.or_false, Bool.false_or, cond_true, cond_false, not_true_eq_false, not_false_eq_true, Bool.false_eq_true, and_self, and_true, true_and, and_false, false_and, nI_clamp, ↓inbc, inb_n, nI_pos, nI_1, b8_16_136, b8_16_176, b8_16_182, b8_16_189, b8_16_196, b8_16_201, q41, h41, q61, h61', g11, eq_0, o0', g12, b5, e', k10]
                · rw [uI_ne (by omega), uI_ne (by omega), uI_ne (by omega)]; exact k9
                · rw [uI_ne (by omega), uI_ne (by omega), uI_ne (by omega)]; exact k10
                · exact k62.keep (fun j hj => by rw [uI_ne (by omega), uI_ne (by omega), uI_ne (by omega)])
                · exact k63.keep (fun j hj => by rw [uI_ne (by omega), uI_ne (by omega), uI_ne (by omega)])
                · rw [uI_ne (by omega), uI_ne (by omega), uI_ne (by omega), kj 11 (by omega)]; exact g11
                · rw [uI_ne (by omega), uI_at (by omega)]; rfl
                · rw [uI_ne (by omega), uI_ne (by omega), uI_ne (by omega), kj 13 (by omega)]; exact g13
                · rw [uI_ne (by omega), uI_ne (by omega), uI_at (by omega)]
                · rw [uI_at (by omega)]; rfl
            · rw [if_neg (fun z => o0 z.2.1)]
              refine ⟨J, f0, ?_⟩
              simp (disch := omega) only [bnd, bnd0, ↓cdec, ↓cnot, ↓reduceIte, Bo_0, Bo_1, ↓Bo_ok, i10, i01, eq_self, decide_true, decide_false, Bool.or_true, Bool.true_or, Bool.or_false, Bool.false_or, cond_true, cond_false, not_true_eq_false, not_false_eq_true, Bool.false_eq_true, and_self, and_true, true_and, and_false, false_and, nI_clamp, ↓inbc, inb_n, nI_pos, nI_1, b8_16_136, b8_16_176, b8_16_182, b8_16_221, q41, h41, q61, h61', g11, eq_0, o0]
          · rw [if_neg (fun z => h61 z.1)]
            refine ⟨J, f0, ?_⟩
            simp (disch := omega) only [bnd, bnd0, ↓cdec, ↓cnot, ↓reduceIte, Bo_0, Bo_1, ↓Bo_ok, i10, i01, eq_self, decide_true, decide_false, Bool.or_true, Bool.true_or, Bool.or_false, Bool.false_or, cond_true, cond_false, not_true_eq_false, not_false_eq_true, Bool.false_eq_true, and_self, and_true, true_and, and_false, false_and, nI_clamp, ↓inbc, inb_n, nI_pos, nI_1, b8_16_136, b8_16_176, b8_16_221, q41, h41, q61, h61]
      · rw [decide_eq_false hs, cond_false, if_pos hs]
        obtain ⟨K, f, e, k9, k10, k62, k63⟩ := m_does d t1 t2 k sc (r := rkC (sgC b)) (rk_le _) pl dn J (by omega) g0
        have kj : ∀ i, 11 ≤ i → K 0 56 i = J 0 56 i := fun i hi => f _ _ _ (by omega)
        have pl1 := pop_len (rkC (sgC b)) pl dn
        have l40 : (popW (rkC (sgC b)) pl dn).1.length < 40 := by omega
        refine ⟨uI (uI (uI K 0 62 (popW (rkC (sgC b)) pl dn).1.length (sgC b)) 0 56 9 (nI ((popW (rkC (sgC b)) pl dn).1.length + 1))) 0 56 15 1, f0.trans (fun g j i hn => by rw [uI_ne (by omega), uI_ne (by omega), uI_ne (by omega)]; exact f _ _ _ (by omega)), ?_, ⟨⟨?_, ?_, ?_, ?_⟩, ?_, ?_, ?_, fun z => ?_, ?_⟩⟩
        · simp (disch := omega) only [bnd, bnd0, ↓cdec, ↓cnot, ↓reduceIte, Bo_0, Bo_1, ↓Bo_ok, i10, i01, eq_self, decide_true, decide_false, Bool.or_true, Bool.true_or, Bool.or_false, Bool.false_or, cond_true, cond_false, not_true_eq_false, not_false_eq_true, Bool.false_eq_true, and_self, and_true, true_and, and_false, false_and, nI_clamp, ↓inbc, inb_n, nI_pos, nI_1, b8_16_101, b8_16_106, b8_16_109, m_rank, e, k9, uI_ne]
        · rw [uI_ne (by omega), uI_at (by omega)]; rfl
        · rw [uI_ne (by omega), uI_ne (by omega), uI_ne (by omega)]; exact k10
        · exact ⟨by rw [uI_ne (by omega), uI_ne (by omega), uI_at (by omega)], k62.keep (fun j hj => by rw [uI_ne (by omega), uI_ne (by omega), uI_ne (by omega)])⟩
        · exact k63.keep (fun j hj => by rw [uI_ne (by omega), uI_ne (by omega), uI_ne (by omega)])
        · rw [uI_ne (by omega), uI_ne (by omega), uI_ne (by omega), kj 11 (by omega)]; exact g11
        · rw [uI_ne (by omega), uI_ne (by omega), uI_ne (by omega), kj 12 (by omega)]; exact g12
        · rw [uI_ne (by omega), uI_ne (by omega), uI_ne (by omega), kj 13 (by omega)]; exact g13
        · rw [uI_ne (by omega), uI_ne (by omega), uI_ne (by omega), kj 14 (by omega)]; exact g14 z
        · rw [uI_at (by omega)]; rfl
end
