/-! the reader, pure: what its state keeps to -/
def opd (c : Int32) : Prop := c = -1 ∨ rng 0 999 c
def isg (c : Int32) : Prop := c = -2 ∨ c = -3 ∨ c = -4 ∨ c = -5 ∨ c = -6
/-- a row of codes (the last first) that leaves h numbers -/
def hgt : List Int32 → Nat → Prop
  | [], h => h = 0
  | c :: r, h => 1 ≤ h ∧ ((opd c ∧ hgt r (h - 1)) ∨ (isg c ∧ hgt r (h + 1)))
theorem rk_pos {c : Int32} (h : ¬ c = -7) : 1 ≤ rkC c := by
  rw [rkC, if_neg h]
  by_cases h2 : c = -2
  · rw [if_pos h2]; omega
  · rw [if_neg h2]
    by_cases h3 : c = -3
    · rw [if_pos h3]; omega
    · rw [if_neg h3]; omega
theorem rk_le (c : Int32) : rkC c ≤ 2 := by
  by_cases h : c = -7
  · rw [rkC, if_pos h]; omega
  · rw [rkC, if_neg h]
    by_cases h2 : c = -2
    · rw [if_pos h2]; omega
    · rw [if_neg h2]
      by_cases h3 : c = -3
      · rw [if_pos h3]; omega
      · rw [if_neg h3]; omega
theorem pop_one' (pl dn : List Int32) : (popW 1 pl dn).1 = [] ∨ ∃ r, (popW 1 pl dn).1 = -7 :: r := pop_one pl dn (fun c _ => by
  by_cases h : c = -7
  · exact Or.inl h
  · exact Or.inr (rk_pos h))
theorem pop_base (r : Nat) (bs : List Int32) : ∀ pl dn, popW r pl (dn ++ bs) = ((popW r pl dn).1, (popW r pl dn).2 ++ bs)
  | [], dn => rfl
  | c :: pl, dn => by
    rw [popW, popW]
    by_cases h : c = -7 ∨ rkC c < r
    · rw [if_pos h, if_pos h]
    · rw [if_neg h, if_neg h]
      exact pop_base r bs pl (c :: dn)
theorem pop_mem (r : Nat) : ∀ pl dn c, c ∈ (popW r pl dn).1 → c ∈ pl
  | [], dn, c => fun h => h
  | a :: pl, dn, c => by
    rw [popW]
    by_cases h : a = -7 ∨ rkC a < r
    · rw [if_pos h]; exact fun q => q
    · rw [if_neg h]; exact fun q => List.mem_cons_of_mem _ (pop_mem r pl (a :: dn) c q)
theorem pop_op (r : Nat) : ∀ pl dn, (popW r pl dn).2.length + opN (popW r pl dn).1 = dn.length + opN pl
  | [], dn => rfl
  | c :: pl, dn => by
    rw [popW]
    by_cases h : c = -7 ∨ rkC c < r
    · rw [if_pos h]
    · rw [if_neg h, pop_op r pl (c :: dn), opN, if_neg (fun z => h (Or.inl z))]
      simp only [List.length_cons]; omega
theorem pop_hgt (r : Nat) : ∀ pl dn, (∀ c, c ∈ pl → c = -7 ∨ isg c) → hgt dn (opN pl + 1) → hgt (popW r pl dn).2 (opN (popW r pl dn).1 + 1)
  | [], dn, _, hh => hh
  | c :: pl, dn, hm, hh => by
    rw [popW]
    by_cases h : c = -7 ∨ rkC c < r
    · rw [if_pos h]; exact hh
    · rw [if_neg h]
      have n7 : ¬ c = -7 := fun z => h (Or.inl z)
      have ig : isg c := (hm c List.mem_cons_self).resolve_left n7
      rw [opN, if_neg n7] at hh
      refine pop_hgt r pl (c :: dn) (fun x hx => hm x (List.mem_cons_of_mem _ hx)) ⟨by omega, Or.inr ⟨ig, ?_⟩⟩
      rw [show opN pl + 1 + 1 = 1 + opN pl + 1 by omega]; exact hh
theorem opN_par (r : List Int32) : opN (-7 :: r) = opN r := by rw [opN, if_pos rfl, Nat.zero_add]
theorem paN_par (r : List Int32) : paN (-7 :: r) = paN r + 1 := by rw [paN, if_pos rfl]; omega
theorem sg_isg {b : Nat} (h : ¬ sgC b = 0) : isg (sgC b) := by
  unfold sgC at h ⊢
  by_cases h1 : b = 43
  · rw [if_pos h1]; exact Or.inl rfl
  · rw [if_neg h1] at h ⊢
    by_cases h2 : b = 45
    · rw [if_pos h2]; exact Or.inr (Or.inl rfl)
    · rw [if_neg h2] at h ⊢
      by_cases h3 : b = 42
      · rw [if_pos h3]; exact Or.inr (Or.inr (Or.inl rfl))
      · rw [if_neg h3] at h ⊢
        by_cases h4 : b = 47
        · rw [if_pos h4]; exact Or.inr (Or.inr (Or.inr (Or.inl rfl)))
        · rw [if_neg h4] at h ⊢
          by_cases h5 : b = 37
          · rw [if_pos h5]; exact Or.inr (Or.inr (Or.inr (Or.inr rfl)))
          · rw [if_neg h5] at h; exact absurd rfl h
theorem isg_7 {c : Int32} (h : isg c) : ¬ c = -7 := by
  rcases h with rfl | rfl | rfl | rfl | rfl <;> decide
theorem lng_len (b : Nat) : ∀ l : List Int32, (lngth b l).length = l.length
  | [] => rfl
  | c :: r => rfl
/-- the six ways of a step -/
theorem stP_cases {w pt : Bool} {dg op dl b : Nat} {pl dn : List Int32} {s : PSt} (h : stP (w, dg, op, pt, pl, dn, dl) b = some s) :
    (isD b = true ∧ 0 < dg ∧ dg < 3 ∧ s = (w, dg + 1, op, pt, pl, lngth b dn, dl)) ∨
    (w = true ∧ isD b = true ∧ ¬ (0 < dg ∧ dg < 3) ∧ s = (false, 1, op, pt, pl, (nI b - 48) :: dn, dl)) ∨
    (w = true ∧ isD b = false ∧ b = 120 ∧ s = (false, 0, op, pt, pl, -1 :: dn, dl)) ∨
    (w = true ∧ isD b = false ∧ b = 40 ∧ op < 4 ∧ s = (w, dg, op + 1, pt, -7 :: pl, dn, dl)) ∨
    (w = false ∧ ¬ (isD b = true ∧ 0 < dg ∧ dg < 3) ∧ ¬ sgC b = 0 ∧ s = (true, 0, op, pt, sgC b :: (popW (rkC (sgC b)) pl dn).1, (popW (rkC (sgC b)) pl dn).2, dl)) ∨
    (w = false ∧ ¬ (isD b = true ∧ 0 < dg ∧ dg < 3) ∧ sgC b = 0 ∧ b = 41 ∧ 0 < op ∧ s = (w, 0, op - 1, pt, (popW 1 pl dn).1.tail, (popW 1 pl dn).2, dl)) ∨
    (w = false ∧ ¬ (isD b = true ∧ 0 < dg ∧ dg < 3) ∧ sgC b = 0 ∧ b = 61 ∧ op = 0 ∧ pt = false ∧ s = (true, 0, op, true, (popW 1 pl dn).1, (popW 1 pl dn).2, (popW 1 pl dn).2.length)) := by
  rw [stP] at h
  by_cases h1 : isD b = true ∧ 0 < dg ∧ dg < 3
  · rw [if_pos h1] at h
    exact Or.inl ⟨h1.1, h1.2.1, h1.2.2, (Option.some.inj h).symm⟩
  · rw [if_neg h1] at h
    right
    cases w with
    | true =>
      rw [if_pos rfl] at h
      by_cases h2 : isD b = true
      · rw [if_pos h2] at h
        exact Or.inl ⟨rfl, h2, fun z => h1 ⟨h2, z⟩, (Option.some.inj h).symm⟩
      · rw [if_neg h2] at h
        have h2' : isD b = false := by simpa using h2
        right
        by_cases h3 : b = 120
        · rw [if_pos h3] at h
          exact Or.inl ⟨rfl, h2', h3, (Option.some.inj h).symm⟩
        · rw [if_neg h3] at h
          right
          by_cases h4 : b = 40 ∧ op < 4
          · rw [if_pos h4] at h
            exact Or.inl ⟨rfl, h2', h4.1, h4.2, (Option.some.inj h).symm⟩
          · rw [if_neg h4] at h; cases h
    | false =>
      have wf : ¬ (false : Bool) = true := by decide
      rw [if_neg wf] at h
      right; right; right
      by_cases h2 : ¬ sgC b = 0
      · rw [if_pos h2] at h
        exact Or.inl ⟨rfl, h1, h2, (Option.some.inj h).symm⟩
      · rw [if_neg h2] at h
        have h2' : sgC b = 0 := by
          by_cases z : sgC b = 0
          · exact z
          · exact absurd z h2
        right
        by_cases h3 : b = 41 ∧ 0 < op
        · rw [if_pos h3] at h
          exact Or.inl ⟨rfl, h1, h2', h3.1, h3.2, (Option.some.inj h).symm⟩
        · rw [if_neg h3] at h
          right
          by_cases h4 : b = 61 ∧ op = 0 ∧ pt = false
          · rw [if_pos h4] at h
            exact ⟨rfl, h1, h2', h4.1, h4.2.1, h4.2.2, (Option.some.inj h).symm⟩
          · rw [if_neg h4] at h; cases h
/-- of every state -/
def PA (m : Nat) : PSt → Prop
  | (w, dg, op, _, pl, dn, _) => dg ≤ 3 ∧ op ≤ 4 ∧ (w = true → dg = 0) ∧ paN pl = op ∧ pl.length + dn.length ≤ m ∧ (0 < dg → 0 < dn.length)
theorem PA_step {m b : Nat} {s t : PSt} (h : PA m s) (hs : stP s b = some t) : PA (m + 1) t := by
  obtain ⟨w, dg, op, pt, pl, dn, dl⟩ := s
  obtain ⟨h1, h2, h3, h4, h5, h6⟩ := h
  rcases stP_cases hs with ⟨q1, q2, q3, rfl⟩ | ⟨q0, q1, q2, rfl⟩ | ⟨q0, q1, q2, rfl⟩ | ⟨q0, q1, q2, q3, rfl⟩ | ⟨q0, q1, q2, rfl⟩ | ⟨q0, q1, q2, q3, q4, rfl⟩ | ⟨q0, q1, q2, q3, q4, q5, rfl⟩
  · refine ⟨by omega, h2, fun z => ?_, h4, by rw [lng_len]; omega, fun _ => by rw [lng_len]; exact h6 q2⟩
    have := h3 z
    omega
  · exact ⟨by omega, h2, fun z => (by cases z), h4, by simp only [List.length_cons]; omega, fun _ => by simp⟩
  · exact ⟨by omega, h2, fun z => (by cases z), h4, by simp only [List.length_cons]; omega, fun _ => by simp⟩
  · refine ⟨h1, by omega, h3, by rw [paN_par]; omega, by simp only [List.length_cons]; omega, h6⟩
  · have e := pop_len (rkC (sgC b)) pl dn
    refine ⟨by omega, h2, fun _ => rfl, ?_, by simp only [List.length_cons]; omega, fun z => by omega⟩
    rw [paN, if_neg (isg_7 (sg_isg q2)), pop_pa, h4, Nat.zero_add]
  · have e := pop_len 1 pl dn
    have e2 := pop_pa 1 pl dn
    rcases pop_one' pl dn with z | ⟨r, z⟩
    · rw [z] at e2
      rw [h4] at e2
      have : paN [] = 0 := rfl
      omega
    · rw [z] at e e2
      rw [paN_par] at e2
      refine ⟨by omega, by omega, fun _ => rfl, ?_, ?_, fun z => by omega⟩
      · rw [z, List.tail_cons]; omega
      · rw [z, List.tail_cons]; simp only [List.length_cons] at e; omega
  · have e := pop_len 1 pl dn
    refine ⟨by omega, h2, fun _ => rfl, by rw [pop_pa]; exact h4, by omega, fun z => by omega⟩
def ptO : PSt → Bool
  | (_, _, _, pt, _, _, _) => pt
def dlO : PSt → Nat
  | (_, _, _, _, _, _, dl) => dl
def isM (b : Nat) : Bool := isD b || (decide (b = 120) || !decide (sgC b = 0))
def mkF (B : Nat → Nat) (i : Nat) : Nat → Nat
  | 0 => 0
  | m + 1 => mkF B i m + if isM (B (i + m)) = true then 1 else 0
/-- of a state within a side, m bytes and k signs behind its begin -/
def PB (m k : Nat) : PSt → Prop
  | (w, dg, op, pt, pl, dn, dl) => PA m (w, dg, op, pt, pl, dn, dl) ∧ (∀ c, c ∈ pl → c = -7 ∨ isg c) ∧ hgt dn (opN pl + if w = true then 0 else 1) ∧ (0 < dg → ∃ v r, dn = nI v :: r ∧ v < 10 ^ dg) ∧ dn.length + opN pl ≤ k
theorem tail_mem {c : Int32} {l : List Int32} (h : c ∈ l.tail) : c ∈ l := by
  cases l with
  | nil => exact h
  | cons a r => exact List.mem_cons_of_mem _ h
theorem dig_sub {b : Nat} (h : isD b = true) : ∃ v, v < 10 ∧ b = 48 + v ∧ nI b - 48 = nI v := by
  have hb : 48 ≤ b ∧ b ≤ 57 := by simp [isD] at h; omega
  refine ⟨b - 48, by omega, by omega, ?_⟩
  have e : nI b = nI (b - 48) + 48 := by
    rw [show (48 : Int32) = nI 48 from rfl, nI_add, show b - 48 + 48 = b by omega]
  rw [e, Int32.add_sub_cancel]
theorem dig_lng {b v : Nat} (h : isD b = true) : ∃ u, u < 10 * v + 10 ∧ 10 * nI v + nI b - 48 = nI u ∧ nI v * 10 + (nI b - 48) = nI u := by
  obtain ⟨z, z1, z2, z3⟩ := dig_sub h
  refine ⟨10 * v + z, by omega, ?_, ?_⟩
  · rw [show (10 : Int32) * nI v = nI (10 * v) from (Int32.ofNat_mul 10 v).symm]
    have e : nI (10 * v) + nI b = nI (10 * v + z) + 48 := by
      rw [nI_add, show (48 : Int32) = nI 48 from rfl, nI_add, show 10 * v + b = 10 * v + z + 48 by omega]
    rw [e, Int32.add_sub_cancel]
  · rw [z3, show nI v * (10 : Int32) = nI (v * 10) from (Int32.ofNat_mul v 10).symm, nI_add, Nat.mul_comm]
theorem PB_step {m k b : Nat} {s t : PSt} (h : PB m k s) (hb : ¬ b = 61) (hs : stP s b = some t) : PB (m + 1) (k + if isM b = true then 1 else 0) t ∧ ptO t = ptO s ∧ dlO t = dlO s := by
  obtain ⟨w, dg, op, pt, pl, dn, dl⟩ := s
  obtain ⟨hA, h2, h3, h4, h5⟩ := h
  have hA' := PA_step hA hs
  have kk : k ≤ k + if isM b = true then 1 else 0 := by omega
  rcases stP_cases hs with ⟨q1, q2, q3, rfl⟩ | ⟨q0, q1, q2, rfl⟩ | ⟨q0, q1, q2, rfl⟩ | ⟨q0, q1, q2, q3, rfl⟩ | ⟨q0, q1, q2, rfl⟩ | ⟨q0, q1, q2, q3, q4, rfl⟩ | ⟨q0, q1, q2, q3, q4, q5, rfl⟩
  · obtain ⟨v, r, rfl, hv⟩ := h4 q2
    obtain ⟨u, u1, u2, -⟩ := dig_lng (v := v) q1
    have e : lngth b (nI v :: r) = nI u :: r := by rw [lngth, u2]
    have p3 : v < 10 ^ 2 := Nat.lt_of_lt_of_le hv (Nat.pow_le_pow_right (by omega) (by omega))
    have p4 : u < 10 ^ (dg + 1) := by rw [Nat.pow_succ]; omega
    refine ⟨⟨hA', h2, ?_, fun _ => ⟨u, r, e, p4⟩, ?_⟩, rfl, rfl⟩
    · rw [e]
      obtain ⟨g1, g2⟩ := h3
      refine ⟨g1, ?_⟩
      rcases g2 with ⟨-, g2⟩ | ⟨g3, -⟩
      · exact Or.inl ⟨Or.inr ⟨u, by omega, by omega, rfl⟩, g2⟩
      · have : ∀ c : Int32, isg c → c.toInt < 0 := by
          intro c hc
          rcases hc with rfl | rfl | rfl | rfl | rfl <;> decide
        have := this _ g3
        rw [nI_toInt (by omega)] at this
        omega
    · rw [lng_len]; omega
  · obtain ⟨v, v1, v2, v3⟩ := dig_sub q1
    subst q0
    have im : isM b = true := by rw [isM, q1]; rfl
    rw [if_pos im]
    refine ⟨⟨by rw [if_pos im] at kk; exact hA', h2, ⟨by rw [if_neg (by decide)]; omega, Or.inl ⟨Or.inr ⟨v, by omega, by omega, v3⟩, ?_⟩⟩, fun _ => ⟨v, dn, by rw [v3], by omega⟩, by simp only [List.length_cons]; omega⟩, rfl, rfl⟩
    have : opN pl + (if (false : Bool) = true then 0 else 1) - 1 = opN pl + (if (true : Bool) = true then 0 else 1) := by simp
    rw [this]; exact h3
  · subst q0
    have im : isM b = true := by rw [isM, q2]; rfl
    rw [if_pos im]
    refine ⟨⟨hA', h2, ⟨by rw [if_neg (by decide)]; omega, Or.inl ⟨Or.inl rfl, ?_⟩⟩, fun z => by omega, by simp only [List.length_cons]; omega⟩, rfl, rfl⟩
    have : opN pl + (if (false : Bool) = true then 0 else 1) - 1 = opN pl + (if (true : Bool) = true then 0 else 1) := by simp
    rw [this]; exact h3
  · subst q0
    refine ⟨⟨hA', fun c hc => ?_, by rw [opN_par]; exact h3, h4, by rw [opN_par]; omega⟩, rfl, rfl⟩
    rcases List.mem_cons.mp hc with z | z
    · exact Or.inl z
    · exact h2 c z
  · subst q0
    have im : isM b = true := by rw [isM, decide_eq_false q2]; simp
    have e := pop_op (rkC (sgC b)) pl dn
    have n7 := isg_7 (sg_isg q2)
    rw [if_neg (by decide)] at h3
    have g := pop_hgt (rkC (sgC b)) pl dn h2 h3
    rw [if_pos im]
    refine ⟨⟨hA', fun c hc => ?_, ?_, fun z => by omega, ?_⟩, rfl, rfl⟩
    · rcases List.mem_cons.mp hc with z | z
      · exact Or.inr (by rw [z]; exact sg_isg q2)
      · exact h2 c (pop_mem _ _ _ _ z)
    · rw [opN, if_neg n7, if_pos rfl, Nat.add_zero, Nat.add_comm]; exact g
    · rw [opN, if_neg n7]; omega
  · subst q0
    have e := pop_op 1 pl dn
    have e2 := pop_pa 1 pl dn
    rw [if_neg (by decide)] at h3
    have g := pop_hgt 1 pl dn h2 h3
    rcases pop_one' pl dn with z | ⟨r, z⟩
    · rw [z, hA.2.2.2.1] at e2
      have : paN [] = 0 := rfl
      omega
    · have et : opN (popW 1 pl dn).1.tail = opN (popW 1 pl dn).1 := by rw [z, List.tail_cons, opN_par]
      refine ⟨⟨hA', fun c hc => h2 c (pop_mem _ _ _ _ (tail_mem hc)), ?_, fun z => by omega, ?_⟩, rfl, rfl⟩
      · rw [et, if_neg (by decide)]; exact g
      · rw [et]; omega
  · exact absurd q3 hb
