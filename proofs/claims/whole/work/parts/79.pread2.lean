/-! the reader over a row of bytes -/
theorem rd_PA (B : Nat → Nat) : ∀ n i m s t, PA m s → rdP B i n s = .inr t → PA (m + n) t
  | 0, i, m, s, t, h, e => by
    rw [rdP] at e
    rw [← Sum.inr.inj e]; exact h
  | n + 1, i, m, s, t, h, e => by
    rw [rdP] at e
    cases hs : stP s (B i) with
    | none => rw [hs] at e; cases e
    | some u =>
      rw [hs] at e
      have := rd_PA B n (i + 1) (m + 1) u t (PA_step h hs) e
      rw [show m + (n + 1) = m + 1 + n by omega]; exact this
theorem rd_PB (B : Nat → Nat) : ∀ n i m k s t, PB m k s → (∀ j, j < n → ¬ B (i + j) = 61) → rdP B i n s = .inr t → PB (m + n) (k + mkF B i n) t ∧ ptO t = ptO s ∧ dlO t = dlO s := by
  intro n
  induction n with
  | zero =>
    intro i m k s t h _ e
    rw [rdP] at e
    rw [← Sum.inr.inj e]
    exact ⟨h, rfl, rfl⟩
  | succ n ih =>
    intro i m k s t h hB e
    rw [rdP] at e
    cases hs : stP s (B i) with
    | none => rw [hs] at e; cases e
    | some u =>
      rw [hs] at e
      obtain ⟨g1, g2, g3⟩ := PB_step h (hB 0 (by omega)) hs
      obtain ⟨r1, r2, r3⟩ := ih (i + 1) (m + 1) _ u t g1 (fun j hj => by rw [show i + 1 + j = i + (j + 1) by omega]; exact hB (j + 1) (by omega)) e
      refine ⟨?_, r2.trans g2, r3.trans g3⟩
      have em : ∀ n, mkF B i (n + 1) = (if isM (B i) = true then 1 else 0) + mkF B (i + 1) n := by
        intro n
        induction n with
        | zero => rw [mkF, mkF, mkF]; simp
        | succ n ih2 => rw [mkF, ih2, mkF, show i + 1 + n = i + (n + 1) by omega]; omega
      rw [em, show m + (n + 1) = m + 1 + n by omega, ← Nat.add_assoc]
      exact r1
theorem stP_pt {s t : PSt} {b : Nat} (hs : stP s b = some t) : (¬ b = 61 → ptO t = ptO s) ∧ (ptO s = true → ¬ b = 61 ∧ ptO t = true) := by
  obtain ⟨w, dg, op, pt, pl, dn, dl⟩ := s
  have d61 : isD 61 = false := rfl
  have s61 : sgC 61 = 0 := rfl
  rcases stP_cases hs with ⟨q1, q2, q3, rfl⟩ | ⟨q0, q1, q2, rfl⟩ | ⟨q0, q1, q2, rfl⟩ | ⟨q0, q1, q2, q3, rfl⟩ | ⟨q0, q1, q2, rfl⟩ | ⟨q0, q1, q2, q3, q4, rfl⟩ | ⟨q0, q1, q2, q3, q4, q5, rfl⟩
  · exact ⟨fun _ => rfl, fun z => ⟨fun y => (by rw [y, d61] at q1; cases q1), z⟩⟩
  · exact ⟨fun _ => rfl, fun z => ⟨fun y => (by rw [y, d61] at q1; cases q1), z⟩⟩
  · exact ⟨fun _ => rfl, fun z => ⟨by omega, z⟩⟩
  · exact ⟨fun _ => rfl, fun z => ⟨by omega, z⟩⟩
  · exact ⟨fun _ => rfl, fun z => ⟨fun y => q2 (by rw [y]; rfl), z⟩⟩
  · exact ⟨fun _ => rfl, fun z => ⟨by omega, z⟩⟩
  · exact ⟨fun y => absurd q3 y, fun z => (by rw [show ptO (w, dg, op, pt, pl, dn, dl) = pt from rfl, q5] at z; cases z)⟩
theorem rd_pt (B : Nat → Nat) : ∀ n i s t, rdP B i n s = .inr t → ptO s = true → (∀ j, j < n → ¬ B (i + j) = 61) ∧ ptO t = true := by
  intro n
  induction n with
  | zero =>
    intro i s t e h
    rw [rdP] at e
    rw [← Sum.inr.inj e]
    exact ⟨fun j hj => by omega, h⟩
  | succ n ih =>
    intro i s t e h
    rw [rdP] at e
    cases hs : stP s (B i) with
    | none => rw [hs] at e; cases e
    | some u =>
      rw [hs] at e
      obtain ⟨g1, g2⟩ := (stP_pt hs).2 h
      obtain ⟨r1, r2⟩ := ih (i + 1) u t e g2
      refine ⟨fun j hj => ?_, r2⟩
      cases j with
      | zero => exact g1
      | succ j => rw [show i + (j + 1) = i + 1 + j by omega]; exact r1 j (by omega)
/-- where the text is parted -/
theorem rd_split (B : Nat → Nat) : ∀ n i s t, rdP B i n s = .inr t → ptO s = false → ptO t = true → ∃ a u v, a < n ∧ rdP B i a s = .inr u ∧ ptO u = false ∧ B (i + a) = 61 ∧ stP u 61 = some v ∧ rdP B (i + a + 1) (n - a - 1) v = .inr t ∧ ∀ j, j < a → ¬ B (i + j) = 61 := by
  intro n
  induction n with
  | zero =>
    intro i s t e h h2
    rw [rdP] at e
    rw [← Sum.inr.inj e, h] at h2
    cases h2
  | succ n ih =>
    intro i s t e h h2
    rw [rdP] at e
    cases hs : stP s (B i) with
    | none => rw [hs] at e; cases e
    | some u =>
      rw [hs] at e
      by_cases hb : B i = 61
      · refine ⟨0, s, u, by omega, rfl, h, hb, by rw [← hb]; exact hs, ?_, fun j hj => by omega⟩
        rw [show n + 1 - 0 - 1 = n by omega, Nat.add_zero]
        exact e
      · obtain ⟨a, u', v, a1, a2, a3, a4, a5, a6, a7⟩ := ih (i + 1) u t e (((stP_pt hs).1 hb).trans h) h2
        refine ⟨a + 1, u', v, by omega, ?_, a3, ?_, a5, ?_, fun j hj => ?_⟩
        · rw [rdP, hs]; exact a2
        · rw [show i + (a + 1) = i + 1 + a by omega]; exact a4
        · rw [show i + (a + 1) + 1 = i + 1 + a + 1 by omega, show n + 1 - (a + 1) - 1 = n - a - 1 by omega]; exact a6
        · cases j with
          | zero => exact hb
          | succ j => rw [show i + (j + 1) = i + 1 + j by omega]; exact a7 j (by omega)
theorem st_61 {w pt : Bool} {dg op dl : Nat} {pl dn : List Int32} {v : PSt} (h : stP (w, dg, op, pt, pl, dn, dl) 61 = some v) : w = false ∧ op = 0 ∧ pt = false ∧ v = (true, 0, 0, true, (popW 1 pl dn).1, (popW 1 pl dn).2, (popW 1 pl dn).2.length) := by
  have d61 : isD 61 = false := rfl
  have s61 : sgC 61 = 0 := rfl
  rcases stP_cases h with ⟨q1, q2, q3, rfl⟩ | ⟨q0, q1, q2, rfl⟩ | ⟨q0, q1, q2, rfl⟩ | ⟨q0, q1, q2, q3, rfl⟩ | ⟨q0, q1, q2, rfl⟩ | ⟨q0, q1, q2, q3, q4, rfl⟩ | ⟨q0, q1, q2, q3, q4, q5, rfl⟩
  · rw [d61] at q1; cases q1
  · rw [d61] at q1; cases q1
  · omega
  · omega
  · exact absurd s61 q2
  · omega
  · subst q4
    exact ⟨q0, rfl, q5, rfl⟩
theorem pop_all {pl dn : List Int32} (h : paN pl = 0) : (popW 1 pl dn).1 = [] := by
  rcases pop_one' pl dn with z | ⟨r, z⟩
  · exact z
  · have e := pop_pa 1 pl dn
    rw [z, paN_par, h] at e
    omega
/-- what lies below what is done -/
def adB (bs : List Int32) : PSt → PSt
  | (w, dg, op, pt, pl, dn, dl) => (w, dg, op, pt, pl, dn ++ bs, dl)
theorem stP_base (bs : List Int32) {m b : Nat} {s : PSt} (h : PA m s) (hp : ptO s = true) : stP (adB bs s) b = (stP s b).map (adB bs) := by
  obtain ⟨w, dg, op, pt, pl, dn, dl⟩ := s
  have hp' : pt = true := hp
  subst hp'
  have hl : 0 < dg → lngth b (dn ++ bs) = lngth b dn ++ bs := by
    intro z
    have := h.2.2.2.2.2 z
    cases dn with
    | nil => simp at this
    | cons c r => rfl
  have e : adB bs (w, dg, op, true, pl, dn, dl) = (w, dg, op, true, pl, dn ++ bs, dl) := rfl
  rw [e, stP, stP]
  by_cases h1 : isD b = true ∧ 0 < dg ∧ dg < 3
  · rw [if_pos h1, if_pos h1, hl h1.2.1]; rfl
  · rw [if_neg h1, if_neg h1]
    cases w with
    | true =>
      rw [if_pos rfl, if_pos rfl]
      by_cases h2 : isD b = true
      · rw [if_pos h2, if_pos h2]; rfl
      · rw [if_neg h2, if_neg h2]
        by_cases h3 : b = 120
        · rw [if_pos h3, if_pos h3]; rfl
        · rw [if_neg h3, if_neg h3]
          by_cases h4 : b = 40 ∧ op < 4
          · rw [if_pos h4, if_pos h4]; rfl
          · rw [if_neg h4, if_neg h4]; rfl
    | false =>
      have wf : ¬ (false : Bool) = true := by decide
      rw [if_neg wf, if_neg wf]
      by_cases h2 : ¬ sgC b = 0
      · rw [if_pos h2, if_pos h2, pop_base]; rfl
      · rw [if_neg h2, if_neg h2]
        by_cases h3 : b = 41 ∧ 0 < op
        · rw [if_pos h3, if_pos h3, pop_base]; rfl
        · rw [if_neg h3, if_neg h3]
          have h4 : ¬ (b = 61 ∧ op = 0 ∧ (true : Bool) = false) := fun z => (by cases z.2.2)
          rw [if_neg h4, if_neg h4]; rfl
theorem rd_base (B : Nat → Nat) (bs : List Int32) : ∀ n i m s t, PA m s → ptO s = true → rdP B i n (adB bs s) = .inr t → ∃ u, rdP B i n s = .inr u ∧ t = adB bs u := by
  intro n
  induction n with
  | zero =>
    intro i m s t h hp e
    rw [rdP] at e
    exact ⟨s, rfl, (Sum.inr.inj e).symm⟩
  | succ n ih =>
    intro i m s t h hp e
    rw [rdP, stP_base bs h hp] at e
    cases hs : stP s (B i) with
    | none => rw [hs] at e; cases e
    | some u =>
      rw [hs] at e
      obtain ⟨u', e1, e2⟩ := ih (i + 1) (m + 1) u t (PA_step h hs) ((stP_pt hs).2 hp).2 e
      exact ⟨u', by rw [rdP, hs]; exact e1, e2⟩
/-! rows and lists -/
theorem stkF_app {f : Nat → Int32} : ∀ {a b : List Int32}, stkF f (a ++ b) → stkF f b ∧ stkF (fun i => f (b.length + i)) a
  | [], b, h => ⟨h, trivial⟩
  | c :: a, b, h => by
    obtain ⟨h1, h2⟩ := h
    obtain ⟨g1, g2⟩ := stkF_app h2
    refine ⟨g1, ?_, g2⟩
    show f (b.length + a.length) = c
    rw [← h1]
    show f (b.length + a.length) = f (a ++ b).length
    rw [List.length_append, Nat.add_comm]
theorem stkF_eq {f g : Nat → Int32} : ∀ {a : List Int32}, stkF f a → stkF g a → ∀ i, i < a.length → f i = g i
  | [], _, _, i, h => by simp at h
  | c :: a, hf, hg, i, h => by
    by_cases e : i = a.length
    · subst e; rw [hf.1, hg.1]
    · exact stkF_eq hf.2 hg.2 i (by simp only [List.length_cons] at h; omega)
def cOf : List Int32 → Nat → Int32
  | [], _ => 0
  | c :: r, i => if i = r.length then c else cOf r i
theorem cOf_ok : ∀ d : List Int32, stkF (cOf d) d
  | [] => trivial
  | c :: r => ⟨if_pos rfl, (cOf_ok r).keep (fun j hj => if_neg (by omega))⟩
theorem side_congr {C C' : Nat → Int32} {n : Nat} (h : ∀ i, i < n → C' i = C i) (x : Int32) : sideVal C' n x = sideVal C n x := by
  rw [sideVal, sideVal, rpn_congr x n 0 [] (fun a _ ha => h a (by omega))]
theorem rpn_snoc (C : Nat → Int32) (x : Int32) : ∀ n i st, rpn C x i (n + 1) st = (rpn C x i n st).bind (fun s => rpn C x (i + n) 1 s) := by
  intro n
  induction n with
  | zero => intro i st; rfl
  | succ n ih =>
    intro i st
    rw [show i + (n + 1) = i + 1 + n by omega, rpn_u, rpn_u C x i n st]
    by_cases h1 : C i = -1
    · rw [if_pos h1, if_pos h1, ih]
    · rw [if_neg h1, if_neg h1]
      by_cases h2 : 0 ≤ (C i).toInt
      · rw [if_pos h2, if_pos h2, ih]
      · rw [if_neg h2, if_neg h2]
        match st with
        | [] => rfl
        | [b] => rfl
        | b :: a :: r => exact ih (i + 1) _
theorem hgt_rpn {C : Nat → Int32} (x : Int32) : ∀ (dn : List Int32) (h : Nat), stkF C dn → hgt dn h → ∃ st : List Int32, st.length = h ∧ rpn C x 0 dn.length [] = some st := by
  intro dn
  induction dn with
  | nil => intro h _ hh; exact ⟨[], hh.symm, rfl⟩
  | cons c r ih =>
    intro h hs hh
    obtain ⟨h1, h2⟩ := hh
    have hc : C (0 + r.length) = c := by rw [Nat.zero_add]; exact hs.1
    rw [List.length_cons, rpn_snoc]
    rcases h2 with ⟨o1, o2⟩ | ⟨o1, o2⟩
    · obtain ⟨st, e1, e2⟩ := ih (h - 1) hs.2 o2
      rw [e2]
      show ∃ st', _ ∧ rpn C x (0 + r.length) 1 st = some st'
      rcases o1 with o1 | ⟨v, v1, v2, v3⟩
      · refine ⟨x :: st, by simp; omega, ?_⟩
        rw [rpn_x (hc.trans o1)]; rfl
      · refine ⟨c :: st, by simp; omega, ?_⟩
        have n2 : ¬ C (0 + r.length) = -1 := by
          rw [hc, v3]
          intro z
          have := congrArg Int32.toInt z
          rw [nI_toInt (by omega), k32_m1] at this
          omega
        have n3 : 0 ≤ (C (0 + r.length)).toInt := by rw [hc, v3, nI_toInt (by omega)]; omega
        rw [rpn_n n2 n3, hc]; rfl
    · obtain ⟨st, e1, e2⟩ := ih (h + 1) hs.2 o2
      rw [e2]
      show ∃ st', _ ∧ rpn C x (0 + r.length) 1 st = some st'
      have nn : ¬ C (0 + r.length) = -1 ∧ ¬ 0 ≤ (C (0 + r.length)).toInt := by
        rw [hc]
        rcases o1 with rfl | rfl | rfl | rfl | rfl <;> decide
      match st, e1 with
      | [], e1 => simp at e1
      | [b], e1 => simp at e1; omega
      | b :: a :: s, e1 =>
        refine ⟨wkd (C (0 + r.length)) a b :: s, by simp at e1 ⊢; omega, ?_⟩
        rw [rpn_s nn.1 nn.2]; rfl
theorem side_ok {C : Nat → Int32} {dn : List Int32} (hs : stkF C dn) (hh : hgt dn 1) (h40 : dn.length ≤ 40) : sideOK C dn.length := by
  refine ⟨?_, h40, fun x => ?_⟩
  · cases dn with
    | nil => exact absurd hh (by show ¬ (1 : Nat) = 0; omega)
    | cons c r => simp
  · obtain ⟨st, e1, e2⟩ := hgt_rpn x dn 1 hs hh
    match st, e1 with
    | [v], _ => exact ⟨v, e2⟩
    | [], e1 => simp at e1
    | a :: b :: r, e1 => simp at e1
/-- a text that is no fault: its two sides -/
theorem rd_text {B : Nat → Nat} {n : Nat} {w pt : Bool} {dg op dl : Nat} {pl dn : List Int32} (h : rdP B 0 n p0 = .inr (w, dg, op, pt, pl, dn, dl)) (hw : w = false) (ho : op = 0) (hpt : pt = true) :
    ∃ (a g1 g2 : Nat) (l1 d1 l2 d2 : List Int32), a < n ∧ B a = 61 ∧ (∀ j, j < a → ¬ B j = 61) ∧ (∀ j, a < j → j < n → ¬ B j = 61) ∧
      rdP B 0 a (true, 0, 0, false, [], [], 0) = .inr (false, g1, 0, false, l1, d1, 0) ∧
      rdP B (a + 1) (n - a - 1) (true, 0, 0, true, [], [], (popW 1 l1 d1).2.length) = .inr (false, g2, 0, true, l2, d2, (popW 1 l1 d1).2.length) ∧
      (popW 1 pl dn).1 = [] ∧ (popW 1 pl dn).2 = (popW 1 l2 d2).2 ++ (popW 1 l1 d1).2 ∧ dl = (popW 1 l1 d1).2.length ∧
      hgt (popW 1 l1 d1).2 1 ∧ hgt (popW 1 l2 d2).2 1 ∧ (popW 1 l1 d1).2.length ≤ mkF B 0 a ∧ (popW 1 l2 d2).2.length ≤ mkF B (a + 1) (n - a - 1) ∧ (popW 1 l1 d1).2.length ≤ a ∧ (popW 1 l2 d2).2.length ≤ n - a - 1 := by
  subst hw ho hpt
  have PB0 : ∀ (pt : Bool) (dl : Nat), PB 0 0 (true, 0, 0, pt, [], [], dl) := fun pt dl => ⟨⟨by omega, by omega, fun _ => rfl, rfl, by simp, fun z => by omega⟩, fun c hc => absurd hc (by simp), rfl, fun z => by omega, by simp [opN]⟩
  obtain ⟨a, u, v, a1, a2, a3, a4, a5, a6, a7⟩ := rd_split B n 0 p0 _ h rfl rfl
  obtain ⟨w1, g1, op1, pt1, l1, d1, dl1⟩ := u
  obtain ⟨rfl, rfl, rfl, rfl⟩ := st_61 a5
  rw [Nat.zero_add] at a4 a6
  have b7 : ∀ j, j < a → ¬ B j = 61 := fun j hj => by have := a7 j hj; rw [Nat.zero_add] at this; exact this
  obtain ⟨p1, -, p3⟩ := rd_PB B a 0 0 0 p0 _ (PB0 false 0) a7 a2
  have p3' : dl1 = 0 := p3
  subst p3'
  obtain ⟨pA, pM, pH, -, pL⟩ := p1
  have e1 : (popW 1 l1 d1).1 = [] := pop_all pA.2.2.2.1
  have h1 := pop_hgt 1 l1 d1 pM (by rw [if_neg (by decide)] at pH; exact pH)
  have o1 := pop_op 1 l1 d1
  have q1 := pop_len 1 l1 d1
  rw [e1] at h1 o1 a6 q1
  have z0 : opN [] = 0 := rfl
  have s2 : ((true, 0, 0, true, [], (popW 1 l1 d1).2, (popW 1 l1 d1).2.length) : PSt) = adB (popW 1 l1 d1).2 (true, 0, 0, true, [], [], (popW 1 l1 d1).2.length) := rfl
  rw [s2] at a6
  obtain ⟨u, c1, c2⟩ := rd_base B _ _ _ 0 _ _ (PB0 true _).1 rfl a6
  obtain ⟨w2, g2, op2, pt2, l2, d2, dl2⟩ := u
  have c2' : ((false, dg, 0, true, pl, dn, dl) : PSt) = (w2, g2, op2, pt2, l2, d2 ++ (popW 1 l1 d1).2, dl2) := c2
  have t1 := congrArg Prod.fst c2'
  have c3 := congrArg Prod.snd c2'
  have t2 := congrArg Prod.fst c3
  have c4 := congrArg Prod.snd c3
  have t3 := congrArg Prod.fst c4
  have c5 := congrArg Prod.snd c4
  have t4 := congrArg Prod.fst c5
  have c6 := congrArg Prod.snd c5
  have t5 := congrArg Prod.fst c6
  have c7 := congrArg Prod.snd c6
  have t6 := congrArg Prod.fst c7
  have t7 := congrArg Prod.snd c7
  dsimp only at t1 t2 t3 t4 t5 t6 t7
  subst t1 t2 t3 t4 t5 t6 t7
  obtain ⟨n6, -⟩ := rd_pt B _ _ _ _ c1 rfl
  obtain ⟨r1, -, r3⟩ := rd_PB B _ _ 0 0 _ _ (PB0 true _) n6 c1
  have r3' : dl = (popW 1 l1 d1).2.length := r3
  subst r3'
  obtain ⟨rA, rM, rH, -, rL⟩ := r1
  have e2 : (popW 1 pl d2).1 = [] := pop_all rA.2.2.2.1
  have h2 := pop_hgt 1 pl d2 rM (by rw [if_neg (by decide)] at rH; exact rH)
  have o2 := pop_op 1 pl d2
  have q2 := pop_len 1 pl d2
  rw [e2] at h2 o2 q2
  have y1 := pA.2.2.2.2.1
  have y2 := rA.2.2.2.2.1
  have z1 : ([] : List Int32).length = 0 := rfl
  refine ⟨a, g1, dg, l1, d1, pl, d2, a1, a4, b7, fun j hj hn => ?_, a2, c1, ?_, ?_, rfl, h1, h2, ?_, ?_, ?_, ?_⟩
  · have := n6 (j - (a + 1)) (by omega)
    rw [show a + 1 + (j - (a + 1)) = j by omega] at this
    exact this
  · rw [pop_base]; exact e2
  · rw [pop_base]
  · omega
  · omega
  · omega
  · omega
