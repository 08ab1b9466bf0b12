/-! reading a text: the state of the reader, in the codes of the reference -/
def isD (b : Nat) : Bool := decide (48 ≤ b) && decide (b ≤ 57)
def sgC (b : Nat) : Int32 := if b = 43 then -2 else if b = 45 then -3 else if b = 42 then -4 else if b = 47 then -5 else if b = 37 then -6 else 0
def rkC (c : Int32) : Nat := if c = -7 then 0 else if c = -2 then 1 else if c = -3 then 1 else 2
/-- wants an operand, digits, open, parted, the pile (its top first), what is done (the last first), the left side's length -/
abbrev PSt : Type := Bool × Nat × Nat × Bool × List Int32 × List Int32 × Nat
def popW (r : Nat) : List Int32 → List Int32 → List Int32 × List Int32
  | [], dn => ([], dn)
  | c :: pl, dn => if c = -7 ∨ rkC c < r then (c :: pl, dn) else popW r pl (c :: dn)
def p0 : PSt := (true, 0, 0, false, [], [], 0)
def lngth (b : Nat) : List Int32 → List Int32
  | [] => []
  | c :: r => (10 * c + nI b - 48) :: r
def stP (s : PSt) (b : Nat) : Option PSt := match s with
  | (w, dg, op, pt, pl, dn, dl) =>
    if isD b = true ∧ 0 < dg ∧ dg < 3 then some (w, dg + 1, op, pt, pl, lngth b dn, dl)
    else if w = true then
      (if isD b = true then some (false, 1, op, pt, pl, (nI b - 48) :: dn, dl)
       else if b = 120 then some (false, 0, op, pt, pl, -1 :: dn, dl)
       else if b = 40 ∧ op < 4 then some (w, dg, op + 1, pt, -7 :: pl, dn, dl)
       else none)
    else if ¬ sgC b = 0 then some (true, 0, op, pt, sgC b :: (popW (rkC (sgC b)) pl dn).1, (popW (rkC (sgC b)) pl dn).2, dl)
    else if b = 41 ∧ 0 < op then some (w, 0, op - 1, pt, (popW 1 pl dn).1.tail, (popW 1 pl dn).2, dl)
    else if b = 61 ∧ op = 0 ∧ pt = false then some (true, 0, op, true, (popW 1 pl dn).1, (popW 1 pl dn).2, (popW 1 pl dn).2.length)
    else none
/-- the reader over n bytes from i on: where it stops, or its state -/
def rdP (B : Nat → Nat) : Nat → Nat → PSt → Nat ⊕ PSt
  | _, 0, s => .inr s
  | i, n + 1, s => (match stP s (B i) with
    | none => .inl i
    | some s' => rdP B (i + 1) n s')
/-- of a pile: its signs -/
def opN : List Int32 → Nat
  | [] => 0
  | c :: r => (if c = -7 then 0 else 1) + opN r
def paN : List Int32 → Nat
  | [] => 0
  | c :: r => (if c = -7 then 1 else 0) + paN r
theorem pop_len (r : Nat) : ∀ pl dn, (popW r pl dn).1.length + (popW r pl dn).2.length = pl.length + dn.length
  | [], dn => rfl
  | c :: pl, dn => by
    rw [popW]
    by_cases h : c = -7 ∨ rkC c < r
    · rw [if_pos h]
    · rw [if_neg h, pop_len r pl (c :: dn)]
      simp only [List.length_cons]; omega
theorem pop_pa (r : Nat) : ∀ pl dn, paN (popW r pl dn).1 = paN pl
  | [], dn => rfl
  | c :: pl, dn => by
    rw [popW]
    by_cases h : c = -7 ∨ rkC c < r
    · rw [if_pos h]
    · rw [if_neg h, pop_pa r pl (c :: dn), paN, if_neg (fun z => h (Or.inl z)), Nat.zero_add]
theorem pop_one : ∀ pl dn, (∀ c, c ∈ pl → c = -7 ∨ 1 ≤ rkC c) → (popW 1 pl dn).1 = [] ∨ ∃ r, (popW 1 pl dn).1 = -7 :: r
  | [], dn, _ => Or.inl rfl
  | c :: pl, dn, hc => by
    rw [popW]
    by_cases h : c = -7 ∨ rkC c < 1
    · rw [if_pos h]
      rcases h with h | h
      · exact Or.inr ⟨pl, by rw [h]⟩
      · rcases hc c List.mem_cons_self with z | z
        · exact Or.inr ⟨pl, by rw [z]⟩
        · omega
    · rw [if_neg h]
      exact pop_one pl (c :: dn) (fun x hx => hc x (List.mem_cons_of_mem _ hx))
