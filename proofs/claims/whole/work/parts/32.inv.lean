/-! The relation between the class's rows and the reference's, in one heap. -/
/-- a number between two bounds -/
def rng (a b : Nat) (x : Int32) : Prop := ∃ n : Nat, a ≤ n ∧ n ≤ b ∧ x = nI n
/-- -1, or a number below a bound -/
def opt (n : Nat) (x : Int32) : Prop := x = -1 ∨ ∃ q : Nat, q < n ∧ x = nI q
/-- a prisoner: skill, chalk, price, cell, may, number, answer, work, out -/
def manOK (f : Nat → Int32) : Prop := rng 1 9 (f 0) ∧ rng 0 999 (f 1) ∧ rng 0 99 (f 2) ∧ rng 0 19 (f 3) ∧ rng 0 1 (f 4) ∧ rng 0 99 (f 5) ∧ opt 100 (f 6) ∧ (rng 0 100 (f 7) ∧ (f 6 = -1 → rng 0 60 (f 7))) ∧ rng 0 1 (f 8)
/-- a code of the reference and a step of the class -/
def stepRel (s c : Int32) : Prop := (rng 0 999 c ∧ s = c) ∨ (c = -1 ∧ s = -120) ∨ (c = -2 ∧ s = -43) ∨ (c = -3 ∧ s = -45) ∨ (c = -4 ∧ s = -42) ∨ (c = -5 ∧ s = -47) ∨ (c = -6 ∧ s = -37)
def wkd (c a b : Int32) : Int32 := if c = -2 then a + b else if c = -3 then a - b else if c = -4 then a * b else if c = -5 then (if b = 0 then 0 else a / b) else (if b = 0 then 0 else jrem a b)
/-- a row of codes, worked on a pile: none if a sign finds too little on it -/
def rpn (C : Nat → Int32) (x : Int32) : Nat → Nat → List Int32 → Option (List Int32)
  | _, 0, st => some st
  | i, n + 1, st => if C i = -1 then rpn C x (i + 1) n (x :: st) else if 0 ≤ (C i).toInt then rpn C x (i + 1) n (C i :: st) else (match st with
    | b :: a :: r => rpn C x (i + 1) n (wkd (C i) a b :: r)
    | _ => none)
/-- a side: n codes that leave one number -/
def sideVal (C : Nat → Int32) (n : Nat) (x : Int32) : Int32 := ((rpn C x 0 n []).getD []).headD 0
def sideOK (C : Nat → Int32) (n : Nat) : Prop := 1 ≤ n ∧ n ≤ 40 ∧ ∀ x : Int32, ∃ v : Int32, rpn C x 0 n [] = some [v]
/-- a text: of the class in group e + 1, of the reference from C on (signs, lengths, codes) -/
def textOK (I : IFn) (e : Nat) (C : Nat → Int32) : Prop := ∃ n1 n2 : Nat, n1 + n2 ≤ 40 ∧ I (e + 1) 0 4 = C 0 ∧ rng 2 39 (C 0) ∧ C 1 = nI n1 ∧ C 2 = nI n2 ∧ I (e + 1) 3 1 = nI n1 ∧ I (e + 1) 6 1 = nI n2 ∧
  (∀ i, i < n1 → stepRel (I (e + 1) 4 i) (C (3 + i))) ∧ (∀ i, i < n2 → stepRel (I (e + 1) 7 i) (C (3 + n1 + i))) ∧ sideOK (fun i => C (3 + i)) n1 ∧ sideOK (fun i => C (3 + n1 + i)) n2 ∧
  ∀ x : Nat, x < 100 → I (e + 1) 1 x = sideVal (fun i => C (3 + i)) n1 (nI x) ∧ I (e + 1) 2 x = sideVal (fun i => C (3 + n1 + i)) n2 (nI x)
def sumOK (I : IFn) (t : Option (Nat × Nat)) (k : Nat) (kind m : Int32) (C : Nat → Int32) : Prop := kind = C 0 ∧ rng 0 6 (C 0) ∧ m = C 1 ∧ rng 1 99 (C 1) ∧ ∃ e : Nat, e < k ∧ t = some (e + 1, 0) ∧ textOK I e (fun a => C (2 + a))
/-- of a world of the class at offset w and a row s of the reference: how many sums, THE SUM, MINUTE, RICH, z -/
def WHd (I : IFn) (w : Nat) (S : Nat → Int32) (n : Nat) : Prop := S 0 = nI n ∧ I 0 (w + 1) 3 = nI n ∧ (I 0 (w + 5) 9 = S 1 ∧ opt n (S 1)) ∧ (I 0 (w + 5) 11 = S 2 ∧ rng 0 480 (S 2)) ∧ (I 0 (w + 5) 10 = S 3 ∧ rng 0 999 (S 3)) ∧ I 0 w 3 = S 4
/-- a prisoner, and the spot of his number -/
def WMan (I : IFn) (w : Nat) (S : Nat → Int32) (n p : Nat) : Prop := (∀ a, a < 9 → I 0 (w + 6 + a) p = S (5 + 9 * p + a)) ∧ manOK (fun a => S (5 + 9 * p + a)) ∧ I 0 (w + 15) p = S (95 + p) ∧ opt n (S (95 + p))
def WSum (I : IFn) (w : Nat) (S : Nat → Int32) (t : TFn) (k q : Nat) : Prop := sumOK I (t q) k (I 0 (w + 3) q) (I 0 (w + 4) q) (fun a => S (105 + 45 * q + a))
/-- a world's places for texts hold none or a text -/
def TOK (t : TFn) : Prop := ∀ q, q < 8 → t q = none ∨ ∃ e : Nat, t q = some (e + 1, 0)
def WRel (I : IFn) (w : Nat) (S : Nat → Int32) (t : TFn) (k : Nat) : Prop := ∃ n : Nat, n ≤ 8 ∧ WHd I w S n ∧ (∀ p, p < 10 → WMan I w S n p) ∧ (∀ q, q < n → WSum I w S t k q) ∧ TOK t
def SheetOK (I : IFn) (s : Nat) : Prop := ∃ b n : Nat, (b = 0 ∨ b = 8 ∨ b = 16 ∨ b = 32) ∧ n ≤ 40 ∧ I 0 (48 + 2 * s) 1 = nI b ∧ I 0 67 s = nI b ∧ I 0 (48 + 2 * s) 2 = nI n ∧ I 0 68 s = nI n ∧ ∀ i, i < 40 → I 0 (49 + 2 * s) i = I 0 69 (40 * s + i)
def TapeOK (I : IFn) : Prop := ∃ n : Nat, n ≤ 40 ∧ I 0 1 1 = nI n ∧ I 0 56 8 = nI n ∧ ∀ i, i < n → I 0 2 i = I 0 61 i ∧ rng 0 255 (I 0 2 i)
def ToldOK (I : IFn) : Prop := ∀ f, f < 7 → I 0 47 f = I 0 60 f
def KeptOK (I : IFn) (t2 : TFn) (k : Nat) : Prop := (I 0 0 7 = 0 ∧ I 0 56 4 = 0) ∨ (I 0 0 7 = 1 ∧ I 0 56 4 = 1 ∧ WRel I 19 (I 0 58) t2 k)
def Inv (I : IFn) (t1 t2 : TFn) (k : Nat) : Prop := ToldOK I ∧ TapeOK I ∧ (∀ s, s < 4 → SheetOK I s) ∧ WRel I 3 (I 0 57) t1 k ∧ KeptOK I t2 k
