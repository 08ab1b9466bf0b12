/-! An abstract machine over numbers and places (group, offset): its steps are decided by the class's own bytecode. Group 0 is what the two constructors make, group k + 1 the k-th text. -/
abbrev AV : Type := Int32 ⊕ (Int64 ⊕ Option (Nat × Nat))
abbrev vi (x : Int32) : AV := .inl x
abbrev vl (x : Int64) : AV := .inr (.inl x)
abbrev vr (g j : Nat) : AV := .inr (.inr (some (g, j)))
abbrev vn : AV := .inr (.inr none)
/-- ints, references, the next place, the script's length and ints -/
abbrev AH : Type := (Nat → Nat → Nat → Int32) × (Nat → Nat → Nat → Option (Nat × Nat)) × (Nat × Nat) × Nat × (Nat → Int32)
/-- depth, class, method, pc, locals, stack, heap -/
abbrev AX : Type := Nat × Nat × Nat × Nat × List (Option AV) × List AV × AH
abbrev AO : Type := Option AV × AH
abbrev AA : Type := Option AO ⊕ (AX ⊕ ((Bool × (AX ⊕ AO) × Option AX) ⊕ (AX × (AO → AX))))
abbrev a_fail : AA := .inl none
abbrev a_ret (v : Option AV) (h : AH) : AA := .inl (some (v, h))
abbrev a_go (x : AX) : AA := .inr (.inl x)
abbrev a_br (c : Bool) (x : AX) (y : Option AX) : AA := .inr (.inr (.inl (c, .inl x, y)))
abbrev a_brr (c : Bool) (o : AO) : AA := .inr (.inr (.inl (c, .inr o, none)))
abbrev a_call (x : AX) (k : AO → AX) : AA := .inr (.inr (.inr (x, k)))
def rI (h : AH) (g j i : Nat) : Int32 := h.1 g j i
def rR (h : AH) (g j i : Nat) : Option (Nat × Nat) := h.2.1 g j i
def wI (h : AH) (g j i : Nat) (v : Int32) : AH := (fun g' j' i' => if g' = g ∧ j' = j ∧ i' = i then v else h.1 g' j' i', h.2)
def wR (h : AH) (g j i : Nat) (v : Option (Nat × Nat)) : AH := (h.1, fun g' j' i' => if g' = g ∧ j' = j ∧ i' = i then v else h.2.1 g' j' i', h.2.2)
/-- a whole row of ints -/
def wA (h : AH) (g j : Nat) (f : Nat → Int32) : AH := (fun g' j' i' => if g' = g ∧ j' = j then f i' else h.1 g' j' i', h.2)
abbrev alo (h : AH) : Nat × Nat := h.2.2.1
/-- what stands at a place: (0, class), (1, length) of ints, (2, length) of texts, (3, length) of sheets -/
def shp0 : List (Nat × Nat) := [(0,7), (0,4), (1,40),
  (0,6), (0,3), (2,8), (1,8), (1,8), (0,0), (1,10), (1,10), (1,10), (1,10), (1,10), (1,10), (1,10), (1,10), (1,10), (1,10),
  (0,6), (0,3), (2,8), (1,8), (1,8), (0,0), (1,10), (1,10), (1,10), (1,10), (1,10), (1,10), (1,10), (1,10), (1,10), (1,10),
  (0,0), (1,10), (1,10), (1,10), (1,10), (1,10), (1,10), (1,10), (1,10), (1,10),
  (3,4), (1,8), (1,7), (0,1), (1,40), (0,1), (1,40), (0,1), (1,40), (0,1), (1,40),
  (0,8), (1,465), (1,465), (1,465), (1,7), (1,40), (1,40), (1,40), (1,40), (1,10), (1,8), (1,4), (1,4), (1,160), (1,40)]
def shpT : List (Nat × Nat) := [(0,5), (1,100), (1,100), (0,2), (1,40), (1,40), (0,2), (1,40), (1,40)]
def lkp {α : Type} (d : α) : List α → Nat → α
  | [], _ => d
  | a :: _, 0 => a
  | _ :: l, n + 1 => lkp d l n
def shp (g j : Nat) : Nat × Nat := match g with
  | 0 => lkp (9, 0) shp0 j
  | _ + 1 => lkp (9, 0) shpT j
def nxt (a : Nat × Nat) : Nat × Nat := match a.1 with
  | 0 => bif Nat.beq a.2 70 then (1, 0) else (0, a.2 + 1)
  | g + 1 => bif Nat.beq a.2 8 then (g + 2, 0) else (g + 1, a.2 + 1)
/-- a new cell at the next place: all 0 and null -/
def newc (h : AH) : AH := (fun g' j' i' => if g' = h.2.2.1.1 ∧ j' = h.2.2.1.2 then 0 else h.1 g' j' i', fun g' j' i' => if g' = h.2.2.1.1 ∧ j' = h.2.2.1.2 then none else h.2.1 g' j' i', nxt h.2.2.1, h.2.2.2)
def alk {α : Type} : List (Nat × α) → Nat → Option α
  | [], _ => none
  | q :: l, k => bif Nat.beq q.1 k then some q.2 else alk l k
def md (c i : Nat) : Option MD := lkp none ((lkp [] sd_mt c).map some) i
abbrev MD.pg (M : MD) : List (Nat × Instr × Nat) := M.2.2.2.2
def fkd (ci k : Nat) : Nat := lkp 9 (lkp [] sd_fk ci) k
def ffd (ci k : Nat) : Bool := lkp true (lkp [] sd_ff ci) k
def avC : AV → Nat
  | .inr (.inl _) => 2
  | _ => 1
/-- the locals at a method's entry -/
def eSl : List AV → List (Option AV)
  | [] => []
  | .inr (.inl y) :: l => some (.inr (.inl y)) :: none :: eSl l
  | v :: l => some v :: eSl l
def eL (n : Nat) (vs : List AV) : List (Option AV) := eSl vs ++ List.replicate (n - (eSl vs).length) none
def inb (x : Int32) (n : Nat) : Bool := !(decide (x < 0) || decide (n ≤ x.toNatClampNeg))
/-- the static rows and the script: length and ints -/
def stR (h : AH) (k : Nat) : Option (Nat × (Nat → Int32)) := match k with
  | 0 => some (7, fun i => lkp 0 [-1, 0, 0, 2, 0, 1, 0] i)
  | 1 => some (5, fun i => lkp 0 [1, 0, 0, 0, 0] i)
  | 2 => some (5, fun i => lkp 0 [9, 999, 99, 19, 1] i)
  | 3 => some (h.2.2.2.1, h.2.2.2.2)
  | _ => none
/-- a row of ints at a place, with its length -/
def rowOf (h : AH) (a : Nat × Nat) : Option (Nat × (Nat → Int32)) := match shp a.1 a.2 with
  | (1, n) => some (n, fun i => h.1 a.1 a.2 i)
  | (9, _) => (match a.1 with
    | 0 => bif Nat.ble 1000 a.2 then stR h (a.2 - 1000) else none
    | _ + 1 => none)
  | _ => none
def lenOf (h : AH) (a : Nat × Nat) : Option Nat := match shp a.1 a.2 with
  | (2, n) => some n
  | (3, n) => some n
  | _ => (rowOf h a).map (fun r => r.1)
def noL : List (Option AV) → Bool
  | [] => true
  | some (.inr (.inl _)) :: _ => false
  | _ :: l => noL l
def sto (ls : List (Option AV)) (k : Nat) (v : AV) (f : List (Option AV) → AA) : AA := bif noL ls && Nat.blt k ls.length then f (ls.set k (some v)) else a_fail
def catS : List AV → Nat
  | [] => 0
  | v :: l => avC v + catS l
def un1 (st : List AV) (f : Int32 → AV) (k : List AV → AA) : AA := match st with
  | .inl a :: r => k (f a :: r)
  | _ => a_fail
def bi2 (st : List AV) (f : Int32 → Int32 → Int32) (k : List AV → AA) : AA := match st with
  | .inl b :: .inl a :: r => k (.inl (f a b) :: r)
  | _ => a_fail
def jrem (a b : Int32) : Int32 := a - a / b * b
def jushr (a b : Int32) : Int32 := (a.toUInt32 >>> (b.toUInt32 &&& Int32.toUInt32 31)).toInt32
def act1 (M : MD) (d c i pc n : Nat) (ls : List (Option AV)) (st : List AV) (h : AH) (ins : Instr) : AA := match ins with
  | .iconst k => a_go (d, c, i, pc + n, ls, .inl (Int32.ofInt k) :: st, h)
  | .bipush k => a_go (d, c, i, pc + n, ls, .inl (Int8.ofInt k).toInt32 :: st, h)
  | .sipush k => a_go (d, c, i, pc + n, ls, .inl (Int16.ofInt k).toInt32 :: st, h)
  | .ldc k => (match alk (lkp [] sd_kt c) k with
    | some v => a_go (d, c, i, pc + n, ls, .inl v :: st, h)
    | none => a_fail)
  | .ldc_w k => (match alk (lkp [] sd_kt c) k with
    | some v => a_go (d, c, i, pc + n, ls, .inl v :: st, h)
    | none => a_fail)
  | .lconst k => a_go (d, c, i, pc + n, ls, .inr (.inl (Int64.ofNat (k : Nat))) :: st, h)
  | .ldc2_w k => (match alk (lkp [] sd_lt c) k with
    | some v => a_go (d, c, i, pc + n, ls, .inr (.inl v) :: st, h)
    | none => a_fail)
  | .iload_n k => (match lkp none ls (k : Nat) with
    | some (.inl x) => a_go (d, c, i, pc + n, ls, .inl x :: st, h)
    | _ => a_fail)
  | .iload k => (match lkp none ls k with
    | some (.inl x) => a_go (d, c, i, pc + n, ls, .inl x :: st, h)
    | _ => a_fail)
  | .aload_n k => (match lkp none ls (k : Nat) with
    | some (.inr (.inr (some a))) => a_go (d, c, i, pc + n, ls, .inr (.inr (some a)) :: st, h)
    | _ => a_fail)
  | .aload k => (match lkp none ls k with
    | some (.inr (.inr (some a))) => a_go (d, c, i, pc + n, ls, .inr (.inr (some a)) :: st, h)
    | _ => a_fail)
  | .lload_n k => (match lkp none ls (k : Nat) with
    | some (.inr (.inl x)) => a_go (d, c, i, pc + n, ls, .inr (.inl x) :: st, h)
    | _ => a_fail)
  | .lload k => (match lkp none ls k with
    | some (.inr (.inl x)) => a_go (d, c, i, pc + n, ls, .inr (.inl x) :: st, h)
    | _ => a_fail)
  | .istore_n k => (match st with
    | .inl x :: r => sto ls (k : Nat) (.inl x) (fun l => a_go (d, c, i, pc + n, l, r, h))
    | _ => a_fail)
  | .istore k => (match st with
    | .inl x :: r => sto ls k (.inl x) (fun l => a_go (d, c, i, pc + n, l, r, h))
    | _ => a_fail)
  | .astore_n k => (match st with
    | .inr (.inr (some a)) :: r => sto ls (k : Nat) (.inr (.inr (some a))) (fun l => a_go (d, c, i, pc + n, l, r, h))
    | _ => a_fail)
  | .astore k => (match st with
    | .inr (.inr (some a)) :: r => sto ls k (.inr (.inr (some a))) (fun l => a_go (d, c, i, pc + n, l, r, h))
    | _ => a_fail)
  | .iinc k v => (match lkp none ls k with
    | some (.inl x) => sto ls k (.inl (x + Int32.ofInt v)) (fun l => a_go (d, c, i, pc + n, l, st, h))
    | _ => a_fail)
  | .iadd => bi2 st (fun a b => a + b) (fun s => a_go (d, c, i, pc + n, ls, s, h))
  | .isub => bi2 st (fun a b => a - b) (fun s => a_go (d, c, i, pc + n, ls, s, h))
  | .imul => bi2 st (fun a b => a * b) (fun s => a_go (d, c, i, pc + n, ls, s, h))
  | .iand => bi2 st (fun a b => a &&& b) (fun s => a_go (d, c, i, pc + n, ls, s, h))
  | .ior => bi2 st (fun a b => a ||| b) (fun s => a_go (d, c, i, pc + n, ls, s, h))
  | .ixor => bi2 st (fun a b => a ^^^ b) (fun s => a_go (d, c, i, pc + n, ls, s, h))
  | .ishl => bi2 st (fun a b => a <<< (b &&& 31)) (fun s => a_go (d, c, i, pc + n, ls, s, h))
  | .ishr => bi2 st (fun a b => a >>> (b &&& 31)) (fun s => a_go (d, c, i, pc + n, ls, s, h))
  | .iushr => bi2 st jushr (fun s => a_go (d, c, i, pc + n, ls, s, h))
  | .idiv => (match st with
    | .inl b :: .inl a :: r => a_br (!decide (b = 0)) (d, c, i, pc + n, ls, .inl (a / b) :: r, h) none
    | _ => a_fail)
  | .irem => (match st with
    | .inl b :: .inl a :: r => a_br (!decide (b = 0)) (d, c, i, pc + n, ls, .inl (jrem a b) :: r, h) none
    | _ => a_fail)
  | .ineg => un1 st (fun a => .inl (-a)) (fun s => a_go (d, c, i, pc + n, ls, s, h))
  | .i2l => un1 st (fun a => .inr (.inl a.toInt64)) (fun s => a_go (d, c, i, pc + n, ls, s, h))
  | .i2b => un1 st (fun a => .inl a.toInt8.toInt32) (fun s => a_go (d, c, i, pc + n, ls, s, h))
  | .i2s => un1 st (fun a => .inl a.toInt16.toInt32) (fun s => a_go (d, c, i, pc + n, ls, s, h))
  | .lcmp => (match st with
    | .inr (.inl b) :: .inr (.inl a) :: r => a_go (d, c, i, pc + n, ls, .inl (lg_cmp a b) :: r, h)
    | _ => a_fail)
  | .dup => (match st with
    | .inl a :: r => a_go (d, c, i, pc + n, ls, .inl a :: .inl a :: r, h)
    | .inr (.inr a) :: r => a_go (d, c, i, pc + n, ls, .inr (.inr a) :: .inr (.inr a) :: r, h)
    | _ => a_fail)
  | .dup2 => (match st with
    | .inl b :: .inr (.inr a) :: r => a_go (d, c, i, pc + n, ls, .inl b :: .inr (.inr a) :: .inl b :: .inr (.inr a) :: r, h)
    | _ => a_fail)
  | .goto off => a_go (d, c, i, tgt pc off, ls, st, h)
  | .ifCond q off => (match st with
    | .inl a :: r => (match q with
      | .eq => a_br (decide (a = 0)) (d, c, i, tgt pc off, ls, r, h) (some (d, c, i, pc + n, ls, r, h))
      | .ne => a_br (decide (a = 0)) (d, c, i, pc + n, ls, r, h) (some (d, c, i, tgt pc off, ls, r, h))
      | .lt => a_br (decide (a < 0)) (d, c, i, tgt pc off, ls, r, h) (some (d, c, i, pc + n, ls, r, h))
      | .ge => a_br (decide (a < 0)) (d, c, i, pc + n, ls, r, h) (some (d, c, i, tgt pc off, ls, r, h))
      | .gt => a_br (decide (0 < a)) (d, c, i, tgt pc off, ls, r, h) (some (d, c, i, pc + n, ls, r, h))
      | .le => a_br (decide (0 < a)) (d, c, i, pc + n, ls, r, h) (some (d, c, i, tgt pc off, ls, r, h)))
    | _ => a_fail)
  | .if_icmp q off => (match st with
    | .inl b :: .inl a :: r => (match q with
      | .eq => a_br (decide (a = b)) (d, c, i, tgt pc off, ls, r, h) (some (d, c, i, pc + n, ls, r, h))
      | .ne => a_br (decide (a = b)) (d, c, i, pc + n, ls, r, h) (some (d, c, i, tgt pc off, ls, r, h))
      | .lt => a_br (decide (a < b)) (d, c, i, tgt pc off, ls, r, h) (some (d, c, i, pc + n, ls, r, h))
      | .ge => a_br (decide (a < b)) (d, c, i, pc + n, ls, r, h) (some (d, c, i, tgt pc off, ls, r, h))
      | .gt => a_br (decide (b < a)) (d, c, i, tgt pc off, ls, r, h) (some (d, c, i, pc + n, ls, r, h))
      | .le => a_br (decide (b < a)) (d, c, i, pc + n, ls, r, h) (some (d, c, i, tgt pc off, ls, r, h)))
    | _ => a_fail)
  | .ifnull off => (match st with
    | .inr (.inr (some _)) :: r => a_go (d, c, i, pc + n, ls, r, h)
    | .inr (.inr none) :: r => a_go (d, c, i, tgt pc off, ls, r, h)
    | _ => a_fail)
  | .tableswitch dflt lo hi offs => (match st with
    | .inl a :: r => a_br (decide (a.toInt < lo) || decide (hi < a.toInt)) (d, c, i, tgt pc dflt, ls, r, h) (some (d, c, i, tgt pc (lkp 0 offs.toList (a.toInt - lo).toNat), ls, r, h))
    | _ => a_fail)
  | .getfield k => (match st with
    | .inr (.inr (some a)) :: r => (match alk (lkp [] sd_ft c) k with
      | some (ci, f, _) => bif Nat.beq (shp a.1 a.2).1 0 && Nat.beq (shp a.1 a.2).2 ci then
          a_go (d, c, i, pc + n, ls, (bif Nat.beq (fkd ci f) 2 then .inr (.inr (rR h a.1 a.2 f)) else .inl (rI h a.1 a.2 f)) :: r, h) else a_fail
      | none => a_fail)
    | _ => a_fail)
  | .putfield k => (match alk (lkp [] sd_ft c) k with
      | some (ci, f, _) => (match st with
        | .inl x :: .inr (.inr (some a)) :: r => bif Nat.beq (shp a.1 a.2).1 0 && Nat.beq (shp a.1 a.2).2 ci && (!(ffd ci f) || (Nat.beq c ci && Nat.beq i 0)) then
            (bif Nat.beq (fkd ci f) 0 then a_go (d, c, i, pc + n, ls, r, wI h a.1 a.2 f x)
             else bif Nat.beq (fkd ci f) 1 then a_br (decide (x = 0) || decide (x = 1)) (d, c, i, pc + n, ls, r, wI h a.1 a.2 f x) none else a_fail) else a_fail
        | .inr (.inr (some b)) :: .inr (.inr (some a)) :: r => bif Nat.beq (shp a.1 a.2).1 0 && Nat.beq (shp a.1 a.2).2 ci && (!(ffd ci f) || (Nat.beq c ci && Nat.beq i 0)) && Nat.beq (fkd ci f) 2 && !(Nat.beq (shp b.1 b.2).1 9) then
            a_go (d, c, i, pc + n, ls, r, wR h a.1 a.2 f (some b)) else a_fail
        | _ => a_fail)
      | none => a_fail)
  | .getstatic k => (match alk (lkp [] sd_st c) k with
    | some j => a_go (d, c, i, pc + n, ls, .inr (.inr (some (0, 1000 + j))) :: st, h)
    | none => a_fail)
  | .arraylength => (match st with
    | .inr (.inr (some a)) :: r => (match lenOf h a with
      | some m => a_go (d, c, i, pc + n, ls, .inl (Int32.ofNat m) :: r, h)
      | none => a_fail)
    | _ => a_fail)
  | .iaload => (match st with
    | .inl x :: .inr (.inr (some a)) :: r => (match rowOf h a with
      | some (m, f) => a_br (inb x m) (d, c, i, pc + n, ls, .inl (f x.toNatClampNeg) :: r, h) none
      | none => a_fail)
    | _ => a_fail)
  | .iastore => (match st with
    | .inl v :: .inl x :: .inr (.inr (some a)) :: r => bif Nat.beq (shp a.1 a.2).1 1 then a_br (inb x (shp a.1 a.2).2) (d, c, i, pc + n, ls, r, wI h a.1 a.2 x.toNatClampNeg v) none else a_fail
    | _ => a_fail)
  | .aaload => (match st with
    | .inl x :: .inr (.inr (some a)) :: r => bif Nat.beq (shp a.1 a.2).1 2 || Nat.beq (shp a.1 a.2).1 3 then a_br (inb x (shp a.1 a.2).2) (d, c, i, pc + n, ls, .inr (.inr (rR h a.1 a.2 x.toNatClampNeg)) :: r, h) none else a_fail
    | _ => a_fail)
  | .aastore => (match st with
    | .inr (.inr none) :: .inl x :: .inr (.inr (some a)) :: r => bif Nat.beq (shp a.1 a.2).1 2 || Nat.beq (shp a.1 a.2).1 3 then a_br (inb x (shp a.1 a.2).2) (d, c, i, pc + n, ls, r, wR h a.1 a.2 x.toNatClampNeg none) none else a_fail
    | .inr (.inr (some b)) :: .inl x :: .inr (.inr (some a)) :: r => bif Nat.beq (shp b.1 b.2).1 0 && ((Nat.beq (shp a.1 a.2).1 2 && Nat.beq (shp b.1 b.2).2 5) || (Nat.beq (shp a.1 a.2).1 3 && Nat.beq (shp b.1 b.2).2 1)) then a_br (inb x (shp a.1 a.2).2) (d, c, i, pc + n, ls, r, wR h a.1 a.2 x.toNatClampNeg (some b)) none else a_fail
    | _ => a_fail)
  | .newarray t => (match t, st with
    | .int, .inl x :: r => bif Nat.beq (shp (alo h).1 (alo h).2).1 1 && decide (x = Int32.ofNat (shp (alo h).1 (alo h).2).2) then a_go (d, c, i, pc + n, ls, .inr (.inr (some (alo h))) :: r, newc h) else a_fail
    | _, _ => a_fail)
  | .anewarray k => (match st with
    | .inl x :: r => (match alk (lkp [] sd_nt c) k with
      | some ci => bif ((Nat.beq (shp (alo h).1 (alo h).2).1 2 && Nat.beq ci 5) || (Nat.beq (shp (alo h).1 (alo h).2).1 3 && Nat.beq ci 1)) && decide (x = Int32.ofNat (shp (alo h).1 (alo h).2).2) then a_go (d, c, i, pc + n, ls, .inr (.inr (some (alo h))) :: r, newc h) else a_fail
      | none => a_fail)
    | _ => a_fail)
  | .new k => (match alk (lkp [] sd_nt c) k with
      | some ci => bif Nat.beq (shp (alo h).1 (alo h).2).1 0 && Nat.beq (shp (alo h).1 (alo h).2).2 ci then a_go (d, c, i, pc + n, ls, .inr (.inr (some (alo h))) :: st, newc h) else a_fail
      | none => a_fail)
  | .invokestatic k => (match alk (lkp [] sd_ct c) k, d with
    | some (t, c', i', m), d' + 1 => (match md c' i' with
      | some M' => bif (Nat.beq t 0 || Nat.beq t 3) && Nat.ble m st.length && Nat.ble (catS (st.drop m)) 8 && Nat.ble (eSl (st.take m).reverse).length M'.2.2.1 then
          a_call (d', c', i', 0, eL M'.2.2.1 (st.take m).reverse, [], h) (fun o => (d' + 1, c, i, pc + n, ls, o.1.toList ++ st.drop m, o.2)) else
          bif Nat.beq t 7 then (match st with
            | .inl m :: .inl dp :: .inr (.inr (some b)) :: .inl sp :: .inr (.inr (some a)) :: r => bif Nat.beq (shp a.1 a.2).1 1 && Nat.beq (shp b.1 b.2).1 1 && Nat.ble (catS r) 8 then
                a_br (!decide (sp < 0) && !decide (dp < 0) && !decide (m < 0) && decide (sp.toNatClampNeg + m.toNatClampNeg ≤ (shp a.1 a.2).2) && decide (dp.toNatClampNeg + m.toNatClampNeg ≤ (shp b.1 b.2).2))
                  (d' + 1, c, i, pc + n, ls, r, wA h b.1 b.2 (va_cpy (h.1 a.1 a.2) (h.1 b.1 b.2) sp.toNatClampNeg dp.toNatClampNeg m.toNatClampNeg)) none else a_fail
            | _ => a_fail) else a_fail
      | none => a_fail)
    | _, _ => a_fail)
  | .invokevirtual k => (match alk (lkp [] sd_ct c) k, d with
    | some (t, c', i', m), d' + 1 => (match md c' i', (st.drop m) with
      | some M', .inr (.inr (some a)) :: r => bif (Nat.beq t 1 || Nat.beq t 4) && Nat.ble m st.length && Nat.ble (catS r) 8 && Nat.ble (eSl (.inr (.inr (some a)) :: (st.take m).reverse)).length M'.2.2.1 && Nat.beq (shp a.1 a.2).1 0 && Nat.beq (shp a.1 a.2).2 c' then
          a_call (d', c', i', 0, eL M'.2.2.1 (.inr (.inr (some a)) :: (st.take m).reverse), [], h) (fun o => (d' + 1, c, i, pc + n, ls, o.1.toList ++ r, o.2)) else a_fail
      | _, _ => a_fail)
    | _, _ => a_fail)
  | .invokespecial k => (match alk (lkp [] sd_ct c) k, d with
    | some (t, c', i', m), d' + 1 => (match md c' i', (st.drop m) with
      | some M', .inr (.inr (some a)) :: r => bif (Nat.beq t 2 || Nat.beq t 5) && Nat.ble m st.length && Nat.ble (catS r) 8 && Nat.ble (eSl (.inr (.inr (some a)) :: (st.take m).reverse)).length M'.2.2.1 then
          a_call (d', c', i', 0, eL M'.2.2.1 (.inr (.inr (some a)) :: (st.take m).reverse), [], h) (fun o => (d' + 1, c, i, pc + n, ls, o.1.toList ++ r, o.2)) else
          bif Nat.beq t 6 && Nat.beq m 0 && Nat.ble (catS r) 8 then a_go (d' + 1, c, i, pc + n, ls, r, h) else a_fail
      | _, _ => a_fail)
    | _, _ => a_fail)
  | .ireturn => (match st, M.2.2.2.1 with
    | [.inl x], some .int => a_ret (some (.inl x)) h
    | [.inl x], some .boolean => a_brr (decide (x = 0) || decide (x = 1)) (some (.inl x), h)
    | _, _ => a_fail)
  | .return_ => (match st, M.2.2.2.1 with
    | [], none => a_ret none h
    | _, _ => a_fail)
  | .areturn => (match st, M.2.2.2.1 with
    | [.inr (.inr (some a))], some (.array .int) => a_ret (some (.inr (.inr (some a)))) h
    | _, _ => a_fail)
  | _ => a_fail
def act (x : AX) : AA := match md x.2.1 x.2.2.1 with
  | none => a_fail
  | some M => (match alk M.2.2.2.2 x.2.2.2.1 with
    | none => a_fail
    | some q => act1 M x.1 x.2.1 x.2.2.1 x.2.2.2.1 q.2 x.2.2.2.2.1 x.2.2.2.2.2.1 x.2.2.2.2.2.2 q.1)
def ev : Nat → AX → Option AO
  | 0, _ => none
  | F + 1, x => (match act x with
    | .inl o => o
    | .inr (.inl y) => ev F y
    | .inr (.inr (.inl (b, y, z))) => bif b then (match y with
      | .inl y => ev F y
      | .inr o => some o) else (match z with
      | some z => ev F z
      | none => none)
    | .inr (.inr (.inr (y, k))) => (ev F y).bind (fun o => ev F (k o)))
theorem ev_mono1 : ∀ (F : Nat) (x : AX) (o : AO), ev F x = some o → ev (F + 1) x = some o
  | 0, x, o, h => by simp [ev] at h
  | F + 1, x, o, h => by
    rw [ev] at h ⊢
    split at h
    · exact h
    · exact ev_mono1 F _ o h
    · rename_i b y z _
      cases b with
      | true =>
        cases y with
        | inl y => exact ev_mono1 F _ o h
        | inr o' => exact h
      | false =>
        cases z with
        | some z => exact ev_mono1 F _ o h
        | none => exact h
    · rename_i y k _
      cases hy : ev F y with
      | none => rw [hy] at h; cases h
      | some o1 =>
        rw [hy] at h
        rw [ev_mono1 F y o1 hy]
        exact ev_mono1 F _ o h
theorem ev_mono {F G : Nat} (hFG : F ≤ G) {x : AX} {o : AO} (h : ev F x = some o) : ev G x = some o := by
  induction hFG with
  | refl => exact h
  | step _ ih => exact ev_mono1 _ _ _ ih
theorem ev_one {F G : Nat} {x : AX} {o o' : AO} (h : ev F x = some o) (h' : ev G x = some o') : o = o' := by
  have h1 := ev_mono (Nat.le_max_left F G) h
  have h2 := ev_mono (Nat.le_max_right F G) h'
  exact Option.some.inj (h1.symm.trans h2)
noncomputable def den (x : AX) : Option AO := @dite (Option AO) (∃ F o, ev F x = some o) (Classical.propDecidable _) (fun h => some (Classical.choose (Classical.choose_spec h))) (fun _ => none)
theorem den_of {F : Nat} {x : AX} {o : AO} (h : ev F x = some o) : den x = some o := by
  have hx : ∃ F o, ev F x = some o := ⟨F, o, h⟩
  rw [den, dif_pos hx]
  exact congrArg some (ev_one (Classical.choose_spec (Classical.choose_spec hx)) h)
theorem den_ev {x : AX} {o : AO} (h : den x = some o) : ∃ F, ev F x = some o := by
  by_cases hx : ∃ F o, ev F x = some o
  · rw [den, dif_pos hx] at h
    have h2 := Classical.choose_spec (Classical.choose_spec hx)
    rw [Option.some.inj h] at h2
    exact ⟨_, h2⟩
  · rw [den, dif_neg hx] at h
    cases h
theorem den_iff {x : AX} {o : AO} : den x = some o ↔ ∃ F, ev F x = some o := ⟨den_ev, fun ⟨_, h⟩ => den_of h⟩
theorem den_eq_of {x : AX} {r : Option AO} (h : ∀ o, den x = some o ↔ r = some o) : den x = r := by
  cases hr : r with
  | some o => exact (h o).mpr hr
  | none =>
    cases hd : den x with
    | none => rfl
    | some o => have := (h o).mp hd; rw [hr] at this; cases this
theorem den_step (x : AX) : den x = (match act x with
    | .inl o => o
    | .inr (.inl y) => den y
    | .inr (.inr (.inl (b, y, z))) => bif b then (match y with
      | .inl y => den y
      | .inr o => some o) else (match z with
      | some z => den z
      | none => none)
    | .inr (.inr (.inr (y, k))) => (den y).bind (fun o => den (k o))) := by
  apply den_eq_of
  intro o
  rw [den_iff]
  have hs : (∃ F, ev F x = some o) ↔ ∃ F, ev (F + 1) x = some o := by
    constructor
    · rintro ⟨F, h⟩
      exact ⟨F, ev_mono1 _ _ _ h⟩
    · rintro ⟨F, h⟩
      exact ⟨F + 1, h⟩
  rw [hs]
  constructor
  · rintro ⟨F, h⟩
    rw [ev] at h
    split at h
    · exact h
    · exact den_of h
    · rename_i b y z _
      cases b with
      | true =>
        cases y with
        | inl y => exact den_of (F := F) h
        | inr o' => exact h
      | false =>
        cases z with
        | some z => exact den_of (F := F) h
        | none => exact h
    · rename_i y k _
      cases hy : ev F y with
      | none => rw [hy] at h; cases h
      | some o1 =>
        rw [hy] at h
        show (den y).bind (fun o => den (k o)) = some o
        rw [den_of hy]
        exact den_of (F := F) h
  · intro h
    split at h
    · rename_i o' ho
      exact ⟨0, by rw [ev, ho]; exact h⟩
    · rename_i y hy
      obtain ⟨F, hF⟩ := den_ev h
      exact ⟨F, by rw [ev, hy]; exact hF⟩
    · rename_i b y z hy
      cases b with
      | true =>
        cases y with
        | inl y =>
          obtain ⟨F, hF⟩ := den_ev (show den y = some o from h)
          exact ⟨F, by rw [ev, hy]; exact hF⟩
        | inr o' => exact ⟨0, by rw [ev, hy]; exact h⟩
      | false =>
        cases z with
        | some z =>
          obtain ⟨F, hF⟩ := den_ev (show den z = some o from h)
          exact ⟨F, by rw [ev, hy]; exact hF⟩
        | none => exact ⟨0, by rw [ev, hy]; exact h⟩
    · rename_i y k hy
      cases hd : den y with
      | none => rw [hd] at h; cases h
      | some o1 =>
        rw [hd] at h
        obtain ⟨F, hF⟩ := den_ev hd
        obtain ⟨G, hG⟩ := den_ev (show den (k o1) = some o from h)
        refine ⟨max F G, ?_⟩
        rw [ev, hy]
        show (ev (max F G) y).bind (fun o => ev (max F G) (k o)) = some o
        rw [ev_mono (Nat.le_max_left F G) hF]
        exact ev_mono (Nat.le_max_right F G) hG
/-- n instructions further, along each branch -/
noncomputable def run : Nat → AX → Option AO
  | 0, x => den x
  | n + 1, x => (match act x with
    | .inl o => o
    | .inr (.inl y) => run n y
    | .inr (.inr (.inl (b, y, z))) => bif b then (match y with
      | .inl y => run n y
      | .inr o => some o) else (match z with
      | some z => run n z
      | none => none)
    | .inr (.inr (.inr (y, k))) => (den y).bind (fun o => run n (k o)))
theorem den_run : ∀ (n : Nat) (x : AX), den x = run n x
  | 0, _ => rfl
  | n + 1, x => by
    rw [den_step x, run]
    split
    · rfl
    · exact den_run n _
    · rename_i b y z _
      cases b with
      | true =>
        cases y with
        | inl y => exact den_run n _
        | inr o' => rfl
      | false =>
        cases z with
        | some z => exact den_run n _
        | none => rfl
    · rename_i y k _
      cases den y with
      | none => rfl
      | some o => exact den_run n _
