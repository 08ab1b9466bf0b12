/-! The heap behind the constructors: ints I, the texts t1, t2 of the two worlds, k texts made so far. -/
def offT : List (List (Option Nat)) := [[some 1, some 2, some 3, some 4, some 5, some 6, some 7, some 8, some 9, none, none, none, none], [some 1, none, none], [some 1, none, some 2, none], [some 1, some 2, some 3, none], [some 1, none, none, none, none, none], [some 3, some 6, some 1, some 2, none], [some 1, some 5, some 15, none], [some 1, some 3, some 19, some 35, some 45, some 46, some 47, none],
  [some 1, some 2, some 3, some 4, none, some 5, some 6, some 7, none, none, none, none, none, none, none, none, some 8, some 9, some 10, some 11, some 12, some 13, some 14]]
def R1 (g j i : Nat) : Option (Nat × Nat) := bif Nat.beq (lkp (9, 0) shpT j).1 0 then (lkp none (lkp [] offT (lkp (9, 0) shpT j).2) i).map (fun o => (g + 1, j + o)) else none
def RF (t1 t2 : Nat → Option (Nat × Nat)) (g j i : Nat) : Option (Nat × Nat) := match g with
  | 0 => bif Nat.beq j 5 then t1 i else bif Nat.beq j 21 then t2 i else bif Nat.beq j 45 then (bif Nat.blt i 4 then some (0, 48 + 2 * i) else none) else
      bif Nat.beq (lkp (9, 0) shp0 j).1 0 then (lkp none (lkp [] offT (lkp (9, 0) shp0 j).2) i).map (fun o => (0, j + o)) else none
  | g + 1 => R1 g j i
def mkH (I : Nat → Nat → Nat → Int32) (t1 t2 : Nat → Option (Nat × Nat)) (k : Nat) (sc : Nat × (Nat → Int32)) : AH := (I, RF t1 t2, (k + 1, 0), sc)
def uI (I : Nat → Nat → Nat → Int32) (g j i : Nat) (v : Int32) : Nat → Nat → Nat → Int32 := fun g' j' i' => if g' = g ∧ j' = j ∧ i' = i then v else I g' j' i'
def uA (I : Nat → Nat → Nat → Int32) (g j : Nat) (f : Nat → Int32) : Nat → Nat → Nat → Int32 := fun g' j' i' => if g' = g ∧ j' = j then f i' else I g' j' i'
