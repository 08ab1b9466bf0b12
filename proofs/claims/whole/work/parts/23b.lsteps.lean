def M9 : MD := (⟨"SumDoorLaw", "law", "([I)Z"⟩, code, 4, some .boolean, pg_9_0)
section
variable {d pc : Nat} {ls : List (Option AV)} {st : List AV} {h : AH} {q : Instr × Nat}
theorem act9 (hq : tb9 pc = some q) : act (d, 9, 0, pc, ls, st, h) = act1 M9 d 9 0 pc q.2 ls st h q.1 := by
  have e : act (d, 9, 0, pc, ls, st, h) = (match alk pg_9_0 pc with
      | none => a_fail
      | some q => act1 M9 d 9 0 pc q.2 ls st h q.1) := rfl
  rw [e, tb9_eq, hq]
theorem L_go {y : AX} (hq : tb9 pc = some q) (ha : act1 M9 d 9 0 pc q.2 ls st h q.1 = a_go y) : den (d, 9, 0, pc, ls, st, h) = den y := by rw [den_step, act9 hq, ha]
theorem L_br {b : Bool} {y z : AX} (hq : tb9 pc = some q) (ha : act1 M9 d 9 0 pc q.2 ls st h q.1 = a_br b y (some z)) : den (d, 9, 0, pc, ls, st, h) = bif b then den y else den z := by rw [den_step, act9 hq, ha]
theorem L_br0 {b : Bool} {y : AX} (hq : tb9 pc = some q) (ha : act1 M9 d 9 0 pc q.2 ls st h q.1 = a_br b y none) : den (d, 9, 0, pc, ls, st, h) = bif b then den y else none := by rw [den_step, act9 hq, ha]
theorem L_brr {b : Bool} {o : AO} (hq : tb9 pc = some q) (ha : act1 M9 d 9 0 pc q.2 ls st h q.1 = a_brr b o) : den (d, 9, 0, pc, ls, st, h) = bif b then some o else none := by rw [den_step, act9 hq, ha]
theorem L_call {y : AX} {k : AO → AX} (hq : tb9 pc = some q) (ha : act1 M9 d 9 0 pc q.2 ls st h q.1 = a_call y k) : den (d, 9, 0, pc, ls, st, h) = (den y).bind (fun o => den (k o)) := by rw [den_step, act9 hq, ha]
end
