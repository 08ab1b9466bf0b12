section
variable {x y z : AX} {b : Bool} {o : AO} {k : AO → AX}
theorem S_go (ha : act x = a_go y) : den x = den y := by rw [den_step, ha]
theorem S_br (ha : act x = a_br b y (some z)) : den x = bif b then den y else den z := by rw [den_step, ha]
theorem S_br0 (ha : act x = a_br b y none) : den x = bif b then den y else none := by rw [den_step, ha]
theorem S_brt {z : Option AX} (ha : act x = a_br b y z) (hb : b = true) : den x = den y := by rw [den_step, ha, hb]; rfl
theorem S_brr (ha : act x = a_brr b o) : den x = bif b then some o else none := by rw [den_step, ha]
theorem S_ret (ha : act x = .inl (some o)) : den x = some o := by rw [den_step, ha]
theorem S_call (ha : act x = a_call y k) : den x = (den y).bind (fun o => den (k o)) := by rw [den_step, ha]
end
