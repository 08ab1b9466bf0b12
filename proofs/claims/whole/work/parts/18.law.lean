/-! THE CLAIM OUT OF ONE WALK OF THE LAW'S BODY. Your part is whole_start (and what it stands on); all else here is the same for every law, but numbers. -/
def R_law : String := "SumDoorLaw"
def lw_P (b : Addr) (xs : List Int32) (args : Array Value) (s : State) : Prop := args = #[.ref b] ∧ s.IntsAt b xs ∧ xs.length ≤ 3072 ∧ (Jvm.Cond.and given_1 narrow_1).before args s = true
def lw_Q (_ : Array Value) (s : State) (o : Outcome) (t : State) : Prop := o = .returned (some (.int 1)) ∧ Framed s o t [] 600000 7302250
def lw_Z (below : List Frame) (a : Array Value) (s : State) : State → Prop := fun t => ∃ o, t.status = .running ∧ Ended t below o ∧ lw_Q a s o t
/-- the law's own end, with 1 on the stack, nothing written that was there before, its room as the claim has it -/
theorem lw_ret {p : Program} {l : Launch} {e : Env} {s : State} {m : MethodId} {below : List Frame} {meth : Method} {c : Code} {b : Nat} (hx : p.tables.exec = Jvm.exec) (hb : c.code = code) (hr : meth.sig.returnType = ret) (hlocks : meth.locks = false) {pc : Nat} {H : Heap} {ls : Array Slot} (hdg : decode code pc = .ok (.ireturn, 1)) : W p l e room_1 s m #[Value.ref b] below meth c H [] 600000 7302250 (lw_Z below #[Value.ref b] s) (F0 m pc ls [.int 1]) := by
  intro T hT X
  obtain ⟨fs, hret, hrun, hended, hW, hframe⟩ := X.leave (v := some (.int 1)) (hlocks := hlocks) (fun h => by rw [hr] at h; cases h)
  have hmeth' : T.vm.method? m = some meth := X.method'
  refine ⟨T.setFrames fs, ?_, .returned (some (.int 1)), hrun, hended, rfl, ⟨_, rfl⟩, hW, hframe⟩
  jvm_step X.here [X.here.top, hx, hb, hdg, hmeth', hr, ret, narrow_b1]
  (try refine ⟨rfl, ?_⟩); (try refine ⟨rfl, ?_⟩)
  first | (intro acts; rw [hret _ acts rfl rfl rfl]) | rw [hret _ _ rfl rfl rfl]
  exact Steps.refl _
/-- what holds at the law's entry: the machine, the code, the tables' words (any of lw_tbl by 'hts w (by decide +kernel)'), the script of L ints xs at the cell b, what the Statement gives of the start (any of its parts by flat_of_before) -/
def lw_At (p : Program) (s : State) (m : MethodId) (meth : Method) (c : Code) (b L : Nat) (xs : Nat → Int32) : Prop :=
  p.tables.exec = Jvm.exec ∧ c.code = code ∧ meth.sig.returnType = ret ∧ c.maxLocals = 4 ∧ s.vm.findClass R_law = some m.cls ∧ (∀ w ∈ lw_tbl, w.before #[Value.ref b] s = true) ∧ va_X b L xs s s.heap ∧ b < s.heap.size ∧ meth.locks = false ∧ (Jvm.Cond.and given_1 narrow_1).before #[Value.ref b] s = true
def h00 (L : Nat) (xs : Nat → Int32) : AH := (fun _ _ _ => 0, fun g j i => match g with
  | 0 => none
  | g + 1 => R1 g j i, (0, 0), L, xs)
/-- what is left to be shown of numbers alone: the law's run in the abstract machine answers 1, within the room -/
def LAW : Prop := ∀ (L : Nat) (xs : Nat → Int32), L ≤ 3072 → ∃ h : AH, den (11, 9, 0, 0, [some (vr 0 1003), none, none, none], [], h00 L xs) = some (some (vi 1), h) ∧ lin (alo h) ≤ 600000 ∧ SL (lin (alo h)) ≤ 7302250
theorem inst_ok : ∀ ci, ci < 9 → inT (.instantiable (clOf ci).1 (nF ci)) := by
  intro ci h
  match ci, h with
  | 0, _ => exact ckN_6_18.2.1
  | 1, _ => exact ckN_7_33.2.1
  | 2, _ => exact ckN_5_37.2.1
  | 3, _ => exact ckN_6_9.2.1
  | 4, _ => exact ckN_7_7.2.1
  | 5, _ => exact ckN_7_86.2.1
  | 6, _ => exact ckN_7_16.2.1
  | 7, _ => exact ckN_9_7.2.1
  | 8, _ => exact ckN_9_10.2.1
  | n + 9, h => omega
theorem st_0 {s : State} {b : Nat} (hgv : (Jvm.Cond.and given_1 narrow_1).before #[Value.ref b] s = true) : ∃ t : Nat, (Term.static "SumDoor" "ABOVE" "[I").eval #[Value.ref b] s none [] s = some (.ref t) ∧ va_T .int t 7 (fun j => .int (lkp 0 [-1, 0, 0, 2, 0, 1, 0] j)) (fun q => s.heap.size ≤ q) s s.heap := by
  have hs := flat_of_before _ hgv
  refine va_Tof (N := 7) (by decide) (hs (.arrayOf (.static "SumDoor" "ABOVE" "[I") .int) (by decide +kernel)) (va_eqt (hs (.eq (.length (.static "SumDoor" "ABOVE" "[I")) (.int 7)) (by decide +kernel))) ?_ (fun a ha => Nat.not_le.mpr ha)
  intro j hj
  match j, hj with
  | 0, _ => exact va_eqt (hs (.eq (.elem (.static "SumDoor" "ABOVE" "[I") (.int 0)) (.int (-1))) (by decide +kernel))
  | 1, _ => exact va_eqt (hs (.eq (.elem (.static "SumDoor" "ABOVE" "[I") (.int 1)) (.int 0)) (by decide +kernel))
  | 2, _ => exact va_eqt (hs (.eq (.elem (.static "SumDoor" "ABOVE" "[I") (.int 2)) (.int 0)) (by decide +kernel))
  | 3, _ => exact va_eqt (hs (.eq (.elem (.static "SumDoor" "ABOVE" "[I") (.int 3)) (.int 2)) (by decide +kernel))
  | 4, _ => exact va_eqt (hs (.eq (.elem (.static "SumDoor" "ABOVE" "[I") (.int 4)) (.int 0)) (by decide +kernel))
  | 5, _ => exact va_eqt (hs (.eq (.elem (.static "SumDoor" "ABOVE" "[I") (.int 5)) (.int 1)) (by decide +kernel))
  | 6, _ => exact va_eqt (hs (.eq (.elem (.static "SumDoor" "ABOVE" "[I") (.int 6)) (.int 0)) (by decide +kernel))
  | n + 7, h => omega
theorem st_1 {s : State} {b : Nat} (hgv : (Jvm.Cond.and given_1 narrow_1).before #[Value.ref b] s = true) : ∃ t : Nat, (Term.static "SumDoor" "PART_LEAST" "[I").eval #[Value.ref b] s none [] s = some (.ref t) ∧ va_T .int t 5 (fun j => .int (lkp 0 [1, 0, 0, 0, 0] j)) (fun q => s.heap.size ≤ q) s s.heap := by
  have hs := flat_of_before _ hgv
  refine va_Tof (N := 5) (by decide) (hs (.arrayOf (.static "SumDoor" "PART_LEAST" "[I") .int) (by decide +kernel)) (va_eqt (hs (.eq (.length (.static "SumDoor" "PART_LEAST" "[I")) (.int 5)) (by decide +kernel))) ?_ (fun a ha => Nat.not_le.mpr ha)
  intro j hj
  match j, hj with
  | 0, _ => exact va_eqt (hs (.eq (.elem (.static "SumDoor" "PART_LEAST" "[I") (.int 0)) (.int 1)) (by decide +kernel))
  | 1, _ => exact va_eqt (hs (.eq (.elem (.static "SumDoor" "PART_LEAST" "[I") (.int 1)) (.int 0)) (by decide +kernel))
  | 2, _ => exact va_eqt (hs (.eq (.elem (.static "SumDoor" "PART_LEAST" "[I") (.int 2)) (.int 0)) (by decide +kernel))
  | 3, _ => exact va_eqt (hs (.eq (.elem (.static "SumDoor" "PART_LEAST" "[I") (.int 3)) (.int 0)) (by decide +kernel))
  | 4, _ => exact va_eqt (hs (.eq (.elem (.static "SumDoor" "PART_LEAST" "[I") (.int 4)) (.int 0)) (by decide +kernel))
  | n + 5, h => omega
theorem st_2 {s : State} {b : Nat} (hgv : (Jvm.Cond.and given_1 narrow_1).before #[Value.ref b] s = true) : ∃ t : Nat, (Term.static "SumDoor" "PART_MOST" "[I").eval #[Value.ref b] s none [] s = some (.ref t) ∧ va_T .int t 5 (fun j => .int (lkp 0 [9, 999, 99, 19, 1] j)) (fun q => s.heap.size ≤ q) s s.heap := by
  have hs := flat_of_before _ hgv
  refine va_Tof (N := 5) (by decide) (hs (.arrayOf (.static "SumDoor" "PART_MOST" "[I") .int) (by decide +kernel)) (va_eqt (hs (.eq (.length (.static "SumDoor" "PART_MOST" "[I")) (.int 5)) (by decide +kernel))) ?_ (fun a ha => Nat.not_le.mpr ha)
  intro j hj
  match j, hj with
  | 0, _ => exact va_eqt (hs (.eq (.elem (.static "SumDoor" "PART_MOST" "[I") (.int 0)) (.int 9)) (by decide +kernel))
  | 1, _ => exact va_eqt (hs (.eq (.elem (.static "SumDoor" "PART_MOST" "[I") (.int 1)) (.int 999)) (by decide +kernel))
  | 2, _ => exact va_eqt (hs (.eq (.elem (.static "SumDoor" "PART_MOST" "[I") (.int 2)) (.int 99)) (by decide +kernel))
  | 3, _ => exact va_eqt (hs (.eq (.elem (.static "SumDoor" "PART_MOST" "[I") (.int 3)) (.int 19)) (by decide +kernel))
  | 4, _ => exact va_eqt (hs (.eq (.elem (.static "SumDoor" "PART_MOST" "[I") (.int 4)) (.int 1)) (by decide +kernel))
  | n + 5, h => omega
theorem lay_st {s : State} {A : Array Value} (hts : ∀ w ∈ lw_tbl, w.before A s = true) : ∀ k, k < 3 → (Cond.laysStatic "SumDoor" (stN k) "[I").before A s = true := by
  intro k hk
  match k, hk with
  | 0, _ => exact hts _ (List.mem_append_right _ (List.mem_of_getElem? (i := 230) (by decide +kernel)))
  | 1, _ => exact hts _ (List.mem_append_right _ (List.mem_of_getElem? (i := 415) (by decide +kernel)))
  | 2, _ => exact hts _ (List.mem_append_right _ (List.mem_of_getElem? (i := 417) (by decide +kernel)))
  | n + 3, h => omega
theorem law_md : md 9 0 = some (⟨"SumDoorLaw", "law", "([I)Z"⟩, code, 4, some .boolean, pg_9_0) := rfl
set_option maxHeartbeats 2000000 in
theorem whole_open (HL : LAW) {p : Program} {e : Env} {s : State} {m : MethodId} {below : List Frame} {meth : Method} {c : Code} (l : Launch) {b L : Nat} {xs : Nat → Int32} (hL : L ≤ 3072) (C0 : lw_At p s m meth c b L xs) : W p l e room_1 s m #[Value.ref b] below meth c s.heap [] 0 0 (lw_Z below #[Value.ref b] s) (entryFrame m ([Value.ref b] : List Value).toArray 4) := by
  obtain ⟨hx, hb, hr, hml, hown, hts, ⟨scr, x1, x2, x3, x4, x5⟩, hbl, hlocks, hgv⟩ := C0
  obtain ⟨ho, hden, hcells, hslots⟩ := HL L xs hL
  obtain ⟨F, hev⟩ := den_ev hden
  have HK : ∀ k, ∃ (cC : ClassId) (iS : Nat → Nat), k < 9 → u_Kn s (clOf k).1 (clOf k).2.1 (nF k) cC iS := by
    intro k
    by_cases hk : k < 9
    · obtain ⟨cC, iS, hh⟩ := u_known (ws := lw_tbl) (C := (clOf k).1) (T := (clOf k).2.1) (N := nF k) (n := nF k) hts (fun w hw => (cw_all k hk w hw).1) (hts _ (inst_ok k hk).1)
      exact ⟨cC, iS, fun _ => hh⟩
    · exact ⟨0, fun _ => 0, fun h => absurd h hk⟩
  obtain ⟨t0, v0, T0⟩ := st_0 hgv
  obtain ⟨t1, v1, T1⟩ := st_1 hgv
  obtain ⟨t2, v2, T2⟩ := st_2 hgv
  have hini : (Cond.initialized "SumDoor").before #[Value.ref b] s = true := hts _ (List.mem_append_right _ (List.mem_of_getElem? (i := 1) (by decide +kernel)))
  have hA : ∀ a : Nat, a < s.heap.size → ¬ (fun q : Nat => s.heap.size ≤ q) a := fun a ha => Nat.not_le.mpr ha
  have E : EV (fun k => Classical.choose (HK k), fun k => Classical.choose (Classical.choose_spec (HK k))) s.heap.size (fun k => match k with | 0 => t0 | 1 => t1 | 2 => t2 | _ => b) (L, xs) s := by
    refine ⟨fun w hw => inT_warm (State.WarmedH.refl s) hw (hts w hw.1), fun k q hq => ?_, va_AO.of (hts _ (List.mem_append_right _ (List.mem_of_getElem? (i := 64) (by decide +kernel)))), va_AO.of (hts _ (List.mem_append_right _ (List.mem_of_getElem? (i := 157) (by decide +kernel)))), Nat.le_refl _, fun k r hr => ?_, fun k hk => ?_⟩
    · have hk : k < 9 := (List.getElem?_eq_some_iff.mp hq).1
      rw [cl_at k hk] at hq
      cases hq
      exact Classical.choose_spec (Classical.choose_spec (HK k)) hk
    · match k, hr with
      | 0, hr => cases hr; exact T0
      | 1, hr => cases hr; exact T1
      | 2, hr => cases hr; exact T2
      | 3, hr => cases hr; exact ⟨scr, x1, x2, x3, Nat.le_of_eq x4.symm, congrArg Nat.toInt32 x4, x5, hA b hbl⟩
      | n + 4, hr => cases hr
    · match k, hk with
      | 0, _ => exact va_Zof (lay_st hts 0 (by decide)) hini v0 hA
      | 1, _ => exact va_Zof (lay_st hts 1 (by decide)) hini v1 hA
      | 2, _ => exact va_Zof (lay_st hts 2 (by decide)) hini v2 hA
      | n + 3, h => omega
  generalize hD : ((fun k => Classical.choose (HK k), fun k => Classical.choose (Classical.choose_spec (HK k))) : va_G) = D at E
  generalize hsa : (fun k : Nat => match k with | 0 => t0 | 1 => t1 | 2 => t2 | _ => b) = sa at E
  have hsa3 : sa 3 = b := by rw [← hsa] <;> rfl
  have hF : FR D s.heap.size sa (L, xs) p room_1 s m meth c (⟨"SumDoorLaw", "law", "([I)Z"⟩, code, 4, some .boolean, pg_9_0) 11 9 0 0 0 (some (vi 1), ho) := ⟨law_md, hx, hb, hml, hown, fun q => absurd q (by decide), E, by decide, by decide, hcells, hslots⟩
  have hK : KE l D s.heap.size sa (L, xs) p e room_1 s m #[Value.ref b] below meth c (lw_Z below #[Value.ref b] s) (⟨"SumDoorLaw", "law", "([I)Z"⟩, code, 4, some .boolean, pg_9_0) (h00 L xs) (fun a => sa (a.2 - 1000)) 0 0 (some (vi 1), ho) := by
    intro pc ins lsA H locs cells slots ad ca hdg hrok w hS hokv hs hext hc hsl
    have hins : ins = .ireturn := by
      rcases hrok with ⟨q, -⟩ | ⟨q, -⟩ | ⟨-, q, -⟩ | ⟨-, q, -⟩
      · exact q
      · exact q
      · cases q
      · cases q
    subst hins
    have hc : cells = lin (alo ho) := hc
    have hsl : slots = SL (lin (alo ho)) := hsl
    refine va_forget (fun q hq => hS.2.2 q hq) ?_
    refine W.widen (k := 600000) (n := 7302250) (by omega) (by omega) ?_
    exact lw_ret hx hb hr hlocks hdg
  have g := inner hF hK F (fun G _ => P1_all l D s.heap.size sa (L, xs) G) (11, 9, 0, 0, [some (vr 0 1003), none, none, none], [], h00 L xs) ⟨rfl, rfl, rfl⟩ hev
  have hst : ∀ k, k < 4 → (fun a : Nat × Nat => sa (a.2 - 1000)) (0, 1000 + k) = sa k := fun k _ => by
    show sa (1000 + k - 1000) = sa k
    rw [Nat.add_sub_cancel_left]
  have hv : ([vr 0 1003] : List AV).map (cv (fun a => sa (a.2 - 1000))) = [Value.ref b] := by
    show [Value.ref (sa (1003 - 1000))] = [Value.ref b]
    rw [← hsa3]
  have hls := lsR_entry (fun a => sa (a.2 - 1000)) [vr 0 1003] (n := 4) (by decide)
  rw [hv] at hls
  rw [lg_entry_eq]
  have hno : ∀ a, ¬ aD (h00 L xs) a := fun a ha => Nat.not_lt_zero _ ha.2
  refine g s.heap [] 0 0 (fun a => sa (a.2 - 1000)) (fun _ => 0) _ ⟨⟨fun k q hq => by simp [wsO, h00, lin] at hq, ⟨fun i j p q hp => by simp [wsO, h00, lin] at hp, fun k q hq => by simp [wsO, h00, lin] at hq⟩, by show 0 < 71; omega, fun a ha => absurd ha (hno a), fun a ha => absurd ha (hno a), rfl⟩, va_S.rf, hls, fun v hv => absurd hv List.not_mem_nil, ?_, hst, fun a _ => rfl, Nat.le_refl _, rfl, rfl⟩
  intro k v hk
  match k, hk with
  | 0, hk => cases hk; exact Or.inr ⟨rfl, by decide, by decide⟩
  | 1, hk => cases hk
  | 2, hk => cases hk
  | 3, hk => cases hk
  | n + 4, hk => cases hk
