/-- a method's start: its arguments, the world -/
def PcX (D : va_G) (bs : Nat) (sa : Nat → Nat) (sc : Nat × (Nat → Int32)) (vs : List AV) (h : AH) (ad : Nat × Nat → Nat) (ca : Nat × Nat → ClassId) : Array Value → State → Prop := fun a U => a = (vs.map (cv ad)).toArray ∧ EV D bs sa sc U ∧ WD D bs sc ad ca h U.heap U ∧ (∀ v ∈ vs, okv h v) ∧ ∀ k, k < 4 → ad (0, 1000 + k) = sa k
def QcX (D : va_G) (bs : Nat) (sa : Nat → Nat) (sc : Nat × (Nat → Int32)) (h : AH) (o : AO) (ad : Nat × Nat → Nat) : Array Value → State → Outcome → State → Prop := fun _ st oc t => ∃ (ad' : Nat × Nat → Nat) (ca' : Nat × Nat → ClassId), oc = .returned (o.1.map (cv ad')) ∧ (∀ a, aD h a → ad' a = ad a) ∧ (∀ k, k < 4 → ad' (0, 1000 + k) = sa k) ∧ WD D bs sc ad' ca' o.2 t.heap t ∧ (∀ v, o.1 = some v → okv o.2 v) ∧ va_F (fun q => bs ≤ q) st t
/-- the contract of a method at these arguments and this heap -/
def CM (l : Launch) (D : va_G) (bs : Nat) (sa : Nat → Nat) (sc : Nat × (Nat → Int32)) (d : Nat) (M : MD) (vs : List AV) (h : AH) (o : AO) : Prop := lin (alo h) ≤ lin (alo o.2) ∧ ∀ ad ca, Met l M.1 [Cond.code M.1 M.2.1 M.2.2.1 M.2.2.2.1] { frames := d, cells := lin (alo o.2) - lin (alo h), slots := SL (lin (alo o.2)) - SL (lin (alo h)), locals := 38 * d } (PcX D bs sa sc vs h ad ca) (QcX D bs sa sc h o ad) (lin (alo o.2) - lin (alo h)) (SL (lin (alo o.2)) - SL (lin (alo h))) (fun q => bs ≤ q)
def rOK (ins : Instr) (rt : Option FieldType) (v : Option AV) : Prop := (ins = .ireturn ∧ rt = some .int ∧ ∃ x, v = some (.inl x)) ∨ (ins = .ireturn ∧ rt = some .boolean ∧ ∃ x, v = some (.inl x) ∧ (x = 0 ∨ x = 1)) ∨ (ins = .return_ ∧ rt = none ∧ v = none) ∨ (ins = .areturn ∧ rt = some (.array .int) ∧ ∃ a, v = some (.inr (.inr (some a))))
/-- what a frame's end is good for -/
def KE (l : Launch) (D : va_G) (bs : Nat) (sa : Nat → Nat) (sc : Nat × (Nat → Int32)) (p : Program) (e : Env) (R : Room) (s : State) (m : MethodId) (args : Array Value) (below : List Frame) (meth : Method) (cc : Code) (Q : State → Prop) (M : MD) (hh : AH) (ad0 : Nat × Nat → Nat) (n0 s0 : Nat) (o : AO) : Prop :=
  ∀ (pc : Nat) (ins : Instr) (lsA : Array Slot) (H : Heap) (locs : List Loc) (cells slots : Nat) (ad : Nat × Nat → Nat) (ca : Nat × Nat → ClassId), decode M.2.1 pc = .ok (ins, 1) → rOK ins M.2.2.2.1 o.1 → WD D bs sc ad ca o.2 H s → va_S (fun q => bs ≤ q) s.heap H locs → (∀ v, o.1 = some v → okv o.2 v) → (∀ k, k < 4 → ad (0, 1000 + k) = sa k) → (∀ a, aD hh a → ad a = ad0 a) → cells + n0 = lin (alo o.2) → slots + s0 = SL (lin (alo o.2)) → W p l e R s m args below meth cc H locs cells slots Q (F0 m pc lsA (o.1.toList.map (cv ad)))
section SND4
variable {l : Launch} {D : va_G} {bs : Nat} {sa : Nat → Nat} {sc : Nat × (Nat → Int32)}
variable {p : Program} {e : Env} {R : Room} {s : State} {m : MethodId} {args : Array Value} {below : List Frame} {meth : Method} {cc : Code} {Q : State → Prop} {M : MD} {d c i : Nat} {hh : AH} {ad0 : Nat × Nat → Nat} {n0 s0 : Nat} {o : AO}
variable {pc : Nat} {ls : List (Option AV)} {st r : List AV} {h : AH}
theorem g_end {ins : Instr} (hK : KE l D bs sa sc p e R s m args below meth cc Q M hh ad0 n0 s0 o) (hdg : decode M.2.1 pc = .ok (ins, 1)) (hr : rOK ins M.2.2.2.1 o.1) (hs : st = o.1.toList) (hh' : h = o.2) : GX l D bs sa sc p e R s m args below meth cc Q M hh ad0 n0 s0 pc ls st h := by
  subst hs; subst hh'
  intro H locs cells slots ad ca lsA hC
  exact hK pc ins lsA H locs cells slots ad ca hdg hr hC.1 hC.2.1 (fun v hv => hC.2.2.2.1 v (by rw [hv]; exact List.mem_cons_self)) hC.2.2.2.2.2.1 hC.2.2.2.2.2.2.1 hC.2.2.2.2.2.2.2.2.1 hC.2.2.2.2.2.2.2.2.2
theorem PcX.blind {vs : List AV} {ad : Nat × Nat → Nat} {ca : Nat × Nat → ClassId} : FrameBlind (PcX D bs sa sc vs h ad ca) := by
  rintro a U g mk ⟨h1, h2, h3, h4, h5⟩
  exact ⟨h1, h2.to (U := U.calling g mk a) (State.WarmedH.refl U) (Nat.le_refl _) (fun _ _ _ => rfl), WD.moved (s := U) (U := U.calling g mk a) (Vm.Alike.refl U.vm) h3, h4, h5⟩
theorem PcX.pre {H : Heap} {locs : List Loc} {vs : List AV} {ad : Nat × Nat → Nat} {ca : Nat × Nat → ClassId} (hF : FR D bs sa sc p R s m meth cc M d c i n0 s0 o) (w : WD D bs sc ad ca h H s) (hS : va_S (fun q => bs ≤ q) s.heap H locs) (hv : ∀ v ∈ vs, okv h v) (ha : ∀ k, k < 4 → ad (0, 1000 + k) = sa k) : ∀ U : State, U.heap = H → s.WarmedH U.vm → PcX D bs sa sc vs h ad ca (vs.map (cv ad)).toArray U := by
  intro U hU hW
  refine ⟨rfl, hF.2.2.2.2.2.2.1.to hW (by rw [hU]; exact hS.1) (fun q h1 h2 => by rw [hU]; exact hS.2.1 q h1 h2), ?_, hv, ha⟩
  rw [hU]
  exact w.moved hW.alike
theorem callX {H : Heap} {locs : List Loc} {cells slots mc ms : Nat} {lsA : Array Slot} {st0 rest : List Value} {o1 : AO} {ad : Nat × Nat → Nat} {A : Array Value} (hr : va_Run p l e R s m args below meth cc H locs cells slots mc ms (F0 m pc lsA st0) rest (QcX D bs sa sc h o1 ad A) (fun q => bs ≤ q)) (hS : va_S (fun q => bs ≤ q) s.heap H locs)
    (kk : ∀ (ad' : Nat × Nat → Nat) (ca' : Nat × Nat → ClassId) (t : State) (locs1 : List Loc), s.vm.Alike t.vm → (∀ a, aD h a → ad' a = ad a) → (∀ k, k < 4 → ad' (0, 1000 + k) = sa k) → WD D bs sc ad' ca' o1.2 t.heap t → (∀ v, o1.1 = some v → okv o1.2 v) → va_S (fun q => bs ≤ q) s.heap t.heap locs1 → W p l e R s m args below meth cc t.heap locs1 (cells + mc) (slots + ms) Q (F0 m (pc + 3) lsA ((o1.1.map (cv ad')).toList ++ rest))) : W p l e R s m args below meth cc H locs cells slots Q (F0 m pc lsA st0) := by
  intro T hT X
  obtain ⟨v, st₀, t, T', L, h0, X', hL, e1, e2, ⟨ad', ca', hv, q1, q2, q3, q4, hz, hk⟩, st⟩ := hr T hT X
  have hv : v = o1.1.map (cv ad') := Outcome.returned.inj hv
  subst hv
  rw [h0] at hz hk
  obtain ⟨t2, a1, b1⟩ := kk ad' ca' t (locs ++ L) (by rw [← e2]; exact X'.warmed.alike) q1 q2 q3 q4
    ⟨Nat.le_trans hS.1 hz, fun q h1 h2 => by rw [hk q (Nat.lt_of_lt_of_le h1 hS.1) h2]; exact hS.2.1 q h1 h2, fun q hq => by
      rcases List.mem_append.mp hq with h | h
      · exact hS.2.2 q h
      · exact hL q h⟩ T' e1 X'
  exact ⟨t2, st t2 a1, b1⟩
/-- behind a call -/
theorem g_back {H : Heap} {locs : List Loc} {cells slots : Nat} {lsA : Array Slot} {st0 : List Value} {o1 : AO} {ad : Nat × Nat → Nat} {ca : Nat × Nat → ClassId} {A : Array Value} (hC : CXm D bs sa sc s hh ad0 n0 s0 M.2.2.1 ls st h H locs cells slots ad ca lsA) (hr' : ∀ v ∈ r, okv h v) (hm : lin (alo h) ≤ lin (alo o1.2))
    (hr : va_Run p l e R s m args below meth cc H locs cells slots (lin (alo o1.2) - lin (alo h)) (SL (lin (alo o1.2)) - SL (lin (alo h))) (F0 m pc lsA st0) (r.map (cv ad)) (QcX D bs sa sc h o1 ad A) (fun q => bs ≤ q)) (g : GX l D bs sa sc p e R s m args below meth cc Q M hh ad0 n0 s0 (pc + 3) ls (o1.1.toList ++ r) o1.2) : W p l e R s m args below meth cc H locs cells slots Q (F0 m pc lsA st0) := by
  refine callX hr hC.2.1 (fun ad' ca' t locs1 hvm q1 q2 q3 q4 hS1 => ?_)
  have hx := ext_S q1 hC.2.2.2.2.2.1 q2
  have hsl := SL_mono hm
  have g2 := g t.heap locs1 (cells + (lin (alo o1.2) - lin (alo h))) (slots + (SL (lin (alo o1.2)) - SL (lin (alo h)))) ad' ca' lsA ⟨q3.moved hvm.symm, hS1, hC.2.2.1.ext hx hC.2.2.2.2.1, fun v hv => ?_, fun k v hk => (hC.2.2.2.2.1 k v hk).mono hm, q2, fun a ha => ?_, Nat.le_trans hC.2.2.2.2.2.2.2.1 hm, ?_, ?_⟩
  · rw [List.map_append, map_ext hx hr'] at g2
    have e1 : (o1.1.map (cv ad')).toList = o1.1.toList.map (cv ad') := by cases o1.1 <;> rfl
    rw [e1]
    exact g2
  · rcases List.mem_append.mp hv with h1 | h1
    · cases ho : o1.1 with
      | none => rw [ho] at h1; cases h1
      | some w =>
        rw [ho] at h1
        have := List.mem_singleton.mp h1
        subst this
        exact q4 _ ho
    · exact (hr' v h1).mono hm
  · rw [q1 a ⟨ha.1, Nat.lt_of_lt_of_le ha.2 hC.2.2.2.2.2.2.2.1⟩]
    exact hC.2.2.2.2.2.2.1 a ha
  · have := hC.2.2.2.2.2.2.2.2.1
    omega
  · have := hC.2.2.2.2.2.2.2.2.2
    omega
theorem good1 (y : MethodName) (b : ByteArray) (n : Nat) (rt : Option FieldType) : GoodIn [Cond.code y b n rt] [Cond.code y b n rt] := by
  intro w hw
  have := List.mem_singleton.mp hw
  subst this
  exact ⟨hw, good_of_word rfl⟩
theorem room_ok {H : Heap} {locs : List Loc} {cells slots : Nat} {lsA : Array Slot} {o1 : AO} {ad : Nat × Nat → Nat} {ca : Nat × Nat → ClassId} (hF : FR D bs sa sc p R s m meth cc M d c i n0 s0 o) (hC : CXm D bs sa sc s hh ad0 n0 s0 M.2.2.1 ls st h H locs cells slots ad ca lsA) (hm : lin (alo h) ≤ lin (alo o1.2)) (hm2 : lin (alo o1.2) ≤ lin (alo o.2)) : cells + (lin (alo o1.2) - lin (alo h)) ≤ R.cells ∧ slots + (SL (lin (alo o1.2)) - SL (lin (alo h))) ≤ R.slots := by
  have h1 := hC.2.2.2.2.2.2.2.2
  have h2 := hF.2.2.2.2.2.2.2.2.2
  have h3 := SL_mono hm
  have h4 := SL_mono hm2
  constructor
  · omega
  · omega
variable {M' : MD} {c' i' n k t d' : Nat} {o1 : AO}
theorem g_static (hF : FR D bs sa sc p R s m meth cc M (d' + 1) c i n0 s0 o) (hM : md c' i' = some M') (hk : chkC1 c k t c' n M') (ht : t = 0 ∨ t = 3) (hn : n ≤ st.length) (h8 : catS (st.drop n) ≤ 8) (hcm : CM l D bs sa sc d' M' (st.take n).reverse h o1) (hm2 : lin (alo o1.2) ≤ lin (alo o.2)) (hdg : decode M.2.1 pc = .ok (.invokestatic k, 3)) (g : GX l D bs sa sc p e R s m args below meth cc Q M hh ad0 n0 s0 (pc + 3) ls (o1.1.toList ++ st.drop n) o1.2) : GX l D bs sa sc p e R s m args below meth cc Q M hh ad0 n0 s0 pc ls st h := by
  intro H locs cells slots ad ca lsA hC
  obtain ⟨hw1, hw2, hw3, hpar, hw4⟩ := hk
  obtain ⟨-, -, hcls, h19, hnn⟩ := md_ok hM
  have E := hF.2.2.2.2.2.2.1
  have hb : (bif Nat.beq t 0 || Nat.beq t 3 then inT (.static M'.1) else inT (.instanceMethod M'.1) ∧ (bif Nat.beq t 1 || Nat.beq t 4 then inT (.selects M'.1.cls M'.1 M'.1) ∧ c' < 9 ∧ (clOf c').1 = M'.1.cls else M'.1.name = "<init>" ∧ M'.2.2.2.1 = none)) = inT (.static M'.1) := by rcases ht with rfl | rfl <;> rfl
  rw [hb] at hw4
  have hlen : ((st.take n).reverse.map (cv ad)).length = n := by rw [List.length_map, List.length_reverse, List.length_take]; omega
  have hst : st.map (cv ad) = ((st.take n).reverse.map (cv ad)).reverse ++ (st.drop n).map (cv ad) := by
    rw [← List.map_reverse, List.reverse_reverse, ← List.map_append, List.take_append_drop]
  have hvs : ∀ v ∈ (st.take n).reverse, okv h v := fun v hv => hC.2.2.2.1 v (List.mem_of_mem_take (List.mem_reverse.mp hv))
  have hrs : ∀ v ∈ st.drop n, okv h v := fun v hv => hC.2.2.2.1 v (List.mem_of_mem_drop hv)
  have hfr : d' + 1 ≤ R.frames := hF.2.2.2.2.2.2.2.1
  have hlo : 38 * (d' + 1) ≤ R.locals := hF.2.2.2.2.2.2.2.2.1
  have hW : 2 * (F0 m pc lsA (st.map (cv ad))).monitorRoom + (((st.drop n).map (cv ad)).map fun v => v.category).sum ≤ 8 := by
    show 2 * 0 + _ ≤ 8
    rw [cv_catS]
    omega
  have hpre : PreS s H (PcX D bs sa sc (st.take n).reverse h ad ca) ((st.take n).reverse.map (cv ad)) := ⟨PcX.blind, PcX.pre hF hC.1 hC.2.1 hvs hC.2.2.2.2.2.1⟩
  refine g_back (A := ((st.take n).reverse.map (cv ad)).toArray) hC hrs hcm.1 ?_ g
  rcases ht with rfl | rfl
  · exact va_runS (Ts := [Cond.code M'.1 M'.2.1 M'.2.2.1 M'.2.2.2.1]) ⟨hF.2.1, hF.2.2.1, hF.2.2.2.1, hF.2.2.2.2.1, fun w hw => by rw [List.mem_singleton.mp hw]; exact E.w hw3⟩ (hcm.2 ad ca) ⟨callB_of n (fun w hw => by rw [List.mem_singleton.mp hw]; exact E.w hw3) (good1 _ _ _ _) rfl rfl rfl (E.w hw2) (E.w hw1) ⟨hnn.1, hnn.2, hpar⟩ ⟨hfr, by show 8 + (_ + 11) + 38 * d' ≤ _; omega⟩, E.w hw4⟩ hpre rfl hlen hC.2.2.1.1 hst hW hdg (room_ok hF hC hcm.1 hm2)
  · exact va_runSN (host := "SumDoor") (Ts := [Cond.code M'.1 M'.2.1 M'.2.2.1 M'.2.2.2.1]) ⟨hF.2.1, hF.2.2.1, hF.2.2.2.1, hF.2.2.2.2.1, fun w hw => by rw [List.mem_singleton.mp hw]; exact E.w hw3⟩ (hcm.2 ad ca) ⟨va_cnB n (fun w hw => by rw [List.mem_singleton.mp hw]; exact E.w hw3) (good1 _ _ _ _) rfl rfl rfl (E.w hw1) (E.w hw2) ⟨hnn.1, hnn.2, hpar⟩ ⟨hfr, by show 8 + (_ + 11) + 38 * d' ≤ _; omega⟩, E.w hw4, trivial⟩ hpre rfl hlen hC.2.2.1.1 hst hW hdg (room_ok hF hC hcm.1 hm2)
theorem g_virt {a : Nat × Nat} (hF : FR D bs sa sc p R s m meth cc M (d' + 1) c i n0 s0 o) (hM : md c' i' = some M') (hk : chkC1 c k t c' n M') (ht : t = 1 ∨ t = 4) (hn : n ≤ st.length) (hd : st.drop n = .inr (.inr (some a)) :: r) (h8 : catS r ≤ 8) (h1 : (shp a.1 a.2).1 = 0) (h2 : (shp a.1 a.2).2 = c') (hcm : CM l D bs sa sc d' M' (.inr (.inr (some a)) :: (st.take n).reverse) h o1) (hm2 : lin (alo o1.2) ≤ lin (alo o.2)) (hdg : decode M.2.1 pc = .ok (.invokevirtual k, 3)) (g : GX l D bs sa sc p e R s m args below meth cc Q M hh ad0 n0 s0 (pc + 3) ls (o1.1.toList ++ r) o1.2) : GX l D bs sa sc p e R s m args below meth cc Q M hh ad0 n0 s0 pc ls st h := by
  intro H locs cells slots ad ca lsA hC
  obtain ⟨hw1, hw2, hw3, hpar, hw4⟩ := hk
  obtain ⟨-, -, hcls, h19, hnn⟩ := md_ok hM
  have E := hF.2.2.2.2.2.2.1
  have hb : (bif Nat.beq t 0 || Nat.beq t 3 then inT (.static M'.1) else inT (.instanceMethod M'.1) ∧ (bif Nat.beq t 1 || Nat.beq t 4 then inT (.selects M'.1.cls M'.1 M'.1) ∧ c' < 9 ∧ (clOf c').1 = M'.1.cls else M'.1.name = "<init>" ∧ M'.2.2.2.1 = none)) = (inT (.instanceMethod M'.1) ∧ inT (.selects M'.1.cls M'.1 M'.1) ∧ c' < 9 ∧ (clOf c').1 = M'.1.cls) := by rcases ht with rfl | rfl <;> rfl
  rw [hb] at hw4
  obtain ⟨hw4, hw5, hc9, hcn⟩ := hw4
  have hst0 : ∀ v ∈ .inr (.inr (some a)) :: r, okv h v := fun v hv => hC.2.2.2.1 v (List.mem_of_mem_drop (hd ▸ hv))
  have haD : aD h a := (ok_head hst0).a (by rw [h1]; decide)
  have he := wsO_at (ad := ad) (ca := ca) haD
  rw [ce_obj h1 h2] at he
  have hlen : ((st.take n).reverse.map (cv ad)).length = n := by rw [List.length_map, List.length_reverse, List.length_take]; omega
  have hst : st.map (cv ad) = ((st.take n).reverse.map (cv ad)).reverse ++ .ref (ad a) :: r.map (cv ad) := by
    rw [← List.map_reverse, List.reverse_reverse, show Value.ref (ad a) :: r.map (cv ad) = (.inr (.inr (some a)) :: r).map (cv ad) from rfl, ← hd, ← List.map_append, List.take_append_drop]
  have hvs : ∀ v ∈ (.inr (.inr (some a)) : AV) :: (st.take n).reverse, okv h v := ok_cons (ok_head hst0) (fun v hv => hC.2.2.2.1 v (List.mem_of_mem_take (List.mem_reverse.mp hv)))
  have hfr : d' + 1 ≤ R.frames := hF.2.2.2.2.2.2.2.1
  have hlo : 38 * (d' + 1) ≤ R.locals := hF.2.2.2.2.2.2.2.2.1
  have hW : 2 * (F0 m pc lsA (st.map (cv ad))).monitorRoom + ((r.map (cv ad)).map fun v => v.category).sum ≤ 8 := by
    show 2 * 0 + _ ≤ 8
    rw [cv_catS]
    omega
  have hrecv := va_recv E.K hC.1.1 (cl_at c' hc9) he
  rw [hcn] at hrecv
  have hpre : PreV s H M'.1.cls (ad a) (PcX D bs sa sc (.inr (.inr (some a)) :: (st.take n).reverse) h ad ca) ((st.take n).reverse.map (cv ad)) := ⟨PcX.blind, hrecv, PcX.pre hF hC.1 hC.2.1 hvs hC.2.2.2.2.2.1⟩
  refine g_back (A := (Value.ref (ad a) :: (st.take n).reverse.map (cv ad)).toArray) hC (ok_tail hst0) hcm.1 ?_ g
  rcases ht with rfl | rfl
  · exact va_runV (Ts := [Cond.code M'.1 M'.2.1 M'.2.2.1 M'.2.2.2.1]) ⟨hF.2.1, hF.2.2.1, hF.2.2.2.1, hF.2.2.2.2.1, fun w hw => by rw [List.mem_singleton.mp hw]; exact E.w hw3⟩ (hcm.2 ad ca) ⟨callB_of n (fun w hw => by rw [List.mem_singleton.mp hw]; exact E.w hw3) (good1 _ _ _ _) rfl rfl rfl (E.w hw2) (E.w hw1) ⟨hnn.1, hnn.2, hpar⟩ ⟨hfr, by show 8 + (_ + 11) + 38 * d' ≤ _; omega⟩, E.w hw4, E.w hw5⟩ hpre rfl hlen hC.2.2.1.1 hst hW hdg (room_ok hF hC hcm.1 hm2)
  · exact va_runVN (host := "SumDoor") (Ts := [Cond.code M'.1 M'.2.1 M'.2.2.1 M'.2.2.2.1]) ⟨hF.2.1, hF.2.2.1, hF.2.2.2.1, hF.2.2.2.2.1, fun w hw => by rw [List.mem_singleton.mp hw]; exact E.w hw3⟩ (hcm.2 ad ca) ⟨va_cnB n (fun w hw => by rw [List.mem_singleton.mp hw]; exact E.w hw3) (good1 _ _ _ _) rfl rfl rfl (E.w hw1) (E.w hw2) ⟨hnn.1, hnn.2, hpar⟩ ⟨hfr, by show 8 + (_ + 11) + 38 * d' ≤ _; omega⟩, E.w hw4, E.w hw5⟩ hpre rfl hlen hC.2.2.1.1 hst hW hdg (room_ok hF hC hcm.1 hm2)
theorem g_spec {a : Nat × Nat} (hF : FR D bs sa sc p R s m meth cc M (d' + 1) c i n0 s0 o) (hM : md c' i' = some M') (hk : chkC1 c k t c' n M') (ht : t = 2 ∨ t = 5) (hn : n ≤ st.length) (hd : st.drop n = .inr (.inr (some a)) :: r) (h8 : catS r ≤ 8) (hcm : CM l D bs sa sc d' M' (.inr (.inr (some a)) :: (st.take n).reverse) h o1) (hm2 : lin (alo o1.2) ≤ lin (alo o.2)) (hdg : decode M.2.1 pc = .ok (.invokespecial k, 3)) (g : GX l D bs sa sc p e R s m args below meth cc Q M hh ad0 n0 s0 (pc + 3) ls (o1.1.toList ++ r) o1.2) : GX l D bs sa sc p e R s m args below meth cc Q M hh ad0 n0 s0 pc ls st h := by
  intro H locs cells slots ad ca lsA hC
  obtain ⟨hw1, hw2, hw3, hpar, hw4⟩ := hk
  obtain ⟨-, -, hcls, h19, hnn⟩ := md_ok hM
  have E := hF.2.2.2.2.2.2.1
  have hb : (bif Nat.beq t 0 || Nat.beq t 3 then inT (.static M'.1) else inT (.instanceMethod M'.1) ∧ (bif Nat.beq t 1 || Nat.beq t 4 then inT (.selects M'.1.cls M'.1 M'.1) ∧ c' < 9 ∧ (clOf c').1 = M'.1.cls else M'.1.name = "<init>" ∧ M'.2.2.2.1 = none)) = (inT (.instanceMethod M'.1) ∧ M'.1.name = "<init>" ∧ M'.2.2.2.1 = none) := by rcases ht with rfl | rfl <;> rfl
  rw [hb] at hw4
  obtain ⟨hw4, hni, hrt⟩ := hw4
  have hst0 : ∀ v ∈ .inr (.inr (some a)) :: r, okv h v := fun v hv => hC.2.2.2.1 v (List.mem_of_mem_drop (hd ▸ hv))
  have hlen : ((st.take n).reverse.map (cv ad)).length = n := by rw [List.length_map, List.length_reverse, List.length_take]; omega
  have hst : st.map (cv ad) = ((st.take n).reverse.map (cv ad)).reverse ++ .ref (ad a) :: r.map (cv ad) := by
    rw [← List.map_reverse, List.reverse_reverse, show Value.ref (ad a) :: r.map (cv ad) = (.inr (.inr (some a)) :: r).map (cv ad) from rfl, ← hd, ← List.map_append, List.take_append_drop]
  have hvs : ∀ v ∈ (.inr (.inr (some a)) : AV) :: (st.take n).reverse, okv h v := ok_cons (ok_head hst0) (fun v hv => hC.2.2.2.1 v (List.mem_of_mem_take (List.mem_reverse.mp hv)))
  have hfr : d' + 1 ≤ R.frames := hF.2.2.2.2.2.2.2.1
  have hlo : 38 * (d' + 1) ≤ R.locals := hF.2.2.2.2.2.2.2.2.1
  have hW : 2 * (F0 m pc lsA (st.map (cv ad))).monitorRoom + ((r.map (cv ad)).map fun v => v.category).sum ≤ 8 := by
    show 2 * 0 + _ ≤ 8
    rw [cv_catS]
    omega
  have hpre : PreS s H (PcX D bs sa sc (.inr (.inr (some a)) :: (st.take n).reverse) h ad ca) (.ref (ad a) :: (st.take n).reverse.map (cv ad)) := ⟨PcX.blind, PcX.pre hF hC.1 hC.2.1 hvs hC.2.2.2.2.2.1⟩
  have hmet := hcm.2 ad ca
  rw [hrt] at hmet hw3
  refine g_back (A := (Value.ref (ad a) :: (st.take n).reverse.map (cv ad)).toArray) hC (ok_tail hst0) hcm.1 ?_ g
  rcases ht with rfl | rfl
  · exact va_runI (Ts := [Cond.code M'.1 M'.2.1 M'.2.2.1 none]) ⟨hF.2.1, hF.2.2.1, hF.2.2.2.1, hF.2.2.2.2.1, fun w hw => by rw [List.mem_singleton.mp hw]; exact E.w hw3⟩ hmet ⟨callB_of n (fun w hw => by rw [List.mem_singleton.mp hw]; exact E.w hw3) (good1 _ _ _ _) rfl rfl rfl (E.w hw2) (E.w hw1) ⟨hnn.1, hnn.2, hpar⟩ ⟨hfr, by show 8 + (_ + 11) + 38 * d' ≤ _; omega⟩, hni, E.w hw4⟩ hpre rfl hlen hC.2.2.1.1 hst hW hdg (room_ok hF hC hcm.1 hm2)
  · exact va_runIN (host := "SumDoor") (Ts := [Cond.code M'.1 M'.2.1 M'.2.2.1 none]) ⟨hF.2.1, hF.2.2.1, hF.2.2.2.1, hF.2.2.2.2.1, fun w hw => by rw [List.mem_singleton.mp hw]; exact E.w hw3⟩ hmet ⟨va_cnB n (fun w hw => by rw [List.mem_singleton.mp hw]; exact E.w hw3) (good1 _ _ _ _) rfl rfl rfl (E.w hw1) (E.w hw2) ⟨hnn.1, hnn.2, hpar⟩ ⟨hfr, by show 8 + (_ + 11) + 38 * d' ≤ _; omega⟩, hni, E.w hw4⟩ hpre rfl hlen hC.2.2.1.1 hst hW hdg (room_ok hF hC hcm.1 hm2)
end SND4
