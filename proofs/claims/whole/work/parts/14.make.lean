theorem lkp_all {α : Type} {P : α → Prop} {x : α} : ∀ {l : List α}, (∀ a ∈ l, P a) → P x → ∀ j, P (lkp x l j)
  | [], _, hx, _ => hx
  | a :: l, h, _, 0 => h a List.mem_cons_self
  | a :: l, h, hx, j + 1 => lkp_all (l := l) (fun b hb => h b (List.mem_cons_of_mem _ hb)) hx j
theorem shp_small (g j : Nat) : (shp g j).2 < 1000 := by
  cases g with
  | zero => exact lkp_all (P := fun q : Nat × Nat => q.2 < 1000) (l := shp0) (by decide +kernel) (by decide) j
  | succ g => exact lkp_all (P := fun q : Nat × Nat => q.2 < 1000) (l := shpT) (by decide +kernel) (by decide) j
theorem ck_kd9 : (List.range 9).all (fun ci => (List.range (nF ci)).all (fun k => Nat.ble (fkd ci k) 2)) = true := by decide +kernel
def adU (ad : Nat × Nat → Nat) (h : AH) (q : Nat) : Nat × Nat → Nat := fun b => if b = alo h then q else ad b
def caU (ca : Nat × Nat → ClassId) (h : AH) (q : ClassId) : Nat × Nat → ClassId := fun b => if b = alo h then q else ca b
theorem aD_ne {h : AH} {b : Nat × Nat} (hb : aD h b) : b ≠ alo h := fun q => absurd hb.2 (by rw [q]; exact Nat.lt_irrefl _)
theorem isS_ne {h : AH} {b : Nat × Nat} (hb : isS b) (ho : okA (alo h)) : b ≠ alo h := by
  intro q
  rw [← q] at ho
  obtain ⟨g, j⟩ := b
  obtain ⟨h1, h2, h3⟩ := hb
  have h1 : g = 0 := h1
  subst h1
  have : j < 71 := ho
  have h2 : 1000 ≤ j := h2
  omega
theorem adU_ext {ad : Nat × Nat → Nat} {h : AH} {q : Nat} (ho : okA (alo h)) : ∀ a, aD h a ∨ isS a → adU ad h q a = ad a := by
  rintro a (ha | ha)
  · exact if_neg (aD_ne ha)
  · exact if_neg (isS_ne ha ho)
theorem newc_I {h : AH} {b : Nat × Nat} (hb : b ≠ alo h) : (newc h).1 b.1 b.2 = h.1 b.1 b.2 := funext fun _ => if_neg (ne_pair hb)
theorem newc_R {h : AH} {b : Nat × Nat} (hb : b ≠ alo h) : (newc h).2.1 b.1 b.2 = h.2.1 b.1 b.2 := funext fun _ => if_neg (ne_pair hb)
theorem newc_I0 (h : AH) : (newc h).1 (alo h).1 (alo h).2 = fun _ => 0 := funext fun _ => if_pos ⟨rfl, rfl⟩
theorem newc_R0 (h : AH) : (newc h).2.1 (alo h).1 (alo h).2 = fun _ => none := funext fun _ => if_pos ⟨rfl, rfl⟩
theorem ce_new {ad : Nat × Nat → Nat} {ca : Nat × Nat → ClassId} {h : AH} {q : Nat} {cA : ClassId} {b : Nat × Nat} (hb : aD h b) (hr : ∀ k z, h.2.1 b.1 b.2 k = some z → aD h z) : ce (adU ad h q) (caU ca h cA) (newc h) b = ce ad ca h b := by
  have hne := aD_ne hb
  have e2 : ∀ k, (h.2.1 b.1 b.2 k).map (adU ad h q) = (h.2.1 b.1 b.2 k).map ad := by
    intro k
    cases hk : h.2.1 b.1 b.2 k with
    | none => rfl
    | some z => exact congrArg some (if_neg (aD_ne (hr k z hk)))
  unfold ce ceF
  rw [newc_I hne, newc_R hne, show caU ca h cA b = ca b from if_neg hne]
  simp only [e2]
section SND3
variable {l : Launch} {D : va_G} {bs : Nat} {sa : Nat → Nat} {sc : Nat × (Nat → Int32)}
variable {p : Program} {e : Env} {R : Room} {s : State} {m : MethodId} {args : Array Value} {below : List Frame} {meth : Method} {cc : Code} {Q : State → Prop} {M : MD} {d c i : Nat} {hh : AH} {ad0 : Nat × Nat → Nat} {n0 s0 : Nat} {o : AO}
variable {pc : Nat} {ls : List (Option AV)} {st r : List AV} {h : AH}
theorem ws_new {H : Heap} {ad : Nat × Nat → Nat} {ca : Nat × Nat → ClassId} (q : Nat) (cA : ClassId) (w : WD D bs sc ad ca h H s) : wsO ad ca h ++ [(q, ce (adU ad h q) (caU ca h cA) (newc h) (alo h))] = wsO (adU ad h q) (caU ca h cA) (newc h) := by
  rw [wsO_push (ad := ad) (ca := ca) (h := h) (h' := newc h) (ad' := adU ad h q) (ca' := caU ca h cA) w.2.2.1 rfl (fun b hb => ⟨if_neg (aD_ne hb), ce_new hb (w.2.2.2.2.1 b hb)⟩)]
  rw [show adU ad h q (alo h) = q from if_pos rfl]
theorem aD_new {b : Nat × Nat} (ho : okA (alo h)) (hb : aD (newc h) b) : aD h b ∨ b = alo h := by
  obtain ⟨h1, h2⟩ := hb
  rw [show alo (newc h) = nxt (alo h) from rfl, (nxt_ok ho).2] at h2
  rcases Nat.lt_or_ge (lin b) (lin (alo h)) with q | q
  · exact Or.inl ⟨h1, q⟩
  · exact Or.inr (lin_inj h1 ho (by omega))
theorem SL_new (ho : okA (alo h)) : SL (lin (alo (newc h))) = SL (lin (alo h)) + slw (shp (alo h).1 (alo h).2) := by
  rw [show alo (newc h) = nxt (alo h) from rfl, (nxt_ok ho).2]
  show SL (lin (alo h)) + slw (shp (unl (lin (alo h))).1 (unl (lin (alo h))).2) = _
  rw [unl_lin ho]
theorem CXm.new {nL : Nat} {H H1 : Heap} {locs : List Loc} {cells slots : Nat} {ad : Nat × Nat → Nat} {ca : Nat × Nat → ClassId} {lsA : Array Slot} {q : Nat} {cA : ClassId} (hC : CXm D bs sa sc s hh ad0 n0 s0 nL ls st h H locs cells slots ad ca lsA) (hr : ∀ v ∈ r, okv h v) (hP : va_P D sd_cl (wsO (adU ad h q) (caU ca h cA) (newc h)) H1) (hD : va_D (fun q => bs ≤ q) (wsO (adU ad h q) (caU ca h cA) (newc h))) (hS : va_S (fun q => bs ≤ q) s.heap H1 locs) (hA : ∀ ty, aty (shp (alo h).1 (alo h).2).1 = some ty → ArrOfT s cA ty ∧ va_RA s cA ty) : CXm D bs sa sc s hh ad0 n0 s0 nL ls (.inr (.inr (some (alo h))) :: r) (newc h) H1 locs (cells + 1) (slots + slw (shp (alo h).1 (alo h).2)) (adU ad h q) (caU ca h cA) lsA := by
  have ho := hC.1.2.2.1
  have hn := nxt_ok ho
  have hle : lin (alo h) ≤ lin (alo (newc h)) := by rw [show alo (newc h) = nxt (alo h) from rfl, hn.2]; omega
  have hx := adU_ext (ad := ad) (q := q) ho
  refine ⟨⟨hP, hD, hn.1, ?_, ?_, hC.1.2.2.2.2.2⟩, hS, hC.2.2.1.ext hx hC.2.2.2.2.1, ?_, fun k v hk => (hC.2.2.2.2.1 k v hk).mono hle, ?_, ?_, Nat.le_trans hC.2.2.2.2.2.2.2.1 hle, ?_, ?_⟩
  · intro a ha ty ht
    rcases aD_new ho ha with q1 | q1
    · rw [show caU ca h cA a = ca a from if_neg (aD_ne q1)]
      exact hC.1.2.2.2.1 a q1 ty ht
    · subst q1
      rw [show caU ca h cA (alo h) = cA from if_pos rfl]
      exact hA ty ht
  · intro a ha k b hb
    rcases aD_new ho ha with q1 | q1
    · rw [newc_R (aD_ne q1)] at hb
      have := hC.1.2.2.2.2.1 a q1 k b hb
      exact ⟨this.1, Nat.lt_of_lt_of_le this.2 hle⟩
    · subst q1
      rw [newc_R0] at hb
      cases hb
  · refine ok_cons (Or.inl ⟨ho, ?_⟩) (fun v hv => (hr v hv).mono hle)
    rw [show alo (newc h) = nxt (alo h) from rfl, hn.2]
    omega
  · intro k hk
    rw [← hC.2.2.2.2.2.1 k hk]
    exact hx _ (Or.inr ⟨rfl, by show 1000 ≤ 1000 + k; omega, by show 1000 + k < 1004; omega⟩)
  · intro a ha
    have ha2 : aD h a := ⟨ha.1, Nat.lt_of_lt_of_le ha.2 hC.2.2.2.2.2.2.2.1⟩
    rw [hx a (Or.inl ha2)]
    exact hC.2.2.2.2.2.2.1 a ha
  · rw [show alo (newc h) = nxt (alo h) from rfl, hn.2]
    have := hC.2.2.2.2.2.2.2.2.1
    omega
  · rw [SL_new ho]
    have := hC.2.2.2.2.2.2.2.2.2
    omega
theorem new_room {nL : Nat} {H : Heap} {locs : List Loc} {cells slots : Nat} {ad : Nat × Nat → Nat} {ca : Nat × Nat → ClassId} {lsA : Array Slot} (hF : FR D bs sa sc p R s m meth cc M d c i n0 s0 o) (hC : CXm D bs sa sc s hh ad0 n0 s0 nL ls st h H locs cells slots ad ca lsA) (hm : lin (alo (newc h)) ≤ lin (alo o.2)) : cells + 1 ≤ R.cells ∧ slots + slw (shp (alo h).1 (alo h).2) ≤ R.slots := by
  have ho := hC.1.2.2.1
  have h1 : lin (alo (newc h)) = lin (alo h) + 1 := (nxt_ok ho).2
  have h2 := SL_new ho
  have h3 := SL_mono hm
  have h4 := hC.2.2.2.2.2.2.2.2
  have h5 := hF.2.2.2.2.2.2.2.2.2
  constructor
  · omega
  · omega
theorem map_new {ad : Nat × Nat → Nat} {q : Nat} (ho : okA (alo h)) (hr : ∀ v ∈ r, okv h v) : (((.inr (.inr (some (alo h))) : AV)) :: r).map (cv (adU ad h q)) = .ref q :: r.map (cv ad) := by
  rw [List.map_cons, map_ext (adU_ext ho) hr]
  exact congrArg (fun z => Value.ref z :: r.map (cv ad)) (if_pos rfl)
theorem old_A (hF : FR D bs sa sc p R s m meth cc M d c i n0 s0 o) : ∀ q : Nat, s.heap.size ≤ q → (fun q => bs ≤ q) q := fun q hq => Nat.le_trans hF.2.2.2.2.2.2.1.2.2.2.2.1 hq
theorem g_new {k ci : Nat} (hF : FR D bs sa sc p R s m meth cc M d c i n0 s0 o) (hk : alk (lkp [] sd_nt c) k = some ci) (h1 : (shp (alo h).1 (alo h).2).1 = 0) (h2 : (shp (alo h).1 (alo h).2).2 = ci) (hm : lin (alo (newc h)) ≤ lin (alo o.2)) (hdg : decode M.2.1 pc = .ok (.new k, 3)) (g : GX l D bs sa sc p e R s m args below meth cc Q M hh ad0 n0 s0 (pc + 3) ls (.inr (.inr (some (alo h))) :: st) (newc h)) : GX l D bs sa sc p e R s m args below meth cc Q M hh ad0 n0 s0 pc ls st h := by
  intro H locs cells slots ad ca lsA hC
  obtain ⟨hw1, hw2, hw3, hci, hcn⟩ := ckN c _ (alk_mem hk)
  have hci : ci < 9 := hci
  have hcn : (clOf ci).1 = ownOf ci := hcn
  have E := hF.2.2.2.2.2.2.1
  have hrm := new_room hF hC hm
  have hsl : slw (shp (alo h).1 (alo h).2) = nF ci := by unfold slw; rw [h1, h2] <;> rfl
  rw [hsl] at hrm
  have hfs : ∀ j, j < nF ci → defaultValue (tyOf ci j) = vp_V ((List.range (nF ci)).map (fun k => bif Nat.beq (fkd ci k) 2 then Value.null else .int 0)) j := by
    intro j hj
    have e1 : vp_V ((List.range (nF ci)).map (fun k => bif Nat.beq (fkd ci k) 2 then Value.null else .int 0)) j = bif Nat.beq (fkd ci j) 2 then Value.null else .int 0 := by
      rw [vp_V, List.getD_eq_getElem?_getD, List.getElem?_map, List.getElem?_range hj]
      rfl
    rw [e1]
    have h9 := List.all_eq_true.mp (List.all_eq_true.mp ck_kd9 ci (List.mem_range.mpr hci)) j (List.mem_range.mpr hj)
    have h9 := Nat.le_of_ble_eq_true h9
    have hk1 := (kd_ok hci hj).1
    cases ht : tyOf ci j <;> rw [ht] at hk1 <;> simp only [kdT] at hk1 <;> first | (rw [hk1]; rfl) | omega
  refine va_new (C := (clOf ci).1) (T := (clOf ci).2.1) (N := nF ci) hF.2.1 hF.2.2.1 (E.cw hci) (fun w h => h) (tyOf ci) (ty_ok ci hci) hF.2.2.2.2.1 (by rw [hcn]; exact E.w hw1) (by rw [hcn]; exact E.w hw2) (by rw [hcn]; exact E.w hw3) E.K hC.1.1 hC.1.2.1 hC.2.1 (old_A hF) (cl_at ci hci) hfs hrm.1 hrm.2 hdg (fun q H1 hP hD hS => ?_)
  have e1 : ce (adU ad h q) (caU ca h 0) (newc h) (alo h) = .inr (ci, (List.range (nF ci)).map (fun k => bif Nat.beq (fkd ci k) 2 then Value.null else .int 0)) := by
    rw [ce_obj h1 h2, ceF, newc_I0, newc_R0]
    rfl
  rw [← e1, ws_new q 0 hC.1] at hP hD
  rw [← hsl]
  have g2 := g H1 locs (cells + 1) (slots + slw (shp (alo h).1 (alo h).2)) _ _ lsA (hC.new hC.2.2.2.1 hP hD hS (fun ty ht => by rw [h1] at ht; cases ht))
  rw [map_new hC.1.2.2.1 hC.2.2.2.1] at g2
  exact g2
theorem len_ok {x : Int32} {n : Nat} (hn : n < 1000) (hx : x = Int32.ofNat n) : ¬ x < 0 ∧ x.toNatClampNeg = n := by
  subst hx
  exact ⟨nI_pos (n := n) (by omega), nI_clamp (n := n) (by omega)⟩
theorem g_newa {x : Int32} (hF : FR D bs sa sc p R s m meth cc M d c i n0 s0 o) (h1 : (shp (alo h).1 (alo h).2).1 = 1) (hx : x = Int32.ofNat (shp (alo h).1 (alo h).2).2) (hm : lin (alo (newc h)) ≤ lin (alo o.2)) (hdg : decode M.2.1 pc = .ok (.newarray .int, 2)) (g : GX l D bs sa sc p e R s m args below meth cc Q M hh ad0 n0 s0 (pc + 2) ls (.inr (.inr (some (alo h))) :: r) (newc h)) : GX l D bs sa sc p e R s m args below meth cc Q M hh ad0 n0 s0 pc ls (.inl x :: r) h := by
  intro H locs cells slots ad ca lsA hC
  have E := hF.2.2.2.2.2.2.1
  have hrm := new_room hF hC hm
  have hsl : slw (shp (alo h).1 (alo h).2) = (shp (alo h).1 (alo h).2).2 := by unfold slw; rw [h1] <;> rfl
  rw [hsl] at hrm
  have hsm := shp_small (alo h).1 (alo h).2
  obtain ⟨n1, n2⟩ := len_ok hsm hx
  refine va_newa (atype := .int) (ty := .int) (a0 := ((shp (alo h).1 (alo h).2).2, .inl (fun _ => 0))) hF.2.1 hF.2.2.1 (E.w ckA) rfl E.K hC.1.1 hC.1.2.1 hC.2.1 (old_A hF) (fun cA => rfl) n1 n2 (by show _ * 4 ≤ _; omega) hrm.1 hrm.2 hdg (fun q cA H1 hK hP hD hS => ?_)
  have e1 : ce (adU ad h q) (caU ca h cA) (newc h) (alo h) = .inl (cA, (shp (alo h).1 (alo h).2).2, .inl (fun _ => 0)) := by
    rw [ce_int h1, newc_I0, show caU ca h cA (alo h) = cA from if_pos rfl]
  rw [← e1, ws_new q cA hC.1] at hP hD
  have hst := ok_tail hC.2.2.2.1
  have g2 := g H1 locs (cells + 1) (slots + slw (shp (alo h).1 (alo h).2)) _ _ lsA (hC.new hst hP hD hS (fun ty ht => by rw [h1] at ht; cases ht; exact hK.2 0 _ rfl))
  rw [map_new hC.1.2.2.1 hst, hsl] at g2
  exact g2
theorem g_anewa {x : Int32} {k ci : Nat} (hF : FR D bs sa sc p R s m meth cc M d c i n0 s0 o) (hk : alk (lkp [] sd_nt c) k = some ci) (h1 : ((shp (alo h).1 (alo h).2).1 = 2 ∧ ci = 5) ∨ ((shp (alo h).1 (alo h).2).1 = 3 ∧ ci = 1)) (hx : x = Int32.ofNat (shp (alo h).1 (alo h).2).2) (hm : lin (alo (newc h)) ≤ lin (alo o.2)) (hdg : decode M.2.1 pc = .ok (.anewarray k, 3)) (g : GX l D bs sa sc p e R s m args below meth cc Q M hh ad0 n0 s0 (pc + 3) ls (.inr (.inr (some (alo h))) :: r) (newc h)) : GX l D bs sa sc p e R s m args below meth cc Q M hh ad0 n0 s0 pc ls (.inl x :: r) h := by
  intro H locs cells slots ad ca lsA hC
  have E := hF.2.2.2.2.2.2.1
  obtain ⟨hw1, -, -, -, -⟩ := ckN c _ (alk_mem hk)
  have hrm := new_room hF hC hm
  have h2 : (shp (alo h).1 (alo h).2).1 = 2 ∨ (shp (alo h).1 (alo h).2).1 = 3 := h1.imp (fun q => q.1) (fun q => q.1)
  have hsl : slw (shp (alo h).1 (alo h).2) = (shp (alo h).1 (alo h).2).2 := by unfold slw; rcases h2 with q | q <;> rw [q] <;> rfl
  rw [hsl] at hrm
  have hsm := shp_small (alo h).1 (alo h).2
  obtain ⟨n1, n2⟩ := len_ok hsm hx
  have hst := ok_tail hC.2.2.2.1
  obtain ⟨C, hty, hCn, hAO⟩ : ∃ C, aty (shp (alo h).1 (alo h).2).1 = some (.object C) ∧ ownOf ci = C ∧ va_AO C s := by
    rcases h1 with ⟨q1, q2⟩ | ⟨q1, q2⟩
    · rw [q1, q2]; exact ⟨_, rfl, rfl, E.2.2.1⟩
    · rw [q1, q2]; exact ⟨_, rfl, rfl, E.2.2.2.1⟩
  subst hCn
  refine va_newq hF.2.1 hF.2.2.1 hF.2.2.2.2.1 (E.w hw1) hAO E.K hC.1.1 hC.1.2.1 hC.2.1 (old_A hF) n1 n2 (by omega) hrm.1 hrm.2 hdg (fun q cA H1 hK hP hD hS => ?_)
  have e1 : ce (adU ad h q) (caU ca h cA) (newc h) (alo h) = .inl (cA, (shp (alo h).1 (alo h).2).2, .inr (.inr (.inr (.inr (fun _ => none))))) := by
    rw [ce_ref h2, newc_R0, show caU ca h cA (alo h) = cA from if_pos rfl]
    rfl
  rw [← e1, ws_new q cA hC.1] at hP hD
  have g2 := g H1 locs (cells + 1) (slots + slw (shp (alo h).1 (alo h).2)) _ _ lsA (hC.new hst hP hD hS (fun ty ht => by rw [hty] at ht; cases ht; exact hK.2 0 _ rfl))
  rw [map_new hC.1.2.2.1 hst, hsl] at g2
  exact g2
theorem g_oinit {k : Nat} {a : Nat × Nat} (hF : FR D bs sa sc p R s m meth cc M d c i n0 s0 o) (hd : 1 ≤ d) (hk : chkC c (k, 6, 0, 0, 0)) (hr8 : catS r ≤ 8) (hdg : decode M.2.1 pc = .ok (.invokespecial k, 3)) (g : GX l D bs sa sc p e R s m args below meth cc Q M hh ad0 n0 s0 (pc + 3) ls r h) : GX l D bs sa sc p e R s m args below meth cc Q M hh ad0 n0 s0 pc ls (.inr (.inr (some a)) :: r) h := by
  intro H locs cells slots ad ca lsA hC
  obtain ⟨hw1, hw2, hw3⟩ := hk
  have E := hF.2.2.2.2.2.2.1
  have h1 := hF.2.2.2.2.2.2.2.1
  have h2 := hF.2.2.2.2.2.2.2.2.1
  refine W.objInit hF.2.1 hF.2.2.1 hF.2.2.2.2.1 (E.w hw1) (E.w hw2) (E.w hw3) rfl (hC.2.2.1.1.trans hF.2.2.2.1.symm) rfl hdg (by omega) ?_ (g _ _ _ _ _ _ _ (hC.st (ok_tail hC.2.2.2.1)))
  show 2 * 0 + _ + 12 ≤ _
  rw [cv_catS]
  omega
theorem nfw : nativeFrameWords "java/lang/System" "arraycopy" 5 = 7 := by decide +kernel
theorem wA_I (h : AH) (g j : Nat) (f : Nat → Int32) (g' j' k' : Nat) : (wA h g j f).1 g' j' k' = if g' = g ∧ j' = j then f k' else h.1 g' j' k' := rfl
theorem g_copy {k : Nat} {a b : Nat × Nat} {n dp sp : Int32} (hF : FR D bs sa sc p R s m meth cc M d c i n0 s0 o) (hd : 1 ≤ d) (hk : chkC c (k, 7, 0, 0, 0)) (hr8 : catS r ≤ 8) (ha1 : (shp a.1 a.2).1 = 1) (hb1 : (shp b.1 b.2).1 = 1) (h1 : ¬ sp < 0) (h2 : ¬ dp < 0) (h3 : ¬ n < 0) (h4 : sp.toNatClampNeg + n.toNatClampNeg ≤ (shp a.1 a.2).2) (h5 : dp.toNatClampNeg + n.toNatClampNeg ≤ (shp b.1 b.2).2) (hdg : decode M.2.1 pc = .ok (.invokestatic k, 3)) (g : GX l D bs sa sc p e R s m args below meth cc Q M hh ad0 n0 s0 (pc + 3) ls r (wA h b.1 b.2 (va_cpy (h.1 a.1 a.2) (h.1 b.1 b.2) sp.toNatClampNeg dp.toNatClampNeg n.toNatClampNeg))) : GX l D bs sa sc p e R s m args below meth cc Q M hh ad0 n0 s0 pc ls (.inl n :: .inl dp :: .inr (.inr (some b)) :: .inl sp :: .inr (.inr (some a)) :: r) h := by
  intro H locs cells slots ad ca lsA hC
  obtain ⟨hw1, hw2, hw3, hw4⟩ := hk
  have E := hF.2.2.2.2.2.2.1
  have f1 := hF.2.2.2.2.2.2.2.1
  have f2 := hF.2.2.2.2.2.2.2.2.1
  have hbD : aD h b := (ok_head (ok_tail (ok_tail hC.2.2.2.1))).a (by rw [hb1]; decide)
  have haD : aD h a := (ok_head (ok_tail (ok_tail (ok_tail (ok_tail hC.2.2.2.1))))).a (by rw [ha1]; decide)
  have hea := wsO_at (ad := ad) (ca := ca) haD
  rw [ce_int ha1] at hea
  have heb := wsO_at (ad := ad) (ca := ca) hbD
  rw [ce_int hb1] at heb
  have hK := (E.K1 (hC.1.2.2.2.1 a haD .int (by rw [ha1]; rfl))).app (E.K1 (hC.1.2.2.2.1 b hbD .int (by rw [hb1]; rfl)))
  refine va_copyi hF.2.1 hF.2.2.1 (hF.2.2.2.1.trans hC.2.2.1.1.symm) hF.2.2.2.2.1 (E.w hw1) (E.w hw2) (E.w hw3) (E.w hw4) hK hC.1.1 hC.1.2.1 hC.2.1 (lin a) (lin b) 0 1 hea heb rfl rfl rfl h1 h2 h3 h4 h5 (fun _ _ => rfl) (by omega) (by rw [cv_catS, nfw]; omega) hdg (fun H1 locs1 hP hD hS => ?_)
  have hset : (wsO ad ca h).set (lin b) (ad b, .inl (ca b, (shp b.1 b.2).2, .inl (va_cpy (h.1 a.1 a.2) (h.1 b.1 b.2) sp.toNatClampNeg dp.toNatClampNeg n.toNatClampNeg))) = wsO ad ca (wA h b.1 b.2 (va_cpy (h.1 a.1 a.2) (h.1 b.1 b.2) sp.toNatClampNeg dp.toNatClampNeg n.toNatClampNeg)) := by
    have e1 : ce ad ca (wA h b.1 b.2 (va_cpy (h.1 a.1 a.2) (h.1 b.1 b.2) sp.toNatClampNeg dp.toNatClampNeg n.toNatClampNeg)) b = .inl (ca b, (shp b.1 b.2).2, .inl (va_cpy (h.1 a.1 a.2) (h.1 b.1 b.2) sp.toNatClampNeg dp.toNatClampNeg n.toNatClampNeg)) := by
      rw [ce_int hb1]
      congr 4
      funext j
      rw [wA_I, if_pos ⟨rfl, rfl⟩]
    rw [← e1]
    exact wsO_set hbD rfl (fun z hz => ce_congr (fun j => by rw [wA_I, if_neg (ne_pair hz)]) (fun _ => rfl))
  rw [hset] at hP hD
  exact g _ _ _ _ _ _ _ ⟨⟨hP, hD, hC.1.2.2⟩, hS, hC.2.2.1, ok_tail (ok_tail (ok_tail (ok_tail (ok_tail hC.2.2.2.1)))), hC.2.2.2.2⟩
end SND3
