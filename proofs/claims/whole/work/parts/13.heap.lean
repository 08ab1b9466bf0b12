theorem cv_ext {h : AH} {ad ad' : Nat × Nat → Nat} (hx : ∀ a, aD h a ∨ isS a → ad' a = ad a) : ∀ {v : AV}, okv h v → cv ad' v = cv ad v
  | .inl _, _ => rfl
  | .inr (.inl _), _ => rfl
  | .inr (.inr none), _ => rfl
  | .inr (.inr (some a)), hv => congrArg Value.ref (hx a hv)
theorem map_ext {h : AH} {ad ad' : Nat × Nat → Nat} (hx : ∀ a, aD h a ∨ isS a → ad' a = ad a) {st : List AV} (hs : ∀ v ∈ st, okv h v) : st.map (cv ad') = st.map (cv ad) := List.map_congr_left (fun v hv => cv_ext hx (hs v hv))
theorem lsR.ext {h : AH} {ad ad' : Nat × Nat → Nat} (hx : ∀ a, aD h a ∨ isS a → ad' a = ad a) {n : Nat} {ls : List (Option AV)} {lsA : Array Slot} (hl : ∀ k v, lkp none ls k = some v → okv h v) (hr : lsR ad n ls lsA) : lsR ad' n ls lsA :=
  ⟨hr.1, hr.2.1, hr.2.2.1, fun k v hk => by rw [cv_ext hx (hl k v hk)]; exact hr.2.2.2 k v hk⟩
theorem ext_S {ad ad' : Nat × Nat → Nat} {sa : Nat → Nat} {h : AH} (h1 : ∀ a, aD h a → ad' a = ad a) (h2 : ∀ k, k < 4 → ad (0, 1000 + k) = sa k) (h3 : ∀ k, k < 4 → ad' (0, 1000 + k) = sa k) : ∀ a, aD h a ∨ isS a → ad' a = ad a := by
  rintro ⟨g, j⟩ (q | ⟨q1, q2, q3⟩)
  · exact h1 _ q
  · have q1 : g = 0 := q1
    have q2 : 1000 ≤ j := q2
    have q3 : j < 1004 := q3
    subst q1
    obtain ⟨k, rfl⟩ : ∃ k, j = 1000 + k := ⟨j - 1000, by omega⟩
    rw [h2 k (by omega), h3 k (by omega)]
theorem kd_ok {ci f : Nat} (hci : ci < 9) (hf : f < nF ci) : fkd ci f = kdT (tyOf ci f) ∧ ffd ci f = (fOf ci f).2.2.2 := by
  have h1 := List.all_eq_true.mp (List.all_eq_true.mp ck_kd ci (List.mem_range.mpr hci)) f (List.mem_range.mpr hf)
  simp only [Bool.and_eq_true, beq_iff_eq] at h1
  exact ⟨Nat.eq_of_beq_eq_true h1.1, h1.2⟩
theorem beq_t {a b : Nat} (h : a = b) : Nat.beq a b = true := by subst h; exact Nat.beq_refl a
theorem beq_f {a b : Nat} (h : a ≠ b) : Nat.beq a b = false := by
  cases hq : Nat.beq a b with
  | true => exact absurd (Nat.eq_of_beq_eq_true hq) h
  | false => rfl
theorem int_kd {ci f : Nat} (hci : ci < 9) (hf : f < nF ci) (hk : fkd ci f = 0) : tyOf ci f = .int := by
  have h1 := (kd_ok hci hf).1
  rw [hk] at h1
  cases ht : tyOf ci f <;> rw [ht] at h1 <;> first | rfl | (simp [kdT] at h1)
theorem bool_kd {ci f : Nat} (hci : ci < 9) (hf : f < nF ci) (hk : fkd ci f = 1) : tyOf ci f = .boolean := by
  have h1 := (kd_ok hci hf).1
  rw [hk] at h1
  cases ht : tyOf ci f <;> rw [ht] at h1 <;> first | rfl | (simp [kdT] at h1)
theorem ref_kd {ci f : Nat} (hci : ci < 9) (hf : f < nF ci) (hk : fkd ci f = 2) (a : Nat) : narrow (tyOf ci f) (.ref a) = .ref a ∧ fits (tyOf ci f) (.ref a) = true := by
  have h1 := (kd_ok hci hf).1
  rw [hk] at h1
  cases ht : tyOf ci f <;> rw [ht] at h1 <;> first | exact ⟨rfl, rfl⟩ | (simp [kdT] at h1)
section SND2
variable {l : Launch} {D : va_G} {bs : Nat} {sa : Nat → Nat} {sc : Nat × (Nat → Int32)}
variable {p : Program} {e : Env} {R : Room} {s : State} {m : MethodId} {args : Array Value} {below : List Frame} {meth : Method} {cc : Code} {Q : State → Prop} {M : MD} {d c i : Nat} {hh : AH} {ad0 : Nat × Nat → Nat} {n0 s0 : Nat} {o : AO}
variable {pc : Nat} {ls : List (Option AV)} {st r : List AV} {h : AH}
theorem EV.cw (E : EV D bs sa sc s) {ci : Nat} (hci : ci < 9) {A : Array Value} : ∀ w ∈ u_ws (clOf ci).1 (clOf ci).2.1 (nF ci), w.before A s = true := fun w hw => E.w (cw_all ci hci w hw)
theorem EV.K (E : EV D bs sa sc s) : va_K D sd_cl [] s := ⟨E.2.1, fun k q hk => by simp at hk⟩
theorem EV.K1 (E : EV D bs sa sc s) {cA : ClassId} {ty : FieldType} (h1 : ArrOfT s cA ty ∧ va_RA s cA ty) : va_K D sd_cl [(cA, ty)] s := ⟨E.2.1, fun k q hk => by
  match k, hk with
  | 0, hk => cases hk; exact h1
  | k + 1, hk => simp at hk⟩
theorem cv_bif {ad : Nat × Nat → Nat} (b : Bool) (x : Option (Nat × Nat)) (y : Int32) : cv ad (bif b then .inr (.inr x) else .inl y) = bif b then va_rf (x.map ad) else .int y := by
  cases b
  · rfl
  · exact cv_ref ad x
theorem g_getf {k ci f : Nat} {b : Bool} {a : Nat × Nat} (hF : FR D bs sa sc p R s m meth cc M d c i n0 s0 o) (hk : alk (lkp [] sd_ft c) k = some (ci, f, b)) (h1 : (shp a.1 a.2).1 = 0) (h2 : (shp a.1 a.2).2 = ci) (hdg : decode M.2.1 pc = .ok (.getfield k, 3)) (g : GX l D bs sa sc p e R s m args below meth cc Q M hh ad0 n0 s0 (pc + 3) ls ((bif Nat.beq (fkd ci f) 2 then .inr (.inr (rR h a.1 a.2 f)) else .inl (rI h a.1 a.2 f)) :: r) h) : GX l D bs sa sc p e R s m args below meth cc Q M hh ad0 n0 s0 pc ls (.inr (.inr (some a)) :: r) h := by
  intro H locs cells slots ad ca lsA hC
  have haD : aD h a := (ok_head hC.2.2.2.1).a (by rw [h1]; decide)
  have he := wsO_at (ad := ad) (ca := ca) haD
  rw [ce_obj h1 h2] at he
  obtain ⟨hw, hci, hfk, hown⟩ := ckF c _ (alk_mem hk)
  have hv := ceF_at (ad := ad) (h := h) (a := a) hfk
  have E := hF.2.2.2.2.2.2.1
  have hok : okv h (bif Nat.beq (fkd ci f) 2 then .inr (.inr (rR h a.1 a.2 f)) else .inl (rI h a.1 a.2 f)) := by
    cases Nat.beq (fkd ci f) 2 with
    | false => trivial
    | true =>
      show okv h (.inr (.inr (rR h a.1 a.2 f)))
      cases hr : rR h a.1 a.2 f with
      | none => trivial
      | some b => exact Or.inl (hC.1.2.2.2.2.1 a haD f b hr)
  have g2 := g H locs cells slots ad ca lsA (hC.st (ok_cons hok (ok_tail hC.2.2.2.1)))
  rw [List.map_cons, cv_bif] at g2
  cases b with
  | false => exact va_get (C := (clOf ci).1) (T := (clOf ci).2.1) (N := nF ci) hF.2.1 hF.2.2.1 (E.cw hci) (fun w h => h) hF.2.2.2.2.1 E.K hC.1.1 (lin a) he (cl_at ci hci) f hfk (E.w hw) (fun x h => h) hv hdg g2
  | true => exact va_getN (host := "SumDoor") (C := (clOf ci).1) (T := (clOf ci).2.1) (N := nF ci) hF.2.1 hF.2.2.1 (E.cw hci) (fun w h => h) hF.2.2.2.2.1 E.K hC.1.1 (lin a) he (cl_at ci hci) f hfk (E.w hw) (fun x h => h) hv hdg g2
theorem CXm.wI {nL : Nat} {H H1 : Heap} {locs locs1 : List Loc} {cells slots : Nat} {ad : Nat × Nat → Nat} {ca : Nat × Nat → ClassId} {lsA : Array Slot} {g j k : Nat} {x : Int32} (hC : CXm D bs sa sc s hh ad0 n0 s0 nL ls st h H locs cells slots ad ca lsA) (hP : va_P D sd_cl (wsO ad ca (wI h g j k x)) H1) (hD : va_D (fun q => bs ≤ q) (wsO ad ca (wI h g j k x))) (hS : va_S (fun q => bs ≤ q) s.heap H1 locs1) (hr : ∀ v ∈ r, okv h v) : CXm D bs sa sc s hh ad0 n0 s0 nL ls r (wI h g j k x) H1 locs1 cells slots ad ca lsA :=
  ⟨⟨hP, hD, hC.1.2.2⟩, hS, hC.2.2.1, hr, hC.2.2.2.2⟩
theorem CXm.wR {nL : Nat} {H H1 : Heap} {locs locs1 : List Loc} {cells slots : Nat} {ad : Nat × Nat → Nat} {ca : Nat × Nat → ClassId} {lsA : Array Slot} {g j k : Nat} {x : Option (Nat × Nat)} (hC : CXm D bs sa sc s hh ad0 n0 s0 nL ls st h H locs cells slots ad ca lsA) (hx : ∀ b, x = some b → aD h b) (hP : va_P D sd_cl (wsO ad ca (wR h g j k x)) H1) (hD : va_D (fun q => bs ≤ q) (wsO ad ca (wR h g j k x))) (hS : va_S (fun q => bs ≤ q) s.heap H1 locs1) (hr : ∀ v ∈ r, okv h v) : CXm D bs sa sc s hh ad0 n0 s0 nL ls r (wR h g j k x) H1 locs1 cells slots ad ca lsA := by
  refine ⟨⟨hP, hD, hC.1.2.2.1, hC.1.2.2.2.1, fun a ha k' b hb => ?_, hC.1.2.2.2.2.2⟩, hS, hC.2.2.1, hr, hC.2.2.2.2⟩
  rw [wR_R] at hb
  split at hb
  · exact hx b hb
  · exact hC.1.2.2.2.2.1 a ha k' b hb
theorem g_putI {k ci f : Nat} {b : Bool} {a : Nat × Nat} {x : Int32} (hF : FR D bs sa sc p R s m meth cc M d c i n0 s0 o) (hk : alk (lkp [] sd_ft c) k = some (ci, f, b)) (h1 : (shp a.1 a.2).1 = 0) (h2 : (shp a.1 a.2).2 = ci) (hfin : ffd ci f = false ∨ (c = ci ∧ i = 0)) (hkd : fkd ci f = 0 ∨ (fkd ci f = 1 ∧ (x = 0 ∨ x = 1))) (hini : ffd ci f = true → M.1.name = "<init>" ∧ b = false) (hdg : decode M.2.1 pc = .ok (.putfield k, 3)) (g : GX l D bs sa sc p e R s m args below meth cc Q M hh ad0 n0 s0 (pc + 3) ls r (wI h a.1 a.2 f x)) : GX l D bs sa sc p e R s m args below meth cc Q M hh ad0 n0 s0 pc ls (.inl x :: .inr (.inr (some a)) :: r) h := by
  intro H locs cells slots ad ca lsA hC
  have haD : aD h a := (ok_head (ok_tail hC.2.2.2.1)).a (by rw [h1]; decide)
  have he := wsO_at (ad := ad) (ca := ca) haD
  rw [ce_obj h1 h2] at he
  obtain ⟨hw, hci, hfk, hown⟩ := ckF c _ (alk_mem hk)
  have hci : ci < 9 := hci
  have hfk : f < nF ci := hfk
  have E := hF.2.2.2.2.2.2.1
  have hnf : narrow (tyOf ci f) (.int x) = .int x ∧ fits (tyOf ci f) (.int x) = true := by
    rcases hkd with q | ⟨q, q2⟩
    · rw [int_kd hci hfk q]; exact ⟨rfl, rfl⟩
    · rw [bool_kd hci hfk q]; rcases q2 with rfl | rfl <;> exact ⟨by decide, by decide⟩
  have hb2 : Nat.beq (fkd ci f) 2 = false := beq_f (by rcases hkd with q | ⟨q, -⟩ <;> omega)
  have hset : (wsO ad ca h).set (lin a) (ad a, .inr (ci, (ceF ad h a ci).set f (.int x))) = wsO ad ca (wI h a.1 a.2 f x) := by
    rw [ceF_set (ad := ad) (h := h) (h' := wI h a.1 a.2 f x) (a := a) (v := .int x) hfk (by rw [hb2]; show Value.int (if _ then _ else _) = _; rw [if_pos ⟨rfl, rfl, rfl⟩]) (fun j hj => by rw [wI_I, if_neg (fun q => hj q.2.2)]) (fun j hj => rfl), ← ce_obj (ca := ca) (h := wI h a.1 a.2 f x) h1 h2]
    exact wsO_set haD rfl (fun b hb => ce_wI hb)
  have kk : ∀ (H1 : Heap) (locs1 : List Loc), va_P D sd_cl ((wsO ad ca h).set (lin a) (ad a, .inr (ci, (ceF ad h a ci).set f (.int x)))) H1 → va_D (fun q => bs ≤ q) ((wsO ad ca h).set (lin a) (ad a, .inr (ci, (ceF ad h a ci).set f (.int x)))) → va_S (fun q => bs ≤ q) s.heap H1 locs1 → W p l e R s m args below meth cc H1 locs1 cells slots Q (F0 m (pc + 3) lsA (r.map (cv ad))) := by
    intro H1 locs1 hP hD hS
    rw [hset] at hP hD
    exact g _ _ _ _ _ _ _ (hC.wI hP hD hS (ok_tail (ok_tail hC.2.2.2.1)))
  have hff := (kd_ok hci hfk).2
  cases hq : ffd ci f with
  | true =>
    rw [hq] at hff hfin
    obtain ⟨hc1, hi1⟩ := hfin.resolve_left (by decide)
    obtain ⟨hnm, hb0⟩ := hini hq
    subst hb0
    exact va_putF (C := (clOf ci).1) (T := (clOf ci).2.1) (N := nF ci) hF.2.1 hF.2.2.1 (E.cw hci) (fun w h => h) (tyOf ci) (ty_ok ci hci) (nm_ok ci hci) hF.2.2.2.2.1 E.K hC.1.1 hC.1.2.1 hC.2.1 (lin a) he (cl_at ci hci) f hfk (E.w hw) (fun x h => h) hff.symm (hF.2.2.2.2.2.1 hnm) (hown.trans (by rw [hc1])) (ty_ok ci hci f hfk) hnf.1 hnf.2 (by rw [ceF_len]; exact hfk) hdg kk
  | false =>
    rw [hq] at hff
    cases b with
    | false => exact va_put (C := (clOf ci).1) (T := (clOf ci).2.1) (N := nF ci) hF.2.1 hF.2.2.1 (E.cw hci) (fun w h => h) (tyOf ci) (ty_ok ci hci) (nm_ok ci hci) hF.2.2.2.2.1 E.K hC.1.1 hC.1.2.1 hC.2.1 (lin a) he (cl_at ci hci) f hfk (E.w hw) (fun x h => h) hff.symm (ty_ok ci hci f hfk) hnf.1 hnf.2 (by rw [ceF_len]; exact hfk) hdg kk
    | true => exact va_putN (host := "SumDoor") (C := (clOf ci).1) (T := (clOf ci).2.1) (N := nF ci) hF.2.1 hF.2.2.1 (E.cw hci) (fun w h => h) (tyOf ci) (ty_ok ci hci) (nm_ok ci hci) hF.2.2.2.2.1 E.K hC.1.1 hC.1.2.1 hC.2.1 (lin a) he (cl_at ci hci) f hfk (E.w hw) (fun x h => h) hff.symm (ty_ok ci hci f hfk) hnf.1 hnf.2 (by rw [ceF_len]; exact hfk) hdg kk
theorem g_putR {k ci f : Nat} {b : Bool} {a z : Nat × Nat} (hF : FR D bs sa sc p R s m meth cc M d c i n0 s0 o) (hk : alk (lkp [] sd_ft c) k = some (ci, f, b)) (h1 : (shp a.1 a.2).1 = 0) (h2 : (shp a.1 a.2).2 = ci) (hfin : ffd ci f = false ∨ (c = ci ∧ i = 0)) (hkd : fkd ci f = 2) (hz : (shp z.1 z.2).1 ≠ 9) (hini : ffd ci f = true → M.1.name = "<init>" ∧ b = false) (hdg : decode M.2.1 pc = .ok (.putfield k, 3)) (g : GX l D bs sa sc p e R s m args below meth cc Q M hh ad0 n0 s0 (pc + 3) ls r (wR h a.1 a.2 f (some z))) : GX l D bs sa sc p e R s m args below meth cc Q M hh ad0 n0 s0 pc ls (.inr (.inr (some z)) :: .inr (.inr (some a)) :: r) h := by
  intro H locs cells slots ad ca lsA hC
  have haD : aD h a := (ok_head (ok_tail hC.2.2.2.1)).a (by rw [h1]; decide)
  have hzD : aD h z := (ok_head hC.2.2.2.1).a hz
  have he := wsO_at (ad := ad) (ca := ca) haD
  rw [ce_obj h1 h2] at he
  obtain ⟨hw, hci, hfk, hown⟩ := ckF c _ (alk_mem hk)
  have hci : ci < 9 := hci
  have hfk : f < nF ci := hfk
  have E := hF.2.2.2.2.2.2.1
  have hnf := ref_kd hci hfk hkd (ad z)
  have hb2 : Nat.beq (fkd ci f) 2 = true := beq_t hkd
  have hset : (wsO ad ca h).set (lin a) (ad a, .inr (ci, (ceF ad h a ci).set f (.ref (ad z)))) = wsO ad ca (wR h a.1 a.2 f (some z)) := by
    rw [ceF_set (ad := ad) (h := h) (h' := wR h a.1 a.2 f (some z)) (a := a) (v := .ref (ad z)) hfk (by rw [hb2]; show va_rf (Option.map ad (if _ then _ else _)) = _; rw [if_pos ⟨rfl, rfl, rfl⟩]; rfl) (fun j hj => rfl) (fun j hj => by rw [wR_R, if_neg (fun q => hj q.2.2)]), ← ce_obj (ca := ca) (h := wR h a.1 a.2 f (some z)) h1 h2]
    exact wsO_set haD rfl (fun b hb => ce_wR hb)
  have kk : ∀ (H1 : Heap) (locs1 : List Loc), va_P D sd_cl ((wsO ad ca h).set (lin a) (ad a, .inr (ci, (ceF ad h a ci).set f (.ref (ad z))))) H1 → va_D (fun q => bs ≤ q) ((wsO ad ca h).set (lin a) (ad a, .inr (ci, (ceF ad h a ci).set f (.ref (ad z))))) → va_S (fun q => bs ≤ q) s.heap H1 locs1 → W p l e R s m args below meth cc H1 locs1 cells slots Q (F0 m (pc + 3) lsA (r.map (cv ad))) := by
    intro H1 locs1 hP hD hS
    rw [hset] at hP hD
    exact g _ _ _ _ _ _ _ (hC.wR (fun b hb => by cases hb; exact hzD) hP hD hS (ok_tail (ok_tail hC.2.2.2.1)))
  have hff := (kd_ok hci hfk).2
  cases hq : ffd ci f with
  | true =>
    rw [hq] at hff hfin
    obtain ⟨hc1, hi1⟩ := hfin.resolve_left (by decide)
    obtain ⟨hnm, hb0⟩ := hini hq
    subst hb0
    exact va_putF (C := (clOf ci).1) (T := (clOf ci).2.1) (N := nF ci) hF.2.1 hF.2.2.1 (E.cw hci) (fun w h => h) (tyOf ci) (ty_ok ci hci) (nm_ok ci hci) hF.2.2.2.2.1 E.K hC.1.1 hC.1.2.1 hC.2.1 (lin a) he (cl_at ci hci) f hfk (E.w hw) (fun x h => h) hff.symm (hF.2.2.2.2.2.1 hnm) (hown.trans (by rw [hc1])) (ty_ok ci hci f hfk) hnf.1 hnf.2 (by rw [ceF_len]; exact hfk) hdg kk
  | false =>
    rw [hq] at hff
    cases b with
    | false => exact va_put (C := (clOf ci).1) (T := (clOf ci).2.1) (N := nF ci) hF.2.1 hF.2.2.1 (E.cw hci) (fun w h => h) (tyOf ci) (ty_ok ci hci) (nm_ok ci hci) hF.2.2.2.2.1 E.K hC.1.1 hC.1.2.1 hC.2.1 (lin a) he (cl_at ci hci) f hfk (E.w hw) (fun x h => h) hff.symm (ty_ok ci hci f hfk) hnf.1 hnf.2 (by rw [ceF_len]; exact hfk) hdg kk
    | true => exact va_putN (host := "SumDoor") (C := (clOf ci).1) (T := (clOf ci).2.1) (N := nF ci) hF.2.1 hF.2.2.1 (E.cw hci) (fun w h => h) (tyOf ci) (ty_ok ci hci) (nm_ok ci hci) hF.2.2.2.2.1 E.K hC.1.1 hC.1.2.1 hC.2.1 (lin a) he (cl_at ci hci) f hfk (E.w hw) (fun x h => h) hff.symm (ty_ok ci hci f hfk) hnf.1 hnf.2 (by rw [ceF_len]; exact hfk) hdg kk
theorem stA3 : ∀ k, k < 3 → ∃ r, stA sc k = some r := by
  intro k hk
  match k, hk with
  | 0, _ => exact ⟨_, rfl⟩
  | 1, _ => exact ⟨_, rfl⟩
  | 2, _ => exact ⟨_, rfl⟩
theorem g_gets {k j : Nat} (hF : FR D bs sa sc p R s m meth cc M d c i n0 s0 o) (hk : alk (lkp [] sd_st c) k = some j) (hdg : decode M.2.1 pc = .ok (.getstatic k, 3)) (g : GX l D bs sa sc p e R s m args below meth cc Q M hh ad0 n0 s0 (pc + 3) ls (.inr (.inr (some (0, 1000 + j))) :: st) h) : GX l D bs sa sc p e R s m args below meth cc Q M hh ad0 n0 s0 pc ls st h := by
  intro H locs cells slots ad ca lsA hC
  obtain ⟨hw, hj⟩ := ckS c _ (alk_mem hk)
  have hj : j < 3 := hj
  have E := hF.2.2.2.2.2.2.1
  have g2 := g H locs cells slots ad ca lsA (hC.st (ok_cons (Or.inr ⟨rfl, by show 1000 ≤ 1000 + j; omega, by show 1000 + j < 1004; omega⟩) hC.2.2.2.1))
  have e1 : cv ad (.inr (.inr (some (0, 1000 + j)))) = .ref (sa j) := congrArg Value.ref (hC.2.2.2.2.2.1 j (by omega))
  rw [List.map_cons, e1] at g2
  exact va_gets hF.2.1 hF.2.2.1 (E.2.2.2.2.2.2 j hj) hC.2.1 hF.2.2.2.2.1 (E.w hw) (fun x h => h) hdg g2
set_option maxRecDepth 8000 in
theorem rowOf_inv {a : Nat × Nat} {q : Nat × (Nat → Int32)} (hr : rowOf h a = some q) : ((shp a.1 a.2).1 = 1 ∧ q = ((shp a.1 a.2).2, h.1 a.1 a.2)) ∨ (∃ k, a = (0, 1000 + k) ∧ (shp a.1 a.2).1 = 9 ∧ stR h k = some q) := by
  unfold rowOf at hr
  split at hr
  · rename_i n hs
    left
    rw [hs]
    exact ⟨rfl, (Option.some.inj hr).symm⟩
  · rename_i n hs
    right
    obtain ⟨g, j⟩ := a
    split at hr
    · rename_i hg
      have hg : g = 0 := hg
      subst hg
      cases hb : Nat.ble 1000 j with
      | false => simp only [hb] at hr; cases hr
      | true =>
        have hb' := Nat.le_of_ble_eq_true hb
        simp only [hb] at hr
        have ej : j = 1000 + (j - 1000) := by omega
        exact ⟨j - 1000, congrArg (Prod.mk 0) ej, congrArg Prod.fst hs, hr⟩
    · cases hr
  · cases hr
theorem isS4 {a : Nat × Nat} {k : Nat} (ha : a = (0, 1000 + k)) (hv : okv h (.inr (.inr (some a)))) : k < 4 := by
  subst ha
  rcases hv with ⟨q, -⟩ | ⟨-, -, q⟩
  · have : 1000 + k < 71 := q
    omega
  · have : 1000 + k < 1004 := q
    omega
theorem g_iald {a : Nat × Nat} {x : Int32} {q : Nat × (Nat → Int32)} (hF : FR D bs sa sc p R s m meth cc M d c i n0 s0 o) (hq : rowOf h a = some q) (hin : vp_in x q.1) (hdg : decode M.2.1 pc = .ok (.iaload, 1)) (g : GX l D bs sa sc p e R s m args below meth cc Q M hh ad0 n0 s0 (pc + 1) ls (.inl (q.2 x.toNatClampNeg) :: r) h) : GX l D bs sa sc p e R s m args below meth cc Q M hh ad0 n0 s0 pc ls (.inl x :: .inr (.inr (some a)) :: r) h := by
  intro H locs cells slots ad ca lsA hC
  have E := hF.2.2.2.2.2.2.1
  have g2 := g H locs cells slots ad ca lsA (hC.st (ok_cons trivial (ok_tail (ok_tail hC.2.2.2.1))))
  have hv := ok_head (ok_tail hC.2.2.2.1)
  rcases rowOf_inv hq with ⟨h1, rfl⟩ | ⟨k, ha, -, hk⟩
  · have haD : aD h a := hv.a (by rw [h1]; decide)
    have he := wsO_at (ad := ad) (ca := ca) haD
    rw [ce_int h1] at he
    exact va_iald hF.2.1 hF.2.2.1 (E.K1 (hC.1.2.2.2.1 a haD .int (by rw [h1]; rfl))) hC.1.1 (lin a) 0 he rfl hin hdg g2
  · have hk4 := isS4 ha hv
    rw [stR_A hC.1.2.2.2.2.2] at hk
    have f2 := E.2.2.2.2.2.1 k q hk
    have e1 : ad a = sa k := by rw [ha]; exact hC.2.2.2.2.2.1 k hk4
    show W p l e R s m args below meth cc H locs cells slots Q (F0 m pc lsA (.int x :: .ref (ad a) :: r.map (cv ad)))
    rw [e1]
    exact va_ti hF.2.1 hF.2.2.1 f2 hC.2.1 hin rfl hdg g2
theorem g_alen {a : Nat × Nat} {n : Nat} (hF : FR D bs sa sc p R s m meth cc M d c i n0 s0 o) (hq : lenOf h a = some n) (hdg : decode M.2.1 pc = .ok (.arraylength, 1)) (g : GX l D bs sa sc p e R s m args below meth cc Q M hh ad0 n0 s0 (pc + 1) ls (.inl (Int32.ofNat n) :: r) h) : GX l D bs sa sc p e R s m args below meth cc Q M hh ad0 n0 s0 pc ls (.inr (.inr (some a)) :: r) h := by
  intro H locs cells slots ad ca lsA hC
  have E := hF.2.2.2.2.2.2.1
  have g2 := g H locs cells slots ad ca lsA (hC.st (ok_cons trivial (ok_tail hC.2.2.2.1)))
  have hv := ok_head hC.2.2.2.1
  have key : ((shp a.1 a.2).1 = 2 ∨ (shp a.1 a.2).1 = 3) ∧ n = (shp a.1 a.2).2 ∨ ∃ q, rowOf h a = some q ∧ n = q.1 := by
    unfold lenOf at hq
    split at hq
    · rename_i n' hs
      rw [hs]
      exact Or.inl ⟨Or.inl rfl, (Option.some.inj hq).symm⟩
    · rename_i n' hs
      rw [hs]
      exact Or.inl ⟨Or.inr rfl, (Option.some.inj hq).symm⟩
    · cases hr : rowOf h a with
      | none => rw [hr] at hq; cases hq
      | some q => rw [hr] at hq; exact Or.inr ⟨q, rfl, (Option.some.inj hq).symm⟩
  rcases key with ⟨h1, hn⟩ | ⟨q, hq, hn⟩
  · have haD : aD h a := hv.a (by rcases h1 with q | q <;> rw [q] <;> decide)
    have he := wsO_at (ad := ad) (ca := ca) haD
    rw [ce_ref h1] at he
    obtain ⟨ty, hty⟩ : ∃ ty, aty (shp a.1 a.2).1 = some ty := by rcases h1 with q | q <;> rw [q] <;> exact ⟨_, rfl⟩
    exact va_alen hF.2.1 hF.2.2.1 (E.K1 (hC.1.2.2.2.1 a haD ty hty)) hC.1.1 (lin a) 0 he rfl (by rw [hn]) hdg g2
  · rcases rowOf_inv hq with ⟨h1, rfl⟩ | ⟨k, ha, -, hk⟩
    · have haD : aD h a := hv.a (by rw [h1]; decide)
      have he := wsO_at (ad := ad) (ca := ca) haD
      rw [ce_int h1] at he
      exact va_alen hF.2.1 hF.2.2.1 (E.K1 (hC.1.2.2.2.1 a haD .int (by rw [h1]; rfl))) hC.1.1 (lin a) 0 he rfl (by rw [hn]) hdg g2
    · have hk4 := isS4 ha hv
      rw [stR_A hC.1.2.2.2.2.2] at hk
      have f2 := E.2.2.2.2.2.1 k q hk
      have e1 : ad a = sa k := by rw [ha]; exact hC.2.2.2.2.2.1 k hk4
      show W p l e R s m args below meth cc H locs cells slots Q (F0 m pc lsA (.ref (ad a) :: r.map (cv ad)))
      rw [e1]
      rw [hn] at g2
      exact va_tlen hF.2.1 hF.2.2.1 f2 hC.2.1 rfl hdg g2
theorem g_iast {a : Nat × Nat} {x v : Int32} (hF : FR D bs sa sc p R s m meth cc M d c i n0 s0 o) (h1 : (shp a.1 a.2).1 = 1) (hin : vp_in x (shp a.1 a.2).2) (hdg : decode M.2.1 pc = .ok (.iastore, 1)) (g : GX l D bs sa sc p e R s m args below meth cc Q M hh ad0 n0 s0 (pc + 1) ls r (wI h a.1 a.2 x.toNatClampNeg v)) : GX l D bs sa sc p e R s m args below meth cc Q M hh ad0 n0 s0 pc ls (.inl v :: .inl x :: .inr (.inr (some a)) :: r) h := by
  intro H locs cells slots ad ca lsA hC
  have E := hF.2.2.2.2.2.2.1
  have haD : aD h a := (ok_head (ok_tail (ok_tail hC.2.2.2.1))).a (by rw [h1]; decide)
  have he := wsO_at (ad := ad) (ca := ca) haD
  rw [ce_int h1] at he
  have hset : (wsO ad ca h).set (lin a) (ad a, .inl (ca a, (shp a.1 a.2).2, .inl (upd (h.1 a.1 a.2) x.toNatClampNeg v))) = wsO ad ca (wI h a.1 a.2 x.toNatClampNeg v) := by
    have e1 : upd (h.1 a.1 a.2) x.toNatClampNeg v = (wI h a.1 a.2 x.toNatClampNeg v).1 a.1 a.2 := by
      funext j
      rw [wI_I]
      by_cases q : j = x.toNatClampNeg
      · rw [if_pos ⟨rfl, rfl, q⟩]; simp [upd, q]
      · rw [if_neg (fun z => q z.2.2)]; simp [upd, q]
    rw [e1, ← ce_int (ad := ad) (ca := ca) (h := wI h a.1 a.2 x.toNatClampNeg v) h1]
    exact wsO_set haD rfl (fun b hb => ce_wI hb)
  refine va_iast hF.2.1 hF.2.2.1 (E.K1 (hC.1.2.2.2.1 a haD .int (by rw [h1]; rfl))) hC.1.1 hC.1.2.1 hC.2.1 (lin a) 0 he rfl hin hdg (fun H1 locs1 hP hD hS => ?_)
  rw [hset] at hP hD
  exact g _ _ _ _ _ _ _ (hC.wI hP hD hS (ok_tail (ok_tail (ok_tail hC.2.2.2.1))))
theorem g_aald {a : Nat × Nat} {x : Int32} (hF : FR D bs sa sc p R s m meth cc M d c i n0 s0 o) (h1 : (shp a.1 a.2).1 = 2 ∨ (shp a.1 a.2).1 = 3) (hin : vp_in x (shp a.1 a.2).2) (hdg : decode M.2.1 pc = .ok (.aaload, 1)) (g : GX l D bs sa sc p e R s m args below meth cc Q M hh ad0 n0 s0 (pc + 1) ls (.inr (.inr (rR h a.1 a.2 x.toNatClampNeg)) :: r) h) : GX l D bs sa sc p e R s m args below meth cc Q M hh ad0 n0 s0 pc ls (.inl x :: .inr (.inr (some a)) :: r) h := by
  intro H locs cells slots ad ca lsA hC
  have E := hF.2.2.2.2.2.2.1
  have haD : aD h a := (ok_head (ok_tail hC.2.2.2.1)).a (by rcases h1 with q | q <;> rw [q] <;> decide)
  have he := wsO_at (ad := ad) (ca := ca) haD
  rw [ce_ref h1] at he
  have hok : okv h (.inr (.inr (rR h a.1 a.2 x.toNatClampNeg))) := by
    cases hr : rR h a.1 a.2 x.toNatClampNeg with
    | none => trivial
    | some b => exact Or.inl (hC.1.2.2.2.2.1 a haD _ b hr)
  have g2 := g H locs cells slots ad ca lsA (hC.st (ok_cons hok (ok_tail (ok_tail hC.2.2.2.1))))
  rw [List.map_cons, cv_ref] at g2
  obtain ⟨C, hty⟩ : ∃ C, aty (shp a.1 a.2).1 = some (.object C) := by rcases h1 with q | q <;> rw [q] <;> exact ⟨_, rfl⟩
  exact va_aldq hF.2.1 hF.2.2.1 (E.K1 (hC.1.2.2.2.1 a haD _ hty)) hC.1.1 (lin a) 0 he rfl hin hdg g2
theorem ws_aast {ad : Nat × Nat → Nat} {ca : Nat × Nat → ClassId} {a : Nat × Nat} {k : Nat} {z : Option (Nat × Nat)} (haD : aD h a) (h1 : (shp a.1 a.2).1 = 2 ∨ (shp a.1 a.2).1 = 3) : (wsO ad ca h).set (lin a) (ad a, .inl (ca a, (shp a.1 a.2).2, .inr (.inr (.inr (.inr (va_up (fun i => (h.2.1 a.1 a.2 i).map ad) k (z.map ad))))))) = wsO ad ca (wR h a.1 a.2 k z) := by
  have e1 : va_up (fun i => (h.2.1 a.1 a.2 i).map ad) k (z.map ad) = fun i => ((wR h a.1 a.2 k z).2.1 a.1 a.2 i).map ad := by
    funext j
    rw [wR_R]
    by_cases q : j = k
    · rw [if_pos ⟨rfl, rfl, q⟩, q, va_up_self]
    · rw [if_neg (fun z => q z.2.2), va_up_ne _ _ q]
  rw [e1, ← ce_ref (ad := ad) (ca := ca) (h := wR h a.1 a.2 k z) h1]
  exact wsO_set haD rfl (fun b hb => ce_wR hb)
theorem g_aastN {a : Nat × Nat} {x : Int32} (hF : FR D bs sa sc p R s m meth cc M d c i n0 s0 o) (h1 : (shp a.1 a.2).1 = 2 ∨ (shp a.1 a.2).1 = 3) (hin : vp_in x (shp a.1 a.2).2) (hdg : decode M.2.1 pc = .ok (.aastore, 1)) (g : GX l D bs sa sc p e R s m args below meth cc Q M hh ad0 n0 s0 (pc + 1) ls r (wR h a.1 a.2 x.toNatClampNeg none)) : GX l D bs sa sc p e R s m args below meth cc Q M hh ad0 n0 s0 pc ls (.inr (.inr none) :: .inl x :: .inr (.inr (some a)) :: r) h := by
  intro H locs cells slots ad ca lsA hC
  have E := hF.2.2.2.2.2.2.1
  have haD : aD h a := (ok_head (ok_tail (ok_tail hC.2.2.2.1))).a (by rcases h1 with q | q <;> rw [q] <;> decide)
  have he := wsO_at (ad := ad) (ca := ca) haD
  rw [ce_ref h1] at he
  obtain ⟨C, hty⟩ : ∃ C, aty (shp a.1 a.2).1 = some (.object C) := by rcases h1 with q | q <;> rw [q] <;> exact ⟨_, rfl⟩
  refine va_astqN hF.2.1 hF.2.2.1 (E.K1 (hC.1.2.2.2.1 a haD _ hty)) hC.1.1 hC.1.2.1 hC.2.1 (lin a) 0 he rfl hin hdg (fun H1 locs1 hP hD hS => ?_)
  have hset := ws_aast (ad := ad) (ca := ca) (k := x.toNatClampNeg) (z := none) haD h1
  rw [Option.map_none] at hset
  rw [hset] at hP hD
  exact g _ _ _ _ _ _ _ (hC.wR (fun b hb => by cases hb) hP hD hS (ok_tail (ok_tail (ok_tail hC.2.2.2.1))))
theorem g_aastR {a z : Nat × Nat} {x : Int32} (hF : FR D bs sa sc p R s m meth cc M d c i n0 s0 o) (hz : (shp z.1 z.2).1 = 0) (h1 : ((shp a.1 a.2).1 = 2 ∧ (shp z.1 z.2).2 = 5) ∨ ((shp a.1 a.2).1 = 3 ∧ (shp z.1 z.2).2 = 1)) (hin : vp_in x (shp a.1 a.2).2) (hdg : decode M.2.1 pc = .ok (.aastore, 1)) (g : GX l D bs sa sc p e R s m args below meth cc Q M hh ad0 n0 s0 (pc + 1) ls r (wR h a.1 a.2 x.toNatClampNeg (some z))) : GX l D bs sa sc p e R s m args below meth cc Q M hh ad0 n0 s0 pc ls (.inr (.inr (some z)) :: .inl x :: .inr (.inr (some a)) :: r) h := by
  intro H locs cells slots ad ca lsA hC
  have E := hF.2.2.2.2.2.2.1
  have h2 : (shp a.1 a.2).1 = 2 ∨ (shp a.1 a.2).1 = 3 := h1.imp (fun q => q.1) (fun q => q.1)
  have haD : aD h a := (ok_head (ok_tail (ok_tail hC.2.2.2.1))).a (by rcases h2 with q | q <;> rw [q] <;> decide)
  have hzD : aD h z := (ok_head hC.2.2.2.1).a (by rw [hz]; decide)
  have he := wsO_at (ad := ad) (ca := ca) haD
  rw [ce_ref h2] at he
  have hez := wsO_at (ad := ad) (ca := ca) hzD
  have hset := ws_aast (ad := ad) (ca := ca) (k := x.toNatClampNeg) (z := some z) haD h2
  rw [Option.map_some] at hset
  rcases h1 with ⟨q1, q2⟩ | ⟨q1, q2⟩
  · rw [ce_obj hz q2] at hez
    refine va_astq (r := clOf 5) hF.2.1 hF.2.2.1 (E.K1 (hC.1.2.2.2.1 a haD (.object "SumDoor$Text") (by rw [q1]; rfl))) hC.1.1 hC.1.2.1 hC.2.1 (lin a) 0 (lin z) 5 he rfl hez rfl hin hdg (fun H1 locs1 hP hD hS => ?_)
    rw [hset] at hP hD
    exact g _ _ _ _ _ _ _ (hC.wR (fun b hb => by cases hb; exact hzD) hP hD hS (ok_tail (ok_tail (ok_tail hC.2.2.2.1))))
  · rw [ce_obj hz q2] at hez
    refine va_astq (r := clOf 1) hF.2.1 hF.2.2.1 (E.K1 (hC.1.2.2.2.1 a haD (.object "SumDoor$Sheet") (by rw [q1]; rfl))) hC.1.1 hC.1.2.1 hC.2.1 (lin a) 0 (lin z) 1 he rfl hez rfl hin hdg (fun H1 locs1 hP hD hS => ?_)
    rw [hset] at hP hD
    exact g _ _ _ _ _ _ _ (hC.wR (fun b hb => by cases hb; exact hzD) hP hD hS (ok_tail (ok_tail (ok_tail hC.2.2.2.1))))
end SND2
