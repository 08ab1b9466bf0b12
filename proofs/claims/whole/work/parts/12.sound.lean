theorem lkp_lt {α : Type} : ∀ {l : List (Option α)} {k : Nat} {v : α}, lkp none l k = some v → k < l.length
  | [], k, v, h => by cases h
  | a :: l, 0, v, h => by simp
  | a :: l, k + 1, v, h => by have := lkp_lt (l := l) (k := k) h; simp; omega
theorem lkp_get {α : Type} (x : α) : ∀ {l : List α} {k : Nat}, k < l.length → l[k]? = some (lkp x l k)
  | [], k, h => by simp at h
  | a :: l, 0, h => rfl
  | a :: l, k + 1, h => by
    rw [List.getElem?_cons_succ]
    exact lkp_get x (l := l) (k := k) (by simpa using h)
theorem lkp_set {α : Type} (d x : α) : ∀ (l : List α) (k j : Nat), k < l.length → lkp d (l.set k x) j = if j = k then x else lkp d l j
  | [], k, j, h => by simp at h
  | a :: l, 0, 0, h => rfl
  | a :: l, 0, j + 1, h => rfl
  | a :: l, k + 1, 0, h => rfl
  | a :: l, k + 1, j + 1, h => by
    show lkp d (l.set k x) j = if j + 1 = k + 1 then x else lkp d l j
    rw [lkp_set d x l k j (by simpa using h)]
    by_cases e : j = k
    · rw [if_pos e, if_pos (by omega)]
    · rw [if_neg e, if_neg (by omega)]
theorem noL_spec : ∀ {ls : List (Option AV)} {k : Nat} {v : AV}, noL ls = true → lkp none ls k = some v → avC v = 1
  | [], k, v, _, h => by cases h
  | a :: l, 0, v, hn, h => by
    have h1 : a = some v := h
    subst h1
    rcases v with x | y | r
    · rfl
    · simp [noL] at hn
    · rfl
  | a :: l, k + 1, v, hn, h => by
    have h2 : noL l = true := by
      rcases a with _ | x | y | r
      · exact hn
      · exact hn
      · simp [noL] at hn
      · exact hn
    exact noL_spec h2 (show lkp none l k = some v from h)
def lsR (ad : Nat × Nat → Nat) (n : Nat) (ls : List (Option AV)) (lsA : Array Slot) : Prop := lsA.size = n ∧ lv_wf lsA ∧ ls.length = n ∧ ∀ k v, lkp none ls k = some v → lsA[k]? = some (.val (cv ad v))
def lsL (ad : Nat × Nat → Nat) (ls : List (Option AV)) : List (Nat × Value) := (List.range ls.length).filterMap (fun k => (lkp none ls k).map (fun v => (k, cv ad v)))
theorem lsL_mem {ad : Nat × Nat → Nat} {ls : List (Option AV)} {k : Nat} {v : AV} (h : lkp none ls k = some v) : (k, cv ad v) ∈ lsL ad ls :=
  List.mem_filterMap.mpr ⟨k, List.mem_range.mpr (lkp_lt h), by rw [h]; rfl⟩
theorem lsR.has {ad : Nat × Nat → Nat} {n : Nat} {ls : List (Option AV)} {lsA : Array Slot} (h : lsR ad n ls lsA) : lv_has lsA n (lsL ad ls) := by
  refine ⟨h.1, h.2.1, fun q hq => ?_⟩
  obtain ⟨k, -, hk⟩ := List.mem_filterMap.mp hq
  cases hv : lkp none ls k with
  | none => rw [hv] at hk; cases hk
  | some v =>
    rw [hv] at hk
    cases hk
    exact h.2.2.2 k v hv
theorem lsR.store {ad : Nat × Nat → Nat} {n k : Nat} {ls : List (Option AV)} {lsA lsB : Array Slot} {v : AV} (h : lsR ad n ls lsA) (hn : noL ls = true) (hk : k < ls.length) (hB : lv_has lsB n ((k, cv ad v) :: (lsL ad ls).filter (fun q => !(q.1 == k) && !(q.1 + 1 == k && q.2.category == 2)))) : lsR ad n (ls.set k (some v)) lsB := by
  refine ⟨hB.1, hB.2.1, by rw [List.length_set]; exact h.2.2.1, fun j w hj => ?_⟩
  rw [lkp_set none (some v) ls k j hk] at hj
  by_cases e : j = k
  · rw [if_pos e] at hj
    cases hj
    subst e
    exact hB.2.2 (j, cv ad v) List.mem_cons_self
  · rw [if_neg e] at hj
    refine hB.2.2 (j, cv ad w) (List.mem_cons_of_mem _ (List.mem_filter.mpr ⟨lsL_mem hj, ?_⟩))
    have hc : (cv ad w).category = 1 := (cv_cat ad w).trans (noL_spec hn hj)
    simp [e, hc]
theorem okv.mono {h h' : AH} (hl : lin (alo h) ≤ lin (alo h')) : ∀ {v : AV}, okv h v → okv h' v
  | .inl _, _ => trivial
  | .inr (.inl _), _ => trivial
  | .inr (.inr none), _ => trivial
  | .inr (.inr (some a)), hv => hv.imp (fun q => ⟨q.1, Nat.lt_of_lt_of_le q.2 hl⟩) id
theorem shp_S {a : Nat × Nat} (h : isS a) : shp a.1 a.2 = (9, 0) := by
  obtain ⟨g, j⟩ := a
  obtain ⟨h1, h2, h3⟩ := h
  have h1 : g = 0 := h1
  subst h1
  rcases (show j = 1000 ∨ j = 1001 ∨ j = 1002 ∨ j = 1003 by omega) with rfl | rfl | rfl | rfl <;> rfl
theorem okv.a {h : AH} {a : Nat × Nat} (hv : okv h (.inr (.inr (some a)))) (hs : (shp a.1 a.2).1 ≠ 9) : aD h a := by
  rcases hv with q | q
  · exact q
  · rw [shp_S q] at hs
    exact absurd rfl hs
theorem ce_obj {ad : Nat × Nat → Nat} {ca : Nat × Nat → ClassId} {h : AH} {a : Nat × Nat} {ci : Nat} (h1 : (shp a.1 a.2).1 = 0) (h2 : (shp a.1 a.2).2 = ci) : ce ad ca h a = .inr (ci, ceF ad h a ci) := by
  unfold ce
  rw [h1, h2] <;> rfl
theorem ce_int {ad : Nat × Nat → Nat} {ca : Nat × Nat → ClassId} {h : AH} {a : Nat × Nat} (h1 : (shp a.1 a.2).1 = 1) : ce ad ca h a = .inl (ca a, (shp a.1 a.2).2, .inl (h.1 a.1 a.2)) := by
  unfold ce
  rw [h1] <;> rfl
theorem ce_ref {ad : Nat × Nat → Nat} {ca : Nat × Nat → ClassId} {h : AH} {a : Nat × Nat} (h1 : (shp a.1 a.2).1 = 2 ∨ (shp a.1 a.2).1 = 3) : ce ad ca h a = .inl (ca a, (shp a.1 a.2).2, .inr (.inr (.inr (.inr (fun i => (h.2.1 a.1 a.2 i).map ad))))) := by
  unfold ce
  rcases h1 with h1 | h1 <;> rw [h1] <;> rfl
theorem ce_congr {ad : Nat × Nat → Nat} {ca : Nat × Nat → ClassId} {h h' : AH} {b : Nat × Nat} (h1 : ∀ k, h'.1 b.1 b.2 k = h.1 b.1 b.2 k) (h2 : ∀ k, h'.2.1 b.1 b.2 k = h.2.1 b.1 b.2 k) : ce ad ca h' b = ce ad ca h b := by
  have e1 : h'.1 b.1 b.2 = h.1 b.1 b.2 := funext h1
  have e2 : h'.2.1 b.1 b.2 = h.2.1 b.1 b.2 := funext h2
  unfold ce ceF
  rw [e1, e2]
theorem ceF_len (ad : Nat × Nat → Nat) (h : AH) (a : Nat × Nat) (ci : Nat) : (ceF ad h a ci).length = nF ci := by rw [ceF, List.length_map, List.length_range]
theorem ceF_at {ad : Nat × Nat → Nat} {h : AH} {a : Nat × Nat} {ci k : Nat} (hk : k < nF ci) : (ceF ad h a ci)[k]? = some (bif Nat.beq (fkd ci k) 2 then va_rf ((h.2.1 a.1 a.2 k).map ad) else .int (h.1 a.1 a.2 k)) := by
  rw [ceF, List.getElem?_map, List.getElem?_range hk]
  rfl
theorem ceF_set {ad : Nat × Nat → Nat} {h h' : AH} {a : Nat × Nat} {ci k : Nat} {v : Value} (hk : k < nF ci) (hv : (bif Nat.beq (fkd ci k) 2 then va_rf ((h'.2.1 a.1 a.2 k).map ad) else .int (h'.1 a.1 a.2 k)) = v) (h1 : ∀ j, j ≠ k → h'.1 a.1 a.2 j = h.1 a.1 a.2 j) (h2 : ∀ j, j ≠ k → h'.2.1 a.1 a.2 j = h.2.1 a.1 a.2 j) : (ceF ad h a ci).set k v = ceF ad h' a ci := by
  apply List.ext_getElem?
  intro j
  by_cases e : j = k
  · subst e
    rw [List.getElem?_set_self (by rw [ceF_len]; exact hk), ceF_at hk, hv]
  · rw [List.getElem?_set_ne (Ne.symm e)]
    rcases Nat.lt_or_ge j (nF ci) with hj | hj
    · rw [ceF_at hj, ceF_at hj, h1 j e, h2 j e]
    · rw [List.getElem?_eq_none (by rw [ceF_len]; exact hj), List.getElem?_eq_none (by rw [ceF_len]; exact hj)]
theorem wI_I (h : AH) (g j k : Nat) (v : Int32) (g' j' k' : Nat) : (wI h g j k v).1 g' j' k' = if g' = g ∧ j' = j ∧ k' = k then v else h.1 g' j' k' := rfl
theorem wR_R (h : AH) (g j k : Nat) (v : Option (Nat × Nat)) (g' j' k' : Nat) : (wR h g j k v).2.1 g' j' k' = if g' = g ∧ j' = j ∧ k' = k then v else h.2.1 g' j' k' := rfl
theorem ne_pair {a b : Nat × Nat} (h : b ≠ a) : ¬ (b.1 = a.1 ∧ b.2 = a.2) := fun q => h (Prod.ext q.1 q.2)
theorem ce_wI {ad : Nat × Nat → Nat} {ca : Nat × Nat → ClassId} {h : AH} {a b : Nat × Nat} {k : Nat} {v : Int32} (hb : b ≠ a) : ce ad ca (wI h a.1 a.2 k v) b = ce ad ca h b :=
  ce_congr (fun j => by rw [wI_I, if_neg (fun q => ne_pair hb ⟨q.1, q.2.1⟩)]) (fun _ => rfl)
theorem ce_wR {ad : Nat × Nat → Nat} {ca : Nat × Nat → ClassId} {h : AH} {a b : Nat × Nat} {k : Nat} {v : Option (Nat × Nat)} (hb : b ≠ a) : ce ad ca (wR h a.1 a.2 k v) b = ce ad ca h b :=
  ce_congr (fun _ => rfl) (fun j => by rw [wR_R, if_neg (fun q => ne_pair hb ⟨q.1, q.2.1⟩)])
section SND
variable {l : Launch} {D : va_G} {bs : Nat} {sa : Nat → Nat} {sc : Nat × (Nat → Int32)}
variable {p : Program} {e : Env} {R : Room} {s : State} {m : MethodId} {args : Array Value} {below : List Frame} {meth : Method} {cc : Code} {Q : State → Prop} {M : MD} {d c i : Nat} {hh : AH} {ad0 : Nat × Nat → Nat} {n0 s0 : Nat} {o : AO}
/-- what a frame has from its entry on -/
def FR (D : va_G) (bs : Nat) (sa : Nat → Nat) (sc : Nat × (Nat → Int32)) (p : Program) (R : Room) (s : State) (m : MethodId) (meth : Method) (cc : Code) (M : MD) (d c i n0 s0 : Nat) (o : AO) : Prop :=
  md c i = some M ∧ p.tables.exec = Jvm.exec ∧ cc.code = M.2.1 ∧ cc.maxLocals = M.2.2.1 ∧ s.vm.findClass (ownOf c) = some m.cls ∧ (M.1.name = "<init>" → meth.name = "<init>") ∧ EV D bs sa sc s ∧ d ≤ R.frames ∧ 38 * d ≤ R.locals ∧ lin (alo o.2) ≤ R.cells + n0 ∧ SL (lin (alo o.2)) ≤ R.slots + s0
/-- what holds at each instruction of it -/
def CXm (D : va_G) (bs : Nat) (sa : Nat → Nat) (sc : Nat × (Nat → Int32)) (s : State) (hh : AH) (ad0 : Nat × Nat → Nat) (n0 s0 nL : Nat) (ls : List (Option AV)) (st : List AV) (h : AH) (H : Heap) (locs : List Loc) (cells slots : Nat) (ad : Nat × Nat → Nat) (ca : Nat × Nat → ClassId) (lsA : Array Slot) : Prop :=
  WD D bs sc ad ca h H s ∧ va_S (fun q => bs ≤ q) s.heap H locs ∧ lsR ad nL ls lsA ∧ (∀ v ∈ st, okv h v) ∧ (∀ k v, lkp none ls k = some v → okv h v) ∧ (∀ k, k < 4 → ad (0, 1000 + k) = sa k) ∧ (∀ a, aD hh a → ad a = ad0 a) ∧ lin (alo hh) ≤ lin (alo h) ∧ cells + n0 = lin (alo h) ∧ slots + s0 = SL (lin (alo h))
def GX (l : Launch) (D : va_G) (bs : Nat) (sa : Nat → Nat) (sc : Nat × (Nat → Int32)) (p : Program) (e : Env) (R : Room) (s : State) (m : MethodId) (args : Array Value) (below : List Frame) (meth : Method) (cc : Code) (Q : State → Prop) (M : MD) (hh : AH) (ad0 : Nat × Nat → Nat) (n0 s0 : Nat) (pc : Nat) (ls : List (Option AV)) (st : List AV) (h : AH) : Prop :=
  ∀ H locs cells slots ad ca lsA, CXm D bs sa sc s hh ad0 n0 s0 M.2.2.1 ls st h H locs cells slots ad ca lsA → W p l e R s m args below meth cc H locs cells slots Q (F0 m pc lsA (st.map (cv ad)))
theorem CXm.st {nL : Nat} {ls : List (Option AV)} {st st' : List AV} {h : AH} {H : Heap} {locs : List Loc} {cells slots : Nat} {ad : Nat × Nat → Nat} {ca : Nat × Nat → ClassId} {lsA : Array Slot} (hC : CXm D bs sa sc s hh ad0 n0 s0 nL ls st h H locs cells slots ad ca lsA) (h1 : ∀ v ∈ st', okv h v) : CXm D bs sa sc s hh ad0 n0 s0 nL ls st' h H locs cells slots ad ca lsA := ⟨hC.1, hC.2.1, hC.2.2.1, h1, hC.2.2.2.2⟩
theorem CXm.lc {nL : Nat} {ls ls' : List (Option AV)} {st st' : List AV} {h : AH} {H : Heap} {locs : List Loc} {cells slots : Nat} {ad : Nat × Nat → Nat} {ca : Nat × Nat → ClassId} {lsA lsB : Array Slot} (hC : CXm D bs sa sc s hh ad0 n0 s0 nL ls st h H locs cells slots ad ca lsA) (hl : lsR ad nL ls' lsB) (h1 : ∀ v ∈ st', okv h v) (h2 : ∀ k v, lkp none ls' k = some v → okv h v) : CXm D bs sa sc s hh ad0 n0 s0 nL ls' st' h H locs cells slots ad ca lsB := ⟨hC.1, hC.2.1, hl, h1, h2, hC.2.2.2.2.2⟩
theorem ok_cons {h : AH} {v : AV} {st : List AV} (h1 : okv h v) (h2 : ∀ w ∈ st, okv h w) : ∀ w ∈ v :: st, okv h w := fun w hw => (List.mem_cons.mp hw).elim (fun q => q ▸ h1) (h2 w)
theorem ok_tail {h : AH} {v : AV} {st : List AV} (h2 : ∀ w ∈ v :: st, okv h w) : ∀ w ∈ st, okv h w := fun w hw => h2 w (List.mem_cons_of_mem _ hw)
theorem ok_head {h : AH} {v : AV} {st : List AV} (h2 : ∀ w ∈ v :: st, okv h w) : okv h v := h2 v List.mem_cons_self
variable {pc : Nat} {ls : List (Option AV)} {st r : List AV} {h : AH}
theorem g_iconst {k : Int} (hF : FR D bs sa sc p R s m meth cc M d c i n0 s0 o) (hdg : decode M.2.1 pc = .ok (.iconst k, 1)) (g : GX l D bs sa sc p e R s m args below meth cc Q M hh ad0 n0 s0 (pc + 1) ls (.inl (Int32.ofInt k) :: st) h) : GX l D bs sa sc p e R s m args below meth cc Q M hh ad0 n0 s0 pc ls st h :=
  fun H locs cells slots ad ca lsA hC => lv_iconst hF.2.1 hF.2.2.1 hdg rfl (g _ _ _ _ _ _ _ (hC.st (ok_cons trivial hC.2.2.2.1)))
theorem g_bipush {k : Int} (hF : FR D bs sa sc p R s m meth cc M d c i n0 s0 o) (hdg : decode M.2.1 pc = .ok (.bipush k, 2)) (g : GX l D bs sa sc p e R s m args below meth cc Q M hh ad0 n0 s0 (pc + 2) ls (.inl (Int8.ofInt k).toInt32 :: st) h) : GX l D bs sa sc p e R s m args below meth cc Q M hh ad0 n0 s0 pc ls st h :=
  fun H locs cells slots ad ca lsA hC => lv_bipush hF.2.1 hF.2.2.1 hdg rfl (g _ _ _ _ _ _ _ (hC.st (ok_cons trivial hC.2.2.2.1)))
theorem g_sipush {k : Int} (hF : FR D bs sa sc p R s m meth cc M d c i n0 s0 o) (hdg : decode M.2.1 pc = .ok (.sipush k, 3)) (g : GX l D bs sa sc p e R s m args below meth cc Q M hh ad0 n0 s0 (pc + 3) ls (.inl (Int16.ofInt k).toInt32 :: st) h) : GX l D bs sa sc p e R s m args below meth cc Q M hh ad0 n0 s0 pc ls st h :=
  fun H locs cells slots ad ca lsA hC => lv_sipush hF.2.1 hF.2.2.1 hdg rfl (g _ _ _ _ _ _ _ (hC.st (ok_cons trivial hC.2.2.2.1)))
theorem g_lconst {k : Fin 2} (hF : FR D bs sa sc p R s m meth cc M d c i n0 s0 o) (hdg : decode M.2.1 pc = .ok (.lconst k, 1)) (g : GX l D bs sa sc p e R s m args below meth cc Q M hh ad0 n0 s0 (pc + 1) ls (.inr (.inl (Int64.ofNat (k : Nat))) :: st) h) : GX l D bs sa sc p e R s m args below meth cc Q M hh ad0 n0 s0 pc ls st h :=
  fun H locs cells slots ad ca lsA hC => lv_lconst hF.2.1 hF.2.2.1 hdg rfl (g _ _ _ _ _ _ _ (hC.st (ok_cons trivial hC.2.2.2.1)))
theorem g_ldc {k : Nat} {v : Int32} (hF : FR D bs sa sc p R s m meth cc M d c i n0 s0 o) (hk : alk (lkp [] sd_kt c) k = some v) (hdg : decode M.2.1 pc = .ok (.ldc k, 2)) (g : GX l D bs sa sc p e R s m args below meth cc Q M hh ad0 n0 s0 (pc + 2) ls (.inl v :: st) h) : GX l D bs sa sc p e R s m args below meth cc Q M hh ad0 n0 s0 pc ls st h :=
  fun H locs cells slots ad ca lsA hC => lv_ldc hF.2.1 hF.2.2.1 hF.2.2.2.2.1 (hF.2.2.2.2.2.2.1.w (ckK c _ (alk_mem hk))) hdg (g _ _ _ _ _ _ _ (hC.st (ok_cons trivial hC.2.2.2.1)))
theorem g_ldcw {k : Nat} {v : Int32} (hF : FR D bs sa sc p R s m meth cc M d c i n0 s0 o) (hk : alk (lkp [] sd_kt c) k = some v) (hdg : decode M.2.1 pc = .ok (.ldc_w k, 3)) (g : GX l D bs sa sc p e R s m args below meth cc Q M hh ad0 n0 s0 (pc + 3) ls (.inl v :: st) h) : GX l D bs sa sc p e R s m args below meth cc Q M hh ad0 n0 s0 pc ls st h :=
  fun H locs cells slots ad ca lsA hC => lv_ldcw hF.2.1 hF.2.2.1 hF.2.2.2.2.1 (hF.2.2.2.2.2.2.1.w (ckK c _ (alk_mem hk))) hdg (g _ _ _ _ _ _ _ (hC.st (ok_cons trivial hC.2.2.2.1)))
theorem g_ldc2 {k : Nat} {v : Int64} (hF : FR D bs sa sc p R s m meth cc M d c i n0 s0 o) (hk : alk (lkp [] sd_lt c) k = some v) (hdg : decode M.2.1 pc = .ok (.ldc2_w k, 3)) (g : GX l D bs sa sc p e R s m args below meth cc Q M hh ad0 n0 s0 (pc + 3) ls (.inr (.inl v) :: st) h) : GX l D bs sa sc p e R s m args below meth cc Q M hh ad0 n0 s0 pc ls st h :=
  fun H locs cells slots ad ca lsA hC => lv_ldc2 hF.2.1 hF.2.2.1 hF.2.2.2.2.1 (hF.2.2.2.2.2.2.1.w (ckL c _ (alk_mem hk))) hdg (g _ _ _ _ _ _ _ (hC.st (ok_cons trivial hC.2.2.2.1)))
theorem g_iload_n {k : Fin 4} {x : Int32} (hF : FR D bs sa sc p R s m meth cc M d c i n0 s0 o) (hk : lkp none ls (k : Nat) = some (.inl x)) (hdg : decode M.2.1 pc = .ok (.iload_n k, 1)) (g : GX l D bs sa sc p e R s m args below meth cc Q M hh ad0 n0 s0 (pc + 1) ls (.inl x :: st) h) : GX l D bs sa sc p e R s m args below meth cc Q M hh ad0 n0 s0 pc ls st h :=
  fun H locs cells slots ad ca lsA hC => lv_iload_n hF.2.1 hF.2.2.1 hdg rfl (hC.2.2.1.2.2.2 _ _ hk) (g _ _ _ _ _ _ _ (hC.st (ok_cons trivial hC.2.2.2.1)))
theorem g_iload {k : Nat} {x : Int32} (hF : FR D bs sa sc p R s m meth cc M d c i n0 s0 o) (hk : lkp none ls k = some (.inl x)) (hdg : decode M.2.1 pc = .ok (.iload k, 2)) (g : GX l D bs sa sc p e R s m args below meth cc Q M hh ad0 n0 s0 (pc + 2) ls (.inl x :: st) h) : GX l D bs sa sc p e R s m args below meth cc Q M hh ad0 n0 s0 pc ls st h :=
  fun H locs cells slots ad ca lsA hC => lv_iload hF.2.1 hF.2.2.1 hdg (hC.2.2.1.2.2.2 _ _ hk) (g _ _ _ _ _ _ _ (hC.st (ok_cons trivial hC.2.2.2.1)))
theorem g_lload_n {k : Fin 4} {x : Int64} (hF : FR D bs sa sc p R s m meth cc M d c i n0 s0 o) (hk : lkp none ls (k : Nat) = some (.inr (.inl x))) (hdg : decode M.2.1 pc = .ok (.lload_n k, 1)) (g : GX l D bs sa sc p e R s m args below meth cc Q M hh ad0 n0 s0 (pc + 1) ls (.inr (.inl x) :: st) h) : GX l D bs sa sc p e R s m args below meth cc Q M hh ad0 n0 s0 pc ls st h :=
  fun H locs cells slots ad ca lsA hC => lv_lload_n hF.2.1 hF.2.2.1 hdg rfl (hC.2.2.1.2.2.2 _ _ hk) (g _ _ _ _ _ _ _ (hC.st (ok_cons trivial hC.2.2.2.1)))
theorem g_lload {k : Nat} {x : Int64} (hF : FR D bs sa sc p R s m meth cc M d c i n0 s0 o) (hk : lkp none ls k = some (.inr (.inl x))) (hdg : decode M.2.1 pc = .ok (.lload k, 2)) (g : GX l D bs sa sc p e R s m args below meth cc Q M hh ad0 n0 s0 (pc + 2) ls (.inr (.inl x) :: st) h) : GX l D bs sa sc p e R s m args below meth cc Q M hh ad0 n0 s0 pc ls st h :=
  fun H locs cells slots ad ca lsA hC => lv_lload hF.2.1 hF.2.2.1 hdg (hC.2.2.1.2.2.2 _ _ hk) (g _ _ _ _ _ _ _ (hC.st (ok_cons trivial hC.2.2.2.1)))
theorem g_aload_n {k : Fin 4} {a : Nat × Nat} (hF : FR D bs sa sc p R s m meth cc M d c i n0 s0 o) (hk : lkp none ls (k : Nat) = some (.inr (.inr (some a)))) (hdg : decode M.2.1 pc = .ok (.aload_n k, 1)) (g : GX l D bs sa sc p e R s m args below meth cc Q M hh ad0 n0 s0 (pc + 1) ls (.inr (.inr (some a)) :: st) h) : GX l D bs sa sc p e R s m args below meth cc Q M hh ad0 n0 s0 pc ls st h :=
  fun H locs cells slots ad ca lsA hC => lv_aload_n hF.2.1 hF.2.2.1 hdg rfl (hC.2.2.1.2.2.2 _ _ hk) (g _ _ _ _ _ _ _ (hC.st (ok_cons (hC.2.2.2.2.1 _ _ hk) hC.2.2.2.1)))
theorem g_aload {k : Nat} {a : Nat × Nat} (hF : FR D bs sa sc p R s m meth cc M d c i n0 s0 o) (hk : lkp none ls k = some (.inr (.inr (some a)))) (hdg : decode M.2.1 pc = .ok (.aload k, 2)) (g : GX l D bs sa sc p e R s m args below meth cc Q M hh ad0 n0 s0 (pc + 2) ls (.inr (.inr (some a)) :: st) h) : GX l D bs sa sc p e R s m args below meth cc Q M hh ad0 n0 s0 pc ls st h :=
  fun H locs cells slots ad ca lsA hC => lv_aload hF.2.1 hF.2.2.1 hdg (hC.2.2.1.2.2.2 _ _ hk) (g _ _ _ _ _ _ _ (hC.st (ok_cons (hC.2.2.2.2.1 _ _ hk) hC.2.2.2.1)))
theorem lk_upd {k : Nat} {v : AV} (hk : k < ls.length) (hv : okv h v) (h2 : ∀ k v, lkp none ls k = some v → okv h v) : ∀ j w, lkp none (ls.set k (some v)) j = some w → okv h w := by
  intro j w hw
  rw [lkp_set none (some v) ls k j hk] at hw
  by_cases q : j = k
  · rw [if_pos q] at hw
    cases hw
    exact hv
  · rw [if_neg q] at hw
    exact h2 j w hw
theorem sto_inv {k : Nat} {v : AV} {f : List (Option AV) → AA} {A : AA} (ha : sto ls k v f = A) (hA : A ≠ a_fail) : noL ls = true ∧ k < ls.length ∧ f (ls.set k (some v)) = A := by
  unfold sto at ha
  cases h1 : noL ls && Nat.blt k ls.length with
  | false => rw [h1] at ha; exact absurd ha.symm hA
  | true =>
    rw [h1] at ha
    have h2 := Bool.and_eq_true _ _ ▸ h1
    exact ⟨h2.1, Nat.le_of_ble_eq_true h2.2, ha⟩
theorem g_istore_n {k : Fin 4} {x : Int32} (hF : FR D bs sa sc p R s m meth cc M d c i n0 s0 o) (hn : noL ls = true) (hk : (k : Nat) < ls.length) (hdg : decode M.2.1 pc = .ok (.istore_n k, 1)) (g : GX l D bs sa sc p e R s m args below meth cc Q M hh ad0 n0 s0 (pc + 1) (ls.set (k : Nat) (some (.inl x))) r h) : GX l D bs sa sc p e R s m args below meth cc Q M hh ad0 n0 s0 pc ls (.inl x :: r) h :=
  fun H locs cells slots ad ca lsA hC => lv_istore_n hF.2.1 hF.2.2.1 hdg rfl hC.2.2.1.has (by rw [← hC.2.2.1.2.2.1]; exact hk) rfl (fun lsB hB => g _ _ _ _ _ _ _ (hC.lc (hC.2.2.1.store (v := .inl x) hn hk hB) (ok_tail hC.2.2.2.1) (lk_upd hk trivial hC.2.2.2.2.1)))
theorem g_istore {k : Nat} {x : Int32} (hF : FR D bs sa sc p R s m meth cc M d c i n0 s0 o) (hn : noL ls = true) (hk : k < ls.length) (hdg : decode M.2.1 pc = .ok (.istore k, 2)) (g : GX l D bs sa sc p e R s m args below meth cc Q M hh ad0 n0 s0 (pc + 2) (ls.set k (some (.inl x))) r h) : GX l D bs sa sc p e R s m args below meth cc Q M hh ad0 n0 s0 pc ls (.inl x :: r) h :=
  fun H locs cells slots ad ca lsA hC => lv_istore hF.2.1 hF.2.2.1 hdg hC.2.2.1.has (by rw [← hC.2.2.1.2.2.1]; exact hk) rfl (fun lsB hB => g _ _ _ _ _ _ _ (hC.lc (hC.2.2.1.store (v := .inl x) hn hk hB) (ok_tail hC.2.2.2.1) (lk_upd hk trivial hC.2.2.2.2.1)))
theorem g_astore_n {k : Fin 4} {a : Nat × Nat} (hF : FR D bs sa sc p R s m meth cc M d c i n0 s0 o) (hn : noL ls = true) (hk : (k : Nat) < ls.length) (hdg : decode M.2.1 pc = .ok (.astore_n k, 1)) (g : GX l D bs sa sc p e R s m args below meth cc Q M hh ad0 n0 s0 (pc + 1) (ls.set (k : Nat) (some (.inr (.inr (some a))))) r h) : GX l D bs sa sc p e R s m args below meth cc Q M hh ad0 n0 s0 pc ls (.inr (.inr (some a)) :: r) h :=
  fun H locs cells slots ad ca lsA hC => lv_astore_n hF.2.1 hF.2.2.1 hdg rfl hC.2.2.1.has (by rw [← hC.2.2.1.2.2.1]; exact hk) rfl (fun lsB hB => g _ _ _ _ _ _ _ (hC.lc (hC.2.2.1.store (v := .inr (.inr (some a))) hn hk hB) (ok_tail hC.2.2.2.1) (lk_upd hk (ok_head hC.2.2.2.1) hC.2.2.2.2.1)))
theorem g_astore {k : Nat} {a : Nat × Nat} (hF : FR D bs sa sc p R s m meth cc M d c i n0 s0 o) (hn : noL ls = true) (hk : k < ls.length) (hdg : decode M.2.1 pc = .ok (.astore k, 2)) (g : GX l D bs sa sc p e R s m args below meth cc Q M hh ad0 n0 s0 (pc + 2) (ls.set k (some (.inr (.inr (some a))))) r h) : GX l D bs sa sc p e R s m args below meth cc Q M hh ad0 n0 s0 pc ls (.inr (.inr (some a)) :: r) h :=
  fun H locs cells slots ad ca lsA hC => lv_astore hF.2.1 hF.2.2.1 hdg hC.2.2.1.has (by rw [← hC.2.2.1.2.2.1]; exact hk) rfl (fun lsB hB => g _ _ _ _ _ _ _ (hC.lc (hC.2.2.1.store (v := .inr (.inr (some a))) hn hk hB) (ok_tail hC.2.2.2.1) (lk_upd hk (ok_head hC.2.2.2.1) hC.2.2.2.2.1)))
theorem g_iinc {k : Nat} {z : Int} {x : Int32} (hF : FR D bs sa sc p R s m meth cc M d c i n0 s0 o) (hx : lkp none ls k = some (.inl x)) (hn : noL ls = true) (hk : k < ls.length) (hdg : decode M.2.1 pc = .ok (.iinc k z, 3)) (g : GX l D bs sa sc p e R s m args below meth cc Q M hh ad0 n0 s0 (pc + 3) (ls.set k (some (.inl (x + Int32.ofInt z)))) st h) : GX l D bs sa sc p e R s m args below meth cc Q M hh ad0 n0 s0 pc ls st h := by
  intro H locs cells slots ad ca lsA hC
  obtain ⟨q, hq⟩ := List.getElem?_of_mem (lsL_mem (ad := ad) hx)
  exact lv_iinc hF.2.1 hF.2.2.1 hdg hC.2.2.1.has hq rfl (by rw [← hC.2.2.1.2.2.1]; exact hk) rfl (fun lsB hB => g _ _ _ _ _ _ _ (hC.lc (hC.2.2.1.store (v := .inl (x + Int32.ofInt z)) hn hk hB) hC.2.2.2.1 (lk_upd hk trivial hC.2.2.2.2.1)))
theorem g_iadd {x y : Int32} (hF : FR D bs sa sc p R s m meth cc M d c i n0 s0 o) (hdg : decode M.2.1 pc = .ok (.iadd, 1)) (g : GX l D bs sa sc p e R s m args below meth cc Q M hh ad0 n0 s0 (pc + 1) ls (.inl (x + y) :: r) h) : GX l D bs sa sc p e R s m args below meth cc Q M hh ad0 n0 s0 pc ls (.inl y :: .inl x :: r) h :=
  fun H locs cells slots ad ca lsA hC => lv_iadd hF.2.1 hF.2.2.1 hdg (g _ _ _ _ _ _ _ (hC.st (ok_cons trivial (ok_tail (ok_tail hC.2.2.2.1)))))
theorem g_isub {x y : Int32} (hF : FR D bs sa sc p R s m meth cc M d c i n0 s0 o) (hdg : decode M.2.1 pc = .ok (.isub, 1)) (g : GX l D bs sa sc p e R s m args below meth cc Q M hh ad0 n0 s0 (pc + 1) ls (.inl (x - y) :: r) h) : GX l D bs sa sc p e R s m args below meth cc Q M hh ad0 n0 s0 pc ls (.inl y :: .inl x :: r) h :=
  fun H locs cells slots ad ca lsA hC => lv_isub hF.2.1 hF.2.2.1 hdg (g _ _ _ _ _ _ _ (hC.st (ok_cons trivial (ok_tail (ok_tail hC.2.2.2.1)))))
theorem g_imul {x y : Int32} (hF : FR D bs sa sc p R s m meth cc M d c i n0 s0 o) (hdg : decode M.2.1 pc = .ok (.imul, 1)) (g : GX l D bs sa sc p e R s m args below meth cc Q M hh ad0 n0 s0 (pc + 1) ls (.inl (x * y) :: r) h) : GX l D bs sa sc p e R s m args below meth cc Q M hh ad0 n0 s0 pc ls (.inl y :: .inl x :: r) h :=
  fun H locs cells slots ad ca lsA hC => lv_imul hF.2.1 hF.2.2.1 hdg (g _ _ _ _ _ _ _ (hC.st (ok_cons trivial (ok_tail (ok_tail hC.2.2.2.1)))))
theorem g_iand {x y : Int32} (hF : FR D bs sa sc p R s m meth cc M d c i n0 s0 o) (hdg : decode M.2.1 pc = .ok (.iand, 1)) (g : GX l D bs sa sc p e R s m args below meth cc Q M hh ad0 n0 s0 (pc + 1) ls (.inl (x &&& y) :: r) h) : GX l D bs sa sc p e R s m args below meth cc Q M hh ad0 n0 s0 pc ls (.inl y :: .inl x :: r) h :=
  fun H locs cells slots ad ca lsA hC => lv_iand hF.2.1 hF.2.2.1 hdg (g _ _ _ _ _ _ _ (hC.st (ok_cons trivial (ok_tail (ok_tail hC.2.2.2.1)))))
theorem g_ior {x y : Int32} (hF : FR D bs sa sc p R s m meth cc M d c i n0 s0 o) (hdg : decode M.2.1 pc = .ok (.ior, 1)) (g : GX l D bs sa sc p e R s m args below meth cc Q M hh ad0 n0 s0 (pc + 1) ls (.inl (x ||| y) :: r) h) : GX l D bs sa sc p e R s m args below meth cc Q M hh ad0 n0 s0 pc ls (.inl y :: .inl x :: r) h :=
  fun H locs cells slots ad ca lsA hC => lv_ior hF.2.1 hF.2.2.1 hdg (g _ _ _ _ _ _ _ (hC.st (ok_cons trivial (ok_tail (ok_tail hC.2.2.2.1)))))
theorem g_ixor {x y : Int32} (hF : FR D bs sa sc p R s m meth cc M d c i n0 s0 o) (hdg : decode M.2.1 pc = .ok (.ixor, 1)) (g : GX l D bs sa sc p e R s m args below meth cc Q M hh ad0 n0 s0 (pc + 1) ls (.inl (x ^^^ y) :: r) h) : GX l D bs sa sc p e R s m args below meth cc Q M hh ad0 n0 s0 pc ls (.inl y :: .inl x :: r) h :=
  fun H locs cells slots ad ca lsA hC => lv_ixor hF.2.1 hF.2.2.1 hdg (g _ _ _ _ _ _ _ (hC.st (ok_cons trivial (ok_tail (ok_tail hC.2.2.2.1)))))
theorem g_ishl {x y : Int32} (hF : FR D bs sa sc p R s m meth cc M d c i n0 s0 o) (hdg : decode M.2.1 pc = .ok (.ishl, 1)) (g : GX l D bs sa sc p e R s m args below meth cc Q M hh ad0 n0 s0 (pc + 1) ls (.inl (x <<< (y &&& 31)) :: r) h) : GX l D bs sa sc p e R s m args below meth cc Q M hh ad0 n0 s0 pc ls (.inl y :: .inl x :: r) h :=
  fun H locs cells slots ad ca lsA hC => lv_ishl hF.2.1 hF.2.2.1 hdg (g _ _ _ _ _ _ _ (hC.st (ok_cons trivial (ok_tail (ok_tail hC.2.2.2.1)))))
theorem g_ishr {x y : Int32} (hF : FR D bs sa sc p R s m meth cc M d c i n0 s0 o) (hdg : decode M.2.1 pc = .ok (.ishr, 1)) (g : GX l D bs sa sc p e R s m args below meth cc Q M hh ad0 n0 s0 (pc + 1) ls (.inl (x >>> (y &&& 31)) :: r) h) : GX l D bs sa sc p e R s m args below meth cc Q M hh ad0 n0 s0 pc ls (.inl y :: .inl x :: r) h :=
  fun H locs cells slots ad ca lsA hC => lv_ishr hF.2.1 hF.2.2.1 hdg (g _ _ _ _ _ _ _ (hC.st (ok_cons trivial (ok_tail (ok_tail hC.2.2.2.1)))))
theorem g_iushr {x y : Int32} (hF : FR D bs sa sc p R s m meth cc M d c i n0 s0 o) (hdg : decode M.2.1 pc = .ok (.iushr, 1)) (g : GX l D bs sa sc p e R s m args below meth cc Q M hh ad0 n0 s0 (pc + 1) ls (.inl (jushr x y) :: r) h) : GX l D bs sa sc p e R s m args below meth cc Q M hh ad0 n0 s0 pc ls (.inl y :: .inl x :: r) h :=
  fun H locs cells slots ad ca lsA hC => lv_iushr hF.2.1 hF.2.2.1 hdg rfl (g _ _ _ _ _ _ _ (hC.st (ok_cons trivial (ok_tail (ok_tail hC.2.2.2.1)))))
theorem g_idiv {x y : Int32} (hF : FR D bs sa sc p R s m meth cc M d c i n0 s0 o) (hy : ¬ y = 0) (hdg : decode M.2.1 pc = .ok (.idiv, 1)) (g : GX l D bs sa sc p e R s m args below meth cc Q M hh ad0 n0 s0 (pc + 1) ls (.inl (x / y) :: r) h) : GX l D bs sa sc p e R s m args below meth cc Q M hh ad0 n0 s0 pc ls (.inl y :: .inl x :: r) h :=
  fun H locs cells slots ad ca lsA hC => lv_idiv hF.2.1 hF.2.2.1 hdg hy (g _ _ _ _ _ _ _ (hC.st (ok_cons trivial (ok_tail (ok_tail hC.2.2.2.1)))))
theorem g_irem {x y : Int32} (hF : FR D bs sa sc p R s m meth cc M d c i n0 s0 o) (hy : ¬ y = 0) (hdg : decode M.2.1 pc = .ok (.irem, 1)) (g : GX l D bs sa sc p e R s m args below meth cc Q M hh ad0 n0 s0 (pc + 1) ls (.inl (jrem x y) :: r) h) : GX l D bs sa sc p e R s m args below meth cc Q M hh ad0 n0 s0 pc ls (.inl y :: .inl x :: r) h :=
  fun H locs cells slots ad ca lsA hC => lv_irem hF.2.1 hF.2.2.1 hdg hy (g _ _ _ _ _ _ _ (hC.st (ok_cons trivial (ok_tail (ok_tail hC.2.2.2.1)))))
theorem g_ineg {x : Int32} (hF : FR D bs sa sc p R s m meth cc M d c i n0 s0 o) (hdg : decode M.2.1 pc = .ok (.ineg, 1)) (g : GX l D bs sa sc p e R s m args below meth cc Q M hh ad0 n0 s0 (pc + 1) ls (.inl (-x) :: r) h) : GX l D bs sa sc p e R s m args below meth cc Q M hh ad0 n0 s0 pc ls (.inl x :: r) h :=
  fun H locs cells slots ad ca lsA hC => lv_ineg hF.2.1 hF.2.2.1 hdg (g _ _ _ _ _ _ _ (hC.st (ok_cons trivial (ok_tail hC.2.2.2.1))))
theorem g_i2l {x : Int32} (hF : FR D bs sa sc p R s m meth cc M d c i n0 s0 o) (hdg : decode M.2.1 pc = .ok (.i2l, 1)) (g : GX l D bs sa sc p e R s m args below meth cc Q M hh ad0 n0 s0 (pc + 1) ls (.inr (.inl x.toInt64) :: r) h) : GX l D bs sa sc p e R s m args below meth cc Q M hh ad0 n0 s0 pc ls (.inl x :: r) h :=
  fun H locs cells slots ad ca lsA hC => lv_i2l hF.2.1 hF.2.2.1 hdg rfl (g _ _ _ _ _ _ _ (hC.st (ok_cons trivial (ok_tail hC.2.2.2.1))))
theorem g_i2b {x : Int32} (hF : FR D bs sa sc p R s m meth cc M d c i n0 s0 o) (hdg : decode M.2.1 pc = .ok (.i2b, 1)) (g : GX l D bs sa sc p e R s m args below meth cc Q M hh ad0 n0 s0 (pc + 1) ls (.inl x.toInt8.toInt32 :: r) h) : GX l D bs sa sc p e R s m args below meth cc Q M hh ad0 n0 s0 pc ls (.inl x :: r) h :=
  fun H locs cells slots ad ca lsA hC => lv_i2b hF.2.1 hF.2.2.1 hdg rfl (g _ _ _ _ _ _ _ (hC.st (ok_cons trivial (ok_tail hC.2.2.2.1))))
theorem g_i2s {x : Int32} (hF : FR D bs sa sc p R s m meth cc M d c i n0 s0 o) (hdg : decode M.2.1 pc = .ok (.i2s, 1)) (g : GX l D bs sa sc p e R s m args below meth cc Q M hh ad0 n0 s0 (pc + 1) ls (.inl x.toInt16.toInt32 :: r) h) : GX l D bs sa sc p e R s m args below meth cc Q M hh ad0 n0 s0 pc ls (.inl x :: r) h :=
  fun H locs cells slots ad ca lsA hC => lv_i2s hF.2.1 hF.2.2.1 hdg rfl (g _ _ _ _ _ _ _ (hC.st (ok_cons trivial (ok_tail hC.2.2.2.1))))
theorem g_lcmp {x y : Int64} (hF : FR D bs sa sc p R s m meth cc M d c i n0 s0 o) (hdg : decode M.2.1 pc = .ok (.lcmp, 1)) (g : GX l D bs sa sc p e R s m args below meth cc Q M hh ad0 n0 s0 (pc + 1) ls (.inl (lg_cmp x y) :: r) h) : GX l D bs sa sc p e R s m args below meth cc Q M hh ad0 n0 s0 pc ls (.inr (.inl y) :: .inr (.inl x) :: r) h :=
  fun H locs cells slots ad ca lsA hC => W.lcmp hF.2.1 hF.2.2.1 hdg (g _ _ _ _ _ _ _ (hC.st (ok_cons trivial (ok_tail (ok_tail hC.2.2.2.1)))))
theorem g_dup {v : AV} (hF : FR D bs sa sc p R s m meth cc M d c i n0 s0 o) (hv : avC v = 1) (hdg : decode M.2.1 pc = .ok (.dup, 1)) (g : GX l D bs sa sc p e R s m args below meth cc Q M hh ad0 n0 s0 (pc + 1) ls (v :: v :: r) h) : GX l D bs sa sc p e R s m args below meth cc Q M hh ad0 n0 s0 pc ls (v :: r) h :=
  fun H locs cells slots ad ca lsA hC => lv_dup hF.2.1 hF.2.2.1 hdg ((cv_cat ad v).trans hv) (g _ _ _ _ _ _ _ (hC.st (ok_cons (ok_head hC.2.2.2.1) hC.2.2.2.1)))
theorem g_dup2 {v w : AV} (hF : FR D bs sa sc p R s m meth cc M d c i n0 s0 o) (hv : avC v = 1) (hw : avC w = 1) (hdg : decode M.2.1 pc = .ok (.dup2, 1)) (g : GX l D bs sa sc p e R s m args below meth cc Q M hh ad0 n0 s0 (pc + 1) ls (v :: w :: v :: w :: r) h) : GX l D bs sa sc p e R s m args below meth cc Q M hh ad0 n0 s0 pc ls (v :: w :: r) h :=
  fun H locs cells slots ad ca lsA hC => lv_dup2_11 hF.2.1 hF.2.2.1 hdg ((cv_cat ad v).trans hv) ((cv_cat ad w).trans hw) (g _ _ _ _ _ _ _ (hC.st (ok_cons (ok_head hC.2.2.2.1) (ok_cons (ok_head (ok_tail hC.2.2.2.1)) hC.2.2.2.1))))
theorem g_goto {off : Int} (hF : FR D bs sa sc p R s m meth cc M d c i n0 s0 o) (ht : (pc : Int) + off = (tgt pc off : Int)) (hdg : decode M.2.1 pc = .ok (.goto off, 3)) (g : GX l D bs sa sc p e R s m args below meth cc Q M hh ad0 n0 s0 (tgt pc off) ls st h) : GX l D bs sa sc p e R s m args below meth cc Q M hh ad0 n0 s0 pc ls st h :=
  fun H locs cells slots ad ca lsA hC => lv_goto hF.2.1 hF.2.2.1 hdg ht (g _ _ _ _ _ _ _ hC)
theorem g_if_eq {x : Int32} {off : Int} (hF : FR D bs sa sc p R s m meth cc M d c i n0 s0 o) (ht : (pc : Int) + off = (tgt pc off : Int)) (hdg : decode M.2.1 pc = .ok (.ifCond .eq off, 3)) (g1 : x = 0 → GX l D bs sa sc p e R s m args below meth cc Q M hh ad0 n0 s0 (tgt pc off) ls r h) (g2 : ¬ x = 0 → GX l D bs sa sc p e R s m args below meth cc Q M hh ad0 n0 s0 (pc + 3) ls r h) : GX l D bs sa sc p e R s m args below meth cc Q M hh ad0 n0 s0 pc ls (.inl x :: r) h :=
  fun H locs cells slots ad ca lsA hC => lv_if_eq hF.2.1 hF.2.2.1 hdg ht (fun q => g1 q _ _ _ _ _ _ _ (hC.st (ok_tail hC.2.2.2.1))) (fun q => g2 q _ _ _ _ _ _ _ (hC.st (ok_tail hC.2.2.2.1)))
theorem g_if_ne {x : Int32} {off : Int} (hF : FR D bs sa sc p R s m meth cc M d c i n0 s0 o) (ht : (pc : Int) + off = (tgt pc off : Int)) (hdg : decode M.2.1 pc = .ok (.ifCond .ne off, 3)) (g1 : ¬ x = 0 → GX l D bs sa sc p e R s m args below meth cc Q M hh ad0 n0 s0 (tgt pc off) ls r h) (g2 : x = 0 → GX l D bs sa sc p e R s m args below meth cc Q M hh ad0 n0 s0 (pc + 3) ls r h) : GX l D bs sa sc p e R s m args below meth cc Q M hh ad0 n0 s0 pc ls (.inl x :: r) h :=
  fun H locs cells slots ad ca lsA hC => lv_if_ne hF.2.1 hF.2.2.1 hdg ht (fun q => g1 q _ _ _ _ _ _ _ (hC.st (ok_tail hC.2.2.2.1))) (fun q => g2 q _ _ _ _ _ _ _ (hC.st (ok_tail hC.2.2.2.1)))
theorem g_if_lt {x : Int32} {off : Int} (hF : FR D bs sa sc p R s m meth cc M d c i n0 s0 o) (ht : (pc : Int) + off = (tgt pc off : Int)) (hdg : decode M.2.1 pc = .ok (.ifCond .lt off, 3)) (g1 : x < 0 → GX l D bs sa sc p e R s m args below meth cc Q M hh ad0 n0 s0 (tgt pc off) ls r h) (g2 : ¬ x < 0 → GX l D bs sa sc p e R s m args below meth cc Q M hh ad0 n0 s0 (pc + 3) ls r h) : GX l D bs sa sc p e R s m args below meth cc Q M hh ad0 n0 s0 pc ls (.inl x :: r) h :=
  fun H locs cells slots ad ca lsA hC => lv_if_lt hF.2.1 hF.2.2.1 hdg ht (fun q => g1 q _ _ _ _ _ _ _ (hC.st (ok_tail hC.2.2.2.1))) (fun q => g2 q _ _ _ _ _ _ _ (hC.st (ok_tail hC.2.2.2.1)))
theorem g_if_ge {x : Int32} {off : Int} (hF : FR D bs sa sc p R s m meth cc M d c i n0 s0 o) (ht : (pc : Int) + off = (tgt pc off : Int)) (hdg : decode M.2.1 pc = .ok (.ifCond .ge off, 3)) (g1 : ¬ x < 0 → GX l D bs sa sc p e R s m args below meth cc Q M hh ad0 n0 s0 (tgt pc off) ls r h) (g2 : x < 0 → GX l D bs sa sc p e R s m args below meth cc Q M hh ad0 n0 s0 (pc + 3) ls r h) : GX l D bs sa sc p e R s m args below meth cc Q M hh ad0 n0 s0 pc ls (.inl x :: r) h :=
  fun H locs cells slots ad ca lsA hC => lv_if_ge hF.2.1 hF.2.2.1 hdg ht (fun q => g1 (Int32.not_lt.mpr q) _ _ _ _ _ _ _ (hC.st (ok_tail hC.2.2.2.1))) (fun q => g2 (Int32.not_le.mp q) _ _ _ _ _ _ _ (hC.st (ok_tail hC.2.2.2.1)))
theorem g_if_gt {x : Int32} {off : Int} (hF : FR D bs sa sc p R s m meth cc M d c i n0 s0 o) (ht : (pc : Int) + off = (tgt pc off : Int)) (hdg : decode M.2.1 pc = .ok (.ifCond .gt off, 3)) (g1 : 0 < x → GX l D bs sa sc p e R s m args below meth cc Q M hh ad0 n0 s0 (tgt pc off) ls r h) (g2 : ¬ 0 < x → GX l D bs sa sc p e R s m args below meth cc Q M hh ad0 n0 s0 (pc + 3) ls r h) : GX l D bs sa sc p e R s m args below meth cc Q M hh ad0 n0 s0 pc ls (.inl x :: r) h :=
  fun H locs cells slots ad ca lsA hC => lv_if_gt hF.2.1 hF.2.2.1 hdg ht (fun q => g1 q _ _ _ _ _ _ _ (hC.st (ok_tail hC.2.2.2.1))) (fun q => g2 q _ _ _ _ _ _ _ (hC.st (ok_tail hC.2.2.2.1)))
theorem g_if_le {x : Int32} {off : Int} (hF : FR D bs sa sc p R s m meth cc M d c i n0 s0 o) (ht : (pc : Int) + off = (tgt pc off : Int)) (hdg : decode M.2.1 pc = .ok (.ifCond .le off, 3)) (g1 : ¬ 0 < x → GX l D bs sa sc p e R s m args below meth cc Q M hh ad0 n0 s0 (tgt pc off) ls r h) (g2 : 0 < x → GX l D bs sa sc p e R s m args below meth cc Q M hh ad0 n0 s0 (pc + 3) ls r h) : GX l D bs sa sc p e R s m args below meth cc Q M hh ad0 n0 s0 pc ls (.inl x :: r) h :=
  fun H locs cells slots ad ca lsA hC => lv_if_le hF.2.1 hF.2.2.1 hdg ht (fun q => g1 (Int32.not_lt.mpr q) _ _ _ _ _ _ _ (hC.st (ok_tail hC.2.2.2.1))) (fun q => g2 (Int32.not_le.mp q) _ _ _ _ _ _ _ (hC.st (ok_tail hC.2.2.2.1)))
theorem g_icmp_eq {x y : Int32} {off : Int} (hF : FR D bs sa sc p R s m meth cc M d c i n0 s0 o) (ht : (pc : Int) + off = (tgt pc off : Int)) (hdg : decode M.2.1 pc = .ok (.if_icmp .eq off, 3)) (g1 : x = y → GX l D bs sa sc p e R s m args below meth cc Q M hh ad0 n0 s0 (tgt pc off) ls r h) (g2 : ¬ x = y → GX l D bs sa sc p e R s m args below meth cc Q M hh ad0 n0 s0 (pc + 3) ls r h) : GX l D bs sa sc p e R s m args below meth cc Q M hh ad0 n0 s0 pc ls (.inl y :: .inl x :: r) h :=
  fun H locs cells slots ad ca lsA hC => lv_icmp_eq hF.2.1 hF.2.2.1 hdg ht (fun q => g1 q _ _ _ _ _ _ _ (hC.st (ok_tail (ok_tail hC.2.2.2.1)))) (fun q => g2 q _ _ _ _ _ _ _ (hC.st (ok_tail (ok_tail hC.2.2.2.1))))
theorem g_icmp_ne {x y : Int32} {off : Int} (hF : FR D bs sa sc p R s m meth cc M d c i n0 s0 o) (ht : (pc : Int) + off = (tgt pc off : Int)) (hdg : decode M.2.1 pc = .ok (.if_icmp .ne off, 3)) (g1 : ¬ x = y → GX l D bs sa sc p e R s m args below meth cc Q M hh ad0 n0 s0 (tgt pc off) ls r h) (g2 : x = y → GX l D bs sa sc p e R s m args below meth cc Q M hh ad0 n0 s0 (pc + 3) ls r h) : GX l D bs sa sc p e R s m args below meth cc Q M hh ad0 n0 s0 pc ls (.inl y :: .inl x :: r) h :=
  fun H locs cells slots ad ca lsA hC => lv_icmp_ne hF.2.1 hF.2.2.1 hdg ht (fun q => g1 q _ _ _ _ _ _ _ (hC.st (ok_tail (ok_tail hC.2.2.2.1)))) (fun q => g2 q _ _ _ _ _ _ _ (hC.st (ok_tail (ok_tail hC.2.2.2.1))))
theorem g_icmp_lt {x y : Int32} {off : Int} (hF : FR D bs sa sc p R s m meth cc M d c i n0 s0 o) (ht : (pc : Int) + off = (tgt pc off : Int)) (hdg : decode M.2.1 pc = .ok (.if_icmp .lt off, 3)) (g1 : x < y → GX l D bs sa sc p e R s m args below meth cc Q M hh ad0 n0 s0 (tgt pc off) ls r h) (g2 : ¬ x < y → GX l D bs sa sc p e R s m args below meth cc Q M hh ad0 n0 s0 (pc + 3) ls r h) : GX l D bs sa sc p e R s m args below meth cc Q M hh ad0 n0 s0 pc ls (.inl y :: .inl x :: r) h :=
  fun H locs cells slots ad ca lsA hC => lv_icmp_lt hF.2.1 hF.2.2.1 hdg ht (fun q => g1 q _ _ _ _ _ _ _ (hC.st (ok_tail (ok_tail hC.2.2.2.1)))) (fun q => g2 q _ _ _ _ _ _ _ (hC.st (ok_tail (ok_tail hC.2.2.2.1))))
theorem g_icmp_ge {x y : Int32} {off : Int} (hF : FR D bs sa sc p R s m meth cc M d c i n0 s0 o) (ht : (pc : Int) + off = (tgt pc off : Int)) (hdg : decode M.2.1 pc = .ok (.if_icmp .ge off, 3)) (g1 : ¬ x < y → GX l D bs sa sc p e R s m args below meth cc Q M hh ad0 n0 s0 (tgt pc off) ls r h) (g2 : x < y → GX l D bs sa sc p e R s m args below meth cc Q M hh ad0 n0 s0 (pc + 3) ls r h) : GX l D bs sa sc p e R s m args below meth cc Q M hh ad0 n0 s0 pc ls (.inl y :: .inl x :: r) h :=
  fun H locs cells slots ad ca lsA hC => lv_icmp_ge hF.2.1 hF.2.2.1 hdg ht (fun q => g1 (Int32.not_lt.mpr q) _ _ _ _ _ _ _ (hC.st (ok_tail (ok_tail hC.2.2.2.1)))) (fun q => g2 (Int32.not_le.mp q) _ _ _ _ _ _ _ (hC.st (ok_tail (ok_tail hC.2.2.2.1))))
theorem g_icmp_gt {x y : Int32} {off : Int} (hF : FR D bs sa sc p R s m meth cc M d c i n0 s0 o) (ht : (pc : Int) + off = (tgt pc off : Int)) (hdg : decode M.2.1 pc = .ok (.if_icmp .gt off, 3)) (g1 : y < x → GX l D bs sa sc p e R s m args below meth cc Q M hh ad0 n0 s0 (tgt pc off) ls r h) (g2 : ¬ y < x → GX l D bs sa sc p e R s m args below meth cc Q M hh ad0 n0 s0 (pc + 3) ls r h) : GX l D bs sa sc p e R s m args below meth cc Q M hh ad0 n0 s0 pc ls (.inl y :: .inl x :: r) h :=
  fun H locs cells slots ad ca lsA hC => lv_icmp_gt hF.2.1 hF.2.2.1 hdg ht (fun q => g1 q _ _ _ _ _ _ _ (hC.st (ok_tail (ok_tail hC.2.2.2.1)))) (fun q => g2 q _ _ _ _ _ _ _ (hC.st (ok_tail (ok_tail hC.2.2.2.1))))
theorem g_icmp_le {x y : Int32} {off : Int} (hF : FR D bs sa sc p R s m meth cc M d c i n0 s0 o) (ht : (pc : Int) + off = (tgt pc off : Int)) (hdg : decode M.2.1 pc = .ok (.if_icmp .le off, 3)) (g1 : ¬ y < x → GX l D bs sa sc p e R s m args below meth cc Q M hh ad0 n0 s0 (tgt pc off) ls r h) (g2 : y < x → GX l D bs sa sc p e R s m args below meth cc Q M hh ad0 n0 s0 (pc + 3) ls r h) : GX l D bs sa sc p e R s m args below meth cc Q M hh ad0 n0 s0 pc ls (.inl y :: .inl x :: r) h :=
  fun H locs cells slots ad ca lsA hC => lv_icmp_le hF.2.1 hF.2.2.1 hdg ht (fun q => g1 (Int32.not_lt.mpr q) _ _ _ _ _ _ _ (hC.st (ok_tail (ok_tail hC.2.2.2.1)))) (fun q => g2 (Int32.not_le.mp q) _ _ _ _ _ _ _ (hC.st (ok_tail (ok_tail hC.2.2.2.1))))
theorem g_ifnull1 {a : Nat × Nat} {off : Int} (hF : FR D bs sa sc p R s m meth cc M d c i n0 s0 o) (hdg : decode M.2.1 pc = .ok (.ifnull off, 3)) (g : GX l D bs sa sc p e R s m args below meth cc Q M hh ad0 n0 s0 (pc + 3) ls r h) : GX l D bs sa sc p e R s m args below meth cc Q M hh ad0 n0 s0 pc ls (.inr (.inr (some a)) :: r) h :=
  fun H locs cells slots ad ca lsA hC => lv_ifnull hF.2.1 hF.2.2.1 hdg (g _ _ _ _ _ _ _ (hC.st (ok_tail hC.2.2.2.1)))
theorem g_ifnull0 {off : Int} (hF : FR D bs sa sc p R s m meth cc M d c i n0 s0 o) (ht : (pc : Int) + off = (tgt pc off : Int)) (hdg : decode M.2.1 pc = .ok (.ifnull off, 3)) (g : GX l D bs sa sc p e R s m args below meth cc Q M hh ad0 n0 s0 (tgt pc off) ls r h) : GX l D bs sa sc p e R s m args below meth cc Q M hh ad0 n0 s0 pc ls (.inr (.inr none) :: r) h :=
  fun H locs cells slots ad ca lsA hC => lv_ifnullN hF.2.1 hF.2.2.1 hdg ht (g _ _ _ _ _ _ _ (hC.st (ok_tail hC.2.2.2.1)))
theorem g_tsOut {dflt lo hi : Int} {offs : Array Int} {n : Nat} {x : Int32} (hF : FR D bs sa sc p R s m meth cc M d c i n0 s0 o) (hx : x.toInt < lo ∨ hi < x.toInt) (ht : (pc : Int) + dflt = (tgt pc dflt : Int)) (hdg : decode M.2.1 pc = .ok (.tableswitch dflt lo hi offs, n)) (g : GX l D bs sa sc p e R s m args below meth cc Q M hh ad0 n0 s0 (tgt pc dflt) ls r h) : GX l D bs sa sc p e R s m args below meth cc Q M hh ad0 n0 s0 pc ls (.inl x :: r) h :=
  fun H locs cells slots ad ca lsA hC => lv_tableOut hF.2.1 hF.2.2.1 hdg hx ht (g _ _ _ _ _ _ _ (hC.st (ok_tail hC.2.2.2.1)))
theorem g_tsIn {dflt lo hi off : Int} {offs : Array Int} {n : Nat} {x : Int32} (hF : FR D bs sa sc p R s m meth cc M d c i n0 s0 o) (h1 : ¬ x.toInt < lo) (h2 : ¬ hi < x.toInt) (ho : offs[(x.toInt - lo).toNat]? = some off) (ht : (pc : Int) + off = (tgt pc off : Int)) (hdg : decode M.2.1 pc = .ok (.tableswitch dflt lo hi offs, n)) (g : GX l D bs sa sc p e R s m args below meth cc Q M hh ad0 n0 s0 (tgt pc off) ls r h) : GX l D bs sa sc p e R s m args below meth cc Q M hh ad0 n0 s0 pc ls (.inl x :: r) h :=
  fun H locs cells slots ad ca lsA hC => lv_tableIn hF.2.1 hF.2.2.1 hdg h1 h2 ho ht (g _ _ _ _ _ _ _ (hC.st (ok_tail hC.2.2.2.1)))
end SND
