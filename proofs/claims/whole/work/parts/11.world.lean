def lin (a : Nat × Nat) : Nat := match a.1 with
  | 0 => a.2
  | g + 1 => 71 + 9 * g + a.2
def unl (i : Nat) : Nat × Nat := if i < 71 then (0, i) else ((i - 71) / 9 + 1, (i - 71) % 9)
def okA (a : Nat × Nat) : Prop := match a.1 with
  | 0 => a.2 < 71
  | _ + 1 => a.2 < 9
theorem unl_lin : ∀ {a : Nat × Nat}, okA a → unl (lin a) = a
  | (0, j), h => by
    have h1 : j < 71 := h
    show unl j = (0, j)
    rw [unl, if_pos h1]
  | (g + 1, j), h => by
    have h1 : j < 9 := h
    show unl (71 + 9 * g + j) = (g + 1, j)
    rw [unl, if_neg (by omega)]
    have e1 : (71 + 9 * g + j - 71) / 9 = g := by omega
    have e2 : (71 + 9 * g + j - 71) % 9 = j := by omega
    rw [e1, e2]
theorem okA_unl (i : Nat) : okA (unl i) := by
  rw [unl]
  split
  · assumption
  · exact Nat.mod_lt _ (by omega)
theorem lin_unl (i : Nat) : lin (unl i) = i := by
  rw [unl]
  split
  · rfl
  · show 71 + 9 * ((i - 71) / 9) + (i - 71) % 9 = i
    omega
theorem lin_inj {a b : Nat × Nat} (ha : okA a) (hb : okA b) (h : lin a = lin b) : a = b := by
  rw [← unl_lin ha, h, unl_lin hb]
theorem nxt_ok : ∀ {a : Nat × Nat}, okA a → okA (nxt a) ∧ lin (nxt a) = lin a + 1
  | (0, j), h => by
    have h1 : j < 71 := h
    by_cases e : j = 70
    · subst e
      exact ⟨show 0 < 9 by omega, rfl⟩
    · have hb : Nat.beq j 70 = false := by
        cases hq : Nat.beq j 70 with
        | true => exact absurd (Nat.eq_of_beq_eq_true hq) e
        | false => rfl
      have : nxt (0, j) = (0, j + 1) := by
        show (bif Nat.beq j 70 then (1, 0) else (0, j + 1)) = _
        rw [hb]; rfl
      rw [this]
      exact ⟨show j + 1 < 71 by omega, rfl⟩
  | (g + 1, j), h => by
    have h1 : j < 9 := h
    by_cases e : j = 8
    · subst e
      refine ⟨show 0 < 9 by omega, ?_⟩
      show 71 + 9 * (g + 1) + 0 = 71 + 9 * g + 8 + 1
      omega
    · have hb : Nat.beq j 8 = false := by
        cases hq : Nat.beq j 8 with
        | true => exact absurd (Nat.eq_of_beq_eq_true hq) e
        | false => rfl
      have : nxt (g + 1, j) = (g + 1, j + 1) := by
        show (bif Nat.beq j 8 then (g + 2, 0) else (g + 1, j + 1)) = _
        rw [hb]; rfl
      rw [this]
      refine ⟨show j + 1 < 9 by omega, ?_⟩
      show 71 + 9 * g + (j + 1) = 71 + 9 * g + j + 1
      omega
def slw (q : Nat × Nat) : Nat := match q.1 with
  | 0 => nF q.2
  | _ => q.2
/-- the slots of the first n cells -/
def SL : Nat → Nat
  | 0 => 0
  | n + 1 => SL n + slw (shp (unl n).1 (unl n).2)
theorem SL_mono {a b : Nat} (h : a ≤ b) : SL a ≤ SL b := by
  induction h with
  | refl => exact Nat.le_refl _
  | step _ ih => exact Nat.le_trans ih (Nat.le_add_right _ _)
def aD (h : AH) (a : Nat × Nat) : Prop := okA a ∧ lin a < lin (alo h)
def isS (a : Nat × Nat) : Prop := a.1 = 0 ∧ 1000 ≤ a.2 ∧ a.2 < 1004
def okv (h : AH) : AV → Prop
  | .inr (.inr (some a)) => aD h a ∨ isS a
  | _ => True
def cv (ad : Nat × Nat → Nat) : AV → Value
  | .inl x => .int x
  | .inr (.inl y) => .long y
  | .inr (.inr none) => .null
  | .inr (.inr (some a)) => .ref (ad a)
theorem cv_ref (ad : Nat × Nat → Nat) (r : Option (Nat × Nat)) : cv ad (.inr (.inr r)) = va_rf (r.map ad) := by cases r <;> rfl
theorem cv_cat (ad : Nat × Nat → Nat) (v : AV) : (cv ad v).category = avC v := by
  rcases v with x | y | r
  · rfl
  · rfl
  · cases r <;> rfl
theorem cv_catS (ad : Nat × Nat → Nat) (st : List AV) : ((st.map (cv ad)).map (fun v => v.category)).sum = catS st := by
  induction st with
  | nil => rfl
  | cons v l ih =>
    rw [List.map_cons, List.map_cons, List.sum_cons, ih, cv_cat]
    rfl
def ceF (ad : Nat × Nat → Nat) (h : AH) (a : Nat × Nat) (ci : Nat) : List Value := (List.range (nF ci)).map (fun k => bif Nat.beq (fkd ci k) 2 then va_rf ((h.2.1 a.1 a.2 k).map ad) else .int (h.1 a.1 a.2 k))
def ce (ad : Nat × Nat → Nat) (ca : Nat × Nat → ClassId) (h : AH) (a : Nat × Nat) : va_E := match (shp a.1 a.2).1 with
  | 0 => .inr ((shp a.1 a.2).2, ceF ad h a (shp a.1 a.2).2)
  | 1 => .inl (ca a, (shp a.1 a.2).2, .inl (h.1 a.1 a.2))
  | _ => .inl (ca a, (shp a.1 a.2).2, .inr (.inr (.inr (.inr (fun i => (h.2.1 a.1 a.2 i).map ad)))))
def wsO (ad : Nat × Nat → Nat) (ca : Nat × Nat → ClassId) (h : AH) : va_W := (List.range (lin (alo h))).map (fun i => (ad (unl i), ce ad ca h (unl i)))
theorem wsO_at {ad : Nat × Nat → Nat} {ca : Nat × Nat → ClassId} {h : AH} {a : Nat × Nat} (ha : aD h a) : (wsO ad ca h)[lin a]? = some (ad a, ce ad ca h a) := by
  rw [wsO, List.getElem?_map, List.getElem?_range ha.2]
  show some (ad (unl (lin a)), ce ad ca h (unl (lin a))) = _
  rw [unl_lin ha.1]
theorem wsO_set {ad : Nat × Nat → Nat} {ca : Nat × Nat → ClassId} {h h' : AH} {a : Nat × Nat} (ha : aD h a) (hal : alo h' = alo h) (hs : ∀ b, b ≠ a → ce ad ca h' b = ce ad ca h b) : (wsO ad ca h).set (lin a) (ad a, ce ad ca h' a) = wsO ad ca h' := by
  apply List.ext_getElem?
  intro k
  by_cases hk : k = lin a
  · subst hk
    have hl : lin a < (wsO ad ca h).length := by rw [wsO, List.length_map, List.length_range]; exact ha.2
    rw [List.getElem?_set_self hl, wsO_at (h := h') (a := a) ⟨ha.1, by rw [hal]; exact ha.2⟩]
  · rw [List.getElem?_set_ne (Ne.symm hk), wsO, wsO, List.getElem?_map, List.getElem?_map, hal]
    cases hr : (List.range (lin (alo h)))[k]? with
    | none => rfl
    | some j =>
      have hj : j = k := by
        obtain ⟨h1, h2⟩ := List.getElem?_eq_some_iff.mp hr
        rw [← h2, List.getElem_range]
      subst hj
      show some (ad (unl j), ce ad ca h (unl j)) = some (ad (unl j), ce ad ca h' (unl j))
      rw [hs (unl j) (fun q => hk (by rw [← q, lin_unl]))]
theorem wsO_push {ad ad' : Nat × Nat → Nat} {ca ca' : Nat × Nat → ClassId} {h h' : AH} (ho : okA (alo h)) (hal : alo h' = nxt (alo h)) (h1 : ∀ b, aD h b → ad' b = ad b ∧ ce ad' ca' h' b = ce ad ca h b) : wsO ad' ca' h' = wsO ad ca h ++ [(ad' (alo h), ce ad' ca' h' (alo h))] := by
  rw [wsO, hal, (nxt_ok ho).2, List.range_succ, List.map_append, List.map_cons, List.map_nil, unl_lin ho, wsO]
  congr 1
  apply List.map_congr_left
  intro i hi
  have hi' := List.mem_range.mp hi
  obtain ⟨e1, e2⟩ := h1 (unl i) ⟨okA_unl i, by rw [lin_unl]; exact hi'⟩
  rw [e1, e2]
def aty (k : Nat) : Option FieldType := match k with
  | 1 => some .int
  | 2 => some (.object "SumDoor$Text")
  | 3 => some (.object "SumDoor$Sheet")
  | _ => none
def WD (D : va_G) (bs : Nat) (sc : Nat × (Nat → Int32)) (ad : Nat × Nat → Nat) (ca : Nat × Nat → ClassId) (h : AH) (H : Heap) (s : State) : Prop :=
  va_P D sd_cl (wsO ad ca h) H ∧ va_D (fun q => bs ≤ q) (wsO ad ca h) ∧ okA (alo h) ∧ (∀ a, aD h a → ∀ ty, aty (shp a.1 a.2).1 = some ty → ArrOfT s (ca a) ty ∧ va_RA s (ca a) ty) ∧ (∀ a, aD h a → ∀ k b, h.2.1 a.1 a.2 k = some b → aD h b) ∧ h.2.2.2 = sc
theorem WD.moved {D : va_G} {bs : Nat} {sc : Nat × (Nat → Int32)} {ad : Nat × Nat → Nat} {ca : Nat × Nat → ClassId} {h : AH} {H : Heap} {s U : State} (hvm : s.vm.Alike U.vm) (w : WD D bs sc ad ca h H s) : WD D bs sc ad ca h H U := by
  obtain ⟨a, b, c, d, e, f⟩ := w
  exact ⟨a, b, c, fun q hq ty ht => ⟨arrOfT_moved hvm (d q hq ty ht).1, (d q hq ty ht).2.moved hvm⟩, e, f⟩
/-- the static rows: by their numbers, length and ints -/
def stA (sc : Nat × (Nat → Int32)) (k : Nat) : Option (Nat × (Nat → Int32)) := match k with
  | 0 => some (7, fun i => lkp 0 [-1, 0, 0, 2, 0, 1, 0] i)
  | 1 => some (5, fun i => lkp 0 [1, 0, 0, 0, 0] i)
  | 2 => some (5, fun i => lkp 0 [9, 999, 99, 19, 1] i)
  | 3 => some sc
  | _ => none
theorem stR_A {h : AH} {sc : Nat × (Nat → Int32)} (hs : h.2.2.2 = sc) (k : Nat) : stR h k = stA sc k := by
  match k with
  | 0 => rfl
  | 1 => rfl
  | 2 => rfl
  | 3 => show some (h.2.2.2.1, h.2.2.2.2) = some sc; rw [← hs]
  | n + 4 => rfl
/-- what holds of the machine's tables and of what is old in the heap, at each method's start -/
def EV (D : va_G) (bs : Nat) (sa : Nat → Nat) (sc : Nat × (Nat → Int32)) (U : State) : Prop :=
  (∀ w, inT w → w.before #[] U = true) ∧ (∀ (k : Nat) (q : vw_C), sd_cl[k]? = some q → u_Kn U q.1 q.2.1 q.2.2 (D.1 k) (D.2 k)) ∧ va_AO "SumDoor$Text" U ∧ va_AO "SumDoor$Sheet" U ∧ bs ≤ U.heap.size ∧
  (∀ k r, stA sc k = some r → va_T .int (sa k) r.1 (fun j => .int (r.2 j)) (fun q => bs ≤ q) U U.heap) ∧ ∀ k, k < 3 → va_Z "SumDoor" (stN k) "[I" (.ref (sa k)) (fun q => bs ≤ q) U U.heap
theorem inT_warm {s U : State} (hW : s.WarmedH U.vm) {w : Cond} (hw : inT w) {A B : Array Value} (h : w.before A s = true) : w.before B U = true := by
  have h2 : okw w = true := hw.2
  cases hg : goodWord w with
  | true => exact word_at hW (good_of_word hg) h
  | false =>
    rw [okw, hg, Bool.false_or] at h2
    cases w <;> first | (cases h2; done) | skip
    · exact va_Nw.use rfl (va_Nw.warmM hW (va_Nw.of rfl h))
    · exact va_Nw.use rfl (va_Nw.warmF hW (va_Nw.of rfl h))
theorem EV.w {D : va_G} {bs : Nat} {sa : Nat → Nat} {sc : Nat × (Nat → Int32)} {U : State} (E : EV D bs sa sc U) {w : Cond} (hw : inT w) {A : Array Value} : w.before A U = true := inT_warm (State.WarmedH.refl U) hw (E.1 w hw)
theorem EV.to {D : va_G} {bs : Nat} {sa : Nat → Nat} {sc : Nat × (Nat → Int32)} {s U : State} (E : EV D bs sa sc s) (hW : s.WarmedH U.vm) (hz : s.heap.size ≤ U.heap.size) (hk : ∀ q : Nat, q < s.heap.size → ¬ bs ≤ q → U.heap[q]? = s.heap[q]?) : EV D bs sa sc U := by
  obtain ⟨e1, e2, e3, e4, e5, e6, e7⟩ := E
  refine ⟨fun w hw => inT_warm hW hw (e1 w hw), fun k q hq => u_Kn_moved hW.alike (e2 k q hq), e3.moved hW.alike, e4.moved hW.alike, Nat.le_trans e5 hz, fun k r hr => ?_, fun k hk3 => ?_⟩
  · exact ((e6 k r hr).moved hW.alike).kept (fun a h1 h2 => hk a h1 h2)
  · exact (va_Z.moved hW.alike (e7 k hk3)).kept (fun a h1 h2 => hk a h1 h2)
