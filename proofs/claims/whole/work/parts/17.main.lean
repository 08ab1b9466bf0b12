theorem cnd_ite {α : Type} (c : Bool) (a b : α) : (bif c then a else b) = if c = true then a else b := by cases c <;> rfl
def SDm (h : AH) (A : AA) : Prop := match A with
  | .inl none => True
  | .inl (some o') => o'.2 = h
  | .inr (.inl x) => lin (alo h) ≤ lin (alo x.2.2.2.2.2.2)
  | .inr (.inr (.inl (_, y, z))) => (match y with
    | .inl x => alo x.2.2.2.2.2.2 = alo h
    | .inr o' => o'.2 = h) ∧ (match z with
    | some z => alo z.2.2.2.2.2.2 = alo h
    | none => True)
  | .inr (.inr (.inr (y, k))) => y.2.2.2.2.2.2 = h ∧ ∀ o1 : AO, (k o1).2.2.2.2.2.2 = o1.2
set_option maxHeartbeats 4000000 in
theorem sm_all {M : MD} {d c i pc n : Nat} {ls : List (Option AV)} {st : List AV} {h : AH} {ins : Instr} : SDm h (act1 M d c i pc n ls st h ins) := by
  cases ins
  case new k =>
    show SDm h (match alk (lkp [] sd_nt c) k with | some ci => _ | none => _)
    cases hk : alk (lkp [] sd_nt c) k with
    | none => exact trivial
    | some ci =>
      show SDm h (bif Nat.beq (shp (alo h).1 (alo h).2).1 0 && Nat.beq (shp (alo h).1 (alo h).2).2 ci then _ else _)
      cases hb : Nat.beq (shp (alo h).1 (alo h).2).1 0 && Nat.beq (shp (alo h).1 (alo h).2).2 ci with
      | false => exact trivial
      | true =>
        have h2 := Bool.and_eq_true _ _ ▸ hb
        have h1 := Nat.eq_of_beq_eq_true h2.1
        exact newc_le (by rw [h1]; decide)
  case newarray t =>
    by_cases hs : t = .int ∧ ∃ x r, st = .inl x :: r
    · obtain ⟨rfl, x, r, rfl⟩ := hs
      show SDm h (bif Nat.beq (shp (alo h).1 (alo h).2).1 1 && decide (x = Int32.ofNat (shp (alo h).1 (alo h).2).2) then _ else _)
      cases hk : Nat.beq (shp (alo h).1 (alo h).2).1 1 && decide (x = Int32.ofNat (shp (alo h).1 (alo h).2).2) with
      | false => exact trivial
      | true =>
        simp only [Bool.and_eq_true, decide_eq_true_eq] at hk
        have h1 := Nat.eq_of_beq_eq_true hk.1
        exact newc_le (by rw [h1]; decide)
    · cases t <;> rcases st with _ | ⟨x | x | x, r⟩ <;> first | exact trivial | exact absurd ⟨rfl, _, _, rfl⟩ hs
  case anewarray k =>
    rcases st with _ | ⟨x | x | x, r⟩
    · exact trivial
    · show SDm h (match alk (lkp [] sd_nt c) k with | some ci => _ | none => _)
      cases hk : alk (lkp [] sd_nt c) k with
      | none => exact trivial
      | some ci =>
        show SDm h (bif ((Nat.beq (shp (alo h).1 (alo h).2).1 2 && Nat.beq ci 5) || (Nat.beq (shp (alo h).1 (alo h).2).1 3 && Nat.beq ci 1)) && decide (x = Int32.ofNat (shp (alo h).1 (alo h).2).2) then _ else _)
        cases hb : ((Nat.beq (shp (alo h).1 (alo h).2).1 2 && Nat.beq ci 5) || (Nat.beq (shp (alo h).1 (alo h).2).1 3 && Nat.beq ci 1)) && decide (x = Int32.ofNat (shp (alo h).1 (alo h).2).2) with
        | false => exact trivial
        | true =>
          simp only [Bool.and_eq_true, Bool.or_eq_true, decide_eq_true_eq] at hb
          exact newc_le (by rcases hb.1 with q | q <;> rw [Nat.eq_of_beq_eq_true q.1] <;> decide)
    · exact trivial
    · exact trivial
  all_goals first | exact trivial | exact Nat.le_refl _ | (simp only [act1, sto, bi2, un1, cnd_ite] <;> (repeat' split) <;> first | exact trivial | exact Nat.le_refl _ | exact ⟨rfl, trivial⟩ | exact ⟨rfl, rfl⟩ | exact rfl | exact ⟨rfl, fun _ => rfl⟩)
theorem ev_lin : ∀ (F : Nat) (x : AX) (o : AO), ev F x = some o → lin (alo x.2.2.2.2.2.2) ≤ lin (alo o.2)
  | 0, x, o, h => by simp [ev] at h
  | F + 1, x, o, h => by
    obtain ⟨d, c, i, pc, ls, st, hp⟩ := x
    show lin (alo hp) ≤ lin (alo o.2)
    rw [ev] at h
    have key : SDm hp (act (d, c, i, pc, ls, st, hp)) := by
      unfold act
      cases hM : md c i with
      | none => exact trivial
      | some M =>
        cases hq : alk M.2.2.2.2 pc with
        | none => simp only [hq]; exact trivial
        | some q => simp only [hq]; exact sm_all
    generalize act (d, c, i, pc, ls, st, hp) = A at h key
    rcases A with (_ | o') | y | ⟨b, y, z⟩ | ⟨y, k⟩
    · cases h
    · cases h
      have : o.2 = hp := key
      rw [this]
      exact Nat.le_refl _
    · exact Nat.le_trans key (ev_lin F y o h)
    · cases b with
      | true =>
        cases y with
        | inl y => exact Nat.le_trans (Nat.le_of_eq (by rw [key.1])) (ev_lin F y o h)
        | inr o' =>
          have h : some o' = some o := h
          cases h
          have : o.2 = hp := key.1
          rw [this]
          exact Nat.le_refl _
      | false =>
        cases z with
        | none => cases h
        | some z => exact Nat.le_trans (Nat.le_of_eq (by rw [key.2])) (ev_lin F z o h)
    · have h : (ev F y).bind (fun o => ev F (k o)) = some o := h
      cases hy : ev F y with
      | none => rw [hy] at h; cases h
      | some o1 =>
        rw [hy] at h
        have h1 := ev_lin F y o1 hy
        have h2 := ev_lin F (k o1) o h
        rw [key.1] at h1
        rw [key.2 o1] at h2
        exact Nat.le_trans h1 h2
def P1 (l : Launch) (D : va_G) (bs : Nat) (sa : Nat → Nat) (sc : Nat × (Nat → Int32)) (F : Nat) : Prop := ∀ (d c i : Nat) (M : MD) (vs : List AV) (h : AH) (o : AO), md c i = some M → (eSl vs).length ≤ M.2.2.1 → ev F (d, c, i, 0, eL M.2.2.1 vs, [], h) = some o → CM l D bs sa sc d M vs h o
section SND6
variable {l : Launch} {D : va_G} {bs : Nat} {sa : Nat → Nat} {sc : Nat × (Nat → Int32)}
variable {p : Program} {e : Env} {R : Room} {s : State} {m : MethodId} {args : Array Value} {below : List Frame} {meth : Method} {cc : Code} {Q : State → Prop} {M : MD} {d c i : Nat} {hh : AH} {ad0 : Nat × Nat → Nat} {n0 s0 : Nat} {o : AO}
theorem inner (hF : FR D bs sa sc p R s m meth cc M d c i n0 s0 o) (hK : KE l D bs sa sc p e R s m args below meth cc Q M hh ad0 n0 s0 o) : ∀ (F : Nat), (∀ G, G < F → P1 l D bs sa sc G) → ∀ x : AX, same d c i x → ev F x = some o → GXx l D bs sa sc p e R s m args below meth cc Q M hh ad0 n0 s0 x := by
  intro F
  induction F with
  | zero => intro _ x _ h; simp [ev] at h
  | succ F IH =>
    intro P x hs h
    obtain ⟨d1, c1, i1, pc, ls, st, hp⟩ := x
    obtain ⟨e1, e2, e3⟩ := hs
    have e1 : d1 = d := e1
    have e2 : c1 = c := e2
    have e3 : i1 = i := e3
    subst e1; subst e2; subst e3
    rw [ev] at h
    have hact : act (d1, c1, i1, pc, ls, st, hp) = (match alk M.2.2.2.2 pc with
      | none => a_fail
      | some q => act1 M d1 c1 i1 pc q.2 ls st hp q.1) := by
      unfold act
      simp only [hF.1]
      rfl
    cases hq : alk M.2.2.2.2 pc with
    | none =>
      rw [hact, hq] at h
      cases h
    | some q =>
      obtain ⟨ins, n⟩ := q
      rw [hact, hq] at h
      have hsd := sd_all (l := l) (e := e) (args := args) (below := below) (Q := Q) (hh := hh) (ad0 := ad0) (ls := ls) (st := st) (h := hp) hF hq
      have ih := IH (fun G hG => P G (Nat.lt_succ_of_lt hG))
      show GX l D bs sa sc p e R s m args below meth cc Q M hh ad0 n0 s0 pc ls st hp
      simp only at h
      generalize act1 M d1 c1 i1 pc n ls st hp ins = A at h hsd
      rcases A with (_ | o') | y | ⟨b, (y | o'), z⟩ | ⟨y, k⟩
      · cases h
      · cases h
        exact hsd.2 rfl hK
      · exact hsd.2.2 (ev_lin F y o h) (ih y hsd.1 h)
      · cases b with
        | true => exact hsd.2.2.1 rfl (ih y hsd.1.1 h)
        | false =>
          cases z with
          | none => cases h
          | some z => exact hsd.2.2.2 rfl z rfl (ih z (hsd.2.1 z rfl).1 h)
      · cases b with
        | true =>
          have h : some o' = some o := h
          cases h
          exact hsd.2.2 rfl rfl hK
        | false =>
          rw [hsd.2.1] at h
          cases h
      · obtain ⟨d', c', i', M', vs, hd, hM', hlen, hy, hk1, hk2⟩ := hsd
        have h : (ev F y).bind (fun o => ev F (k o)) = some o := h
        cases hyy : ev F y with
        | none => rw [hyy] at h; cases h
        | some o1 =>
          rw [hyy] at h
          have h : ev F (k o1) = some o := h
          rw [hy] at hyy
          have hl := ev_lin F (k o1) o h
          rw [(hk1 o1).2] at hl
          exact hk2 o1 (P F (Nat.lt_succ_self F) d' c' i' M' vs hp o1 hM' hlen hyy) hl (ih (k o1) (hk1 o1).1 h)
end SND6
theorem lg_len (ad : Nat × Nat → Nat) : ∀ vs : List AV, (lg_sl (vs.map (cv ad))).length = (eSl vs).length
  | [] => rfl
  | .inl x :: vs => by
    show (lg_sl (.int x :: vs.map (cv ad))).length = (eSl vs).length + 1
    rw [← lg_len ad vs]
    simp [lg_sl, Value.category, Nat.add_comm]
  | .inr (.inl x) :: vs => by
    show (lg_sl (.long x :: vs.map (cv ad))).length = (eSl vs).length + 1 + 1
    rw [← lg_len ad vs]
    simp [lg_sl, Value.category, Nat.add_comm]
  | .inr (.inr none) :: vs => by
    show (lg_sl (.null :: vs.map (cv ad))).length = (eSl vs).length + 1
    rw [← lg_len ad vs]
    simp [lg_sl, Value.category, Nat.add_comm]
  | .inr (.inr (some a)) :: vs => by
    show (lg_sl (.ref (ad a) :: vs.map (cv ad))).length = (eSl vs).length + 1
    rw [← lg_len ad vs]
    simp [lg_sl, Value.category, Nat.add_comm]
theorem lkp_rep {α : Type} (n : Nat) : ∀ k, lkp (none : Option α) (List.replicate n none) k = none := by
  induction n with
  | zero => intro k; rfl
  | succ n ih =>
    intro k
    cases k with
    | zero => rfl
    | succ k => exact ih k
theorem eL_arg (ad : Nat × Nat → Nat) (n : Nat) : ∀ (vs : List AV) (j k : Nat) (v : AV), lkp none (eSl vs ++ List.replicate n none) k = some v → (j + k, cv ad v) ∈ lv_args j (vs.map (cv ad)) ∧ v ∈ vs
  | [], j, k, v, h => by
    have h : lkp none (List.replicate n none) k = some v := h
    rw [lkp_rep] at h
    cases h
  | .inl x :: vs, j, 0, v, h => by cases h; exact ⟨List.mem_cons_self, List.mem_cons_self⟩
  | .inl x :: vs, j, k + 1, v, h => by
    have := eL_arg ad n vs (j + 1) k v h
    refine ⟨List.mem_cons_of_mem _ ?_, List.mem_cons_of_mem _ this.2⟩
    show (j + (k + 1), cv ad v) ∈ lv_args (j + 1) (vs.map (cv ad))
    rw [show j + (k + 1) = j + 1 + k by omega]
    exact this.1
  | .inr (.inl x) :: vs, j, 0, v, h => by cases h; exact ⟨List.mem_cons_self, List.mem_cons_self⟩
  | .inr (.inl x) :: vs, j, 1, v, h => by cases h
  | .inr (.inl x) :: vs, j, k + 2, v, h => by
    have := eL_arg ad n vs (j + 2) k v h
    refine ⟨List.mem_cons_of_mem _ ?_, List.mem_cons_of_mem _ this.2⟩
    show (j + (k + 2), cv ad v) ∈ lv_args (j + 2) (vs.map (cv ad))
    rw [show j + (k + 2) = j + 2 + k by omega]
    exact this.1
  | .inr (.inr none) :: vs, j, 0, v, h => by cases h; exact ⟨List.mem_cons_self, List.mem_cons_self⟩
  | .inr (.inr none) :: vs, j, k + 1, v, h => by
    have := eL_arg ad n vs (j + 1) k v h
    refine ⟨List.mem_cons_of_mem _ ?_, List.mem_cons_of_mem _ this.2⟩
    show (j + (k + 1), cv ad v) ∈ lv_args (j + 1) (vs.map (cv ad))
    rw [show j + (k + 1) = j + 1 + k by omega]
    exact this.1
  | .inr (.inr (some a)) :: vs, j, 0, v, h => by cases h; exact ⟨List.mem_cons_self, List.mem_cons_self⟩
  | .inr (.inr (some a)) :: vs, j, k + 1, v, h => by
    have := eL_arg ad n vs (j + 1) k v h
    refine ⟨List.mem_cons_of_mem _ ?_, List.mem_cons_of_mem _ this.2⟩
    show (j + (k + 1), cv ad v) ∈ lv_args (j + 1) (vs.map (cv ad))
    rw [show j + (k + 1) = j + 1 + k by omega]
    exact this.1
theorem lsR_entry (ad : Nat × Nat → Nat) (vs : List AV) {n : Nat} (hn : (eSl vs).length ≤ n) : lsR ad n (eL n vs) ((lg_sl (vs.map (cv ad)) ++ List.replicate (n - (lg_sl (vs.map (cv ad))).length) Slot.unset).toArray) := by
  have h1 := lv_entry (vs.map (cv ad)) (n := n) (by rw [lg_len]; exact hn)
  refine ⟨h1.1, h1.2.1, ?_, fun k v hk => ?_⟩
  · rw [eL, List.length_append, List.length_replicate]
    omega
  · have := (eL_arg ad _ vs 0 k v hk).1
    rw [Nat.zero_add] at this
    exact h1.2.2 _ this
theorem P1_all (l : Launch) (D : va_G) (bs : Nat) (sa : Nat → Nat) (sc : Nat × (Nat → Int32)) : ∀ F, P1 l D bs sa sc F := by
  intro F
  induction F using Nat.strongRecOn with
  | ind F IH =>
    intro d c i M vs h o hM hlen hev
    have hlin : lin (alo h) ≤ lin (alo o.2) := ev_lin F _ o hev
    have hsl := SL_mono hlin
    refine ⟨hlin, fun ad ca => ?_⟩
    have hok := md_ok hM
    refine va_MetF (cc := M.2.1) (maxL := M.2.2.1) (ret := M.2.2.2.1) hok.2.1 rfl ?_
    intro p e s m args below meth cc s₁ B hml hP
    obtain ⟨rfl, E, w, hv, hs4⟩ := hP
    have hx := B.exec
    have hb := B.bytes
    have hret := B.returns
    have hlocks := B.notSynchronized
    have hown : s.vm.findClass (ownOf c) = some m.cls := by rw [← hok.2.2.1]; exact findClass_of_methodNamed B.named
    have hin : meth.name = M.1.name := (name_of_methodNamed B.named B.method).1
    have hF : FR D bs sa sc p { frames := d, cells := lin (alo o.2) - lin (alo h), slots := SL (lin (alo o.2)) - SL (lin (alo h)), locals := 38 * d } s m meth cc M d c i (lin (alo h)) (SL (lin (alo h))) o := ⟨hM, hx, hb, hml, hown, fun q => hin.trans q, E, Nat.le_refl _, Nat.le_refl _, by show _ ≤ lin (alo o.2) - lin (alo h) + lin (alo h); omega, by show _ ≤ SL (lin (alo o.2)) - SL (lin (alo h)) + SL (lin (alo h)); omega⟩
    have hK : KE l D bs sa sc p e { frames := d, cells := lin (alo o.2) - lin (alo h), slots := SL (lin (alo o.2)) - SL (lin (alo h)), locals := 38 * d } s m (vs.map (cv ad)).toArray below meth cc (MQ below (QcX D bs sa sc h o ad) (vs.map (cv ad)).toArray s (lin (alo o.2) - lin (alo h)) (SL (lin (alo o.2)) - SL (lin (alo h))) (fun q => bs ≤ q)) M h ad (lin (alo h)) (SL (lin (alo h))) o := by
      intro pc ins lsA H locs cells slots ad' ca' hdg hr w' hS hokv hs hext hc hsl2
      have e1 : cells = lin (alo o.2) - lin (alo h) := by omega
      have e2 : slots = SL (lin (alo o.2)) - SL (lin (alo h)) := by omega
      subst e1; subst e2
      have hq : ∀ (v : Option Value), v = o.1.map (cv ad') → ∀ t : State, t.heap = H → s.WarmedH t.vm → QcX D bs sa sc h o ad (vs.map (cv ad)).toArray s (.returned v) t := by
        intro v hv t ht hW
        exact ⟨ad', ca', by rw [hv], hext, hs, by rw [ht]; exact w'.moved hW.alike, hokv, hS.F ht⟩
      rcases hr with ⟨rfl, hrt, x, ho⟩ | ⟨rfl, hrt, x, ho, hx01⟩ | ⟨rfl, hrt, ho⟩ | ⟨rfl, hrt, a, ho⟩
      · rw [ho]
        exact W.iret hx hb (hret.trans hrt) (hq _ (by rw [ho]; rfl)) hS.2.2 hdg hlocks
      · rw [ho]
        exact W.zret (ty := .boolean) hx hb (hret.trans hrt) (by rcases hx01 with rfl | rfl <;> decide) (hq _ (by rw [ho]; rfl)) hS.2.2 hdg hlocks
      · rw [ho]
        exact W.vret hx hb (hret.trans hrt) (hq _ (by rw [ho]; rfl)) hS.2.2 hdg hlocks
      · rw [ho]
        exact W.aret (rt := .array .int) (v := .ref (ad' a)) hx hb (hret.trans hrt) (Or.inr ⟨_, rfl⟩) (Or.inr ⟨_, rfl⟩) (hq _ (by rw [ho]; rfl)) hS.2.2 hdg hlocks
    have g := inner hF hK F (fun G hG => IH G hG) (d, c, i, 0, eL M.2.2.1 vs, [], h) ⟨rfl, rfl, rfl⟩ hev
    rw [lg_entry_eq]
    exact g s.heap [] 0 0 ad ca _ ⟨w, va_S.rf, lsR_entry ad vs hlen, fun v hv => absurd hv List.not_mem_nil, fun k v hk => hv v (eL_arg ad _ vs 0 k v hk).2, hs4, fun a _ => rfl, Nat.le_refl _, Nat.zero_add _, Nat.zero_add _⟩
