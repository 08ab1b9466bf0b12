theorem ck_fin : (List.range 13).all (fun c => (lkp [] sd_ft c).all (fun q => !(Nat.beq c q.2.1) || !q.2.2.2)) = true := by decide +kernel
theorem tabB {α : Type} {t : List (List α)} {f : Nat → α → Bool} (hl : t.length = 13) (h : (List.range 13).all (fun c => (lkp [] t c).all (f c)) = true) : ∀ c, ∀ q ∈ lkp [] t c, f c q = true := by
  intro c q hq
  rcases Nat.lt_or_ge c 13 with h2 | h2
  · exact List.all_eq_true.mp (List.all_eq_true.mp h c (List.mem_range.mpr h2)) q hq
  · exfalso
    have : ∀ (t : List (List α)) (c : Nat), t.length ≤ c → lkp [] t c = [] := by
      intro t
      induction t with
      | nil => intro c _; rfl
      | cons a l ih =>
        intro c hc
        cases c with
        | zero => simp at hc
        | succ c => exact ih c (by simpa using hc)
    rw [this t c (by omega)] at hq
    cases hq
theorem ini_name : ∀ c, c < 9 → ∀ M, md c 0 = some M → M.1.name = "<init>" := by
  intro c hc M hM
  match c, hc with
  | 0, _ => cases hM; rfl
  | 1, _ => cases hM; rfl
  | 2, _ => cases hM; rfl
  | 3, _ => cases hM; rfl
  | 4, _ => cases hM; rfl
  | 5, _ => cases hM; rfl
  | 6, _ => cases hM; rfl
  | 7, _ => cases hM; rfl
  | 8, _ => cases hM; rfl
  | n + 9, h => omega
theorem lkp_out {α : Type} (x : α) : ∀ {l : List α} {j : Nat}, l.length ≤ j → lkp x l j = x
  | [], _, _ => rfl
  | a :: l, 0, h => by simp at h
  | a :: l, j + 1, h => lkp_out x (l := l) (j := j) (by simpa using h)
theorem shp_ok : ∀ {a : Nat × Nat}, (shp a.1 a.2).1 ≠ 9 → okA a
  | (0, j), h => by
    show j < 71
    rcases Nat.lt_or_ge j 71 with q | q
    · exact q
    · exact absurd (congrArg Prod.fst (lkp_out (9, 0) (l := shp0) (j := j) q)) h
  | (g + 1, j), h => by
    show j < 9
    rcases Nat.lt_or_ge j 9 with q | q
    · exact q
    · exact absurd (congrArg Prod.fst (lkp_out (9, 0) (l := shpT) (j := j) q)) h
theorem inb_in {x : Int32} {n : Nat} (h : inb x n = true) : vp_in x n := by
  unfold inb at h
  simp only [Bool.not_eq_true', Bool.or_eq_false_iff, decide_eq_false_iff_not] at h
  exact fun q => q.elim h.1 h.2
section SND5
variable {l : Launch} {D : va_G} {bs : Nat} {sa : Nat → Nat} {sc : Nat × (Nat → Int32)}
variable {p : Program} {e : Env} {R : Room} {s : State} {m : MethodId} {args : Array Value} {below : List Frame} {meth : Method} {cc : Code} {Q : State → Prop} {M : MD} {d c i : Nat} {hh : AH} {ad0 : Nat × Nat → Nat} {n0 s0 : Nat} {o : AO}
variable {pc n : Nat} {ls : List (Option AV)} {st r : List AV} {h : AH}
/-- the same frame -/
def same (d c i : Nat) (x : AX) : Prop := x.1 = d ∧ x.2.1 = c ∧ x.2.2.1 = i
def GXx (l : Launch) (D : va_G) (bs : Nat) (sa : Nat → Nat) (sc : Nat × (Nat → Int32)) (p : Program) (e : Env) (R : Room) (s : State) (m : MethodId) (args : Array Value) (below : List Frame) (meth : Method) (cc : Code) (Q : State → Prop) (M : MD) (hh : AH) (ad0 : Nat × Nat → Nat) (n0 s0 : Nat) (x : AX) : Prop := GX l D bs sa sc p e R s m args below meth cc Q M hh ad0 n0 s0 x.2.2.2.1 x.2.2.2.2.1 x.2.2.2.2.2.1 x.2.2.2.2.2.2
def SD (l : Launch) (D : va_G) (bs : Nat) (sa : Nat → Nat) (sc : Nat × (Nat → Int32)) (p : Program) (e : Env) (R : Room) (s : State) (m : MethodId) (args : Array Value) (below : List Frame) (meth : Method) (cc : Code) (Q : State → Prop) (M : MD) (hh : AH) (ad0 : Nat × Nat → Nat) (n0 s0 : Nat) (o : AO) (d c i pc : Nat) (ls : List (Option AV)) (st : List AV) (h : AH) (A : AA) : Prop := match A with
  | .inl none => True
  | .inl (some o') => o'.2 = h ∧ (o' = o → KE l D bs sa sc p e R s m args below meth cc Q M hh ad0 n0 s0 o → GX l D bs sa sc p e R s m args below meth cc Q M hh ad0 n0 s0 pc ls st h)
  | .inr (.inl x) => same d c i x ∧ lin (alo h) ≤ lin (alo x.2.2.2.2.2.2) ∧ (lin (alo x.2.2.2.2.2.2) ≤ lin (alo o.2) → GXx l D bs sa sc p e R s m args below meth cc Q M hh ad0 n0 s0 x → GX l D bs sa sc p e R s m args below meth cc Q M hh ad0 n0 s0 pc ls st h)
  | .inr (.inr (.inl (b, .inl x, z))) => (same d c i x ∧ alo x.2.2.2.2.2.2 = alo h) ∧ (∀ z', z = some z' → same d c i z' ∧ alo z'.2.2.2.2.2.2 = alo h) ∧ (b = true → GXx l D bs sa sc p e R s m args below meth cc Q M hh ad0 n0 s0 x → GX l D bs sa sc p e R s m args below meth cc Q M hh ad0 n0 s0 pc ls st h) ∧ (b = false → ∀ z', z = some z' → GXx l D bs sa sc p e R s m args below meth cc Q M hh ad0 n0 s0 z' → GX l D bs sa sc p e R s m args below meth cc Q M hh ad0 n0 s0 pc ls st h)
  | .inr (.inr (.inl (b, .inr o', z))) => o'.2 = h ∧ z = none ∧ (b = true → o' = o → KE l D bs sa sc p e R s m args below meth cc Q M hh ad0 n0 s0 o → GX l D bs sa sc p e R s m args below meth cc Q M hh ad0 n0 s0 pc ls st h)
  | .inr (.inr (.inr (y, k))) => ∃ d' c' i' M' vs, d = d' + 1 ∧ md c' i' = some M' ∧ (eSl vs).length ≤ M'.2.2.1 ∧ y = (d', c', i', 0, eL M'.2.2.1 vs, [], h) ∧ (∀ o1 : AO, same d c i (k o1) ∧ (k o1).2.2.2.2.2.2 = o1.2) ∧ ∀ o1 : AO, CM l D bs sa sc d' M' vs h o1 → lin (alo o1.2) ≤ lin (alo o.2) → GXx l D bs sa sc p e R s m args below meth cc Q M hh ad0 n0 s0 (k o1) → GX l D bs sa sc p e R s m args below meth cc Q M hh ad0 n0 s0 pc ls st h
theorem sd_iconst {k : Int} (hF : FR D bs sa sc p R s m meth cc M d c i n0 s0 o) (hq : alk M.2.2.2.2 pc = some (.iconst k, n)) : SD l D bs sa sc p e R s m args below meth cc Q M hh ad0 n0 s0 o d c i pc ls st h (act1 M d c i pc n ls st h (.iconst k)) := by
  obtain ⟨hdg, hl, ht⟩ := pg_ok hF.1 hq
  obtain rfl : 1 = n := hl.resolve_left (fun q => absurd q (by decide : ¬ (1 : Nat) = 0))
  exact ⟨⟨rfl, rfl, rfl⟩, Nat.le_refl _, fun _ g => g_iconst hF hdg g⟩
theorem sd_bipush {k : Int} (hF : FR D bs sa sc p R s m meth cc M d c i n0 s0 o) (hq : alk M.2.2.2.2 pc = some (.bipush k, n)) : SD l D bs sa sc p e R s m args below meth cc Q M hh ad0 n0 s0 o d c i pc ls st h (act1 M d c i pc n ls st h (.bipush k)) := by
  obtain ⟨hdg, hl, ht⟩ := pg_ok hF.1 hq
  obtain rfl : 2 = n := hl.resolve_left (fun q => absurd q (by decide : ¬ (2 : Nat) = 0))
  exact ⟨⟨rfl, rfl, rfl⟩, Nat.le_refl _, fun _ g => g_bipush hF hdg g⟩
theorem sd_sipush {k : Int} (hF : FR D bs sa sc p R s m meth cc M d c i n0 s0 o) (hq : alk M.2.2.2.2 pc = some (.sipush k, n)) : SD l D bs sa sc p e R s m args below meth cc Q M hh ad0 n0 s0 o d c i pc ls st h (act1 M d c i pc n ls st h (.sipush k)) := by
  obtain ⟨hdg, hl, ht⟩ := pg_ok hF.1 hq
  obtain rfl : 3 = n := hl.resolve_left (fun q => absurd q (by decide : ¬ (3 : Nat) = 0))
  exact ⟨⟨rfl, rfl, rfl⟩, Nat.le_refl _, fun _ g => g_sipush hF hdg g⟩
theorem sd_lconst {k : Fin 2} (hF : FR D bs sa sc p R s m meth cc M d c i n0 s0 o) (hq : alk M.2.2.2.2 pc = some (.lconst k, n)) : SD l D bs sa sc p e R s m args below meth cc Q M hh ad0 n0 s0 o d c i pc ls st h (act1 M d c i pc n ls st h (.lconst k)) := by
  obtain ⟨hdg, hl, ht⟩ := pg_ok hF.1 hq
  obtain rfl : 1 = n := hl.resolve_left (fun q => absurd q (by decide : ¬ (1 : Nat) = 0))
  exact ⟨⟨rfl, rfl, rfl⟩, Nat.le_refl _, fun _ g => g_lconst hF hdg g⟩
theorem sd_ldc {k : Nat} (hF : FR D bs sa sc p R s m meth cc M d c i n0 s0 o) (hq : alk M.2.2.2.2 pc = some (.ldc k, n)) : SD l D bs sa sc p e R s m args below meth cc Q M hh ad0 n0 s0 o d c i pc ls st h (act1 M d c i pc n ls st h (.ldc k)) := by
  obtain ⟨hdg, hl, ht⟩ := pg_ok hF.1 hq
  obtain rfl : 2 = n := hl.resolve_left (fun q => absurd q (by decide : ¬ (2 : Nat) = 0))
  show SD l D bs sa sc p e R s m args below meth cc Q M hh ad0 n0 s0 o _ c i pc ls _ h (match alk (lkp [] sd_kt c) k with | some v => _ | none => _)
  cases hk : alk (lkp [] sd_kt c) k with
  | none => exact trivial
  | some v => exact ⟨⟨rfl, rfl, rfl⟩, Nat.le_refl _, fun _ g => g_ldc hF hk hdg g⟩
theorem sd_ldcw {k : Nat} (hF : FR D bs sa sc p R s m meth cc M d c i n0 s0 o) (hq : alk M.2.2.2.2 pc = some (.ldc_w k, n)) : SD l D bs sa sc p e R s m args below meth cc Q M hh ad0 n0 s0 o d c i pc ls st h (act1 M d c i pc n ls st h (.ldc_w k)) := by
  obtain ⟨hdg, hl, ht⟩ := pg_ok hF.1 hq
  obtain rfl : 3 = n := hl.resolve_left (fun q => absurd q (by decide : ¬ (3 : Nat) = 0))
  show SD l D bs sa sc p e R s m args below meth cc Q M hh ad0 n0 s0 o _ c i pc ls _ h (match alk (lkp [] sd_kt c) k with | some v => _ | none => _)
  cases hk : alk (lkp [] sd_kt c) k with
  | none => exact trivial
  | some v => exact ⟨⟨rfl, rfl, rfl⟩, Nat.le_refl _, fun _ g => g_ldcw hF hk hdg g⟩
theorem sd_ldc2 {k : Nat} (hF : FR D bs sa sc p R s m meth cc M d c i n0 s0 o) (hq : alk M.2.2.2.2 pc = some (.ldc2_w k, n)) : SD l D bs sa sc p e R s m args below meth cc Q M hh ad0 n0 s0 o d c i pc ls st h (act1 M d c i pc n ls st h (.ldc2_w k)) := by
  obtain ⟨hdg, hl, ht⟩ := pg_ok hF.1 hq
  obtain rfl : 3 = n := hl.resolve_left (fun q => absurd q (by decide : ¬ (3 : Nat) = 0))
  show SD l D bs sa sc p e R s m args below meth cc Q M hh ad0 n0 s0 o _ c i pc ls _ h (match alk (lkp [] sd_lt c) k with | some v => _ | none => _)
  cases hk : alk (lkp [] sd_lt c) k with
  | none => exact trivial
  | some v => exact ⟨⟨rfl, rfl, rfl⟩, Nat.le_refl _, fun _ g => g_ldc2 hF hk hdg g⟩
theorem sd_iload_n {k : Fin 4} (hF : FR D bs sa sc p R s m meth cc M d c i n0 s0 o) (hq : alk M.2.2.2.2 pc = some (.iload_n k, n)) : SD l D bs sa sc p e R s m args below meth cc Q M hh ad0 n0 s0 o d c i pc ls st h (act1 M d c i pc n ls st h (.iload_n k)) := by
  obtain ⟨hdg, hl, ht⟩ := pg_ok hF.1 hq
  obtain rfl : 1 = n := hl.resolve_left (fun q => absurd q (by decide : ¬ (1 : Nat) = 0))
  show SD l D bs sa sc p e R s m args below meth cc Q M hh ad0 n0 s0 o _ c i pc ls _ h (match lkp none ls (k : Nat) with | some (.inl x) => _ | _ => _)
  cases hk : lkp none ls (k : Nat) with
  | none => exact trivial
  | some v =>
    rcases v with x | x | (_ | a)
    · exact ⟨⟨rfl, rfl, rfl⟩, Nat.le_refl _, fun _ g => g_iload_n hF hk hdg g⟩
    · exact trivial
    · exact trivial
    · exact trivial
theorem sd_iload {k : Nat} (hF : FR D bs sa sc p R s m meth cc M d c i n0 s0 o) (hq : alk M.2.2.2.2 pc = some (.iload k, n)) : SD l D bs sa sc p e R s m args below meth cc Q M hh ad0 n0 s0 o d c i pc ls st h (act1 M d c i pc n ls st h (.iload k)) := by
  obtain ⟨hdg, hl, ht⟩ := pg_ok hF.1 hq
  obtain rfl : 2 = n := hl.resolve_left (fun q => absurd q (by decide : ¬ (2 : Nat) = 0))
  show SD l D bs sa sc p e R s m args below meth cc Q M hh ad0 n0 s0 o _ c i pc ls _ h (match lkp none ls k with | some (.inl x) => _ | _ => _)
  cases hk : lkp none ls k with
  | none => exact trivial
  | some v =>
    rcases v with x | x | (_ | a)
    · exact ⟨⟨rfl, rfl, rfl⟩, Nat.le_refl _, fun _ g => g_iload hF hk hdg g⟩
    · exact trivial
    · exact trivial
    · exact trivial
theorem sd_aload_n {k : Fin 4} (hF : FR D bs sa sc p R s m meth cc M d c i n0 s0 o) (hq : alk M.2.2.2.2 pc = some (.aload_n k, n)) : SD l D bs sa sc p e R s m args below meth cc Q M hh ad0 n0 s0 o d c i pc ls st h (act1 M d c i pc n ls st h (.aload_n k)) := by
  obtain ⟨hdg, hl, ht⟩ := pg_ok hF.1 hq
  obtain rfl : 1 = n := hl.resolve_left (fun q => absurd q (by decide : ¬ (1 : Nat) = 0))
  show SD l D bs sa sc p e R s m args below meth cc Q M hh ad0 n0 s0 o _ c i pc ls _ h (match lkp none ls (k : Nat) with | some (.inr (.inr (some a))) => _ | _ => _)
  cases hk : lkp none ls (k : Nat) with
  | none => exact trivial
  | some v =>
    rcases v with x | x | (_ | a)
    · exact trivial
    · exact trivial
    · exact trivial
    · exact ⟨⟨rfl, rfl, rfl⟩, Nat.le_refl _, fun _ g => g_aload_n hF hk hdg g⟩
theorem sd_aload {k : Nat} (hF : FR D bs sa sc p R s m meth cc M d c i n0 s0 o) (hq : alk M.2.2.2.2 pc = some (.aload k, n)) : SD l D bs sa sc p e R s m args below meth cc Q M hh ad0 n0 s0 o d c i pc ls st h (act1 M d c i pc n ls st h (.aload k)) := by
  obtain ⟨hdg, hl, ht⟩ := pg_ok hF.1 hq
  obtain rfl : 2 = n := hl.resolve_left (fun q => absurd q (by decide : ¬ (2 : Nat) = 0))
  show SD l D bs sa sc p e R s m args below meth cc Q M hh ad0 n0 s0 o _ c i pc ls _ h (match lkp none ls k with | some (.inr (.inr (some a))) => _ | _ => _)
  cases hk : lkp none ls k with
  | none => exact trivial
  | some v =>
    rcases v with x | x | (_ | a)
    · exact trivial
    · exact trivial
    · exact trivial
    · exact ⟨⟨rfl, rfl, rfl⟩, Nat.le_refl _, fun _ g => g_aload hF hk hdg g⟩
theorem sd_lload_n {k : Fin 4} (hF : FR D bs sa sc p R s m meth cc M d c i n0 s0 o) (hq : alk M.2.2.2.2 pc = some (.lload_n k, n)) : SD l D bs sa sc p e R s m args below meth cc Q M hh ad0 n0 s0 o d c i pc ls st h (act1 M d c i pc n ls st h (.lload_n k)) := by
  obtain ⟨hdg, hl, ht⟩ := pg_ok hF.1 hq
  obtain rfl : 1 = n := hl.resolve_left (fun q => absurd q (by decide : ¬ (1 : Nat) = 0))
  show SD l D bs sa sc p e R s m args below meth cc Q M hh ad0 n0 s0 o _ c i pc ls _ h (match lkp none ls (k : Nat) with | some (.inr (.inl x)) => _ | _ => _)
  cases hk : lkp none ls (k : Nat) with
  | none => exact trivial
  | some v =>
    rcases v with x | x | (_ | a)
    · exact trivial
    · exact ⟨⟨rfl, rfl, rfl⟩, Nat.le_refl _, fun _ g => g_lload_n hF hk hdg g⟩
    · exact trivial
    · exact trivial
theorem sd_lload {k : Nat} (hF : FR D bs sa sc p R s m meth cc M d c i n0 s0 o) (hq : alk M.2.2.2.2 pc = some (.lload k, n)) : SD l D bs sa sc p e R s m args below meth cc Q M hh ad0 n0 s0 o d c i pc ls st h (act1 M d c i pc n ls st h (.lload k)) := by
  obtain ⟨hdg, hl, ht⟩ := pg_ok hF.1 hq
  obtain rfl : 2 = n := hl.resolve_left (fun q => absurd q (by decide : ¬ (2 : Nat) = 0))
  show SD l D bs sa sc p e R s m args below meth cc Q M hh ad0 n0 s0 o _ c i pc ls _ h (match lkp none ls k with | some (.inr (.inl x)) => _ | _ => _)
  cases hk : lkp none ls k with
  | none => exact trivial
  | some v =>
    rcases v with x | x | (_ | a)
    · exact trivial
    · exact ⟨⟨rfl, rfl, rfl⟩, Nat.le_refl _, fun _ g => g_lload hF hk hdg g⟩
    · exact trivial
    · exact trivial
theorem sd_istore_n {k : Fin 4} (hF : FR D bs sa sc p R s m meth cc M d c i n0 s0 o) (hq : alk M.2.2.2.2 pc = some (.istore_n k, n)) : SD l D bs sa sc p e R s m args below meth cc Q M hh ad0 n0 s0 o d c i pc ls st h (act1 M d c i pc n ls st h (.istore_n k)) := by
  obtain ⟨hdg, hl, ht⟩ := pg_ok hF.1 hq
  obtain rfl : 1 = n := hl.resolve_left (fun q => absurd q (by decide : ¬ (1 : Nat) = 0))
  rcases st with _ | ⟨x | x | (_ | x), r⟩
  · exact trivial
  · simp only [act1, sto]
    cases hb : noL ls && Nat.blt (k : Nat) ls.length with
    | false => exact trivial
    | true =>
      have h2 := Bool.and_eq_true _ _ ▸ hb
      exact ⟨⟨rfl, rfl, rfl⟩, Nat.le_refl _, fun _ g => g_istore_n hF h2.1 (Nat.le_of_ble_eq_true h2.2) hdg g⟩
  · exact trivial
  · exact trivial
  · exact trivial
theorem sd_istore {k : Nat} (hF : FR D bs sa sc p R s m meth cc M d c i n0 s0 o) (hq : alk M.2.2.2.2 pc = some (.istore k, n)) : SD l D bs sa sc p e R s m args below meth cc Q M hh ad0 n0 s0 o d c i pc ls st h (act1 M d c i pc n ls st h (.istore k)) := by
  obtain ⟨hdg, hl, ht⟩ := pg_ok hF.1 hq
  obtain rfl : 2 = n := hl.resolve_left (fun q => absurd q (by decide : ¬ (2 : Nat) = 0))
  rcases st with _ | ⟨x | x | (_ | x), r⟩
  · exact trivial
  · simp only [act1, sto]
    cases hb : noL ls && Nat.blt k ls.length with
    | false => exact trivial
    | true =>
      have h2 := Bool.and_eq_true _ _ ▸ hb
      exact ⟨⟨rfl, rfl, rfl⟩, Nat.le_refl _, fun _ g => g_istore hF h2.1 (Nat.le_of_ble_eq_true h2.2) hdg g⟩
  · exact trivial
  · exact trivial
  · exact trivial
theorem sd_astore_n {k : Fin 4} (hF : FR D bs sa sc p R s m meth cc M d c i n0 s0 o) (hq : alk M.2.2.2.2 pc = some (.astore_n k, n)) : SD l D bs sa sc p e R s m args below meth cc Q M hh ad0 n0 s0 o d c i pc ls st h (act1 M d c i pc n ls st h (.astore_n k)) := by
  obtain ⟨hdg, hl, ht⟩ := pg_ok hF.1 hq
  obtain rfl : 1 = n := hl.resolve_left (fun q => absurd q (by decide : ¬ (1 : Nat) = 0))
  rcases st with _ | ⟨x | x | (_ | x), r⟩
  · exact trivial
  · exact trivial
  · exact trivial
  · exact trivial
  · simp only [act1, sto]
    cases hb : noL ls && Nat.blt (k : Nat) ls.length with
    | false => exact trivial
    | true =>
      have h2 := Bool.and_eq_true _ _ ▸ hb
      exact ⟨⟨rfl, rfl, rfl⟩, Nat.le_refl _, fun _ g => g_astore_n hF h2.1 (Nat.le_of_ble_eq_true h2.2) hdg g⟩
theorem sd_astore {k : Nat} (hF : FR D bs sa sc p R s m meth cc M d c i n0 s0 o) (hq : alk M.2.2.2.2 pc = some (.astore k, n)) : SD l D bs sa sc p e R s m args below meth cc Q M hh ad0 n0 s0 o d c i pc ls st h (act1 M d c i pc n ls st h (.astore k)) := by
  obtain ⟨hdg, hl, ht⟩ := pg_ok hF.1 hq
  obtain rfl : 2 = n := hl.resolve_left (fun q => absurd q (by decide : ¬ (2 : Nat) = 0))
  rcases st with _ | ⟨x | x | (_ | x), r⟩
  · exact trivial
  · exact trivial
  · exact trivial
  · exact trivial
  · simp only [act1, sto]
    cases hb : noL ls && Nat.blt k ls.length with
    | false => exact trivial
    | true =>
      have h2 := Bool.and_eq_true _ _ ▸ hb
      exact ⟨⟨rfl, rfl, rfl⟩, Nat.le_refl _, fun _ g => g_astore hF h2.1 (Nat.le_of_ble_eq_true h2.2) hdg g⟩
theorem sd_iinc {k : Nat} {z : Int} (hF : FR D bs sa sc p R s m meth cc M d c i n0 s0 o) (hq : alk M.2.2.2.2 pc = some (.iinc k z, n)) : SD l D bs sa sc p e R s m args below meth cc Q M hh ad0 n0 s0 o d c i pc ls st h (act1 M d c i pc n ls st h (.iinc k z)) := by
  obtain ⟨hdg, hl, ht⟩ := pg_ok hF.1 hq
  obtain rfl : 3 = n := hl.resolve_left (fun q => absurd q (by decide : ¬ (3 : Nat) = 0))
  show SD l D bs sa sc p e R s m args below meth cc Q M hh ad0 n0 s0 o _ c i pc ls _ h (match lkp none ls k with | some (.inl x) => _ | _ => _)
  cases hk : lkp none ls k with
  | none => exact trivial
  | some v =>
    rcases v with x | x | (_ | a)
    · simp only [sto]
      cases hb : noL ls && Nat.blt k ls.length with
      | false => exact trivial
      | true =>
        have h2 := Bool.and_eq_true _ _ ▸ hb
        exact ⟨⟨rfl, rfl, rfl⟩, Nat.le_refl _, fun _ g => g_iinc hF hk h2.1 (Nat.le_of_ble_eq_true h2.2) hdg g⟩
    · exact trivial
    · exact trivial
    · exact trivial
theorem sd_iadd (hF : FR D bs sa sc p R s m meth cc M d c i n0 s0 o) (hq : alk M.2.2.2.2 pc = some (.iadd, n)) : SD l D bs sa sc p e R s m args below meth cc Q M hh ad0 n0 s0 o d c i pc ls st h (act1 M d c i pc n ls st h (.iadd)) := by
  obtain ⟨hdg, hl, ht⟩ := pg_ok hF.1 hq
  obtain rfl : 1 = n := hl.resolve_left (fun q => absurd q (by decide : ¬ (1 : Nat) = 0))
  rcases st with _ | ⟨y | y | y, _ | ⟨x | x | x, r⟩⟩
  · exact trivial
  · exact trivial
  · exact ⟨⟨rfl, rfl, rfl⟩, Nat.le_refl _, fun _ g => g_iadd hF hdg g⟩
  · exact trivial
  · exact trivial
  · exact trivial
  · exact trivial
  · exact trivial
  · exact trivial
  · exact trivial
  · exact trivial
  · exact trivial
  · exact trivial
theorem sd_isub (hF : FR D bs sa sc p R s m meth cc M d c i n0 s0 o) (hq : alk M.2.2.2.2 pc = some (.isub, n)) : SD l D bs sa sc p e R s m args below meth cc Q M hh ad0 n0 s0 o d c i pc ls st h (act1 M d c i pc n ls st h (.isub)) := by
  obtain ⟨hdg, hl, ht⟩ := pg_ok hF.1 hq
  obtain rfl : 1 = n := hl.resolve_left (fun q => absurd q (by decide : ¬ (1 : Nat) = 0))
  rcases st with _ | ⟨y | y | y, _ | ⟨x | x | x, r⟩⟩
  · exact trivial
  · exact trivial
  · exact ⟨⟨rfl, rfl, rfl⟩, Nat.le_refl _, fun _ g => g_isub hF hdg g⟩
  · exact trivial
  · exact trivial
  · exact trivial
  · exact trivial
  · exact trivial
  · exact trivial
  · exact trivial
  · exact trivial
  · exact trivial
  · exact trivial
theorem sd_imul (hF : FR D bs sa sc p R s m meth cc M d c i n0 s0 o) (hq : alk M.2.2.2.2 pc = some (.imul, n)) : SD l D bs sa sc p e R s m args below meth cc Q M hh ad0 n0 s0 o d c i pc ls st h (act1 M d c i pc n ls st h (.imul)) := by
  obtain ⟨hdg, hl, ht⟩ := pg_ok hF.1 hq
  obtain rfl : 1 = n := hl.resolve_left (fun q => absurd q (by decide : ¬ (1 : Nat) = 0))
  rcases st with _ | ⟨y | y | y, _ | ⟨x | x | x, r⟩⟩
  · exact trivial
  · exact trivial
  · exact ⟨⟨rfl, rfl, rfl⟩, Nat.le_refl _, fun _ g => g_imul hF hdg g⟩
  · exact trivial
  · exact trivial
  · exact trivial
  · exact trivial
  · exact trivial
  · exact trivial
  · exact trivial
  · exact trivial
  · exact trivial
  · exact trivial
theorem sd_iand (hF : FR D bs sa sc p R s m meth cc M d c i n0 s0 o) (hq : alk M.2.2.2.2 pc = some (.iand, n)) : SD l D bs sa sc p e R s m args below meth cc Q M hh ad0 n0 s0 o d c i pc ls st h (act1 M d c i pc n ls st h (.iand)) := by
  obtain ⟨hdg, hl, ht⟩ := pg_ok hF.1 hq
  obtain rfl : 1 = n := hl.resolve_left (fun q => absurd q (by decide : ¬ (1 : Nat) = 0))
  rcases st with _ | ⟨y | y | y, _ | ⟨x | x | x, r⟩⟩
  · exact trivial
  · exact trivial
  · exact ⟨⟨rfl, rfl, rfl⟩, Nat.le_refl _, fun _ g => g_iand hF hdg g⟩
  · exact trivial
  · exact trivial
  · exact trivial
  · exact trivial
  · exact trivial
  · exact trivial
  · exact trivial
  · exact trivial
  · exact trivial
  · exact trivial
theorem sd_ior (hF : FR D bs sa sc p R s m meth cc M d c i n0 s0 o) (hq : alk M.2.2.2.2 pc = some (.ior, n)) : SD l D bs sa sc p e R s m args below meth cc Q M hh ad0 n0 s0 o d c i pc ls st h (act1 M d c i pc n ls st h (.ior)) := by
  obtain ⟨hdg, hl, ht⟩ := pg_ok hF.1 hq
  obtain rfl : 1 = n := hl.resolve_left (fun q => absurd q (by decide : ¬ (1 : Nat) = 0))
  rcases st with _ | ⟨y | y | y, _ | ⟨x | x | x, r⟩⟩
  · exact trivial
  · exact trivial
  · exact ⟨⟨rfl, rfl, rfl⟩, Nat.le_refl _, fun _ g => g_ior hF hdg g⟩
  · exact trivial
  · exact trivial
  · exact trivial
  · exact trivial
  · exact trivial
  · exact trivial
  · exact trivial
  · exact trivial
  · exact trivial
  · exact trivial
theorem sd_ixor (hF : FR D bs sa sc p R s m meth cc M d c i n0 s0 o) (hq : alk M.2.2.2.2 pc = some (.ixor, n)) : SD l D bs sa sc p e R s m args below meth cc Q M hh ad0 n0 s0 o d c i pc ls st h (act1 M d c i pc n ls st h (.ixor)) := by
  obtain ⟨hdg, hl, ht⟩ := pg_ok hF.1 hq
  obtain rfl : 1 = n := hl.resolve_left (fun q => absurd q (by decide : ¬ (1 : Nat) = 0))
  rcases st with _ | ⟨y | y | y, _ | ⟨x | x | x, r⟩⟩
  · exact trivial
  · exact trivial
  · exact ⟨⟨rfl, rfl, rfl⟩, Nat.le_refl _, fun _ g => g_ixor hF hdg g⟩
  · exact trivial
  · exact trivial
  · exact trivial
  · exact trivial
  · exact trivial
  · exact trivial
  · exact trivial
  · exact trivial
  · exact trivial
  · exact trivial
theorem sd_ishl (hF : FR D bs sa sc p R s m meth cc M d c i n0 s0 o) (hq : alk M.2.2.2.2 pc = some (.ishl, n)) : SD l D bs sa sc p e R s m args below meth cc Q M hh ad0 n0 s0 o d c i pc ls st h (act1 M d c i pc n ls st h (.ishl)) := by
  obtain ⟨hdg, hl, ht⟩ := pg_ok hF.1 hq
  obtain rfl : 1 = n := hl.resolve_left (fun q => absurd q (by decide : ¬ (1 : Nat) = 0))
  rcases st with _ | ⟨y | y | y, _ | ⟨x | x | x, r⟩⟩
  · exact trivial
  · exact trivial
  · exact ⟨⟨rfl, rfl, rfl⟩, Nat.le_refl _, fun _ g => g_ishl hF hdg g⟩
  · exact trivial
  · exact trivial
  · exact trivial
  · exact trivial
  · exact trivial
  · exact trivial
  · exact trivial
  · exact trivial
  · exact trivial
  · exact trivial
theorem sd_ishr (hF : FR D bs sa sc p R s m meth cc M d c i n0 s0 o) (hq : alk M.2.2.2.2 pc = some (.ishr, n)) : SD l D bs sa sc p e R s m args below meth cc Q M hh ad0 n0 s0 o d c i pc ls st h (act1 M d c i pc n ls st h (.ishr)) := by
  obtain ⟨hdg, hl, ht⟩ := pg_ok hF.1 hq
  obtain rfl : 1 = n := hl.resolve_left (fun q => absurd q (by decide : ¬ (1 : Nat) = 0))
  rcases st with _ | ⟨y | y | y, _ | ⟨x | x | x, r⟩⟩
  · exact trivial
  · exact trivial
  · exact ⟨⟨rfl, rfl, rfl⟩, Nat.le_refl _, fun _ g => g_ishr hF hdg g⟩
  · exact trivial
  · exact trivial
  · exact trivial
  · exact trivial
  · exact trivial
  · exact trivial
  · exact trivial
  · exact trivial
  · exact trivial
  · exact trivial
theorem sd_iushr (hF : FR D bs sa sc p R s m meth cc M d c i n0 s0 o) (hq : alk M.2.2.2.2 pc = some (.iushr, n)) : SD l D bs sa sc p e R s m args below meth cc Q M hh ad0 n0 s0 o d c i pc ls st h (act1 M d c i pc n ls st h (.iushr)) := by
  obtain ⟨hdg, hl, ht⟩ := pg_ok hF.1 hq
  obtain rfl : 1 = n := hl.resolve_left (fun q => absurd q (by decide : ¬ (1 : Nat) = 0))
  rcases st with _ | ⟨y | y | y, _ | ⟨x | x | x, r⟩⟩
  · exact trivial
  · exact trivial
  · exact ⟨⟨rfl, rfl, rfl⟩, Nat.le_refl _, fun _ g => g_iushr hF hdg g⟩
  · exact trivial
  · exact trivial
  · exact trivial
  · exact trivial
  · exact trivial
  · exact trivial
  · exact trivial
  · exact trivial
  · exact trivial
  · exact trivial
theorem sd_ineg (hF : FR D bs sa sc p R s m meth cc M d c i n0 s0 o) (hq : alk M.2.2.2.2 pc = some (.ineg, n)) : SD l D bs sa sc p e R s m args below meth cc Q M hh ad0 n0 s0 o d c i pc ls st h (act1 M d c i pc n ls st h (.ineg)) := by
  obtain ⟨hdg, hl, ht⟩ := pg_ok hF.1 hq
  obtain rfl : 1 = n := hl.resolve_left (fun q => absurd q (by decide : ¬ (1 : Nat) = 0))
  rcases st with _ | ⟨y | y | y, r⟩
  · exact trivial
  · exact ⟨⟨rfl, rfl, rfl⟩, Nat.le_refl _, fun _ g => g_ineg hF hdg g⟩
  · exact trivial
  · exact trivial
theorem sd_i2l (hF : FR D bs sa sc p R s m meth cc M d c i n0 s0 o) (hq : alk M.2.2.2.2 pc = some (.i2l, n)) : SD l D bs sa sc p e R s m args below meth cc Q M hh ad0 n0 s0 o d c i pc ls st h (act1 M d c i pc n ls st h (.i2l)) := by
  obtain ⟨hdg, hl, ht⟩ := pg_ok hF.1 hq
  obtain rfl : 1 = n := hl.resolve_left (fun q => absurd q (by decide : ¬ (1 : Nat) = 0))
  rcases st with _ | ⟨y | y | y, r⟩
  · exact trivial
  · exact ⟨⟨rfl, rfl, rfl⟩, Nat.le_refl _, fun _ g => g_i2l hF hdg g⟩
  · exact trivial
  · exact trivial
theorem sd_i2b (hF : FR D bs sa sc p R s m meth cc M d c i n0 s0 o) (hq : alk M.2.2.2.2 pc = some (.i2b, n)) : SD l D bs sa sc p e R s m args below meth cc Q M hh ad0 n0 s0 o d c i pc ls st h (act1 M d c i pc n ls st h (.i2b)) := by
  obtain ⟨hdg, hl, ht⟩ := pg_ok hF.1 hq
  obtain rfl : 1 = n := hl.resolve_left (fun q => absurd q (by decide : ¬ (1 : Nat) = 0))
  rcases st with _ | ⟨y | y | y, r⟩
  · exact trivial
  · exact ⟨⟨rfl, rfl, rfl⟩, Nat.le_refl _, fun _ g => g_i2b hF hdg g⟩
  · exact trivial
  · exact trivial
theorem sd_i2s (hF : FR D bs sa sc p R s m meth cc M d c i n0 s0 o) (hq : alk M.2.2.2.2 pc = some (.i2s, n)) : SD l D bs sa sc p e R s m args below meth cc Q M hh ad0 n0 s0 o d c i pc ls st h (act1 M d c i pc n ls st h (.i2s)) := by
  obtain ⟨hdg, hl, ht⟩ := pg_ok hF.1 hq
  obtain rfl : 1 = n := hl.resolve_left (fun q => absurd q (by decide : ¬ (1 : Nat) = 0))
  rcases st with _ | ⟨y | y | y, r⟩
  · exact trivial
  · exact ⟨⟨rfl, rfl, rfl⟩, Nat.le_refl _, fun _ g => g_i2s hF hdg g⟩
  · exact trivial
  · exact trivial
theorem sd_lcmp (hF : FR D bs sa sc p R s m meth cc M d c i n0 s0 o) (hq : alk M.2.2.2.2 pc = some (.lcmp, n)) : SD l D bs sa sc p e R s m args below meth cc Q M hh ad0 n0 s0 o d c i pc ls st h (act1 M d c i pc n ls st h (.lcmp)) := by
  obtain ⟨hdg, hl, ht⟩ := pg_ok hF.1 hq
  obtain rfl : 1 = n := hl.resolve_left (fun q => absurd q (by decide : ¬ (1 : Nat) = 0))
  rcases st with _ | ⟨y | y | y, _ | ⟨x | x | x, r⟩⟩
  · exact trivial
  · exact trivial
  · exact trivial
  · exact trivial
  · exact trivial
  · exact trivial
  · exact trivial
  · exact ⟨⟨rfl, rfl, rfl⟩, Nat.le_refl _, fun _ g => g_lcmp hF hdg g⟩
  · exact trivial
  · exact trivial
  · exact trivial
  · exact trivial
  · exact trivial
theorem sd_idiv (hF : FR D bs sa sc p R s m meth cc M d c i n0 s0 o) (hq : alk M.2.2.2.2 pc = some (.idiv, n)) : SD l D bs sa sc p e R s m args below meth cc Q M hh ad0 n0 s0 o d c i pc ls st h (act1 M d c i pc n ls st h (.idiv)) := by
  obtain ⟨hdg, hl, ht⟩ := pg_ok hF.1 hq
  obtain rfl : 1 = n := hl.resolve_left (fun q => absurd q (by decide : ¬ (1 : Nat) = 0))
  rcases st with _ | ⟨y | y | y, _ | ⟨x | x | x, r⟩⟩
  · exact trivial
  · exact trivial
  · exact ⟨⟨⟨rfl, rfl, rfl⟩, rfl⟩, fun z hz => (by cases hz), fun hb g => g_idiv hF (by simpa using hb) hdg g, fun _ z hz => (by cases hz)⟩
  · exact trivial
  · exact trivial
  · exact trivial
  · exact trivial
  · exact trivial
  · exact trivial
  · exact trivial
  · exact trivial
  · exact trivial
  · exact trivial
theorem sd_irem (hF : FR D bs sa sc p R s m meth cc M d c i n0 s0 o) (hq : alk M.2.2.2.2 pc = some (.irem, n)) : SD l D bs sa sc p e R s m args below meth cc Q M hh ad0 n0 s0 o d c i pc ls st h (act1 M d c i pc n ls st h (.irem)) := by
  obtain ⟨hdg, hl, ht⟩ := pg_ok hF.1 hq
  obtain rfl : 1 = n := hl.resolve_left (fun q => absurd q (by decide : ¬ (1 : Nat) = 0))
  rcases st with _ | ⟨y | y | y, _ | ⟨x | x | x, r⟩⟩
  · exact trivial
  · exact trivial
  · exact ⟨⟨⟨rfl, rfl, rfl⟩, rfl⟩, fun z hz => (by cases hz), fun hb g => g_irem hF (by simpa using hb) hdg g, fun _ z hz => (by cases hz)⟩
  · exact trivial
  · exact trivial
  · exact trivial
  · exact trivial
  · exact trivial
  · exact trivial
  · exact trivial
  · exact trivial
  · exact trivial
  · exact trivial
theorem sd_dup (hF : FR D bs sa sc p R s m meth cc M d c i n0 s0 o) (hq : alk M.2.2.2.2 pc = some (.dup, n)) : SD l D bs sa sc p e R s m args below meth cc Q M hh ad0 n0 s0 o d c i pc ls st h (act1 M d c i pc n ls st h (.dup)) := by
  obtain ⟨hdg, hl, ht⟩ := pg_ok hF.1 hq
  obtain rfl : 1 = n := hl.resolve_left (fun q => absurd q (by decide : ¬ (1 : Nat) = 0))
  rcases st with _ | ⟨y | y | y, r⟩
  · exact trivial
  · exact ⟨⟨rfl, rfl, rfl⟩, Nat.le_refl _, fun _ g => g_dup hF rfl hdg g⟩
  · exact trivial
  · exact ⟨⟨rfl, rfl, rfl⟩, Nat.le_refl _, fun _ g => g_dup hF rfl hdg g⟩
theorem sd_dup2 (hF : FR D bs sa sc p R s m meth cc M d c i n0 s0 o) (hq : alk M.2.2.2.2 pc = some (.dup2, n)) : SD l D bs sa sc p e R s m args below meth cc Q M hh ad0 n0 s0 o d c i pc ls st h (act1 M d c i pc n ls st h (.dup2)) := by
  obtain ⟨hdg, hl, ht⟩ := pg_ok hF.1 hq
  obtain rfl : 1 = n := hl.resolve_left (fun q => absurd q (by decide : ¬ (1 : Nat) = 0))
  rcases st with _ | ⟨y | y | y, _ | ⟨x | x | x, r⟩⟩
  · exact trivial
  · exact trivial
  · exact trivial
  · exact trivial
  · exact ⟨⟨rfl, rfl, rfl⟩, Nat.le_refl _, fun _ g => g_dup2 hF rfl rfl hdg g⟩
  · exact trivial
  · exact trivial
  · exact trivial
  · exact trivial
  · exact trivial
  · exact trivial
  · exact trivial
  · exact trivial
theorem sd_goto {off : Int} (hF : FR D bs sa sc p R s m meth cc M d c i n0 s0 o) (hq : alk M.2.2.2.2 pc = some (.goto off, n)) : SD l D bs sa sc p e R s m args below meth cc Q M hh ad0 n0 s0 o d c i pc ls st h (act1 M d c i pc n ls st h (.goto off)) := by
  obtain ⟨hdg, hl, ht⟩ := pg_ok hF.1 hq
  obtain rfl : 3 = n := hl.resolve_left (fun q => absurd q (by decide : ¬ (3 : Nat) = 0))
  exact ⟨⟨rfl, rfl, rfl⟩, Nat.le_refl _, fun _ g => g_goto hF (of_decide_eq_true ht) hdg g⟩
theorem sd_ifc {q : ClassFile.Cond} {off : Int} (hF : FR D bs sa sc p R s m meth cc M d c i n0 s0 o) (hq : alk M.2.2.2.2 pc = some (.ifCond q off, n)) : SD l D bs sa sc p e R s m args below meth cc Q M hh ad0 n0 s0 o d c i pc ls st h (act1 M d c i pc n ls st h (.ifCond q off)) := by
  obtain ⟨hdg, hl, ht⟩ := pg_ok hF.1 hq
  obtain rfl : 3 = n := hl.resolve_left (fun q => absurd q (by decide : ¬ (3 : Nat) = 0))
  have ht2 : (pc : Int) + off = (tgt pc off : Int) := of_decide_eq_true ht
  rcases st with _ | ⟨x | x | x, r⟩
  · exact trivial
  · cases q
    · exact ⟨⟨⟨rfl, rfl, rfl⟩, rfl⟩, fun z hz => (by cases hz; exact ⟨⟨rfl, rfl, rfl⟩, rfl⟩), fun hb g => g_if_eq hF ht2 hdg (fun _ => g) (fun q => absurd (of_decide_eq_true hb) q), fun hb z hz g => (by cases hz; exact g_if_eq hF ht2 hdg (fun q => absurd q (of_decide_eq_false hb)) (fun _ => g))⟩
    · exact ⟨⟨⟨rfl, rfl, rfl⟩, rfl⟩, fun z hz => (by cases hz; exact ⟨⟨rfl, rfl, rfl⟩, rfl⟩), fun hb g => g_if_ne hF ht2 hdg (fun q => absurd (of_decide_eq_true hb) q) (fun _ => g), fun hb z hz g => (by cases hz; exact g_if_ne hF ht2 hdg (fun _ => g) (fun q => absurd q (of_decide_eq_false hb)))⟩
    · exact ⟨⟨⟨rfl, rfl, rfl⟩, rfl⟩, fun z hz => (by cases hz; exact ⟨⟨rfl, rfl, rfl⟩, rfl⟩), fun hb g => g_if_lt hF ht2 hdg (fun _ => g) (fun q => absurd (of_decide_eq_true hb) q), fun hb z hz g => (by cases hz; exact g_if_lt hF ht2 hdg (fun q => absurd q (of_decide_eq_false hb)) (fun _ => g))⟩
    · exact ⟨⟨⟨rfl, rfl, rfl⟩, rfl⟩, fun z hz => (by cases hz; exact ⟨⟨rfl, rfl, rfl⟩, rfl⟩), fun hb g => g_if_ge hF ht2 hdg (fun q => absurd (of_decide_eq_true hb) q) (fun _ => g), fun hb z hz g => (by cases hz; exact g_if_ge hF ht2 hdg (fun _ => g) (fun q => absurd q (of_decide_eq_false hb)))⟩
    · exact ⟨⟨⟨rfl, rfl, rfl⟩, rfl⟩, fun z hz => (by cases hz; exact ⟨⟨rfl, rfl, rfl⟩, rfl⟩), fun hb g => g_if_gt hF ht2 hdg (fun _ => g) (fun q => absurd (of_decide_eq_true hb) q), fun hb z hz g => (by cases hz; exact g_if_gt hF ht2 hdg (fun q => absurd q (of_decide_eq_false hb)) (fun _ => g))⟩
    · exact ⟨⟨⟨rfl, rfl, rfl⟩, rfl⟩, fun z hz => (by cases hz; exact ⟨⟨rfl, rfl, rfl⟩, rfl⟩), fun hb g => g_if_le hF ht2 hdg (fun q => absurd (of_decide_eq_true hb) q) (fun _ => g), fun hb z hz g => (by cases hz; exact g_if_le hF ht2 hdg (fun _ => g) (fun q => absurd q (of_decide_eq_false hb)))⟩
  · exact trivial
  · exact trivial
theorem sd_icmp {q : ClassFile.Cond} {off : Int} (hF : FR D bs sa sc p R s m meth cc M d c i n0 s0 o) (hq : alk M.2.2.2.2 pc = some (.if_icmp q off, n)) : SD l D bs sa sc p e R s m args below meth cc Q M hh ad0 n0 s0 o d c i pc ls st h (act1 M d c i pc n ls st h (.if_icmp q off)) := by
  obtain ⟨hdg, hl, ht⟩ := pg_ok hF.1 hq
  obtain rfl : 3 = n := hl.resolve_left (fun q => absurd q (by decide : ¬ (3 : Nat) = 0))
  have ht2 : (pc : Int) + off = (tgt pc off : Int) := of_decide_eq_true ht
  rcases st with _ | ⟨y | y | y, _ | ⟨x | x | x, r⟩⟩
  · exact trivial
  · exact trivial
  · cases q
    · exact ⟨⟨⟨rfl, rfl, rfl⟩, rfl⟩, fun z hz => (by cases hz; exact ⟨⟨rfl, rfl, rfl⟩, rfl⟩), fun hb g => g_icmp_eq hF ht2 hdg (fun _ => g) (fun q => absurd (of_decide_eq_true hb) q), fun hb z hz g => (by cases hz; exact g_icmp_eq hF ht2 hdg (fun q => absurd q (of_decide_eq_false hb)) (fun _ => g))⟩
    · exact ⟨⟨⟨rfl, rfl, rfl⟩, rfl⟩, fun z hz => (by cases hz; exact ⟨⟨rfl, rfl, rfl⟩, rfl⟩), fun hb g => g_icmp_ne hF ht2 hdg (fun q => absurd (of_decide_eq_true hb) q) (fun _ => g), fun hb z hz g => (by cases hz; exact g_icmp_ne hF ht2 hdg (fun _ => g) (fun q => absurd q (of_decide_eq_false hb)))⟩
    · exact ⟨⟨⟨rfl, rfl, rfl⟩, rfl⟩, fun z hz => (by cases hz; exact ⟨⟨rfl, rfl, rfl⟩, rfl⟩), fun hb g => g_icmp_lt hF ht2 hdg (fun _ => g) (fun q => absurd (of_decide_eq_true hb) q), fun hb z hz g => (by cases hz; exact g_icmp_lt hF ht2 hdg (fun q => absurd q (of_decide_eq_false hb)) (fun _ => g))⟩
    · exact ⟨⟨⟨rfl, rfl, rfl⟩, rfl⟩, fun z hz => (by cases hz; exact ⟨⟨rfl, rfl, rfl⟩, rfl⟩), fun hb g => g_icmp_ge hF ht2 hdg (fun q => absurd (of_decide_eq_true hb) q) (fun _ => g), fun hb z hz g => (by cases hz; exact g_icmp_ge hF ht2 hdg (fun _ => g) (fun q => absurd q (of_decide_eq_false hb)))⟩
    · exact ⟨⟨⟨rfl, rfl, rfl⟩, rfl⟩, fun z hz => (by cases hz; exact ⟨⟨rfl, rfl, rfl⟩, rfl⟩), fun hb g => g_icmp_gt hF ht2 hdg (fun _ => g) (fun q => absurd (of_decide_eq_true hb) q), fun hb z hz g => (by cases hz; exact g_icmp_gt hF ht2 hdg (fun q => absurd q (of_decide_eq_false hb)) (fun _ => g))⟩
    · exact ⟨⟨⟨rfl, rfl, rfl⟩, rfl⟩, fun z hz => (by cases hz; exact ⟨⟨rfl, rfl, rfl⟩, rfl⟩), fun hb g => g_icmp_le hF ht2 hdg (fun q => absurd (of_decide_eq_true hb) q) (fun _ => g), fun hb z hz g => (by cases hz; exact g_icmp_le hF ht2 hdg (fun _ => g) (fun q => absurd q (of_decide_eq_false hb)))⟩
  · exact trivial
  · exact trivial
  · exact trivial
  · exact trivial
  · exact trivial
  · exact trivial
  · exact trivial
  · exact trivial
  · exact trivial
  · exact trivial
theorem sd_ifnull {off : Int} (hF : FR D bs sa sc p R s m meth cc M d c i n0 s0 o) (hq : alk M.2.2.2.2 pc = some (.ifnull off, n)) : SD l D bs sa sc p e R s m args below meth cc Q M hh ad0 n0 s0 o d c i pc ls st h (act1 M d c i pc n ls st h (.ifnull off)) := by
  obtain ⟨hdg, hl, ht⟩ := pg_ok hF.1 hq
  obtain rfl : 3 = n := hl.resolve_left (fun q => absurd q (by decide : ¬ (3 : Nat) = 0))
  have ht : (pc : Int) + off = (tgt pc off : Int) := of_decide_eq_true ht
  rcases st with _ | ⟨x | x | (_ | x), r⟩
  · exact trivial
  · exact trivial
  · exact trivial
  · exact ⟨⟨rfl, rfl, rfl⟩, Nat.le_refl _, fun _ g => g_ifnull0 hF ht hdg g⟩
  · exact ⟨⟨rfl, rfl, rfl⟩, Nat.le_refl _, fun _ g => g_ifnull1 hF hdg g⟩
theorem sd_ts {dflt lo hi : Int} {offs : Array Int} (hF : FR D bs sa sc p R s m meth cc M d c i n0 s0 o) (hq : alk M.2.2.2.2 pc = some (.tableswitch dflt lo hi offs, n)) : SD l D bs sa sc p e R s m args below meth cc Q M hh ad0 n0 s0 o d c i pc ls st h (act1 M d c i pc n ls st h (.tableswitch dflt lo hi offs)) := by
  obtain ⟨hdg, hl, ht⟩ := pg_ok hF.1 hq
  simp only [tok, Bool.and_eq_true, decide_eq_true_eq] at ht
  obtain ⟨⟨t1, t2⟩, t3⟩ := ht
  rcases st with _ | ⟨x | x | x, r⟩
  · exact trivial
  · refine ⟨⟨⟨rfl, rfl, rfl⟩, rfl⟩, fun z hz => (by cases hz; exact ⟨⟨rfl, rfl, rfl⟩, rfl⟩), fun hb g => ?_, fun hb z hz g => ?_⟩
    · simp only [Bool.or_eq_true, decide_eq_true_eq] at hb
      exact g_tsOut hF hb t1 hdg g
    · cases hz
      simp only [Bool.or_eq_false_iff, decide_eq_false_iff_not] at hb
      have hlt : (x.toInt - lo).toNat < offs.toList.length := by
        rw [Array.length_toList]
        omega
      have ho := lkp_get (0 : Int) hlt
      rw [Array.getElem?_toList] at ho
      exact g_tsIn hF hb.1 hb.2 ho (of_decide_eq_true (List.all_eq_true.mp t3 _ (List.mem_of_getElem? (lkp_get (0 : Int) hlt)))) hdg g
  · exact trivial
  · exact trivial
theorem sd_getf {k : Nat} (hF : FR D bs sa sc p R s m meth cc M d c i n0 s0 o) (hq : alk M.2.2.2.2 pc = some (.getfield k, n)) : SD l D bs sa sc p e R s m args below meth cc Q M hh ad0 n0 s0 o d c i pc ls st h (act1 M d c i pc n ls st h (.getfield k)) := by
  obtain ⟨hdg, hl, ht⟩ := pg_ok hF.1 hq
  obtain rfl : 3 = n := hl.resolve_left (fun q => absurd q (by decide : ¬ (3 : Nat) = 0))
  rcases st with _ | ⟨x | x | (_ | a), r⟩
  · exact trivial
  · exact trivial
  · exact trivial
  · exact trivial
  · show SD l D bs sa sc p e R s m args below meth cc Q M hh ad0 n0 s0 o _ c i pc ls _ h (match alk (lkp [] sd_ft c) k with | some (ci, f, _) => _ | none => _)
    cases hk : alk (lkp [] sd_ft c) k with
    | none => exact trivial
    | some v =>
      obtain ⟨ci, f, b⟩ := v
      show SD l D bs sa sc p e R s m args below meth cc Q M hh ad0 n0 s0 o _ c i pc ls _ h (bif Nat.beq (shp a.1 a.2).1 0 && Nat.beq (shp a.1 a.2).2 ci then _ else _)
      cases hb : Nat.beq (shp a.1 a.2).1 0 && Nat.beq (shp a.1 a.2).2 ci with
      | false => exact trivial
      | true =>
        have h2 := Bool.and_eq_true _ _ ▸ hb
        exact ⟨⟨rfl, rfl, rfl⟩, Nat.le_refl _, fun _ g => g_getf hF hk (Nat.eq_of_beq_eq_true h2.1) (Nat.eq_of_beq_eq_true h2.2) hdg g⟩
theorem put_fin {k ci f : Nat} {b : Bool} (hF : FR D bs sa sc p R s m meth cc M d c i n0 s0 o) (hk : alk (lkp [] sd_ft c) k = some (ci, f, b)) (hb : (!(ffd ci f) || (Nat.beq c ci && Nat.beq i 0)) = true) : (ffd ci f = false ∨ (c = ci ∧ i = 0)) ∧ (ffd ci f = true → M.1.name = "<init>" ∧ b = false) := by
  have h1 : ffd ci f = false ∨ (c = ci ∧ i = 0) := by
    simp only [Bool.or_eq_true, Bool.not_eq_true', Bool.and_eq_true] at hb
    exact hb.imp id (fun q => ⟨Nat.eq_of_beq_eq_true q.1, Nat.eq_of_beq_eq_true q.2⟩)
  refine ⟨h1, fun hq => ?_⟩
  rw [hq] at h1
  obtain ⟨rfl, rfl⟩ := h1.resolve_left (by decide)
  have hc := (ckF c _ (alk_mem hk)).2.1
  have h3 := tabB (f := fun c q => !(Nat.beq c q.2.1) || !q.2.2.2) rfl ck_fin c _ (alk_mem hk)
  simp only [Nat.beq_refl, Bool.not_true, Bool.false_or, Bool.not_eq_true'] at h3
  exact ⟨ini_name c hc M hF.1, h3⟩
theorem sd_putf {k : Nat} (hF : FR D bs sa sc p R s m meth cc M d c i n0 s0 o) (hq : alk M.2.2.2.2 pc = some (.putfield k, n)) : SD l D bs sa sc p e R s m args below meth cc Q M hh ad0 n0 s0 o d c i pc ls st h (act1 M d c i pc n ls st h (.putfield k)) := by
  obtain ⟨hdg, hl, ht⟩ := pg_ok hF.1 hq
  obtain rfl : 3 = n := hl.resolve_left (fun q => absurd q (by decide : ¬ (3 : Nat) = 0))
  show SD l D bs sa sc p e R s m args below meth cc Q M hh ad0 n0 s0 o _ c i pc ls _ h (match alk (lkp [] sd_ft c) k with | some (ci, f, _) => _ | none => _)
  cases hk : alk (lkp [] sd_ft c) k with
  | none => exact trivial
  | some v =>
    obtain ⟨ci, f, b⟩ := v
    rcases st with _ | ⟨x | x | (_ | x), _ | ⟨y | y | (_ | a), r⟩⟩
    · exact trivial
    · exact trivial
    · exact trivial
    · exact trivial
    · exact trivial
    · show SD l D bs sa sc p e R s m args below meth cc Q M hh ad0 n0 s0 o _ c i pc ls _ h (bif Nat.beq (shp a.1 a.2).1 0 && Nat.beq (shp a.1 a.2).2 ci && (!(ffd ci f) || (Nat.beq c ci && Nat.beq i 0)) then _ else _)
      cases hb : Nat.beq (shp a.1 a.2).1 0 && Nat.beq (shp a.1 a.2).2 ci && (!(ffd ci f) || (Nat.beq c ci && Nat.beq i 0)) with
      | false => exact trivial
      | true =>
        have h2 := Bool.and_eq_true _ _ ▸ hb
        have h3 := Bool.and_eq_true _ _ ▸ h2.1
        obtain ⟨p1, p2⟩ := put_fin hF hk h2.2
        show SD l D bs sa sc p e R s m args below meth cc Q M hh ad0 n0 s0 o _ c i pc ls _ h (bif Nat.beq (fkd ci f) 0 then _ else bif Nat.beq (fkd ci f) 1 then _ else _)
        cases hz : Nat.beq (fkd ci f) 0 with
        | true => exact ⟨⟨rfl, rfl, rfl⟩, Nat.le_refl _, fun _ g => g_putI hF hk (Nat.eq_of_beq_eq_true h3.1) (Nat.eq_of_beq_eq_true h3.2) p1 (Or.inl (Nat.eq_of_beq_eq_true hz)) p2 hdg g⟩
        | false =>
          show SD l D bs sa sc p e R s m args below meth cc Q M hh ad0 n0 s0 o _ c i pc ls _ h (bif Nat.beq (fkd ci f) 1 then _ else _)
          cases hy : Nat.beq (fkd ci f) 1 with
          | false => exact trivial
          | true =>
            refine ⟨⟨⟨rfl, rfl, rfl⟩, rfl⟩, fun z hz => (by cases hz), fun hb g => ?_, fun _ z hz => (by cases hz)⟩
            simp only [Bool.or_eq_true, decide_eq_true_eq] at hb
            exact g_putI hF hk (Nat.eq_of_beq_eq_true h3.1) (Nat.eq_of_beq_eq_true h3.2) p1 (Or.inr ⟨Nat.eq_of_beq_eq_true hy, hb⟩) p2 hdg g
    · exact trivial
    · exact trivial
    · exact trivial
    · exact trivial
    · exact trivial
    · exact trivial
    · exact trivial
    · exact trivial
    · exact trivial
    · exact trivial
    · exact trivial
    · exact trivial
    · exact trivial
    · exact trivial
    · show SD l D bs sa sc p e R s m args below meth cc Q M hh ad0 n0 s0 o _ c i pc ls _ h (bif Nat.beq (shp a.1 a.2).1 0 && Nat.beq (shp a.1 a.2).2 ci && (!(ffd ci f) || (Nat.beq c ci && Nat.beq i 0)) && Nat.beq (fkd ci f) 2 && !(Nat.beq (shp x.1 x.2).1 9) then _ else _)
      cases hb : Nat.beq (shp a.1 a.2).1 0 && Nat.beq (shp a.1 a.2).2 ci && (!(ffd ci f) || (Nat.beq c ci && Nat.beq i 0)) && Nat.beq (fkd ci f) 2 && !(Nat.beq (shp x.1 x.2).1 9) with
      | false => exact trivial
      | true =>
        have h5 := Bool.and_eq_true _ _ ▸ hb
        have h4 := Bool.and_eq_true _ _ ▸ h5.1
        have h2 := Bool.and_eq_true _ _ ▸ h4.1
        have h3 := Bool.and_eq_true _ _ ▸ h2.1
        obtain ⟨p1, p2⟩ := put_fin hF hk h2.2
        have hz9 : (shp x.1 x.2).1 ≠ 9 := fun q => by
          have h6 := h5.2
          rw [q] at h6
          cases h6
        exact ⟨⟨rfl, rfl, rfl⟩, Nat.le_refl _, fun _ g => g_putR hF hk (Nat.eq_of_beq_eq_true h3.1) (Nat.eq_of_beq_eq_true h3.2) p1 (Nat.eq_of_beq_eq_true h4.2) hz9 p2 hdg g⟩
theorem sd_gets {k : Nat} (hF : FR D bs sa sc p R s m meth cc M d c i n0 s0 o) (hq : alk M.2.2.2.2 pc = some (.getstatic k, n)) : SD l D bs sa sc p e R s m args below meth cc Q M hh ad0 n0 s0 o d c i pc ls st h (act1 M d c i pc n ls st h (.getstatic k)) := by
  obtain ⟨hdg, hl, ht⟩ := pg_ok hF.1 hq
  obtain rfl : 3 = n := hl.resolve_left (fun q => absurd q (by decide : ¬ (3 : Nat) = 0))
  show SD l D bs sa sc p e R s m args below meth cc Q M hh ad0 n0 s0 o _ c i pc ls _ h (match alk (lkp [] sd_st c) k with | some j => _ | none => _)
  cases hk : alk (lkp [] sd_st c) k with
  | none => exact trivial
  | some v => exact ⟨⟨rfl, rfl, rfl⟩, Nat.le_refl _, fun _ g => g_gets hF hk hdg g⟩
theorem sd_alen (hF : FR D bs sa sc p R s m meth cc M d c i n0 s0 o) (hq : alk M.2.2.2.2 pc = some (.arraylength, n)) : SD l D bs sa sc p e R s m args below meth cc Q M hh ad0 n0 s0 o d c i pc ls st h (act1 M d c i pc n ls st h (.arraylength)) := by
  obtain ⟨hdg, hl, ht⟩ := pg_ok hF.1 hq
  obtain rfl : 1 = n := hl.resolve_left (fun q => absurd q (by decide : ¬ (1 : Nat) = 0))
  rcases st with _ | ⟨x | x | (_ | a), r⟩
  · exact trivial
  · exact trivial
  · exact trivial
  · exact trivial
  · show SD l D bs sa sc p e R s m args below meth cc Q M hh ad0 n0 s0 o _ c i pc ls _ h (match lenOf h a with | some m => _ | none => _)
    cases hk : lenOf h a with
    | none => exact trivial
    | some v => exact ⟨⟨rfl, rfl, rfl⟩, Nat.le_refl _, fun _ g => g_alen hF hk hdg g⟩
theorem sd_iald (hF : FR D bs sa sc p R s m meth cc M d c i n0 s0 o) (hq : alk M.2.2.2.2 pc = some (.iaload, n)) : SD l D bs sa sc p e R s m args below meth cc Q M hh ad0 n0 s0 o d c i pc ls st h (act1 M d c i pc n ls st h (.iaload)) := by
  obtain ⟨hdg, hl, ht⟩ := pg_ok hF.1 hq
  obtain rfl : 1 = n := hl.resolve_left (fun q => absurd q (by decide : ¬ (1 : Nat) = 0))
  rcases st with _ | ⟨x | x | (_ | x), _ | ⟨y | y | (_ | a), r⟩⟩
  · exact trivial
  · exact trivial
  · exact trivial
  · exact trivial
  · exact trivial
  · show SD l D bs sa sc p e R s m args below meth cc Q M hh ad0 n0 s0 o _ c i pc ls _ h (match rowOf h a with | some (m, f) => _ | none => _)
    cases hk : rowOf h a with
    | none => exact trivial
    | some v => exact ⟨⟨⟨rfl, rfl, rfl⟩, rfl⟩, fun z hz => (by cases hz), fun hb g => g_iald hF hk (inb_in hb) hdg g, fun _ z hz => (by cases hz)⟩
  · exact trivial
  · exact trivial
  · exact trivial
  · exact trivial
  · exact trivial
  · exact trivial
  · exact trivial
  · exact trivial
  · exact trivial
  · exact trivial
  · exact trivial
  · exact trivial
  · exact trivial
  · exact trivial
  · exact trivial
theorem sd_aald (hF : FR D bs sa sc p R s m meth cc M d c i n0 s0 o) (hq : alk M.2.2.2.2 pc = some (.aaload, n)) : SD l D bs sa sc p e R s m args below meth cc Q M hh ad0 n0 s0 o d c i pc ls st h (act1 M d c i pc n ls st h (.aaload)) := by
  obtain ⟨hdg, hl, ht⟩ := pg_ok hF.1 hq
  obtain rfl : 1 = n := hl.resolve_left (fun q => absurd q (by decide : ¬ (1 : Nat) = 0))
  rcases st with _ | ⟨x | x | (_ | x), _ | ⟨y | y | (_ | a), r⟩⟩
  · exact trivial
  · exact trivial
  · exact trivial
  · exact trivial
  · exact trivial
  · show SD l D bs sa sc p e R s m args below meth cc Q M hh ad0 n0 s0 o _ c i pc ls _ h (bif Nat.beq (shp a.1 a.2).1 2 || Nat.beq (shp a.1 a.2).1 3 then _ else _)
    cases hk : Nat.beq (shp a.1 a.2).1 2 || Nat.beq (shp a.1 a.2).1 3 with
    | false => exact trivial
    | true =>
      have h2 := (Bool.or_eq_true _ _ ▸ hk).imp Nat.eq_of_beq_eq_true Nat.eq_of_beq_eq_true
      exact ⟨⟨⟨rfl, rfl, rfl⟩, rfl⟩, fun z hz => (by cases hz), fun hb g => g_aald hF h2 (inb_in hb) hdg g, fun _ z hz => (by cases hz)⟩
  · exact trivial
  · exact trivial
  · exact trivial
  · exact trivial
  · exact trivial
  · exact trivial
  · exact trivial
  · exact trivial
  · exact trivial
  · exact trivial
  · exact trivial
  · exact trivial
  · exact trivial
  · exact trivial
  · exact trivial
theorem sd_iast (hF : FR D bs sa sc p R s m meth cc M d c i n0 s0 o) (hq : alk M.2.2.2.2 pc = some (.iastore, n)) : SD l D bs sa sc p e R s m args below meth cc Q M hh ad0 n0 s0 o d c i pc ls st h (act1 M d c i pc n ls st h .iastore) := by
  obtain ⟨hdg, hl, ht⟩ := pg_ok hF.1 hq
  obtain rfl : 1 = n := hl.resolve_left (fun q => absurd q (by decide : ¬ (1 : Nat) = 0))
  by_cases hs : ∃ v x a r, st = .inl v :: .inl x :: .inr (.inr (some a)) :: r
  · obtain ⟨v, x, a, r, rfl⟩ := hs
    show SD l D bs sa sc p e R s m args below meth cc Q M hh ad0 n0 s0 o _ c i pc ls _ h (bif Nat.beq (shp a.1 a.2).1 1 then _ else _)
    cases hk : Nat.beq (shp a.1 a.2).1 1 with
    | false => exact trivial
    | true => exact ⟨⟨⟨rfl, rfl, rfl⟩, rfl⟩, fun z hz => (by cases hz), fun hb g => g_iast hF (Nat.eq_of_beq_eq_true hk) (inb_in hb) hdg g, fun _ z hz => (by cases hz)⟩
  · rcases st with _ | ⟨v | v | v, _ | ⟨x | x | x, _ | ⟨y | y | (_ | a), r⟩⟩⟩ <;> first | exact trivial | exact absurd ⟨_, _, _, _, rfl⟩ hs
theorem sd_aast (hF : FR D bs sa sc p R s m meth cc M d c i n0 s0 o) (hq : alk M.2.2.2.2 pc = some (.aastore, n)) : SD l D bs sa sc p e R s m args below meth cc Q M hh ad0 n0 s0 o d c i pc ls st h (act1 M d c i pc n ls st h .aastore) := by
  obtain ⟨hdg, hl, ht⟩ := pg_ok hF.1 hq
  obtain rfl : 1 = n := hl.resolve_left (fun q => absurd q (by decide : ¬ (1 : Nat) = 0))
  by_cases hs : ∃ v x a r, st = .inr (.inr v) :: .inl x :: .inr (.inr (some a)) :: r
  · obtain ⟨v, x, a, r, rfl⟩ := hs
    cases v with
    | none =>
      show SD l D bs sa sc p e R s m args below meth cc Q M hh ad0 n0 s0 o _ c i pc ls _ h (bif Nat.beq (shp a.1 a.2).1 2 || Nat.beq (shp a.1 a.2).1 3 then _ else _)
      cases hk : Nat.beq (shp a.1 a.2).1 2 || Nat.beq (shp a.1 a.2).1 3 with
      | false => exact trivial
      | true =>
        have h2 := (Bool.or_eq_true _ _ ▸ hk).imp Nat.eq_of_beq_eq_true Nat.eq_of_beq_eq_true
        exact ⟨⟨⟨rfl, rfl, rfl⟩, rfl⟩, fun z hz => (by cases hz), fun hb g => g_aastN hF h2 (inb_in hb) hdg g, fun _ z hz => (by cases hz)⟩
    | some b =>
      show SD l D bs sa sc p e R s m args below meth cc Q M hh ad0 n0 s0 o _ c i pc ls _ h (bif Nat.beq (shp b.1 b.2).1 0 && ((Nat.beq (shp a.1 a.2).1 2 && Nat.beq (shp b.1 b.2).2 5) || (Nat.beq (shp a.1 a.2).1 3 && Nat.beq (shp b.1 b.2).2 1)) then _ else _)
      cases hk : Nat.beq (shp b.1 b.2).1 0 && ((Nat.beq (shp a.1 a.2).1 2 && Nat.beq (shp b.1 b.2).2 5) || (Nat.beq (shp a.1 a.2).1 3 && Nat.beq (shp b.1 b.2).2 1)) with
      | false => exact trivial
      | true =>
        simp only [Bool.and_eq_true, Bool.or_eq_true] at hk
        have h2 := hk.2.imp (fun q => And.intro (Nat.eq_of_beq_eq_true q.1) (Nat.eq_of_beq_eq_true q.2)) (fun q => And.intro (Nat.eq_of_beq_eq_true q.1) (Nat.eq_of_beq_eq_true q.2))
        exact ⟨⟨⟨rfl, rfl, rfl⟩, rfl⟩, fun z hz => (by cases hz), fun hb g => g_aastR hF (Nat.eq_of_beq_eq_true hk.1) h2 (inb_in hb) hdg g, fun _ z hz => (by cases hz)⟩
  · rcases st with _ | ⟨v | v | (_ | v), _ | ⟨x | x | x, _ | ⟨y | y | (_ | a), r⟩⟩⟩ <;> first | exact trivial | exact absurd ⟨_, _, _, _, rfl⟩ hs
theorem newc_le (hs : (shp (alo h).1 (alo h).2).1 ≠ 9) : lin (alo h) ≤ lin (alo (newc h)) := by
  rw [show alo (newc h) = nxt (alo h) from rfl, (nxt_ok (shp_ok hs)).2]
  omega
theorem sd_newa {t : ArrayType} (hF : FR D bs sa sc p R s m meth cc M d c i n0 s0 o) (hq : alk M.2.2.2.2 pc = some (.newarray t, n)) : SD l D bs sa sc p e R s m args below meth cc Q M hh ad0 n0 s0 o d c i pc ls st h (act1 M d c i pc n ls st h (.newarray t)) := by
  obtain ⟨hdg, hl, ht⟩ := pg_ok hF.1 hq
  obtain rfl : 2 = n := hl.resolve_left (fun q => absurd q (by decide : ¬ (2 : Nat) = 0))
  by_cases hs : t = .int ∧ ∃ x r, st = .inl x :: r
  · obtain ⟨rfl, x, r, rfl⟩ := hs
    show SD l D bs sa sc p e R s m args below meth cc Q M hh ad0 n0 s0 o _ c i pc ls _ h (bif Nat.beq (shp (alo h).1 (alo h).2).1 1 && decide (x = Int32.ofNat (shp (alo h).1 (alo h).2).2) then _ else _)
    cases hk : Nat.beq (shp (alo h).1 (alo h).2).1 1 && decide (x = Int32.ofNat (shp (alo h).1 (alo h).2).2) with
    | false => exact trivial
    | true =>
      simp only [Bool.and_eq_true, decide_eq_true_eq] at hk
      have h1 := Nat.eq_of_beq_eq_true hk.1
      exact ⟨⟨rfl, rfl, rfl⟩, newc_le (by rw [h1]; decide), fun hm g => g_newa hF h1 hk.2 hm hdg g⟩
  · cases t <;> rcases st with _ | ⟨x | x | x, r⟩ <;> first | exact trivial | exact absurd ⟨rfl, _, _, rfl⟩ hs
theorem sd_anewa {k : Nat} (hF : FR D bs sa sc p R s m meth cc M d c i n0 s0 o) (hq : alk M.2.2.2.2 pc = some (.anewarray k, n)) : SD l D bs sa sc p e R s m args below meth cc Q M hh ad0 n0 s0 o d c i pc ls st h (act1 M d c i pc n ls st h (.anewarray k)) := by
  obtain ⟨hdg, hl, ht⟩ := pg_ok hF.1 hq
  obtain rfl : 3 = n := hl.resolve_left (fun q => absurd q (by decide : ¬ (3 : Nat) = 0))
  rcases st with _ | ⟨x | x | x, r⟩
  · exact trivial
  · show SD l D bs sa sc p e R s m args below meth cc Q M hh ad0 n0 s0 o _ c i pc ls _ h (match alk (lkp [] sd_nt c) k with | some ci => _ | none => _)
    cases hk : alk (lkp [] sd_nt c) k with
    | none => exact trivial
    | some ci =>
      show SD l D bs sa sc p e R s m args below meth cc Q M hh ad0 n0 s0 o _ c i pc ls _ h (bif ((Nat.beq (shp (alo h).1 (alo h).2).1 2 && Nat.beq ci 5) || (Nat.beq (shp (alo h).1 (alo h).2).1 3 && Nat.beq ci 1)) && decide (x = Int32.ofNat (shp (alo h).1 (alo h).2).2) then _ else _)
      cases hb : ((Nat.beq (shp (alo h).1 (alo h).2).1 2 && Nat.beq ci 5) || (Nat.beq (shp (alo h).1 (alo h).2).1 3 && Nat.beq ci 1)) && decide (x = Int32.ofNat (shp (alo h).1 (alo h).2).2) with
      | false => exact trivial
      | true =>
        simp only [Bool.and_eq_true, Bool.or_eq_true, decide_eq_true_eq] at hb
        have h2 := hb.1.imp (fun q => And.intro (Nat.eq_of_beq_eq_true q.1) (Nat.eq_of_beq_eq_true q.2)) (fun q => And.intro (Nat.eq_of_beq_eq_true q.1) (Nat.eq_of_beq_eq_true q.2))
        exact ⟨⟨rfl, rfl, rfl⟩, newc_le (by rcases h2 with q | q <;> rw [q.1] <;> decide), fun hm g => g_anewa hF hk h2 hb.2 hm hdg g⟩
  · exact trivial
  · exact trivial
theorem sd_new {k : Nat} (hF : FR D bs sa sc p R s m meth cc M d c i n0 s0 o) (hq : alk M.2.2.2.2 pc = some (.new k, n)) : SD l D bs sa sc p e R s m args below meth cc Q M hh ad0 n0 s0 o d c i pc ls st h (act1 M d c i pc n ls st h (.new k)) := by
  obtain ⟨hdg, hl, ht⟩ := pg_ok hF.1 hq
  obtain rfl : 3 = n := hl.resolve_left (fun q => absurd q (by decide : ¬ (3 : Nat) = 0))
  show SD l D bs sa sc p e R s m args below meth cc Q M hh ad0 n0 s0 o _ c i pc ls _ h (match alk (lkp [] sd_nt c) k with | some ci => _ | none => _)
  cases hk : alk (lkp [] sd_nt c) k with
  | none => exact trivial
  | some ci =>
    show SD l D bs sa sc p e R s m args below meth cc Q M hh ad0 n0 s0 o _ c i pc ls _ h (bif Nat.beq (shp (alo h).1 (alo h).2).1 0 && Nat.beq (shp (alo h).1 (alo h).2).2 ci then _ else _)
    cases hb : Nat.beq (shp (alo h).1 (alo h).2).1 0 && Nat.beq (shp (alo h).1 (alo h).2).2 ci with
    | false => exact trivial
    | true =>
      have h2 := Bool.and_eq_true _ _ ▸ hb
      have h1 := Nat.eq_of_beq_eq_true h2.1
      exact ⟨⟨rfl, rfl, rfl⟩, newc_le (by rw [h1]; decide), fun hm g => g_new hF hk h1 (Nat.eq_of_beq_eq_true h2.2) hm hdg g⟩
theorem chkC_1 {k t c' i' n : Nat} (hk : chkC c (k, t, c', i', n)) (h6 : t ≠ 6) (h7 : t ≠ 7) {M' : MD} (hM : md c' i' = some M') : chkC1 c k t c' n M' := by
  unfold chkC at hk
  split at hk
  · rename_i q; exact absurd q h6
  · rename_i q; exact absurd q h7
  · obtain ⟨M2, h1, h2⟩ := hk
    have : M2 = M' := Option.some.inj (h1.symm.trans hM)
    subst this
    exact h2
theorem sd_istat {k : Nat} (hF : FR D bs sa sc p R s m meth cc M d c i n0 s0 o) (hq : alk M.2.2.2.2 pc = some (.invokestatic k, n)) : SD l D bs sa sc p e R s m args below meth cc Q M hh ad0 n0 s0 o d c i pc ls st h (act1 M d c i pc n ls st h (.invokestatic k)) := by
  obtain ⟨hdg, hl, ht⟩ := pg_ok hF.1 hq
  obtain rfl : 3 = n := hl.resolve_left (fun q => absurd q (by decide : ¬ (3 : Nat) = 0))
  cases hk : alk (lkp [] sd_ct c) k with
  | none => simp only [act1, hk]; exact trivial
  | some v =>
    obtain ⟨t, c', i', n⟩ := v
    have hkc := ckC c _ (alk_mem hk)
    cases d with
    | zero => simp only [act1, hk]; exact trivial
    | succ d' =>
      cases hM : md c' i' with
      | none => simp only [act1, hk, hM]; exact trivial
      | some M' =>
        simp only [act1, hk, hM]
        cases hb : (Nat.beq t 0 || Nat.beq t 3) && Nat.ble n st.length && Nat.ble (catS (st.drop n)) 8 && Nat.ble (eSl (st.take n).reverse).length M'.2.2.1 with
        | true =>
          have hb' := hb
          simp only [Bool.and_eq_true, Bool.or_eq_true] at hb'
          obtain ⟨⟨⟨b1, b2⟩, b3⟩, b4⟩ := hb'
          have ht0 : t = 0 ∨ t = 3 := b1.imp Nat.eq_of_beq_eq_true Nat.eq_of_beq_eq_true
          exact ⟨d', c', i', M', (st.take n).reverse, rfl, hM, Nat.le_of_ble_eq_true b4, rfl, fun o1 => ⟨⟨rfl, rfl, rfl⟩, rfl⟩, fun o1 hcm hm g => g_static hF hM (chkC_1 hkc (by omega) (by omega) hM) ht0 (Nat.le_of_ble_eq_true b2) (Nat.le_of_ble_eq_true b3) hcm hm hdg g⟩
        | false =>
          simp only [cond_false]
          cases h7 : Nat.beq t 7 with
          | false => exact trivial
          | true =>
            have h7 := Nat.eq_of_beq_eq_true h7
            subst h7
            simp only [cond_true]
            split
            · rename_i m1 dp b sp a r
              cases hb2 : Nat.beq (shp a.1 a.2).1 1 && Nat.beq (shp b.1 b.2).1 1 && Nat.ble (catS r) 8 with
              | false => exact trivial
              | true =>
                simp only [Bool.and_eq_true] at hb2
                refine ⟨⟨⟨rfl, rfl, rfl⟩, rfl⟩, fun z hz => (by cases hz), fun hb g => ?_, fun _ z hz => (by cases hz)⟩
                simp only [Bool.and_eq_true, Bool.not_eq_true', decide_eq_false_iff_not, decide_eq_true_eq] at hb
                exact g_copy hF (by omega) hkc (Nat.le_of_ble_eq_true hb2.2) (Nat.eq_of_beq_eq_true hb2.1.1) (Nat.eq_of_beq_eq_true hb2.1.2) hb.1.1.1.1 hb.1.1.1.2 hb.1.1.2 hb.1.2 hb.2 hdg g
            · exact trivial
theorem sd_ivirt {k : Nat} (hF : FR D bs sa sc p R s m meth cc M d c i n0 s0 o) (hq : alk M.2.2.2.2 pc = some (.invokevirtual k, n)) : SD l D bs sa sc p e R s m args below meth cc Q M hh ad0 n0 s0 o d c i pc ls st h (act1 M d c i pc n ls st h (.invokevirtual k)) := by
  obtain ⟨hdg, hl, ht⟩ := pg_ok hF.1 hq
  obtain rfl : 3 = n := hl.resolve_left (fun q => absurd q (by decide : ¬ (3 : Nat) = 0))
  cases hk : alk (lkp [] sd_ct c) k with
  | none => simp only [act1, hk]; exact trivial
  | some v =>
    obtain ⟨t, c', i', n⟩ := v
    have hkc := ckC c _ (alk_mem hk)
    cases d with
    | zero => simp only [act1, hk]; exact trivial
    | succ d' =>
      cases hM : md c' i' with
      | none => simp only [act1, hk, hM]; exact trivial
      | some M' =>
        simp only [act1, hk, hM]
        split
        · rename_i M2 a r heq hd
          cases heq
          cases hb : (Nat.beq t 1 || Nat.beq t 4) && Nat.ble n st.length && Nat.ble (catS r) 8 && Nat.ble (eSl (.inr (.inr (some a)) :: (st.take n).reverse)).length M'.2.2.1 && Nat.beq (shp a.1 a.2).1 0 && Nat.beq (shp a.1 a.2).2 c' with
          | true =>
            have hb' := hb
            simp only [Bool.and_eq_true, Bool.or_eq_true] at hb'
            obtain ⟨⟨⟨⟨⟨b1, b2⟩, b3⟩, b4⟩, b5⟩, b6⟩ := hb'
            have ht0 : t = 1 ∨ t = 4 := b1.imp Nat.eq_of_beq_eq_true Nat.eq_of_beq_eq_true
            exact ⟨d', c', i', M', .inr (.inr (some a)) :: (st.take n).reverse, rfl, hM, Nat.le_of_ble_eq_true b4, rfl, fun o1 => ⟨⟨rfl, rfl, rfl⟩, rfl⟩, fun o1 hcm hm g => g_virt hF hM (chkC_1 hkc (by omega) (by omega) hM) ht0 (Nat.le_of_ble_eq_true b2) hd (Nat.le_of_ble_eq_true b3) (Nat.eq_of_beq_eq_true b5) (Nat.eq_of_beq_eq_true b6) hcm hm hdg g⟩
          | false => exact trivial
        · exact trivial
theorem sd_ispec {k : Nat} (hF : FR D bs sa sc p R s m meth cc M d c i n0 s0 o) (hq : alk M.2.2.2.2 pc = some (.invokespecial k, n)) : SD l D bs sa sc p e R s m args below meth cc Q M hh ad0 n0 s0 o d c i pc ls st h (act1 M d c i pc n ls st h (.invokespecial k)) := by
  obtain ⟨hdg, hl, ht⟩ := pg_ok hF.1 hq
  obtain rfl : 3 = n := hl.resolve_left (fun q => absurd q (by decide : ¬ (3 : Nat) = 0))
  cases hk : alk (lkp [] sd_ct c) k with
  | none => simp only [act1, hk]; exact trivial
  | some v =>
    obtain ⟨t, c', i', n⟩ := v
    have hkc := ckC c _ (alk_mem hk)
    cases d with
    | zero => simp only [act1, hk]; exact trivial
    | succ d' =>
      cases hM : md c' i' with
      | none => simp only [act1, hk, hM]; exact trivial
      | some M' =>
        simp only [act1, hk, hM]
        split
        · rename_i M2 a r heq hd
          cases heq
          cases hb : (Nat.beq t 2 || Nat.beq t 5) && Nat.ble n st.length && Nat.ble (catS r) 8 && Nat.ble (eSl (.inr (.inr (some a)) :: (st.take n).reverse)).length M'.2.2.1 with
          | true =>
            have hb' := hb
            simp only [Bool.and_eq_true, Bool.or_eq_true] at hb'
            obtain ⟨⟨⟨b1, b2⟩, b3⟩, b4⟩ := hb'
            have ht0 : t = 2 ∨ t = 5 := b1.imp Nat.eq_of_beq_eq_true Nat.eq_of_beq_eq_true
            exact ⟨d', c', i', M', .inr (.inr (some a)) :: (st.take n).reverse, rfl, hM, Nat.le_of_ble_eq_true b4, rfl, fun o1 => ⟨⟨rfl, rfl, rfl⟩, rfl⟩, fun o1 hcm hm g => g_spec hF hM (chkC_1 hkc (by omega) (by omega) hM) ht0 (Nat.le_of_ble_eq_true b2) hd (Nat.le_of_ble_eq_true b3) hcm hm hdg g⟩
          | false =>
            simp only [cond_false]
            cases h6 : Nat.beq t 6 && Nat.beq n 0 && Nat.ble (catS r) 8 with
            | false => exact trivial
            | true =>
              simp only [Bool.and_eq_true] at h6
              have h7 := Nat.eq_of_beq_eq_true h6.1.1
              have h8 := Nat.eq_of_beq_eq_true h6.1.2
              subst h7
              subst h8
              have hd : st = .inr (.inr (some a)) :: r := hd
              subst hd
              exact ⟨⟨rfl, rfl, rfl⟩, Nat.le_refl _, fun _ g => g_oinit hF (by omega) hkc (Nat.le_of_ble_eq_true h6.2) hdg g⟩
        · exact trivial
theorem sd_iret (hF : FR D bs sa sc p R s m meth cc M d c i n0 s0 o) (hq : alk M.2.2.2.2 pc = some (.ireturn, n)) : SD l D bs sa sc p e R s m args below meth cc Q M hh ad0 n0 s0 o d c i pc ls st h (act1 M d c i pc n ls st h (.ireturn)) := by
  obtain ⟨hdg, hl, ht⟩ := pg_ok hF.1 hq
  obtain rfl : 1 = n := hl.resolve_left (fun q => absurd q (by decide : ¬ (1 : Nat) = 0))
  simp only [act1]
  split
  · rename_i x hrt
    exact ⟨rfl, fun ho hK => g_end hK hdg (Or.inl ⟨rfl, hrt, x, by rw [← ho]⟩) (by rw [← ho]; rfl) (by rw [← ho])⟩
  · rename_i x hrt
    refine ⟨rfl, rfl, fun hb ho hK => ?_⟩
    simp only [Bool.or_eq_true, decide_eq_true_eq] at hb
    exact g_end hK hdg (Or.inr (Or.inl ⟨rfl, hrt, x, by rw [← ho], hb⟩)) (by rw [← ho]; rfl) (by rw [← ho])
  · exact trivial
theorem sd_vret (hF : FR D bs sa sc p R s m meth cc M d c i n0 s0 o) (hq : alk M.2.2.2.2 pc = some (.return_, n)) : SD l D bs sa sc p e R s m args below meth cc Q M hh ad0 n0 s0 o d c i pc ls st h (act1 M d c i pc n ls st h (.return_)) := by
  obtain ⟨hdg, hl, ht⟩ := pg_ok hF.1 hq
  obtain rfl : 1 = n := hl.resolve_left (fun q => absurd q (by decide : ¬ (1 : Nat) = 0))
  simp only [act1]
  split
  · rename_i hrt
    exact ⟨rfl, fun ho hK => g_end hK hdg (Or.inr (Or.inr (Or.inl ⟨rfl, hrt, by rw [← ho]⟩))) (by rw [← ho]; rfl) (by rw [← ho])⟩
  · exact trivial
theorem sd_aret (hF : FR D bs sa sc p R s m meth cc M d c i n0 s0 o) (hq : alk M.2.2.2.2 pc = some (.areturn, n)) : SD l D bs sa sc p e R s m args below meth cc Q M hh ad0 n0 s0 o d c i pc ls st h (act1 M d c i pc n ls st h (.areturn)) := by
  obtain ⟨hdg, hl, ht⟩ := pg_ok hF.1 hq
  obtain rfl : 1 = n := hl.resolve_left (fun q => absurd q (by decide : ¬ (1 : Nat) = 0))
  simp only [act1]
  split
  · rename_i a hrt
    exact ⟨rfl, fun ho hK => g_end hK hdg (Or.inr (Or.inr (Or.inr ⟨rfl, hrt, a, by rw [← ho]⟩))) (by rw [← ho]; rfl) (by rw [← ho])⟩
  · exact trivial
theorem sd_all {ins : Instr} (hF : FR D bs sa sc p R s m meth cc M d c i n0 s0 o) (hq : alk M.2.2.2.2 pc = some (ins, n)) : SD l D bs sa sc p e R s m args below meth cc Q M hh ad0 n0 s0 o d c i pc ls st h (act1 M d c i pc n ls st h ins) := by
  cases ins with
  | iconst k => exact sd_iconst hF hq
  | bipush k => exact sd_bipush hF hq
  | sipush k => exact sd_sipush hF hq
  | lconst k => exact sd_lconst hF hq
  | ldc k => exact sd_ldc hF hq
  | ldc_w k => exact sd_ldcw hF hq
  | ldc2_w k => exact sd_ldc2 hF hq
  | iload_n k => exact sd_iload_n hF hq
  | iload k => exact sd_iload hF hq
  | aload_n k => exact sd_aload_n hF hq
  | aload k => exact sd_aload hF hq
  | lload_n k => exact sd_lload_n hF hq
  | lload k => exact sd_lload hF hq
  | istore_n k => exact sd_istore_n hF hq
  | istore k => exact sd_istore hF hq
  | astore_n k => exact sd_astore_n hF hq
  | astore k => exact sd_astore hF hq
  | iinc k z => exact sd_iinc hF hq
  | iadd => exact sd_iadd hF hq
  | isub => exact sd_isub hF hq
  | imul => exact sd_imul hF hq
  | iand => exact sd_iand hF hq
  | ior => exact sd_ior hF hq
  | ixor => exact sd_ixor hF hq
  | ishl => exact sd_ishl hF hq
  | ishr => exact sd_ishr hF hq
  | iushr => exact sd_iushr hF hq
  | ineg => exact sd_ineg hF hq
  | i2l => exact sd_i2l hF hq
  | i2b => exact sd_i2b hF hq
  | i2s => exact sd_i2s hF hq
  | lcmp => exact sd_lcmp hF hq
  | idiv => exact sd_idiv hF hq
  | irem => exact sd_irem hF hq
  | dup => exact sd_dup hF hq
  | dup2 => exact sd_dup2 hF hq
  | goto k => exact sd_goto hF hq
  | ifCond q k => exact sd_ifc hF hq
  | if_icmp q k => exact sd_icmp hF hq
  | ifnull k => exact sd_ifnull hF hq
  | tableswitch a b e f => exact sd_ts hF hq
  | getfield k => exact sd_getf hF hq
  | putfield k => exact sd_putf hF hq
  | getstatic k => exact sd_gets hF hq
  | arraylength => exact sd_alen hF hq
  | iaload => exact sd_iald hF hq
  | aaload => exact sd_aald hF hq
  | iastore => exact sd_iast hF hq
  | aastore => exact sd_aast hF hq
  | newarray t => exact sd_newa hF hq
  | anewarray k => exact sd_anewa hF hq
  | new k => exact sd_new hF hq
  | invokestatic k => exact sd_istat hF hq
  | invokevirtual k => exact sd_ivirt hF hq
  | invokespecial k => exact sd_ispec hF hq
  | ireturn => exact sd_iret hF hq
  | return_ => exact sd_vret hF hq
  | areturn => exact sd_aret hF hq
  | _ => exact trivial
end SND5
