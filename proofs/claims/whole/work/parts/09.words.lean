def isNest : Cond → Bool
  | .fieldLinkNest .. => true
  | .methodLinkNest .. => true
  | _ => false
def okw (w : Cond) : Bool := goodWord w || isNest w
def inT (w : Cond) : Bool := decide (w ∈ lw_tbl) && okw w
def clOf (ci : Nat) : vw_C := lkp ("", fun _ => ("", "", "", false), 0) sd_cl ci
def ownOf (c : Nat) : String := lkp "" sd_own c
def fOf (ci k : Nat) : String × String × String × Bool := (clOf ci).2.1 k
def nF (ci : Nat) : Nat := (clOf ci).2.2
def wF (c : Nat) (q : Nat × Nat × Nat × Bool) : Cond := bif q.2.2.2 then .fieldLinkNest (ownOf c) q.1 (fOf q.2.1 q.2.2.1).1 (fOf q.2.1 q.2.2.1).2.1 (fOf q.2.1 q.2.2.1).2.2.1 "SumDoor" else .fieldLink (ownOf c) q.1 (fOf q.2.1 q.2.2.1).1 (fOf q.2.1 q.2.2.1).2.1 (fOf q.2.1 q.2.2.1).2.2.1
def chkF (c : Nat) (q : Nat × Nat × Nat × Bool) : Bool := inT (wF c q) && Nat.blt q.2.1 9 && Nat.blt q.2.2.1 (nF q.2.1) && decide ((fOf q.2.1 q.2.2.1).1 = ownOf q.2.1)
theorem ckF : (List.range 13).all (fun c => (lkp [] sd_ft c).all (chkF c)) = true := by decide +kernel
def chkK (c : Nat) (q : Nat × Int32) : Bool := inT (.constant (ownOf c) q.1 q.2)
theorem ckK : (List.range 13).all (fun c => (lkp [] sd_kt c).all (chkK c)) = true := by decide +kernel
def chkL (c : Nat) (q : Nat × Int64) : Bool := inT (.constantLong (ownOf c) q.1 q.2)
theorem ckL : (List.range 13).all (fun c => (lkp [] sd_lt c).all (chkL c)) = true := by decide +kernel
def chkN (c : Nat) (q : Nat × Nat) : Bool := inT (.classLink (ownOf c) q.1 (ownOf q.2)) && inT (.instantiable (ownOf q.2) (nF q.2)) && inT (.initialized (ownOf q.2)) && Nat.blt q.2 9 && decide ((clOf q.2).1 = ownOf q.2)
theorem ckN : (List.range 13).all (fun c => (lkp [] sd_nt c).all (chkN c)) = true := by decide +kernel
def stN (k : Nat) : String := lkp "" ["ABOVE", "PART_LEAST", "PART_MOST"] k
def chkS (c : Nat) (q : Nat × Nat) : Bool := inT (.fieldLink (ownOf c) q.1 "SumDoor" (stN q.2) "[I") && Nat.blt q.2 3
theorem ckS : (List.range 13).all (fun c => (lkp [] sd_st c).all (chkS c)) = true := by decide +kernel
theorem ckA : inT (.arrayClass .int) = true := by decide +kernel
def mLk (t : Nat) (own : String) (idx : Nat) (y : MethodName) : Cond := bif Nat.blt t 3 then .methodLink own idx y else .methodLinkNest own idx y "SumDoor"
def chkC (c : Nat) (q : Nat × Nat × Nat × Nat × Nat) : Bool := (match q with
  | (idx, 6, _, _, _) => inT (.methodLink (ownOf c) idx objectInit) && inT (.instanceMethod objectInit) && inT (.code objectInit ⟨#[0xb1]⟩ 1 none)
  | (idx, 7, _, _, _) => inT (.methodLink (ownOf c) idx arraycopyName) && inT (.native arraycopyName) && inT (.static arraycopyName) && inT (.initialized "java/lang/System")
  | (idx, t, c', i', m) => (match md c' i' with
    | none => false
    | some M => inT (mLk t (ownOf c) idx M.1) && inT (.initialized M.1.cls) && inT (.code M.1 M.2.1 M.2.2.1 M.2.2.2.1) && decide ((parseMethodDescriptor M.1.desc).map (fun d => d.parameters.length) = some m) &&
        (bif Nat.beq t 0 || Nat.beq t 3 then inT (.static M.1) else inT (.instanceMethod M.1) && (bif Nat.beq t 1 || Nat.beq t 4 then inT (.selects M.1.cls M.1 M.1) && Nat.blt c' 9 && decide ((clOf c').1 = M.1.cls) else decide (M.1.name = "<init>") && decide (M.2.2.2.1 = none)))))
theorem ckC0 : (List.range 8).all (fun c => (lkp [] sd_ct c).all (chkC c)) = true := by decide +kernel
theorem ckC8 : (lkp [] sd_ct 8).all (chkC 8) = true := by decide +kernel
theorem ckC9 : (lkp [] sd_ct 9).all (chkC 9) = true := by decide +kernel
theorem ckC : ∀ c, (lkp [] sd_ct c).all (chkC c) = true := by
  intro c
  rcases Nat.lt_or_ge c 8 with h | h
  · exact List.all_eq_true.mp ckC0 c (List.mem_range.mpr h)
  · rcases Nat.lt_or_ge c 13 with h2 | h2
    · rcases (show c = 8 ∨ c = 9 ∨ c = 10 ∨ c = 11 ∨ c = 12 by omega) with rfl | rfl | rfl | rfl | rfl
      · exact ckC8
      · exact ckC9
      · rfl
      · rfl
      · rfl
    · obtain ⟨k, rfl⟩ : ∃ k, c = k + 13 := ⟨c - 13, by omega⟩
      rfl
def tyOf (ci : Nat) : Nat → FieldType := match ci with
  | 0 => tyX0 | 1 => tyX1 | 2 => tyX2 | 3 => tyX3 | 4 => tyX4 | 5 => tyX5 | 6 => tyX6 | 7 => tyX7 | _ => tyX8
def kdT : FieldType → Nat
  | .int => 0
  | .boolean => 1
  | .object _ => 2
  | .array _ => 2
  | _ => 9
theorem ck_kd : (List.range 9).all (fun ci => (List.range (nF ci)).all (fun k => Nat.beq (fkd ci k) (kdT (tyOf ci k)) && (ffd ci k == (fOf ci k).2.2.2))) = true := by decide +kernel
theorem ck_ws : (List.range 9).all (fun ci => (u_ws (clOf ci).1 (clOf ci).2.1 (nF ci)).all (fun w => inT w && goodWord w)) = true := by decide +kernel
theorem ty_ok : ∀ ci, ci < 9 → ∀ k, k < nF ci → parseFieldDescriptor (fOf ci k).2.2.1 = some (tyOf ci k) := by
  intro ci h
  match ci, h with
  | 0, _ => exact tyX0_ok
  | 1, _ => exact tyX1_ok
  | 2, _ => exact tyX2_ok
  | 3, _ => exact tyX3_ok
  | 4, _ => exact tyX4_ok
  | 5, _ => exact tyX5_ok
  | 6, _ => exact tyX6_ok
  | 7, _ => exact tyX7_ok
  | 8, _ => exact tyX8_ok
  | n + 9, h => omega
theorem nm_ok : ∀ ci, ci < 9 → ∀ a, a < nF ci → ∀ b, b < nF ci → a ≠ b → (fOf ci a).2.1 ≠ (fOf ci b).2.1 := by
  intro ci h
  match ci, h with
  | 0, _ => exact nmX0
  | 1, _ => exact nmX1
  | 2, _ => exact nmX2
  | 3, _ => exact nmX3
  | 4, _ => exact nmX4
  | 5, _ => exact nmX5
  | 6, _ => exact nmX6
  | 7, _ => exact nmX7
  | 8, _ => exact nmX8
  | n + 9, h => omega
theorem cl_at : ∀ ci, ci < 9 → sd_cl[ci]? = some (clOf ci) := by
  intro ci h
  match ci, h with
  | 0, _ => rfl
  | 1, _ => rfl
  | 2, _ => rfl
  | 3, _ => rfl
  | 4, _ => rfl
  | 5, _ => rfl
  | 6, _ => rfl
  | 7, _ => rfl
  | 8, _ => rfl
  | n + 9, h => omega
/-- of a method that is in the tables: its programme is checked, it is plain, its class is the class of its number, its locals are few -/
def okM (c : Nat) (M : MD) : Prop := M.2.2.2.2.all (chkI M.2.1) = true ∧ plainFor M.1 = true ∧ M.1.cls = ownOf c ∧ M.2.2.1 ≤ 19 ∧ (M.1.cls ≠ "java/lang/invoke/MethodHandle" ∧ M.1.cls ≠ "java/lang/invoke/VarHandle")
def okB (c : Nat) (M : MD) : Bool := plainFor M.1 && decide (M.1.cls = ownOf c) && Nat.ble M.2.2.1 19 && decide (M.1.cls ≠ "java/lang/invoke/MethodHandle") && decide (M.1.cls ≠ "java/lang/invoke/VarHandle") && (Nat.beq c 9 || inT (.code M.1 M.2.1 M.2.2.1 M.2.2.2.1))
theorem ck_B : (List.range 13).all (fun c => (lkp [] sd_mt c).all (okB c)) = true := by decide +kernel
theorem alk_mem {α : Type} : ∀ {l : List (Nat × α)} {k : Nat} {v : α}, alk l k = some v → (k, v) ∈ l
  | [], k, v, h => by cases h
  | q :: l, k, v, h => by
    unfold alk at h
    cases hq : Nat.beq q.1 k with
    | true =>
      rw [hq] at h
      have h1 : q.1 = k := Nat.eq_of_beq_eq_true hq
      have h2 : q.2 = v := Option.some.inj h
      subst h1; subst h2
      exact List.mem_cons_self
    | false =>
      rw [hq] at h
      exact List.mem_cons_of_mem _ (alk_mem h)
theorem lkp_some {α : Type} : ∀ {l : List α} {i : Nat} {v : α}, lkp none (l.map some) i = some v → v ∈ l
  | [], i, v, h => by cases h
  | a :: l, 0, v, h => by cases h; exact List.mem_cons_self
  | a :: l, i + 1, v, h => List.mem_cons_of_mem _ (lkp_some (l := l) (i := i) h)
theorem tab_all {α : Type} {t : List (List α)} {f : Nat → α → Bool} (hl : t.length = 13) (h : (List.range 13).all (fun c => (lkp [] t c).all (f c)) = true) : ∀ c, ∀ q ∈ lkp [] t c, f c q = true := by
  intro c q hq
  rcases Nat.lt_or_ge c 13 with h2 | h2
  · exact List.all_eq_true.mp (List.all_eq_true.mp h c (List.mem_range.mpr h2)) q hq
  · exfalso
    have : ∀ (t : List (List α)) (c : Nat), t.length ≤ c → lkp [] t c = [] := by
      intro t
      induction t with
      | nil => intro c _; rfl
      | cons a l ih =>
        intro c hc
        cases c with
        | zero => simp at hc
        | succ c => exact ih c (by simpa using hc)
    rw [this t c (by omega)] at hq
    cases hq
set_option maxRecDepth 20000 in
theorem ckm_0 : ∀ M ∈ mt_0, chkM M = true := List.forall_mem_cons.mpr ⟨ck_0_0, List.forall_mem_cons.mpr ⟨ck_0_1, List.forall_mem_cons.mpr ⟨ck_0_2, List.forall_mem_cons.mpr ⟨ck_0_3, List.forall_mem_cons.mpr ⟨ck_0_4, List.forall_mem_cons.mpr ⟨ck_0_5, List.forall_mem_cons.mpr ⟨ck_0_6, List.forall_mem_cons.mpr ⟨ck_0_7, List.forall_mem_cons.mpr ⟨ck_0_8, List.forall_mem_cons.mpr ⟨ck_0_9, List.forall_mem_cons.mpr ⟨ck_0_10, List.forall_mem_cons.mpr ⟨ck_0_11, List.forall_mem_cons.mpr ⟨ck_0_12, List.forall_mem_cons.mpr ⟨ck_0_13, List.forall_mem_cons.mpr ⟨ck_0_14, List.forall_mem_cons.mpr ⟨ck_0_15, List.forall_mem_cons.mpr ⟨ck_0_16, List.forall_mem_cons.mpr ⟨ck_0_17, List.forall_mem_cons.mpr ⟨ck_0_18, List.forall_mem_cons.mpr ⟨ck_0_19, fun _ h => absurd h List.not_mem_nil⟩⟩⟩⟩⟩⟩⟩⟩⟩⟩⟩⟩⟩⟩⟩⟩⟩⟩⟩⟩
set_option maxRecDepth 20000 in
theorem ckm_1 : ∀ M ∈ mt_1, chkM M = true := List.forall_mem_cons.mpr ⟨ck_1_0, List.forall_mem_cons.mpr ⟨ck_1_1, List.forall_mem_cons.mpr ⟨ck_1_2, List.forall_mem_cons.mpr ⟨ck_1_3, List.forall_mem_cons.mpr ⟨ck_1_4, List.forall_mem_cons.mpr ⟨ck_1_5, fun _ h => absurd h List.not_mem_nil⟩⟩⟩⟩⟩⟩
set_option maxRecDepth 20000 in
theorem ckm_2 : ∀ M ∈ mt_2, chkM M = true := List.forall_mem_cons.mpr ⟨ck_2_0, List.forall_mem_cons.mpr ⟨ck_2_1, List.forall_mem_cons.mpr ⟨ck_2_2, List.forall_mem_cons.mpr ⟨ck_2_3, List.forall_mem_cons.mpr ⟨ck_2_4, List.forall_mem_cons.mpr ⟨ck_2_5, List.forall_mem_cons.mpr ⟨ck_2_6, List.forall_mem_cons.mpr ⟨ck_2_7, List.forall_mem_cons.mpr ⟨ck_2_8, fun _ h => absurd h List.not_mem_nil⟩⟩⟩⟩⟩⟩⟩⟩⟩
set_option maxRecDepth 20000 in
theorem ckm_3 : ∀ M ∈ mt_3, chkM M = true := List.forall_mem_cons.mpr ⟨ck_3_0, List.forall_mem_cons.mpr ⟨ck_3_1, List.forall_mem_cons.mpr ⟨ck_3_2, List.forall_mem_cons.mpr ⟨ck_3_3, List.forall_mem_cons.mpr ⟨ck_3_4, List.forall_mem_cons.mpr ⟨ck_3_5, List.forall_mem_cons.mpr ⟨ck_3_6, List.forall_mem_cons.mpr ⟨ck_3_7, List.forall_mem_cons.mpr ⟨ck_3_8, List.forall_mem_cons.mpr ⟨ck_3_9, fun _ h => absurd h List.not_mem_nil⟩⟩⟩⟩⟩⟩⟩⟩⟩⟩
set_option maxRecDepth 20000 in
theorem ckm_4 : ∀ M ∈ mt_4, chkM M = true := List.forall_mem_cons.mpr ⟨ck_4_0, List.forall_mem_cons.mpr ⟨ck_4_1, List.forall_mem_cons.mpr ⟨ck_4_2, List.forall_mem_cons.mpr ⟨ck_4_3, List.forall_mem_cons.mpr ⟨ck_4_4, List.forall_mem_cons.mpr ⟨ck_4_5, List.forall_mem_cons.mpr ⟨ck_4_6, fun _ h => absurd h List.not_mem_nil⟩⟩⟩⟩⟩⟩⟩
set_option maxRecDepth 20000 in
theorem ckm_5 : ∀ M ∈ mt_5, chkM M = true := List.forall_mem_cons.mpr ⟨ck_5_0, fun _ h => absurd h List.not_mem_nil⟩
set_option maxRecDepth 20000 in
theorem ckm_6 : ∀ M ∈ mt_6, chkM M = true := List.forall_mem_cons.mpr ⟨ck_6_0, List.forall_mem_cons.mpr ⟨ck_6_1, List.forall_mem_cons.mpr ⟨ck_6_2, fun _ h => absurd h List.not_mem_nil⟩⟩⟩
set_option maxRecDepth 20000 in
theorem ckm_7 : ∀ M ∈ mt_7, chkM M = true := List.forall_mem_cons.mpr ⟨ck_7_0, List.forall_mem_cons.mpr ⟨ck_7_1, List.forall_mem_cons.mpr ⟨ck_7_2, List.forall_mem_cons.mpr ⟨ck_7_3, List.forall_mem_cons.mpr ⟨ck_7_4, List.forall_mem_cons.mpr ⟨ck_7_5, List.forall_mem_cons.mpr ⟨ck_7_6, List.forall_mem_cons.mpr ⟨ck_7_7, List.forall_mem_cons.mpr ⟨ck_7_8, List.forall_mem_cons.mpr ⟨ck_7_9, List.forall_mem_cons.mpr ⟨ck_7_10, List.forall_mem_cons.mpr ⟨ck_7_11, List.forall_mem_cons.mpr ⟨ck_7_12, List.forall_mem_cons.mpr ⟨ck_7_13, List.forall_mem_cons.mpr ⟨ck_7_14, List.forall_mem_cons.mpr ⟨ck_7_15, List.forall_mem_cons.mpr ⟨ck_7_16, List.forall_mem_cons.mpr ⟨ck_7_17, List.forall_mem_cons.mpr ⟨ck_7_18, List.forall_mem_cons.mpr ⟨ck_7_19, List.forall_mem_cons.mpr ⟨ck_7_20, List.forall_mem_cons.mpr ⟨ck_7_21, List.forall_mem_cons.mpr ⟨ck_7_22, List.forall_mem_cons.mpr ⟨ck_7_23, List.forall_mem_cons.mpr ⟨ck_7_24, List.forall_mem_cons.mpr ⟨ck_7_25, List.forall_mem_cons.mpr ⟨ck_7_26, List.forall_mem_cons.mpr ⟨ck_7_27, List.forall_mem_cons.mpr ⟨ck_7_28, List.forall_mem_cons.mpr ⟨ck_7_29, List.forall_mem_cons.mpr ⟨ck_7_30, List.forall_mem_cons.mpr ⟨ck_7_31, List.forall_mem_cons.mpr ⟨ck_7_32, List.forall_mem_cons.mpr ⟨ck_7_33, List.forall_mem_cons.mpr ⟨ck_7_34, List.forall_mem_cons.mpr ⟨ck_7_35, List.forall_mem_cons.mpr ⟨ck_7_36, List.forall_mem_cons.mpr ⟨ck_7_37, List.forall_mem_cons.mpr ⟨ck_7_38, List.forall_mem_cons.mpr ⟨ck_7_39, List.forall_mem_cons.mpr ⟨ck_7_40, List.forall_mem_cons.mpr ⟨ck_7_41, List.forall_mem_cons.mpr ⟨ck_7_42, List.forall_mem_cons.mpr ⟨ck_7_43, List.forall_mem_cons.mpr ⟨ck_7_44, List.forall_mem_cons.mpr ⟨ck_7_45, List.forall_mem_cons.mpr ⟨ck_7_46, List.forall_mem_cons.mpr ⟨ck_7_47, List.forall_mem_cons.mpr ⟨ck_7_48, List.forall_mem_cons.mpr ⟨ck_7_49, List.forall_mem_cons.mpr ⟨ck_7_50, List.forall_mem_cons.mpr ⟨ck_7_51, List.forall_mem_cons.mpr ⟨ck_7_52, List.forall_mem_cons.mpr ⟨ck_7_53, List.forall_mem_cons.mpr ⟨ck_7_54, List.forall_mem_cons.mpr ⟨ck_7_55, List.forall_mem_cons.mpr ⟨ck_7_56, fun _ h => absurd h List.not_mem_nil⟩⟩⟩⟩⟩⟩⟩⟩⟩⟩⟩⟩⟩⟩⟩⟩⟩⟩⟩⟩⟩⟩⟩⟩⟩⟩⟩⟩⟩⟩⟩⟩⟩⟩⟩⟩⟩⟩⟩⟩⟩⟩⟩⟩⟩⟩⟩⟩⟩⟩⟩⟩⟩⟩⟩⟩⟩
set_option maxRecDepth 20000 in
theorem ckm_8 : ∀ M ∈ mt_8, chkM M = true := List.forall_mem_cons.mpr ⟨ck_8_0, List.forall_mem_cons.mpr ⟨ck_8_1, List.forall_mem_cons.mpr ⟨ck_8_2, List.forall_mem_cons.mpr ⟨ck_8_3, List.forall_mem_cons.mpr ⟨ck_8_4, List.forall_mem_cons.mpr ⟨ck_8_5, List.forall_mem_cons.mpr ⟨ck_8_6, List.forall_mem_cons.mpr ⟨ck_8_7, List.forall_mem_cons.mpr ⟨ck_8_8, List.forall_mem_cons.mpr ⟨ck_8_9, List.forall_mem_cons.mpr ⟨ck_8_10, List.forall_mem_cons.mpr ⟨ck_8_11, List.forall_mem_cons.mpr ⟨ck_8_12, List.forall_mem_cons.mpr ⟨ck_8_13, List.forall_mem_cons.mpr ⟨ck_8_14, List.forall_mem_cons.mpr ⟨ck_8_15, List.forall_mem_cons.mpr ⟨ck_8_16, List.forall_mem_cons.mpr ⟨ck_8_17, List.forall_mem_cons.mpr ⟨ck_8_18, List.forall_mem_cons.mpr ⟨ck_8_19, List.forall_mem_cons.mpr ⟨ck_8_20, List.forall_mem_cons.mpr ⟨ck_8_21, List.forall_mem_cons.mpr ⟨ck_8_22, List.forall_mem_cons.mpr ⟨ck_8_23, List.forall_mem_cons.mpr ⟨ck_8_24, List.forall_mem_cons.mpr ⟨ck_8_25, List.forall_mem_cons.mpr ⟨ck_8_26, List.forall_mem_cons.mpr ⟨ck_8_27, List.forall_mem_cons.mpr ⟨ck_8_28, List.forall_mem_cons.mpr ⟨ck_8_29, List.forall_mem_cons.mpr ⟨ck_8_30, List.forall_mem_cons.mpr ⟨ck_8_31, List.forall_mem_cons.mpr ⟨ck_8_32, List.forall_mem_cons.mpr ⟨ck_8_33, List.forall_mem_cons.mpr ⟨ck_8_34, List.forall_mem_cons.mpr ⟨ck_8_35, List.forall_mem_cons.mpr ⟨ck_8_36, List.forall_mem_cons.mpr ⟨ck_8_37, List.forall_mem_cons.mpr ⟨ck_8_38, List.forall_mem_cons.mpr ⟨ck_8_39, List.forall_mem_cons.mpr ⟨ck_8_40, List.forall_mem_cons.mpr ⟨ck_8_41, List.forall_mem_cons.mpr ⟨ck_8_42, List.forall_mem_cons.mpr ⟨ck_8_43, List.forall_mem_cons.mpr ⟨ck_8_44, List.forall_mem_cons.mpr ⟨ck_8_45, List.forall_mem_cons.mpr ⟨ck_8_46, List.forall_mem_cons.mpr ⟨ck_8_47, List.forall_mem_cons.mpr ⟨ck_8_48, List.forall_mem_cons.mpr ⟨ck_8_49, List.forall_mem_cons.mpr ⟨ck_8_50, List.forall_mem_cons.mpr ⟨ck_8_51, List.forall_mem_cons.mpr ⟨ck_8_52, List.forall_mem_cons.mpr ⟨ck_8_53, List.forall_mem_cons.mpr ⟨ck_8_54, List.forall_mem_cons.mpr ⟨ck_8_55, List.forall_mem_cons.mpr ⟨ck_8_56, List.forall_mem_cons.mpr ⟨ck_8_57, List.forall_mem_cons.mpr ⟨ck_8_58, List.forall_mem_cons.mpr ⟨ck_8_59, List.forall_mem_cons.mpr ⟨ck_8_60, List.forall_mem_cons.mpr ⟨ck_8_61, List.forall_mem_cons.mpr ⟨ck_8_62, List.forall_mem_cons.mpr ⟨ck_8_63, List.forall_mem_cons.mpr ⟨ck_8_64, List.forall_mem_cons.mpr ⟨ck_8_65, List.forall_mem_cons.mpr ⟨ck_8_66, List.forall_mem_cons.mpr ⟨ck_8_67, List.forall_mem_cons.mpr ⟨ck_8_68, List.forall_mem_cons.mpr ⟨ck_8_69, List.forall_mem_cons.mpr ⟨ck_8_70, List.forall_mem_cons.mpr ⟨ck_8_71, List.forall_mem_cons.mpr ⟨ck_8_72, List.forall_mem_cons.mpr ⟨ck_8_73, List.forall_mem_cons.mpr ⟨ck_8_74, List.forall_mem_cons.mpr ⟨ck_8_75, List.forall_mem_cons.mpr ⟨ck_8_76, List.forall_mem_cons.mpr ⟨ck_8_77, List.forall_mem_cons.mpr ⟨ck_8_78, List.forall_mem_cons.mpr ⟨ck_8_79, List.forall_mem_cons.mpr ⟨ck_8_80, List.forall_mem_cons.mpr ⟨ck_8_81, fun _ h => absurd h List.not_mem_nil⟩⟩⟩⟩⟩⟩⟩⟩⟩⟩⟩⟩⟩⟩⟩⟩⟩⟩⟩⟩⟩⟩⟩⟩⟩⟩⟩⟩⟩⟩⟩⟩⟩⟩⟩⟩⟩⟩⟩⟩⟩⟩⟩⟩⟩⟩⟩⟩⟩⟩⟩⟩⟩⟩⟩⟩⟩⟩⟩⟩⟩⟩⟩⟩⟩⟩⟩⟩⟩⟩⟩⟩⟩⟩⟩⟩⟩⟩⟩⟩⟩⟩
set_option maxRecDepth 20000 in
theorem ckm_9 : ∀ M ∈ mt_9, chkM M = true := List.forall_mem_cons.mpr ⟨ck_9_0, fun _ h => absurd h List.not_mem_nil⟩
set_option maxRecDepth 20000 in
theorem ckm_10 : ∀ M ∈ mt_10, chkM M = true := List.forall_mem_cons.mpr ⟨ck_10_0, fun _ h => absurd h List.not_mem_nil⟩
set_option maxRecDepth 20000 in
theorem ckm_11 : ∀ M ∈ mt_11, chkM M = true := List.forall_mem_cons.mpr ⟨ck_11_0, List.forall_mem_cons.mpr ⟨ck_11_1, fun _ h => absurd h List.not_mem_nil⟩⟩
set_option maxRecDepth 20000 in
theorem ckm_12 : ∀ M ∈ mt_12, chkM M = true := List.forall_mem_cons.mpr ⟨ck_12_0, fun _ h => absurd h List.not_mem_nil⟩
theorem ckm : ∀ c, ∀ M ∈ lkp [] sd_mt c, chkM M = true := by
  intro c
  match c with
  | 0 => exact ckm_0
  | 1 => exact ckm_1
  | 2 => exact ckm_2
  | 3 => exact ckm_3
  | 4 => exact ckm_4
  | 5 => exact ckm_5
  | 6 => exact ckm_6
  | 7 => exact ckm_7
  | 8 => exact ckm_8
  | 9 => exact ckm_9
  | 10 => exact ckm_10
  | 11 => exact ckm_11
  | 12 => exact ckm_12
  | n + 13 => exact fun _ h => absurd h List.not_mem_nil
theorem md_ok {c i : Nat} {M : MD} (h : md c i = some M) : okM c M := by
  have h1 : M ∈ lkp [] sd_mt c := lkp_some h
  have h2 := tab_all (f := okB) rfl ck_B c M h1
  simp only [okB, Bool.and_eq_true, decide_eq_true_eq] at h2
  obtain ⟨⟨⟨⟨⟨a, b⟩, c1⟩, d⟩, e⟩, -⟩ := h2
  exact ⟨ckm c M h1, a, b, Nat.le_of_ble_eq_true c1, d, e⟩
theorem pg_ok {c i pc n : Nat} {M : MD} {ins : Instr} (h : md c i = some M) (hq : alk M.2.2.2.2 pc = some (ins, n)) : decode M.2.1 pc = .ok (ins, n) ∧ (ilen ins = 0 ∨ ilen ins = n) ∧ tok pc ins = true := by
  have h1 := List.all_eq_true.mp (md_ok h).1 _ (alk_mem hq)
  simp only [chkI, Bool.and_eq_true, decide_eq_true_eq, Bool.or_eq_true] at h1
  exact ⟨h1.1.1, h1.1.2.imp Nat.eq_of_beq_eq_true Nat.eq_of_beq_eq_true, h1.2⟩
