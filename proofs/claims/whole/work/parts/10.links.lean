def clOf (ci : Nat) : vw_C := lkp ("", fun _ => ("", "", "", false), 0) sd_cl ci
def ownOf (c : Nat) : String := lkp "" sd_own c
def fOf (ci k : Nat) : String × String × String × Bool := (clOf ci).2.1 k
def nF (ci : Nat) : Nat := (clOf ci).2.2
def wF (c : Nat) (q : Nat × Nat × Nat × Bool) : Cond := bif q.2.2.2 then .fieldLinkNest (ownOf c) q.1 (fOf q.2.1 q.2.2.1).1 (fOf q.2.1 q.2.2.1).2.1 (fOf q.2.1 q.2.2.1).2.2.1 "SumDoor" else .fieldLink (ownOf c) q.1 (fOf q.2.1 q.2.2.1).1 (fOf q.2.1 q.2.2.1).2.1 (fOf q.2.1 q.2.2.1).2.2.1
def chkF (c : Nat) (q : Nat × Nat × Nat × Bool) : Prop := inT (wF c q) ∧ q.2.1 < 9 ∧ q.2.2.1 < nF q.2.1 ∧ (fOf q.2.1 q.2.2.1).1 = ownOf q.2.1
def chkK (c : Nat) (q : Nat × Int32) : Prop := inT (.constant (ownOf c) q.1 q.2)
def chkL (c : Nat) (q : Nat × Int64) : Prop := inT (.constantLong (ownOf c) q.1 q.2)
def chkN (c : Nat) (q : Nat × Nat) : Prop := inT (.classLink (ownOf c) q.1 (ownOf q.2)) ∧ inT (.instantiable (ownOf q.2) (nF q.2)) ∧ inT (.initialized (ownOf q.2)) ∧ q.2 < 9 ∧ (clOf q.2).1 = ownOf q.2
def stN (k : Nat) : String := lkp "" ["ABOVE", "PART_LEAST", "PART_MOST"] k
def chkS (c : Nat) (q : Nat × Nat) : Prop := inT (.fieldLink (ownOf c) q.1 "SumDoor" (stN q.2) "[I") ∧ q.2 < 3
def mLk (t : Nat) (own : String) (idx : Nat) (y : MethodName) : Cond := bif Nat.blt t 3 then .methodLink own idx y else .methodLinkNest own idx y "SumDoor"
def chkC1 (c idx t c' m : Nat) (M : MD) : Prop := inT (mLk t (ownOf c) idx M.1) ∧ inT (.initialized M.1.cls) ∧ inT (.code M.1 M.2.1 M.2.2.1 M.2.2.2.1) ∧ (parseMethodDescriptor M.1.desc).map (fun d => d.parameters.length) = some m ∧
        (bif Nat.beq t 0 || Nat.beq t 3 then inT (.static M.1) else inT (.instanceMethod M.1) ∧ (bif Nat.beq t 1 || Nat.beq t 4 then inT (.selects M.1.cls M.1 M.1) ∧ c' < 9 ∧ (clOf c').1 = M.1.cls else M.1.name = "<init>" ∧ M.2.2.2.1 = none))
def chkC (c : Nat) (q : Nat × Nat × Nat × Nat × Nat) : Prop := match q.2.1 with
  | 6 => inT (.methodLink (ownOf c) q.1 objectInit) ∧ inT (.instanceMethod objectInit) ∧ inT (.code objectInit ⟨#[0xb1]⟩ 1 none)
  | 7 => inT (.methodLink (ownOf c) q.1 arraycopyName) ∧ inT (.native arraycopyName) ∧ inT (.static arraycopyName) ∧ inT (.initialized "java/lang/System")
  | t => ∃ M, md q.2.2.1 q.2.2.2.1 = some M ∧ chkC1 c q.1 t q.2.2.1 q.2.2.2.2 M
theorem ckF_0_9 : chkF 0 (9, 0, 0, false) := ⟨tw_0, Nat.le_of_ble_eq_true rfl, Nat.le_of_ble_eq_true rfl, rfl⟩
theorem ckF_0_15 : chkF 0 (15, 0, 1, false) := ⟨tw_1, Nat.le_of_ble_eq_true rfl, Nat.le_of_ble_eq_true rfl, rfl⟩
theorem ckF_0_18 : chkF 0 (18, 0, 2, false) := ⟨tw_2, Nat.le_of_ble_eq_true rfl, Nat.le_of_ble_eq_true rfl, rfl⟩
theorem ckF_0_21 : chkF 0 (21, 0, 3, false) := ⟨tw_3, Nat.le_of_ble_eq_true rfl, Nat.le_of_ble_eq_true rfl, rfl⟩
theorem ckF_0_24 : chkF 0 (24, 0, 4, false) := ⟨tw_4, Nat.le_of_ble_eq_true rfl, Nat.le_of_ble_eq_true rfl, rfl⟩
theorem ckF_0_27 : chkF 0 (27, 0, 5, false) := ⟨tw_5, Nat.le_of_ble_eq_true rfl, Nat.le_of_ble_eq_true rfl, rfl⟩
theorem ckF_0_30 : chkF 0 (30, 0, 6, false) := ⟨tw_6, Nat.le_of_ble_eq_true rfl, Nat.le_of_ble_eq_true rfl, rfl⟩
theorem ckF_0_33 : chkF 0 (33, 0, 7, false) := ⟨tw_7, Nat.le_of_ble_eq_true rfl, Nat.le_of_ble_eq_true rfl, rfl⟩
theorem ckF_0_36 : chkF 0 (36, 0, 8, false) := ⟨tw_8, Nat.le_of_ble_eq_true rfl, Nat.le_of_ble_eq_true rfl, rfl⟩
theorem ckF_0_39 : chkF 0 (39, 0, 9, false) := ⟨tw_9, Nat.le_of_ble_eq_true rfl, Nat.le_of_ble_eq_true rfl, rfl⟩
theorem ckF_0_43 : chkF 0 (43, 0, 10, false) := ⟨tw_10, Nat.le_of_ble_eq_true rfl, Nat.le_of_ble_eq_true rfl, rfl⟩
theorem ckF_0_46 : chkF 0 (46, 0, 11, false) := ⟨tw_11, Nat.le_of_ble_eq_true rfl, Nat.le_of_ble_eq_true rfl, rfl⟩
theorem ckF_0_49 : chkF 0 (49, 0, 12, false) := ⟨tw_12, Nat.le_of_ble_eq_true rfl, Nat.le_of_ble_eq_true rfl, rfl⟩
set_option maxRecDepth 20000 in
theorem caF_0 : ∀ q ∈ lkp [] sd_ft 0, chkF 0 q := List.forall_mem_cons.mpr ⟨ckF_0_9, List.forall_mem_cons.mpr ⟨ckF_0_15, List.forall_mem_cons.mpr ⟨ckF_0_18, List.forall_mem_cons.mpr ⟨ckF_0_21, List.forall_mem_cons.mpr ⟨ckF_0_24, List.forall_mem_cons.mpr ⟨ckF_0_27, List.forall_mem_cons.mpr ⟨ckF_0_30, List.forall_mem_cons.mpr ⟨ckF_0_33, List.forall_mem_cons.mpr ⟨ckF_0_36, List.forall_mem_cons.mpr ⟨ckF_0_39, List.forall_mem_cons.mpr ⟨ckF_0_43, List.forall_mem_cons.mpr ⟨ckF_0_46, List.forall_mem_cons.mpr ⟨ckF_0_49, fun _ h => absurd h List.not_mem_nil⟩⟩⟩⟩⟩⟩⟩⟩⟩⟩⟩⟩⟩
theorem ckF_1_9 : chkF 1 (9, 1, 0, false) := ⟨tw_13, Nat.le_of_ble_eq_true rfl, Nat.le_of_ble_eq_true rfl, rfl⟩
theorem ckF_1_15 : chkF 1 (15, 1, 1, false) := ⟨tw_14, Nat.le_of_ble_eq_true rfl, Nat.le_of_ble_eq_true rfl, rfl⟩
theorem ckF_1_19 : chkF 1 (19, 1, 2, false) := ⟨tw_15, Nat.le_of_ble_eq_true rfl, Nat.le_of_ble_eq_true rfl, rfl⟩
set_option maxRecDepth 20000 in
theorem caF_1 : ∀ q ∈ lkp [] sd_ft 1, chkF 1 q := List.forall_mem_cons.mpr ⟨ckF_1_9, List.forall_mem_cons.mpr ⟨ckF_1_15, List.forall_mem_cons.mpr ⟨ckF_1_19, fun _ h => absurd h List.not_mem_nil⟩⟩⟩
theorem ckF_2_9 : chkF 2 (9, 2, 0, false) := ⟨tw_16, Nat.le_of_ble_eq_true rfl, Nat.le_of_ble_eq_true rfl, rfl⟩
theorem ckF_2_15 : chkF 2 (15, 2, 1, false) := ⟨tw_17, Nat.le_of_ble_eq_true rfl, Nat.le_of_ble_eq_true rfl, rfl⟩
theorem ckF_2_19 : chkF 2 (19, 2, 2, false) := ⟨tw_18, Nat.le_of_ble_eq_true rfl, Nat.le_of_ble_eq_true rfl, rfl⟩
theorem ckF_2_22 : chkF 2 (22, 2, 3, false) := ⟨tw_19, Nat.le_of_ble_eq_true rfl, Nat.le_of_ble_eq_true rfl, rfl⟩
set_option maxRecDepth 20000 in
theorem caF_2 : ∀ q ∈ lkp [] sd_ft 2, chkF 2 q := List.forall_mem_cons.mpr ⟨ckF_2_9, List.forall_mem_cons.mpr ⟨ckF_2_15, List.forall_mem_cons.mpr ⟨ckF_2_19, List.forall_mem_cons.mpr ⟨ckF_2_22, fun _ h => absurd h List.not_mem_nil⟩⟩⟩⟩
theorem ckF_3_11 : chkF 3 (11, 3, 0, false) := ⟨tw_20, Nat.le_of_ble_eq_true rfl, Nat.le_of_ble_eq_true rfl, rfl⟩
theorem ckF_3_17 : chkF 3 (17, 3, 1, false) := ⟨tw_21, Nat.le_of_ble_eq_true rfl, Nat.le_of_ble_eq_true rfl, rfl⟩
theorem ckF_3_21 : chkF 3 (21, 3, 2, false) := ⟨tw_22, Nat.le_of_ble_eq_true rfl, Nat.le_of_ble_eq_true rfl, rfl⟩
theorem ckF_3_24 : chkF 3 (24, 3, 3, false) := ⟨tw_23, Nat.le_of_ble_eq_true rfl, Nat.le_of_ble_eq_true rfl, rfl⟩
theorem ckF_3_32 : chkF 3 (32, 5, 4, true) := ⟨tw_24, Nat.le_of_ble_eq_true rfl, Nat.le_of_ble_eq_true rfl, rfl⟩
theorem ckF_3_39 : chkF 3 (39, 5, 0, true) := ⟨tw_25, Nat.le_of_ble_eq_true rfl, Nat.le_of_ble_eq_true rfl, rfl⟩
theorem ckF_3_49 : chkF 3 (49, 5, 1, true) := ⟨tw_26, Nat.le_of_ble_eq_true rfl, Nat.le_of_ble_eq_true rfl, rfl⟩
theorem ckF_3_56 : chkF 3 (56, 5, 2, true) := ⟨tw_27, Nat.le_of_ble_eq_true rfl, Nat.le_of_ble_eq_true rfl, rfl⟩
theorem ckF_3_59 : chkF 3 (59, 5, 3, true) := ⟨tw_28, Nat.le_of_ble_eq_true rfl, Nat.le_of_ble_eq_true rfl, rfl⟩
set_option maxRecDepth 20000 in
theorem caF_3 : ∀ q ∈ lkp [] sd_ft 3, chkF 3 q := List.forall_mem_cons.mpr ⟨ckF_3_11, List.forall_mem_cons.mpr ⟨ckF_3_17, List.forall_mem_cons.mpr ⟨ckF_3_21, List.forall_mem_cons.mpr ⟨ckF_3_24, List.forall_mem_cons.mpr ⟨ckF_3_32, List.forall_mem_cons.mpr ⟨ckF_3_39, List.forall_mem_cons.mpr ⟨ckF_3_49, List.forall_mem_cons.mpr ⟨ckF_3_56, List.forall_mem_cons.mpr ⟨ckF_3_59, fun _ h => absurd h List.not_mem_nil⟩⟩⟩⟩⟩⟩⟩⟩⟩
theorem ckF_4_9 : chkF 4 (9, 4, 0, false) := ⟨tw_29, Nat.le_of_ble_eq_true rfl, Nat.le_of_ble_eq_true rfl, rfl⟩
theorem ckF_4_15 : chkF 4 (15, 4, 1, false) := ⟨tw_30, Nat.le_of_ble_eq_true rfl, Nat.le_of_ble_eq_true rfl, rfl⟩
theorem ckF_4_19 : chkF 4 (19, 4, 2, false) := ⟨tw_31, Nat.le_of_ble_eq_true rfl, Nat.le_of_ble_eq_true rfl, rfl⟩
theorem ckF_4_23 : chkF 4 (23, 4, 3, false) := ⟨tw_32, Nat.le_of_ble_eq_true rfl, Nat.le_of_ble_eq_true rfl, rfl⟩
theorem ckF_4_26 : chkF 4 (26, 4, 4, false) := ⟨tw_33, Nat.le_of_ble_eq_true rfl, Nat.le_of_ble_eq_true rfl, rfl⟩
theorem ckF_4_29 : chkF 4 (29, 4, 5, false) := ⟨tw_34, Nat.le_of_ble_eq_true rfl, Nat.le_of_ble_eq_true rfl, rfl⟩
set_option maxRecDepth 20000 in
theorem caF_4 : ∀ q ∈ lkp [] sd_ft 4, chkF 4 q := List.forall_mem_cons.mpr ⟨ckF_4_9, List.forall_mem_cons.mpr ⟨ckF_4_15, List.forall_mem_cons.mpr ⟨ckF_4_19, List.forall_mem_cons.mpr ⟨ckF_4_23, List.forall_mem_cons.mpr ⟨ckF_4_26, List.forall_mem_cons.mpr ⟨ckF_4_29, fun _ h => absurd h List.not_mem_nil⟩⟩⟩⟩⟩⟩
theorem ckF_5_9 : chkF 5 (9, 5, 2, false) := ⟨tw_35, Nat.le_of_ble_eq_true rfl, Nat.le_of_ble_eq_true rfl, rfl⟩
theorem ckF_5_15 : chkF 5 (15, 5, 3, false) := ⟨tw_36, Nat.le_of_ble_eq_true rfl, Nat.le_of_ble_eq_true rfl, rfl⟩
theorem ckF_5_18 : chkF 5 (18, 4, 1, true) := ⟨tw_37, Nat.le_of_ble_eq_true rfl, Nat.le_of_ble_eq_true rfl, rfl⟩
theorem ckF_5_24 : chkF 5 (24, 4, 0, true) := ⟨tw_38, Nat.le_of_ble_eq_true rfl, Nat.le_of_ble_eq_true rfl, rfl⟩
theorem ckF_5_34 : chkF 5 (34, 5, 4, false) := ⟨tw_39, Nat.le_of_ble_eq_true rfl, Nat.le_of_ble_eq_true rfl, rfl⟩
theorem ckF_5_42 : chkF 5 (42, 5, 0, false) := ⟨tw_40, Nat.le_of_ble_eq_true rfl, Nat.le_of_ble_eq_true rfl, rfl⟩
theorem ckF_5_46 : chkF 5 (46, 5, 1, false) := ⟨tw_41, Nat.le_of_ble_eq_true rfl, Nat.le_of_ble_eq_true rfl, rfl⟩
set_option maxRecDepth 20000 in
theorem caF_5 : ∀ q ∈ lkp [] sd_ft 5, chkF 5 q := List.forall_mem_cons.mpr ⟨ckF_5_9, List.forall_mem_cons.mpr ⟨ckF_5_15, List.forall_mem_cons.mpr ⟨ckF_5_18, List.forall_mem_cons.mpr ⟨ckF_5_24, List.forall_mem_cons.mpr ⟨ckF_5_34, List.forall_mem_cons.mpr ⟨ckF_5_42, List.forall_mem_cons.mpr ⟨ckF_5_46, fun _ h => absurd h List.not_mem_nil⟩⟩⟩⟩⟩⟩⟩
theorem ckF_6_12 : chkF 6 (12, 6, 0, false) := ⟨tw_42, Nat.le_of_ble_eq_true rfl, Nat.le_of_ble_eq_true rfl, rfl⟩
theorem ckF_6_21 : chkF 6 (21, 6, 1, false) := ⟨tw_43, Nat.le_of_ble_eq_true rfl, Nat.le_of_ble_eq_true rfl, rfl⟩
theorem ckF_6_25 : chkF 6 (25, 6, 2, false) := ⟨tw_44, Nat.le_of_ble_eq_true rfl, Nat.le_of_ble_eq_true rfl, rfl⟩
theorem ckF_6_29 : chkF 6 (29, 6, 3, false) := ⟨tw_45, Nat.le_of_ble_eq_true rfl, Nat.le_of_ble_eq_true rfl, rfl⟩
set_option maxRecDepth 20000 in
theorem caF_6 : ∀ q ∈ lkp [] sd_ft 6, chkF 6 q := List.forall_mem_cons.mpr ⟨ckF_6_12, List.forall_mem_cons.mpr ⟨ckF_6_21, List.forall_mem_cons.mpr ⟨ckF_6_25, List.forall_mem_cons.mpr ⟨ckF_6_29, fun _ h => absurd h List.not_mem_nil⟩⟩⟩⟩
theorem ckF_7_10 : chkF 7 (10, 7, 0, false) := ⟨tw_46, Nat.le_of_ble_eq_true rfl, Nat.le_of_ble_eq_true rfl, rfl⟩
theorem ckF_7_19 : chkF 7 (19, 7, 1, false) := ⟨tw_47, Nat.le_of_ble_eq_true rfl, Nat.le_of_ble_eq_true rfl, rfl⟩
theorem ckF_7_23 : chkF 7 (23, 7, 2, false) := ⟨tw_48, Nat.le_of_ble_eq_true rfl, Nat.le_of_ble_eq_true rfl, rfl⟩
theorem ckF_7_29 : chkF 7 (29, 7, 3, false) := ⟨tw_49, Nat.le_of_ble_eq_true rfl, Nat.le_of_ble_eq_true rfl, rfl⟩
theorem ckF_7_35 : chkF 7 (35, 7, 4, false) := ⟨tw_50, Nat.le_of_ble_eq_true rfl, Nat.le_of_ble_eq_true rfl, rfl⟩
theorem ckF_7_39 : chkF 7 (39, 7, 5, false) := ⟨tw_51, Nat.le_of_ble_eq_true rfl, Nat.le_of_ble_eq_true rfl, rfl⟩
theorem ckF_7_43 : chkF 7 (43, 7, 6, false) := ⟨tw_52, Nat.le_of_ble_eq_true rfl, Nat.le_of_ble_eq_true rfl, rfl⟩
theorem ckF_7_46 : chkF 7 (46, 7, 7, false) := ⟨tw_53, Nat.le_of_ble_eq_true rfl, Nat.le_of_ble_eq_true rfl, rfl⟩
theorem ckF_7_60 : chkF 7 (60, 4, 1, true) := ⟨tw_54, Nat.le_of_ble_eq_true rfl, Nat.le_of_ble_eq_true rfl, rfl⟩
theorem ckF_7_73 : chkF 7 (73, 6, 0, true) := ⟨tw_55, Nat.le_of_ble_eq_true rfl, Nat.le_of_ble_eq_true rfl, rfl⟩
theorem ckF_7_77 : chkF 7 (77, 3, 3, true) := ⟨tw_56, Nat.le_of_ble_eq_true rfl, Nat.le_of_ble_eq_true rfl, rfl⟩
theorem ckF_7_97 : chkF 7 (97, 3, 1, true) := ⟨tw_57, Nat.le_of_ble_eq_true rfl, Nat.le_of_ble_eq_true rfl, rfl⟩
theorem ckF_7_100 : chkF 7 (100, 3, 2, true) := ⟨tw_58, Nat.le_of_ble_eq_true rfl, Nat.le_of_ble_eq_true rfl, rfl⟩
theorem ckF_7_135 : chkF 7 (135, 6, 1, true) := ⟨tw_59, Nat.le_of_ble_eq_true rfl, Nat.le_of_ble_eq_true rfl, rfl⟩
theorem ckF_7_142 : chkF 7 (142, 0, 9, true) := ⟨tw_60, Nat.le_of_ble_eq_true rfl, Nat.le_of_ble_eq_true rfl, rfl⟩
theorem ckF_7_148 : chkF 7 (148, 0, 10, true) := ⟨tw_61, Nat.le_of_ble_eq_true rfl, Nat.le_of_ble_eq_true rfl, rfl⟩
theorem ckF_7_161 : chkF 7 (161, 0, 0, true) := ⟨tw_62, Nat.le_of_ble_eq_true rfl, Nat.le_of_ble_eq_true rfl, rfl⟩
theorem ckF_7_168 : chkF 7 (168, 0, 11, true) := ⟨tw_63, Nat.le_of_ble_eq_true rfl, Nat.le_of_ble_eq_true rfl, rfl⟩
theorem ckF_7_190 : chkF 7 (190, 0, 8, true) := ⟨tw_64, Nat.le_of_ble_eq_true rfl, Nat.le_of_ble_eq_true rfl, rfl⟩
theorem ckF_7_216 : chkF 7 (216, 6, 3, true) := ⟨tw_65, Nat.le_of_ble_eq_true rfl, Nat.le_of_ble_eq_true rfl, rfl⟩
theorem ckF_7_222 : chkF 7 (222, 6, 2, true) := ⟨tw_66, Nat.le_of_ble_eq_true rfl, Nat.le_of_ble_eq_true rfl, rfl⟩
theorem ckF_7_237 : chkF 7 (237, 1, 2, true) := ⟨tw_67, Nat.le_of_ble_eq_true rfl, Nat.le_of_ble_eq_true rfl, rfl⟩
theorem ckF_7_245 : chkF 7 (245, 1, 1, true) := ⟨tw_68, Nat.le_of_ble_eq_true rfl, Nat.le_of_ble_eq_true rfl, rfl⟩
theorem ckF_7_251 : chkF 7 (251, 1, 0, true) := ⟨tw_69, Nat.le_of_ble_eq_true rfl, Nat.le_of_ble_eq_true rfl, rfl⟩
theorem ckF_7_269 : chkF 7 (269, 0, 6, true) := ⟨tw_70, Nat.le_of_ble_eq_true rfl, Nat.le_of_ble_eq_true rfl, rfl⟩
set_option maxRecDepth 20000 in
theorem caF_7 : ∀ q ∈ lkp [] sd_ft 7, chkF 7 q := List.forall_mem_cons.mpr ⟨ckF_7_10, List.forall_mem_cons.mpr ⟨ckF_7_19, List.forall_mem_cons.mpr ⟨ckF_7_23, List.forall_mem_cons.mpr ⟨ckF_7_29, List.forall_mem_cons.mpr ⟨ckF_7_35, List.forall_mem_cons.mpr ⟨ckF_7_39, List.forall_mem_cons.mpr ⟨ckF_7_43, List.forall_mem_cons.mpr ⟨ckF_7_46, List.forall_mem_cons.mpr ⟨ckF_7_60, List.forall_mem_cons.mpr ⟨ckF_7_73, List.forall_mem_cons.mpr ⟨ckF_7_77, List.forall_mem_cons.mpr ⟨ckF_7_97, List.forall_mem_cons.mpr ⟨ckF_7_100, List.forall_mem_cons.mpr ⟨ckF_7_135, List.forall_mem_cons.mpr ⟨ckF_7_142, List.forall_mem_cons.mpr ⟨ckF_7_148, List.forall_mem_cons.mpr ⟨ckF_7_161, List.forall_mem_cons.mpr ⟨ckF_7_168, List.forall_mem_cons.mpr ⟨ckF_7_190, List.forall_mem_cons.mpr ⟨ckF_7_216, List.forall_mem_cons.mpr ⟨ckF_7_222, List.forall_mem_cons.mpr ⟨ckF_7_237, List.forall_mem_cons.mpr ⟨ckF_7_245, List.forall_mem_cons.mpr ⟨ckF_7_251, List.forall_mem_cons.mpr ⟨ckF_7_269, fun _ h => absurd h List.not_mem_nil⟩⟩⟩⟩⟩⟩⟩⟩⟩⟩⟩⟩⟩⟩⟩⟩⟩⟩⟩⟩⟩⟩⟩⟩⟩
theorem ckF_8_7 : chkF 8 (7, 8, 0, false) := ⟨tw_71, Nat.le_of_ble_eq_true rfl, Nat.le_of_ble_eq_true rfl, rfl⟩
theorem ckF_8_13 : chkF 8 (13, 8, 1, false) := ⟨tw_72, Nat.le_of_ble_eq_true rfl, Nat.le_of_ble_eq_true rfl, rfl⟩
theorem ckF_8_16 : chkF 8 (16, 8, 2, false) := ⟨tw_73, Nat.le_of_ble_eq_true rfl, Nat.le_of_ble_eq_true rfl, rfl⟩
theorem ckF_8_19 : chkF 8 (19, 8, 3, false) := ⟨tw_74, Nat.le_of_ble_eq_true rfl, Nat.le_of_ble_eq_true rfl, rfl⟩
theorem ckF_8_22 : chkF 8 (22, 8, 5, false) := ⟨tw_75, Nat.le_of_ble_eq_true rfl, Nat.le_of_ble_eq_true rfl, rfl⟩
theorem ckF_8_25 : chkF 8 (25, 8, 6, false) := ⟨tw_76, Nat.le_of_ble_eq_true rfl, Nat.le_of_ble_eq_true rfl, rfl⟩
theorem ckF_8_28 : chkF 8 (28, 8, 7, false) := ⟨tw_77, Nat.le_of_ble_eq_true rfl, Nat.le_of_ble_eq_true rfl, rfl⟩
theorem ckF_8_31 : chkF 8 (31, 8, 16, false) := ⟨tw_78, Nat.le_of_ble_eq_true rfl, Nat.le_of_ble_eq_true rfl, rfl⟩
theorem ckF_8_34 : chkF 8 (34, 8, 17, false) := ⟨tw_79, Nat.le_of_ble_eq_true rfl, Nat.le_of_ble_eq_true rfl, rfl⟩
theorem ckF_8_37 : chkF 8 (37, 8, 18, false) := ⟨tw_80, Nat.le_of_ble_eq_true rfl, Nat.le_of_ble_eq_true rfl, rfl⟩
theorem ckF_8_40 : chkF 8 (40, 8, 19, false) := ⟨tw_81, Nat.le_of_ble_eq_true rfl, Nat.le_of_ble_eq_true rfl, rfl⟩
theorem ckF_8_43 : chkF 8 (43, 8, 20, false) := ⟨tw_82, Nat.le_of_ble_eq_true rfl, Nat.le_of_ble_eq_true rfl, rfl⟩
theorem ckF_8_46 : chkF 8 (46, 8, 21, false) := ⟨tw_83, Nat.le_of_ble_eq_true rfl, Nat.le_of_ble_eq_true rfl, rfl⟩
theorem ckF_8_49 : chkF 8 (49, 8, 22, false) := ⟨tw_84, Nat.le_of_ble_eq_true rfl, Nat.le_of_ble_eq_true rfl, rfl⟩
theorem ckF_8_72 : chkF 8 (72, 8, 8, false) := ⟨tw_85, Nat.le_of_ble_eq_true rfl, Nat.le_of_ble_eq_true rfl, rfl⟩
theorem ckF_8_77 : chkF 8 (77, 8, 9, false) := ⟨tw_86, Nat.le_of_ble_eq_true rfl, Nat.le_of_ble_eq_true rfl, rfl⟩
theorem ckF_8_83 : chkF 8 (83, 8, 10, false) := ⟨tw_87, Nat.le_of_ble_eq_true rfl, Nat.le_of_ble_eq_true rfl, rfl⟩
theorem ckF_8_90 : chkF 8 (90, 8, 13, false) := ⟨tw_88, Nat.le_of_ble_eq_true rfl, Nat.le_of_ble_eq_true rfl, rfl⟩
theorem ckF_8_93 : chkF 8 (93, 8, 15, false) := ⟨tw_89, Nat.le_of_ble_eq_true rfl, Nat.le_of_ble_eq_true rfl, rfl⟩
theorem ckF_8_108 : chkF 8 (108, 8, 11, false) := ⟨tw_90, Nat.le_of_ble_eq_true rfl, Nat.le_of_ble_eq_true rfl, rfl⟩
theorem ckF_8_111 : chkF 8 (111, 8, 12, false) := ⟨tw_91, Nat.le_of_ble_eq_true rfl, Nat.le_of_ble_eq_true rfl, rfl⟩
theorem ckF_8_114 : chkF 8 (114, 8, 14, false) := ⟨tw_92, Nat.le_of_ble_eq_true rfl, Nat.le_of_ble_eq_true rfl, rfl⟩
theorem ckF_8_245 : chkF 8 (245, 8, 4, false) := ⟨tw_93, Nat.le_of_ble_eq_true rfl, Nat.le_of_ble_eq_true rfl, rfl⟩
set_option maxRecDepth 20000 in
theorem caF_8 : ∀ q ∈ lkp [] sd_ft 8, chkF 8 q := List.forall_mem_cons.mpr ⟨ckF_8_7, List.forall_mem_cons.mpr ⟨ckF_8_13, List.forall_mem_cons.mpr ⟨ckF_8_16, List.forall_mem_cons.mpr ⟨ckF_8_19, List.forall_mem_cons.mpr ⟨ckF_8_22, List.forall_mem_cons.mpr ⟨ckF_8_25, List.forall_mem_cons.mpr ⟨ckF_8_28, List.forall_mem_cons.mpr ⟨ckF_8_31, List.forall_mem_cons.mpr ⟨ckF_8_34, List.forall_mem_cons.mpr ⟨ckF_8_37, List.forall_mem_cons.mpr ⟨ckF_8_40, List.forall_mem_cons.mpr ⟨ckF_8_43, List.forall_mem_cons.mpr ⟨ckF_8_46, List.forall_mem_cons.mpr ⟨ckF_8_49, List.forall_mem_cons.mpr ⟨ckF_8_72, List.forall_mem_cons.mpr ⟨ckF_8_77, List.forall_mem_cons.mpr ⟨ckF_8_83, List.forall_mem_cons.mpr ⟨ckF_8_90, List.forall_mem_cons.mpr ⟨ckF_8_93, List.forall_mem_cons.mpr ⟨ckF_8_108, List.forall_mem_cons.mpr ⟨ckF_8_111, List.forall_mem_cons.mpr ⟨ckF_8_114, List.forall_mem_cons.mpr ⟨ckF_8_245, fun _ h => absurd h List.not_mem_nil⟩⟩⟩⟩⟩⟩⟩⟩⟩⟩⟩⟩⟩⟩⟩⟩⟩⟩⟩⟩⟩⟩⟩
set_option maxRecDepth 20000 in
theorem caF_9 : ∀ q ∈ lkp [] sd_ft 9, chkF 9 q := fun _ h => absurd h List.not_mem_nil
set_option maxRecDepth 20000 in
theorem caF_10 : ∀ q ∈ lkp [] sd_ft 10, chkF 10 q := fun _ h => absurd h List.not_mem_nil
set_option maxRecDepth 20000 in
theorem caF_11 : ∀ q ∈ lkp [] sd_ft 11, chkF 11 q := fun _ h => absurd h List.not_mem_nil
set_option maxRecDepth 20000 in
theorem caF_12 : ∀ q ∈ lkp [] sd_ft 12, chkF 12 q := fun _ h => absurd h List.not_mem_nil
theorem ckF : ∀ c, ∀ q ∈ lkp [] sd_ft c, chkF c q := by
  intro c
  match c with
  | 0 => exact caF_0
  | 1 => exact caF_1
  | 2 => exact caF_2
  | 3 => exact caF_3
  | 4 => exact caF_4
  | 5 => exact caF_5
  | 6 => exact caF_6
  | 7 => exact caF_7
  | 8 => exact caF_8
  | 9 => exact caF_9
  | 10 => exact caF_10
  | 11 => exact caF_11
  | 12 => exact caF_12
  | n + 13 => exact fun _ h => absurd h List.not_mem_nil
set_option maxRecDepth 20000 in
theorem caK_0 : ∀ q ∈ lkp [] sd_kt 0, chkK 0 q := fun _ h => absurd h List.not_mem_nil
set_option maxRecDepth 20000 in
theorem caK_1 : ∀ q ∈ lkp [] sd_kt 1, chkK 1 q := fun _ h => absurd h List.not_mem_nil
set_option maxRecDepth 20000 in
theorem caK_2 : ∀ q ∈ lkp [] sd_kt 2, chkK 2 q := fun _ h => absurd h List.not_mem_nil
set_option maxRecDepth 20000 in
theorem caK_3 : ∀ q ∈ lkp [] sd_kt 3, chkK 3 q := fun _ h => absurd h List.not_mem_nil
set_option maxRecDepth 20000 in
theorem caK_4 : ∀ q ∈ lkp [] sd_kt 4, chkK 4 q := fun _ h => absurd h List.not_mem_nil
set_option maxRecDepth 20000 in
theorem caK_5 : ∀ q ∈ lkp [] sd_kt 5, chkK 5 q := fun _ h => absurd h List.not_mem_nil
theorem ckK_6_52 : chkK 6 (52, (1103515245)) := tw_94
set_option maxRecDepth 20000 in
theorem caK_6 : ∀ q ∈ lkp [] sd_kt 6, chkK 6 q := List.forall_mem_cons.mpr ⟨ckK_6_52, fun _ h => absurd h List.not_mem_nil⟩
theorem ckK_7_55 : chkK 7 (55, (-1000001)) := tw_95
theorem ckK_7_64 : chkK 7 (64, (-1000002)) := tw_96
theorem ckK_7_125 : chkK 7 (125, (-1000004)) := tw_97
theorem ckK_7_164 : chkK 7 (164, (-1000005)) := tw_98
theorem ckK_7_225 : chkK 7 (225, (-1000006)) := tw_99
theorem ckK_7_229 : chkK 7 (229, (-1000003)) := tw_100
theorem ckK_7_233 : chkK 7 (233, (-1000007)) := tw_101
set_option maxRecDepth 20000 in
theorem caK_7 : ∀ q ∈ lkp [] sd_kt 7, chkK 7 q := List.forall_mem_cons.mpr ⟨ckK_7_55, List.forall_mem_cons.mpr ⟨ckK_7_64, List.forall_mem_cons.mpr ⟨ckK_7_125, List.forall_mem_cons.mpr ⟨ckK_7_164, List.forall_mem_cons.mpr ⟨ckK_7_225, List.forall_mem_cons.mpr ⟨ckK_7_229, List.forall_mem_cons.mpr ⟨ckK_7_233, fun _ h => absurd h List.not_mem_nil⟩⟩⟩⟩⟩⟩⟩
theorem ckK_8_56 : chkK 8 (56, (-1000001)) := tw_102
theorem ckK_8_65 : chkK 8 (65, (1103515245)) := tw_103
theorem ckK_8_76 : chkK 8 (76, (-1000002)) := tw_104
theorem ckK_8_158 : chkK 8 (158, (-1000004)) := tw_105
theorem ckK_8_182 : chkK 8 (182, (-1000005)) := tw_106
theorem ckK_8_233 : chkK 8 (233, (-1000006)) := tw_107
theorem ckK_8_234 : chkK 8 (234, (-1000003)) := tw_108
theorem ckK_8_238 : chkK 8 (238, (-1000007)) := tw_109
set_option maxRecDepth 20000 in
theorem caK_8 : ∀ q ∈ lkp [] sd_kt 8, chkK 8 q := List.forall_mem_cons.mpr ⟨ckK_8_56, List.forall_mem_cons.mpr ⟨ckK_8_65, List.forall_mem_cons.mpr ⟨ckK_8_76, List.forall_mem_cons.mpr ⟨ckK_8_158, List.forall_mem_cons.mpr ⟨ckK_8_182, List.forall_mem_cons.mpr ⟨ckK_8_233, List.forall_mem_cons.mpr ⟨ckK_8_234, List.forall_mem_cons.mpr ⟨ckK_8_238, fun _ h => absurd h List.not_mem_nil⟩⟩⟩⟩⟩⟩⟩⟩
set_option maxRecDepth 20000 in
theorem caK_9 : ∀ q ∈ lkp [] sd_kt 9, chkK 9 q := fun _ h => absurd h List.not_mem_nil
theorem ckK_10_265 : chkK 10 (265, (1431655765)) := tw_110
theorem ckK_10_266 : chkK 10 (266, (858993459)) := tw_111
theorem ckK_10_267 : chkK 10 (267, (252645135)) := tw_112
set_option maxRecDepth 20000 in
theorem caK_10 : ∀ q ∈ lkp [] sd_kt 10, chkK 10 q := List.forall_mem_cons.mpr ⟨ckK_10_265, List.forall_mem_cons.mpr ⟨ckK_10_266, List.forall_mem_cons.mpr ⟨ckK_10_267, fun _ h => absurd h List.not_mem_nil⟩⟩⟩
set_option maxRecDepth 20000 in
theorem caK_11 : ∀ q ∈ lkp [] sd_kt 11, chkK 11 q := fun _ h => absurd h List.not_mem_nil
set_option maxRecDepth 20000 in
theorem caK_12 : ∀ q ∈ lkp [] sd_kt 12, chkK 12 q := fun _ h => absurd h List.not_mem_nil
theorem ckK : ∀ c, ∀ q ∈ lkp [] sd_kt c, chkK c q := by
  intro c
  match c with
  | 0 => exact caK_0
  | 1 => exact caK_1
  | 2 => exact caK_2
  | 3 => exact caK_3
  | 4 => exact caK_4
  | 5 => exact caK_5
  | 6 => exact caK_6
  | 7 => exact caK_7
  | 8 => exact caK_8
  | 9 => exact caK_9
  | 10 => exact caK_10
  | 11 => exact caK_11
  | 12 => exact caK_12
  | n + 13 => exact fun _ h => absurd h List.not_mem_nil
set_option maxRecDepth 20000 in
theorem caL_0 : ∀ q ∈ lkp [] sd_lt 0, chkL 0 q := fun _ h => absurd h List.not_mem_nil
set_option maxRecDepth 20000 in
theorem caL_1 : ∀ q ∈ lkp [] sd_lt 1, chkL 1 q := fun _ h => absurd h List.not_mem_nil
set_option maxRecDepth 20000 in
theorem caL_2 : ∀ q ∈ lkp [] sd_lt 2, chkL 2 q := fun _ h => absurd h List.not_mem_nil
set_option maxRecDepth 20000 in
theorem caL_3 : ∀ q ∈ lkp [] sd_lt 3, chkL 3 q := fun _ h => absurd h List.not_mem_nil
set_option maxRecDepth 20000 in
theorem caL_4 : ∀ q ∈ lkp [] sd_lt 4, chkL 4 q := fun _ h => absurd h List.not_mem_nil
set_option maxRecDepth 20000 in
theorem caL_5 : ∀ q ∈ lkp [] sd_lt 5, chkL 5 q := fun _ h => absurd h List.not_mem_nil
set_option maxRecDepth 20000 in
theorem caL_6 : ∀ q ∈ lkp [] sd_lt 6, chkL 6 q := fun _ h => absurd h List.not_mem_nil
set_option maxRecDepth 20000 in
theorem caL_7 : ∀ q ∈ lkp [] sd_lt 7, chkL 7 q := fun _ h => absurd h List.not_mem_nil
theorem ckL_8_61 : chkL 8 (61, (9)) := tw_113
theorem ckL_8_63 : chkL 8 (63, (99)) := tw_114
theorem ckL_8_66 : chkL 8 (66, (4)) := tw_115
theorem ckL_8_86 : chkL 8 (86, (48)) := tw_116
theorem ckL_8_88 : chkL 8 (88, (57)) := tw_117
theorem ckL_8_121 : chkL 8 (121, (6)) := tw_118
theorem ckL_8_147 : chkL 8 (147, (3)) := tw_119
theorem ckL_8_159 : chkL 8 (159, (999)) := tw_120
theorem ckL_8_161 : chkL 8 (161, (19)) := tw_121
theorem ckL_8_169 : chkL 8 (169, (8)) := tw_122
theorem ckL_8_174 : chkL 8 (174, (10)) := tw_123
theorem ckL_8_198 : chkL 8 (198, (100)) := tw_124
theorem ckL_8_209 : chkL 8 (209, (200)) := tw_125
theorem ckL_8_211 : chkL 8 (211, (2)) := tw_126
theorem ckL_8_231 : chkL 8 (231, (480)) := tw_127
theorem ckL_8_248 : chkL 8 (248, (-1)) := tw_128
set_option maxRecDepth 20000 in
theorem caL_8 : ∀ q ∈ lkp [] sd_lt 8, chkL 8 q := List.forall_mem_cons.mpr ⟨ckL_8_61, List.forall_mem_cons.mpr ⟨ckL_8_63, List.forall_mem_cons.mpr ⟨ckL_8_66, List.forall_mem_cons.mpr ⟨ckL_8_86, List.forall_mem_cons.mpr ⟨ckL_8_88, List.forall_mem_cons.mpr ⟨ckL_8_121, List.forall_mem_cons.mpr ⟨ckL_8_147, List.forall_mem_cons.mpr ⟨ckL_8_159, List.forall_mem_cons.mpr ⟨ckL_8_161, List.forall_mem_cons.mpr ⟨ckL_8_169, List.forall_mem_cons.mpr ⟨ckL_8_174, List.forall_mem_cons.mpr ⟨ckL_8_198, List.forall_mem_cons.mpr ⟨ckL_8_209, List.forall_mem_cons.mpr ⟨ckL_8_211, List.forall_mem_cons.mpr ⟨ckL_8_231, List.forall_mem_cons.mpr ⟨ckL_8_248, fun _ h => absurd h List.not_mem_nil⟩⟩⟩⟩⟩⟩⟩⟩⟩⟩⟩⟩⟩⟩⟩⟩
set_option maxRecDepth 20000 in
theorem caL_9 : ∀ q ∈ lkp [] sd_lt 9, chkL 9 q := fun _ h => absurd h List.not_mem_nil
set_option maxRecDepth 20000 in
theorem caL_10 : ∀ q ∈ lkp [] sd_lt 10, chkL 10 q := fun _ h => absurd h List.not_mem_nil
set_option maxRecDepth 20000 in
theorem caL_11 : ∀ q ∈ lkp [] sd_lt 11, chkL 11 q := fun _ h => absurd h List.not_mem_nil
set_option maxRecDepth 20000 in
theorem caL_12 : ∀ q ∈ lkp [] sd_lt 12, chkL 12 q := fun _ h => absurd h List.not_mem_nil
theorem ckL : ∀ c, ∀ q ∈ lkp [] sd_lt c, chkL c q := by
  intro c
  match c with
  | 0 => exact caL_0
  | 1 => exact caL_1
  | 2 => exact caL_2
  | 3 => exact caL_3
  | 4 => exact caL_4
  | 5 => exact caL_5
  | 6 => exact caL_6
  | 7 => exact caL_7
  | 8 => exact caL_8
  | 9 => exact caL_9
  | 10 => exact caL_10
  | 11 => exact caL_11
  | 12 => exact caL_12
  | n + 13 => exact fun _ h => absurd h List.not_mem_nil
set_option maxRecDepth 20000 in
theorem caN_0 : ∀ q ∈ lkp [] sd_nt 0, chkN 0 q := fun _ h => absurd h List.not_mem_nil
set_option maxRecDepth 20000 in
theorem caN_1 : ∀ q ∈ lkp [] sd_nt 1, chkN 1 q := fun _ h => absurd h List.not_mem_nil
set_option maxRecDepth 20000 in
theorem caN_2 : ∀ q ∈ lkp [] sd_nt 2, chkN 2 q := fun _ h => absurd h List.not_mem_nil
theorem ckN_3_9 : chkN 3 (9, 5) := ⟨tw_129, tw_130, tw_131, Nat.le_of_ble_eq_true rfl, rfl⟩
set_option maxRecDepth 20000 in
theorem caN_3 : ∀ q ∈ lkp [] sd_nt 3, chkN 3 q := List.forall_mem_cons.mpr ⟨ckN_3_9, fun _ h => absurd h List.not_mem_nil⟩
set_option maxRecDepth 20000 in
theorem caN_4 : ∀ q ∈ lkp [] sd_nt 4, chkN 4 q := fun _ h => absurd h List.not_mem_nil
theorem ckN_5_37 : chkN 5 (37, 2) := ⟨tw_132, tw_133, tw_134, Nat.le_of_ble_eq_true rfl, rfl⟩
set_option maxRecDepth 20000 in
theorem caN_5 : ∀ q ∈ lkp [] sd_nt 5, chkN 5 q := List.forall_mem_cons.mpr ⟨ckN_5_37, fun _ h => absurd h List.not_mem_nil⟩
theorem ckN_6_9 : chkN 6 (9, 3) := ⟨tw_135, tw_136, tw_137, Nat.le_of_ble_eq_true rfl, rfl⟩
theorem ckN_6_18 : chkN 6 (18, 0) := ⟨tw_138, tw_139, tw_140, Nat.le_of_ble_eq_true rfl, rfl⟩
set_option maxRecDepth 20000 in
theorem caN_6 : ∀ q ∈ lkp [] sd_nt 6, chkN 6 q := List.forall_mem_cons.mpr ⟨ckN_6_9, List.forall_mem_cons.mpr ⟨ckN_6_18, fun _ h => absurd h List.not_mem_nil⟩⟩
theorem ckN_7_7 : chkN 7 (7, 4) := ⟨tw_141, tw_142, tw_143, Nat.le_of_ble_eq_true rfl, rfl⟩
theorem ckN_7_16 : chkN 7 (16, 6) := ⟨tw_144, tw_145, tw_146, Nat.le_of_ble_eq_true rfl, rfl⟩
theorem ckN_7_26 : chkN 7 (26, 0) := ⟨tw_147, tw_139, tw_140, Nat.le_of_ble_eq_true rfl, rfl⟩
theorem ckN_7_33 : chkN 7 (33, 1) := ⟨tw_148, tw_149, tw_150, Nat.le_of_ble_eq_true rfl, rfl⟩
theorem ckN_7_86 : chkN 7 (86, 5) := ⟨tw_151, tw_130, tw_131, Nat.le_of_ble_eq_true rfl, rfl⟩
set_option maxRecDepth 20000 in
theorem caN_7 : ∀ q ∈ lkp [] sd_nt 7, chkN 7 q := List.forall_mem_cons.mpr ⟨ckN_7_7, List.forall_mem_cons.mpr ⟨ckN_7_16, List.forall_mem_cons.mpr ⟨ckN_7_26, List.forall_mem_cons.mpr ⟨ckN_7_33, List.forall_mem_cons.mpr ⟨ckN_7_86, fun _ h => absurd h List.not_mem_nil⟩⟩⟩⟩⟩
set_option maxRecDepth 20000 in
theorem caN_8 : ∀ q ∈ lkp [] sd_nt 8, chkN 8 q := fun _ h => absurd h List.not_mem_nil
theorem ckN_9_7 : chkN 9 (7, 7) := ⟨tw_152, tw_153, tw_154, Nat.le_of_ble_eq_true rfl, rfl⟩
theorem ckN_9_10 : chkN 9 (10, 8) := ⟨tw_155, tw_156, tw_157, Nat.le_of_ble_eq_true rfl, rfl⟩
set_option maxRecDepth 20000 in
theorem caN_9 : ∀ q ∈ lkp [] sd_nt 9, chkN 9 q := List.forall_mem_cons.mpr ⟨ckN_9_7, List.forall_mem_cons.mpr ⟨ckN_9_10, fun _ h => absurd h List.not_mem_nil⟩⟩
set_option maxRecDepth 20000 in
theorem caN_10 : ∀ q ∈ lkp [] sd_nt 10, chkN 10 q := fun _ h => absurd h List.not_mem_nil
set_option maxRecDepth 20000 in
theorem caN_11 : ∀ q ∈ lkp [] sd_nt 11, chkN 11 q := fun _ h => absurd h List.not_mem_nil
set_option maxRecDepth 20000 in
theorem caN_12 : ∀ q ∈ lkp [] sd_nt 12, chkN 12 q := fun _ h => absurd h List.not_mem_nil
theorem ckN : ∀ c, ∀ q ∈ lkp [] sd_nt c, chkN c q := by
  intro c
  match c with
  | 0 => exact caN_0
  | 1 => exact caN_1
  | 2 => exact caN_2
  | 3 => exact caN_3
  | 4 => exact caN_4
  | 5 => exact caN_5
  | 6 => exact caN_6
  | 7 => exact caN_7
  | 8 => exact caN_8
  | 9 => exact caN_9
  | 10 => exact caN_10
  | 11 => exact caN_11
  | 12 => exact caN_12
  | n + 13 => exact fun _ h => absurd h List.not_mem_nil
set_option maxRecDepth 20000 in
theorem caS_0 : ∀ q ∈ lkp [] sd_st 0, chkS 0 q := fun _ h => absurd h List.not_mem_nil
set_option maxRecDepth 20000 in
theorem caS_1 : ∀ q ∈ lkp [] sd_st 1, chkS 1 q := fun _ h => absurd h List.not_mem_nil
set_option maxRecDepth 20000 in
theorem caS_2 : ∀ q ∈ lkp [] sd_st 2, chkS 2 q := fun _ h => absurd h List.not_mem_nil
set_option maxRecDepth 20000 in
theorem caS_3 : ∀ q ∈ lkp [] sd_st 3, chkS 3 q := fun _ h => absurd h List.not_mem_nil
set_option maxRecDepth 20000 in
theorem caS_4 : ∀ q ∈ lkp [] sd_st 4, chkS 4 q := fun _ h => absurd h List.not_mem_nil
set_option maxRecDepth 20000 in
theorem caS_5 : ∀ q ∈ lkp [] sd_st 5, chkS 5 q := fun _ h => absurd h List.not_mem_nil
set_option maxRecDepth 20000 in
theorem caS_6 : ∀ q ∈ lkp [] sd_st 6, chkS 6 q := fun _ h => absurd h List.not_mem_nil
theorem ckS_7_129 : chkS 7 (129, 1) := ⟨tw_158, Nat.le_of_ble_eq_true rfl⟩
theorem ckS_7_132 : chkS 7 (132, 2) := ⟨tw_159, Nat.le_of_ble_eq_true rfl⟩
theorem ckS_7_263 : chkS 7 (263, 0) := ⟨tw_160, Nat.le_of_ble_eq_true rfl⟩
set_option maxRecDepth 20000 in
theorem caS_7 : ∀ q ∈ lkp [] sd_st 7, chkS 7 q := List.forall_mem_cons.mpr ⟨ckS_7_129, List.forall_mem_cons.mpr ⟨ckS_7_132, List.forall_mem_cons.mpr ⟨ckS_7_263, fun _ h => absurd h List.not_mem_nil⟩⟩⟩
set_option maxRecDepth 20000 in
theorem caS_8 : ∀ q ∈ lkp [] sd_st 8, chkS 8 q := fun _ h => absurd h List.not_mem_nil
set_option maxRecDepth 20000 in
theorem caS_9 : ∀ q ∈ lkp [] sd_st 9, chkS 9 q := fun _ h => absurd h List.not_mem_nil
set_option maxRecDepth 20000 in
theorem caS_10 : ∀ q ∈ lkp [] sd_st 10, chkS 10 q := fun _ h => absurd h List.not_mem_nil
set_option maxRecDepth 20000 in
theorem caS_11 : ∀ q ∈ lkp [] sd_st 11, chkS 11 q := fun _ h => absurd h List.not_mem_nil
set_option maxRecDepth 20000 in
theorem caS_12 : ∀ q ∈ lkp [] sd_st 12, chkS 12 q := fun _ h => absurd h List.not_mem_nil
theorem ckS : ∀ c, ∀ q ∈ lkp [] sd_st c, chkS c q := by
  intro c
  match c with
  | 0 => exact caS_0
  | 1 => exact caS_1
  | 2 => exact caS_2
  | 3 => exact caS_3
  | 4 => exact caS_4
  | 5 => exact caS_5
  | 6 => exact caS_6
  | 7 => exact caS_7
  | 8 => exact caS_8
  | 9 => exact caS_9
  | 10 => exact caS_10
  | 11 => exact caS_11
  | 12 => exact caS_12
  | n + 13 => exact fun _ h => absurd h List.not_mem_nil
theorem ckC_0_3 : chkC 0 (3, 6, 0, 0, 0) := ⟨tw_161, tw_162, tw_163⟩
theorem ckC_0_53 : chkC 0 (53, 0, 12, 0, 2) := ⟨_, rfl, tw_164, tw_165, tw_166, (by decide +kernel), tw_167⟩
theorem ckC_0_59 : chkC 0 (59, 1, 0, 1, 1) := ⟨_, rfl, tw_168, tw_140, tw_169, (by decide +kernel), ⟨tw_170, tw_171, Nat.le_of_ble_eq_true rfl, rfl⟩⟩
theorem ckC_0_63 : chkC 0 (63, 7, 0, 0, 0) := ⟨tw_172, tw_173, tw_174, tw_175⟩
theorem ckC_0_69 : chkC 0 (69, 0, 0, 7, 2) := ⟨_, rfl, tw_176, tw_140, tw_177, (by decide +kernel), tw_178⟩
theorem ckC_0_73 : chkC 0 (73, 3, 7, 46, 1) := ⟨_, rfl, tw_179, tw_154, tw_180, (by decide +kernel), tw_181⟩
theorem ckC_0_77 : chkC 0 (77, 0, 11, 1, 2) := ⟨_, rfl, tw_182, tw_183, tw_184, (by decide +kernel), tw_185⟩
theorem ckC_0_83 : chkC 0 (83, 0, 11, 0, 2) := ⟨_, rfl, tw_186, tw_183, tw_187, (by decide +kernel), tw_188⟩
theorem ckC_0_86 : chkC 0 (86, 4, 3, 4, 1) := ⟨_, rfl, tw_189, tw_137, tw_190, (by decide +kernel), ⟨tw_191, tw_192, Nat.le_of_ble_eq_true rfl, rfl⟩⟩
theorem ckC_0_92 : chkC 0 (92, 4, 3, 1, 1) := ⟨_, rfl, tw_193, tw_137, tw_194, (by decide +kernel), ⟨tw_195, tw_196, Nat.le_of_ble_eq_true rfl, rfl⟩⟩
theorem ckC_0_95 : chkC 0 (95, 1, 0, 6, 0) := ⟨_, rfl, tw_197, tw_140, tw_198, (by decide +kernel), ⟨tw_199, tw_200, Nat.le_of_ble_eq_true rfl, rfl⟩⟩
theorem ckC_0_99 : chkC 0 (99, 1, 0, 4, 0) := ⟨_, rfl, tw_201, tw_140, tw_202, (by decide +kernel), ⟨tw_203, tw_204, Nat.le_of_ble_eq_true rfl, rfl⟩⟩
theorem ckC_0_102 : chkC 0 (102, 1, 0, 14, 3) := ⟨_, rfl, tw_205, tw_140, tw_206, (by decide +kernel), ⟨tw_207, tw_208, Nat.le_of_ble_eq_true rfl, rfl⟩⟩
theorem ckC_0_106 : chkC 0 (106, 1, 0, 15, 1) := ⟨_, rfl, tw_209, tw_140, tw_210, (by decide +kernel), ⟨tw_211, tw_212, Nat.le_of_ble_eq_true rfl, rfl⟩⟩
theorem ckC_0_110 : chkC 0 (110, 1, 0, 17, 2) := ⟨_, rfl, tw_213, tw_140, tw_214, (by decide +kernel), ⟨tw_215, tw_216, Nat.le_of_ble_eq_true rfl, rfl⟩⟩
theorem ckC_0_114 : chkC 0 (114, 1, 0, 19, 1) := ⟨_, rfl, tw_217, tw_140, tw_218, (by decide +kernel), ⟨tw_219, tw_220, Nat.le_of_ble_eq_true rfl, rfl⟩⟩
theorem ckC_0_117 : chkC 0 (117, 1, 0, 12, 1) := ⟨_, rfl, tw_221, tw_140, tw_222, (by decide +kernel), ⟨tw_223, tw_224, Nat.le_of_ble_eq_true rfl, rfl⟩⟩
theorem ckC_0_120 : chkC 0 (120, 4, 3, 6, 2) := ⟨_, rfl, tw_225, tw_137, tw_226, (by decide +kernel), ⟨tw_227, tw_228, Nat.le_of_ble_eq_true rfl, rfl⟩⟩
theorem ckC_0_124 : chkC 0 (124, 1, 0, 16, 0) := ⟨_, rfl, tw_229, tw_140, tw_230, (by decide +kernel), ⟨tw_231, tw_232, Nat.le_of_ble_eq_true rfl, rfl⟩⟩
theorem ckC_0_127 : chkC 0 (127, 1, 0, 9, 2) := ⟨_, rfl, tw_233, tw_140, tw_234, (by decide +kernel), ⟨tw_235, tw_236, Nat.le_of_ble_eq_true rfl, rfl⟩⟩
theorem ckC_0_130 : chkC 0 (130, 1, 0, 13, 1) := ⟨_, rfl, tw_237, tw_140, tw_238, (by decide +kernel), ⟨tw_239, tw_240, Nat.le_of_ble_eq_true rfl, rfl⟩⟩
theorem ckC_0_133 : chkC 0 (133, 1, 0, 18, 2) := ⟨_, rfl, tw_241, tw_140, tw_242, (by decide +kernel), ⟨tw_243, tw_244, Nat.le_of_ble_eq_true rfl, rfl⟩⟩
set_option maxRecDepth 20000 in
theorem caC_0 : ∀ q ∈ lkp [] sd_ct 0, chkC 0 q := List.forall_mem_cons.mpr ⟨ckC_0_3, List.forall_mem_cons.mpr ⟨ckC_0_53, List.forall_mem_cons.mpr ⟨ckC_0_59, List.forall_mem_cons.mpr ⟨ckC_0_63, List.forall_mem_cons.mpr ⟨ckC_0_69, List.forall_mem_cons.mpr ⟨ckC_0_73, List.forall_mem_cons.mpr ⟨ckC_0_77, List.forall_mem_cons.mpr ⟨ckC_0_83, List.forall_mem_cons.mpr ⟨ckC_0_86, List.forall_mem_cons.mpr ⟨ckC_0_92, List.forall_mem_cons.mpr ⟨ckC_0_95, List.forall_mem_cons.mpr ⟨ckC_0_99, List.forall_mem_cons.mpr ⟨ckC_0_102, List.forall_mem_cons.mpr ⟨ckC_0_106, List.forall_mem_cons.mpr ⟨ckC_0_110, List.forall_mem_cons.mpr ⟨ckC_0_114, List.forall_mem_cons.mpr ⟨ckC_0_117, List.forall_mem_cons.mpr ⟨ckC_0_120, List.forall_mem_cons.mpr ⟨ckC_0_124, List.forall_mem_cons.mpr ⟨ckC_0_127, List.forall_mem_cons.mpr ⟨ckC_0_130, List.forall_mem_cons.mpr ⟨ckC_0_133, fun _ h => absurd h List.not_mem_nil⟩⟩⟩⟩⟩⟩⟩⟩⟩⟩⟩⟩⟩⟩⟩⟩⟩⟩⟩⟩⟩⟩
theorem ckC_1_3 : chkC 1 (3, 6, 0, 0, 0) := ⟨tw_245, tw_162, tw_163⟩
theorem ckC_1_22 : chkC 1 (22, 0, 12, 0, 2) := ⟨_, rfl, tw_246, tw_165, tw_166, (by decide +kernel), tw_167⟩
theorem ckC_1_28 : chkC 1 (28, 1, 1, 4, 1) := ⟨_, rfl, tw_247, tw_150, tw_248, (by decide +kernel), ⟨tw_249, tw_250, Nat.le_of_ble_eq_true rfl, rfl⟩⟩
set_option maxRecDepth 20000 in
theorem caC_1 : ∀ q ∈ lkp [] sd_ct 1, chkC 1 q := List.forall_mem_cons.mpr ⟨ckC_1_3, List.forall_mem_cons.mpr ⟨ckC_1_22, List.forall_mem_cons.mpr ⟨ckC_1_28, fun _ h => absurd h List.not_mem_nil⟩⟩⟩
theorem ckC_2_3 : chkC 2 (3, 6, 0, 0, 0) := ⟨tw_251, tw_162, tw_163⟩
theorem ckC_2_25 : chkC 2 (25, 0, 11, 0, 2) := ⟨_, rfl, tw_252, tw_183, tw_187, (by decide +kernel), tw_188⟩
theorem ckC_2_31 : chkC 2 (31, 3, 4, 5, 1) := ⟨_, rfl, tw_253, tw_143, tw_254, (by decide +kernel), tw_255⟩
theorem ckC_2_37 : chkC 2 (37, 1, 2, 1, 1) := ⟨_, rfl, tw_256, tw_134, tw_257, (by decide +kernel), ⟨tw_258, tw_259, Nat.le_of_ble_eq_true rfl, rfl⟩⟩
theorem ckC_2_41 : chkC 2 (41, 1, 2, 5, 1) := ⟨_, rfl, tw_260, tw_134, tw_261, (by decide +kernel), ⟨tw_262, tw_263, Nat.le_of_ble_eq_true rfl, rfl⟩⟩
theorem ckC_2_44 : chkC 2 (44, 1, 2, 4, 1) := ⟨_, rfl, tw_264, tw_134, tw_265, (by decide +kernel), ⟨tw_266, tw_267, Nat.le_of_ble_eq_true rfl, rfl⟩⟩
theorem ckC_2_47 : chkC 2 (47, 1, 2, 2, 1) := ⟨_, rfl, tw_268, tw_134, tw_269, (by decide +kernel), ⟨tw_270, tw_271, Nat.le_of_ble_eq_true rfl, rfl⟩⟩
theorem ckC_2_50 : chkC 2 (50, 1, 2, 6, 1) := ⟨_, rfl, tw_272, tw_134, tw_273, (by decide +kernel), ⟨tw_274, tw_275, Nat.le_of_ble_eq_true rfl, rfl⟩⟩
theorem ckC_2_53 : chkC 2 (53, 0, 2, 3, 1) := ⟨_, rfl, tw_276, tw_134, tw_277, (by decide +kernel), tw_278⟩
theorem ckC_2_57 : chkC 2 (57, 0, 2, 8, 3) := ⟨_, rfl, tw_279, tw_134, tw_280, (by decide +kernel), tw_281⟩
set_option maxRecDepth 20000 in
theorem caC_2 : ∀ q ∈ lkp [] sd_ct 2, chkC 2 q := List.forall_mem_cons.mpr ⟨ckC_2_3, List.forall_mem_cons.mpr ⟨ckC_2_25, List.forall_mem_cons.mpr ⟨ckC_2_31, List.forall_mem_cons.mpr ⟨ckC_2_37, List.forall_mem_cons.mpr ⟨ckC_2_41, List.forall_mem_cons.mpr ⟨ckC_2_44, List.forall_mem_cons.mpr ⟨ckC_2_47, List.forall_mem_cons.mpr ⟨ckC_2_50, List.forall_mem_cons.mpr ⟨ckC_2_53, List.forall_mem_cons.mpr ⟨ckC_2_57, fun _ h => absurd h List.not_mem_nil⟩⟩⟩⟩⟩⟩⟩⟩⟩⟩
theorem ckC_3_3 : chkC 3 (3, 6, 0, 0, 0) := ⟨tw_282, tw_162, tw_163⟩
theorem ckC_3_28 : chkC 3 (28, 1, 3, 1, 1) := ⟨_, rfl, tw_283, tw_137, tw_194, (by decide +kernel), ⟨tw_195, tw_196, Nat.le_of_ble_eq_true rfl, rfl⟩⟩
theorem ckC_3_35 : chkC 3 (35, 3, 7, 50, 2) := ⟨_, rfl, tw_284, tw_154, tw_285, (by decide +kernel), tw_286⟩
theorem ckC_3_43 : chkC 3 (43, 4, 2, 7, 1) := ⟨_, rfl, tw_287, tw_134, tw_288, (by decide +kernel), ⟨tw_289, tw_290, Nat.le_of_ble_eq_true rfl, rfl⟩⟩
theorem ckC_3_52 : chkC 3 (52, 1, 3, 8, 3) := ⟨_, rfl, tw_291, tw_137, tw_292, (by decide +kernel), ⟨tw_293, tw_294, Nat.le_of_ble_eq_true rfl, rfl⟩⟩
theorem ckC_3_62 : chkC 3 (62, 0, 3, 9, 2) := ⟨_, rfl, tw_295, tw_137, tw_296, (by decide +kernel), tw_297⟩
theorem ckC_3_65 : chkC 3 (65, 3, 7, 43, 3) := ⟨_, rfl, tw_298, tw_154, tw_299, (by decide +kernel), tw_300⟩
set_option maxRecDepth 20000 in
theorem caC_3 : ∀ q ∈ lkp [] sd_ct 3, chkC 3 q := List.forall_mem_cons.mpr ⟨ckC_3_3, List.forall_mem_cons.mpr ⟨ckC_3_28, List.forall_mem_cons.mpr ⟨ckC_3_35, List.forall_mem_cons.mpr ⟨ckC_3_43, List.forall_mem_cons.mpr ⟨ckC_3_52, List.forall_mem_cons.mpr ⟨ckC_3_62, List.forall_mem_cons.mpr ⟨ckC_3_65, fun _ h => absurd h List.not_mem_nil⟩⟩⟩⟩⟩⟩⟩
theorem ckC_4_3 : chkC 4 (3, 6, 0, 0, 0) := ⟨tw_301, tw_162, tw_163⟩
theorem ckC_4_32 : chkC 4 (32, 1, 4, 3, 1) := ⟨_, rfl, tw_302, tw_143, tw_303, (by decide +kernel), ⟨tw_304, tw_305, Nat.le_of_ble_eq_true rfl, rfl⟩⟩
theorem ckC_4_36 : chkC 4 (36, 1, 4, 4, 1) := ⟨_, rfl, tw_306, tw_143, tw_307, (by decide +kernel), ⟨tw_308, tw_309, Nat.le_of_ble_eq_true rfl, rfl⟩⟩
theorem ckC_4_39 : chkC 4 (39, 0, 4, 5, 1) := ⟨_, rfl, tw_310, tw_143, tw_254, (by decide +kernel), tw_255⟩
theorem ckC_4_42 : chkC 4 (42, 0, 4, 6, 1) := ⟨_, rfl, tw_311, tw_143, tw_312, (by decide +kernel), tw_313⟩
set_option maxRecDepth 20000 in
theorem caC_4 : ∀ q ∈ lkp [] sd_ct 4, chkC 4 q := List.forall_mem_cons.mpr ⟨ckC_4_3, List.forall_mem_cons.mpr ⟨ckC_4_32, List.forall_mem_cons.mpr ⟨ckC_4_36, List.forall_mem_cons.mpr ⟨ckC_4_39, List.forall_mem_cons.mpr ⟨ckC_4_42, fun _ h => absurd h List.not_mem_nil⟩⟩⟩⟩⟩
theorem ckC_5_3 : chkC 5 (3, 6, 0, 0, 0) := ⟨tw_314, tw_162, tw_163⟩
theorem ckC_5_27 : chkC 5 (27, 3, 4, 5, 1) := ⟨_, rfl, tw_315, tw_143, tw_254, (by decide +kernel), tw_255⟩
theorem ckC_5_31 : chkC 5 (31, 3, 4, 6, 1) := ⟨_, rfl, tw_316, tw_143, tw_312, (by decide +kernel), tw_313⟩
theorem ckC_5_39 : chkC 5 (39, 5, 2, 0, 3) := ⟨_, rfl, tw_317, tw_134, tw_318, (by decide +kernel), ⟨tw_319, rfl, rfl⟩⟩
theorem ckC_5_49 : chkC 5 (49, 4, 2, 7, 1) := ⟨_, rfl, tw_320, tw_134, tw_288, (by decide +kernel), ⟨tw_289, tw_290, Nat.le_of_ble_eq_true rfl, rfl⟩⟩
set_option maxRecDepth 20000 in
theorem caC_5 : ∀ q ∈ lkp [] sd_ct 5, chkC 5 q := List.forall_mem_cons.mpr ⟨ckC_5_3, List.forall_mem_cons.mpr ⟨ckC_5_27, List.forall_mem_cons.mpr ⟨ckC_5_31, List.forall_mem_cons.mpr ⟨ckC_5_39, List.forall_mem_cons.mpr ⟨ckC_5_49, fun _ h => absurd h List.not_mem_nil⟩⟩⟩⟩⟩
theorem ckC_6_3 : chkC 6 (3, 6, 0, 0, 0) := ⟨tw_321, tw_162, tw_163⟩
theorem ckC_6_11 : chkC 6 (11, 5, 3, 0, 0) := ⟨_, rfl, tw_322, tw_137, tw_323, (by decide +kernel), ⟨tw_324, rfl, rfl⟩⟩
theorem ckC_6_20 : chkC 6 (20, 5, 0, 0, 0) := ⟨_, rfl, tw_325, tw_140, tw_326, (by decide +kernel), ⟨tw_327, rfl, rfl⟩⟩
theorem ckC_6_33 : chkC 6 (33, 0, 12, 0, 2) := ⟨_, rfl, tw_328, tw_165, tw_166, (by decide +kernel), tw_167⟩
theorem ckC_6_39 : chkC 6 (39, 4, 3, 3, 1) := ⟨_, rfl, tw_329, tw_137, tw_330, (by decide +kernel), ⟨tw_331, tw_332, Nat.le_of_ble_eq_true rfl, rfl⟩⟩
theorem ckC_6_43 : chkC 6 (43, 4, 0, 2, 1) := ⟨_, rfl, tw_333, tw_140, tw_334, (by decide +kernel), ⟨tw_335, tw_336, Nat.le_of_ble_eq_true rfl, rfl⟩⟩
theorem ckC_6_46 : chkC 6 (46, 7, 0, 0, 0) := ⟨tw_337, tw_173, tw_174, tw_175⟩
set_option maxRecDepth 20000 in
theorem caC_6 : ∀ q ∈ lkp [] sd_ct 6, chkC 6 q := List.forall_mem_cons.mpr ⟨ckC_6_3, List.forall_mem_cons.mpr ⟨ckC_6_11, List.forall_mem_cons.mpr ⟨ckC_6_20, List.forall_mem_cons.mpr ⟨ckC_6_33, List.forall_mem_cons.mpr ⟨ckC_6_39, List.forall_mem_cons.mpr ⟨ckC_6_43, List.forall_mem_cons.mpr ⟨ckC_6_46, fun _ h => absurd h List.not_mem_nil⟩⟩⟩⟩⟩⟩⟩
theorem ckC_7_1 : chkC 7 (1, 6, 0, 0, 0) := ⟨tw_338, tw_162, tw_163⟩
theorem ckC_7_9 : chkC 7 (9, 5, 4, 0, 0) := ⟨_, rfl, tw_339, tw_143, tw_340, (by decide +kernel), ⟨tw_341, rfl, rfl⟩⟩
theorem ckC_7_18 : chkC 7 (18, 5, 6, 0, 0) := ⟨_, rfl, tw_342, tw_146, tw_343, (by decide +kernel), ⟨tw_344, rfl, rfl⟩⟩
theorem ckC_7_28 : chkC 7 (28, 5, 0, 0, 0) := ⟨_, rfl, tw_345, tw_140, tw_326, (by decide +kernel), ⟨tw_327, rfl, rfl⟩⟩
theorem ckC_7_50 : chkC 7 (50, 5, 1, 0, 0) := ⟨_, rfl, tw_346, tw_150, tw_347, (by decide +kernel), ⟨tw_348, rfl, rfl⟩⟩
theorem ckC_7_51 : chkC 7 (51, 0, 7, 43, 3) := ⟨_, rfl, tw_349, tw_154, tw_299, (by decide +kernel), tw_300⟩
theorem ckC_7_56 : chkC 7 (56, 1, 7, 42, 1) := ⟨_, rfl, tw_350, tw_154, tw_351, (by decide +kernel), ⟨tw_352, tw_353, Nat.le_of_ble_eq_true rfl, rfl⟩⟩
theorem ckC_7_65 : chkC 7 (65, 4, 4, 1, 1) := ⟨_, rfl, tw_354, tw_143, tw_355, (by decide +kernel), ⟨tw_356, tw_357, Nat.le_of_ble_eq_true rfl, rfl⟩⟩
theorem ckC_7_69 : chkC 7 (69, 0, 7, 44, 1) := ⟨_, rfl, tw_358, tw_154, tw_359, (by decide +kernel), tw_360⟩
theorem ckC_7_82 : chkC 7 (82, 4, 4, 2, 0) := ⟨_, rfl, tw_361, tw_143, tw_362, (by decide +kernel), ⟨tw_363, tw_364, Nat.le_of_ble_eq_true rfl, rfl⟩⟩
theorem ckC_7_88 : chkC 7 (88, 5, 5, 0, 1) := ⟨_, rfl, tw_365, tw_131, tw_366, (by decide +kernel), ⟨tw_367, rfl, rfl⟩⟩
theorem ckC_7_91 : chkC 7 (91, 4, 3, 2, 3) := ⟨_, rfl, tw_368, tw_137, tw_369, (by decide +kernel), ⟨tw_370, tw_371, Nat.le_of_ble_eq_true rfl, rfl⟩⟩
theorem ckC_7_94 : chkC 7 (94, 1, 7, 48, 1) := ⟨_, rfl, tw_372, tw_154, tw_373, (by decide +kernel), ⟨tw_374, tw_375, Nat.le_of_ble_eq_true rfl, rfl⟩⟩
theorem ckC_7_103 : chkC 7 (103, 4, 3, 4, 1) := ⟨_, rfl, tw_376, tw_137, tw_190, (by decide +kernel), ⟨tw_191, tw_192, Nat.le_of_ble_eq_true rfl, rfl⟩⟩
theorem ckC_7_106 : chkC 7 (106, 4, 3, 7, 2) := ⟨_, rfl, tw_377, tw_137, tw_378, (by decide +kernel), ⟨tw_379, tw_380, Nat.le_of_ble_eq_true rfl, rfl⟩⟩
theorem ckC_7_110 : chkC 7 (110, 0, 7, 51, 3) := ⟨_, rfl, tw_381, tw_154, tw_382, (by decide +kernel), tw_383⟩
theorem ckC_7_114 : chkC 7 (114, 4, 3, 5, 3) := ⟨_, rfl, tw_384, tw_137, tw_385, (by decide +kernel), ⟨tw_386, tw_387, Nat.le_of_ble_eq_true rfl, rfl⟩⟩
theorem ckC_7_118 : chkC 7 (118, 0, 7, 45, 1) := ⟨_, rfl, tw_388, tw_154, tw_389, (by decide +kernel), tw_390⟩
theorem ckC_7_121 : chkC 7 (121, 4, 3, 6, 2) := ⟨_, rfl, tw_391, tw_137, tw_226, (by decide +kernel), ⟨tw_227, tw_228, Nat.le_of_ble_eq_true rfl, rfl⟩⟩
theorem ckC_7_126 : chkC 7 (126, 0, 7, 46, 1) := ⟨_, rfl, tw_392, tw_154, tw_180, (by decide +kernel), tw_181⟩
theorem ckC_7_138 : chkC 7 (138, 4, 0, 1, 1) := ⟨_, rfl, tw_393, tw_140, tw_169, (by decide +kernel), ⟨tw_170, tw_171, Nat.le_of_ble_eq_true rfl, rfl⟩⟩
theorem ckC_7_145 : chkC 7 (145, 4, 0, 3, 1) := ⟨_, rfl, tw_394, tw_140, tw_395, (by decide +kernel), ⟨tw_396, tw_397, Nat.le_of_ble_eq_true rfl, rfl⟩⟩
theorem ckC_7_151 : chkC 7 (151, 4, 6, 2, 0) := ⟨_, rfl, tw_398, tw_146, tw_399, (by decide +kernel), ⟨tw_400, tw_401, Nat.le_of_ble_eq_true rfl, rfl⟩⟩
theorem ckC_7_154 : chkC 7 (154, 4, 0, 9, 2) := ⟨_, rfl, tw_402, tw_140, tw_234, (by decide +kernel), ⟨tw_235, tw_236, Nat.le_of_ble_eq_true rfl, rfl⟩⟩
theorem ckC_7_158 : chkC 7 (158, 4, 0, 8, 0) := ⟨_, rfl, tw_403, tw_140, tw_404, (by decide +kernel), ⟨tw_405, tw_406, Nat.le_of_ble_eq_true rfl, rfl⟩⟩
theorem ckC_7_165 : chkC 7 (165, 4, 0, 10, 2) := ⟨_, rfl, tw_407, tw_140, tw_408, (by decide +kernel), ⟨tw_409, tw_410, Nat.le_of_ble_eq_true rfl, rfl⟩⟩
theorem ckC_7_171 : chkC 7 (171, 4, 0, 4, 0) := ⟨_, rfl, tw_411, tw_140, tw_202, (by decide +kernel), ⟨tw_203, tw_204, Nat.le_of_ble_eq_true rfl, rfl⟩⟩
theorem ckC_7_174 : chkC 7 (174, 0, 10, 0, 1) := ⟨_, rfl, tw_412, tw_413, tw_414, (by decide +kernel), tw_415⟩
theorem ckC_7_179 : chkC 7 (179, 4, 0, 11, 2) := ⟨_, rfl, tw_416, tw_140, tw_417, (by decide +kernel), ⟨tw_418, tw_419, Nat.le_of_ble_eq_true rfl, rfl⟩⟩
theorem ckC_7_183 : chkC 7 (183, 4, 0, 2, 1) := ⟨_, rfl, tw_420, tw_140, tw_334, (by decide +kernel), ⟨tw_335, tw_336, Nat.le_of_ble_eq_true rfl, rfl⟩⟩
theorem ckC_7_187 : chkC 7 (187, 4, 0, 6, 0) := ⟨_, rfl, tw_421, tw_140, tw_198, (by decide +kernel), ⟨tw_199, tw_200, Nat.le_of_ble_eq_true rfl, rfl⟩⟩
theorem ckC_7_193 : chkC 7 (193, 1, 7, 53, 2) := ⟨_, rfl, tw_422, tw_154, tw_423, (by decide +kernel), ⟨tw_424, tw_425, Nat.le_of_ble_eq_true rfl, rfl⟩⟩
theorem ckC_7_196 : chkC 7 (196, 4, 0, 5, 0) := ⟨_, rfl, tw_426, tw_140, tw_427, (by decide +kernel), ⟨tw_428, tw_429, Nat.le_of_ble_eq_true rfl, rfl⟩⟩
theorem ckC_7_199 : chkC 7 (199, 1, 7, 54, 1) := ⟨_, rfl, tw_430, tw_154, tw_431, (by decide +kernel), ⟨tw_432, tw_433, Nat.le_of_ble_eq_true rfl, rfl⟩⟩
theorem ckC_7_202 : chkC 7 (202, 1, 7, 52, 1) := ⟨_, rfl, tw_434, tw_154, tw_435, (by decide +kernel), ⟨tw_436, tw_437, Nat.le_of_ble_eq_true rfl, rfl⟩⟩
theorem ckC_7_205 : chkC 7 (205, 0, 11, 1, 2) := ⟨_, rfl, tw_438, tw_183, tw_184, (by decide +kernel), tw_185⟩
theorem ckC_7_210 : chkC 7 (210, 1, 7, 55, 2) := ⟨_, rfl, tw_439, tw_154, tw_440, (by decide +kernel), ⟨tw_441, tw_442, Nat.le_of_ble_eq_true rfl, rfl⟩⟩
theorem ckC_7_213 : chkC 7 (213, 1, 7, 56, 3) := ⟨_, rfl, tw_443, tw_154, tw_444, (by decide +kernel), ⟨tw_445, tw_446, Nat.le_of_ble_eq_true rfl, rfl⟩⟩
theorem ckC_7_219 : chkC 7 (219, 0, 7, 47, 1) := ⟨_, rfl, tw_447, tw_154, tw_448, (by decide +kernel), tw_449⟩
theorem ckC_7_226 : chkC 7 (226, 0, 7, 50, 2) := ⟨_, rfl, tw_450, tw_154, tw_285, (by decide +kernel), tw_286⟩
theorem ckC_7_230 : chkC 7 (230, 1, 7, 49, 1) := ⟨_, rfl, tw_451, tw_154, tw_452, (by decide +kernel), ⟨tw_453, tw_454, Nat.le_of_ble_eq_true rfl, rfl⟩⟩
theorem ckC_7_234 : chkC 7 (234, 4, 1, 2, 2) := ⟨_, rfl, tw_455, tw_150, tw_456, (by decide +kernel), ⟨tw_457, tw_458, Nat.le_of_ble_eq_true rfl, rfl⟩⟩
theorem ckC_7_238 : chkC 7 (238, 4, 1, 1, 0) := ⟨_, rfl, tw_459, tw_150, tw_460, (by decide +kernel), ⟨tw_461, tw_462, Nat.le_of_ble_eq_true rfl, rfl⟩⟩
theorem ckC_7_242 : chkC 7 (242, 4, 1, 3, 2) := ⟨_, rfl, tw_463, tw_150, tw_464, (by decide +kernel), ⟨tw_465, tw_466, Nat.le_of_ble_eq_true rfl, rfl⟩⟩
theorem ckC_7_248 : chkC 7 (248, 4, 1, 5, 2) := ⟨_, rfl, tw_467, tw_150, tw_468, (by decide +kernel), ⟨tw_469, tw_470, Nat.le_of_ble_eq_true rfl, rfl⟩⟩
theorem ckC_7_254 : chkC 7 (254, 7, 0, 0, 0) := ⟨tw_471, tw_173, tw_174, tw_175⟩
theorem ckC_7_260 : chkC 7 (260, 4, 6, 1, 1) := ⟨_, rfl, tw_472, tw_146, tw_473, (by decide +kernel), ⟨tw_474, tw_475, Nat.le_of_ble_eq_true rfl, rfl⟩⟩
theorem ckC_7_266 : chkC 7 (266, 4, 3, 1, 1) := ⟨_, rfl, tw_476, tw_137, tw_194, (by decide +kernel), ⟨tw_195, tw_196, Nat.le_of_ble_eq_true rfl, rfl⟩⟩
theorem ckC_7_272 : chkC 7 (272, 4, 0, 14, 3) := ⟨_, rfl, tw_477, tw_140, tw_206, (by decide +kernel), ⟨tw_207, tw_208, Nat.le_of_ble_eq_true rfl, rfl⟩⟩
set_option maxRecDepth 20000 in
theorem caC_7 : ∀ q ∈ lkp [] sd_ct 7, chkC 7 q := List.forall_mem_cons.mpr ⟨ckC_7_1, List.forall_mem_cons.mpr ⟨ckC_7_9, List.forall_mem_cons.mpr ⟨ckC_7_18, List.forall_mem_cons.mpr ⟨ckC_7_28, List.forall_mem_cons.mpr ⟨ckC_7_50, List.forall_mem_cons.mpr ⟨ckC_7_51, List.forall_mem_cons.mpr ⟨ckC_7_56, List.forall_mem_cons.mpr ⟨ckC_7_65, List.forall_mem_cons.mpr ⟨ckC_7_69, List.forall_mem_cons.mpr ⟨ckC_7_82, List.forall_mem_cons.mpr ⟨ckC_7_88, List.forall_mem_cons.mpr ⟨ckC_7_91, List.forall_mem_cons.mpr ⟨ckC_7_94, List.forall_mem_cons.mpr ⟨ckC_7_103, List.forall_mem_cons.mpr ⟨ckC_7_106, List.forall_mem_cons.mpr ⟨ckC_7_110, List.forall_mem_cons.mpr ⟨ckC_7_114, List.forall_mem_cons.mpr ⟨ckC_7_118, List.forall_mem_cons.mpr ⟨ckC_7_121, List.forall_mem_cons.mpr ⟨ckC_7_126, List.forall_mem_cons.mpr ⟨ckC_7_138, List.forall_mem_cons.mpr ⟨ckC_7_145, List.forall_mem_cons.mpr ⟨ckC_7_151, List.forall_mem_cons.mpr ⟨ckC_7_154, List.forall_mem_cons.mpr ⟨ckC_7_158, List.forall_mem_cons.mpr ⟨ckC_7_165, List.forall_mem_cons.mpr ⟨ckC_7_171, List.forall_mem_cons.mpr ⟨ckC_7_174, List.forall_mem_cons.mpr ⟨ckC_7_179, List.forall_mem_cons.mpr ⟨ckC_7_183, List.forall_mem_cons.mpr ⟨ckC_7_187, List.forall_mem_cons.mpr ⟨ckC_7_193, List.forall_mem_cons.mpr ⟨ckC_7_196, List.forall_mem_cons.mpr ⟨ckC_7_199, List.forall_mem_cons.mpr ⟨ckC_7_202, List.forall_mem_cons.mpr ⟨ckC_7_205, List.forall_mem_cons.mpr ⟨ckC_7_210, List.forall_mem_cons.mpr ⟨ckC_7_213, List.forall_mem_cons.mpr ⟨ckC_7_219, List.forall_mem_cons.mpr ⟨ckC_7_226, List.forall_mem_cons.mpr ⟨ckC_7_230, List.forall_mem_cons.mpr ⟨ckC_7_234, List.forall_mem_cons.mpr ⟨ckC_7_238, List.forall_mem_cons.mpr ⟨ckC_7_242, List.forall_mem_cons.mpr ⟨ckC_7_248, List.forall_mem_cons.mpr ⟨ckC_7_254, List.forall_mem_cons.mpr ⟨ckC_7_260, List.forall_mem_cons.mpr ⟨ckC_7_266, List.forall_mem_cons.mpr ⟨ckC_7_272, fun _ h => absurd h List.not_mem_nil⟩⟩⟩⟩⟩⟩⟩⟩⟩⟩⟩⟩⟩⟩⟩⟩⟩⟩⟩⟩⟩⟩⟩⟩⟩⟩⟩⟩⟩⟩⟩⟩⟩⟩⟩⟩⟩⟩⟩⟩⟩⟩⟩⟩⟩⟩⟩⟩⟩
theorem ckC_8_1 : chkC 8 (1, 6, 0, 0, 0) := ⟨tw_478, tw_162, tw_163⟩
theorem ckC_8_52 : chkC 8 (52, 0, 8, 3, 2) := ⟨_, rfl, tw_479, tw_157, tw_480, (by decide +kernel), tw_481⟩
theorem ckC_8_57 : chkC 8 (57, 0, 8, 1, 3) := ⟨_, rfl, tw_482, tw_157, tw_483, (by decide +kernel), tw_484⟩
theorem ckC_8_68 : chkC 8 (68, 1, 8, 2, 1) := ⟨_, rfl, tw_485, tw_157, tw_486, (by decide +kernel), ⟨tw_487, tw_488, Nat.le_of_ble_eq_true rfl, rfl⟩⟩
theorem ckC_8_80 : chkC 8 (80, 0, 8, 14, 1) := ⟨_, rfl, tw_489, tw_157, tw_490, (by decide +kernel), tw_491⟩
theorem ckC_8_97 : chkC 8 (97, 1, 8, 17, 2) := ⟨_, rfl, tw_492, tw_157, tw_493, (by decide +kernel), ⟨tw_494, tw_495, Nat.le_of_ble_eq_true rfl, rfl⟩⟩
theorem ckC_8_101 : chkC 8 (101, 0, 8, 13, 1) := ⟨_, rfl, tw_496, tw_157, tw_497, (by decide +kernel), tw_498⟩
theorem ckC_8_104 : chkC 8 (104, 1, 8, 15, 1) := ⟨_, rfl, tw_499, tw_157, tw_500, (by decide +kernel), ⟨tw_501, tw_502, Nat.le_of_ble_eq_true rfl, rfl⟩⟩
theorem ckC_8_117 : chkC 8 (117, 1, 8, 16, 1) := ⟨_, rfl, tw_503, tw_157, tw_504, (by decide +kernel), ⟨tw_505, tw_506, Nat.le_of_ble_eq_true rfl, rfl⟩⟩
theorem ckC_8_123 : chkC 8 (123, 1, 8, 18, 0) := ⟨_, rfl, tw_507, tw_157, tw_508, (by decide +kernel), ⟨tw_509, tw_510, Nat.le_of_ble_eq_true rfl, rfl⟩⟩
theorem ckC_8_127 : chkC 8 (127, 1, 8, 19, 0) := ⟨_, rfl, tw_511, tw_157, tw_512, (by decide +kernel), ⟨tw_513, tw_514, Nat.le_of_ble_eq_true rfl, rfl⟩⟩
theorem ckC_8_130 : chkC 8 (130, 1, 8, 7, 2) := ⟨_, rfl, tw_515, tw_157, tw_516, (by decide +kernel), ⟨tw_517, tw_518, Nat.le_of_ble_eq_true rfl, rfl⟩⟩
theorem ckC_8_133 : chkC 8 (133, 0, 8, 21, 3) := ⟨_, rfl, tw_519, tw_157, tw_520, (by decide +kernel), tw_521⟩
theorem ckC_8_137 : chkC 8 (137, 1, 8, 22, 3) := ⟨_, rfl, tw_522, tw_157, tw_523, (by decide +kernel), ⟨tw_524, tw_525, Nat.le_of_ble_eq_true rfl, rfl⟩⟩
theorem ckC_8_140 : chkC 8 (140, 1, 8, 23, 2) := ⟨_, rfl, tw_526, tw_157, tw_527, (by decide +kernel), ⟨tw_528, tw_529, Nat.le_of_ble_eq_true rfl, rfl⟩⟩
theorem ckC_8_144 : chkC 8 (144, 1, 8, 4, 1) := ⟨_, rfl, tw_530, tw_157, tw_531, (by decide +kernel), ⟨tw_532, tw_533, Nat.le_of_ble_eq_true rfl, rfl⟩⟩
theorem ckC_8_149 : chkC 8 (149, 1, 8, 24, 1) := ⟨_, rfl, tw_534, tw_157, tw_535, (by decide +kernel), ⟨tw_536, tw_537, Nat.le_of_ble_eq_true rfl, rfl⟩⟩
theorem ckC_8_152 : chkC 8 (152, 1, 8, 25, 1) := ⟨_, rfl, tw_538, tw_157, tw_539, (by decide +kernel), ⟨tw_540, tw_541, Nat.le_of_ble_eq_true rfl, rfl⟩⟩
theorem ckC_8_155 : chkC 8 (155, 0, 8, 6, 1) := ⟨_, rfl, tw_542, tw_157, tw_543, (by decide +kernel), tw_544⟩
theorem ckC_8_163 : chkC 8 (163, 0, 8, 5, 1) := ⟨_, rfl, tw_545, tw_157, tw_546, (by decide +kernel), tw_547⟩
theorem ckC_8_166 : chkC 8 (166, 0, 8, 33, 2) := ⟨_, rfl, tw_548, tw_157, tw_549, (by decide +kernel), tw_550⟩
theorem ckC_8_171 : chkC 8 (171, 1, 8, 36, 0) := ⟨_, rfl, tw_551, tw_157, tw_552, (by decide +kernel), ⟨tw_553, tw_554, Nat.le_of_ble_eq_true rfl, rfl⟩⟩
theorem ckC_8_176 : chkC 8 (176, 1, 8, 10, 0) := ⟨_, rfl, tw_555, tw_157, tw_556, (by decide +kernel), ⟨tw_557, tw_558, Nat.le_of_ble_eq_true rfl, rfl⟩⟩
theorem ckC_8_179 : chkC 8 (179, 1, 8, 39, 0) := ⟨_, rfl, tw_559, tw_157, tw_560, (by decide +kernel), ⟨tw_561, tw_562, Nat.le_of_ble_eq_true rfl, rfl⟩⟩
theorem ckC_8_183 : chkC 8 (183, 1, 8, 43, 1) := ⟨_, rfl, tw_563, tw_157, tw_564, (by decide +kernel), ⟨tw_565, tw_566, Nat.le_of_ble_eq_true rfl, rfl⟩⟩
theorem ckC_8_186 : chkC 8 (186, 1, 8, 42, 1) := ⟨_, rfl, tw_567, tw_157, tw_568, (by decide +kernel), ⟨tw_569, tw_570, Nat.le_of_ble_eq_true rfl, rfl⟩⟩
theorem ckC_8_189 : chkC 8 (189, 1, 8, 44, 1) := ⟨_, rfl, tw_571, tw_157, tw_572, (by decide +kernel), ⟨tw_573, tw_574, Nat.le_of_ble_eq_true rfl, rfl⟩⟩
theorem ckC_8_192 : chkC 8 (192, 1, 8, 45, 1) := ⟨_, rfl, tw_575, tw_157, tw_576, (by decide +kernel), ⟨tw_577, tw_578, Nat.le_of_ble_eq_true rfl, rfl⟩⟩
theorem ckC_8_195 : chkC 8 (195, 1, 8, 46, 0) := ⟨_, rfl, tw_579, tw_157, tw_580, (by decide +kernel), ⟨tw_581, tw_582, Nat.le_of_ble_eq_true rfl, rfl⟩⟩
theorem ckC_8_200 : chkC 8 (200, 1, 8, 48, 0) := ⟨_, rfl, tw_583, tw_157, tw_584, (by decide +kernel), ⟨tw_585, tw_586, Nat.le_of_ble_eq_true rfl, rfl⟩⟩
theorem ckC_8_203 : chkC 8 (203, 0, 8, 9, 1) := ⟨_, rfl, tw_587, tw_157, tw_588, (by decide +kernel), tw_589⟩
theorem ckC_8_206 : chkC 8 (206, 1, 8, 47, 1) := ⟨_, rfl, tw_590, tw_157, tw_591, (by decide +kernel), ⟨tw_592, tw_593, Nat.le_of_ble_eq_true rfl, rfl⟩⟩
theorem ckC_8_213 : chkC 8 (213, 1, 8, 52, 0) := ⟨_, rfl, tw_594, tw_157, tw_595, (by decide +kernel), ⟨tw_596, tw_597, Nat.le_of_ble_eq_true rfl, rfl⟩⟩
theorem ckC_8_216 : chkC 8 (216, 1, 8, 53, 0) := ⟨_, rfl, tw_598, tw_157, tw_599, (by decide +kernel), ⟨tw_600, tw_601, Nat.le_of_ble_eq_true rfl, rfl⟩⟩
theorem ckC_8_219 : chkC 8 (219, 1, 8, 56, 2) := ⟨_, rfl, tw_602, tw_157, tw_603, (by decide +kernel), ⟨tw_604, tw_605, Nat.le_of_ble_eq_true rfl, rfl⟩⟩
theorem ckC_8_222 : chkC 8 (222, 1, 8, 58, 0) := ⟨_, rfl, tw_606, tw_157, tw_607, (by decide +kernel), ⟨tw_608, tw_609, Nat.le_of_ble_eq_true rfl, rfl⟩⟩
theorem ckC_8_225 : chkC 8 (225, 1, 8, 59, 2) := ⟨_, rfl, tw_610, tw_157, tw_611, (by decide +kernel), ⟨tw_612, tw_613, Nat.le_of_ble_eq_true rfl, rfl⟩⟩
theorem ckC_8_228 : chkC 8 (228, 0, 8, 8, 2) := ⟨_, rfl, tw_614, tw_157, tw_615, (by decide +kernel), tw_616⟩
theorem ckC_8_235 : chkC 8 (235, 0, 8, 69, 1) := ⟨_, rfl, tw_617, tw_157, tw_618, (by decide +kernel), tw_619⟩
theorem ckC_8_239 : chkC 8 (239, 1, 8, 72, 1) := ⟨_, rfl, tw_620, tw_157, tw_621, (by decide +kernel), ⟨tw_622, tw_623, Nat.le_of_ble_eq_true rfl, rfl⟩⟩
theorem ckC_8_242 : chkC 8 (242, 0, 8, 71, 2) := ⟨_, rfl, tw_624, tw_157, tw_625, (by decide +kernel), tw_626⟩
set_option maxRecDepth 20000 in
theorem caC_8 : ∀ q ∈ lkp [] sd_ct 8, chkC 8 q := List.forall_mem_cons.mpr ⟨ckC_8_1, List.forall_mem_cons.mpr ⟨ckC_8_52, List.forall_mem_cons.mpr ⟨ckC_8_57, List.forall_mem_cons.mpr ⟨ckC_8_68, List.forall_mem_cons.mpr ⟨ckC_8_80, List.forall_mem_cons.mpr ⟨ckC_8_97, List.forall_mem_cons.mpr ⟨ckC_8_101, List.forall_mem_cons.mpr ⟨ckC_8_104, List.forall_mem_cons.mpr ⟨ckC_8_117, List.forall_mem_cons.mpr ⟨ckC_8_123, List.forall_mem_cons.mpr ⟨ckC_8_127, List.forall_mem_cons.mpr ⟨ckC_8_130, List.forall_mem_cons.mpr ⟨ckC_8_133, List.forall_mem_cons.mpr ⟨ckC_8_137, List.forall_mem_cons.mpr ⟨ckC_8_140, List.forall_mem_cons.mpr ⟨ckC_8_144, List.forall_mem_cons.mpr ⟨ckC_8_149, List.forall_mem_cons.mpr ⟨ckC_8_152, List.forall_mem_cons.mpr ⟨ckC_8_155, List.forall_mem_cons.mpr ⟨ckC_8_163, List.forall_mem_cons.mpr ⟨ckC_8_166, List.forall_mem_cons.mpr ⟨ckC_8_171, List.forall_mem_cons.mpr ⟨ckC_8_176, List.forall_mem_cons.mpr ⟨ckC_8_179, List.forall_mem_cons.mpr ⟨ckC_8_183, List.forall_mem_cons.mpr ⟨ckC_8_186, List.forall_mem_cons.mpr ⟨ckC_8_189, List.forall_mem_cons.mpr ⟨ckC_8_192, List.forall_mem_cons.mpr ⟨ckC_8_195, List.forall_mem_cons.mpr ⟨ckC_8_200, List.forall_mem_cons.mpr ⟨ckC_8_203, List.forall_mem_cons.mpr ⟨ckC_8_206, List.forall_mem_cons.mpr ⟨ckC_8_213, List.forall_mem_cons.mpr ⟨ckC_8_216, List.forall_mem_cons.mpr ⟨ckC_8_219, List.forall_mem_cons.mpr ⟨ckC_8_222, List.forall_mem_cons.mpr ⟨ckC_8_225, List.forall_mem_cons.mpr ⟨ckC_8_228, List.forall_mem_cons.mpr ⟨ckC_8_235, List.forall_mem_cons.mpr ⟨ckC_8_239, List.forall_mem_cons.mpr ⟨ckC_8_242, fun _ h => absurd h List.not_mem_nil⟩⟩⟩⟩⟩⟩⟩⟩⟩⟩⟩⟩⟩⟩⟩⟩⟩⟩⟩⟩⟩⟩⟩⟩⟩⟩⟩⟩⟩⟩⟩⟩⟩⟩⟩⟩⟩⟩⟩⟩⟩
theorem ckC_9_9 : chkC 9 (9, 2, 7, 0, 0) := ⟨_, rfl, tw_627, tw_154, tw_628, (by decide +kernel), ⟨tw_629, rfl, rfl⟩⟩
theorem ckC_9_12 : chkC 9 (12, 2, 8, 0, 0) := ⟨_, rfl, tw_630, tw_157, tw_631, (by decide +kernel), ⟨tw_632, rfl, rfl⟩⟩
theorem ckC_9_13 : chkC 9 (13, 1, 7, 1, 2) := ⟨_, rfl, tw_633, tw_154, tw_634, (by decide +kernel), ⟨tw_635, tw_636, Nat.le_of_ble_eq_true rfl, rfl⟩⟩
theorem ckC_9_17 : chkC 9 (17, 1, 8, 11, 2) := ⟨_, rfl, tw_637, tw_157, tw_638, (by decide +kernel), ⟨tw_639, tw_640, Nat.le_of_ble_eq_true rfl, rfl⟩⟩
theorem ckC_9_18 : chkC 9 (18, 1, 7, 2, 0) := ⟨_, rfl, tw_641, tw_154, tw_642, (by decide +kernel), ⟨tw_643, tw_644, Nat.le_of_ble_eq_true rfl, rfl⟩⟩
theorem ckC_9_22 : chkC 9 (22, 1, 8, 12, 0) := ⟨_, rfl, tw_645, tw_157, tw_646, (by decide +kernel), ⟨tw_647, tw_648, Nat.le_of_ble_eq_true rfl, rfl⟩⟩
theorem ckC_9_23 : chkC 9 (23, 1, 7, 3, 2) := ⟨_, rfl, tw_649, tw_154, tw_650, (by decide +kernel), ⟨tw_651, tw_652, Nat.le_of_ble_eq_true rfl, rfl⟩⟩
theorem ckC_9_26 : chkC 9 (26, 1, 8, 20, 2) := ⟨_, rfl, tw_653, tw_157, tw_654, (by decide +kernel), ⟨tw_655, tw_656, Nat.le_of_ble_eq_true rfl, rfl⟩⟩
theorem ckC_9_27 : chkC 9 (27, 1, 7, 4, 2) := ⟨_, rfl, tw_657, tw_154, tw_658, (by decide +kernel), ⟨tw_659, tw_660, Nat.le_of_ble_eq_true rfl, rfl⟩⟩
theorem ckC_9_30 : chkC 9 (30, 1, 8, 26, 2) := ⟨_, rfl, tw_661, tw_157, tw_662, (by decide +kernel), ⟨tw_663, tw_664, Nat.le_of_ble_eq_true rfl, rfl⟩⟩
theorem ckC_9_31 : chkC 9 (31, 1, 7, 5, 3) := ⟨_, rfl, tw_665, tw_154, tw_666, (by decide +kernel), ⟨tw_667, tw_668, Nat.le_of_ble_eq_true rfl, rfl⟩⟩
theorem ckC_9_35 : chkC 9 (35, 1, 8, 27, 3) := ⟨_, rfl, tw_669, tw_157, tw_670, (by decide +kernel), ⟨tw_671, tw_672, Nat.le_of_ble_eq_true rfl, rfl⟩⟩
theorem ckC_9_36 : chkC 9 (36, 1, 7, 6, 3) := ⟨_, rfl, tw_673, tw_154, tw_674, (by decide +kernel), ⟨tw_675, tw_676, Nat.le_of_ble_eq_true rfl, rfl⟩⟩
theorem ckC_9_39 : chkC 9 (39, 1, 8, 28, 3) := ⟨_, rfl, tw_677, tw_157, tw_678, (by decide +kernel), ⟨tw_679, tw_680, Nat.le_of_ble_eq_true rfl, rfl⟩⟩
theorem ckC_9_40 : chkC 9 (40, 1, 7, 7, 2) := ⟨_, rfl, tw_681, tw_154, tw_682, (by decide +kernel), ⟨tw_683, tw_684, Nat.le_of_ble_eq_true rfl, rfl⟩⟩
theorem ckC_9_43 : chkC 9 (43, 1, 8, 29, 2) := ⟨_, rfl, tw_685, tw_157, tw_686, (by decide +kernel), ⟨tw_687, tw_688, Nat.le_of_ble_eq_true rfl, rfl⟩⟩
theorem ckC_9_44 : chkC 9 (44, 1, 7, 8, 2) := ⟨_, rfl, tw_689, tw_154, tw_690, (by decide +kernel), ⟨tw_691, tw_692, Nat.le_of_ble_eq_true rfl, rfl⟩⟩
theorem ckC_9_47 : chkC 9 (47, 1, 8, 30, 2) := ⟨_, rfl, tw_693, tw_157, tw_694, (by decide +kernel), ⟨tw_695, tw_696, Nat.le_of_ble_eq_true rfl, rfl⟩⟩
theorem ckC_9_48 : chkC 9 (48, 1, 7, 9, 2) := ⟨_, rfl, tw_697, tw_154, tw_698, (by decide +kernel), ⟨tw_699, tw_700, Nat.le_of_ble_eq_true rfl, rfl⟩⟩
theorem ckC_9_51 : chkC 9 (51, 1, 8, 31, 2) := ⟨_, rfl, tw_701, tw_157, tw_702, (by decide +kernel), ⟨tw_703, tw_704, Nat.le_of_ble_eq_true rfl, rfl⟩⟩
theorem ckC_9_52 : chkC 9 (52, 1, 7, 10, 1) := ⟨_, rfl, tw_705, tw_154, tw_706, (by decide +kernel), ⟨tw_707, tw_708, Nat.le_of_ble_eq_true rfl, rfl⟩⟩
theorem ckC_9_56 : chkC 9 (56, 1, 8, 32, 1) := ⟨_, rfl, tw_709, tw_157, tw_710, (by decide +kernel), ⟨tw_711, tw_712, Nat.le_of_ble_eq_true rfl, rfl⟩⟩
theorem ckC_9_57 : chkC 9 (57, 1, 7, 11, 3) := ⟨_, rfl, tw_713, tw_154, tw_714, (by decide +kernel), ⟨tw_715, tw_716, Nat.le_of_ble_eq_true rfl, rfl⟩⟩
theorem ckC_9_60 : chkC 9 (60, 1, 8, 34, 3) := ⟨_, rfl, tw_717, tw_157, tw_718, (by decide +kernel), ⟨tw_719, tw_720, Nat.le_of_ble_eq_true rfl, rfl⟩⟩
theorem ckC_9_61 : chkC 9 (61, 1, 7, 12, 2) := ⟨_, rfl, tw_721, tw_154, tw_722, (by decide +kernel), ⟨tw_723, tw_724, Nat.le_of_ble_eq_true rfl, rfl⟩⟩
theorem ckC_9_64 : chkC 9 (64, 1, 8, 35, 2) := ⟨_, rfl, tw_725, tw_157, tw_726, (by decide +kernel), ⟨tw_727, tw_728, Nat.le_of_ble_eq_true rfl, rfl⟩⟩
theorem ckC_9_65 : chkC 9 (65, 1, 7, 13, 1) := ⟨_, rfl, tw_729, tw_154, tw_730, (by decide +kernel), ⟨tw_731, tw_732, Nat.le_of_ble_eq_true rfl, rfl⟩⟩
theorem ckC_9_68 : chkC 9 (68, 1, 8, 37, 1) := ⟨_, rfl, tw_733, tw_157, tw_734, (by decide +kernel), ⟨tw_735, tw_736, Nat.le_of_ble_eq_true rfl, rfl⟩⟩
theorem ckC_9_69 : chkC 9 (69, 1, 7, 14, 1) := ⟨_, rfl, tw_737, tw_154, tw_738, (by decide +kernel), ⟨tw_739, tw_740, Nat.le_of_ble_eq_true rfl, rfl⟩⟩
theorem ckC_9_72 : chkC 9 (72, 1, 8, 38, 1) := ⟨_, rfl, tw_741, tw_157, tw_742, (by decide +kernel), ⟨tw_743, tw_744, Nat.le_of_ble_eq_true rfl, rfl⟩⟩
theorem ckC_9_73 : chkC 9 (73, 1, 7, 15, 1) := ⟨_, rfl, tw_745, tw_154, tw_746, (by decide +kernel), ⟨tw_747, tw_748, Nat.le_of_ble_eq_true rfl, rfl⟩⟩
theorem ckC_9_76 : chkC 9 (76, 1, 8, 40, 1) := ⟨_, rfl, tw_749, tw_157, tw_750, (by decide +kernel), ⟨tw_751, tw_752, Nat.le_of_ble_eq_true rfl, rfl⟩⟩
theorem ckC_9_77 : chkC 9 (77, 1, 7, 16, 2) := ⟨_, rfl, tw_753, tw_154, tw_754, (by decide +kernel), ⟨tw_755, tw_756, Nat.le_of_ble_eq_true rfl, rfl⟩⟩
theorem ckC_9_80 : chkC 9 (80, 1, 8, 41, 2) := ⟨_, rfl, tw_757, tw_157, tw_758, (by decide +kernel), ⟨tw_759, tw_760, Nat.le_of_ble_eq_true rfl, rfl⟩⟩
theorem ckC_9_81 : chkC 9 (81, 1, 7, 17, 1) := ⟨_, rfl, tw_761, tw_154, tw_762, (by decide +kernel), ⟨tw_763, tw_764, Nat.le_of_ble_eq_true rfl, rfl⟩⟩
theorem ckC_9_84 : chkC 9 (84, 1, 8, 49, 1) := ⟨_, rfl, tw_765, tw_157, tw_766, (by decide +kernel), ⟨tw_767, tw_768, Nat.le_of_ble_eq_true rfl, rfl⟩⟩
theorem ckC_9_85 : chkC 9 (85, 1, 7, 18, 0) := ⟨_, rfl, tw_769, tw_154, tw_770, (by decide +kernel), ⟨tw_771, tw_772, Nat.le_of_ble_eq_true rfl, rfl⟩⟩
theorem ckC_9_88 : chkC 9 (88, 1, 8, 50, 0) := ⟨_, rfl, tw_773, tw_157, tw_774, (by decide +kernel), ⟨tw_775, tw_776, Nat.le_of_ble_eq_true rfl, rfl⟩⟩
theorem ckC_9_89 : chkC 9 (89, 1, 7, 19, 0) := ⟨_, rfl, tw_777, tw_154, tw_778, (by decide +kernel), ⟨tw_779, tw_780, Nat.le_of_ble_eq_true rfl, rfl⟩⟩
theorem ckC_9_92 : chkC 9 (92, 1, 8, 51, 0) := ⟨_, rfl, tw_781, tw_157, tw_782, (by decide +kernel), ⟨tw_783, tw_784, Nat.le_of_ble_eq_true rfl, rfl⟩⟩
theorem ckC_9_93 : chkC 9 (93, 1, 7, 20, 2) := ⟨_, rfl, tw_785, tw_154, tw_786, (by decide +kernel), ⟨tw_787, tw_788, Nat.le_of_ble_eq_true rfl, rfl⟩⟩
theorem ckC_9_96 : chkC 9 (96, 1, 8, 54, 2) := ⟨_, rfl, tw_789, tw_157, tw_790, (by decide +kernel), ⟨tw_791, tw_792, Nat.le_of_ble_eq_true rfl, rfl⟩⟩
theorem ckC_9_97 : chkC 9 (97, 1, 7, 21, 1) := ⟨_, rfl, tw_793, tw_154, tw_794, (by decide +kernel), ⟨tw_795, tw_796, Nat.le_of_ble_eq_true rfl, rfl⟩⟩
theorem ckC_9_100 : chkC 9 (100, 1, 8, 55, 1) := ⟨_, rfl, tw_797, tw_157, tw_798, (by decide +kernel), ⟨tw_799, tw_800, Nat.le_of_ble_eq_true rfl, rfl⟩⟩
theorem ckC_9_101 : chkC 9 (101, 1, 7, 22, 2) := ⟨_, rfl, tw_801, tw_154, tw_802, (by decide +kernel), ⟨tw_803, tw_804, Nat.le_of_ble_eq_true rfl, rfl⟩⟩
theorem ckC_9_104 : chkC 9 (104, 1, 8, 57, 2) := ⟨_, rfl, tw_805, tw_157, tw_806, (by decide +kernel), ⟨tw_807, tw_808, Nat.le_of_ble_eq_true rfl, rfl⟩⟩
theorem ckC_9_105 : chkC 9 (105, 1, 7, 23, 1) := ⟨_, rfl, tw_809, tw_154, tw_810, (by decide +kernel), ⟨tw_811, tw_812, Nat.le_of_ble_eq_true rfl, rfl⟩⟩
theorem ckC_9_108 : chkC 9 (108, 1, 8, 60, 1) := ⟨_, rfl, tw_813, tw_157, tw_814, (by decide +kernel), ⟨tw_815, tw_816, Nat.le_of_ble_eq_true rfl, rfl⟩⟩
theorem ckC_9_109 : chkC 9 (109, 1, 7, 24, 2) := ⟨_, rfl, tw_817, tw_154, tw_818, (by decide +kernel), ⟨tw_819, tw_820, Nat.le_of_ble_eq_true rfl, rfl⟩⟩
theorem ckC_9_112 : chkC 9 (112, 1, 8, 61, 2) := ⟨_, rfl, tw_821, tw_157, tw_822, (by decide +kernel), ⟨tw_823, tw_824, Nat.le_of_ble_eq_true rfl, rfl⟩⟩
theorem ckC_9_113 : chkC 9 (113, 1, 7, 25, 1) := ⟨_, rfl, tw_825, tw_154, tw_826, (by decide +kernel), ⟨tw_827, tw_828, Nat.le_of_ble_eq_true rfl, rfl⟩⟩
theorem ckC_9_116 : chkC 9 (116, 1, 8, 62, 1) := ⟨_, rfl, tw_829, tw_157, tw_830, (by decide +kernel), ⟨tw_831, tw_832, Nat.le_of_ble_eq_true rfl, rfl⟩⟩
theorem ckC_9_117 : chkC 9 (117, 1, 7, 26, 3) := ⟨_, rfl, tw_833, tw_154, tw_834, (by decide +kernel), ⟨tw_835, tw_836, Nat.le_of_ble_eq_true rfl, rfl⟩⟩
theorem ckC_9_120 : chkC 9 (120, 1, 8, 63, 3) := ⟨_, rfl, tw_837, tw_157, tw_838, (by decide +kernel), ⟨tw_839, tw_840, Nat.le_of_ble_eq_true rfl, rfl⟩⟩
theorem ckC_9_121 : chkC 9 (121, 1, 7, 27, 1) := ⟨_, rfl, tw_841, tw_154, tw_842, (by decide +kernel), ⟨tw_843, tw_844, Nat.le_of_ble_eq_true rfl, rfl⟩⟩
theorem ckC_9_124 : chkC 9 (124, 1, 8, 64, 1) := ⟨_, rfl, tw_845, tw_157, tw_846, (by decide +kernel), ⟨tw_847, tw_848, Nat.le_of_ble_eq_true rfl, rfl⟩⟩
theorem ckC_9_125 : chkC 9 (125, 1, 7, 28, 2) := ⟨_, rfl, tw_849, tw_154, tw_850, (by decide +kernel), ⟨tw_851, tw_852, Nat.le_of_ble_eq_true rfl, rfl⟩⟩
theorem ckC_9_128 : chkC 9 (128, 1, 8, 65, 2) := ⟨_, rfl, tw_853, tw_157, tw_854, (by decide +kernel), ⟨tw_855, tw_856, Nat.le_of_ble_eq_true rfl, rfl⟩⟩
theorem ckC_9_129 : chkC 9 (129, 1, 7, 29, 1) := ⟨_, rfl, tw_857, tw_154, tw_858, (by decide +kernel), ⟨tw_859, tw_860, Nat.le_of_ble_eq_true rfl, rfl⟩⟩
theorem ckC_9_132 : chkC 9 (132, 1, 8, 66, 1) := ⟨_, rfl, tw_861, tw_157, tw_862, (by decide +kernel), ⟨tw_863, tw_864, Nat.le_of_ble_eq_true rfl, rfl⟩⟩
theorem ckC_9_133 : chkC 9 (133, 1, 7, 30, 2) := ⟨_, rfl, tw_865, tw_154, tw_866, (by decide +kernel), ⟨tw_867, tw_868, Nat.le_of_ble_eq_true rfl, rfl⟩⟩
theorem ckC_9_136 : chkC 9 (136, 1, 8, 67, 2) := ⟨_, rfl, tw_869, tw_157, tw_870, (by decide +kernel), ⟨tw_871, tw_872, Nat.le_of_ble_eq_true rfl, rfl⟩⟩
theorem ckC_9_137 : chkC 9 (137, 1, 7, 31, 2) := ⟨_, rfl, tw_873, tw_154, tw_874, (by decide +kernel), ⟨tw_875, tw_876, Nat.le_of_ble_eq_true rfl, rfl⟩⟩
theorem ckC_9_140 : chkC 9 (140, 1, 8, 68, 2) := ⟨_, rfl, tw_877, tw_157, tw_878, (by decide +kernel), ⟨tw_879, tw_880, Nat.le_of_ble_eq_true rfl, rfl⟩⟩
theorem ckC_9_141 : chkC 9 (141, 1, 7, 32, 3) := ⟨_, rfl, tw_881, tw_154, tw_882, (by decide +kernel), ⟨tw_883, tw_884, Nat.le_of_ble_eq_true rfl, rfl⟩⟩
theorem ckC_9_144 : chkC 9 (144, 1, 8, 70, 3) := ⟨_, rfl, tw_885, tw_157, tw_886, (by decide +kernel), ⟨tw_887, tw_888, Nat.le_of_ble_eq_true rfl, rfl⟩⟩
theorem ckC_9_145 : chkC 9 (145, 1, 7, 33, 3) := ⟨_, rfl, tw_889, tw_154, tw_890, (by decide +kernel), ⟨tw_891, tw_892, Nat.le_of_ble_eq_true rfl, rfl⟩⟩
theorem ckC_9_148 : chkC 9 (148, 1, 8, 73, 3) := ⟨_, rfl, tw_893, tw_157, tw_894, (by decide +kernel), ⟨tw_895, tw_896, Nat.le_of_ble_eq_true rfl, rfl⟩⟩
theorem ckC_9_149 : chkC 9 (149, 1, 7, 34, 5) := ⟨_, rfl, tw_897, tw_154, tw_898, (by decide +kernel), ⟨tw_899, tw_900, Nat.le_of_ble_eq_true rfl, rfl⟩⟩
theorem ckC_9_153 : chkC 9 (153, 1, 8, 74, 5) := ⟨_, rfl, tw_901, tw_157, tw_902, (by decide +kernel), ⟨tw_903, tw_904, Nat.le_of_ble_eq_true rfl, rfl⟩⟩
theorem ckC_9_154 : chkC 9 (154, 1, 7, 35, 1) := ⟨_, rfl, tw_905, tw_154, tw_906, (by decide +kernel), ⟨tw_907, tw_908, Nat.le_of_ble_eq_true rfl, rfl⟩⟩
theorem ckC_9_157 : chkC 9 (157, 1, 8, 75, 1) := ⟨_, rfl, tw_909, tw_157, tw_910, (by decide +kernel), ⟨tw_911, tw_912, Nat.le_of_ble_eq_true rfl, rfl⟩⟩
theorem ckC_9_158 : chkC 9 (158, 1, 7, 36, 2) := ⟨_, rfl, tw_913, tw_154, tw_914, (by decide +kernel), ⟨tw_915, tw_916, Nat.le_of_ble_eq_true rfl, rfl⟩⟩
theorem ckC_9_161 : chkC 9 (161, 1, 8, 76, 2) := ⟨_, rfl, tw_917, tw_157, tw_918, (by decide +kernel), ⟨tw_919, tw_920, Nat.le_of_ble_eq_true rfl, rfl⟩⟩
theorem ckC_9_162 : chkC 9 (162, 1, 7, 37, 0) := ⟨_, rfl, tw_921, tw_154, tw_922, (by decide +kernel), ⟨tw_923, tw_924, Nat.le_of_ble_eq_true rfl, rfl⟩⟩
theorem ckC_9_165 : chkC 9 (165, 1, 8, 77, 0) := ⟨_, rfl, tw_925, tw_157, tw_926, (by decide +kernel), ⟨tw_927, tw_928, Nat.le_of_ble_eq_true rfl, rfl⟩⟩
theorem ckC_9_166 : chkC 9 (166, 1, 7, 38, 0) := ⟨_, rfl, tw_929, tw_154, tw_930, (by decide +kernel), ⟨tw_931, tw_932, Nat.le_of_ble_eq_true rfl, rfl⟩⟩
theorem ckC_9_169 : chkC 9 (169, 1, 8, 78, 0) := ⟨_, rfl, tw_933, tw_157, tw_934, (by decide +kernel), ⟨tw_935, tw_936, Nat.le_of_ble_eq_true rfl, rfl⟩⟩
theorem ckC_9_170 : chkC 9 (170, 1, 7, 39, 0) := ⟨_, rfl, tw_937, tw_154, tw_938, (by decide +kernel), ⟨tw_939, tw_940, Nat.le_of_ble_eq_true rfl, rfl⟩⟩
theorem ckC_9_173 : chkC 9 (173, 1, 8, 79, 0) := ⟨_, rfl, tw_941, tw_157, tw_942, (by decide +kernel), ⟨tw_943, tw_944, Nat.le_of_ble_eq_true rfl, rfl⟩⟩
theorem ckC_9_174 : chkC 9 (174, 1, 7, 40, 1) := ⟨_, rfl, tw_945, tw_154, tw_946, (by decide +kernel), ⟨tw_947, tw_948, Nat.le_of_ble_eq_true rfl, rfl⟩⟩
theorem ckC_9_177 : chkC 9 (177, 1, 8, 80, 1) := ⟨_, rfl, tw_949, tw_157, tw_950, (by decide +kernel), ⟨tw_951, tw_952, Nat.le_of_ble_eq_true rfl, rfl⟩⟩
theorem ckC_9_178 : chkC 9 (178, 1, 7, 41, 1) := ⟨_, rfl, tw_953, tw_154, tw_954, (by decide +kernel), ⟨tw_955, tw_956, Nat.le_of_ble_eq_true rfl, rfl⟩⟩
theorem ckC_9_181 : chkC 9 (181, 1, 8, 81, 1) := ⟨_, rfl, tw_957, tw_157, tw_958, (by decide +kernel), ⟨tw_959, tw_960, Nat.le_of_ble_eq_true rfl, rfl⟩⟩
set_option maxRecDepth 20000 in
theorem caC_9 : ∀ q ∈ lkp [] sd_ct 9, chkC 9 q := List.forall_mem_cons.mpr ⟨ckC_9_9, List.forall_mem_cons.mpr ⟨ckC_9_12, List.forall_mem_cons.mpr ⟨ckC_9_13, List.forall_mem_cons.mpr ⟨ckC_9_17, List.forall_mem_cons.mpr ⟨ckC_9_18, List.forall_mem_cons.mpr ⟨ckC_9_22, List.forall_mem_cons.mpr ⟨ckC_9_23, List.forall_mem_cons.mpr ⟨ckC_9_26, List.forall_mem_cons.mpr ⟨ckC_9_27, List.forall_mem_cons.mpr ⟨ckC_9_30, List.forall_mem_cons.mpr ⟨ckC_9_31, List.forall_mem_cons.mpr ⟨ckC_9_35, List.forall_mem_cons.mpr ⟨ckC_9_36, List.forall_mem_cons.mpr ⟨ckC_9_39, List.forall_mem_cons.mpr ⟨ckC_9_40, List.forall_mem_cons.mpr ⟨ckC_9_43, List.forall_mem_cons.mpr ⟨ckC_9_44, List.forall_mem_cons.mpr ⟨ckC_9_47, List.forall_mem_cons.mpr ⟨ckC_9_48, List.forall_mem_cons.mpr ⟨ckC_9_51, List.forall_mem_cons.mpr ⟨ckC_9_52, List.forall_mem_cons.mpr ⟨ckC_9_56, List.forall_mem_cons.mpr ⟨ckC_9_57, List.forall_mem_cons.mpr ⟨ckC_9_60, List.forall_mem_cons.mpr ⟨ckC_9_61, List.forall_mem_cons.mpr ⟨ckC_9_64, List.forall_mem_cons.mpr ⟨ckC_9_65, List.forall_mem_cons.mpr ⟨ckC_9_68, List.forall_mem_cons.mpr ⟨ckC_9_69, List.forall_mem_cons.mpr ⟨ckC_9_72, List.forall_mem_cons.mpr ⟨ckC_9_73, List.forall_mem_cons.mpr ⟨ckC_9_76, List.forall_mem_cons.mpr ⟨ckC_9_77, List.forall_mem_cons.mpr ⟨ckC_9_80, List.forall_mem_cons.mpr ⟨ckC_9_81, List.forall_mem_cons.mpr ⟨ckC_9_84, List.forall_mem_cons.mpr ⟨ckC_9_85, List.forall_mem_cons.mpr ⟨ckC_9_88, List.forall_mem_cons.mpr ⟨ckC_9_89, List.forall_mem_cons.mpr ⟨ckC_9_92, List.forall_mem_cons.mpr ⟨ckC_9_93, List.forall_mem_cons.mpr ⟨ckC_9_96, List.forall_mem_cons.mpr ⟨ckC_9_97, List.forall_mem_cons.mpr ⟨ckC_9_100, List.forall_mem_cons.mpr ⟨ckC_9_101, List.forall_mem_cons.mpr ⟨ckC_9_104, List.forall_mem_cons.mpr ⟨ckC_9_105, List.forall_mem_cons.mpr ⟨ckC_9_108, List.forall_mem_cons.mpr ⟨ckC_9_109, List.forall_mem_cons.mpr ⟨ckC_9_112, List.forall_mem_cons.mpr ⟨ckC_9_113, List.forall_mem_cons.mpr ⟨ckC_9_116, List.forall_mem_cons.mpr ⟨ckC_9_117, List.forall_mem_cons.mpr ⟨ckC_9_120, List.forall_mem_cons.mpr ⟨ckC_9_121, List.forall_mem_cons.mpr ⟨ckC_9_124, List.forall_mem_cons.mpr ⟨ckC_9_125, List.forall_mem_cons.mpr ⟨ckC_9_128, List.forall_mem_cons.mpr ⟨ckC_9_129, List.forall_mem_cons.mpr ⟨ckC_9_132, List.forall_mem_cons.mpr ⟨ckC_9_133, List.forall_mem_cons.mpr ⟨ckC_9_136, List.forall_mem_cons.mpr ⟨ckC_9_137, List.forall_mem_cons.mpr ⟨ckC_9_140, List.forall_mem_cons.mpr ⟨ckC_9_141, List.forall_mem_cons.mpr ⟨ckC_9_144, List.forall_mem_cons.mpr ⟨ckC_9_145, List.forall_mem_cons.mpr ⟨ckC_9_148, List.forall_mem_cons.mpr ⟨ckC_9_149, List.forall_mem_cons.mpr ⟨ckC_9_153, List.forall_mem_cons.mpr ⟨ckC_9_154, List.forall_mem_cons.mpr ⟨ckC_9_157, List.forall_mem_cons.mpr ⟨ckC_9_158, List.forall_mem_cons.mpr ⟨ckC_9_161, List.forall_mem_cons.mpr ⟨ckC_9_162, List.forall_mem_cons.mpr ⟨ckC_9_165, List.forall_mem_cons.mpr ⟨ckC_9_166, List.forall_mem_cons.mpr ⟨ckC_9_169, List.forall_mem_cons.mpr ⟨ckC_9_170, List.forall_mem_cons.mpr ⟨ckC_9_173, List.forall_mem_cons.mpr ⟨ckC_9_174, List.forall_mem_cons.mpr ⟨ckC_9_177, List.forall_mem_cons.mpr ⟨ckC_9_178, List.forall_mem_cons.mpr ⟨ckC_9_181, fun _ h => absurd h List.not_mem_nil⟩⟩⟩⟩⟩⟩⟩⟩⟩⟩⟩⟩⟩⟩⟩⟩⟩⟩⟩⟩⟩⟩⟩⟩⟩⟩⟩⟩⟩⟩⟩⟩⟩⟩⟩⟩⟩⟩⟩⟩⟩⟩⟩⟩⟩⟩⟩⟩⟩⟩⟩⟩⟩⟩⟩⟩⟩⟩⟩⟩⟩⟩⟩⟩⟩⟩⟩⟩⟩⟩⟩⟩⟩⟩⟩⟩⟩⟩⟩⟩⟩⟩⟩⟩
set_option maxRecDepth 20000 in
theorem caC_10 : ∀ q ∈ lkp [] sd_ct 10, chkC 10 q := fun _ h => absurd h List.not_mem_nil
set_option maxRecDepth 20000 in
theorem caC_11 : ∀ q ∈ lkp [] sd_ct 11, chkC 11 q := fun _ h => absurd h List.not_mem_nil
set_option maxRecDepth 20000 in
theorem caC_12 : ∀ q ∈ lkp [] sd_ct 12, chkC 12 q := fun _ h => absurd h List.not_mem_nil
theorem ckC : ∀ c, ∀ q ∈ lkp [] sd_ct c, chkC c q := by
  intro c
  match c with
  | 0 => exact caC_0
  | 1 => exact caC_1
  | 2 => exact caC_2
  | 3 => exact caC_3
  | 4 => exact caC_4
  | 5 => exact caC_5
  | 6 => exact caC_6
  | 7 => exact caC_7
  | 8 => exact caC_8
  | 9 => exact caC_9
  | 10 => exact caC_10
  | 11 => exact caC_11
  | 12 => exact caC_12
  | n + 13 => exact fun _ h => absurd h List.not_mem_nil
theorem ckA : inT (.arrayClass .int) := ⟨List.mem_append_right _ (List.mem_of_getElem? (i := 50) (by decide +kernel)), rfl⟩
def tyOf (ci : Nat) : Nat → FieldType := match ci with
  | 0 => tyX0 | 1 => tyX1 | 2 => tyX2 | 3 => tyX3 | 4 => tyX4 | 5 => tyX5 | 6 => tyX6 | 7 => tyX7 | _ => tyX8
def kdT : FieldType → Nat
  | .int => 0
  | .boolean => 1
  | .object _ => 2
  | .array _ => 2
  | _ => 9
theorem ck_kd : (List.range 9).all (fun ci => (List.range (nF ci)).all (fun k => Nat.beq (fkd ci k) (kdT (tyOf ci k)) && (ffd ci k == (fOf ci k).2.2.2))) = true := by decide +kernel
theorem cw_0 : ∀ w ∈ u_ws (clOf 0).1 (clOf 0).2.1 (nF 0), inT w := List.forall_mem_cons.mpr ⟨tw_961, List.forall_mem_cons.mpr ⟨tw_962, List.forall_mem_cons.mpr ⟨tw_963, List.forall_mem_cons.mpr ⟨tw_964, List.forall_mem_cons.mpr ⟨tw_965, List.forall_mem_cons.mpr ⟨tw_966, List.forall_mem_cons.mpr ⟨tw_967, List.forall_mem_cons.mpr ⟨tw_968, List.forall_mem_cons.mpr ⟨tw_969, List.forall_mem_cons.mpr ⟨tw_970, List.forall_mem_cons.mpr ⟨tw_971, List.forall_mem_cons.mpr ⟨tw_972, List.forall_mem_cons.mpr ⟨tw_973, fun _ h => absurd h List.not_mem_nil⟩⟩⟩⟩⟩⟩⟩⟩⟩⟩⟩⟩⟩
theorem cw_1 : ∀ w ∈ u_ws (clOf 1).1 (clOf 1).2.1 (nF 1), inT w := List.forall_mem_cons.mpr ⟨tw_974, List.forall_mem_cons.mpr ⟨tw_975, List.forall_mem_cons.mpr ⟨tw_976, fun _ h => absurd h List.not_mem_nil⟩⟩⟩
theorem cw_2 : ∀ w ∈ u_ws (clOf 2).1 (clOf 2).2.1 (nF 2), inT w := List.forall_mem_cons.mpr ⟨tw_977, List.forall_mem_cons.mpr ⟨tw_978, List.forall_mem_cons.mpr ⟨tw_979, List.forall_mem_cons.mpr ⟨tw_980, fun _ h => absurd h List.not_mem_nil⟩⟩⟩⟩
theorem cw_3 : ∀ w ∈ u_ws (clOf 3).1 (clOf 3).2.1 (nF 3), inT w := List.forall_mem_cons.mpr ⟨tw_981, List.forall_mem_cons.mpr ⟨tw_982, List.forall_mem_cons.mpr ⟨tw_983, List.forall_mem_cons.mpr ⟨tw_984, fun _ h => absurd h List.not_mem_nil⟩⟩⟩⟩
theorem cw_4 : ∀ w ∈ u_ws (clOf 4).1 (clOf 4).2.1 (nF 4), inT w := List.forall_mem_cons.mpr ⟨tw_985, List.forall_mem_cons.mpr ⟨tw_986, List.forall_mem_cons.mpr ⟨tw_987, List.forall_mem_cons.mpr ⟨tw_988, List.forall_mem_cons.mpr ⟨tw_989, List.forall_mem_cons.mpr ⟨tw_990, fun _ h => absurd h List.not_mem_nil⟩⟩⟩⟩⟩⟩
theorem cw_5 : ∀ w ∈ u_ws (clOf 5).1 (clOf 5).2.1 (nF 5), inT w := List.forall_mem_cons.mpr ⟨tw_991, List.forall_mem_cons.mpr ⟨tw_992, List.forall_mem_cons.mpr ⟨tw_993, List.forall_mem_cons.mpr ⟨tw_994, List.forall_mem_cons.mpr ⟨tw_995, fun _ h => absurd h List.not_mem_nil⟩⟩⟩⟩⟩
theorem cw_6 : ∀ w ∈ u_ws (clOf 6).1 (clOf 6).2.1 (nF 6), inT w := List.forall_mem_cons.mpr ⟨tw_996, List.forall_mem_cons.mpr ⟨tw_997, List.forall_mem_cons.mpr ⟨tw_998, List.forall_mem_cons.mpr ⟨tw_999, fun _ h => absurd h List.not_mem_nil⟩⟩⟩⟩
theorem cw_7 : ∀ w ∈ u_ws (clOf 7).1 (clOf 7).2.1 (nF 7), inT w := List.forall_mem_cons.mpr ⟨tw_1000, List.forall_mem_cons.mpr ⟨tw_1001, List.forall_mem_cons.mpr ⟨tw_1002, List.forall_mem_cons.mpr ⟨tw_1003, List.forall_mem_cons.mpr ⟨tw_1004, List.forall_mem_cons.mpr ⟨tw_1005, List.forall_mem_cons.mpr ⟨tw_1006, List.forall_mem_cons.mpr ⟨tw_1007, fun _ h => absurd h List.not_mem_nil⟩⟩⟩⟩⟩⟩⟩⟩
theorem cw_8 : ∀ w ∈ u_ws (clOf 8).1 (clOf 8).2.1 (nF 8), inT w := List.forall_mem_cons.mpr ⟨tw_1008, List.forall_mem_cons.mpr ⟨tw_1009, List.forall_mem_cons.mpr ⟨tw_1010, List.forall_mem_cons.mpr ⟨tw_1011, List.forall_mem_cons.mpr ⟨tw_1012, List.forall_mem_cons.mpr ⟨tw_1013, List.forall_mem_cons.mpr ⟨tw_1014, List.forall_mem_cons.mpr ⟨tw_1015, List.forall_mem_cons.mpr ⟨tw_1016, List.forall_mem_cons.mpr ⟨tw_1017, List.forall_mem_cons.mpr ⟨tw_1018, List.forall_mem_cons.mpr ⟨tw_1019, List.forall_mem_cons.mpr ⟨tw_1020, List.forall_mem_cons.mpr ⟨tw_1021, List.forall_mem_cons.mpr ⟨tw_1022, List.forall_mem_cons.mpr ⟨tw_1023, List.forall_mem_cons.mpr ⟨tw_1024, List.forall_mem_cons.mpr ⟨tw_1025, List.forall_mem_cons.mpr ⟨tw_1026, List.forall_mem_cons.mpr ⟨tw_1027, List.forall_mem_cons.mpr ⟨tw_1028, List.forall_mem_cons.mpr ⟨tw_1029, List.forall_mem_cons.mpr ⟨tw_1030, fun _ h => absurd h List.not_mem_nil⟩⟩⟩⟩⟩⟩⟩⟩⟩⟩⟩⟩⟩⟩⟩⟩⟩⟩⟩⟩⟩⟩⟩
theorem cw_all : ∀ ci, ci < 9 → ∀ w ∈ u_ws (clOf ci).1 (clOf ci).2.1 (nF ci), inT w := by
  intro ci h
  match ci, h with
  | 0, _ => exact cw_0
  | 1, _ => exact cw_1
  | 2, _ => exact cw_2
  | 3, _ => exact cw_3
  | 4, _ => exact cw_4
  | 5, _ => exact cw_5
  | 6, _ => exact cw_6
  | 7, _ => exact cw_7
  | 8, _ => exact cw_8
  | n + 9, h => omega
theorem ty_ok : ∀ ci, ci < 9 → ∀ k, k < nF ci → parseFieldDescriptor (fOf ci k).2.2.1 = some (tyOf ci k) := by
  intro ci h
  match ci, h with
  | 0, _ => exact tyX0_ok
  | 1, _ => exact tyX1_ok
  | 2, _ => exact tyX2_ok
  | 3, _ => exact tyX3_ok
  | 4, _ => exact tyX4_ok
  | 5, _ => exact tyX5_ok
  | 6, _ => exact tyX6_ok
  | 7, _ => exact tyX7_ok
  | 8, _ => exact tyX8_ok
  | n + 9, h => omega
theorem nm_ok : ∀ ci, ci < 9 → ∀ a, a < nF ci → ∀ b, b < nF ci → a ≠ b → (fOf ci a).2.1 ≠ (fOf ci b).2.1 := by
  intro ci h
  match ci, h with
  | 0, _ => exact nmX0
  | 1, _ => exact nmX1
  | 2, _ => exact nmX2
  | 3, _ => exact nmX3
  | 4, _ => exact nmX4
  | 5, _ => exact nmX5
  | 6, _ => exact nmX6
  | 7, _ => exact nmX7
  | 8, _ => exact nmX8
  | n + 9, h => omega
theorem cl_at : ∀ ci, ci < 9 → sd_cl[ci]? = some (clOf ci) := by
  intro ci h
  match ci, h with
  | 0, _ => exact rfl
  | 1, _ => exact rfl
  | 2, _ => exact rfl
  | 3, _ => exact rfl
  | 4, _ => exact rfl
  | 5, _ => exact rfl
  | 6, _ => exact rfl
  | 7, _ => exact rfl
  | 8, _ => exact rfl
  | n + 9, h => omega
def okM (c : Nat) (M : MD) : Prop := chkM M = true ∧ plainFor M.1 = true ∧ M.1.cls = ownOf c ∧ M.2.2.1 ≤ 19 ∧ (M.1.cls ≠ "java/lang/invoke/MethodHandle" ∧ M.1.cls ≠ "java/lang/invoke/VarHandle")
theorem neMH {a b : String} (h : decide (a = b) = false) : a ≠ b := of_decide_eq_false h
theorem om_0_0 : okM 0 (⟨"SumDoor$Gaol", "<init>", "()V"⟩, prog_2_method_1_code, 2, none, pg_0_0) := ⟨ck_0_0, by decide +kernel, rfl, Nat.le_of_ble_eq_true rfl, by decide +kernel, by decide +kernel⟩
theorem om_0_1 : okM 0 (⟨"SumDoor$Gaol", "row", "(I)[I"⟩, prog_2_method_2_code, 2, (some (FieldType.array FieldType.int)), pg_0_1) := ⟨ck_0_1, by decide +kernel, rfl, Nat.le_of_ble_eq_true rfl, by decide +kernel, by decide +kernel⟩
theorem om_0_2 : okM 0 (⟨"SumDoor$Gaol", "become", "(LSumDoor$Gaol;)V"⟩, prog_2_method_3_code, 3, none, pg_0_2) := ⟨ck_0_2, by decide +kernel, rfl, Nat.le_of_ble_eq_true rfl, by decide +kernel, by decide +kernel⟩
theorem om_0_3 : okM 0 (⟨"SumDoor$Gaol", "beginDay", "(I)V"⟩, prog_2_method_4_code, 2, none, pg_0_3) := ⟨ck_0_3, by decide +kernel, rfl, Nat.le_of_ble_eq_true rfl, by decide +kernel, by decide +kernel⟩
theorem om_0_4 : okM 0 (⟨"SumDoor$Gaol", "outSet", "()I"⟩, prog_2_method_5_code, 1, (some FieldType.int), pg_0_4) := ⟨ck_0_4, by decide +kernel, rfl, Nat.le_of_ble_eq_true rfl, by decide +kernel, by decide +kernel⟩
theorem om_0_5 : okM 0 (⟨"SumDoor$Gaol", "maySet", "()I"⟩, prog_2_method_6_code, 1, (some FieldType.int), pg_0_5) := ⟨ck_0_5, by decide +kernel, rfl, Nat.le_of_ble_eq_true rfl, by decide +kernel, by decide +kernel⟩
theorem om_0_6 : okM 0 (⟨"SumDoor$Gaol", "answerSet", "()I"⟩, prog_2_method_7_code, 1, (some FieldType.int), pg_0_6) := ⟨ck_0_6, by decide +kernel, rfl, Nat.le_of_ble_eq_true rfl, by decide +kernel, by decide +kernel⟩
theorem om_0_7 : okM 0 (⟨"SumDoor$Gaol", "setOf", "([II)I"⟩, prog_2_method_8_code, 4, (some FieldType.int), pg_0_7) := ⟨ck_0_7, by decide +kernel, rfl, Nat.le_of_ble_eq_true rfl, by decide +kernel, by decide +kernel⟩
theorem om_0_8 : okM 0 (⟨"SumDoor$Gaol", "allChalk", "()I"⟩, prog_2_method_9_code, 3, (some FieldType.int), pg_0_8) := ⟨ck_0_8, by decide +kernel, rfl, Nat.le_of_ble_eq_true rfl, by decide +kernel, by decide +kernel⟩
theorem om_0_9 : okM 0 (⟨"SumDoor$Gaol", "give", "(II)V"⟩, prog_2_method_10_code, 3, none, pg_0_9) := ⟨ck_0_9, by decide +kernel, rfl, Nat.le_of_ble_eq_true rfl, by decide +kernel, by decide +kernel⟩
theorem om_0_10 : okM 0 (⟨"SumDoor$Gaol", "teach", "(II)V"⟩, prog_2_method_11_code, 3, none, pg_0_10) := ⟨ck_0_10, by decide +kernel, rfl, Nat.le_of_ble_eq_true rfl, by decide +kernel, by decide +kernel⟩
theorem om_0_11 : okM 0 (⟨"SumDoor$Gaol", "goOn", "(LSumDoor$Sums;I)V"⟩, prog_2_method_12_code, 8, none, pg_0_11) := ⟨ck_0_11, by decide +kernel, rfl, Nat.le_of_ble_eq_true rfl, by decide +kernel, by decide +kernel⟩
theorem om_0_12 : okM 0 (⟨"SumDoor$Gaol", "seeks", "(I)Z"⟩, prog_2_method_13_code, 2, (some FieldType.boolean), pg_0_12) := ⟨ck_0_12, by decide +kernel, rfl, Nat.le_of_ble_eq_true rfl, by decide +kernel, by decide +kernel⟩
theorem om_0_13 : okM 0 (⟨"SumDoor$Gaol", "sells", "(I)Z"⟩, prog_2_method_14_code, 2, (some FieldType.boolean), pg_0_13) := ⟨ck_0_13, by decide +kernel, rfl, Nat.le_of_ble_eq_true rfl, by decide +kernel, by decide +kernel⟩
theorem om_0_14 : okM 0 (⟨"SumDoor$Gaol", "workOn", "(ILSumDoor$Sums;I)V"⟩, prog_2_method_15_code, 5, none, pg_0_14) := ⟨ck_0_14, by decide +kernel, rfl, Nat.le_of_ble_eq_true rfl, by decide +kernel, by decide +kernel⟩
theorem om_0_15 : okM 0 (⟨"SumDoor$Gaol", "buy", "(I)V"⟩, prog_2_method_16_code, 3, none, pg_0_15) := ⟨ck_0_15, by decide +kernel, rfl, Nat.le_of_ble_eq_true rfl, by decide +kernel, by decide +kernel⟩
theorem om_0_16 : okM 0 (⟨"SumDoor$Gaol", "cheapest", "()I"⟩, prog_2_method_17_code, 3, (some FieldType.int), pg_0_16) := ⟨ck_0_16, by decide +kernel, rfl, Nat.le_of_ble_eq_true rfl, by decide +kernel, by decide +kernel⟩
theorem om_0_17 : okM 0 (⟨"SumDoor$Gaol", "readLips", "(II)V"⟩, prog_2_method_18_code, 4, none, pg_0_17) := ⟨ck_0_17, by decide +kernel, rfl, Nat.le_of_ble_eq_true rfl, by decide +kernel, by decide +kernel⟩
theorem om_0_18 : okM 0 (⟨"SumDoor$Gaol", "firstIn", "(II)I"⟩, prog_2_method_19_code, 4, (some FieldType.int), pg_0_18) := ⟨ck_0_18, by decide +kernel, rfl, Nat.le_of_ble_eq_true rfl, by decide +kernel, by decide +kernel⟩
theorem om_0_19 : okM 0 (⟨"SumDoor$Gaol", "goOut", "(I)V"⟩, prog_2_method_20_code, 2, none, pg_0_19) := ⟨ck_0_19, by decide +kernel, rfl, Nat.le_of_ble_eq_true rfl, by decide +kernel, by decide +kernel⟩
set_option maxRecDepth 20000 in
theorem oma_0 : ∀ M ∈ mt_0, okM 0 M := List.forall_mem_cons.mpr ⟨om_0_0, List.forall_mem_cons.mpr ⟨om_0_1, List.forall_mem_cons.mpr ⟨om_0_2, List.forall_mem_cons.mpr ⟨om_0_3, List.forall_mem_cons.mpr ⟨om_0_4, List.forall_mem_cons.mpr ⟨om_0_5, List.forall_mem_cons.mpr ⟨om_0_6, List.forall_mem_cons.mpr ⟨om_0_7, List.forall_mem_cons.mpr ⟨om_0_8, List.forall_mem_cons.mpr ⟨om_0_9, List.forall_mem_cons.mpr ⟨om_0_10, List.forall_mem_cons.mpr ⟨om_0_11, List.forall_mem_cons.mpr ⟨om_0_12, List.forall_mem_cons.mpr ⟨om_0_13, List.forall_mem_cons.mpr ⟨om_0_14, List.forall_mem_cons.mpr ⟨om_0_15, List.forall_mem_cons.mpr ⟨om_0_16, List.forall_mem_cons.mpr ⟨om_0_17, List.forall_mem_cons.mpr ⟨om_0_18, List.forall_mem_cons.mpr ⟨om_0_19, fun _ h => absurd h List.not_mem_nil⟩⟩⟩⟩⟩⟩⟩⟩⟩⟩⟩⟩⟩⟩⟩⟩⟩⟩⟩⟩
theorem om_1_0 : okM 1 (⟨"SumDoor$Sheet", "<init>", "()V"⟩, prog_3_method_1_code, 1, none, pg_1_0) := ⟨ck_1_0, by decide +kernel, rfl, Nat.le_of_ble_eq_true rfl, by decide +kernel, by decide +kernel⟩
theorem om_1_1 : okM 1 (⟨"SumDoor$Sheet", "isMissing", "()Z"⟩, prog_3_method_2_code, 1, (some FieldType.boolean), pg_1_1) := ⟨ck_1_1, by decide +kernel, rfl, Nat.le_of_ble_eq_true rfl, by decide +kernel, by decide +kernel⟩
theorem om_1_2 : okM 1 (⟨"SumDoor$Sheet", "begin", "(II)V"⟩, prog_3_method_3_code, 3, none, pg_1_2) := ⟨ck_1_2, by decide +kernel, rfl, Nat.le_of_ble_eq_true rfl, by decide +kernel, by decide +kernel⟩
theorem om_1_3 : okM 1 (⟨"SumDoor$Sheet", "put", "(II)V"⟩, prog_3_method_4_code, 3, none, pg_1_3) := ⟨ck_1_3, by decide +kernel, rfl, Nat.le_of_ble_eq_true rfl, by decide +kernel, by decide +kernel⟩
theorem om_1_4 : okM 1 (⟨"SumDoor$Sheet", "cut", "(I)I"⟩, prog_3_method_5_code, 2, (some FieldType.int), pg_1_4) := ⟨ck_1_4, by decide +kernel, rfl, Nat.le_of_ble_eq_true rfl, by decide +kernel, by decide +kernel⟩
theorem om_1_5 : okM 1 (⟨"SumDoor$Sheet", "hasRun", "(II)Z"⟩, prog_3_method_6_code, 3, (some FieldType.boolean), pg_1_5) := ⟨ck_1_5, by decide +kernel, rfl, Nat.le_of_ble_eq_true rfl, by decide +kernel, by decide +kernel⟩
set_option maxRecDepth 20000 in
theorem oma_1 : ∀ M ∈ mt_1, okM 1 M := List.forall_mem_cons.mpr ⟨om_1_0, List.forall_mem_cons.mpr ⟨om_1_1, List.forall_mem_cons.mpr ⟨om_1_2, List.forall_mem_cons.mpr ⟨om_1_3, List.forall_mem_cons.mpr ⟨om_1_4, List.forall_mem_cons.mpr ⟨om_1_5, fun _ h => absurd h List.not_mem_nil⟩⟩⟩⟩⟩⟩
theorem om_2_0 : okM 2 (⟨"SumDoor$Side", "<init>", "([III)V"⟩, prog_4_method_1_code, 7, none, pg_2_0) := ⟨ck_2_0, by decide +kernel, rfl, Nat.le_of_ble_eq_true rfl, by decide +kernel, by decide +kernel⟩
theorem om_2_1 : okM 2 (⟨"SumDoor$Side", "takeSign", "(I)V"⟩, prog_4_method_2_code, 2, none, pg_2_1) := ⟨ck_2_1, by decide +kernel, rfl, Nat.le_of_ble_eq_true rfl, by decide +kernel, by decide +kernel⟩
theorem om_2_2 : okM 2 (⟨"SumDoor$Side", "takeWaiting", "(I)V"⟩, prog_4_method_3_code, 2, none, pg_2_2) := ⟨ck_2_2, by decide +kernel, rfl, Nat.le_of_ble_eq_true rfl, by decide +kernel, by decide +kernel⟩
theorem om_2_3 : okM 2 (⟨"SumDoor$Side", "rank", "(I)I"⟩, prog_4_method_4_code, 1, (some FieldType.int), pg_2_3) := ⟨ck_2_3, by decide +kernel, rfl, Nat.le_of_ble_eq_true rfl, by decide +kernel, by decide +kernel⟩
theorem om_2_4 : okM 2 (⟨"SumDoor$Side", "addStep", "(I)V"⟩, prog_4_method_5_code, 2, none, pg_2_4) := ⟨ck_2_4, by decide +kernel, rfl, Nat.le_of_ble_eq_true rfl, by decide +kernel, by decide +kernel⟩
theorem om_2_5 : okM 2 (⟨"SumDoor$Side", "lengthenNumber", "(I)V"⟩, prog_4_method_6_code, 2, none, pg_2_5) := ⟨ck_2_5, by decide +kernel, rfl, Nat.le_of_ble_eq_true rfl, by decide +kernel, by decide +kernel⟩
theorem om_2_6 : okM 2 (⟨"SumDoor$Side", "push", "(I)V"⟩, prog_4_method_7_code, 2, none, pg_2_6) := ⟨ck_2_6, by decide +kernel, rfl, Nat.le_of_ble_eq_true rfl, by decide +kernel, by decide +kernel⟩
theorem om_2_7 : okM 2 (⟨"SumDoor$Side", "worth", "(I)I"⟩, prog_4_method_8_code, 4, (some FieldType.int), pg_2_7) := ⟨ck_2_7, by decide +kernel, rfl, Nat.le_of_ble_eq_true rfl, by decide +kernel, by decide +kernel⟩
theorem om_2_8 : okM 2 (⟨"SumDoor$Side", "joined", "(III)I"⟩, prog_4_method_9_code, 3, (some FieldType.int), pg_2_8) := ⟨ck_2_8, by decide +kernel, rfl, Nat.le_of_ble_eq_true rfl, by decide +kernel, by decide +kernel⟩
set_option maxRecDepth 20000 in
theorem oma_2 : ∀ M ∈ mt_2, okM 2 M := List.forall_mem_cons.mpr ⟨om_2_0, List.forall_mem_cons.mpr ⟨om_2_1, List.forall_mem_cons.mpr ⟨om_2_2, List.forall_mem_cons.mpr ⟨om_2_3, List.forall_mem_cons.mpr ⟨om_2_4, List.forall_mem_cons.mpr ⟨om_2_5, List.forall_mem_cons.mpr ⟨om_2_6, List.forall_mem_cons.mpr ⟨om_2_7, List.forall_mem_cons.mpr ⟨om_2_8, fun _ h => absurd h List.not_mem_nil⟩⟩⟩⟩⟩⟩⟩⟩⟩
theorem om_3_0 : okM 3 (⟨"SumDoor$Sums", "<init>", "()V"⟩, prog_5_method_1_code, 1, none, pg_3_0) := ⟨ck_3_0, by decide +kernel, rfl, Nat.le_of_ble_eq_true rfl, by decide +kernel, by decide +kernel⟩
theorem om_3_1 : okM 3 (⟨"SumDoor$Sums", "has", "(I)Z"⟩, prog_5_method_2_code, 2, (some FieldType.boolean), pg_3_1) := ⟨ck_3_1, by decide +kernel, rfl, Nat.le_of_ble_eq_true rfl, by decide +kernel, by decide +kernel⟩
theorem om_3_2 : okM 3 (⟨"SumDoor$Sums", "add", "(LSumDoor$Text;II)I"⟩, prog_5_method_3_code, 5, (some FieldType.int), pg_3_2) := ⟨ck_3_2, by decide +kernel, rfl, Nat.le_of_ble_eq_true rfl, by decide +kernel, by decide +kernel⟩
theorem om_3_3 : okM 3 (⟨"SumDoor$Sums", "become", "(LSumDoor$Sums;)V"⟩, prog_5_method_4_code, 3, none, pg_3_3) := ⟨ck_3_3, by decide +kernel, rfl, Nat.le_of_ble_eq_true rfl, by decide +kernel, by decide +kernel⟩
theorem om_3_4 : okM 3 (⟨"SumDoor$Sums", "hardOf", "(I)I"⟩, prog_5_method_5_code, 3, (some FieldType.int), pg_3_4) := ⟨ck_3_4, by decide +kernel, rfl, Nat.le_of_ble_eq_true rfl, by decide +kernel, by decide +kernel⟩
theorem om_3_5 : okM 3 (⟨"SumDoor$Sums", "sideOf", "(III)I"⟩, prog_5_method_6_code, 4, (some FieldType.int), pg_3_5) := ⟨ck_3_5, by decide +kernel, rfl, Nat.le_of_ble_eq_true rfl, by decide +kernel, by decide +kernel⟩
theorem om_3_6 : okM 3 (⟨"SumDoor$Sums", "isSolvedBy", "(II)Z"⟩, prog_5_method_7_code, 3, (some FieldType.boolean), pg_3_6) := ⟨ck_3_6, by decide +kernel, rfl, Nat.le_of_ble_eq_true rfl, by decide +kernel, by decide +kernel⟩
theorem om_3_7 : okM 3 (⟨"SumDoor$Sums", "solversOf", "(II)I"⟩, prog_5_method_8_code, 5, (some FieldType.int), pg_3_7) := ⟨ck_3_7, by decide +kernel, rfl, Nat.le_of_ble_eq_true rfl, by decide +kernel, by decide +kernel⟩
theorem om_3_8 : okM 3 (⟨"SumDoor$Sums", "isSolvedWith", "(III)Z"⟩, prog_5_method_9_code, 6, (some FieldType.boolean), pg_3_8) := ⟨ck_3_8, by decide +kernel, rfl, Nat.le_of_ble_eq_true rfl, by decide +kernel, by decide +kernel⟩
theorem om_3_9 : okM 3 (⟨"SumDoor$Sums", "isMultiple", "(II)Z"⟩, prog_5_method_10_code, 2, (some FieldType.boolean), pg_3_9) := ⟨ck_3_9, by decide +kernel, rfl, Nat.le_of_ble_eq_true rfl, by decide +kernel, by decide +kernel⟩
set_option maxRecDepth 20000 in
theorem oma_3 : ∀ M ∈ mt_3, okM 3 M := List.forall_mem_cons.mpr ⟨om_3_0, List.forall_mem_cons.mpr ⟨om_3_1, List.forall_mem_cons.mpr ⟨om_3_2, List.forall_mem_cons.mpr ⟨om_3_3, List.forall_mem_cons.mpr ⟨om_3_4, List.forall_mem_cons.mpr ⟨om_3_5, List.forall_mem_cons.mpr ⟨om_3_6, List.forall_mem_cons.mpr ⟨om_3_7, List.forall_mem_cons.mpr ⟨om_3_8, List.forall_mem_cons.mpr ⟨om_3_9, fun _ h => absurd h List.not_mem_nil⟩⟩⟩⟩⟩⟩⟩⟩⟩⟩
theorem om_4_0 : okM 4 (⟨"SumDoor$Tape", "<init>", "()V"⟩, prog_6_method_1_code, 1, none, pg_4_0) := ⟨ck_4_0, by decide +kernel, rfl, Nat.le_of_ble_eq_true rfl, by decide +kernel, by decide +kernel⟩
theorem om_4_1 : okM 4 (⟨"SumDoor$Tape", "add", "(I)V"⟩, prog_6_method_2_code, 2, none, pg_4_1) := ⟨ck_4_1, by decide +kernel, rfl, Nat.le_of_ble_eq_true rfl, by decide +kernel, by decide +kernel⟩
theorem om_4_2 : okM 4 (⟨"SumDoor$Tape", "fault", "()I"⟩, prog_6_method_3_code, 3, (some FieldType.int), pg_4_2) := ⟨ck_4_2, by decide +kernel, rfl, Nat.le_of_ble_eq_true rfl, by decide +kernel, by decide +kernel⟩
theorem om_4_3 : okM 4 (⟨"SumDoor$Tape", "beginsOperand", "(I)Z"⟩, prog_6_method_4_code, 2, (some FieldType.boolean), pg_4_3) := ⟨ck_4_3, by decide +kernel, rfl, Nat.le_of_ble_eq_true rfl, by decide +kernel, by decide +kernel⟩
theorem om_4_4 : okM 4 (⟨"SumDoor$Tape", "followsOperand", "(I)Z"⟩, prog_6_method_5_code, 3, (some FieldType.boolean), pg_4_4) := ⟨ck_4_4, by decide +kernel, rfl, Nat.le_of_ble_eq_true rfl, by decide +kernel, by decide +kernel⟩
theorem om_4_5 : okM 4 (⟨"SumDoor$Tape", "isDigit", "(I)Z"⟩, prog_6_method_6_code, 1, (some FieldType.boolean), pg_4_5) := ⟨ck_4_5, by decide +kernel, rfl, Nat.le_of_ble_eq_true rfl, by decide +kernel, by decide +kernel⟩
theorem om_4_6 : okM 4 (⟨"SumDoor$Tape", "isOperator", "(I)Z"⟩, prog_6_method_7_code, 1, (some FieldType.boolean), pg_4_6) := ⟨ck_4_6, by decide +kernel, rfl, Nat.le_of_ble_eq_true rfl, by decide +kernel, by decide +kernel⟩
set_option maxRecDepth 20000 in
theorem oma_4 : ∀ M ∈ mt_4, okM 4 M := List.forall_mem_cons.mpr ⟨om_4_0, List.forall_mem_cons.mpr ⟨om_4_1, List.forall_mem_cons.mpr ⟨om_4_2, List.forall_mem_cons.mpr ⟨om_4_3, List.forall_mem_cons.mpr ⟨om_4_4, List.forall_mem_cons.mpr ⟨om_4_5, List.forall_mem_cons.mpr ⟨om_4_6, fun _ h => absurd h List.not_mem_nil⟩⟩⟩⟩⟩⟩⟩
theorem om_5_0 : okM 5 (⟨"SumDoor$Text", "<init>", "(LSumDoor$Tape;)V"⟩, prog_7_method_1_code, 6, none, pg_5_0) := ⟨ck_5_0, by decide +kernel, rfl, Nat.le_of_ble_eq_true rfl, by decide +kernel, by decide +kernel⟩
set_option maxRecDepth 20000 in
theorem oma_5 : ∀ M ∈ mt_5, okM 5 M := List.forall_mem_cons.mpr ⟨om_5_0, fun _ h => absurd h List.not_mem_nil⟩
theorem om_6_0 : okM 6 (⟨"SumDoor$World", "<init>", "()V"⟩, prog_8_method_1_code, 1, none, pg_6_0) := ⟨ck_6_0, by decide +kernel, rfl, Nat.le_of_ble_eq_true rfl, by decide +kernel, by decide +kernel⟩
theorem om_6_1 : okM 6 (⟨"SumDoor$World", "become", "(LSumDoor$World;)V"⟩, prog_8_method_2_code, 2, none, pg_6_1) := ⟨ck_6_1, by decide +kernel, rfl, Nat.le_of_ble_eq_true rfl, by decide +kernel, by decide +kernel⟩
theorem om_6_2 : okM 6 (⟨"SumDoor$World", "draw", "()I"⟩, prog_8_method_3_code, 1, (some FieldType.int), pg_6_2) := ⟨ck_6_2, by decide +kernel, rfl, Nat.le_of_ble_eq_true rfl, by decide +kernel, by decide +kernel⟩
set_option maxRecDepth 20000 in
theorem oma_6 : ∀ M ∈ mt_6, okM 6 M := List.forall_mem_cons.mpr ⟨om_6_0, List.forall_mem_cons.mpr ⟨om_6_1, List.forall_mem_cons.mpr ⟨om_6_2, fun _ h => absurd h List.not_mem_nil⟩⟩⟩
theorem om_7_0 : okM 7 (⟨"SumDoor", "<init>", "()V"⟩, prog_1_method_1_code, 2, none, pg_7_0) := ⟨ck_7_0, by decide +kernel, rfl, Nat.le_of_ble_eq_true rfl, by decide +kernel, by decide +kernel⟩
theorem om_7_1 : okM 7 (⟨"SumDoor", "feed", "(II)I"⟩, prog_1_method_2_code, 4, (some FieldType.int), pg_7_1) := ⟨ck_7_1, by decide +kernel, rfl, Nat.le_of_ble_eq_true rfl, by decide +kernel, by decide +kernel⟩
theorem om_7_2 : okM 7 (⟨"SumDoor", "wipe", "()I"⟩, prog_1_method_3_code, 2, (some FieldType.int), pg_7_2) := ⟨ck_7_2, by decide +kernel, rfl, Nat.le_of_ble_eq_true rfl, by decide +kernel, by decide +kernel⟩
theorem om_7_3 : okM 7 (⟨"SumDoor", "sum", "(II)I"⟩, prog_1_method_4_code, 5, (some FieldType.int), pg_7_3) := ⟨ck_7_3, by decide +kernel, rfl, Nat.le_of_ble_eq_true rfl, by decide +kernel, by decide +kernel⟩
theorem om_7_4 : okM 7 (⟨"SumDoor", "sumOf", "(II)I"⟩, prog_1_method_5_code, 3, (some FieldType.int), pg_7_4) := ⟨ck_7_4, by decide +kernel, rfl, Nat.le_of_ble_eq_true rfl, by decide +kernel, by decide +kernel⟩
theorem om_7_5 : okM 7 (⟨"SumDoor", "change", "(III)I"⟩, prog_1_method_6_code, 4, (some FieldType.int), pg_7_5) := ⟨ck_7_5, by decide +kernel, rfl, Nat.le_of_ble_eq_true rfl, by decide +kernel, by decide +kernel⟩
theorem om_7_6 : okM 7 (⟨"SumDoor", "side", "(III)I"⟩, prog_1_method_7_code, 4, (some FieldType.int), pg_7_6) := ⟨ck_7_6, by decide +kernel, rfl, Nat.le_of_ble_eq_true rfl, by decide +kernel, by decide +kernel⟩
theorem om_7_7 : okM 7 (⟨"SumDoor", "solves", "(II)I"⟩, prog_1_method_8_code, 3, (some FieldType.int), pg_7_7) := ⟨ck_7_7, by decide +kernel, rfl, Nat.le_of_ble_eq_true rfl, by decide +kernel, by decide +kernel⟩
theorem om_7_8 : okM 7 (⟨"SumDoor", "solution", "(II)I"⟩, prog_1_method_9_code, 5, (some FieldType.int), pg_7_8) := ⟨ck_7_8, by decide +kernel, rfl, Nat.le_of_ble_eq_true rfl, by decide +kernel, by decide +kernel⟩
theorem om_7_9 : okM 7 (⟨"SumDoor", "both", "(II)I"⟩, prog_1_method_10_code, 5, (some FieldType.int), pg_7_9) := ⟨ck_7_9, by decide +kernel, rfl, Nat.le_of_ble_eq_true rfl, by decide +kernel, by decide +kernel⟩
theorem om_7_10 : okM 7 (⟨"SumDoor", "strict", "(I)I"⟩, prog_1_method_11_code, 6, (some FieldType.int), pg_7_10) := ⟨ck_7_10, by decide +kernel, rfl, Nat.le_of_ble_eq_true rfl, by decide +kernel, by decide +kernel⟩
theorem om_7_11 : okM 7 (⟨"SumDoor", "prisoner", "(III)I"⟩, prog_1_method_12_code, 4, (some FieldType.int), pg_7_11) := ⟨ck_7_11, by decide +kernel, rfl, Nat.le_of_ble_eq_true rfl, by decide +kernel, by decide +kernel⟩
theorem om_7_12 : okM 7 (⟨"SumDoor", "of", "(II)I"⟩, prog_1_method_13_code, 3, (some FieldType.int), pg_7_12) := ⟨ck_7_12, by decide +kernel, rfl, Nat.le_of_ble_eq_true rfl, by decide +kernel, by decide +kernel⟩
theorem om_7_13 : okM 7 (⟨"SumDoor", "set", "(I)I"⟩, prog_1_method_14_code, 3, (some FieldType.int), pg_7_13) := ⟨ck_7_13, by decide +kernel, rfl, Nat.le_of_ble_eq_true rfl, by decide +kernel, by decide +kernel⟩
theorem om_7_14 : okM 7 (⟨"SumDoor", "rich", "(I)I"⟩, prog_1_method_15_code, 3, (some FieldType.int), pg_7_14) := ⟨ck_7_14, by decide +kernel, rfl, Nat.le_of_ble_eq_true rfl, by decide +kernel, by decide +kernel⟩
theorem om_7_15 : okM 7 (⟨"SumDoor", "alms", "(I)I"⟩, prog_1_method_16_code, 3, (some FieldType.int), pg_7_15) := ⟨ck_7_15, by decide +kernel, rfl, Nat.le_of_ble_eq_true rfl, by decide +kernel, by decide +kernel⟩
theorem om_7_16 : okM 7 (⟨"SumDoor", "school", "(II)I"⟩, prog_1_method_17_code, 4, (some FieldType.int), pg_7_16) := ⟨ck_7_16, by decide +kernel, rfl, Nat.le_of_ble_eq_true rfl, by decide +kernel, by decide +kernel⟩
theorem om_7_17 : okM 7 (⟨"SumDoor", "minutes", "(I)I"⟩, prog_1_method_18_code, 3, (some FieldType.int), pg_7_17) := ⟨ck_7_17, by decide +kernel, rfl, Nat.le_of_ble_eq_true rfl, by decide +kernel, by decide +kernel⟩
theorem om_7_18 : okM 7 (⟨"SumDoor", "out", "()I"⟩, prog_1_method_19_code, 1, (some FieldType.int), pg_7_18) := ⟨ck_7_18, by decide +kernel, rfl, Nat.le_of_ble_eq_true rfl, by decide +kernel, by decide +kernel⟩
theorem om_7_19 : okM 7 (⟨"SumDoor", "day", "()I"⟩, prog_1_method_20_code, 2, (some FieldType.int), pg_7_19) := ⟨ck_7_19, by decide +kernel, rfl, Nat.le_of_ble_eq_true rfl, by decide +kernel, by decide +kernel⟩
theorem om_7_20 : okM 7 (⟨"SumDoor", "ahead", "(II)I"⟩, prog_1_method_21_code, 3, (some FieldType.int), pg_7_20) := ⟨ck_7_20, by decide +kernel, rfl, Nat.le_of_ble_eq_true rfl, by decide +kernel, by decide +kernel⟩
theorem om_7_21 : okM 7 (⟨"SumDoor", "when", "(I)I"⟩, prog_1_method_22_code, 3, (some FieldType.int), pg_7_21) := ⟨ck_7_21, by decide +kernel, rfl, Nat.le_of_ble_eq_true rfl, by decide +kernel, by decide +kernel⟩
theorem om_7_22 : okM 7 (⟨"SumDoor", "lets", "(II)I"⟩, prog_1_method_23_code, 3, (some FieldType.int), pg_7_22) := ⟨ck_7_22, by decide +kernel, rfl, Nat.le_of_ble_eq_true rfl, by decide +kernel, by decide +kernel⟩
theorem om_7_23 : okM 7 (⟨"SumDoor", "choose", "(I)I"⟩, prog_1_method_24_code, 6, (some FieldType.int), pg_7_23) := ⟨ck_7_23, by decide +kernel, rfl, Nat.le_of_ble_eq_true rfl, by decide +kernel, by decide +kernel⟩
theorem om_7_24 : okM 7 (⟨"SumDoor", "wrongs", "(II)I"⟩, prog_1_method_25_code, 3, (some FieldType.int), pg_7_24) := ⟨ck_7_24, by decide +kernel, rfl, Nat.le_of_ble_eq_true rfl, by decide +kernel, by decide +kernel⟩
theorem om_7_25 : okM 7 (⟨"SumDoor", "fewest", "(I)I"⟩, prog_1_method_26_code, 5, (some FieldType.int), pg_7_25) := ⟨ck_7_25, by decide +kernel, rfl, Nat.le_of_ble_eq_true rfl, by decide +kernel, by decide +kernel⟩
theorem om_7_26 : okM 7 (⟨"SumDoor", "skillFor", "(III)I"⟩, prog_1_method_27_code, 5, (some FieldType.int), pg_7_26) := ⟨ck_7_26, by decide +kernel, rfl, Nat.le_of_ble_eq_true rfl, by decide +kernel, by decide +kernel⟩
theorem om_7_27 : okM 7 (⟨"SumDoor", "richFor", "(I)I"⟩, prog_1_method_28_code, 4, (some FieldType.int), pg_7_27) := ⟨ck_7_27, by decide +kernel, rfl, Nat.le_of_ble_eq_true rfl, by decide +kernel, by decide +kernel⟩
theorem om_7_28 : okM 7 (⟨"SumDoor", "could", "(II)I"⟩, prog_1_method_29_code, 5, (some FieldType.int), pg_7_28) := ⟨ck_7_28, by decide +kernel, rfl, Nat.le_of_ble_eq_true rfl, by decide +kernel, by decide +kernel⟩
theorem om_7_29 : okM 7 (⟨"SumDoor", "seed", "(I)I"⟩, prog_1_method_30_code, 3, (some FieldType.int), pg_7_29) := ⟨ck_7_29, by decide +kernel, rfl, Nat.le_of_ble_eq_true rfl, by decide +kernel, by decide +kernel⟩
theorem om_7_30 : okM 7 (⟨"SumDoor", "hold", "(II)I"⟩, prog_1_method_31_code, 3, (some FieldType.int), pg_7_30) := ⟨ck_7_30, by decide +kernel, rfl, Nat.le_of_ble_eq_true rfl, by decide +kernel, by decide +kernel⟩
theorem om_7_31 : okM 7 (⟨"SumDoor", "as", "(II)I"⟩, prog_1_method_32_code, 4, (some FieldType.int), pg_7_31) := ⟨ck_7_31, by decide +kernel, rfl, Nat.le_of_ble_eq_true rfl, by decide +kernel, by decide +kernel⟩
theorem om_7_32 : okM 7 (⟨"SumDoor", "sheet", "(III)I"⟩, prog_1_method_33_code, 4, (some FieldType.int), pg_7_32) := ⟨ck_7_32, by decide +kernel, rfl, Nat.le_of_ble_eq_true rfl, by decide +kernel, by decide +kernel⟩
theorem om_7_33 : okM 7 (⟨"SumDoor", "write", "(III)I"⟩, prog_1_method_34_code, 5, (some FieldType.int), pg_7_33) := ⟨ck_7_33, by decide +kernel, rfl, Nat.le_of_ble_eq_true rfl, by decide +kernel, by decide +kernel⟩
theorem om_7_34 : okM 7 (⟨"SumDoor", "copy", "(IIIII)I"⟩, prog_1_method_35_code, 8, (some FieldType.int), pg_7_34) := ⟨ck_7_34, by decide +kernel, rfl, Nat.le_of_ble_eq_true rfl, by decide +kernel, by decide +kernel⟩
theorem om_7_35 : okM 7 (⟨"SumDoor", "load", "(I)I"⟩, prog_1_method_36_code, 4, (some FieldType.int), pg_7_35) := ⟨ck_7_35, by decide +kernel, rfl, Nat.le_of_ble_eq_true rfl, by decide +kernel, by decide +kernel⟩
theorem om_7_36 : okM 7 (⟨"SumDoor", "judge", "(II)I"⟩, prog_1_method_37_code, 6, (some FieldType.int), pg_7_36) := ⟨ck_7_36, by decide +kernel, rfl, Nat.le_of_ble_eq_true rfl, by decide +kernel, by decide +kernel⟩
theorem om_7_37 : okM 7 (⟨"SumDoor", "image", "()I"⟩, prog_1_method_38_code, 1, (some FieldType.int), pg_7_37) := ⟨ck_7_37, by decide +kernel, rfl, Nat.le_of_ble_eq_true rfl, by decide +kernel, by decide +kernel⟩
theorem om_7_38 : okM 7 (⟨"SumDoor", "undo", "()I"⟩, prog_1_method_39_code, 1, (some FieldType.int), pg_7_38) := ⟨ck_7_38, by decide +kernel, rfl, Nat.le_of_ble_eq_true rfl, by decide +kernel, by decide +kernel⟩
theorem om_7_39 : okM 7 (⟨"SumDoor", "tear", "()I"⟩, prog_1_method_40_code, 2, (some FieldType.int), pg_7_39) := ⟨ck_7_39, by decide +kernel, rfl, Nat.le_of_ble_eq_true rfl, by decide +kernel, by decide +kernel⟩
theorem om_7_40 : okM 7 (⟨"SumDoor", "count", "(I)I"⟩, prog_1_method_41_code, 2, (some FieldType.int), pg_7_40) := ⟨ck_7_40, by decide +kernel, rfl, Nat.le_of_ble_eq_true rfl, by decide +kernel, by decide +kernel⟩
theorem om_7_41 : okM 7 (⟨"SumDoor", "status", "(I)I"⟩, prog_1_method_42_code, 4, (some FieldType.int), pg_7_41) := ⟨ck_7_41, by decide +kernel, rfl, Nat.le_of_ble_eq_true rfl, by decide +kernel, by decide +kernel⟩
theorem om_7_42 : okM 7 (⟨"SumDoor", "finding", "(I)I"⟩, prog_1_method_43_code, 3, (some FieldType.int), pg_7_42) := ⟨ck_7_42, by decide +kernel, rfl, Nat.le_of_ble_eq_true rfl, by decide +kernel, by decide +kernel⟩
theorem om_7_43 : okM 7 (⟨"SumDoor", "isWithin", "(III)Z"⟩, prog_1_method_44_code, 3, (some FieldType.boolean), pg_7_43) := ⟨ck_7_43, by decide +kernel, rfl, Nat.le_of_ble_eq_true rfl, by decide +kernel, by decide +kernel⟩
theorem om_7_44 : okM 7 (⟨"SumDoor", "isKind", "(I)Z"⟩, prog_1_method_45_code, 1, (some FieldType.boolean), pg_7_44) := ⟨ck_7_44, by decide +kernel, rfl, Nat.le_of_ble_eq_true rfl, by decide +kernel, by decide +kernel⟩
theorem om_7_45 : okM 7 (⟨"SumDoor", "isNumber", "(I)Z"⟩, prog_1_method_46_code, 1, (some FieldType.boolean), pg_7_45) := ⟨ck_7_45, by decide +kernel, rfl, Nat.le_of_ble_eq_true rfl, by decide +kernel, by decide +kernel⟩
theorem om_7_46 : okM 7 (⟨"SumDoor", "isPrisoner", "(I)Z"⟩, prog_1_method_47_code, 1, (some FieldType.boolean), pg_7_46) := ⟨ck_7_46, by decide +kernel, rfl, Nat.le_of_ble_eq_true rfl, by decide +kernel, by decide +kernel⟩
theorem om_7_47 : okM 7 (⟨"SumDoor", "isSpot", "(I)Z"⟩, prog_1_method_48_code, 1, (some FieldType.boolean), pg_7_47) := ⟨ck_7_47, by decide +kernel, rfl, Nat.le_of_ble_eq_true rfl, by decide +kernel, by decide +kernel⟩
theorem om_7_48 : okM 7 (⟨"SumDoor", "isSum", "(I)Z"⟩, prog_1_method_49_code, 2, (some FieldType.boolean), pg_7_48) := ⟨ck_7_48, by decide +kernel, rfl, Nat.le_of_ble_eq_true rfl, by decide +kernel, by decide +kernel⟩
theorem om_7_49 : okM 7 (⟨"SumDoor", "isSheet", "(I)Z"⟩, prog_1_method_50_code, 2, (some FieldType.boolean), pg_7_49) := ⟨ck_7_49, by decide +kernel, rfl, Nat.le_of_ble_eq_true rfl, by decide +kernel, by decide +kernel⟩
theorem om_7_50 : okM 7 (⟨"SumDoor", "isUnder", "(II)Z"⟩, prog_1_method_51_code, 4, (some FieldType.boolean), pg_7_50) := ⟨ck_7_50, by decide +kernel, rfl, Nat.le_of_ble_eq_true rfl, by decide +kernel, by decide +kernel⟩
theorem om_7_51 : okM 7 (⟨"SumDoor", "replace", "([III)I"⟩, prog_1_method_52_code, 4, (some FieldType.int), pg_7_51) := ⟨ck_7_51, by decide +kernel, rfl, Nat.le_of_ble_eq_true rfl, by decide +kernel, by decide +kernel⟩
theorem om_7_52 : okM 7 (⟨"SumDoor", "tryDay", "(I)V"⟩, prog_1_method_53_code, 2, none, pg_7_52) := ⟨ck_7_52, by decide +kernel, rfl, Nat.le_of_ble_eq_true rfl, by decide +kernel, by decide +kernel⟩
theorem om_7_53 : okM 7 (⟨"SumDoor", "letOut", "(II)I"⟩, prog_1_method_54_code, 3, (some FieldType.int), pg_7_53) := ⟨ck_7_53, by decide +kernel, rfl, Nat.le_of_ble_eq_true rfl, by decide +kernel, by decide +kernel⟩
theorem om_7_54 : okM 7 (⟨"SumDoor", "letByAny", "(I)I"⟩, prog_1_method_55_code, 4, (some FieldType.int), pg_7_54) := ⟨ck_7_54, by decide +kernel, rfl, Nat.le_of_ble_eq_true rfl, by decide +kernel, by decide +kernel⟩
theorem om_7_55 : okM 7 (⟨"SumDoor", "keepsIn", "(II)Z"⟩, prog_1_method_56_code, 3, (some FieldType.boolean), pg_7_55) := ⟨ck_7_55, by decide +kernel, rfl, Nat.le_of_ble_eq_true rfl, by decide +kernel, by decide +kernel⟩
theorem om_7_56 : okM 7 (⟨"SumDoor", "answersAlone", "(III)Z"⟩, prog_1_method_57_code, 6, (some FieldType.boolean), pg_7_56) := ⟨ck_7_56, by decide +kernel, rfl, Nat.le_of_ble_eq_true rfl, by decide +kernel, by decide +kernel⟩
set_option maxRecDepth 20000 in
theorem oma_7 : ∀ M ∈ mt_7, okM 7 M := List.forall_mem_cons.mpr ⟨om_7_0, List.forall_mem_cons.mpr ⟨om_7_1, List.forall_mem_cons.mpr ⟨om_7_2, List.forall_mem_cons.mpr ⟨om_7_3, List.forall_mem_cons.mpr ⟨om_7_4, List.forall_mem_cons.mpr ⟨om_7_5, List.forall_mem_cons.mpr ⟨om_7_6, List.forall_mem_cons.mpr ⟨om_7_7, List.forall_mem_cons.mpr ⟨om_7_8, List.forall_mem_cons.mpr ⟨om_7_9, List.forall_mem_cons.mpr ⟨om_7_10, List.forall_mem_cons.mpr ⟨om_7_11, List.forall_mem_cons.mpr ⟨om_7_12, List.forall_mem_cons.mpr ⟨om_7_13, List.forall_mem_cons.mpr ⟨om_7_14, List.forall_mem_cons.mpr ⟨om_7_15, List.forall_mem_cons.mpr ⟨om_7_16, List.forall_mem_cons.mpr ⟨om_7_17, List.forall_mem_cons.mpr ⟨om_7_18, List.forall_mem_cons.mpr ⟨om_7_19, List.forall_mem_cons.mpr ⟨om_7_20, List.forall_mem_cons.mpr ⟨om_7_21, List.forall_mem_cons.mpr ⟨om_7_22, List.forall_mem_cons.mpr ⟨om_7_23, List.forall_mem_cons.mpr ⟨om_7_24, List.forall_mem_cons.mpr ⟨om_7_25, List.forall_mem_cons.mpr ⟨om_7_26, List.forall_mem_cons.mpr ⟨om_7_27, List.forall_mem_cons.mpr ⟨om_7_28, List.forall_mem_cons.mpr ⟨om_7_29, List.forall_mem_cons.mpr ⟨om_7_30, List.forall_mem_cons.mpr ⟨om_7_31, List.forall_mem_cons.mpr ⟨om_7_32, List.forall_mem_cons.mpr ⟨om_7_33, List.forall_mem_cons.mpr ⟨om_7_34, List.forall_mem_cons.mpr ⟨om_7_35, List.forall_mem_cons.mpr ⟨om_7_36, List.forall_mem_cons.mpr ⟨om_7_37, List.forall_mem_cons.mpr ⟨om_7_38, List.forall_mem_cons.mpr ⟨om_7_39, List.forall_mem_cons.mpr ⟨om_7_40, List.forall_mem_cons.mpr ⟨om_7_41, List.forall_mem_cons.mpr ⟨om_7_42, List.forall_mem_cons.mpr ⟨om_7_43, List.forall_mem_cons.mpr ⟨om_7_44, List.forall_mem_cons.mpr ⟨om_7_45, List.forall_mem_cons.mpr ⟨om_7_46, List.forall_mem_cons.mpr ⟨om_7_47, List.forall_mem_cons.mpr ⟨om_7_48, List.forall_mem_cons.mpr ⟨om_7_49, List.forall_mem_cons.mpr ⟨om_7_50, List.forall_mem_cons.mpr ⟨om_7_51, List.forall_mem_cons.mpr ⟨om_7_52, List.forall_mem_cons.mpr ⟨om_7_53, List.forall_mem_cons.mpr ⟨om_7_54, List.forall_mem_cons.mpr ⟨om_7_55, List.forall_mem_cons.mpr ⟨om_7_56, fun _ h => absurd h List.not_mem_nil⟩⟩⟩⟩⟩⟩⟩⟩⟩⟩⟩⟩⟩⟩⟩⟩⟩⟩⟩⟩⟩⟩⟩⟩⟩⟩⟩⟩⟩⟩⟩⟩⟩⟩⟩⟩⟩⟩⟩⟩⟩⟩⟩⟩⟩⟩⟩⟩⟩⟩⟩⟩⟩⟩⟩⟩⟩
theorem om_8_0 : okM 8 (⟨"SumDoorModel", "<init>", "()V"⟩, prog_10_method_1_code, 2, none, pg_8_0) := ⟨ck_8_0, by decide +kernel, rfl, Nat.le_of_ble_eq_true rfl, by decide +kernel, by decide +kernel⟩
theorem om_8_1 : okM 8 (⟨"SumDoorModel", "in", "(JJJ)Z"⟩, prog_10_method_2_code, 6, (some FieldType.boolean), pg_8_1) := ⟨ck_8_1, by decide +kernel, rfl, Nat.le_of_ble_eq_true rfl, by decide +kernel, by decide +kernel⟩
theorem om_8_2 : okM 8 (⟨"SumDoorModel", "finds", "(I)I"⟩, prog_10_method_3_code, 2, (some FieldType.int), pg_8_2) := ⟨ck_8_2, by decide +kernel, rfl, Nat.le_of_ble_eq_true rfl, by decide +kernel, by decide +kernel⟩
theorem om_8_3 : okM 8 (⟨"SumDoorModel", "at", "(II)I"⟩, prog_10_method_4_code, 2, (some FieldType.int), pg_8_3) := ⟨ck_8_3, by decide +kernel, rfl, Nat.le_of_ble_eq_true rfl, by decide +kernel, by decide +kernel⟩
theorem om_8_4 : okM 8 (⟨"SumDoorModel", "isSum", "(I)Z"⟩, prog_10_method_5_code, 2, (some FieldType.boolean), pg_8_4) := ⟨ck_8_4, by decide +kernel, rfl, Nat.le_of_ble_eq_true rfl, by decide +kernel, by decide +kernel⟩
theorem om_8_5 : okM 8 (⟨"SumDoorModel", "isMan", "(I)Z"⟩, prog_10_method_6_code, 1, (some FieldType.boolean), pg_8_5) := ⟨ck_8_5, by decide +kernel, rfl, Nat.le_of_ble_eq_true rfl, by decide +kernel, by decide +kernel⟩
theorem om_8_6 : okM 8 (⟨"SumDoorModel", "isNumber", "(I)Z"⟩, prog_10_method_7_code, 1, (some FieldType.boolean), pg_8_6) := ⟨ck_8_6, by decide +kernel, rfl, Nat.le_of_ble_eq_true rfl, by decide +kernel, by decide +kernel⟩
theorem om_8_7 : okM 8 (⟨"SumDoorModel", "its", "(II)I"⟩, prog_10_method_8_code, 3, (some FieldType.int), pg_8_7) := ⟨ck_8_7, by decide +kernel, rfl, Nat.le_of_ble_eq_true rfl, by decide +kernel, by decide +kernel⟩
theorem om_8_8 : okM 8 (⟨"SumDoorModel", "has", "(II)Z"⟩, prog_10_method_9_code, 2, (some FieldType.boolean), pg_8_8) := ⟨ck_8_8, by decide +kernel, rfl, Nat.le_of_ble_eq_true rfl, by decide +kernel, by decide +kernel⟩
theorem om_8_9 : okM 8 (⟨"SumDoorModel", "ones", "(I)I"⟩, prog_10_method_10_code, 3, (some FieldType.int), pg_8_9) := ⟨ck_8_9, by decide +kernel, rfl, Nat.le_of_ble_eq_true rfl, by decide +kernel, by decide +kernel⟩
theorem om_8_10 : okM 8 (⟨"SumDoorModel", "next", "()I"⟩, prog_10_method_11_code, 1, (some FieldType.int), pg_8_10) := ⟨ck_8_10, by decide +kernel, rfl, Nat.le_of_ble_eq_true rfl, by decide +kernel, by decide +kernel⟩
theorem om_8_11 : okM 8 (⟨"SumDoorModel", "feed", "(II)I"⟩, prog_10_method_12_code, 4, (some FieldType.int), pg_8_11) := ⟨ck_8_11, by decide +kernel, rfl, Nat.le_of_ble_eq_true rfl, by decide +kernel, by decide +kernel⟩
theorem om_8_12 : okM 8 (⟨"SumDoorModel", "wipe", "()I"⟩, prog_10_method_13_code, 2, (some FieldType.int), pg_8_12) := ⟨ck_8_12, by decide +kernel, rfl, Nat.le_of_ble_eq_true rfl, by decide +kernel, by decide +kernel⟩
theorem om_8_13 : okM 8 (⟨"SumDoorModel", "signOf", "(I)I"⟩, prog_10_method_14_code, 1, (some FieldType.int), pg_8_13) := ⟨ck_8_13, by decide +kernel, rfl, Nat.le_of_ble_eq_true rfl, by decide +kernel, by decide +kernel⟩
theorem om_8_14 : okM 8 (⟨"SumDoorModel", "holds", "(I)I"⟩, prog_10_method_15_code, 1, (some FieldType.int), pg_8_14) := ⟨ck_8_14, by decide +kernel, rfl, Nat.le_of_ble_eq_true rfl, by decide +kernel, by decide +kernel⟩
theorem om_8_15 : okM 8 (⟨"SumDoorModel", "does", "(I)V"⟩, prog_10_method_16_code, 2, none, pg_8_15) := ⟨ck_8_15, by decide +kernel, rfl, Nat.le_of_ble_eq_true rfl, by decide +kernel, by decide +kernel⟩
theorem om_8_16 : okM 8 (⟨"SumDoorModel", "goesOn", "(I)Z"⟩, prog_10_method_17_code, 4, (some FieldType.boolean), pg_8_16) := ⟨ck_8_16, by decide +kernel, rfl, Nat.le_of_ble_eq_true rfl, by decide +kernel, by decide +kernel⟩
theorem om_8_17 : okM 8 (⟨"SumDoorModel", "begins", "(IZ)Z"⟩, prog_10_method_18_code, 3, (some FieldType.boolean), pg_8_17) := ⟨ck_8_17, by decide +kernel, rfl, Nat.le_of_ble_eq_true rfl, by decide +kernel, by decide +kernel⟩
theorem om_8_18 : okM 8 (⟨"SumDoorModel", "fault", "()I"⟩, prog_10_method_19_code, 2, (some FieldType.int), pg_8_18) := ⟨ck_8_18, by decide +kernel, rfl, Nat.le_of_ble_eq_true rfl, by decide +kernel, by decide +kernel⟩
theorem om_8_19 : okM 8 (⟨"SumDoorModel", "signs", "()I"⟩, prog_10_method_20_code, 3, (some FieldType.int), pg_8_19) := ⟨ck_8_19, by decide +kernel, rfl, Nat.le_of_ble_eq_true rfl, by decide +kernel, by decide +kernel⟩
theorem om_8_20 : okM 8 (⟨"SumDoorModel", "sum", "(II)I"⟩, prog_10_method_21_code, 7, (some FieldType.int), pg_8_20) := ⟨ck_8_20, by decide +kernel, rfl, Nat.le_of_ble_eq_true rfl, by decide +kernel, by decide +kernel⟩
theorem om_8_21 : okM 8 (⟨"SumDoorModel", "worked", "(III)I"⟩, prog_10_method_22_code, 3, (some FieldType.int), pg_8_21) := ⟨ck_8_21, by decide +kernel, rfl, Nat.le_of_ble_eq_true rfl, by decide +kernel, by decide +kernel⟩
theorem om_8_22 : okM 8 (⟨"SumDoorModel", "sideOf", "(III)I"⟩, prog_10_method_23_code, 8, (some FieldType.int), pg_8_22) := ⟨ck_8_22, by decide +kernel, rfl, Nat.le_of_ble_eq_true rfl, by decide +kernel, by decide +kernel⟩
theorem om_8_23 : okM 8 (⟨"SumDoorModel", "isSolved", "(II)Z"⟩, prog_10_method_24_code, 6, (some FieldType.boolean), pg_8_23) := ⟨ck_8_23, by decide +kernel, rfl, Nat.le_of_ble_eq_true rfl, by decide +kernel, by decide +kernel⟩
theorem om_8_24 : okM 8 (⟨"SumDoorModel", "hard", "(I)I"⟩, prog_10_method_25_code, 4, (some FieldType.int), pg_8_24) := ⟨ck_8_24, by decide +kernel, rfl, Nat.le_of_ble_eq_true rfl, by decide +kernel, by decide +kernel⟩
theorem om_8_25 : okM 8 (⟨"SumDoorModel", "solvers", "(I)I"⟩, prog_10_method_26_code, 4, (some FieldType.int), pg_8_25) := ⟨ck_8_25, by decide +kernel, rfl, Nat.le_of_ble_eq_true rfl, by decide +kernel, by decide +kernel⟩
theorem om_8_26 : okM 8 (⟨"SumDoorModel", "sumOf", "(II)I"⟩, prog_10_method_27_code, 3, (some FieldType.int), pg_8_26) := ⟨ck_8_26, by decide +kernel, rfl, Nat.le_of_ble_eq_true rfl, by decide +kernel, by decide +kernel⟩
theorem om_8_27 : okM 8 (⟨"SumDoorModel", "change", "(III)I"⟩, prog_10_method_28_code, 5, (some FieldType.int), pg_8_27) := ⟨ck_8_27, by decide +kernel, rfl, Nat.le_of_ble_eq_true rfl, by decide +kernel, by decide +kernel⟩
theorem om_8_28 : okM 8 (⟨"SumDoorModel", "side", "(III)I"⟩, prog_10_method_29_code, 4, (some FieldType.int), pg_8_28) := ⟨ck_8_28, by decide +kernel, rfl, Nat.le_of_ble_eq_true rfl, by decide +kernel, by decide +kernel⟩
theorem om_8_29 : okM 8 (⟨"SumDoorModel", "solves", "(II)I"⟩, prog_10_method_30_code, 3, (some FieldType.int), pg_8_29) := ⟨ck_8_29, by decide +kernel, rfl, Nat.le_of_ble_eq_true rfl, by decide +kernel, by decide +kernel⟩
theorem om_8_30 : okM 8 (⟨"SumDoorModel", "solution", "(II)I"⟩, prog_10_method_31_code, 5, (some FieldType.int), pg_8_30) := ⟨ck_8_30, by decide +kernel, rfl, Nat.le_of_ble_eq_true rfl, by decide +kernel, by decide +kernel⟩
theorem om_8_31 : okM 8 (⟨"SumDoorModel", "both", "(II)I"⟩, prog_10_method_32_code, 5, (some FieldType.int), pg_8_31) := ⟨ck_8_31, by decide +kernel, rfl, Nat.le_of_ble_eq_true rfl, by decide +kernel, by decide +kernel⟩
theorem om_8_32 : okM 8 (⟨"SumDoorModel", "strict", "(I)I"⟩, prog_10_method_33_code, 7, (some FieldType.int), pg_8_32) := ⟨ck_8_32, by decide +kernel, rfl, Nat.le_of_ble_eq_true rfl, by decide +kernel, by decide +kernel⟩
theorem om_8_33 : okM 8 (⟨"SumDoorModel", "isPart", "(II)Z"⟩, prog_10_method_34_code, 2, (some FieldType.boolean), pg_8_33) := ⟨ck_8_33, by decide +kernel, rfl, Nat.le_of_ble_eq_true rfl, by decide +kernel, by decide +kernel⟩
theorem om_8_34 : okM 8 (⟨"SumDoorModel", "prisoner", "(III)I"⟩, prog_10_method_35_code, 5, (some FieldType.int), pg_8_34) := ⟨ck_8_34, by decide +kernel, rfl, Nat.le_of_ble_eq_true rfl, by decide +kernel, by decide +kernel⟩
theorem om_8_35 : okM 8 (⟨"SumDoorModel", "of", "(II)I"⟩, prog_10_method_36_code, 3, (some FieldType.int), pg_8_35) := ⟨ck_8_35, by decide +kernel, rfl, Nat.le_of_ble_eq_true rfl, by decide +kernel, by decide +kernel⟩
theorem om_8_36 : okM 8 (⟨"SumDoorModel", "newDay", "()V"⟩, prog_10_method_37_code, 2, none, pg_8_36) := ⟨ck_8_36, by decide +kernel, rfl, Nat.le_of_ble_eq_true rfl, by decide +kernel, by decide +kernel⟩
theorem om_8_37 : okM 8 (⟨"SumDoorModel", "set", "(I)I"⟩, prog_10_method_38_code, 3, (some FieldType.int), pg_8_37) := ⟨ck_8_37, by decide +kernel, rfl, Nat.le_of_ble_eq_true rfl, by decide +kernel, by decide +kernel⟩
theorem om_8_38 : okM 8 (⟨"SumDoorModel", "rich", "(I)I"⟩, prog_10_method_39_code, 3, (some FieldType.int), pg_8_38) := ⟨ck_8_38, by decide +kernel, rfl, Nat.le_of_ble_eq_true rfl, by decide +kernel, by decide +kernel⟩
theorem om_8_39 : okM 8 (⟨"SumDoorModel", "chalks", "()I"⟩, prog_10_method_40_code, 3, (some FieldType.int), pg_8_39) := ⟨ck_8_39, by decide +kernel, rfl, Nat.le_of_ble_eq_true rfl, by decide +kernel, by decide +kernel⟩
theorem om_8_40 : okM 8 (⟨"SumDoorModel", "alms", "(I)I"⟩, prog_10_method_41_code, 4, (some FieldType.int), pg_8_40) := ⟨ck_8_40, by decide +kernel, rfl, Nat.le_of_ble_eq_true rfl, by decide +kernel, by decide +kernel⟩
theorem om_8_41 : okM 8 (⟨"SumDoorModel", "school", "(II)I"⟩, prog_10_method_42_code, 5, (some FieldType.int), pg_8_41) := ⟨ck_8_41, by decide +kernel, rfl, Nat.le_of_ble_eq_true rfl, by decide +kernel, by decide +kernel⟩
theorem om_8_42 : okM 8 (⟨"SumDoorModel", "works", "(I)V"⟩, prog_10_method_43_code, 3, none, pg_8_42) := ⟨ck_8_42, by decide +kernel, rfl, Nat.le_of_ble_eq_true rfl, by decide +kernel, by decide +kernel⟩
theorem om_8_43 : okM 8 (⟨"SumDoorModel", "isOpen", "(I)Z"⟩, prog_10_method_44_code, 2, (some FieldType.boolean), pg_8_43) := ⟨ck_8_43, by decide +kernel, rfl, Nat.le_of_ble_eq_true rfl, by decide +kernel, by decide +kernel⟩
theorem om_8_44 : okM 8 (⟨"SumDoorModel", "buys", "(I)V"⟩, prog_10_method_45_code, 5, none, pg_8_44) := ⟨ck_8_44, by decide +kernel, rfl, Nat.le_of_ble_eq_true rfl, by decide +kernel, by decide +kernel⟩
theorem om_8_45 : okM 8 (⟨"SumDoorModel", "reads", "(I)V"⟩, prog_10_method_46_code, 6, none, pg_8_45) := ⟨ck_8_45, by decide +kernel, rfl, Nat.le_of_ble_eq_true rfl, by decide +kernel, by decide +kernel⟩
theorem om_8_46 : okM 8 (⟨"SumDoorModel", "minute", "()V"⟩, prog_10_method_47_code, 3, none, pg_8_46) := ⟨ck_8_46, by decide +kernel, rfl, Nat.le_of_ble_eq_true rfl, by decide +kernel, by decide +kernel⟩
theorem om_8_47 : okM 8 (⟨"SumDoorModel", "minutesGo", "(I)V"⟩, prog_10_method_48_code, 3, none, pg_8_47) := ⟨ck_8_47, by decide +kernel, rfl, Nat.le_of_ble_eq_true rfl, by decide +kernel, by decide +kernel⟩
theorem om_8_48 : okM 8 (⟨"SumDoorModel", "outs", "()I"⟩, prog_10_method_49_code, 3, (some FieldType.int), pg_8_48) := ⟨ck_8_48, by decide +kernel, rfl, Nat.le_of_ble_eq_true rfl, by decide +kernel, by decide +kernel⟩
theorem om_8_49 : okM 8 (⟨"SumDoorModel", "minutes", "(I)I"⟩, prog_10_method_50_code, 3, (some FieldType.int), pg_8_49) := ⟨ck_8_49, by decide +kernel, rfl, Nat.le_of_ble_eq_true rfl, by decide +kernel, by decide +kernel⟩
theorem om_8_50 : okM 8 (⟨"SumDoorModel", "out", "()I"⟩, prog_10_method_51_code, 1, (some FieldType.int), pg_8_50) := ⟨ck_8_50, by decide +kernel, rfl, Nat.le_of_ble_eq_true rfl, by decide +kernel, by decide +kernel⟩
theorem om_8_51 : okM 8 (⟨"SumDoorModel", "day", "()I"⟩, prog_10_method_52_code, 2, (some FieldType.int), pg_8_51) := ⟨ck_8_51, by decide +kernel, rfl, Nat.le_of_ble_eq_true rfl, by decide +kernel, by decide +kernel⟩
theorem om_8_52 : okM 8 (⟨"SumDoorModel", "puts", "()V"⟩, prog_10_method_53_code, 2, none, pg_8_52) := ⟨ck_8_52, by decide +kernel, rfl, Nat.le_of_ble_eq_true rfl, by decide +kernel, by decide +kernel⟩
theorem om_8_53 : okM 8 (⟨"SumDoorModel", "putsBack", "()V"⟩, prog_10_method_54_code, 2, none, pg_8_53) := ⟨ck_8_53, by decide +kernel, rfl, Nat.le_of_ble_eq_true rfl, by decide +kernel, by decide +kernel⟩
theorem om_8_54 : okM 8 (⟨"SumDoorModel", "ahead", "(II)I"⟩, prog_10_method_55_code, 5, (some FieldType.int), pg_8_54) := ⟨ck_8_54, by decide +kernel, rfl, Nat.le_of_ble_eq_true rfl, by decide +kernel, by decide +kernel⟩
theorem om_8_55 : okM 8 (⟨"SumDoorModel", "when", "(I)I"⟩, prog_10_method_56_code, 4, (some FieldType.int), pg_8_55) := ⟨ck_8_55, by decide +kernel, rfl, Nat.le_of_ble_eq_true rfl, by decide +kernel, by decide +kernel⟩
theorem om_8_56 : okM 8 (⟨"SumDoorModel", "letsOut", "(II)I"⟩, prog_10_method_57_code, 4, (some FieldType.int), pg_8_56) := ⟨ck_8_56, by decide +kernel, rfl, Nat.le_of_ble_eq_true rfl, by decide +kernel, by decide +kernel⟩
theorem om_8_57 : okM 8 (⟨"SumDoorModel", "lets", "(II)I"⟩, prog_10_method_58_code, 3, (some FieldType.int), pg_8_57) := ⟨ck_8_57, by decide +kernel, rfl, Nat.le_of_ble_eq_true rfl, by decide +kernel, by decide +kernel⟩
theorem om_8_58 : okM 8 (⟨"SumDoorModel", "maySet", "()I"⟩, prog_10_method_59_code, 3, (some FieldType.int), pg_8_58) := ⟨ck_8_58, by decide +kernel, rfl, Nat.le_of_ble_eq_true rfl, by decide +kernel, by decide +kernel⟩
theorem om_8_59 : okM 8 (⟨"SumDoorModel", "wrongsOf", "(II)I"⟩, prog_10_method_60_code, 3, (some FieldType.int), pg_8_59) := ⟨ck_8_59, by decide +kernel, rfl, Nat.le_of_ble_eq_true rfl, by decide +kernel, by decide +kernel⟩
theorem om_8_60 : okM 8 (⟨"SumDoorModel", "choose", "(I)I"⟩, prog_10_method_61_code, 6, (some FieldType.int), pg_8_60) := ⟨ck_8_60, by decide +kernel, rfl, Nat.le_of_ble_eq_true rfl, by decide +kernel, by decide +kernel⟩
theorem om_8_61 : okM 8 (⟨"SumDoorModel", "wrongs", "(II)I"⟩, prog_10_method_62_code, 3, (some FieldType.int), pg_8_61) := ⟨ck_8_61, by decide +kernel, rfl, Nat.le_of_ble_eq_true rfl, by decide +kernel, by decide +kernel⟩
theorem om_8_62 : okM 8 (⟨"SumDoorModel", "fewest", "(I)I"⟩, prog_10_method_63_code, 7, (some FieldType.int), pg_8_62) := ⟨ck_8_62, by decide +kernel, rfl, Nat.le_of_ble_eq_true rfl, by decide +kernel, by decide +kernel⟩
theorem om_8_63 : okM 8 (⟨"SumDoorModel", "skillFor", "(III)I"⟩, prog_10_method_64_code, 7, (some FieldType.int), pg_8_63) := ⟨ck_8_63, by decide +kernel, rfl, Nat.le_of_ble_eq_true rfl, by decide +kernel, by decide +kernel⟩
theorem om_8_64 : okM 8 (⟨"SumDoorModel", "richFor", "(I)I"⟩, prog_10_method_65_code, 5, (some FieldType.int), pg_8_64) := ⟨ck_8_64, by decide +kernel, rfl, Nat.le_of_ble_eq_true rfl, by decide +kernel, by decide +kernel⟩
theorem om_8_65 : okM 8 (⟨"SumDoorModel", "could", "(II)I"⟩, prog_10_method_66_code, 6, (some FieldType.int), pg_8_65) := ⟨ck_8_65, by decide +kernel, rfl, Nat.le_of_ble_eq_true rfl, by decide +kernel, by decide +kernel⟩
theorem om_8_66 : okM 8 (⟨"SumDoorModel", "seed", "(I)I"⟩, prog_10_method_67_code, 3, (some FieldType.int), pg_8_66) := ⟨ck_8_66, by decide +kernel, rfl, Nat.le_of_ble_eq_true rfl, by decide +kernel, by decide +kernel⟩
theorem om_8_67 : okM 8 (⟨"SumDoorModel", "hold", "(II)I"⟩, prog_10_method_68_code, 3, (some FieldType.int), pg_8_67) := ⟨ck_8_67, by decide +kernel, rfl, Nat.le_of_ble_eq_true rfl, by decide +kernel, by decide +kernel⟩
theorem om_8_68 : okM 8 (⟨"SumDoorModel", "as", "(II)I"⟩, prog_10_method_69_code, 6, (some FieldType.int), pg_8_68) := ⟨ck_8_68, by decide +kernel, rfl, Nat.le_of_ble_eq_true rfl, by decide +kernel, by decide +kernel⟩
theorem om_8_69 : okM 8 (⟨"SumDoorModel", "isOne", "(I)Z"⟩, prog_10_method_70_code, 1, (some FieldType.boolean), pg_8_69) := ⟨ck_8_69, by decide +kernel, rfl, Nat.le_of_ble_eq_true rfl, by decide +kernel, by decide +kernel⟩
theorem om_8_70 : okM 8 (⟨"SumDoorModel", "sheet", "(III)I"⟩, prog_10_method_71_code, 5, (some FieldType.int), pg_8_70) := ⟨ck_8_70, by decide +kernel, rfl, Nat.le_of_ble_eq_true rfl, by decide +kernel, by decide +kernel⟩
theorem om_8_71 : okM 8 (⟨"SumDoorModel", "narrowed", "(II)I"⟩, prog_10_method_72_code, 2, (some FieldType.int), pg_8_71) := ⟨ck_8_71, by decide +kernel, rfl, Nat.le_of_ble_eq_true rfl, by decide +kernel, by decide +kernel⟩
theorem om_8_72 : okM 8 (⟨"SumDoorModel", "wrong", "(I)I"⟩, prog_10_method_73_code, 2, (some FieldType.int), pg_8_72) := ⟨ck_8_72, by decide +kernel, rfl, Nat.le_of_ble_eq_true rfl, by decide +kernel, by decide +kernel⟩
theorem om_8_73 : okM 8 (⟨"SumDoorModel", "write", "(III)I"⟩, prog_10_method_74_code, 5, (some FieldType.int), pg_8_73) := ⟨ck_8_73, by decide +kernel, rfl, Nat.le_of_ble_eq_true rfl, by decide +kernel, by decide +kernel⟩
theorem om_8_74 : okM 8 (⟨"SumDoorModel", "copy", "(IIIII)I"⟩, prog_10_method_75_code, 7, (some FieldType.int), pg_8_74) := ⟨ck_8_74, by decide +kernel, rfl, Nat.le_of_ble_eq_true rfl, by decide +kernel, by decide +kernel⟩
theorem om_8_75 : okM 8 (⟨"SumDoorModel", "load", "(I)I"⟩, prog_10_method_76_code, 4, (some FieldType.int), pg_8_75) := ⟨ck_8_75, by decide +kernel, rfl, Nat.le_of_ble_eq_true rfl, by decide +kernel, by decide +kernel⟩
theorem om_8_76 : okM 8 (⟨"SumDoorModel", "judge", "(II)I"⟩, prog_10_method_77_code, 6, (some FieldType.int), pg_8_76) := ⟨ck_8_76, by decide +kernel, rfl, Nat.le_of_ble_eq_true rfl, by decide +kernel, by decide +kernel⟩
theorem om_8_77 : okM 8 (⟨"SumDoorModel", "image", "()I"⟩, prog_10_method_78_code, 2, (some FieldType.int), pg_8_77) := ⟨ck_8_77, by decide +kernel, rfl, Nat.le_of_ble_eq_true rfl, by decide +kernel, by decide +kernel⟩
theorem om_8_78 : okM 8 (⟨"SumDoorModel", "undo", "()I"⟩, prog_10_method_79_code, 2, (some FieldType.int), pg_8_78) := ⟨ck_8_78, by decide +kernel, rfl, Nat.le_of_ble_eq_true rfl, by decide +kernel, by decide +kernel⟩
theorem om_8_79 : okM 8 (⟨"SumDoorModel", "tear", "()I"⟩, prog_10_method_80_code, 2, (some FieldType.int), pg_8_79) := ⟨ck_8_79, by decide +kernel, rfl, Nat.le_of_ble_eq_true rfl, by decide +kernel, by decide +kernel⟩
theorem om_8_80 : okM 8 (⟨"SumDoorModel", "count", "(I)I"⟩, prog_10_method_81_code, 2, (some FieldType.int), pg_8_80) := ⟨ck_8_80, by decide +kernel, rfl, Nat.le_of_ble_eq_true rfl, by decide +kernel, by decide +kernel⟩
theorem om_8_81 : okM 8 (⟨"SumDoorModel", "status", "(I)I"⟩, prog_10_method_82_code, 4, (some FieldType.int), pg_8_81) := ⟨ck_8_81, by decide +kernel, rfl, Nat.le_of_ble_eq_true rfl, by decide +kernel, by decide +kernel⟩
set_option maxRecDepth 20000 in
theorem oma_8 : ∀ M ∈ mt_8, okM 8 M := List.forall_mem_cons.mpr ⟨om_8_0, List.forall_mem_cons.mpr ⟨om_8_1, List.forall_mem_cons.mpr ⟨om_8_2, List.forall_mem_cons.mpr ⟨om_8_3, List.forall_mem_cons.mpr ⟨om_8_4, List.forall_mem_cons.mpr ⟨om_8_5, List.forall_mem_cons.mpr ⟨om_8_6, List.forall_mem_cons.mpr ⟨om_8_7, List.forall_mem_cons.mpr ⟨om_8_8, List.forall_mem_cons.mpr ⟨om_8_9, List.forall_mem_cons.mpr ⟨om_8_10, List.forall_mem_cons.mpr ⟨om_8_11, List.forall_mem_cons.mpr ⟨om_8_12, List.forall_mem_cons.mpr ⟨om_8_13, List.forall_mem_cons.mpr ⟨om_8_14, List.forall_mem_cons.mpr ⟨om_8_15, List.forall_mem_cons.mpr ⟨om_8_16, List.forall_mem_cons.mpr ⟨om_8_17, List.forall_mem_cons.mpr ⟨om_8_18, List.forall_mem_cons.mpr ⟨om_8_19, List.forall_mem_cons.mpr ⟨om_8_20, List.forall_mem_cons.mpr ⟨om_8_21, List.forall_mem_cons.mpr ⟨om_8_22, List.forall_mem_cons.mpr ⟨om_8_23, List.forall_mem_cons.mpr ⟨om_8_24, List.forall_mem_cons.mpr ⟨om_8_25, List.forall_mem_cons.mpr ⟨om_8_26, List.forall_mem_cons.mpr ⟨om_8_27, List.forall_mem_cons.mpr ⟨om_8_28, List.forall_mem_cons.mpr ⟨om_8_29, List.forall_mem_cons.mpr ⟨om_8_30, List.forall_mem_cons.mpr ⟨om_8_31, List.forall_mem_cons.mpr ⟨om_8_32, List.forall_mem_cons.mpr ⟨om_8_33, List.forall_mem_cons.mpr ⟨om_8_34, List.forall_mem_cons.mpr ⟨om_8_35, List.forall_mem_cons.mpr ⟨om_8_36, List.forall_mem_cons.mpr ⟨om_8_37, List.forall_mem_cons.mpr ⟨om_8_38, List.forall_mem_cons.mpr ⟨om_8_39, List.forall_mem_cons.mpr ⟨om_8_40, List.forall_mem_cons.mpr ⟨om_8_41, List.forall_mem_cons.mpr ⟨om_8_42, List.forall_mem_cons.mpr ⟨om_8_43, List.forall_mem_cons.mpr ⟨om_8_44, List.forall_mem_cons.mpr ⟨om_8_45, List.forall_mem_cons.mpr ⟨om_8_46, List.forall_mem_cons.mpr ⟨om_8_47, List.forall_mem_cons.mpr ⟨om_8_48, List.forall_mem_cons.mpr ⟨om_8_49, List.forall_mem_cons.mpr ⟨om_8_50, List.forall_mem_cons.mpr ⟨om_8_51, List.forall_mem_cons.mpr ⟨om_8_52, List.forall_mem_cons.mpr ⟨om_8_53, List.forall_mem_cons.mpr ⟨om_8_54, List.forall_mem_cons.mpr ⟨om_8_55, List.forall_mem_cons.mpr ⟨om_8_56, List.forall_mem_cons.mpr ⟨om_8_57, List.forall_mem_cons.mpr ⟨om_8_58, List.forall_mem_cons.mpr ⟨om_8_59, List.forall_mem_cons.mpr ⟨om_8_60, List.forall_mem_cons.mpr ⟨om_8_61, List.forall_mem_cons.mpr ⟨om_8_62, List.forall_mem_cons.mpr ⟨om_8_63, List.forall_mem_cons.mpr ⟨om_8_64, List.forall_mem_cons.mpr ⟨om_8_65, List.forall_mem_cons.mpr ⟨om_8_66, List.forall_mem_cons.mpr ⟨om_8_67, List.forall_mem_cons.mpr ⟨om_8_68, List.forall_mem_cons.mpr ⟨om_8_69, List.forall_mem_cons.mpr ⟨om_8_70, List.forall_mem_cons.mpr ⟨om_8_71, List.forall_mem_cons.mpr ⟨om_8_72, List.forall_mem_cons.mpr ⟨om_8_73, List.forall_mem_cons.mpr ⟨om_8_74, List.forall_mem_cons.mpr ⟨om_8_75, List.forall_mem_cons.mpr ⟨om_8_76, List.forall_mem_cons.mpr ⟨om_8_77, List.forall_mem_cons.mpr ⟨om_8_78, List.forall_mem_cons.mpr ⟨om_8_79, List.forall_mem_cons.mpr ⟨om_8_80, List.forall_mem_cons.mpr ⟨om_8_81, fun _ h => absurd h List.not_mem_nil⟩⟩⟩⟩⟩⟩⟩⟩⟩⟩⟩⟩⟩⟩⟩⟩⟩⟩⟩⟩⟩⟩⟩⟩⟩⟩⟩⟩⟩⟩⟩⟩⟩⟩⟩⟩⟩⟩⟩⟩⟩⟩⟩⟩⟩⟩⟩⟩⟩⟩⟩⟩⟩⟩⟩⟩⟩⟩⟩⟩⟩⟩⟩⟩⟩⟩⟩⟩⟩⟩⟩⟩⟩⟩⟩⟩⟩⟩⟩⟩⟩⟩
theorem om_9_0 : okM 9 (⟨"SumDoorLaw", "law", "([I)Z"⟩, code, 4, (some FieldType.boolean), pg_9_0) := ⟨ck_9_0, by decide +kernel, rfl, Nat.le_of_ble_eq_true rfl, by decide +kernel, by decide +kernel⟩
set_option maxRecDepth 20000 in
theorem oma_9 : ∀ M ∈ mt_9, okM 9 M := List.forall_mem_cons.mpr ⟨om_9_0, fun _ h => absurd h List.not_mem_nil⟩
theorem om_10_0 : okM 10 (⟨"java/lang/Integer", "bitCount", "(I)I"⟩, prog_11_method_49_code, 1, (some FieldType.int), pg_10_0) := ⟨ck_10_0, by decide +kernel, rfl, Nat.le_of_ble_eq_true rfl, by decide +kernel, by decide +kernel⟩
set_option maxRecDepth 20000 in
theorem oma_10 : ∀ M ∈ mt_10, okM 10 M := List.forall_mem_cons.mpr ⟨om_10_0, fun _ h => absurd h List.not_mem_nil⟩
theorem om_11_0 : okM 11 (⟨"java/lang/Math", "max", "(II)I"⟩, prog_12_method_65_code, 2, (some FieldType.int), pg_11_0) := ⟨ck_11_0, by decide +kernel, rfl, Nat.le_of_ble_eq_true rfl, by decide +kernel, by decide +kernel⟩
theorem om_11_1 : okM 11 (⟨"java/lang/Math", "min", "(II)I"⟩, prog_12_method_69_code, 2, (some FieldType.int), pg_11_1) := ⟨ck_11_1, by decide +kernel, rfl, Nat.le_of_ble_eq_true rfl, by decide +kernel, by decide +kernel⟩
set_option maxRecDepth 20000 in
theorem oma_11 : ∀ M ∈ mt_11, okM 11 M := List.forall_mem_cons.mpr ⟨om_11_0, List.forall_mem_cons.mpr ⟨om_11_1, fun _ h => absurd h List.not_mem_nil⟩⟩
theorem om_12_0 : okM 12 (⟨"java/util/Arrays", "fill", "([II)V"⟩, prog_14_method_103_code, 4, none, pg_12_0) := ⟨ck_12_0, by decide +kernel, rfl, Nat.le_of_ble_eq_true rfl, by decide +kernel, by decide +kernel⟩
set_option maxRecDepth 20000 in
theorem oma_12 : ∀ M ∈ mt_12, okM 12 M := List.forall_mem_cons.mpr ⟨om_12_0, fun _ h => absurd h List.not_mem_nil⟩
theorem oma : ∀ c, ∀ M ∈ lkp [] sd_mt c, okM c M := by
  intro c
  match c with
  | 0 => exact oma_0
  | 1 => exact oma_1
  | 2 => exact oma_2
  | 3 => exact oma_3
  | 4 => exact oma_4
  | 5 => exact oma_5
  | 6 => exact oma_6
  | 7 => exact oma_7
  | 8 => exact oma_8
  | 9 => exact oma_9
  | 10 => exact oma_10
  | 11 => exact oma_11
  | 12 => exact oma_12
  | n + 13 => exact fun _ h => absurd h List.not_mem_nil
theorem alk_mem {α : Type} : ∀ {l : List (Nat × α)} {k : Nat} {v : α}, alk l k = some v → (k, v) ∈ l
  | [], k, v, h => by cases h
  | q :: l, k, v, h => by
    unfold alk at h
    cases hq : Nat.beq q.1 k with
    | true =>
      rw [hq] at h
      have h1 : q.1 = k := Nat.eq_of_beq_eq_true hq
      have h2 : q.2 = v := Option.some.inj h
      subst h1; subst h2
      exact List.mem_cons_self
    | false =>
      rw [hq] at h
      exact List.mem_cons_of_mem _ (alk_mem h)
theorem lkp_some {α : Type} : ∀ {l : List α} {i : Nat} {v : α}, lkp none (l.map some) i = some v → v ∈ l
  | [], i, v, h => by cases h
  | a :: l, 0, v, h => by cases h; exact List.mem_cons_self
  | a :: l, i + 1, v, h => List.mem_cons_of_mem _ (lkp_some (l := l) (i := i) h)
theorem md_ok {c i : Nat} {M : MD} (h : md c i = some M) : okM c M := oma c M (lkp_some h)
theorem pg_ok {c i pc n : Nat} {M : MD} {ins : Instr} (h : md c i = some M) (hq : alk M.2.2.2.2 pc = some (ins, n)) : decode M.2.1 pc = .ok (ins, n) ∧ (ilen ins = 0 ∨ ilen ins = n) ∧ tok pc ins = true := by
  have h1 := List.all_eq_true.mp (md_ok h).1 _ (alk_mem hq)
  simp only [chkI, Bool.and_eq_true, decide_eq_true_eq, Bool.or_eq_true] at h1
  exact ⟨h1.1.1, h1.1.2.imp Nat.eq_of_beq_eq_true Nat.eq_of_beq_eq_true, h1.2⟩
