def tgt (pc : Nat) (off : Int) : Nat := ((pc : Int) + off).toNat
def ilen : Instr → Nat
  | .iconst _ => 1 | .bipush _ => 2 | .sipush _ => 3 | .ldc _ => 2 | .ldc_w _ => 3 | .lconst _ => 1 | .ldc2_w _ => 3
  | .iload_n _ => 1 | .aload_n _ => 1 | .lload_n _ => 1 | .istore_n _ => 1 | .astore_n _ => 1
  | .iload _ => 2 | .aload _ => 2 | .lload _ => 2 | .istore _ => 2 | .astore _ => 2
  | .iinc _ _ => 3 | .goto _ => 3 | .ifCond _ _ => 3 | .if_icmp _ _ => 3 | .ifnull _ => 3
  | .getfield _ => 3 | .putfield _ => 3 | .getstatic _ => 3 | .newarray _ => 2 | .anewarray _ => 3 | .new _ => 3
  | .invokestatic _ => 3 | .invokevirtual _ => 3 | .invokespecial _ => 3 | .tableswitch _ _ _ _ => 0
  | _ => 1
def tok (pc : Nat) : Instr → Bool
  | .goto off => decide ((pc : Int) + off = (tgt pc off : Int))
  | .ifCond _ off => decide ((pc : Int) + off = (tgt pc off : Int))
  | .if_icmp _ off => decide ((pc : Int) + off = (tgt pc off : Int))
  | .ifnull off => decide ((pc : Int) + off = (tgt pc off : Int))
  | .tableswitch dflt lo hi offs => decide ((pc : Int) + dflt = (tgt pc dflt : Int)) && decide ((offs.size : Int) = hi - lo + 1) && offs.toList.all (fun o => decide ((pc : Int) + o = (tgt pc o : Int)))
  | _ => true
def chkI (b : ByteArray) (q : Nat × Instr × Nat) : Bool := decide (decode b q.1 = .ok q.2) && (Nat.beq (ilen q.2.1) 0 || Nat.beq (ilen q.2.1) q.2.2) && tok q.1 q.2.1
def chkM (M : MD) : Bool := M.2.2.2.2.all (chkI M.2.1)
theorem all_split {α : Type} (f : α → Bool) (n : Nat) (l : List α) (h1 : (l.take n).all f = true) (h2 : (l.drop n).all f = true) : l.all f = true := by
  rw [← List.take_append_drop n l, List.all_append, h1, h2]; rfl
theorem ck_0_0 : pg_0_0.all (chkI prog_2_method_1_code) = true := by decide +kernel
theorem ck_0_1 : pg_0_1.all (chkI prog_2_method_2_code) = true := by decide +kernel
theorem ck_0_2 : pg_0_2.all (chkI prog_2_method_3_code) = true := by decide +kernel
theorem ck_0_3 : pg_0_3.all (chkI prog_2_method_4_code) = true := by decide +kernel
theorem ck_0_4 : pg_0_4.all (chkI prog_2_method_5_code) = true := by decide +kernel
theorem ck_0_5 : pg_0_5.all (chkI prog_2_method_6_code) = true := by decide +kernel
theorem ck_0_6 : pg_0_6.all (chkI prog_2_method_7_code) = true := by decide +kernel
theorem ck_0_7 : pg_0_7.all (chkI prog_2_method_8_code) = true := by decide +kernel
theorem ck_0_8 : pg_0_8.all (chkI prog_2_method_9_code) = true := by decide +kernel
theorem ck_0_9 : pg_0_9.all (chkI prog_2_method_10_code) = true := by decide +kernel
theorem ck_0_10 : pg_0_10.all (chkI prog_2_method_11_code) = true := by decide +kernel
theorem ck_0_11 : pg_0_11.all (chkI prog_2_method_12_code) = true := by decide +kernel
theorem ck_0_12 : pg_0_12.all (chkI prog_2_method_13_code) = true := by decide +kernel
theorem ck_0_13 : pg_0_13.all (chkI prog_2_method_14_code) = true := by decide +kernel
theorem ck_0_14 : pg_0_14.all (chkI prog_2_method_15_code) = true := by decide +kernel
theorem ck_0_15 : pg_0_15.all (chkI prog_2_method_16_code) = true := by decide +kernel
theorem ck_0_16 : pg_0_16.all (chkI prog_2_method_17_code) = true := by decide +kernel
theorem ck_0_17 : pg_0_17.all (chkI prog_2_method_18_code) = true := by decide +kernel
theorem ck_0_18 : pg_0_18.all (chkI prog_2_method_19_code) = true := by decide +kernel
theorem ck_0_19 : pg_0_19.all (chkI prog_2_method_20_code) = true := by decide +kernel
theorem ck_1_0 : pg_1_0.all (chkI prog_3_method_1_code) = true := by decide +kernel
theorem ck_1_1 : pg_1_1.all (chkI prog_3_method_2_code) = true := by decide +kernel
theorem ck_1_2 : pg_1_2.all (chkI prog_3_method_3_code) = true := by decide +kernel
theorem ck_1_3 : pg_1_3.all (chkI prog_3_method_4_code) = true := by decide +kernel
theorem ck_1_4 : pg_1_4.all (chkI prog_3_method_5_code) = true := by decide +kernel
theorem ck_1_5 : pg_1_5.all (chkI prog_3_method_6_code) = true := by decide +kernel
theorem ck_2_0 : pg_2_0.all (chkI prog_4_method_1_code) = true := by decide +kernel
theorem ck_2_1 : pg_2_1.all (chkI prog_4_method_2_code) = true := by decide +kernel
theorem ck_2_2 : pg_2_2.all (chkI prog_4_method_3_code) = true := by decide +kernel
theorem ck_2_3 : pg_2_3.all (chkI prog_4_method_4_code) = true := by decide +kernel
theorem ck_2_4 : pg_2_4.all (chkI prog_4_method_5_code) = true := by decide +kernel
theorem ck_2_5 : pg_2_5.all (chkI prog_4_method_6_code) = true := by decide +kernel
theorem ck_2_6 : pg_2_6.all (chkI prog_4_method_7_code) = true := by decide +kernel
theorem ck_2_7 : pg_2_7.all (chkI prog_4_method_8_code) = true := by decide +kernel
theorem ck_2_8 : pg_2_8.all (chkI prog_4_method_9_code) = true := by decide +kernel
theorem ck_3_0 : pg_3_0.all (chkI prog_5_method_1_code) = true := by decide +kernel
theorem ck_3_1 : pg_3_1.all (chkI prog_5_method_2_code) = true := by decide +kernel
theorem ck_3_2 : pg_3_2.all (chkI prog_5_method_3_code) = true := by decide +kernel
theorem ck_3_3 : pg_3_3.all (chkI prog_5_method_4_code) = true := by decide +kernel
theorem ck_3_4 : pg_3_4.all (chkI prog_5_method_5_code) = true := by decide +kernel
theorem ck_3_5 : pg_3_5.all (chkI prog_5_method_6_code) = true := by decide +kernel
theorem ck_3_6 : pg_3_6.all (chkI prog_5_method_7_code) = true := by decide +kernel
theorem ck_3_7 : pg_3_7.all (chkI prog_5_method_8_code) = true := by decide +kernel
theorem ck_3_8 : pg_3_8.all (chkI prog_5_method_9_code) = true := by decide +kernel
theorem ck_3_9 : pg_3_9.all (chkI prog_5_method_10_code) = true := by decide +kernel
theorem ck_4_0 : pg_4_0.all (chkI prog_6_method_1_code) = true := by decide +kernel
theorem ck_4_1 : pg_4_1.all (chkI prog_6_method_2_code) = true := by decide +kernel
theorem ck_4_2 : pg_4_2.all (chkI prog_6_method_3_code) = true := by decide +kernel
theorem ck_4_3 : pg_4_3.all (chkI prog_6_method_4_code) = true := by decide +kernel
theorem ck_4_4 : pg_4_4.all (chkI prog_6_method_5_code) = true := by decide +kernel
theorem ck_4_5 : pg_4_5.all (chkI prog_6_method_6_code) = true := by decide +kernel
theorem ck_4_6 : pg_4_6.all (chkI prog_6_method_7_code) = true := by decide +kernel
theorem ck_5_0 : pg_5_0.all (chkI prog_7_method_1_code) = true := by decide +kernel
theorem ck_6_0 : pg_6_0.all (chkI prog_8_method_1_code) = true := by decide +kernel
theorem ck_6_1 : pg_6_1.all (chkI prog_8_method_2_code) = true := by decide +kernel
theorem ck_6_2 : pg_6_2.all (chkI prog_8_method_3_code) = true := by decide +kernel
theorem ck_7_0 : pg_7_0.all (chkI prog_1_method_1_code) = true := by decide +kernel
theorem ck_7_1 : pg_7_1.all (chkI prog_1_method_2_code) = true := by decide +kernel
theorem ck_7_2 : pg_7_2.all (chkI prog_1_method_3_code) = true := by decide +kernel
theorem ck_7_3 : pg_7_3.all (chkI prog_1_method_4_code) = true := by decide +kernel
theorem ck_7_4 : pg_7_4.all (chkI prog_1_method_5_code) = true := by decide +kernel
theorem ck_7_5 : pg_7_5.all (chkI prog_1_method_6_code) = true := by decide +kernel
theorem ck_7_6 : pg_7_6.all (chkI prog_1_method_7_code) = true := by decide +kernel
theorem ck_7_7 : pg_7_7.all (chkI prog_1_method_8_code) = true := by decide +kernel
theorem ck_7_8 : pg_7_8.all (chkI prog_1_method_9_code) = true := by decide +kernel
theorem ck_7_9 : pg_7_9.all (chkI prog_1_method_10_code) = true := by decide +kernel
theorem ck_7_10 : pg_7_10.all (chkI prog_1_method_11_code) = true := by decide +kernel
theorem ck_7_11 : pg_7_11.all (chkI prog_1_method_12_code) = true := by decide +kernel
theorem ck_7_12 : pg_7_12.all (chkI prog_1_method_13_code) = true := by decide +kernel
theorem ck_7_13 : pg_7_13.all (chkI prog_1_method_14_code) = true := by decide +kernel
theorem ck_7_14 : pg_7_14.all (chkI prog_1_method_15_code) = true := by decide +kernel
theorem ck_7_15 : pg_7_15.all (chkI prog_1_method_16_code) = true := by decide +kernel
theorem ck_7_16 : pg_7_16.all (chkI prog_1_method_17_code) = true := by decide +kernel
theorem ck_7_17 : pg_7_17.all (chkI prog_1_method_18_code) = true := by decide +kernel
theorem ck_7_18 : pg_7_18.all (chkI prog_1_method_19_code) = true := by decide +kernel
theorem ck_7_19 : pg_7_19.all (chkI prog_1_method_20_code) = true := by decide +kernel
theorem ck_7_20 : pg_7_20.all (chkI prog_1_method_21_code) = true := by decide +kernel
theorem ck_7_21 : pg_7_21.all (chkI prog_1_method_22_code) = true := by decide +kernel
theorem ck_7_22 : pg_7_22.all (chkI prog_1_method_23_code) = true := by decide +kernel
theorem ck_7_23 : pg_7_23.all (chkI prog_1_method_24_code) = true := by decide +kernel
theorem ck_7_24 : pg_7_24.all (chkI prog_1_method_25_code) = true := by decide +kernel
theorem ck_7_25 : pg_7_25.all (chkI prog_1_method_26_code) = true := by decide +kernel
theorem ck_7_26 : pg_7_26.all (chkI prog_1_method_27_code) = true := by decide +kernel
theorem ck_7_27 : pg_7_27.all (chkI prog_1_method_28_code) = true := by decide +kernel
theorem ck_7_28 : pg_7_28.all (chkI prog_1_method_29_code) = true := by decide +kernel
theorem ck_7_29 : pg_7_29.all (chkI prog_1_method_30_code) = true := by decide +kernel
theorem ck_7_30 : pg_7_30.all (chkI prog_1_method_31_code) = true := by decide +kernel
theorem ck_7_31 : pg_7_31.all (chkI prog_1_method_32_code) = true := by decide +kernel
theorem ck_7_32 : pg_7_32.all (chkI prog_1_method_33_code) = true := by decide +kernel
theorem ck_7_33 : pg_7_33.all (chkI prog_1_method_34_code) = true := by decide +kernel
theorem ck_7_34 : pg_7_34.all (chkI prog_1_method_35_code) = true := by decide +kernel
theorem ck_7_35 : pg_7_35.all (chkI prog_1_method_36_code) = true := by decide +kernel
theorem ck_7_36 : pg_7_36.all (chkI prog_1_method_37_code) = true := by decide +kernel
theorem ck_7_37 : pg_7_37.all (chkI prog_1_method_38_code) = true := by decide +kernel
theorem ck_7_38 : pg_7_38.all (chkI prog_1_method_39_code) = true := by decide +kernel
theorem ck_7_39 : pg_7_39.all (chkI prog_1_method_40_code) = true := by decide +kernel
theorem ck_7_40 : pg_7_40.all (chkI prog_1_method_41_code) = true := by decide +kernel
theorem ck_7_41 : pg_7_41.all (chkI prog_1_method_42_code) = true := by decide +kernel
theorem ck_7_42 : pg_7_42.all (chkI prog_1_method_43_code) = true := by decide +kernel
theorem ck_7_43 : pg_7_43.all (chkI prog_1_method_44_code) = true := by decide +kernel
theorem ck_7_44 : pg_7_44.all (chkI prog_1_method_45_code) = true := by decide +kernel
theorem ck_7_45 : pg_7_45.all (chkI prog_1_method_46_code) = true := by decide +kernel
theorem ck_7_46 : pg_7_46.all (chkI prog_1_method_47_code) = true := by decide +kernel
theorem ck_7_47 : pg_7_47.all (chkI prog_1_method_48_code) = true := by decide +kernel
theorem ck_7_48 : pg_7_48.all (chkI prog_1_method_49_code) = true := by decide +kernel
theorem ck_7_49 : pg_7_49.all (chkI prog_1_method_50_code) = true := by decide +kernel
theorem ck_7_50 : pg_7_50.all (chkI prog_1_method_51_code) = true := by decide +kernel
theorem ck_7_51 : pg_7_51.all (chkI prog_1_method_52_code) = true := by decide +kernel
theorem ck_7_52 : pg_7_52.all (chkI prog_1_method_53_code) = true := by decide +kernel
theorem ck_7_53 : pg_7_53.all (chkI prog_1_method_54_code) = true := by decide +kernel
theorem ck_7_54 : pg_7_54.all (chkI prog_1_method_55_code) = true := by decide +kernel
theorem ck_7_55 : pg_7_55.all (chkI prog_1_method_56_code) = true := by decide +kernel
theorem ck_7_56 : pg_7_56.all (chkI prog_1_method_57_code) = true := by decide +kernel
theorem ck_10_0 : pg_10_0.all (chkI prog_11_method_49_code) = true := by decide +kernel
theorem ck_11_0 : pg_11_0.all (chkI prog_12_method_65_code) = true := by decide +kernel
theorem ck_11_1 : pg_11_1.all (chkI prog_12_method_69_code) = true := by decide +kernel
theorem ck_12_0 : pg_12_0.all (chkI prog_14_method_103_code) = true := by decide +kernel
