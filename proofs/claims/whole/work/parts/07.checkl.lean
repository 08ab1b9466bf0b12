theorem ck_9_0_0 : ((pg_9_0.drop 0).take 50).all (chkI code) = true := by decide +kernel
theorem ck_9_0_1 : ((pg_9_0.drop 50).take 50).all (chkI code) = true := by decide +kernel
theorem ck_9_0_2 : ((pg_9_0.drop 100).take 50).all (chkI code) = true := by decide +kernel
theorem ck_9_0_3 : ((pg_9_0.drop 150).take 50).all (chkI code) = true := by decide +kernel
theorem ck_9_0_4 : ((pg_9_0.drop 200).take 50).all (chkI code) = true := by decide +kernel
theorem ck_9_0_5 : ((pg_9_0.drop 250).take 50).all (chkI code) = true := by decide +kernel
theorem ck_9_0_6 : ((pg_9_0.drop 300).take 50).all (chkI code) = true := by decide +kernel
theorem ck_9_0_7 : ((pg_9_0.drop 350).take 50).all (chkI code) = true := by decide +kernel
theorem ck_9_0_8 : ((pg_9_0.drop 400).take 50).all (chkI code) = true := by decide +kernel
theorem ck_9_0_9 : ((pg_9_0.drop 450).take 50).all (chkI code) = true := by decide +kernel
theorem ck_9_0_10 : ((pg_9_0.drop 500).take 50).all (chkI code) = true := by decide +kernel
theorem ck_9_0_11 : ((pg_9_0.drop 550).take 50).all (chkI code) = true := by decide +kernel
theorem ck_9_0_12 : ((pg_9_0.drop 600).take 50).all (chkI code) = true := by decide +kernel
theorem ck_9_0_13 : ((pg_9_0.drop 650).take 50).all (chkI code) = true := by decide +kernel
theorem ck_9_0_14 : ((pg_9_0.drop 700).take 50).all (chkI code) = true := by decide +kernel
theorem ck_9_0_15 : ((pg_9_0.drop 750).take 50).all (chkI code) = true := by decide +kernel
theorem ck_9_0_16 : ((pg_9_0.drop 800).take 50).all (chkI code) = true := by decide +kernel
theorem ck_9_0_17 : ((pg_9_0.drop 850).take 50).all (chkI code) = true := by decide +kernel
theorem ck_9_0_18 : ((pg_9_0.drop 900).take 50).all (chkI code) = true := by decide +kernel
theorem ck_9_0_19 : ((pg_9_0.drop 950).take 50).all (chkI code) = true := by decide +kernel
theorem ck_9_0_e : ((pg_9_0.drop 1000)).all (chkI code) = true := by decide +kernel
theorem ck_9_0_s19 : (pg_9_0.drop 950).all (chkI code) = true := all_split _ 50 _ ck_9_0_19 (by rw [List.drop_drop]; exact ck_9_0_e)
theorem ck_9_0_s18 : (pg_9_0.drop 900).all (chkI code) = true := all_split _ 50 _ ck_9_0_18 (by rw [List.drop_drop]; exact ck_9_0_s19)
theorem ck_9_0_s17 : (pg_9_0.drop 850).all (chkI code) = true := all_split _ 50 _ ck_9_0_17 (by rw [List.drop_drop]; exact ck_9_0_s18)
theorem ck_9_0_s16 : (pg_9_0.drop 800).all (chkI code) = true := all_split _ 50 _ ck_9_0_16 (by rw [List.drop_drop]; exact ck_9_0_s17)
theorem ck_9_0_s15 : (pg_9_0.drop 750).all (chkI code) = true := all_split _ 50 _ ck_9_0_15 (by rw [List.drop_drop]; exact ck_9_0_s16)
theorem ck_9_0_s14 : (pg_9_0.drop 700).all (chkI code) = true := all_split _ 50 _ ck_9_0_14 (by rw [List.drop_drop]; exact ck_9_0_s15)
theorem ck_9_0_s13 : (pg_9_0.drop 650).all (chkI code) = true := all_split _ 50 _ ck_9_0_13 (by rw [List.drop_drop]; exact ck_9_0_s14)
theorem ck_9_0_s12 : (pg_9_0.drop 600).all (chkI code) = true := all_split _ 50 _ ck_9_0_12 (by rw [List.drop_drop]; exact ck_9_0_s13)
theorem ck_9_0_s11 : (pg_9_0.drop 550).all (chkI code) = true := all_split _ 50 _ ck_9_0_11 (by rw [List.drop_drop]; exact ck_9_0_s12)
theorem ck_9_0_s10 : (pg_9_0.drop 500).all (chkI code) = true := all_split _ 50 _ ck_9_0_10 (by rw [List.drop_drop]; exact ck_9_0_s11)
theorem ck_9_0_s9 : (pg_9_0.drop 450).all (chkI code) = true := all_split _ 50 _ ck_9_0_9 (by rw [List.drop_drop]; exact ck_9_0_s10)
theorem ck_9_0_s8 : (pg_9_0.drop 400).all (chkI code) = true := all_split _ 50 _ ck_9_0_8 (by rw [List.drop_drop]; exact ck_9_0_s9)
theorem ck_9_0_s7 : (pg_9_0.drop 350).all (chkI code) = true := all_split _ 50 _ ck_9_0_7 (by rw [List.drop_drop]; exact ck_9_0_s8)
theorem ck_9_0_s6 : (pg_9_0.drop 300).all (chkI code) = true := all_split _ 50 _ ck_9_0_6 (by rw [List.drop_drop]; exact ck_9_0_s7)
theorem ck_9_0_s5 : (pg_9_0.drop 250).all (chkI code) = true := all_split _ 50 _ ck_9_0_5 (by rw [List.drop_drop]; exact ck_9_0_s6)
theorem ck_9_0_s4 : (pg_9_0.drop 200).all (chkI code) = true := all_split _ 50 _ ck_9_0_4 (by rw [List.drop_drop]; exact ck_9_0_s5)
theorem ck_9_0_s3 : (pg_9_0.drop 150).all (chkI code) = true := all_split _ 50 _ ck_9_0_3 (by rw [List.drop_drop]; exact ck_9_0_s4)
theorem ck_9_0_s2 : (pg_9_0.drop 100).all (chkI code) = true := all_split _ 50 _ ck_9_0_2 (by rw [List.drop_drop]; exact ck_9_0_s3)
theorem ck_9_0_s1 : (pg_9_0.drop 50).all (chkI code) = true := all_split _ 50 _ ck_9_0_1 (by rw [List.drop_drop]; exact ck_9_0_s2)
theorem ck_9_0_s0 : (pg_9_0.drop 0).all (chkI code) = true := all_split _ 50 _ ck_9_0_0 (by rw [List.drop_drop]; exact ck_9_0_s1)
theorem ck_9_0 : pg_9_0.all (chkI code) = true := ck_9_0_s0
