/-! the law, but for the call sum -/
theorem ops_of (h2 : op_2 Inv) : OPS Inv := ⟨ok_0, ok_1, h2, ok_3, ok_4, ok_5, ok_6, ok_7, ok_8, ok_9, ok_10, ok_11, ok_12, ok_13, ok_14, ok_15, ok_16, ok_17, ok_18, ok_19, ok_20, ok_21, ok_22, ok_23, ok_24, ok_25, ok_26, ok_27, ok_28, ok_29, ok_30, ok_31, ok_32, ok_33, ok_34, ok_35, ok_36, ok_37, ok_38, ok_39, ok_40⟩
theorem law_but (h2 : op_2 Inv) : LAW := law_of ini_ok (ops_of h2)
