theorem zok_0 : zCkM zm_0 = true := by decide +kernel
theorem zok_1 : zCkM zm_1 = true := by decide +kernel
theorem zok_2_0 : ze_2_0.all (zCkE zm_2) = true := by decide +kernel
theorem zok_2_1 : ze_2_1.all (zCkE zm_2) = true := by decide +kernel
theorem zok_2 : zCkM zm_2 = true := by
  show List.all ((ze_2_0 ++ (ze_2_1))) (zCkE zm_2) = true
  simp only [List.all_append, Bool.and_eq_true]
  exact ⟨zok_2_0, zok_2_1⟩
theorem zok_3 : zCkM zm_3 = true := by decide +kernel
theorem zok_4 : zCkM zm_4 = true := by decide +kernel
theorem zok_5 : zCkM zm_5 = true := by decide +kernel
theorem zok_6_0 : ze_6_0.all (zCkE zm_6) = true := by decide +kernel
theorem zok_6_1 : ze_6_1.all (zCkE zm_6) = true := by decide +kernel
theorem zok_6 : zCkM zm_6 = true := by
  show List.all ((ze_6_0 ++ (ze_6_1))) (zCkE zm_6) = true
  simp only [List.all_append, Bool.and_eq_true]
  exact ⟨zok_6_0, zok_6_1⟩
theorem zok_7 : zCkM zm_7 = true := by decide +kernel
theorem zok_8 : zCkM zm_8 = true := by decide +kernel
theorem zok_9 : zCkM zm_9 = true := by decide +kernel
theorem zok_10 : zCkM zm_10 = true := by decide +kernel
theorem zok_11 : zCkM zm_11 = true := by decide +kernel
theorem zok_12 : zCkM zm_12 = true := by decide +kernel
theorem zok_13 : zCkM zm_13 = true := by decide +kernel
theorem zok_14_0 : ze_14_0.all (zCkE zm_14) = true := by decide +kernel
theorem zok_14_1 : ze_14_1.all (zCkE zm_14) = true := by decide +kernel
theorem zok_14 : zCkM zm_14 = true := by
  show List.all ((ze_14_0 ++ (ze_14_1))) (zCkE zm_14) = true
  simp only [List.all_append, Bool.and_eq_true]
  exact ⟨zok_14_0, zok_14_1⟩
theorem zok_15_0 : ze_15_0.all (zCkE zm_15) = true := by decide +kernel
theorem zok_15_1 : ze_15_1.all (zCkE zm_15) = true := by decide +kernel
theorem zok_15_2 : ze_15_2.all (zCkE zm_15) = true := by decide +kernel
theorem zok_15 : zCkM zm_15 = true := by
  show List.all ((ze_15_0 ++ (ze_15_1 ++ (ze_15_2)))) (zCkE zm_15) = true
  simp only [List.all_append, Bool.and_eq_true]
  exact ⟨zok_15_0, ⟨zok_15_1, zok_15_2⟩⟩
theorem zok_16_0 : ze_16_0.all (zCkE zm_16) = true := by decide +kernel
theorem zok_16_1 : ze_16_1.all (zCkE zm_16) = true := by decide +kernel
theorem zok_16 : zCkM zm_16 = true := by
  show List.all ((ze_16_0 ++ (ze_16_1))) (zCkE zm_16) = true
  simp only [List.all_append, Bool.and_eq_true]
  exact ⟨zok_16_0, zok_16_1⟩
theorem zok_17 : zCkM zm_17 = true := by decide +kernel
theorem zok_18_0 : ze_18_0.all (zCkE zm_18) = true := by decide +kernel
theorem zok_18_1 : ze_18_1.all (zCkE zm_18) = true := by decide +kernel
theorem zok_18_2 : ze_18_2.all (zCkE zm_18) = true := by decide +kernel
theorem zok_18 : zCkM zm_18 = true := by
  show List.all ((ze_18_0 ++ (ze_18_1 ++ (ze_18_2)))) (zCkE zm_18) = true
  simp only [List.all_append, Bool.and_eq_true]
  exact ⟨zok_18_0, ⟨zok_18_1, zok_18_2⟩⟩
theorem zok_19 : zCkM zm_19 = true := by decide +kernel
theorem zok_20 : zCkM zm_20 = true := by decide +kernel
theorem zok_21 : zCkM zm_21 = true := by decide +kernel
theorem zok_22 : zCkM zm_22 = true := by decide +kernel
theorem zok_23 : zCkM zm_23 = true := by decide +kernel
theorem zok_24 : zCkM zm_24 = true := by decide +kernel
theorem zok_25 : zCkM zm_25 = true := by decide +kernel
theorem zok_26_0 : ze_26_0.all (zCkE zm_26) = true := by decide +kernel
theorem zok_26_1 : ze_26_1.all (zCkE zm_26) = true := by decide +kernel
theorem zok_26 : zCkM zm_26 = true := by
  show List.all ((ze_26_0 ++ (ze_26_1))) (zCkE zm_26) = true
  simp only [List.all_append, Bool.and_eq_true]
  exact ⟨zok_26_0, zok_26_1⟩
theorem zok_27 : zCkM zm_27 = true := by decide +kernel
theorem zok_28 : zCkM zm_28 = true := by decide +kernel
theorem zok_29 : zCkM zm_29 = true := by decide +kernel
theorem zok_30 : zCkM zm_30 = true := by decide +kernel
theorem zok_31 : zCkM zm_31 = true := by decide +kernel
theorem zok_32 : zCkM zm_32 = true := by decide +kernel
theorem zok_33 : zCkM zm_33 = true := by decide +kernel
theorem zok_34 : zCkM zm_34 = true := by decide +kernel
theorem zok_35 : zCkM zm_35 = true := by decide +kernel
theorem zok_36 : zCkM zm_36 = true := by decide +kernel
theorem zok_37 : zCkM zm_37 = true := by decide +kernel
theorem zok_38 : zCkM zm_38 = true := by decide +kernel
theorem zok_39 : zCkM zm_39 = true := by decide +kernel
theorem zok_40 : zCkM zm_40 = true := by decide +kernel
theorem zok_41 : zCkM zm_41 = true := by decide +kernel
theorem zok_42 : zCkM zm_42 = true := by decide +kernel
theorem zok_43 : zCkM zm_43 = true := by decide +kernel
theorem zok_44 : zCkM zm_44 = true := by decide +kernel
theorem zok_45 : zCkM zm_45 = true := by decide +kernel
theorem zok_46 : zCkM zm_46 = true := by decide +kernel
theorem zok_47 : zCkM zm_47 = true := by decide +kernel
theorem zok_48 : zCkM zm_48 = true := by decide +kernel
theorem zok_49 : zCkM zm_49 = true := by decide +kernel
theorem zok_50 : zCkM zm_50 = true := by decide +kernel
theorem zok_51 : zCkM zm_51 = true := by decide +kernel
theorem zok_52 : zCkM zm_52 = true := by decide +kernel
theorem zok_53 : zCkM zm_53 = true := by decide +kernel
