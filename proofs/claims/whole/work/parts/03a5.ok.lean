theorem zok_229_18 : ze_229_18.all (zCkE zm_229) = true := by decide +kernel
theorem zok_229_19 : ze_229_19.all (zCkE zm_229) = true := by decide +kernel
theorem zok_229_20 : ze_229_20.all (zCkE zm_229) = true := by decide +kernel
theorem zok_229_21 : ze_229_21.all (zCkE zm_229) = true := by decide +kernel
theorem zok_229_22 : ze_229_22.all (zCkE zm_229) = true := by decide +kernel
theorem zok_229_23 : ze_229_23.all (zCkE zm_229) = true := by decide +kernel
theorem zok_229_24 : ze_229_24.all (zCkE zm_229) = true := by decide +kernel
theorem zok_229_25 : ze_229_25.all (zCkE zm_229) = true := by decide +kernel
theorem zok_229_26 : ze_229_26.all (zCkE zm_229) = true := by decide +kernel
theorem zok_229 : zCkM zm_229 = true := by
  show List.all ((ze_229_0 ++ (ze_229_1 ++ (ze_229_2 ++ (ze_229_3 ++ (ze_229_4 ++ (ze_229_5 ++ (ze_229_6 ++ (ze_229_7 ++ (ze_229_8 ++ (ze_229_9 ++ (ze_229_10 ++ (ze_229_11 ++ (ze_229_12 ++ (ze_229_13 ++ (ze_229_14 ++ (ze_229_15 ++ (ze_229_16 ++ (ze_229_17 ++ (ze_229_18 ++ (ze_229_19 ++ (ze_229_20 ++ (ze_229_21 ++ (ze_229_22 ++ (ze_229_23 ++ (ze_229_24 ++ (ze_229_25 ++ (ze_229_26)))))))))))))))))))))))))))) (zCkE zm_229) = true
  simp only [List.all_append, Bool.and_eq_true]
  exact ⟨zok_229_0, ⟨zok_229_1, ⟨zok_229_2, ⟨zok_229_3, ⟨zok_229_4, ⟨zok_229_5, ⟨zok_229_6, ⟨zok_229_7, ⟨zok_229_8, ⟨zok_229_9, ⟨zok_229_10, ⟨zok_229_11, ⟨zok_229_12, ⟨zok_229_13, ⟨zok_229_14, ⟨zok_229_15, ⟨zok_229_16, ⟨zok_229_17, ⟨zok_229_18, ⟨zok_229_19, ⟨zok_229_20, ⟨zok_229_21, ⟨zok_229_22, ⟨zok_229_23, ⟨zok_229_24, ⟨zok_229_25, zok_229_26⟩⟩⟩⟩⟩⟩⟩⟩⟩⟩⟩⟩⟩⟩⟩⟩⟩⟩⟩⟩⟩⟩⟩⟩⟩⟩
theorem zok_230 : zCkM zm_230 = true := by decide +kernel
theorem zok_231 : zCkM zm_231 = true := by decide +kernel
theorem zok_232 : zCkM zm_232 = true := by decide +kernel
theorem zok_233 : zCkM zm_233 = true := by decide +kernel
theorem zok_234 : zCkM zm_234 = true := by decide +kernel
theorem zok_235 : zCkM zm_235 = true := by decide +kernel
theorem zok_236 : zCkM zm_236 = true := by decide +kernel
theorem zok_237 : zCkM zm_237 = true := by decide +kernel
