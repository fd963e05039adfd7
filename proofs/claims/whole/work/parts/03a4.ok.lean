theorem zok_203_0 : ze_203_0.all (zCkE zm_203) = true := by decide +kernel
theorem zok_203_1 : ze_203_1.all (zCkE zm_203) = true := by decide +kernel
theorem zok_203 : zCkM zm_203 = true := by
  show List.all ((ze_203_0 ++ (ze_203_1))) (zCkE zm_203) = true
  simp only [List.all_append, Bool.and_eq_true]
  exact ⟨zok_203_0, zok_203_1⟩
theorem zok_204 : zCkM zm_204 = true := by decide +kernel
theorem zok_205_0 : ze_205_0.all (zCkE zm_205) = true := by decide +kernel
theorem zok_205_1 : ze_205_1.all (zCkE zm_205) = true := by decide +kernel
theorem zok_205 : zCkM zm_205 = true := by
  show List.all ((ze_205_0 ++ (ze_205_1))) (zCkE zm_205) = true
  simp only [List.all_append, Bool.and_eq_true]
  exact ⟨zok_205_0, zok_205_1⟩
theorem zok_206 : zCkM zm_206 = true := by decide +kernel
theorem zok_207_0 : ze_207_0.all (zCkE zm_207) = true := by decide +kernel
theorem zok_207_1 : ze_207_1.all (zCkE zm_207) = true := by decide +kernel
theorem zok_207 : zCkM zm_207 = true := by
  show List.all ((ze_207_0 ++ (ze_207_1))) (zCkE zm_207) = true
  simp only [List.all_append, Bool.and_eq_true]
  exact ⟨zok_207_0, zok_207_1⟩
theorem zok_208_0 : ze_208_0.all (zCkE zm_208) = true := by decide +kernel
theorem zok_208_1 : ze_208_1.all (zCkE zm_208) = true := by decide +kernel
theorem zok_208 : zCkM zm_208 = true := by
  show List.all ((ze_208_0 ++ (ze_208_1))) (zCkE zm_208) = true
  simp only [List.all_append, Bool.and_eq_true]
  exact ⟨zok_208_0, zok_208_1⟩
theorem zok_209 : zCkM zm_209 = true := by decide +kernel
theorem zok_210_0 : ze_210_0.all (zCkE zm_210) = true := by decide +kernel
theorem zok_210_1 : ze_210_1.all (zCkE zm_210) = true := by decide +kernel
theorem zok_210 : zCkM zm_210 = true := by
  show List.all ((ze_210_0 ++ (ze_210_1))) (zCkE zm_210) = true
  simp only [List.all_append, Bool.and_eq_true]
  exact ⟨zok_210_0, zok_210_1⟩
theorem zok_211_0 : ze_211_0.all (zCkE zm_211) = true := by decide +kernel
theorem zok_211_1 : ze_211_1.all (zCkE zm_211) = true := by decide +kernel
theorem zok_211 : zCkM zm_211 = true := by
  show List.all ((ze_211_0 ++ (ze_211_1))) (zCkE zm_211) = true
  simp only [List.all_append, Bool.and_eq_true]
  exact ⟨zok_211_0, zok_211_1⟩
theorem zok_212_0 : ze_212_0.all (zCkE zm_212) = true := by decide +kernel
theorem zok_212_1 : ze_212_1.all (zCkE zm_212) = true := by decide +kernel
theorem zok_212 : zCkM zm_212 = true := by
  show List.all ((ze_212_0 ++ (ze_212_1))) (zCkE zm_212) = true
  simp only [List.all_append, Bool.and_eq_true]
  exact ⟨zok_212_0, zok_212_1⟩
theorem zok_213 : zCkM zm_213 = true := by decide +kernel
theorem zok_214 : zCkM zm_214 = true := by decide +kernel
theorem zok_215 : zCkM zm_215 = true := by decide +kernel
theorem zok_216_0 : ze_216_0.all (zCkE zm_216) = true := by decide +kernel
theorem zok_216_1 : ze_216_1.all (zCkE zm_216) = true := by decide +kernel
theorem zok_216_2 : ze_216_2.all (zCkE zm_216) = true := by decide +kernel
theorem zok_216 : zCkM zm_216 = true := by
  show List.all ((ze_216_0 ++ (ze_216_1 ++ (ze_216_2)))) (zCkE zm_216) = true
  simp only [List.all_append, Bool.and_eq_true]
  exact ⟨zok_216_0, ⟨zok_216_1, zok_216_2⟩⟩
theorem zok_217 : zCkM zm_217 = true := by decide +kernel
theorem zok_218 : zCkM zm_218 = true := by decide +kernel
theorem zok_219_0 : ze_219_0.all (zCkE zm_219) = true := by decide +kernel
theorem zok_219_1 : ze_219_1.all (zCkE zm_219) = true := by decide +kernel
theorem zok_219_2 : ze_219_2.all (zCkE zm_219) = true := by decide +kernel
theorem zok_219 : zCkM zm_219 = true := by
  show List.all ((ze_219_0 ++ (ze_219_1 ++ (ze_219_2)))) (zCkE zm_219) = true
  simp only [List.all_append, Bool.and_eq_true]
  exact ⟨zok_219_0, ⟨zok_219_1, zok_219_2⟩⟩
theorem zok_220 : zCkM zm_220 = true := by decide +kernel
theorem zok_221 : zCkM zm_221 = true := by decide +kernel
theorem zok_222 : zCkM zm_222 = true := by decide +kernel
theorem zok_223 : zCkM zm_223 = true := by decide +kernel
theorem zok_224 : zCkM zm_224 = true := by decide +kernel
theorem zok_225_0 : ze_225_0.all (zCkE zm_225) = true := by decide +kernel
theorem zok_225_1 : ze_225_1.all (zCkE zm_225) = true := by decide +kernel
theorem zok_225 : zCkM zm_225 = true := by
  show List.all ((ze_225_0 ++ (ze_225_1))) (zCkE zm_225) = true
  simp only [List.all_append, Bool.and_eq_true]
  exact ⟨zok_225_0, zok_225_1⟩
theorem zok_226_0 : ze_226_0.all (zCkE zm_226) = true := by decide +kernel
theorem zok_226_1 : ze_226_1.all (zCkE zm_226) = true := by decide +kernel
theorem zok_226_2 : ze_226_2.all (zCkE zm_226) = true := by decide +kernel
theorem zok_226_3 : ze_226_3.all (zCkE zm_226) = true := by decide +kernel
theorem zok_226 : zCkM zm_226 = true := by
  show List.all ((ze_226_0 ++ (ze_226_1 ++ (ze_226_2 ++ (ze_226_3))))) (zCkE zm_226) = true
  simp only [List.all_append, Bool.and_eq_true]
  exact ⟨zok_226_0, ⟨zok_226_1, ⟨zok_226_2, zok_226_3⟩⟩⟩
theorem zok_227 : zCkM zm_227 = true := by decide +kernel
theorem zok_228 : zCkM zm_228 = true := by decide +kernel
theorem zok_229_0 : ze_229_0.all (zCkE zm_229) = true := by decide +kernel
theorem zok_229_1 : ze_229_1.all (zCkE zm_229) = true := by decide +kernel
theorem zok_229_2 : ze_229_2.all (zCkE zm_229) = true := by decide +kernel
theorem zok_229_3 : ze_229_3.all (zCkE zm_229) = true := by decide +kernel
theorem zok_229_4 : ze_229_4.all (zCkE zm_229) = true := by decide +kernel
theorem zok_229_5 : ze_229_5.all (zCkE zm_229) = true := by decide +kernel
theorem zok_229_6 : ze_229_6.all (zCkE zm_229) = true := by decide +kernel
theorem zok_229_7 : ze_229_7.all (zCkE zm_229) = true := by decide +kernel
theorem zok_229_8 : ze_229_8.all (zCkE zm_229) = true := by decide +kernel
theorem zok_229_9 : ze_229_9.all (zCkE zm_229) = true := by decide +kernel
theorem zok_229_10 : ze_229_10.all (zCkE zm_229) = true := by decide +kernel
theorem zok_229_11 : ze_229_11.all (zCkE zm_229) = true := by decide +kernel
theorem zok_229_12 : ze_229_12.all (zCkE zm_229) = true := by decide +kernel
theorem zok_229_13 : ze_229_13.all (zCkE zm_229) = true := by decide +kernel
theorem zok_229_14 : ze_229_14.all (zCkE zm_229) = true := by decide +kernel
theorem zok_229_15 : ze_229_15.all (zCkE zm_229) = true := by decide +kernel
theorem zok_229_16 : ze_229_16.all (zCkE zm_229) = true := by decide +kernel
theorem zok_229_17 : ze_229_17.all (zCkE zm_229) = true := by decide +kernel
