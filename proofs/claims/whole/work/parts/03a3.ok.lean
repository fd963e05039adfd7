theorem zok_151_1 : ze_151_1.all (zCkE zm_151) = true := by decide +kernel
theorem zok_151 : zCkM zm_151 = true := by
  show List.all ((ze_151_0 ++ (ze_151_1))) (zCkE zm_151) = true
  simp only [List.all_append, Bool.and_eq_true]
  exact ⟨zok_151_0, zok_151_1⟩
theorem zok_152_0 : ze_152_0.all (zCkE zm_152) = true := by decide +kernel
theorem zok_152_1 : ze_152_1.all (zCkE zm_152) = true := by decide +kernel
theorem zok_152_2 : ze_152_2.all (zCkE zm_152) = true := by decide +kernel
theorem zok_152 : zCkM zm_152 = true := by
  show List.all ((ze_152_0 ++ (ze_152_1 ++ (ze_152_2)))) (zCkE zm_152) = true
  simp only [List.all_append, Bool.and_eq_true]
  exact ⟨zok_152_0, ⟨zok_152_1, zok_152_2⟩⟩
theorem zok_153_0 : ze_153_0.all (zCkE zm_153) = true := by decide +kernel
theorem zok_153_1 : ze_153_1.all (zCkE zm_153) = true := by decide +kernel
theorem zok_153 : zCkM zm_153 = true := by
  show List.all ((ze_153_0 ++ (ze_153_1))) (zCkE zm_153) = true
  simp only [List.all_append, Bool.and_eq_true]
  exact ⟨zok_153_0, zok_153_1⟩
theorem zok_154 : zCkM zm_154 = true := by decide +kernel
theorem zok_155 : zCkM zm_155 = true := by decide +kernel
theorem zok_156 : zCkM zm_156 = true := by decide +kernel
theorem zok_157 : zCkM zm_157 = true := by decide +kernel
theorem zok_158 : zCkM zm_158 = true := by decide +kernel
theorem zok_159 : zCkM zm_159 = true := by decide +kernel
theorem zok_160 : zCkM zm_160 = true := by decide +kernel
theorem zok_161 : zCkM zm_161 = true := by decide +kernel
theorem zok_162 : zCkM zm_162 = true := by decide +kernel
theorem zok_163 : zCkM zm_163 = true := by decide +kernel
theorem zok_164 : zCkM zm_164 = true := by decide +kernel
theorem zok_165 : zCkM zm_165 = true := by decide +kernel
theorem zok_166 : zCkM zm_166 = true := by decide +kernel
theorem zok_167 : zCkM zm_167 = true := by decide +kernel
theorem zok_168 : zCkM zm_168 = true := by decide +kernel
theorem zok_169 : zCkM zm_169 = true := by decide +kernel
theorem zok_170 : zCkM zm_170 = true := by decide +kernel
theorem zok_171 : zCkM zm_171 = true := by decide +kernel
theorem zok_172 : zCkM zm_172 = true := by decide +kernel
theorem zok_173 : zCkM zm_173 = true := by decide +kernel
theorem zok_174 : zCkM zm_174 = true := by decide +kernel
theorem zok_175 : zCkM zm_175 = true := by decide +kernel
theorem zok_176 : zCkM zm_176 = true := by decide +kernel
theorem zok_177 : zCkM zm_177 = true := by decide +kernel
theorem zok_178 : zCkM zm_178 = true := by decide +kernel
theorem zok_179 : zCkM zm_179 = true := by decide +kernel
theorem zok_180 : zCkM zm_180 = true := by decide +kernel
theorem zok_181_0 : ze_181_0.all (zCkE zm_181) = true := by decide +kernel
theorem zok_181_1 : ze_181_1.all (zCkE zm_181) = true := by decide +kernel
theorem zok_181 : zCkM zm_181 = true := by
  show List.all ((ze_181_0 ++ (ze_181_1))) (zCkE zm_181) = true
  simp only [List.all_append, Bool.and_eq_true]
  exact ⟨zok_181_0, zok_181_1⟩
theorem zok_182 : zCkM zm_182 = true := by decide +kernel
theorem zok_183 : zCkM zm_183 = true := by decide +kernel
theorem zok_184 : zCkM zm_184 = true := by decide +kernel
theorem zok_185 : zCkM zm_185 = true := by decide +kernel
theorem zok_186 : zCkM zm_186 = true := by decide +kernel
theorem zok_187 : zCkM zm_187 = true := by decide +kernel
theorem zok_188 : zCkM zm_188 = true := by decide +kernel
theorem zok_189 : zCkM zm_189 = true := by decide +kernel
theorem zok_190 : zCkM zm_190 = true := by decide +kernel
theorem zok_191 : zCkM zm_191 = true := by decide +kernel
theorem zok_192_0 : ze_192_0.all (zCkE zm_192) = true := by decide +kernel
theorem zok_192_1 : ze_192_1.all (zCkE zm_192) = true := by decide +kernel
theorem zok_192 : zCkM zm_192 = true := by
  show List.all ((ze_192_0 ++ (ze_192_1))) (zCkE zm_192) = true
  simp only [List.all_append, Bool.and_eq_true]
  exact ⟨zok_192_0, zok_192_1⟩
theorem zok_193 : zCkM zm_193 = true := by decide +kernel
theorem zok_194 : zCkM zm_194 = true := by decide +kernel
theorem zok_195 : zCkM zm_195 = true := by decide +kernel
theorem zok_196 : zCkM zm_196 = true := by decide +kernel
theorem zok_197 : zCkM zm_197 = true := by decide +kernel
theorem zok_198 : zCkM zm_198 = true := by decide +kernel
theorem zok_199_0 : ze_199_0.all (zCkE zm_199) = true := by decide +kernel
theorem zok_199_1 : ze_199_1.all (zCkE zm_199) = true := by decide +kernel
theorem zok_199_2 : ze_199_2.all (zCkE zm_199) = true := by decide +kernel
theorem zok_199 : zCkM zm_199 = true := by
  show List.all ((ze_199_0 ++ (ze_199_1 ++ (ze_199_2)))) (zCkE zm_199) = true
  simp only [List.all_append, Bool.and_eq_true]
  exact ⟨zok_199_0, ⟨zok_199_1, zok_199_2⟩⟩
theorem zok_200_0 : ze_200_0.all (zCkE zm_200) = true := by decide +kernel
theorem zok_200_1 : ze_200_1.all (zCkE zm_200) = true := by decide +kernel
theorem zok_200 : zCkM zm_200 = true := by
  show List.all ((ze_200_0 ++ (ze_200_1))) (zCkE zm_200) = true
  simp only [List.all_append, Bool.and_eq_true]
  exact ⟨zok_200_0, zok_200_1⟩
theorem zok_201 : zCkM zm_201 = true := by decide +kernel
theorem zok_202_0 : ze_202_0.all (zCkE zm_202) = true := by decide +kernel
theorem zok_202_1 : ze_202_1.all (zCkE zm_202) = true := by decide +kernel
theorem zok_202_2 : ze_202_2.all (zCkE zm_202) = true := by decide +kernel
theorem zok_202 : zCkM zm_202 = true := by
  show List.all ((ze_202_0 ++ (ze_202_1 ++ (ze_202_2)))) (zCkE zm_202) = true
  simp only [List.all_append, Bool.and_eq_true]
  exact ⟨zok_202_0, ⟨zok_202_1, zok_202_2⟩⟩
