theorem zok_111 : zCkM zm_111 = true := by
  show List.all ((ze_111_0 ++ (ze_111_1))) (zCkE zm_111) = true
  simp only [List.all_append, Bool.and_eq_true]
  exact ⟨zok_111_0, zok_111_1⟩
theorem zok_112_0 : ze_112_0.all (zCkE zm_112) = true := by decide +kernel
theorem zok_112_1 : ze_112_1.all (zCkE zm_112) = true := by decide +kernel
theorem zok_112 : zCkM zm_112 = true := by
  show List.all ((ze_112_0 ++ (ze_112_1))) (zCkE zm_112) = true
  simp only [List.all_append, Bool.and_eq_true]
  exact ⟨zok_112_0, zok_112_1⟩
theorem zok_113 : zCkM zm_113 = true := by decide +kernel
theorem zok_114 : zCkM zm_114 = true := by decide +kernel
theorem zok_115 : zCkM zm_115 = true := by decide +kernel
theorem zok_116_0 : ze_116_0.all (zCkE zm_116) = true := by decide +kernel
theorem zok_116_1 : ze_116_1.all (zCkE zm_116) = true := by decide +kernel
theorem zok_116_2 : ze_116_2.all (zCkE zm_116) = true := by decide +kernel
theorem zok_116 : zCkM zm_116 = true := by
  show List.all ((ze_116_0 ++ (ze_116_1 ++ (ze_116_2)))) (zCkE zm_116) = true
  simp only [List.all_append, Bool.and_eq_true]
  exact ⟨zok_116_0, ⟨zok_116_1, zok_116_2⟩⟩
theorem zok_117 : zCkM zm_117 = true := by decide +kernel
theorem zok_118 : zCkM zm_118 = true := by decide +kernel
theorem zok_119_0 : ze_119_0.all (zCkE zm_119) = true := by decide +kernel
theorem zok_119_1 : ze_119_1.all (zCkE zm_119) = true := by decide +kernel
theorem zok_119_2 : ze_119_2.all (zCkE zm_119) = true := by decide +kernel
theorem zok_119 : zCkM zm_119 = true := by
  show List.all ((ze_119_0 ++ (ze_119_1 ++ (ze_119_2)))) (zCkE zm_119) = true
  simp only [List.all_append, Bool.and_eq_true]
  exact ⟨zok_119_0, ⟨zok_119_1, zok_119_2⟩⟩
theorem zok_120 : zCkM zm_120 = true := by decide +kernel
theorem zok_121 : zCkM zm_121 = true := by decide +kernel
theorem zok_122 : zCkM zm_122 = true := by decide +kernel
theorem zok_123 : zCkM zm_123 = true := by decide +kernel
theorem zok_124 : zCkM zm_124 = true := by decide +kernel
theorem zok_125 : zCkM zm_125 = true := by decide +kernel
theorem zok_126_0 : ze_126_0.all (zCkE zm_126) = true := by decide +kernel
theorem zok_126_1 : ze_126_1.all (zCkE zm_126) = true := by decide +kernel
theorem zok_126_2 : ze_126_2.all (zCkE zm_126) = true := by decide +kernel
theorem zok_126 : zCkM zm_126 = true := by
  show List.all ((ze_126_0 ++ (ze_126_1 ++ (ze_126_2)))) (zCkE zm_126) = true
  simp only [List.all_append, Bool.and_eq_true]
  exact ⟨zok_126_0, ⟨zok_126_1, zok_126_2⟩⟩
theorem zok_127 : zCkM zm_127 = true := by decide +kernel
theorem zok_128 : zCkM zm_128 = true := by decide +kernel
theorem zok_129 : zCkM zm_129 = true := by decide +kernel
theorem zok_130_0 : ze_130_0.all (zCkE zm_130) = true := by decide +kernel
theorem zok_130_1 : ze_130_1.all (zCkE zm_130) = true := by decide +kernel
theorem zok_130_2 : ze_130_2.all (zCkE zm_130) = true := by decide +kernel
theorem zok_130 : zCkM zm_130 = true := by
  show List.all ((ze_130_0 ++ (ze_130_1 ++ (ze_130_2)))) (zCkE zm_130) = true
  simp only [List.all_append, Bool.and_eq_true]
  exact ⟨zok_130_0, ⟨zok_130_1, zok_130_2⟩⟩
theorem zok_131 : zCkM zm_131 = true := by decide +kernel
theorem zok_132 : zCkM zm_132 = true := by decide +kernel
theorem zok_133 : zCkM zm_133 = true := by decide +kernel
theorem zok_134_0 : ze_134_0.all (zCkE zm_134) = true := by decide +kernel
theorem zok_134_1 : ze_134_1.all (zCkE zm_134) = true := by decide +kernel
theorem zok_134 : zCkM zm_134 = true := by
  show List.all ((ze_134_0 ++ (ze_134_1))) (zCkE zm_134) = true
  simp only [List.all_append, Bool.and_eq_true]
  exact ⟨zok_134_0, zok_134_1⟩
theorem zok_135 : zCkM zm_135 = true := by decide +kernel
theorem zok_136 : zCkM zm_136 = true := by decide +kernel
theorem zok_137 : zCkM zm_137 = true := by decide +kernel
theorem zok_138 : zCkM zm_138 = true := by decide +kernel
theorem zok_139 : zCkM zm_139 = true := by decide +kernel
theorem zok_140 : zCkM zm_140 = true := by decide +kernel
theorem zok_141_0 : ze_141_0.all (zCkE zm_141) = true := by decide +kernel
theorem zok_141_1 : ze_141_1.all (zCkE zm_141) = true := by decide +kernel
theorem zok_141_2 : ze_141_2.all (zCkE zm_141) = true := by decide +kernel
theorem zok_141_3 : ze_141_3.all (zCkE zm_141) = true := by decide +kernel
theorem zok_141 : zCkM zm_141 = true := by
  show List.all ((ze_141_0 ++ (ze_141_1 ++ (ze_141_2 ++ (ze_141_3))))) (zCkE zm_141) = true
  simp only [List.all_append, Bool.and_eq_true]
  exact ⟨zok_141_0, ⟨zok_141_1, ⟨zok_141_2, zok_141_3⟩⟩⟩
theorem zok_142_0 : ze_142_0.all (zCkE zm_142) = true := by decide +kernel
theorem zok_142_1 : ze_142_1.all (zCkE zm_142) = true := by decide +kernel
theorem zok_142_2 : ze_142_2.all (zCkE zm_142) = true := by decide +kernel
theorem zok_142_3 : ze_142_3.all (zCkE zm_142) = true := by decide +kernel
theorem zok_142 : zCkM zm_142 = true := by
  show List.all ((ze_142_0 ++ (ze_142_1 ++ (ze_142_2 ++ (ze_142_3))))) (zCkE zm_142) = true
  simp only [List.all_append, Bool.and_eq_true]
  exact ⟨zok_142_0, ⟨zok_142_1, ⟨zok_142_2, zok_142_3⟩⟩⟩
theorem zok_143 : zCkM zm_143 = true := by decide +kernel
theorem zok_144 : zCkM zm_144 = true := by decide +kernel
theorem zok_145 : zCkM zm_145 = true := by decide +kernel
theorem zok_146_0 : ze_146_0.all (zCkE zm_146) = true := by decide +kernel
theorem zok_146_1 : ze_146_1.all (zCkE zm_146) = true := by decide +kernel
theorem zok_146_2 : ze_146_2.all (zCkE zm_146) = true := by decide +kernel
theorem zok_146 : zCkM zm_146 = true := by
  show List.all ((ze_146_0 ++ (ze_146_1 ++ (ze_146_2)))) (zCkE zm_146) = true
  simp only [List.all_append, Bool.and_eq_true]
  exact ⟨zok_146_0, ⟨zok_146_1, zok_146_2⟩⟩
theorem zok_147_0 : ze_147_0.all (zCkE zm_147) = true := by decide +kernel
theorem zok_147_1 : ze_147_1.all (zCkE zm_147) = true := by decide +kernel
theorem zok_147 : zCkM zm_147 = true := by
  show List.all ((ze_147_0 ++ (ze_147_1))) (zCkE zm_147) = true
  simp only [List.all_append, Bool.and_eq_true]
  exact ⟨zok_147_0, zok_147_1⟩
theorem zok_148 : zCkM zm_148 = true := by decide +kernel
theorem zok_149 : zCkM zm_149 = true := by decide +kernel
theorem zok_150 : zCkM zm_150 = true := by decide +kernel
theorem zok_151_0 : ze_151_0.all (zCkE zm_151) = true := by decide +kernel
