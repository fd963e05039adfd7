theorem zok_54 : zCkM zm_54 = true := by decide +kernel
theorem zok_55 : zCkM zm_55 = true := by decide +kernel
theorem zok_56 : zCkM zm_56 = true := by decide +kernel
theorem zok_57 : zCkM zm_57 = true := by decide +kernel
theorem zok_58 : zCkM zm_58 = true := by decide +kernel
theorem zok_59 : zCkM zm_59 = true := by decide +kernel
theorem zok_60 : zCkM zm_60 = true := by decide +kernel
theorem zok_61 : zCkM zm_61 = true := by decide +kernel
theorem zok_62 : zCkM zm_62 = true := by decide +kernel
theorem zok_63 : zCkM zm_63 = true := by decide +kernel
theorem zok_64 : zCkM zm_64 = true := by decide +kernel
theorem zok_65 : zCkM zm_65 = true := by decide +kernel
theorem zok_66 : zCkM zm_66 = true := by decide +kernel
theorem zok_67 : zCkM zm_67 = true := by decide +kernel
theorem zok_68 : zCkM zm_68 = true := by decide +kernel
theorem zok_69 : zCkM zm_69 = true := by decide +kernel
theorem zok_70_0 : ze_70_0.all (zCkE zm_70) = true := by decide +kernel
theorem zok_70_1 : ze_70_1.all (zCkE zm_70) = true := by decide +kernel
theorem zok_70_2 : ze_70_2.all (zCkE zm_70) = true := by decide +kernel
theorem zok_70 : zCkM zm_70 = true := by
  show List.all ((ze_70_0 ++ (ze_70_1 ++ (ze_70_2)))) (zCkE zm_70) = true
  simp only [List.all_append, Bool.and_eq_true]
  exact ⟨zok_70_0, ⟨zok_70_1, zok_70_2⟩⟩
theorem zok_71 : zCkM zm_71 = true := by decide +kernel
theorem zok_72 : zCkM zm_72 = true := by decide +kernel
theorem zok_73_0 : ze_73_0.all (zCkE zm_73) = true := by decide +kernel
theorem zok_73_1 : ze_73_1.all (zCkE zm_73) = true := by decide +kernel
theorem zok_73 : zCkM zm_73 = true := by
  show List.all ((ze_73_0 ++ (ze_73_1))) (zCkE zm_73) = true
  simp only [List.all_append, Bool.and_eq_true]
  exact ⟨zok_73_0, zok_73_1⟩
theorem zok_74 : zCkM zm_74 = true := by decide +kernel
theorem zok_75 : zCkM zm_75 = true := by decide +kernel
theorem zok_76 : zCkM zm_76 = true := by decide +kernel
theorem zok_77 : zCkM zm_77 = true := by decide +kernel
theorem zok_78_0 : ze_78_0.all (zCkE zm_78) = true := by decide +kernel
theorem zok_78_1 : ze_78_1.all (zCkE zm_78) = true := by decide +kernel
theorem zok_78 : zCkM zm_78 = true := by
  show List.all ((ze_78_0 ++ (ze_78_1))) (zCkE zm_78) = true
  simp only [List.all_append, Bool.and_eq_true]
  exact ⟨zok_78_0, zok_78_1⟩
theorem zok_79 : zCkM zm_79 = true := by decide +kernel
theorem zok_80 : zCkM zm_80 = true := by decide +kernel
theorem zok_81 : zCkM zm_81 = true := by decide +kernel
theorem zok_82 : zCkM zm_82 = true := by decide +kernel
theorem zok_83 : zCkM zm_83 = true := by decide +kernel
theorem zok_84 : zCkM zm_84 = true := by decide +kernel
theorem zok_85 : zCkM zm_85 = true := by decide +kernel
theorem zok_86 : zCkM zm_86 = true := by decide +kernel
theorem zok_87 : zCkM zm_87 = true := by decide +kernel
theorem zok_88 : zCkM zm_88 = true := by decide +kernel
theorem zok_89 : zCkM zm_89 = true := by decide +kernel
theorem zok_90 : zCkM zm_90 = true := by decide +kernel
theorem zok_91 : zCkM zm_91 = true := by decide +kernel
theorem zok_92 : zCkM zm_92 = true := by decide +kernel
theorem zok_93 : zCkM zm_93 = true := by decide +kernel
theorem zok_94 : zCkM zm_94 = true := by decide +kernel
theorem zok_95 : zCkM zm_95 = true := by decide +kernel
theorem zok_96 : zCkM zm_96 = true := by decide +kernel
theorem zok_97 : zCkM zm_97 = true := by decide +kernel
theorem zok_98 : zCkM zm_98 = true := by decide +kernel
theorem zok_99 : zCkM zm_99 = true := by decide +kernel
theorem zok_100 : zCkM zm_100 = true := by decide +kernel
theorem zok_101 : zCkM zm_101 = true := by decide +kernel
theorem zok_102 : zCkM zm_102 = true := by decide +kernel
theorem zok_103 : zCkM zm_103 = true := by decide +kernel
theorem zok_104 : zCkM zm_104 = true := by decide +kernel
theorem zok_105_0 : ze_105_0.all (zCkE zm_105) = true := by decide +kernel
theorem zok_105_1 : ze_105_1.all (zCkE zm_105) = true := by decide +kernel
theorem zok_105 : zCkM zm_105 = true := by
  show List.all ((ze_105_0 ++ (ze_105_1))) (zCkE zm_105) = true
  simp only [List.all_append, Bool.and_eq_true]
  exact ⟨zok_105_0, zok_105_1⟩
theorem zok_106 : zCkM zm_106 = true := by decide +kernel
theorem zok_107 : zCkM zm_107 = true := by decide +kernel
theorem zok_108 : zCkM zm_108 = true := by decide +kernel
theorem zok_109 : zCkM zm_109 = true := by decide +kernel
theorem zok_110_0 : ze_110_0.all (zCkE zm_110) = true := by decide +kernel
theorem zok_110_1 : ze_110_1.all (zCkE zm_110) = true := by decide +kernel
theorem zok_110 : zCkM zm_110 = true := by
  show List.all ((ze_110_0 ++ (ze_110_1))) (zCkE zm_110) = true
  simp only [List.all_append, Bool.and_eq_true]
  exact ⟨zok_110_0, zok_110_1⟩
theorem zok_111_0 : ze_111_0.all (zCkE zm_111) = true := by decide +kernel
theorem zok_111_1 : ze_111_1.all (zCkE zm_111) = true := by decide +kernel
