theorem zokg_0 : ∀ m ∈ zms_0, zCkM m = true := List.forall_mem_cons.mpr ⟨zok_0, List.forall_mem_cons.mpr ⟨zok_1, List.forall_mem_cons.mpr ⟨zok_2, List.forall_mem_cons.mpr ⟨zok_3, List.forall_mem_cons.mpr ⟨zok_4, List.forall_mem_cons.mpr ⟨zok_5, List.forall_mem_cons.mpr ⟨zok_6, List.forall_mem_cons.mpr ⟨zok_7, List.forall_mem_cons.mpr ⟨zok_8, List.forall_mem_cons.mpr ⟨zok_9, List.forall_mem_cons.mpr ⟨zok_10, List.forall_mem_cons.mpr ⟨zok_11, List.forall_mem_cons.mpr ⟨zok_12, List.forall_mem_cons.mpr ⟨zok_13, List.forall_mem_cons.mpr ⟨zok_14, List.forall_mem_cons.mpr ⟨zok_15, fun _ h => absurd h List.not_mem_nil⟩⟩⟩⟩⟩⟩⟩⟩⟩⟩⟩⟩⟩⟩⟩⟩
theorem zokg_1 : ∀ m ∈ zms_1, zCkM m = true := List.forall_mem_cons.mpr ⟨zok_16, List.forall_mem_cons.mpr ⟨zok_17, List.forall_mem_cons.mpr ⟨zok_18, List.forall_mem_cons.mpr ⟨zok_19, List.forall_mem_cons.mpr ⟨zok_20, List.forall_mem_cons.mpr ⟨zok_21, List.forall_mem_cons.mpr ⟨zok_22, List.forall_mem_cons.mpr ⟨zok_23, List.forall_mem_cons.mpr ⟨zok_24, List.forall_mem_cons.mpr ⟨zok_25, List.forall_mem_cons.mpr ⟨zok_26, List.forall_mem_cons.mpr ⟨zok_27, List.forall_mem_cons.mpr ⟨zok_28, List.forall_mem_cons.mpr ⟨zok_29, List.forall_mem_cons.mpr ⟨zok_30, List.forall_mem_cons.mpr ⟨zok_31, fun _ h => absurd h List.not_mem_nil⟩⟩⟩⟩⟩⟩⟩⟩⟩⟩⟩⟩⟩⟩⟩⟩
theorem zokg_2 : ∀ m ∈ zms_2, zCkM m = true := List.forall_mem_cons.mpr ⟨zok_32, List.forall_mem_cons.mpr ⟨zok_33, List.forall_mem_cons.mpr ⟨zok_34, List.forall_mem_cons.mpr ⟨zok_35, List.forall_mem_cons.mpr ⟨zok_36, List.forall_mem_cons.mpr ⟨zok_37, List.forall_mem_cons.mpr ⟨zok_38, List.forall_mem_cons.mpr ⟨zok_39, List.forall_mem_cons.mpr ⟨zok_40, List.forall_mem_cons.mpr ⟨zok_41, List.forall_mem_cons.mpr ⟨zok_42, List.forall_mem_cons.mpr ⟨zok_43, List.forall_mem_cons.mpr ⟨zok_44, List.forall_mem_cons.mpr ⟨zok_45, List.forall_mem_cons.mpr ⟨zok_46, List.forall_mem_cons.mpr ⟨zok_47, fun _ h => absurd h List.not_mem_nil⟩⟩⟩⟩⟩⟩⟩⟩⟩⟩⟩⟩⟩⟩⟩⟩
theorem zokg_3 : ∀ m ∈ zms_3, zCkM m = true := List.forall_mem_cons.mpr ⟨zok_48, List.forall_mem_cons.mpr ⟨zok_49, List.forall_mem_cons.mpr ⟨zok_50, List.forall_mem_cons.mpr ⟨zok_51, List.forall_mem_cons.mpr ⟨zok_52, List.forall_mem_cons.mpr ⟨zok_53, List.forall_mem_cons.mpr ⟨zok_54, List.forall_mem_cons.mpr ⟨zok_55, List.forall_mem_cons.mpr ⟨zok_56, List.forall_mem_cons.mpr ⟨zok_57, List.forall_mem_cons.mpr ⟨zok_58, List.forall_mem_cons.mpr ⟨zok_59, List.forall_mem_cons.mpr ⟨zok_60, List.forall_mem_cons.mpr ⟨zok_61, List.forall_mem_cons.mpr ⟨zok_62, List.forall_mem_cons.mpr ⟨zok_63, fun _ h => absurd h List.not_mem_nil⟩⟩⟩⟩⟩⟩⟩⟩⟩⟩⟩⟩⟩⟩⟩⟩
theorem zokg_4 : ∀ m ∈ zms_4, zCkM m = true := List.forall_mem_cons.mpr ⟨zok_64, List.forall_mem_cons.mpr ⟨zok_65, List.forall_mem_cons.mpr ⟨zok_66, List.forall_mem_cons.mpr ⟨zok_67, List.forall_mem_cons.mpr ⟨zok_68, List.forall_mem_cons.mpr ⟨zok_69, List.forall_mem_cons.mpr ⟨zok_70, List.forall_mem_cons.mpr ⟨zok_71, List.forall_mem_cons.mpr ⟨zok_72, List.forall_mem_cons.mpr ⟨zok_73, List.forall_mem_cons.mpr ⟨zok_74, List.forall_mem_cons.mpr ⟨zok_75, List.forall_mem_cons.mpr ⟨zok_76, List.forall_mem_cons.mpr ⟨zok_77, List.forall_mem_cons.mpr ⟨zok_78, List.forall_mem_cons.mpr ⟨zok_79, fun _ h => absurd h List.not_mem_nil⟩⟩⟩⟩⟩⟩⟩⟩⟩⟩⟩⟩⟩⟩⟩⟩
theorem zokg_5 : ∀ m ∈ zms_5, zCkM m = true := List.forall_mem_cons.mpr ⟨zok_80, List.forall_mem_cons.mpr ⟨zok_81, List.forall_mem_cons.mpr ⟨zok_82, List.forall_mem_cons.mpr ⟨zok_83, List.forall_mem_cons.mpr ⟨zok_84, List.forall_mem_cons.mpr ⟨zok_85, List.forall_mem_cons.mpr ⟨zok_86, List.forall_mem_cons.mpr ⟨zok_87, List.forall_mem_cons.mpr ⟨zok_88, List.forall_mem_cons.mpr ⟨zok_89, List.forall_mem_cons.mpr ⟨zok_90, List.forall_mem_cons.mpr ⟨zok_91, List.forall_mem_cons.mpr ⟨zok_92, List.forall_mem_cons.mpr ⟨zok_93, List.forall_mem_cons.mpr ⟨zok_94, List.forall_mem_cons.mpr ⟨zok_95, fun _ h => absurd h List.not_mem_nil⟩⟩⟩⟩⟩⟩⟩⟩⟩⟩⟩⟩⟩⟩⟩⟩
theorem zokg_6 : ∀ m ∈ zms_6, zCkM m = true := List.forall_mem_cons.mpr ⟨zok_96, List.forall_mem_cons.mpr ⟨zok_97, List.forall_mem_cons.mpr ⟨zok_98, List.forall_mem_cons.mpr ⟨zok_99, List.forall_mem_cons.mpr ⟨zok_100, List.forall_mem_cons.mpr ⟨zok_101, List.forall_mem_cons.mpr ⟨zok_102, List.forall_mem_cons.mpr ⟨zok_103, List.forall_mem_cons.mpr ⟨zok_104, List.forall_mem_cons.mpr ⟨zok_105, List.forall_mem_cons.mpr ⟨zok_106, List.forall_mem_cons.mpr ⟨zok_107, List.forall_mem_cons.mpr ⟨zok_108, List.forall_mem_cons.mpr ⟨zok_109, List.forall_mem_cons.mpr ⟨zok_110, List.forall_mem_cons.mpr ⟨zok_111, fun _ h => absurd h List.not_mem_nil⟩⟩⟩⟩⟩⟩⟩⟩⟩⟩⟩⟩⟩⟩⟩⟩
theorem zokg_7 : ∀ m ∈ zms_7, zCkM m = true := List.forall_mem_cons.mpr ⟨zok_112, List.forall_mem_cons.mpr ⟨zok_113, List.forall_mem_cons.mpr ⟨zok_114, List.forall_mem_cons.mpr ⟨zok_115, List.forall_mem_cons.mpr ⟨zok_116, List.forall_mem_cons.mpr ⟨zok_117, List.forall_mem_cons.mpr ⟨zok_118, List.forall_mem_cons.mpr ⟨zok_119, List.forall_mem_cons.mpr ⟨zok_120, List.forall_mem_cons.mpr ⟨zok_121, List.forall_mem_cons.mpr ⟨zok_122, List.forall_mem_cons.mpr ⟨zok_123, List.forall_mem_cons.mpr ⟨zok_124, List.forall_mem_cons.mpr ⟨zok_125, List.forall_mem_cons.mpr ⟨zok_126, List.forall_mem_cons.mpr ⟨zok_127, fun _ h => absurd h List.not_mem_nil⟩⟩⟩⟩⟩⟩⟩⟩⟩⟩⟩⟩⟩⟩⟩⟩
theorem zokg_8 : ∀ m ∈ zms_8, zCkM m = true := List.forall_mem_cons.mpr ⟨zok_128, List.forall_mem_cons.mpr ⟨zok_129, List.forall_mem_cons.mpr ⟨zok_130, List.forall_mem_cons.mpr ⟨zok_131, List.forall_mem_cons.mpr ⟨zok_132, List.forall_mem_cons.mpr ⟨zok_133, List.forall_mem_cons.mpr ⟨zok_134, List.forall_mem_cons.mpr ⟨zok_135, List.forall_mem_cons.mpr ⟨zok_136, List.forall_mem_cons.mpr ⟨zok_137, List.forall_mem_cons.mpr ⟨zok_138, List.forall_mem_cons.mpr ⟨zok_139, List.forall_mem_cons.mpr ⟨zok_140, List.forall_mem_cons.mpr ⟨zok_141, List.forall_mem_cons.mpr ⟨zok_142, List.forall_mem_cons.mpr ⟨zok_143, fun _ h => absurd h List.not_mem_nil⟩⟩⟩⟩⟩⟩⟩⟩⟩⟩⟩⟩⟩⟩⟩⟩
theorem zokg_9 : ∀ m ∈ zms_9, zCkM m = true := List.forall_mem_cons.mpr ⟨zok_144, List.forall_mem_cons.mpr ⟨zok_145, List.forall_mem_cons.mpr ⟨zok_146, List.forall_mem_cons.mpr ⟨zok_147, List.forall_mem_cons.mpr ⟨zok_148, List.forall_mem_cons.mpr ⟨zok_149, List.forall_mem_cons.mpr ⟨zok_150, List.forall_mem_cons.mpr ⟨zok_151, List.forall_mem_cons.mpr ⟨zok_152, List.forall_mem_cons.mpr ⟨zok_153, List.forall_mem_cons.mpr ⟨zok_154, List.forall_mem_cons.mpr ⟨zok_155, List.forall_mem_cons.mpr ⟨zok_156, List.forall_mem_cons.mpr ⟨zok_157, List.forall_mem_cons.mpr ⟨zok_158, List.forall_mem_cons.mpr ⟨zok_159, fun _ h => absurd h List.not_mem_nil⟩⟩⟩⟩⟩⟩⟩⟩⟩⟩⟩⟩⟩⟩⟩⟩
theorem zokg_10 : ∀ m ∈ zms_10, zCkM m = true := List.forall_mem_cons.mpr ⟨zok_160, List.forall_mem_cons.mpr ⟨zok_161, List.forall_mem_cons.mpr ⟨zok_162, List.forall_mem_cons.mpr ⟨zok_163, List.forall_mem_cons.mpr ⟨zok_164, List.forall_mem_cons.mpr ⟨zok_165, List.forall_mem_cons.mpr ⟨zok_166, List.forall_mem_cons.mpr ⟨zok_167, List.forall_mem_cons.mpr ⟨zok_168, List.forall_mem_cons.mpr ⟨zok_169, List.forall_mem_cons.mpr ⟨zok_170, List.forall_mem_cons.mpr ⟨zok_171, List.forall_mem_cons.mpr ⟨zok_172, List.forall_mem_cons.mpr ⟨zok_173, List.forall_mem_cons.mpr ⟨zok_174, List.forall_mem_cons.mpr ⟨zok_175, fun _ h => absurd h List.not_mem_nil⟩⟩⟩⟩⟩⟩⟩⟩⟩⟩⟩⟩⟩⟩⟩⟩
theorem zokg_11 : ∀ m ∈ zms_11, zCkM m = true := List.forall_mem_cons.mpr ⟨zok_176, List.forall_mem_cons.mpr ⟨zok_177, List.forall_mem_cons.mpr ⟨zok_178, List.forall_mem_cons.mpr ⟨zok_179, List.forall_mem_cons.mpr ⟨zok_180, List.forall_mem_cons.mpr ⟨zok_181, List.forall_mem_cons.mpr ⟨zok_182, List.forall_mem_cons.mpr ⟨zok_183, List.forall_mem_cons.mpr ⟨zok_184, List.forall_mem_cons.mpr ⟨zok_185, List.forall_mem_cons.mpr ⟨zok_186, List.forall_mem_cons.mpr ⟨zok_187, List.forall_mem_cons.mpr ⟨zok_188, List.forall_mem_cons.mpr ⟨zok_189, List.forall_mem_cons.mpr ⟨zok_190, List.forall_mem_cons.mpr ⟨zok_191, fun _ h => absurd h List.not_mem_nil⟩⟩⟩⟩⟩⟩⟩⟩⟩⟩⟩⟩⟩⟩⟩⟩
theorem zokg_12 : ∀ m ∈ zms_12, zCkM m = true := List.forall_mem_cons.mpr ⟨zok_192, List.forall_mem_cons.mpr ⟨zok_193, List.forall_mem_cons.mpr ⟨zok_194, List.forall_mem_cons.mpr ⟨zok_195, List.forall_mem_cons.mpr ⟨zok_196, List.forall_mem_cons.mpr ⟨zok_197, List.forall_mem_cons.mpr ⟨zok_198, List.forall_mem_cons.mpr ⟨zok_199, List.forall_mem_cons.mpr ⟨zok_200, List.forall_mem_cons.mpr ⟨zok_201, List.forall_mem_cons.mpr ⟨zok_202, List.forall_mem_cons.mpr ⟨zok_203, List.forall_mem_cons.mpr ⟨zok_204, List.forall_mem_cons.mpr ⟨zok_205, List.forall_mem_cons.mpr ⟨zok_206, List.forall_mem_cons.mpr ⟨zok_207, fun _ h => absurd h List.not_mem_nil⟩⟩⟩⟩⟩⟩⟩⟩⟩⟩⟩⟩⟩⟩⟩⟩
theorem zokg_13 : ∀ m ∈ zms_13, zCkM m = true := List.forall_mem_cons.mpr ⟨zok_208, List.forall_mem_cons.mpr ⟨zok_209, List.forall_mem_cons.mpr ⟨zok_210, List.forall_mem_cons.mpr ⟨zok_211, List.forall_mem_cons.mpr ⟨zok_212, List.forall_mem_cons.mpr ⟨zok_213, List.forall_mem_cons.mpr ⟨zok_214, List.forall_mem_cons.mpr ⟨zok_215, List.forall_mem_cons.mpr ⟨zok_216, List.forall_mem_cons.mpr ⟨zok_217, List.forall_mem_cons.mpr ⟨zok_218, List.forall_mem_cons.mpr ⟨zok_219, List.forall_mem_cons.mpr ⟨zok_220, List.forall_mem_cons.mpr ⟨zok_221, List.forall_mem_cons.mpr ⟨zok_222, List.forall_mem_cons.mpr ⟨zok_223, fun _ h => absurd h List.not_mem_nil⟩⟩⟩⟩⟩⟩⟩⟩⟩⟩⟩⟩⟩⟩⟩⟩
theorem zokg_14 : ∀ m ∈ zms_14, zCkM m = true := List.forall_mem_cons.mpr ⟨zok_224, List.forall_mem_cons.mpr ⟨zok_225, List.forall_mem_cons.mpr ⟨zok_226, List.forall_mem_cons.mpr ⟨zok_227, List.forall_mem_cons.mpr ⟨zok_228, List.forall_mem_cons.mpr ⟨zok_229, List.forall_mem_cons.mpr ⟨zok_230, List.forall_mem_cons.mpr ⟨zok_231, List.forall_mem_cons.mpr ⟨zok_232, List.forall_mem_cons.mpr ⟨zok_233, List.forall_mem_cons.mpr ⟨zok_234, List.forall_mem_cons.mpr ⟨zok_235, List.forall_mem_cons.mpr ⟨zok_236, List.forall_mem_cons.mpr ⟨zok_237, fun _ h => absurd h List.not_mem_nil⟩⟩⟩⟩⟩⟩⟩⟩⟩⟩⟩⟩⟩⟩
theorem zok_all : ∀ m ∈ zms, zCkM m = true := by
  unfold zms
  exact List.forall_mem_append.mpr ⟨zokg_0, List.forall_mem_append.mpr ⟨zokg_1, List.forall_mem_append.mpr ⟨zokg_2, List.forall_mem_append.mpr ⟨zokg_3, List.forall_mem_append.mpr ⟨zokg_4, List.forall_mem_append.mpr ⟨zokg_5, List.forall_mem_append.mpr ⟨zokg_6, List.forall_mem_append.mpr ⟨zokg_7, List.forall_mem_append.mpr ⟨zokg_8, List.forall_mem_append.mpr ⟨zokg_9, List.forall_mem_append.mpr ⟨zokg_10, List.forall_mem_append.mpr ⟨zokg_11, List.forall_mem_append.mpr ⟨zokg_12, List.forall_mem_append.mpr ⟨zokg_13, zokg_14⟩⟩⟩⟩⟩⟩⟩⟩⟩⟩⟩⟩⟩⟩
theorem zok_mid (mid : Nat) : zCkM (zmOf mid) = true := by
  unfold zmOf
  rw [List.getD_eq_getElem?_getD]
  cases h : zms[mid]? with
  | none => exact zok_all _ (List.mem_of_getElem? (i := 0) rfl)
  | some m => exact zok_all _ (List.mem_of_getElem? h)
theorem zfind_mem : ∀ (es : List zE) (pc : Nat) (r : Instr × Nat × List Nat), zfind pc es = some r → (pc, r) ∈ es
  | [], _, _, h => by cases h
  | (q, r0) :: t, pc, r, h => by
    unfold zfind at h
    by_cases e : pc = q
    · rw [if_pos e] at h
      cases h
      rw [e]
      exact List.mem_cons_self
    · rw [if_neg e] at h
      exact List.mem_cons_of_mem _ (zfind_mem t pc r h)
/-- what a row of the code tables says -/
def zIn (mid pc pc' : Nat) (i : Instr) (len : Nat) (a : List Nat) : Prop := zcode mid pc = some (i, len, a) ∧ pc + len = pc'
theorem zIn.ck {mid pc pc' : Nat} {i : Instr} {len : Nat} {a : List Nat} (h : zIn mid pc pc' i len a) : decode (zb mid) pc = .ok (i, len) ∧ zCkI (zy mid).cls (zy mid).name (zf mid) (zq mid) pc i a = true := by
  have h1 := List.all_eq_true.mp (zok_mid mid) _ (zfind_mem _ _ _ h.1)
  simp only [zCkE, Bool.and_eq_true, decide_eq_true_eq] at h1
  exact h1
theorem zIn.dec {mid pc pc' : Nat} {i : Instr} {len : Nat} {a : List Nat} (h : zIn mid pc pc' i len a) : decode (zb mid) pc = .ok (i, len) := h.ck.1
theorem zpl : ∀ mid, plainName (zy mid).cls = true := by
  have h : ∀ m ∈ zms, plainName m.1.cls = true := by decide +kernel
  intro mid
  show plainName (zmOf mid).1.cls = true
  unfold zmOf
  rw [List.getD_eq_getElem?_getD]
  cases h2 : zms[mid]? with
  | none => exact h _ (List.mem_of_getElem? (i := 0) rfl)
  | some m => exact h _ (List.mem_of_getElem? h2)
/-- the classes -/
def zty (ci : Nat) : Nat → FieldType := [tyX0, tyX1, tyX2, tyX3, tyX4, tyX5, tyX6, tyX7, tyX8, tyX9, tyX10, tyX11].getD ci tyX0
theorem zcl_ws : ∀ ci, ci < 12 → ∀ w ∈ u_ws (zcl ci).1 (zcl ci).2.1 (zcl ci).2.2, w ∈ zbig := by
  have h : ∀ ci, ci < 12 → (u_ws (zcl ci).1 (zcl ci).2.1 (zcl ci).2.2).all (fun w => decide (w ∈ lw_tbl) && goodWord w) = true := by decide +kernel
  intro ci hc w hw
  have h1 := List.all_eq_true.mp (h ci hc) w hw
  simp only [Bool.and_eq_true, decide_eq_true_eq] at h1
  exact List.mem_filter.mpr h1
theorem zcl_ty : ∀ ci, ci < 12 → ∀ k, k < (zcl ci).2.2 → parseFieldDescriptor ((zcl ci).2.1 k).2.2.1 = some (zty ci k) := by decide +kernel
theorem zcl_nm : ∀ ci, ci < 12 → ∀ a, a < (zcl ci).2.2 → ∀ b, b < (zcl ci).2.2 → a ≠ b → ((zcl ci).2.1 a).2.1 ≠ ((zcl ci).2.1 b).2.1 := by decide +kernel
theorem zcl_at : ∀ ci, ci < 12 → vwCl[ci]? = some (zcl ci) := by
  intro ci h
  unfold zcl
  rw [List.getD_eq_getElem?_getD, List.getElem?_eq_getElem h]
  rfl
theorem zcl_inst : ∀ ci, ci < 12 → ∃ n, Cond.instantiable (zcl ci).1 n ∈ lw_tbl := by
  have h : ∀ ci, ci < 12 → Cond.instantiable (zcl ci).1 (zcl ci).2.2 ∈ lw_tbl := by decide +kernel
  exact fun ci hc => ⟨_, h ci hc⟩
