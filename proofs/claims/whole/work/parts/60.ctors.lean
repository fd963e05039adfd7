/-! THE CONSTRUCTORS: the class -/
section MADE
variable {G : zG}
theorem i_X8_init_2 {w : zW} {Q : Option Value → zW → Prop} (s : zST 3 0 0 w) (kk : ∀ w, zST 5 2 6 w → Q none w) : ZM G 54 [.ref 2] w 2 30 Q := by
  refine ZS.ent [some (.ref 2)] vl_54 rfl ?_
  refine ZW.aload_n k_54_0 rfl ?_
  refine ZW.oinit k_54_1 (by decide) (zlt rfl) ?_
  refine ZW.aload_n k_54_4 rfl ?_
  refine ZW.iconst (nI 0) k_54_5 (by decide) ?_
  refine ZS.putI 1 s k_54_6 rfl (zlt rfl) m_2 (zlt rfl) (by decide) ⟨rfl, rfl⟩ (fun w s => ?_)
  refine ZW.aload_n k_54_9 rfl ?_
  refine ZW.bipush (nI 20) k_54_10 (by decide) ?_
  refine ZS.putI 2 s k_54_12 rfl (zlt rfl) m_2 (zlt rfl) (by decide) ⟨rfl, rfl⟩ (fun w s => ?_)
  refine ZW.aload_n k_54_15 rfl ?_
  refine ZW.bipush (nI 8) k_54_16 (by decide) ?_
  refine ZS.putI 3 s k_54_18 rfl (zlt rfl) m_2 (zlt rfl) (by decide) ⟨rfl, rfl⟩ (fun w s => ?_)
  refine ZW.aload_n k_54_21 rfl ?_
  refine ZW.iconst (nI 0) k_54_22 (by decide) ?_
  refine ZS.putI 4 s k_54_23 rfl (zlt rfl) m_2 (zlt rfl) (by decide) ⟨rfl, rfl⟩ (fun w s => ?_)
  refine ZW.aload_n k_54_26 rfl ?_
  refine ZW.iconst (nI 0) k_54_27 (by decide) ?_
  refine ZS.putI 5 s k_54_28 rfl (zlt rfl) m_2 (zlt rfl) (by decide) ⟨rfl, rfl⟩ (fun w s => ?_)
  refine ZW.aload_n k_54_31 rfl ?_
  refine ZW.iconst (nI 0) k_54_32 (by decide) ?_
  refine ZS.putZ 6 s k_54_33 rfl (zlt rfl) (by decide) m_2 (zlt rfl) (by decide) ⟨rfl, rfl⟩ (fun w s => ?_)
  refine ZW.aload_n k_54_36 rfl ?_
  refine ZW.iconst (nI 5) k_54_37 (by decide) ?_
  refine ZS.newa 4 1 25 s k_54_38 (zlt rfl) (zlt rfl) rfl m_3 (by decide) rfl rfl rfl rfl (fun w s => ?_)
  refine ZS.putR 1 s k_54_40 rfl (zlt rfl) (fun _ => rfl) (fun _ => rfl) m_2 (zlt rfl) (zlt rfl) ⟨rfl, rfl⟩ (fun w s => ?_)
  refine ZW.aload_n k_54_43 rfl ?_
  refine ZW.bipush (nI 25) k_54_44 (by decide) ?_
  refine ZS.newa 5 0 0 s k_54_46 (zlt rfl) (zlt rfl) rfl m_4 (by decide) rfl rfl rfl rfl (fun w s => ?_)
  refine ZS.putR 2 s k_54_48 rfl (zlt rfl) (fun _ => rfl) (fun _ => rfl) m_2 (zlt rfl) (zlt rfl) ⟨rfl, rfl⟩ (fun w s => ?_)
  exact ZW.vret k_54_51 vr_54 (kk _ s)
theorem i_X7_init_5 {w : zW} {Q : Option Value → zW → Prop} (s : zST 6 3 6 w) (kk : ∀ w, zST 9 6 8 w → Q none w) : ZM G 47 [.ref 5] w 3 18 Q := by
  refine ZS.ent [some (.ref 5)] vl_47 rfl ?_
  refine ZW.aload_n k_47_0 rfl ?_
  refine ZW.oinit k_47_1 (by decide) (zlt rfl) ?_
  refine ZW.aload_n k_47_4 rfl ?_
  refine ZW.iconst (nI 0) k_47_5 (by decide) ?_
  refine ZS.putI 7 s k_47_6 rfl (zlt rfl) m_5 (zlt rfl) (by decide) ⟨rfl, rfl⟩ (fun w s => ?_)
  refine ZW.aload_n k_47_9 rfl ?_
  refine ZW.iconst (nI 0) k_47_10 (by decide) ?_
  refine ZS.putI 8 s k_47_11 rfl (zlt rfl) m_5 (zlt rfl) (by decide) ⟨rfl, rfl⟩ (fun w s => ?_)
  refine ZW.aload_n k_47_14 rfl ?_
  refine ZW.bipush (nI 6) k_47_15 (by decide) ?_
  refine ZS.newa 7 2 12 s k_47_17 (zlt rfl) (zlt rfl) rfl m_6 (by decide) rfl rfl rfl rfl (fun w s => ?_)
  refine ZS.putR 4 s k_47_19 rfl (zlt rfl) (fun _ => rfl) (fun _ => rfl) m_5 (zlt rfl) (zlt rfl) ⟨rfl, rfl⟩ (fun w s => ?_)
  refine ZW.aload_n k_47_22 rfl ?_
  refine ZW.bipush (nI 6) k_47_23 (by decide) ?_
  refine ZS.newa 8 1 6 s k_47_25 (zlt rfl) (zlt rfl) rfl m_7 (by decide) rfl rfl rfl rfl (fun w s => ?_)
  refine ZS.putR 5 s k_47_27 rfl (zlt rfl) (fun _ => rfl) (fun _ => rfl) m_5 (zlt rfl) (zlt rfl) ⟨rfl, rfl⟩ (fun w s => ?_)
  refine ZW.aload_n k_47_30 rfl ?_
  refine ZW.bipush (nI 6) k_47_31 (by decide) ?_
  refine ZS.newa 9 0 0 s k_47_33 (zlt rfl) (zlt rfl) rfl m_8 (by decide) rfl rfl rfl rfl (fun w s => ?_)
  refine ZS.putR 6 s k_47_35 rfl (zlt rfl) (fun _ => rfl) (fun _ => rfl) m_5 (zlt rfl) (zlt rfl) ⟨rfl, rfl⟩ (fun w s => ?_)
  exact ZW.vret k_47_38 vr_47 (kk _ s)
theorem i_X2_init_9 {w : zW} {Q : Option Value → zW → Prop} (s : zST 10 7 8 w) (kk : ∀ w, zST 11 8 9 w → Q none w) : ZM G 8 [.ref 9] w 1 8 Q := by
  refine ZS.ent [some (.ref 9)] vl_8 rfl ?_
  refine ZW.aload_n k_8_0 rfl ?_
  refine ZW.oinit k_8_1 (by decide) (zlt rfl) ?_
  refine ZW.aload_n k_8_4 rfl ?_
  refine ZW.iconst (nI 0) k_8_5 (by decide) ?_
  refine ZS.putI 9 s k_8_6 rfl (zlt rfl) m_9 (zlt rfl) (by decide) ⟨rfl, rfl⟩ (fun w s => ?_)
  refine ZW.aload_n k_8_9 rfl ?_
  refine ZW.bipush (nI 8) k_8_10 (by decide) ?_
  refine ZS.newa 11 0 0 s k_8_12 (zlt rfl) (zlt rfl) rfl m_10 (by decide) rfl rfl rfl rfl (fun w s => ?_)
  refine ZS.putR 8 s k_8_14 rfl (zlt rfl) (fun _ => rfl) (fun _ => rfl) m_9 (zlt rfl) (zlt rfl) ⟨rfl, rfl⟩ (fun w s => ?_)
  exact ZW.vret k_8_17 vr_8 (kk _ s)
theorem i_X5_init_11 {w : zW} {Q : Option Value → zW → Prop} (s : zST 12 9 9 w) (kk : ∀ w, zST 14 11 10 w → Q none w) : ZM G 36 [.ref 11] w 2 12 Q := by
  refine ZS.ent [some (.ref 11)] vl_36 rfl ?_
  refine ZW.aload_n k_36_0 rfl ?_
  refine ZW.oinit k_36_1 (by decide) (zlt rfl) ?_
  refine ZW.aload_n k_36_4 rfl ?_
  refine ZW.iconst (nI 0) k_36_5 (by decide) ?_
  refine ZS.putI 10 s k_36_6 rfl (zlt rfl) m_11 (zlt rfl) (by decide) ⟨rfl, rfl⟩ (fun w s => ?_)
  refine ZW.aload_n k_36_9 rfl ?_
  refine ZW.bipush (nI 6) k_36_10 (by decide) ?_
  refine ZS.newa 13 1 6 s k_36_12 (zlt rfl) (zlt rfl) rfl m_12 (by decide) rfl rfl rfl rfl (fun w s => ?_)
  refine ZS.putR 10 s k_36_14 rfl (zlt rfl) (fun _ => rfl) (fun _ => rfl) m_11 (zlt rfl) (zlt rfl) ⟨rfl, rfl⟩ (fun w s => ?_)
  refine ZW.aload_n k_36_17 rfl ?_
  refine ZW.bipush (nI 6) k_36_18 (by decide) ?_
  refine ZS.newa 14 0 0 s k_36_20 (zlt rfl) (zlt rfl) rfl m_13 (by decide) rfl rfl rfl rfl (fun w s => ?_)
  refine ZS.putR 11 s k_36_22 rfl (zlt rfl) (fun _ => rfl) (fun _ => rfl) m_11 (zlt rfl) (zlt rfl) ⟨rfl, rfl⟩ (fun w s => ?_)
  exact ZW.vret k_36_25 vr_36 (kk _ s)
theorem i_X0_init_1 {w : zW} {Q : Option Value → zW → Prop} (s : zST 2 0 0 w) (kk : ∀ w, zST 14 12 10 w → Q none w) : ZM G 0 [.ref 1] w 12 86 Q := by
  refine ZS.ent [some (.ref 1)] vl_0 rfl ?_
  refine ZW.aload_n k_0_0 rfl ?_
  refine ZW.oinit k_0_1 (by decide) (zlt rfl) ?_
  refine ZW.aload_n k_0_4 rfl ?_
  refine ZS.new 3 11 78 s k_0_5 (zlt rfl) m_2 rfl rfl rfl rfl (fun w s => ?_)
  refine ZW.dup k_0_8 rfl ?_
  refine ZS.call 5 2 6 9 48 s k_0_9 (zlt rfl) (zlt rfl) (by decide) (by rw [vl_54]; decide) (fun Q1 => i_X8_init_2 s) ⟨rfl, zlt rfl⟩ rfl rfl (fun w s => ?_)
  refine ZS.putR 3 s k_0_12 rfl (zlt rfl) (fun _ => rfl) (fun _ => rfl) m_1 (zlt rfl) (zlt rfl) ⟨rfl, rfl⟩ (fun w s => ?_)
  refine ZW.aload_n k_0_15 rfl ?_
  refine ZS.new 6 8 43 s k_0_16 (zlt rfl) m_5 rfl rfl rfl rfl (fun w s => ?_)
  refine ZW.dup k_0_19 rfl ?_
  refine ZS.call 9 6 8 5 25 s k_0_20 (zlt rfl) (zlt rfl) (by decide) (by rw [vl_47]; decide) (fun Q1 => i_X7_init_5 s) ⟨rfl, zlt rfl⟩ rfl rfl (fun w s => ?_)
  refine ZS.putR 7 s k_0_23 rfl (zlt rfl) (fun _ => rfl) (fun _ => rfl) m_1 (zlt rfl) (zlt rfl) ⟨rfl, rfl⟩ (fun w s => ?_)
  refine ZW.aload_n k_0_26 rfl ?_
  refine ZS.new 10 4 23 s k_0_27 (zlt rfl) m_9 rfl rfl rfl rfl (fun w s => ?_)
  refine ZW.dup k_0_30 rfl ?_
  refine ZS.call 11 8 9 3 15 s k_0_31 (zlt rfl) (zlt rfl) (by decide) (by rw [vl_8]; decide) (fun Q1 => i_X2_init_9 s) ⟨rfl, zlt rfl⟩ rfl rfl (fun w s => ?_)
  refine ZS.putR 9 s k_0_34 rfl (zlt rfl) (fun _ => rfl) (fun _ => rfl) m_1 (zlt rfl) (zlt rfl) ⟨rfl, rfl⟩ (fun w s => ?_)
  refine ZW.aload_n k_0_37 rfl ?_
  refine ZS.new 12 2 12 s k_0_38 (zlt rfl) m_11 rfl rfl rfl rfl (fun w s => ?_)
  refine ZW.dup k_0_41 rfl ?_
  refine ZS.call 14 11 10 0 0 s k_0_42 (zlt rfl) (zlt rfl) (by decide) (by rw [vl_36]; decide) (fun Q1 => i_X5_init_11 s) ⟨rfl, zlt rfl⟩ rfl rfl (fun w s => ?_)
  refine ZS.putR 12 s k_0_45 rfl (zlt rfl) (fun _ => rfl) (fun _ => rfl) m_1 (zlt rfl) (zlt rfl) ⟨rfl, rfl⟩ (fun w s => ?_)
  exact ZW.vret k_0_48 vr_0 (kk _ s)
theorem i_X8_init_17 {w : zW} {Q : Option Value → zW → Prop} (s : zST 18 14 11 w) (kk : ∀ w, zST 20 16 17 w → Q none w) : ZM G 54 [.ref 17] w 2 30 Q := by
  refine ZS.ent [some (.ref 17)] vl_54 rfl ?_
  refine ZW.aload_n k_54_0 rfl ?_
  refine ZW.oinit k_54_1 (by decide) (zlt rfl) ?_
  refine ZW.aload_n k_54_4 rfl ?_
  refine ZW.iconst (nI 0) k_54_5 (by decide) ?_
  refine ZS.putI 12 s k_54_6 rfl (zlt rfl) m_17 (zlt rfl) (by decide) ⟨rfl, rfl⟩ (fun w s => ?_)
  refine ZW.aload_n k_54_9 rfl ?_
  refine ZW.bipush (nI 20) k_54_10 (by decide) ?_
  refine ZS.putI 13 s k_54_12 rfl (zlt rfl) m_17 (zlt rfl) (by decide) ⟨rfl, rfl⟩ (fun w s => ?_)
  refine ZW.aload_n k_54_15 rfl ?_
  refine ZW.bipush (nI 8) k_54_16 (by decide) ?_
  refine ZS.putI 14 s k_54_18 rfl (zlt rfl) m_17 (zlt rfl) (by decide) ⟨rfl, rfl⟩ (fun w s => ?_)
  refine ZW.aload_n k_54_21 rfl ?_
  refine ZW.iconst (nI 0) k_54_22 (by decide) ?_
  refine ZS.putI 15 s k_54_23 rfl (zlt rfl) m_17 (zlt rfl) (by decide) ⟨rfl, rfl⟩ (fun w s => ?_)
  refine ZW.aload_n k_54_26 rfl ?_
  refine ZW.iconst (nI 0) k_54_27 (by decide) ?_
  refine ZS.putI 16 s k_54_28 rfl (zlt rfl) m_17 (zlt rfl) (by decide) ⟨rfl, rfl⟩ (fun w s => ?_)
  refine ZW.aload_n k_54_31 rfl ?_
  refine ZW.iconst (nI 0) k_54_32 (by decide) ?_
  refine ZS.putZ 17 s k_54_33 rfl (zlt rfl) (by decide) m_17 (zlt rfl) (by decide) ⟨rfl, rfl⟩ (fun w s => ?_)
  refine ZW.aload_n k_54_36 rfl ?_
  refine ZW.iconst (nI 5) k_54_37 (by decide) ?_
  refine ZS.newa 19 1 25 s k_54_38 (zlt rfl) (zlt rfl) rfl m_18 (by decide) rfl rfl rfl rfl (fun w s => ?_)
  refine ZS.putR 15 s k_54_40 rfl (zlt rfl) (fun _ => rfl) (fun _ => rfl) m_17 (zlt rfl) (zlt rfl) ⟨rfl, rfl⟩ (fun w s => ?_)
  refine ZW.aload_n k_54_43 rfl ?_
  refine ZW.bipush (nI 25) k_54_44 (by decide) ?_
  refine ZS.newa 20 0 0 s k_54_46 (zlt rfl) (zlt rfl) rfl m_19 (by decide) rfl rfl rfl rfl (fun w s => ?_)
  refine ZS.putR 16 s k_54_48 rfl (zlt rfl) (fun _ => rfl) (fun _ => rfl) m_17 (zlt rfl) (zlt rfl) ⟨rfl, rfl⟩ (fun w s => ?_)
  exact ZW.vret k_54_51 vr_54 (kk _ s)
theorem i_X7_init_20 {w : zW} {Q : Option Value → zW → Prop} (s : zST 21 17 17 w) (kk : ∀ w, zST 24 20 19 w → Q none w) : ZM G 47 [.ref 20] w 3 18 Q := by
  refine ZS.ent [some (.ref 20)] vl_47 rfl ?_
  refine ZW.aload_n k_47_0 rfl ?_
  refine ZW.oinit k_47_1 (by decide) (zlt rfl) ?_
  refine ZW.aload_n k_47_4 rfl ?_
  refine ZW.iconst (nI 0) k_47_5 (by decide) ?_
  refine ZS.putI 18 s k_47_6 rfl (zlt rfl) m_20 (zlt rfl) (by decide) ⟨rfl, rfl⟩ (fun w s => ?_)
  refine ZW.aload_n k_47_9 rfl ?_
  refine ZW.iconst (nI 0) k_47_10 (by decide) ?_
  refine ZS.putI 19 s k_47_11 rfl (zlt rfl) m_20 (zlt rfl) (by decide) ⟨rfl, rfl⟩ (fun w s => ?_)
  refine ZW.aload_n k_47_14 rfl ?_
  refine ZW.bipush (nI 6) k_47_15 (by decide) ?_
  refine ZS.newa 22 2 12 s k_47_17 (zlt rfl) (zlt rfl) rfl m_21 (by decide) rfl rfl rfl rfl (fun w s => ?_)
  refine ZS.putR 18 s k_47_19 rfl (zlt rfl) (fun _ => rfl) (fun _ => rfl) m_20 (zlt rfl) (zlt rfl) ⟨rfl, rfl⟩ (fun w s => ?_)
  refine ZW.aload_n k_47_22 rfl ?_
  refine ZW.bipush (nI 6) k_47_23 (by decide) ?_
  refine ZS.newa 23 1 6 s k_47_25 (zlt rfl) (zlt rfl) rfl m_22 (by decide) rfl rfl rfl rfl (fun w s => ?_)
  refine ZS.putR 19 s k_47_27 rfl (zlt rfl) (fun _ => rfl) (fun _ => rfl) m_20 (zlt rfl) (zlt rfl) ⟨rfl, rfl⟩ (fun w s => ?_)
  refine ZW.aload_n k_47_30 rfl ?_
  refine ZW.bipush (nI 6) k_47_31 (by decide) ?_
  refine ZS.newa 24 0 0 s k_47_33 (zlt rfl) (zlt rfl) rfl m_23 (by decide) rfl rfl rfl rfl (fun w s => ?_)
  refine ZS.putR 20 s k_47_35 rfl (zlt rfl) (fun _ => rfl) (fun _ => rfl) m_20 (zlt rfl) (zlt rfl) ⟨rfl, rfl⟩ (fun w s => ?_)
  exact ZW.vret k_47_38 vr_47 (kk _ s)
theorem i_X2_init_24 {w : zW} {Q : Option Value → zW → Prop} (s : zST 25 21 19 w) (kk : ∀ w, zST 26 22 20 w → Q none w) : ZM G 8 [.ref 24] w 1 8 Q := by
  refine ZS.ent [some (.ref 24)] vl_8 rfl ?_
  refine ZW.aload_n k_8_0 rfl ?_
  refine ZW.oinit k_8_1 (by decide) (zlt rfl) ?_
  refine ZW.aload_n k_8_4 rfl ?_
  refine ZW.iconst (nI 0) k_8_5 (by decide) ?_
  refine ZS.putI 20 s k_8_6 rfl (zlt rfl) m_24 (zlt rfl) (by decide) ⟨rfl, rfl⟩ (fun w s => ?_)
  refine ZW.aload_n k_8_9 rfl ?_
  refine ZW.bipush (nI 8) k_8_10 (by decide) ?_
  refine ZS.newa 26 0 0 s k_8_12 (zlt rfl) (zlt rfl) rfl m_25 (by decide) rfl rfl rfl rfl (fun w s => ?_)
  refine ZS.putR 22 s k_8_14 rfl (zlt rfl) (fun _ => rfl) (fun _ => rfl) m_24 (zlt rfl) (zlt rfl) ⟨rfl, rfl⟩ (fun w s => ?_)
  exact ZW.vret k_8_17 vr_8 (kk _ s)
theorem i_X5_init_26 {w : zW} {Q : Option Value → zW → Prop} (s : zST 27 23 20 w) (kk : ∀ w, zST 29 25 21 w → Q none w) : ZM G 36 [.ref 26] w 2 12 Q := by
  refine ZS.ent [some (.ref 26)] vl_36 rfl ?_
  refine ZW.aload_n k_36_0 rfl ?_
  refine ZW.oinit k_36_1 (by decide) (zlt rfl) ?_
  refine ZW.aload_n k_36_4 rfl ?_
  refine ZW.iconst (nI 0) k_36_5 (by decide) ?_
  refine ZS.putI 21 s k_36_6 rfl (zlt rfl) m_26 (zlt rfl) (by decide) ⟨rfl, rfl⟩ (fun w s => ?_)
  refine ZW.aload_n k_36_9 rfl ?_
  refine ZW.bipush (nI 6) k_36_10 (by decide) ?_
  refine ZS.newa 28 1 6 s k_36_12 (zlt rfl) (zlt rfl) rfl m_27 (by decide) rfl rfl rfl rfl (fun w s => ?_)
  refine ZS.putR 24 s k_36_14 rfl (zlt rfl) (fun _ => rfl) (fun _ => rfl) m_26 (zlt rfl) (zlt rfl) ⟨rfl, rfl⟩ (fun w s => ?_)
  refine ZW.aload_n k_36_17 rfl ?_
  refine ZW.bipush (nI 6) k_36_18 (by decide) ?_
  refine ZS.newa 29 0 0 s k_36_20 (zlt rfl) (zlt rfl) rfl m_28 (by decide) rfl rfl rfl rfl (fun w s => ?_)
  refine ZS.putR 25 s k_36_22 rfl (zlt rfl) (fun _ => rfl) (fun _ => rfl) m_26 (zlt rfl) (zlt rfl) ⟨rfl, rfl⟩ (fun w s => ?_)
  exact ZW.vret k_36_25 vr_36 (kk _ s)
theorem i_X0_init_16 {w : zW} {Q : Option Value → zW → Prop} (s : zST 17 14 11 w) (kk : ∀ w, zST 29 26 21 w → Q none w) : ZM G 0 [.ref 16] w 12 86 Q := by
  refine ZS.ent [some (.ref 16)] vl_0 rfl ?_
  refine ZW.aload_n k_0_0 rfl ?_
  refine ZW.oinit k_0_1 (by decide) (zlt rfl) ?_
  refine ZW.aload_n k_0_4 rfl ?_
  refine ZS.new 18 11 78 s k_0_5 (zlt rfl) m_17 rfl rfl rfl rfl (fun w s => ?_)
  refine ZW.dup k_0_8 rfl ?_
  refine ZS.call 20 16 17 9 48 s k_0_9 (zlt rfl) (zlt rfl) (by decide) (by rw [vl_54]; decide) (fun Q1 => i_X8_init_17 s) ⟨rfl, zlt rfl⟩ rfl rfl (fun w s => ?_)
  refine ZS.putR 17 s k_0_12 rfl (zlt rfl) (fun _ => rfl) (fun _ => rfl) m_16 (zlt rfl) (zlt rfl) ⟨rfl, rfl⟩ (fun w s => ?_)
  refine ZW.aload_n k_0_15 rfl ?_
  refine ZS.new 21 8 43 s k_0_16 (zlt rfl) m_20 rfl rfl rfl rfl (fun w s => ?_)
  refine ZW.dup k_0_19 rfl ?_
  refine ZS.call 24 20 19 5 25 s k_0_20 (zlt rfl) (zlt rfl) (by decide) (by rw [vl_47]; decide) (fun Q1 => i_X7_init_20 s) ⟨rfl, zlt rfl⟩ rfl rfl (fun w s => ?_)
  refine ZS.putR 21 s k_0_23 rfl (zlt rfl) (fun _ => rfl) (fun _ => rfl) m_16 (zlt rfl) (zlt rfl) ⟨rfl, rfl⟩ (fun w s => ?_)
  refine ZW.aload_n k_0_26 rfl ?_
  refine ZS.new 25 4 23 s k_0_27 (zlt rfl) m_24 rfl rfl rfl rfl (fun w s => ?_)
  refine ZW.dup k_0_30 rfl ?_
  refine ZS.call 26 22 20 3 15 s k_0_31 (zlt rfl) (zlt rfl) (by decide) (by rw [vl_8]; decide) (fun Q1 => i_X2_init_24 s) ⟨rfl, zlt rfl⟩ rfl rfl (fun w s => ?_)
  refine ZS.putR 23 s k_0_34 rfl (zlt rfl) (fun _ => rfl) (fun _ => rfl) m_16 (zlt rfl) (zlt rfl) ⟨rfl, rfl⟩ (fun w s => ?_)
  refine ZW.aload_n k_0_37 rfl ?_
  refine ZS.new 27 2 12 s k_0_38 (zlt rfl) m_26 rfl rfl rfl rfl (fun w s => ?_)
  refine ZW.dup k_0_41 rfl ?_
  refine ZS.call 29 25 21 0 0 s k_0_42 (zlt rfl) (zlt rfl) (by decide) (by rw [vl_36]; decide) (fun Q1 => i_X5_init_26 s) ⟨rfl, zlt rfl⟩ rfl rfl (fun w s => ?_)
  refine ZS.putR 26 s k_0_45 rfl (zlt rfl) (fun _ => rfl) (fun _ => rfl) m_16 (zlt rfl) (zlt rfl) ⟨rfl, rfl⟩ (fun w s => ?_)
  exact ZW.vret k_0_48 vr_0 (kk _ s)
theorem i_X9_init_29 {w : zW} {Q : Option Value → zW → Prop} (s : zST 30 27 24 w) (kk : ∀ w, zST 31 28 27 w → Q none w) : ZM G 68 [.ref 29] w 1 160 Q := by
  refine ZS.ent [some (.ref 29)] vl_68 rfl ?_
  refine ZW.aload_n k_68_0 rfl ?_
  refine ZW.oinit k_68_1 (by decide) (zlt rfl) ?_
  refine ZW.aload_n k_68_4 rfl ?_
  refine ZW.sipush (nI 160) k_68_5 (by decide) ?_
  refine ZS.newa 31 0 0 s k_68_8 (zlt rfl) (zlt rfl) rfl m_30 (by decide) rfl rfl rfl rfl (fun w s => ?_)
  refine ZS.putR 28 s k_68_10 rfl (zlt rfl) (fun _ => rfl) (fun _ => rfl) m_29 (zlt rfl) (zlt rfl) ⟨rfl, rfl⟩ (fun w s => ?_)
  refine ZW.aload_n k_68_13 rfl ?_
  refine ZW.iconst (nI 0) k_68_14 (by decide) ?_
  refine ZS.putI 25 s k_68_15 rfl (zlt rfl) m_29 (zlt rfl) (by decide) ⟨rfl, rfl⟩ (fun w s => ?_)
  refine ZW.aload_n k_68_18 rfl ?_
  refine ZW.iconst (nI 0) k_68_19 (by decide) ?_
  refine ZS.putI 26 s k_68_20 rfl (zlt rfl) m_29 (zlt rfl) (by decide) ⟨rfl, rfl⟩ (fun w s => ?_)
  refine ZW.aload_n k_68_23 rfl ?_
  refine ZW.iconst (nI 0) k_68_24 (by decide) ?_
  refine ZS.putI 27 s k_68_25 rfl (zlt rfl) m_29 (zlt rfl) (by decide) ⟨rfl, rfl⟩ (fun w s => ?_)
  exact ZW.vret k_68_28 vr_68 (kk _ s)
theorem i_X3_init_15 {w : zW} {Q : Option Value → zW → Prop} (s : zST 16 14 11 w) (kk : ∀ w, zST 31 29 30 w → Q none w) : ZM G 13 [.ref 15] w 15 254 Q := by
  refine ZS.ent [some (.ref 15)] vl_13 rfl ?_
  refine ZW.aload_n k_13_0 rfl ?_
  refine ZW.oinit k_13_1 (by decide) (zlt rfl) ?_
  refine ZW.aload_n k_13_4 rfl ?_
  refine ZS.new 17 14 250 s k_13_5 (zlt rfl) m_16 rfl rfl rfl rfl (fun w s => ?_)
  refine ZW.dup k_13_8 rfl ?_
  refine ZS.call 29 26 21 2 164 s k_13_9 (zlt rfl) (zlt rfl) (by decide) (by rw [vl_0]; decide) (fun Q1 => i_X0_init_16 s) ⟨rfl, zlt rfl⟩ rfl rfl (fun w s => ?_)
  refine ZS.putR 27 s k_13_12 rfl (zlt rfl) (fun _ => rfl) (fun _ => rfl) m_15 (zlt rfl) (zlt rfl) ⟨rfl, rfl⟩ (fun w s => ?_)
  refine ZW.aload_n k_13_15 rfl ?_
  refine ZW.iconst (nI 0) k_13_16 (by decide) ?_
  refine ZS.putI 22 s k_13_17 rfl (zlt rfl) m_15 (zlt rfl) (by decide) ⟨rfl, rfl⟩ (fun w s => ?_)
  refine ZW.aload_n k_13_20 rfl ?_
  refine ZW.iconst (nI 0) k_13_21 (by decide) ?_
  refine ZS.putI 23 s k_13_22 rfl (zlt rfl) m_15 (zlt rfl) (by decide) ⟨rfl, rfl⟩ (fun w s => ?_)
  refine ZW.aload_n k_13_25 rfl ?_
  refine ZW.iconst (nI 0) k_13_26 (by decide) ?_
  refine ZS.putI 24 s k_13_27 rfl (zlt rfl) m_15 (zlt rfl) (by decide) ⟨rfl, rfl⟩ (fun w s => ?_)
  refine ZW.aload_n k_13_30 rfl ?_
  refine ZS.new 30 1 160 s k_13_31 (zlt rfl) m_29 rfl rfl rfl rfl (fun w s => ?_)
  refine ZW.dup k_13_34 rfl ?_
  refine ZS.call 31 28 27 0 0 s k_13_35 (zlt rfl) (zlt rfl) (by decide) (by rw [vl_68]; decide) (fun Q1 => i_X9_init_29 s) ⟨rfl, zlt rfl⟩ rfl rfl (fun w s => ?_)
  refine ZS.putR 29 s k_13_38 rfl (zlt rfl) (fun _ => rfl) (fun _ => rfl) m_15 (zlt rfl) (zlt rfl) ⟨rfl, rfl⟩ (fun w s => ?_)
  refine ZW.aload_n k_13_41 rfl ?_
  refine ZW.iconst (nI 0) k_13_42 (by decide) ?_
  refine ZS.putI 28 s k_13_43 rfl (zlt rfl) m_15 (zlt rfl) (by decide) ⟨rfl, rfl⟩ (fun w s => ?_)
  refine ZW.aload_n k_13_46 rfl ?_
  refine ZW.iconst (nI 0) k_13_47 (by decide) ?_
  refine ZS.putZ 29 s k_13_48 rfl (zlt rfl) (by decide) m_15 (zlt rfl) (by decide) ⟨rfl, rfl⟩ (fun w s => ?_)
  refine ZW.aload_n k_13_51 rfl ?_
  refine ZW.iconst (-1) k_13_52 (by decide) ?_
  refine ZS.putI 30 s k_13_53 rfl (zlt rfl) m_15 (zlt rfl) (by decide) ⟨rfl, rfl⟩ (fun w s => ?_)
  exact ZW.vret k_13_56 vr_13 (kk _ s)
theorem i_X8_init_31 {w : zW} {Q : Option Value → zW → Prop} (s : zST 32 31 30 w) (kk : ∀ w, zST 34 33 36 w → Q none w) : ZM G 54 [.ref 31] w 2 30 Q := by
  refine ZS.ent [some (.ref 31)] vl_54 rfl ?_
  refine ZW.aload_n k_54_0 rfl ?_
  refine ZW.oinit k_54_1 (by decide) (zlt rfl) ?_
  refine ZW.aload_n k_54_4 rfl ?_
  refine ZW.iconst (nI 0) k_54_5 (by decide) ?_
  refine ZS.putI 31 s k_54_6 rfl (zlt rfl) m_31 (zlt rfl) (by decide) ⟨rfl, rfl⟩ (fun w s => ?_)
  refine ZW.aload_n k_54_9 rfl ?_
  refine ZW.bipush (nI 20) k_54_10 (by decide) ?_
  refine ZS.putI 32 s k_54_12 rfl (zlt rfl) m_31 (zlt rfl) (by decide) ⟨rfl, rfl⟩ (fun w s => ?_)
  refine ZW.aload_n k_54_15 rfl ?_
  refine ZW.bipush (nI 8) k_54_16 (by decide) ?_
  refine ZS.putI 33 s k_54_18 rfl (zlt rfl) m_31 (zlt rfl) (by decide) ⟨rfl, rfl⟩ (fun w s => ?_)
  refine ZW.aload_n k_54_21 rfl ?_
  refine ZW.iconst (nI 0) k_54_22 (by decide) ?_
  refine ZS.putI 34 s k_54_23 rfl (zlt rfl) m_31 (zlt rfl) (by decide) ⟨rfl, rfl⟩ (fun w s => ?_)
  refine ZW.aload_n k_54_26 rfl ?_
  refine ZW.iconst (nI 0) k_54_27 (by decide) ?_
  refine ZS.putI 35 s k_54_28 rfl (zlt rfl) m_31 (zlt rfl) (by decide) ⟨rfl, rfl⟩ (fun w s => ?_)
  refine ZW.aload_n k_54_31 rfl ?_
  refine ZW.iconst (nI 0) k_54_32 (by decide) ?_
  refine ZS.putZ 36 s k_54_33 rfl (zlt rfl) (by decide) m_31 (zlt rfl) (by decide) ⟨rfl, rfl⟩ (fun w s => ?_)
  refine ZW.aload_n k_54_36 rfl ?_
  refine ZW.iconst (nI 5) k_54_37 (by decide) ?_
  refine ZS.newa 33 1 25 s k_54_38 (zlt rfl) (zlt rfl) rfl m_32 (by decide) rfl rfl rfl rfl (fun w s => ?_)
  refine ZS.putR 32 s k_54_40 rfl (zlt rfl) (fun _ => rfl) (fun _ => rfl) m_31 (zlt rfl) (zlt rfl) ⟨rfl, rfl⟩ (fun w s => ?_)
  refine ZW.aload_n k_54_43 rfl ?_
  refine ZW.bipush (nI 25) k_54_44 (by decide) ?_
  refine ZS.newa 34 0 0 s k_54_46 (zlt rfl) (zlt rfl) rfl m_33 (by decide) rfl rfl rfl rfl (fun w s => ?_)
  refine ZS.putR 33 s k_54_48 rfl (zlt rfl) (fun _ => rfl) (fun _ => rfl) m_31 (zlt rfl) (zlt rfl) ⟨rfl, rfl⟩ (fun w s => ?_)
  exact ZW.vret k_54_51 vr_54 (kk _ s)
theorem i_X8_init_39 {w : zW} {Q : Option Value → zW → Prop} (s : zST 40 38 41 w) (kk : ∀ w, zST 42 40 47 w → Q none w) : ZM G 54 [.ref 39] w 2 30 Q := by
  refine ZS.ent [some (.ref 39)] vl_54 rfl ?_
  refine ZW.aload_n k_54_0 rfl ?_
  refine ZW.oinit k_54_1 (by decide) (zlt rfl) ?_
  refine ZW.aload_n k_54_4 rfl ?_
  refine ZW.iconst (nI 0) k_54_5 (by decide) ?_
  refine ZS.putI 42 s k_54_6 rfl (zlt rfl) m_39 (zlt rfl) (by decide) ⟨rfl, rfl⟩ (fun w s => ?_)
  refine ZW.aload_n k_54_9 rfl ?_
  refine ZW.bipush (nI 20) k_54_10 (by decide) ?_
  refine ZS.putI 43 s k_54_12 rfl (zlt rfl) m_39 (zlt rfl) (by decide) ⟨rfl, rfl⟩ (fun w s => ?_)
  refine ZW.aload_n k_54_15 rfl ?_
  refine ZW.bipush (nI 8) k_54_16 (by decide) ?_
  refine ZS.putI 44 s k_54_18 rfl (zlt rfl) m_39 (zlt rfl) (by decide) ⟨rfl, rfl⟩ (fun w s => ?_)
  refine ZW.aload_n k_54_21 rfl ?_
  refine ZW.iconst (nI 0) k_54_22 (by decide) ?_
  refine ZS.putI 45 s k_54_23 rfl (zlt rfl) m_39 (zlt rfl) (by decide) ⟨rfl, rfl⟩ (fun w s => ?_)
  refine ZW.aload_n k_54_26 rfl ?_
  refine ZW.iconst (nI 0) k_54_27 (by decide) ?_
  refine ZS.putI 46 s k_54_28 rfl (zlt rfl) m_39 (zlt rfl) (by decide) ⟨rfl, rfl⟩ (fun w s => ?_)
  refine ZW.aload_n k_54_31 rfl ?_
  refine ZW.iconst (nI 0) k_54_32 (by decide) ?_
  refine ZS.putZ 47 s k_54_33 rfl (zlt rfl) (by decide) m_39 (zlt rfl) (by decide) ⟨rfl, rfl⟩ (fun w s => ?_)
  refine ZW.aload_n k_54_36 rfl ?_
  refine ZW.iconst (nI 5) k_54_37 (by decide) ?_
  refine ZS.newa 41 1 25 s k_54_38 (zlt rfl) (zlt rfl) rfl m_40 (by decide) rfl rfl rfl rfl (fun w s => ?_)
  refine ZS.putR 39 s k_54_40 rfl (zlt rfl) (fun _ => rfl) (fun _ => rfl) m_39 (zlt rfl) (zlt rfl) ⟨rfl, rfl⟩ (fun w s => ?_)
  refine ZW.aload_n k_54_43 rfl ?_
  refine ZW.bipush (nI 25) k_54_44 (by decide) ?_
  refine ZS.newa 42 0 0 s k_54_46 (zlt rfl) (zlt rfl) rfl m_41 (by decide) rfl rfl rfl rfl (fun w s => ?_)
  refine ZS.putR 40 s k_54_48 rfl (zlt rfl) (fun _ => rfl) (fun _ => rfl) m_39 (zlt rfl) (zlt rfl) ⟨rfl, rfl⟩ (fun w s => ?_)
  exact ZW.vret k_54_51 vr_54 (kk _ s)
theorem i_X8_init_42 {w : zW} {Q : Option Value → zW → Prop} (s : zST 43 41 47 w) (kk : ∀ w, zST 45 43 53 w → Q none w) : ZM G 54 [.ref 42] w 2 30 Q := by
  refine ZS.ent [some (.ref 42)] vl_54 rfl ?_
  refine ZW.aload_n k_54_0 rfl ?_
  refine ZW.oinit k_54_1 (by decide) (zlt rfl) ?_
  refine ZW.aload_n k_54_4 rfl ?_
  refine ZW.iconst (nI 0) k_54_5 (by decide) ?_
  refine ZS.putI 48 s k_54_6 rfl (zlt rfl) m_42 (zlt rfl) (by decide) ⟨rfl, rfl⟩ (fun w s => ?_)
  refine ZW.aload_n k_54_9 rfl ?_
  refine ZW.bipush (nI 20) k_54_10 (by decide) ?_
  refine ZS.putI 49 s k_54_12 rfl (zlt rfl) m_42 (zlt rfl) (by decide) ⟨rfl, rfl⟩ (fun w s => ?_)
  refine ZW.aload_n k_54_15 rfl ?_
  refine ZW.bipush (nI 8) k_54_16 (by decide) ?_
  refine ZS.putI 50 s k_54_18 rfl (zlt rfl) m_42 (zlt rfl) (by decide) ⟨rfl, rfl⟩ (fun w s => ?_)
  refine ZW.aload_n k_54_21 rfl ?_
  refine ZW.iconst (nI 0) k_54_22 (by decide) ?_
  refine ZS.putI 51 s k_54_23 rfl (zlt rfl) m_42 (zlt rfl) (by decide) ⟨rfl, rfl⟩ (fun w s => ?_)
  refine ZW.aload_n k_54_26 rfl ?_
  refine ZW.iconst (nI 0) k_54_27 (by decide) ?_
  refine ZS.putI 52 s k_54_28 rfl (zlt rfl) m_42 (zlt rfl) (by decide) ⟨rfl, rfl⟩ (fun w s => ?_)
  refine ZW.aload_n k_54_31 rfl ?_
  refine ZW.iconst (nI 0) k_54_32 (by decide) ?_
  refine ZS.putZ 53 s k_54_33 rfl (zlt rfl) (by decide) m_42 (zlt rfl) (by decide) ⟨rfl, rfl⟩ (fun w s => ?_)
  refine ZW.aload_n k_54_36 rfl ?_
  refine ZW.iconst (nI 5) k_54_37 (by decide) ?_
  refine ZS.newa 44 1 25 s k_54_38 (zlt rfl) (zlt rfl) rfl m_43 (by decide) rfl rfl rfl rfl (fun w s => ?_)
  refine ZS.putR 42 s k_54_40 rfl (zlt rfl) (fun _ => rfl) (fun _ => rfl) m_42 (zlt rfl) (zlt rfl) ⟨rfl, rfl⟩ (fun w s => ?_)
  refine ZW.aload_n k_54_43 rfl ?_
  refine ZW.bipush (nI 25) k_54_44 (by decide) ?_
  refine ZS.newa 45 0 0 s k_54_46 (zlt rfl) (zlt rfl) rfl m_44 (by decide) rfl rfl rfl rfl (fun w s => ?_)
  refine ZS.putR 43 s k_54_48 rfl (zlt rfl) (fun _ => rfl) (fun _ => rfl) m_42 (zlt rfl) (zlt rfl) ⟨rfl, rfl⟩ (fun w s => ?_)
  exact ZW.vret k_54_51 vr_54 (kk _ s)
theorem i_X8_init_45 {w : zW} {Q : Option Value → zW → Prop} (s : zST 46 44 53 w) (kk : ∀ w, zST 48 46 59 w → Q none w) : ZM G 54 [.ref 45] w 2 30 Q := by
  refine ZS.ent [some (.ref 45)] vl_54 rfl ?_
  refine ZW.aload_n k_54_0 rfl ?_
  refine ZW.oinit k_54_1 (by decide) (zlt rfl) ?_
  refine ZW.aload_n k_54_4 rfl ?_
  refine ZW.iconst (nI 0) k_54_5 (by decide) ?_
  refine ZS.putI 54 s k_54_6 rfl (zlt rfl) m_45 (zlt rfl) (by decide) ⟨rfl, rfl⟩ (fun w s => ?_)
  refine ZW.aload_n k_54_9 rfl ?_
  refine ZW.bipush (nI 20) k_54_10 (by decide) ?_
  refine ZS.putI 55 s k_54_12 rfl (zlt rfl) m_45 (zlt rfl) (by decide) ⟨rfl, rfl⟩ (fun w s => ?_)
  refine ZW.aload_n k_54_15 rfl ?_
  refine ZW.bipush (nI 8) k_54_16 (by decide) ?_
  refine ZS.putI 56 s k_54_18 rfl (zlt rfl) m_45 (zlt rfl) (by decide) ⟨rfl, rfl⟩ (fun w s => ?_)
  refine ZW.aload_n k_54_21 rfl ?_
  refine ZW.iconst (nI 0) k_54_22 (by decide) ?_
  refine ZS.putI 57 s k_54_23 rfl (zlt rfl) m_45 (zlt rfl) (by decide) ⟨rfl, rfl⟩ (fun w s => ?_)
  refine ZW.aload_n k_54_26 rfl ?_
  refine ZW.iconst (nI 0) k_54_27 (by decide) ?_
  refine ZS.putI 58 s k_54_28 rfl (zlt rfl) m_45 (zlt rfl) (by decide) ⟨rfl, rfl⟩ (fun w s => ?_)
  refine ZW.aload_n k_54_31 rfl ?_
  refine ZW.iconst (nI 0) k_54_32 (by decide) ?_
  refine ZS.putZ 59 s k_54_33 rfl (zlt rfl) (by decide) m_45 (zlt rfl) (by decide) ⟨rfl, rfl⟩ (fun w s => ?_)
  refine ZW.aload_n k_54_36 rfl ?_
  refine ZW.iconst (nI 5) k_54_37 (by decide) ?_
  refine ZS.newa 47 1 25 s k_54_38 (zlt rfl) (zlt rfl) rfl m_46 (by decide) rfl rfl rfl rfl (fun w s => ?_)
  refine ZS.putR 45 s k_54_40 rfl (zlt rfl) (fun _ => rfl) (fun _ => rfl) m_45 (zlt rfl) (zlt rfl) ⟨rfl, rfl⟩ (fun w s => ?_)
  refine ZW.aload_n k_54_43 rfl ?_
  refine ZW.bipush (nI 25) k_54_44 (by decide) ?_
  refine ZS.newa 48 0 0 s k_54_46 (zlt rfl) (zlt rfl) rfl m_47 (by decide) rfl rfl rfl rfl (fun w s => ?_)
  refine ZS.putR 46 s k_54_48 rfl (zlt rfl) (fun _ => rfl) (fun _ => rfl) m_45 (zlt rfl) (zlt rfl) ⟨rfl, rfl⟩ (fun w s => ?_)
  exact ZW.vret k_54_51 vr_54 (kk _ s)
theorem i_X8_init_48 {w : zW} {Q : Option Value → zW → Prop} (s : zST 49 47 59 w) (kk : ∀ w, zST 51 49 65 w → Q none w) : ZM G 54 [.ref 48] w 2 30 Q := by
  refine ZS.ent [some (.ref 48)] vl_54 rfl ?_
  refine ZW.aload_n k_54_0 rfl ?_
  refine ZW.oinit k_54_1 (by decide) (zlt rfl) ?_
  refine ZW.aload_n k_54_4 rfl ?_
  refine ZW.iconst (nI 0) k_54_5 (by decide) ?_
  refine ZS.putI 60 s k_54_6 rfl (zlt rfl) m_48 (zlt rfl) (by decide) ⟨rfl, rfl⟩ (fun w s => ?_)
  refine ZW.aload_n k_54_9 rfl ?_
  refine ZW.bipush (nI 20) k_54_10 (by decide) ?_
  refine ZS.putI 61 s k_54_12 rfl (zlt rfl) m_48 (zlt rfl) (by decide) ⟨rfl, rfl⟩ (fun w s => ?_)
  refine ZW.aload_n k_54_15 rfl ?_
  refine ZW.bipush (nI 8) k_54_16 (by decide) ?_
  refine ZS.putI 62 s k_54_18 rfl (zlt rfl) m_48 (zlt rfl) (by decide) ⟨rfl, rfl⟩ (fun w s => ?_)
  refine ZW.aload_n k_54_21 rfl ?_
  refine ZW.iconst (nI 0) k_54_22 (by decide) ?_
  refine ZS.putI 63 s k_54_23 rfl (zlt rfl) m_48 (zlt rfl) (by decide) ⟨rfl, rfl⟩ (fun w s => ?_)
  refine ZW.aload_n k_54_26 rfl ?_
  refine ZW.iconst (nI 0) k_54_27 (by decide) ?_
  refine ZS.putI 64 s k_54_28 rfl (zlt rfl) m_48 (zlt rfl) (by decide) ⟨rfl, rfl⟩ (fun w s => ?_)
  refine ZW.aload_n k_54_31 rfl ?_
  refine ZW.iconst (nI 0) k_54_32 (by decide) ?_
  refine ZS.putZ 65 s k_54_33 rfl (zlt rfl) (by decide) m_48 (zlt rfl) (by decide) ⟨rfl, rfl⟩ (fun w s => ?_)
  refine ZW.aload_n k_54_36 rfl ?_
  refine ZW.iconst (nI 5) k_54_37 (by decide) ?_
  refine ZS.newa 50 1 25 s k_54_38 (zlt rfl) (zlt rfl) rfl m_49 (by decide) rfl rfl rfl rfl (fun w s => ?_)
  refine ZS.putR 48 s k_54_40 rfl (zlt rfl) (fun _ => rfl) (fun _ => rfl) m_48 (zlt rfl) (zlt rfl) ⟨rfl, rfl⟩ (fun w s => ?_)
  refine ZW.aload_n k_54_43 rfl ?_
  refine ZW.bipush (nI 25) k_54_44 (by decide) ?_
  refine ZS.newa 51 0 0 s k_54_46 (zlt rfl) (zlt rfl) rfl m_50 (by decide) rfl rfl rfl rfl (fun w s => ?_)
  refine ZS.putR 49 s k_54_48 rfl (zlt rfl) (fun _ => rfl) (fun _ => rfl) m_48 (zlt rfl) (zlt rfl) ⟨rfl, rfl⟩ (fun w s => ?_)
  exact ZW.vret k_54_51 vr_54 (kk _ s)
theorem i_X8_init_51 {w : zW} {Q : Option Value → zW → Prop} (s : zST 52 50 65 w) (kk : ∀ w, zST 54 52 71 w → Q none w) : ZM G 54 [.ref 51] w 2 30 Q := by
  refine ZS.ent [some (.ref 51)] vl_54 rfl ?_
  refine ZW.aload_n k_54_0 rfl ?_
  refine ZW.oinit k_54_1 (by decide) (zlt rfl) ?_
  refine ZW.aload_n k_54_4 rfl ?_
  refine ZW.iconst (nI 0) k_54_5 (by decide) ?_
  refine ZS.putI 66 s k_54_6 rfl (zlt rfl) m_51 (zlt rfl) (by decide) ⟨rfl, rfl⟩ (fun w s => ?_)
  refine ZW.aload_n k_54_9 rfl ?_
  refine ZW.bipush (nI 20) k_54_10 (by decide) ?_
  refine ZS.putI 67 s k_54_12 rfl (zlt rfl) m_51 (zlt rfl) (by decide) ⟨rfl, rfl⟩ (fun w s => ?_)
  refine ZW.aload_n k_54_15 rfl ?_
  refine ZW.bipush (nI 8) k_54_16 (by decide) ?_
  refine ZS.putI 68 s k_54_18 rfl (zlt rfl) m_51 (zlt rfl) (by decide) ⟨rfl, rfl⟩ (fun w s => ?_)
  refine ZW.aload_n k_54_21 rfl ?_
  refine ZW.iconst (nI 0) k_54_22 (by decide) ?_
  refine ZS.putI 69 s k_54_23 rfl (zlt rfl) m_51 (zlt rfl) (by decide) ⟨rfl, rfl⟩ (fun w s => ?_)
  refine ZW.aload_n k_54_26 rfl ?_
  refine ZW.iconst (nI 0) k_54_27 (by decide) ?_
  refine ZS.putI 70 s k_54_28 rfl (zlt rfl) m_51 (zlt rfl) (by decide) ⟨rfl, rfl⟩ (fun w s => ?_)
  refine ZW.aload_n k_54_31 rfl ?_
  refine ZW.iconst (nI 0) k_54_32 (by decide) ?_
  refine ZS.putZ 71 s k_54_33 rfl (zlt rfl) (by decide) m_51 (zlt rfl) (by decide) ⟨rfl, rfl⟩ (fun w s => ?_)
  refine ZW.aload_n k_54_36 rfl ?_
  refine ZW.iconst (nI 5) k_54_37 (by decide) ?_
  refine ZS.newa 53 1 25 s k_54_38 (zlt rfl) (zlt rfl) rfl m_52 (by decide) rfl rfl rfl rfl (fun w s => ?_)
  refine ZS.putR 51 s k_54_40 rfl (zlt rfl) (fun _ => rfl) (fun _ => rfl) m_51 (zlt rfl) (zlt rfl) ⟨rfl, rfl⟩ (fun w s => ?_)
  refine ZW.aload_n k_54_43 rfl ?_
  refine ZW.bipush (nI 25) k_54_44 (by decide) ?_
  refine ZS.newa 54 0 0 s k_54_46 (zlt rfl) (zlt rfl) rfl m_53 (by decide) rfl rfl rfl rfl (fun w s => ?_)
  refine ZS.putR 52 s k_54_48 rfl (zlt rfl) (fun _ => rfl) (fun _ => rfl) m_51 (zlt rfl) (zlt rfl) ⟨rfl, rfl⟩ (fun w s => ?_)
  exact ZW.vret k_54_51 vr_54 (kk _ s)
end MADE
