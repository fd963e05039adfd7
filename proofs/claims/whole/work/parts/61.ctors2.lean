/-! THE CONSTRUCTORS: the class, the reference -/
section MADE
variable {G : zG}
theorem i_X4_init_34 {w : zW} {Q : Option Value → zW → Prop} (s : zST 35 34 36 w) (kk : ∀ w, zST 54 53 71 w → Q none w) : ZM G 26 [.ref 34] w 19 213 Q := by
  refine ZS.ent [some (.ref 34), none] vl_26 rfl ?_
  refine ZW.aload_n k_26_0 rfl ?_
  refine ZW.oinit k_26_1 (by decide) (zlt rfl) ?_
  refine ZW.aload_n k_26_4 rfl ?_
  refine ZW.iconst (nI 0) k_26_5 (by decide) ?_
  refine ZS.putI 37 s k_26_6 rfl (zlt rfl) m_34 (zlt rfl) (by decide) ⟨rfl, rfl⟩ (fun w s => ?_)
  refine ZW.aload_n k_26_9 rfl ?_
  refine ZW.iconst (nI 0) k_26_10 (by decide) ?_
  refine ZS.putI 38 s k_26_11 rfl (zlt rfl) m_34 (zlt rfl) (by decide) ⟨rfl, rfl⟩ (fun w s => ?_)
  refine ZW.aload_n k_26_14 rfl ?_
  refine ZW.iconst (nI 0) k_26_15 (by decide) ?_
  refine ZS.putI 39 s k_26_16 rfl (zlt rfl) m_34 (zlt rfl) (by decide) ⟨rfl, rfl⟩ (fun w s => ?_)
  refine ZW.aload_n k_26_19 rfl ?_
  refine ZW.iconst (nI 4) k_26_20 (by decide) ?_
  refine ZS.newa 36 18 209 s k_26_21 (zlt rfl) (zlt rfl) rfl m_35 (by decide) rfl rfl rfl rfl (fun w s => ?_)
  refine ZS.putR 35 s k_26_23 rfl (zlt rfl) (fun _ => rfl) (fun _ => rfl) m_34 (zlt rfl) (zlt rfl) ⟨rfl, rfl⟩ (fun w s => ?_)
  refine ZW.aload_n k_26_26 rfl ?_
  refine ZW.bipush (nI 10) k_26_27 (by decide) ?_
  refine ZS.newa 37 17 199 s k_26_29 (zlt rfl) (zlt rfl) rfl m_36 (by decide) rfl rfl rfl rfl (fun w s => ?_)
  refine ZS.putR 36 s k_26_31 rfl (zlt rfl) (fun _ => rfl) (fun _ => rfl) m_34 (zlt rfl) (zlt rfl) ⟨rfl, rfl⟩ (fun w s => ?_)
  refine ZW.aload_n k_26_34 rfl ?_
  refine ZW.iconst (nI 0) k_26_35 (by decide) ?_
  refine ZS.putI 40 s k_26_36 rfl (zlt rfl) m_34 (zlt rfl) (by decide) ⟨rfl, rfl⟩ (fun w s => ?_)
  refine ZW.aload_n k_26_39 rfl ?_
  refine ZW.iconst (nI 0) k_26_40 (by decide) ?_
  refine ZS.putI 41 s k_26_41 rfl (zlt rfl) m_34 (zlt rfl) (by decide) ⟨rfl, rfl⟩ (fun w s => ?_)
  refine ZW.aload_n k_26_44 rfl ?_
  refine ZW.iconst (nI 4) k_26_45 (by decide) ?_
  refine ZS.newa 38 16 195 s k_26_46 (zlt rfl) (zlt rfl) rfl m_37 (by decide) rfl rfl rfl rfl (fun w s => ?_)
  refine ZS.putR 37 s k_26_48 rfl (zlt rfl) (fun _ => rfl) (fun _ => rfl) m_34 (zlt rfl) (zlt rfl) ⟨rfl, rfl⟩ (fun w s => ?_)
  refine ZW.aload_n k_26_51 rfl ?_
  refine ZW.iconst (nI 5) k_26_52 (by decide) ?_
  refine ZS.newq 39 15 190 s k_26_53 (zlt rfl) m_38 (by decide) (by decide) rfl rfl rfl rfl (fun w s => ?_)
  refine ZS.putR 38 s k_26_56 rfl (zlt rfl) (fun _ => rfl) (fun _ => rfl) m_34 (zlt rfl) (zlt rfl) ⟨rfl, rfl⟩ (fun w s => ?_)
  refine ZW.iconst (nI 0) k_26_59 (by decide) ?_
  refine ZW.istore_n [some (.ref 34), some (.int (nI 0))] k_26_60 (by rw [vl_26]; decide) rfl ?_
  refine ZW.iload_n k_26_61 rfl ?_
  refine ZW.iconst (nI 4) k_26_62 (by decide) ?_
  refine ZW.icmp_gt k_26_63 (fun z => absurd z (by decide)) (fun _ => ?_)
  refine ZW.aload_n k_26_66 rfl ?_
  refine ZW.getR (r := 38) k_26_67 (zlt rfl) rfl (s.at m_34 (zlt rfl)) (zlt rfl) (s.ref (by decide +kernel)) (zlt rfl) ?_
  refine ZW.iload_n k_26_70 rfl ?_
  refine ZS.new 40 14 182 s k_26_71 (zlt rfl) m_39 rfl rfl rfl rfl (fun w s => ?_)
  refine ZW.dup k_26_74 rfl ?_
  refine ZS.call 42 40 47 12 152 s k_26_75 (zlt rfl) (zlt rfl) (by decide) (by rw [vl_54]; decide) (fun Q1 => i_X8_init_39 s) ⟨rfl, zlt rfl⟩ rfl rfl (fun w s => ?_)
  refine ZS.aast 41 0 s k_26_78 (zlt rfl) m_38 (zlt rfl) rfl (zlt rfl) (zlt rfl) m_39 (zlt rfl) ⟨rfl, rfl⟩ (fun w s => ?_)
  refine ZW.iinc (nI 1) [some (.ref 34), some (.int (nI 1))] k_26_79 rfl (by decide) (by rw [vl_26]; decide) rfl ?_
  refine ZW.goto k_26_82 ?_
  refine ZW.iload_n k_26_61 rfl ?_
  refine ZW.iconst (nI 4) k_26_62 (by decide) ?_
  refine ZW.icmp_gt k_26_63 (fun z => absurd z (by decide)) (fun _ => ?_)
  refine ZW.aload_n k_26_66 rfl ?_
  refine ZW.getR (r := 38) k_26_67 (zlt rfl) rfl (s.at m_34 (zlt rfl)) (zlt rfl) (s.ref (by decide +kernel)) (zlt rfl) ?_
  refine ZW.iload_n k_26_70 rfl ?_
  refine ZS.new 43 11 144 s k_26_71 (zlt rfl) m_42 rfl rfl rfl rfl (fun w s => ?_)
  refine ZW.dup k_26_74 rfl ?_
  refine ZS.call 45 43 53 9 114 s k_26_75 (zlt rfl) (zlt rfl) (by decide) (by rw [vl_54]; decide) (fun Q1 => i_X8_init_42 s) ⟨rfl, zlt rfl⟩ rfl rfl (fun w s => ?_)
  refine ZS.aast 44 1 s k_26_78 (zlt rfl) m_38 (zlt rfl) rfl (zlt rfl) (zlt rfl) m_42 (zlt rfl) ⟨rfl, rfl⟩ (fun w s => ?_)
  refine ZW.iinc (nI 2) [some (.ref 34), some (.int (nI 2))] k_26_79 rfl (by decide) (by rw [vl_26]; decide) rfl ?_
  refine ZW.goto k_26_82 ?_
  refine ZW.iload_n k_26_61 rfl ?_
  refine ZW.iconst (nI 4) k_26_62 (by decide) ?_
  refine ZW.icmp_gt k_26_63 (fun z => absurd z (by decide)) (fun _ => ?_)
  refine ZW.aload_n k_26_66 rfl ?_
  refine ZW.getR (r := 38) k_26_67 (zlt rfl) rfl (s.at m_34 (zlt rfl)) (zlt rfl) (s.ref (by decide +kernel)) (zlt rfl) ?_
  refine ZW.iload_n k_26_70 rfl ?_
  refine ZS.new 46 8 106 s k_26_71 (zlt rfl) m_45 rfl rfl rfl rfl (fun w s => ?_)
  refine ZW.dup k_26_74 rfl ?_
  refine ZS.call 48 46 59 6 76 s k_26_75 (zlt rfl) (zlt rfl) (by decide) (by rw [vl_54]; decide) (fun Q1 => i_X8_init_45 s) ⟨rfl, zlt rfl⟩ rfl rfl (fun w s => ?_)
  refine ZS.aast 47 2 s k_26_78 (zlt rfl) m_38 (zlt rfl) rfl (zlt rfl) (zlt rfl) m_45 (zlt rfl) ⟨rfl, rfl⟩ (fun w s => ?_)
  refine ZW.iinc (nI 3) [some (.ref 34), some (.int (nI 3))] k_26_79 rfl (by decide) (by rw [vl_26]; decide) rfl ?_
  refine ZW.goto k_26_82 ?_
  refine ZW.iload_n k_26_61 rfl ?_
  refine ZW.iconst (nI 4) k_26_62 (by decide) ?_
  refine ZW.icmp_gt k_26_63 (fun z => absurd z (by decide)) (fun _ => ?_)
  refine ZW.aload_n k_26_66 rfl ?_
  refine ZW.getR (r := 38) k_26_67 (zlt rfl) rfl (s.at m_34 (zlt rfl)) (zlt rfl) (s.ref (by decide +kernel)) (zlt rfl) ?_
  refine ZW.iload_n k_26_70 rfl ?_
  refine ZS.new 49 5 68 s k_26_71 (zlt rfl) m_48 rfl rfl rfl rfl (fun w s => ?_)
  refine ZW.dup k_26_74 rfl ?_
  refine ZS.call 51 49 65 3 38 s k_26_75 (zlt rfl) (zlt rfl) (by decide) (by rw [vl_54]; decide) (fun Q1 => i_X8_init_48 s) ⟨rfl, zlt rfl⟩ rfl rfl (fun w s => ?_)
  refine ZS.aast 50 3 s k_26_78 (zlt rfl) m_38 (zlt rfl) rfl (zlt rfl) (zlt rfl) m_48 (zlt rfl) ⟨rfl, rfl⟩ (fun w s => ?_)
  refine ZW.iinc (nI 4) [some (.ref 34), some (.int (nI 4))] k_26_79 rfl (by decide) (by rw [vl_26]; decide) rfl ?_
  refine ZW.goto k_26_82 ?_
  refine ZW.iload_n k_26_61 rfl ?_
  refine ZW.iconst (nI 4) k_26_62 (by decide) ?_
  refine ZW.icmp_gt k_26_63 (fun z => absurd z (by decide)) (fun _ => ?_)
  refine ZW.aload_n k_26_66 rfl ?_
  refine ZW.getR (r := 38) k_26_67 (zlt rfl) rfl (s.at m_34 (zlt rfl)) (zlt rfl) (s.ref (by decide +kernel)) (zlt rfl) ?_
  refine ZW.iload_n k_26_70 rfl ?_
  refine ZS.new 52 2 30 s k_26_71 (zlt rfl) m_51 rfl rfl rfl rfl (fun w s => ?_)
  refine ZW.dup k_26_74 rfl ?_
  refine ZS.call 54 52 71 0 0 s k_26_75 (zlt rfl) (zlt rfl) (by decide) (by rw [vl_54]; decide) (fun Q1 => i_X8_init_51 s) ⟨rfl, zlt rfl⟩ rfl rfl (fun w s => ?_)
  refine ZS.aast 53 4 s k_26_78 (zlt rfl) m_38 (zlt rfl) rfl (zlt rfl) (zlt rfl) m_51 (zlt rfl) ⟨rfl, rfl⟩ (fun w s => ?_)
  refine ZW.iinc (nI 5) [some (.ref 34), some (.int (nI 5))] k_26_79 rfl (by decide) (by rw [vl_26]; decide) rfl ?_
  refine ZW.goto k_26_82 ?_
  refine ZW.iload_n k_26_61 rfl ?_
  refine ZW.iconst (nI 4) k_26_62 (by decide) ?_
  refine ZW.icmp_gt k_26_63 (fun _ => ?_) (fun z => absurd (by decide) z)
  exact ZW.vret k_26_85 vr_26 (kk _ s)
theorem i_X1_init_54 {w : zW} {Q : Option Value → zW → Prop} (s : zST 55 54 71 w) (kk : ∀ w, zST 58 57 72 w → Q none w) : ZM G 3 [.ref 54] w 3 15 Q := by
  refine ZS.ent [some (.ref 54)] vl_3 rfl ?_
  refine ZW.aload_n k_3_0 rfl ?_
  refine ZW.oinit k_3_1 (by decide) (zlt rfl) ?_
  refine ZW.aload_n k_3_4 rfl ?_
  refine ZW.iconst (nI 0) k_3_5 (by decide) ?_
  refine ZS.putI 72 s k_3_6 rfl (zlt rfl) m_54 (zlt rfl) (by decide) ⟨rfl, rfl⟩ (fun w s => ?_)
  refine ZW.aload_n k_3_9 rfl ?_
  refine ZW.iconst (nI 5) k_3_10 (by decide) ?_
  refine ZS.newa 56 2 10 s k_3_11 (zlt rfl) (zlt rfl) rfl m_55 (by decide) rfl rfl rfl rfl (fun w s => ?_)
  refine ZS.putR 55 s k_3_13 rfl (zlt rfl) (fun _ => rfl) (fun _ => rfl) m_54 (zlt rfl) (zlt rfl) ⟨rfl, rfl⟩ (fun w s => ?_)
  refine ZW.aload_n k_3_16 rfl ?_
  refine ZW.iconst (nI 5) k_3_17 (by decide) ?_
  refine ZS.newa 57 1 5 s k_3_18 (zlt rfl) (zlt rfl) rfl m_56 (by decide) rfl rfl rfl rfl (fun w s => ?_)
  refine ZS.putR 56 s k_3_20 rfl (zlt rfl) (fun _ => rfl) (fun _ => rfl) m_54 (zlt rfl) (zlt rfl) ⟨rfl, rfl⟩ (fun w s => ?_)
  refine ZW.aload_n k_3_23 rfl ?_
  refine ZW.iconst (nI 5) k_3_24 (by decide) ?_
  refine ZS.newa 58 0 0 s k_3_25 (zlt rfl) (zlt rfl) rfl m_57 (by decide) rfl rfl rfl rfl (fun w s => ?_)
  refine ZS.putR 57 s k_3_27 rfl (zlt rfl) (fun _ => rfl) (fun _ => rfl) m_54 (zlt rfl) (zlt rfl) ⟨rfl, rfl⟩ (fun w s => ?_)
  exact ZW.vret k_3_30 vr_3 (kk _ s)
theorem i_X8_init_60 {w : zW} {Q : Option Value → zW → Prop} (s : zST 61 59 74 w) (kk : ∀ w, zST 63 61 80 w → Q none w) : ZM G 54 [.ref 60] w 2 30 Q := by
  refine ZS.ent [some (.ref 60)] vl_54 rfl ?_
  refine ZW.aload_n k_54_0 rfl ?_
  refine ZW.oinit k_54_1 (by decide) (zlt rfl) ?_
  refine ZW.aload_n k_54_4 rfl ?_
  refine ZW.iconst (nI 0) k_54_5 (by decide) ?_
  refine ZS.putI 75 s k_54_6 rfl (zlt rfl) m_60 (zlt rfl) (by decide) ⟨rfl, rfl⟩ (fun w s => ?_)
  refine ZW.aload_n k_54_9 rfl ?_
  refine ZW.bipush (nI 20) k_54_10 (by decide) ?_
  refine ZS.putI 76 s k_54_12 rfl (zlt rfl) m_60 (zlt rfl) (by decide) ⟨rfl, rfl⟩ (fun w s => ?_)
  refine ZW.aload_n k_54_15 rfl ?_
  refine ZW.bipush (nI 8) k_54_16 (by decide) ?_
  refine ZS.putI 77 s k_54_18 rfl (zlt rfl) m_60 (zlt rfl) (by decide) ⟨rfl, rfl⟩ (fun w s => ?_)
  refine ZW.aload_n k_54_21 rfl ?_
  refine ZW.iconst (nI 0) k_54_22 (by decide) ?_
  refine ZS.putI 78 s k_54_23 rfl (zlt rfl) m_60 (zlt rfl) (by decide) ⟨rfl, rfl⟩ (fun w s => ?_)
  refine ZW.aload_n k_54_26 rfl ?_
  refine ZW.iconst (nI 0) k_54_27 (by decide) ?_
  refine ZS.putI 79 s k_54_28 rfl (zlt rfl) m_60 (zlt rfl) (by decide) ⟨rfl, rfl⟩ (fun w s => ?_)
  refine ZW.aload_n k_54_31 rfl ?_
  refine ZW.iconst (nI 0) k_54_32 (by decide) ?_
  refine ZS.putZ 80 s k_54_33 rfl (zlt rfl) (by decide) m_60 (zlt rfl) (by decide) ⟨rfl, rfl⟩ (fun w s => ?_)
  refine ZW.aload_n k_54_36 rfl ?_
  refine ZW.iconst (nI 5) k_54_37 (by decide) ?_
  refine ZS.newa 62 1 25 s k_54_38 (zlt rfl) (zlt rfl) rfl m_61 (by decide) rfl rfl rfl rfl (fun w s => ?_)
  refine ZS.putR 60 s k_54_40 rfl (zlt rfl) (fun _ => rfl) (fun _ => rfl) m_60 (zlt rfl) (zlt rfl) ⟨rfl, rfl⟩ (fun w s => ?_)
  refine ZW.aload_n k_54_43 rfl ?_
  refine ZW.bipush (nI 25) k_54_44 (by decide) ?_
  refine ZS.newa 63 0 0 s k_54_46 (zlt rfl) (zlt rfl) rfl m_62 (by decide) rfl rfl rfl rfl (fun w s => ?_)
  refine ZS.putR 61 s k_54_48 rfl (zlt rfl) (fun _ => rfl) (fun _ => rfl) m_60 (zlt rfl) (zlt rfl) ⟨rfl, rfl⟩ (fun w s => ?_)
  exact ZW.vret k_54_51 vr_54 (kk _ s)
theorem i_X7_init_63 {w : zW} {Q : Option Value → zW → Prop} (s : zST 64 62 80 w) (kk : ∀ w, zST 67 65 82 w → Q none w) : ZM G 47 [.ref 63] w 3 18 Q := by
  refine ZS.ent [some (.ref 63)] vl_47 rfl ?_
  refine ZW.aload_n k_47_0 rfl ?_
  refine ZW.oinit k_47_1 (by decide) (zlt rfl) ?_
  refine ZW.aload_n k_47_4 rfl ?_
  refine ZW.iconst (nI 0) k_47_5 (by decide) ?_
  refine ZS.putI 81 s k_47_6 rfl (zlt rfl) m_63 (zlt rfl) (by decide) ⟨rfl, rfl⟩ (fun w s => ?_)
  refine ZW.aload_n k_47_9 rfl ?_
  refine ZW.iconst (nI 0) k_47_10 (by decide) ?_
  refine ZS.putI 82 s k_47_11 rfl (zlt rfl) m_63 (zlt rfl) (by decide) ⟨rfl, rfl⟩ (fun w s => ?_)
  refine ZW.aload_n k_47_14 rfl ?_
  refine ZW.bipush (nI 6) k_47_15 (by decide) ?_
  refine ZS.newa 65 2 12 s k_47_17 (zlt rfl) (zlt rfl) rfl m_64 (by decide) rfl rfl rfl rfl (fun w s => ?_)
  refine ZS.putR 63 s k_47_19 rfl (zlt rfl) (fun _ => rfl) (fun _ => rfl) m_63 (zlt rfl) (zlt rfl) ⟨rfl, rfl⟩ (fun w s => ?_)
  refine ZW.aload_n k_47_22 rfl ?_
  refine ZW.bipush (nI 6) k_47_23 (by decide) ?_
  refine ZS.newa 66 1 6 s k_47_25 (zlt rfl) (zlt rfl) rfl m_65 (by decide) rfl rfl rfl rfl (fun w s => ?_)
  refine ZS.putR 64 s k_47_27 rfl (zlt rfl) (fun _ => rfl) (fun _ => rfl) m_63 (zlt rfl) (zlt rfl) ⟨rfl, rfl⟩ (fun w s => ?_)
  refine ZW.aload_n k_47_30 rfl ?_
  refine ZW.bipush (nI 6) k_47_31 (by decide) ?_
  refine ZS.newa 67 0 0 s k_47_33 (zlt rfl) (zlt rfl) rfl m_66 (by decide) rfl rfl rfl rfl (fun w s => ?_)
  refine ZS.putR 65 s k_47_35 rfl (zlt rfl) (fun _ => rfl) (fun _ => rfl) m_63 (zlt rfl) (zlt rfl) ⟨rfl, rfl⟩ (fun w s => ?_)
  exact ZW.vret k_47_38 vr_47 (kk _ s)
theorem i_X2_init_67 {w : zW} {Q : Option Value → zW → Prop} (s : zST 68 66 82 w) (kk : ∀ w, zST 69 67 83 w → Q none w) : ZM G 8 [.ref 67] w 1 8 Q := by
  refine ZS.ent [some (.ref 67)] vl_8 rfl ?_
  refine ZW.aload_n k_8_0 rfl ?_
  refine ZW.oinit k_8_1 (by decide) (zlt rfl) ?_
  refine ZW.aload_n k_8_4 rfl ?_
  refine ZW.iconst (nI 0) k_8_5 (by decide) ?_
  refine ZS.putI 83 s k_8_6 rfl (zlt rfl) m_67 (zlt rfl) (by decide) ⟨rfl, rfl⟩ (fun w s => ?_)
  refine ZW.aload_n k_8_9 rfl ?_
  refine ZW.bipush (nI 8) k_8_10 (by decide) ?_
  refine ZS.newa 69 0 0 s k_8_12 (zlt rfl) (zlt rfl) rfl m_68 (by decide) rfl rfl rfl rfl (fun w s => ?_)
  refine ZS.putR 67 s k_8_14 rfl (zlt rfl) (fun _ => rfl) (fun _ => rfl) m_67 (zlt rfl) (zlt rfl) ⟨rfl, rfl⟩ (fun w s => ?_)
  exact ZW.vret k_8_17 vr_8 (kk _ s)
theorem i_X5_init_69 {w : zW} {Q : Option Value → zW → Prop} (s : zST 70 68 83 w) (kk : ∀ w, zST 72 70 84 w → Q none w) : ZM G 36 [.ref 69] w 2 12 Q := by
  refine ZS.ent [some (.ref 69)] vl_36 rfl ?_
  refine ZW.aload_n k_36_0 rfl ?_
  refine ZW.oinit k_36_1 (by decide) (zlt rfl) ?_
  refine ZW.aload_n k_36_4 rfl ?_
  refine ZW.iconst (nI 0) k_36_5 (by decide) ?_
  refine ZS.putI 84 s k_36_6 rfl (zlt rfl) m_69 (zlt rfl) (by decide) ⟨rfl, rfl⟩ (fun w s => ?_)
  refine ZW.aload_n k_36_9 rfl ?_
  refine ZW.bipush (nI 6) k_36_10 (by decide) ?_
  refine ZS.newa 71 1 6 s k_36_12 (zlt rfl) (zlt rfl) rfl m_70 (by decide) rfl rfl rfl rfl (fun w s => ?_)
  refine ZS.putR 69 s k_36_14 rfl (zlt rfl) (fun _ => rfl) (fun _ => rfl) m_69 (zlt rfl) (zlt rfl) ⟨rfl, rfl⟩ (fun w s => ?_)
  refine ZW.aload_n k_36_17 rfl ?_
  refine ZW.bipush (nI 6) k_36_18 (by decide) ?_
  refine ZS.newa 72 0 0 s k_36_20 (zlt rfl) (zlt rfl) rfl m_71 (by decide) rfl rfl rfl rfl (fun w s => ?_)
  refine ZS.putR 70 s k_36_22 rfl (zlt rfl) (fun _ => rfl) (fun _ => rfl) m_69 (zlt rfl) (zlt rfl) ⟨rfl, rfl⟩ (fun w s => ?_)
  exact ZW.vret k_36_25 vr_36 (kk _ s)
theorem i_X0_init_59 {w : zW} {Q : Option Value → zW → Prop} (s : zST 60 59 74 w) (kk : ∀ w, zST 72 71 84 w → Q none w) : ZM G 0 [.ref 59] w 12 86 Q := by
  refine ZS.ent [some (.ref 59)] vl_0 rfl ?_
  refine ZW.aload_n k_0_0 rfl ?_
  refine ZW.oinit k_0_1 (by decide) (zlt rfl) ?_
  refine ZW.aload_n k_0_4 rfl ?_
  refine ZS.new 61 11 78 s k_0_5 (zlt rfl) m_60 rfl rfl rfl rfl (fun w s => ?_)
  refine ZW.dup k_0_8 rfl ?_
  refine ZS.call 63 61 80 9 48 s k_0_9 (zlt rfl) (zlt rfl) (by decide) (by rw [vl_54]; decide) (fun Q1 => i_X8_init_60 s) ⟨rfl, zlt rfl⟩ rfl rfl (fun w s => ?_)
  refine ZS.putR 62 s k_0_12 rfl (zlt rfl) (fun _ => rfl) (fun _ => rfl) m_59 (zlt rfl) (zlt rfl) ⟨rfl, rfl⟩ (fun w s => ?_)
  refine ZW.aload_n k_0_15 rfl ?_
  refine ZS.new 64 8 43 s k_0_16 (zlt rfl) m_63 rfl rfl rfl rfl (fun w s => ?_)
  refine ZW.dup k_0_19 rfl ?_
  refine ZS.call 67 65 82 5 25 s k_0_20 (zlt rfl) (zlt rfl) (by decide) (by rw [vl_47]; decide) (fun Q1 => i_X7_init_63 s) ⟨rfl, zlt rfl⟩ rfl rfl (fun w s => ?_)
  refine ZS.putR 66 s k_0_23 rfl (zlt rfl) (fun _ => rfl) (fun _ => rfl) m_59 (zlt rfl) (zlt rfl) ⟨rfl, rfl⟩ (fun w s => ?_)
  refine ZW.aload_n k_0_26 rfl ?_
  refine ZS.new 68 4 23 s k_0_27 (zlt rfl) m_67 rfl rfl rfl rfl (fun w s => ?_)
  refine ZW.dup k_0_30 rfl ?_
  refine ZS.call 69 67 83 3 15 s k_0_31 (zlt rfl) (zlt rfl) (by decide) (by rw [vl_8]; decide) (fun Q1 => i_X2_init_67 s) ⟨rfl, zlt rfl⟩ rfl rfl (fun w s => ?_)
  refine ZS.putR 68 s k_0_34 rfl (zlt rfl) (fun _ => rfl) (fun _ => rfl) m_59 (zlt rfl) (zlt rfl) ⟨rfl, rfl⟩ (fun w s => ?_)
  refine ZW.aload_n k_0_37 rfl ?_
  refine ZS.new 70 2 12 s k_0_38 (zlt rfl) m_69 rfl rfl rfl rfl (fun w s => ?_)
  refine ZW.dup k_0_41 rfl ?_
  refine ZS.call 72 70 84 0 0 s k_0_42 (zlt rfl) (zlt rfl) (by decide) (by rw [vl_36]; decide) (fun Q1 => i_X5_init_69 s) ⟨rfl, zlt rfl⟩ rfl rfl (fun w s => ?_)
  refine ZS.putR 71 s k_0_45 rfl (zlt rfl) (fun _ => rfl) (fun _ => rfl) m_59 (zlt rfl) (zlt rfl) ⟨rfl, rfl⟩ (fun w s => ?_)
  exact ZW.vret k_0_48 vr_0 (kk _ s)
theorem i_X8_init_73 {w : zW} {Q : Option Value → zW → Prop} (s : zST 74 72 84 w) (kk : ∀ w, zST 76 74 90 w → Q none w) : ZM G 54 [.ref 73] w 2 30 Q := by
  refine ZS.ent [some (.ref 73)] vl_54 rfl ?_
  refine ZW.aload_n k_54_0 rfl ?_
  refine ZW.oinit k_54_1 (by decide) (zlt rfl) ?_
  refine ZW.aload_n k_54_4 rfl ?_
  refine ZW.iconst (nI 0) k_54_5 (by decide) ?_
  refine ZS.putI 85 s k_54_6 rfl (zlt rfl) m_73 (zlt rfl) (by decide) ⟨rfl, rfl⟩ (fun w s => ?_)
  refine ZW.aload_n k_54_9 rfl ?_
  refine ZW.bipush (nI 20) k_54_10 (by decide) ?_
  refine ZS.putI 86 s k_54_12 rfl (zlt rfl) m_73 (zlt rfl) (by decide) ⟨rfl, rfl⟩ (fun w s => ?_)
  refine ZW.aload_n k_54_15 rfl ?_
  refine ZW.bipush (nI 8) k_54_16 (by decide) ?_
  refine ZS.putI 87 s k_54_18 rfl (zlt rfl) m_73 (zlt rfl) (by decide) ⟨rfl, rfl⟩ (fun w s => ?_)
  refine ZW.aload_n k_54_21 rfl ?_
  refine ZW.iconst (nI 0) k_54_22 (by decide) ?_
  refine ZS.putI 88 s k_54_23 rfl (zlt rfl) m_73 (zlt rfl) (by decide) ⟨rfl, rfl⟩ (fun w s => ?_)
  refine ZW.aload_n k_54_26 rfl ?_
  refine ZW.iconst (nI 0) k_54_27 (by decide) ?_
  refine ZS.putI 89 s k_54_28 rfl (zlt rfl) m_73 (zlt rfl) (by decide) ⟨rfl, rfl⟩ (fun w s => ?_)
  refine ZW.aload_n k_54_31 rfl ?_
  refine ZW.iconst (nI 0) k_54_32 (by decide) ?_
  refine ZS.putZ 90 s k_54_33 rfl (zlt rfl) (by decide) m_73 (zlt rfl) (by decide) ⟨rfl, rfl⟩ (fun w s => ?_)
  refine ZW.aload_n k_54_36 rfl ?_
  refine ZW.iconst (nI 5) k_54_37 (by decide) ?_
  refine ZS.newa 75 1 25 s k_54_38 (zlt rfl) (zlt rfl) rfl m_74 (by decide) rfl rfl rfl rfl (fun w s => ?_)
  refine ZS.putR 73 s k_54_40 rfl (zlt rfl) (fun _ => rfl) (fun _ => rfl) m_73 (zlt rfl) (zlt rfl) ⟨rfl, rfl⟩ (fun w s => ?_)
  refine ZW.aload_n k_54_43 rfl ?_
  refine ZW.bipush (nI 25) k_54_44 (by decide) ?_
  refine ZS.newa 76 0 0 s k_54_46 (zlt rfl) (zlt rfl) rfl m_75 (by decide) rfl rfl rfl rfl (fun w s => ?_)
  refine ZS.putR 74 s k_54_48 rfl (zlt rfl) (fun _ => rfl) (fun _ => rfl) m_73 (zlt rfl) (zlt rfl) ⟨rfl, rfl⟩ (fun w s => ?_)
  exact ZW.vret k_54_51 vr_54 (kk _ s)
theorem i_X7_init_76 {w : zW} {Q : Option Value → zW → Prop} (s : zST 77 75 90 w) (kk : ∀ w, zST 80 78 92 w → Q none w) : ZM G 47 [.ref 76] w 3 18 Q := by
  refine ZS.ent [some (.ref 76)] vl_47 rfl ?_
  refine ZW.aload_n k_47_0 rfl ?_
  refine ZW.oinit k_47_1 (by decide) (zlt rfl) ?_
  refine ZW.aload_n k_47_4 rfl ?_
  refine ZW.iconst (nI 0) k_47_5 (by decide) ?_
  refine ZS.putI 91 s k_47_6 rfl (zlt rfl) m_76 (zlt rfl) (by decide) ⟨rfl, rfl⟩ (fun w s => ?_)
  refine ZW.aload_n k_47_9 rfl ?_
  refine ZW.iconst (nI 0) k_47_10 (by decide) ?_
  refine ZS.putI 92 s k_47_11 rfl (zlt rfl) m_76 (zlt rfl) (by decide) ⟨rfl, rfl⟩ (fun w s => ?_)
  refine ZW.aload_n k_47_14 rfl ?_
  refine ZW.bipush (nI 6) k_47_15 (by decide) ?_
  refine ZS.newa 78 2 12 s k_47_17 (zlt rfl) (zlt rfl) rfl m_77 (by decide) rfl rfl rfl rfl (fun w s => ?_)
  refine ZS.putR 76 s k_47_19 rfl (zlt rfl) (fun _ => rfl) (fun _ => rfl) m_76 (zlt rfl) (zlt rfl) ⟨rfl, rfl⟩ (fun w s => ?_)
  refine ZW.aload_n k_47_22 rfl ?_
  refine ZW.bipush (nI 6) k_47_23 (by decide) ?_
  refine ZS.newa 79 1 6 s k_47_25 (zlt rfl) (zlt rfl) rfl m_78 (by decide) rfl rfl rfl rfl (fun w s => ?_)
  refine ZS.putR 77 s k_47_27 rfl (zlt rfl) (fun _ => rfl) (fun _ => rfl) m_76 (zlt rfl) (zlt rfl) ⟨rfl, rfl⟩ (fun w s => ?_)
  refine ZW.aload_n k_47_30 rfl ?_
  refine ZW.bipush (nI 6) k_47_31 (by decide) ?_
  refine ZS.newa 80 0 0 s k_47_33 (zlt rfl) (zlt rfl) rfl m_79 (by decide) rfl rfl rfl rfl (fun w s => ?_)
  refine ZS.putR 78 s k_47_35 rfl (zlt rfl) (fun _ => rfl) (fun _ => rfl) m_76 (zlt rfl) (zlt rfl) ⟨rfl, rfl⟩ (fun w s => ?_)
  exact ZW.vret k_47_38 vr_47 (kk _ s)
theorem i_X2_init_80 {w : zW} {Q : Option Value → zW → Prop} (s : zST 81 79 92 w) (kk : ∀ w, zST 82 80 93 w → Q none w) : ZM G 8 [.ref 80] w 1 8 Q := by
  refine ZS.ent [some (.ref 80)] vl_8 rfl ?_
  refine ZW.aload_n k_8_0 rfl ?_
  refine ZW.oinit k_8_1 (by decide) (zlt rfl) ?_
  refine ZW.aload_n k_8_4 rfl ?_
  refine ZW.iconst (nI 0) k_8_5 (by decide) ?_
  refine ZS.putI 93 s k_8_6 rfl (zlt rfl) m_80 (zlt rfl) (by decide) ⟨rfl, rfl⟩ (fun w s => ?_)
  refine ZW.aload_n k_8_9 rfl ?_
  refine ZW.bipush (nI 8) k_8_10 (by decide) ?_
  refine ZS.newa 82 0 0 s k_8_12 (zlt rfl) (zlt rfl) rfl m_81 (by decide) rfl rfl rfl rfl (fun w s => ?_)
  refine ZS.putR 80 s k_8_14 rfl (zlt rfl) (fun _ => rfl) (fun _ => rfl) m_80 (zlt rfl) (zlt rfl) ⟨rfl, rfl⟩ (fun w s => ?_)
  exact ZW.vret k_8_17 vr_8 (kk _ s)
theorem i_X5_init_82 {w : zW} {Q : Option Value → zW → Prop} (s : zST 83 81 93 w) (kk : ∀ w, zST 85 83 94 w → Q none w) : ZM G 36 [.ref 82] w 2 12 Q := by
  refine ZS.ent [some (.ref 82)] vl_36 rfl ?_
  refine ZW.aload_n k_36_0 rfl ?_
  refine ZW.oinit k_36_1 (by decide) (zlt rfl) ?_
  refine ZW.aload_n k_36_4 rfl ?_
  refine ZW.iconst (nI 0) k_36_5 (by decide) ?_
  refine ZS.putI 94 s k_36_6 rfl (zlt rfl) m_82 (zlt rfl) (by decide) ⟨rfl, rfl⟩ (fun w s => ?_)
  refine ZW.aload_n k_36_9 rfl ?_
  refine ZW.bipush (nI 6) k_36_10 (by decide) ?_
  refine ZS.newa 84 1 6 s k_36_12 (zlt rfl) (zlt rfl) rfl m_83 (by decide) rfl rfl rfl rfl (fun w s => ?_)
  refine ZS.putR 82 s k_36_14 rfl (zlt rfl) (fun _ => rfl) (fun _ => rfl) m_82 (zlt rfl) (zlt rfl) ⟨rfl, rfl⟩ (fun w s => ?_)
  refine ZW.aload_n k_36_17 rfl ?_
  refine ZW.bipush (nI 6) k_36_18 (by decide) ?_
  refine ZS.newa 85 0 0 s k_36_20 (zlt rfl) (zlt rfl) rfl m_84 (by decide) rfl rfl rfl rfl (fun w s => ?_)
  refine ZS.putR 83 s k_36_22 rfl (zlt rfl) (fun _ => rfl) (fun _ => rfl) m_82 (zlt rfl) (zlt rfl) ⟨rfl, rfl⟩ (fun w s => ?_)
  exact ZW.vret k_36_25 vr_36 (kk _ s)
theorem i_X0_init_72 {w : zW} {Q : Option Value → zW → Prop} (s : zST 73 72 84 w) (kk : ∀ w, zST 85 84 94 w → Q none w) : ZM G 0 [.ref 72] w 12 86 Q := by
  refine ZS.ent [some (.ref 72)] vl_0 rfl ?_
  refine ZW.aload_n k_0_0 rfl ?_
  refine ZW.oinit k_0_1 (by decide) (zlt rfl) ?_
  refine ZW.aload_n k_0_4 rfl ?_
  refine ZS.new 74 11 78 s k_0_5 (zlt rfl) m_73 rfl rfl rfl rfl (fun w s => ?_)
  refine ZW.dup k_0_8 rfl ?_
  refine ZS.call 76 74 90 9 48 s k_0_9 (zlt rfl) (zlt rfl) (by decide) (by rw [vl_54]; decide) (fun Q1 => i_X8_init_73 s) ⟨rfl, zlt rfl⟩ rfl rfl (fun w s => ?_)
  refine ZS.putR 75 s k_0_12 rfl (zlt rfl) (fun _ => rfl) (fun _ => rfl) m_72 (zlt rfl) (zlt rfl) ⟨rfl, rfl⟩ (fun w s => ?_)
  refine ZW.aload_n k_0_15 rfl ?_
  refine ZS.new 77 8 43 s k_0_16 (zlt rfl) m_76 rfl rfl rfl rfl (fun w s => ?_)
  refine ZW.dup k_0_19 rfl ?_
  refine ZS.call 80 78 92 5 25 s k_0_20 (zlt rfl) (zlt rfl) (by decide) (by rw [vl_47]; decide) (fun Q1 => i_X7_init_76 s) ⟨rfl, zlt rfl⟩ rfl rfl (fun w s => ?_)
  refine ZS.putR 79 s k_0_23 rfl (zlt rfl) (fun _ => rfl) (fun _ => rfl) m_72 (zlt rfl) (zlt rfl) ⟨rfl, rfl⟩ (fun w s => ?_)
  refine ZW.aload_n k_0_26 rfl ?_
  refine ZS.new 81 4 23 s k_0_27 (zlt rfl) m_80 rfl rfl rfl rfl (fun w s => ?_)
  refine ZW.dup k_0_30 rfl ?_
  refine ZS.call 82 80 93 3 15 s k_0_31 (zlt rfl) (zlt rfl) (by decide) (by rw [vl_8]; decide) (fun Q1 => i_X2_init_80 s) ⟨rfl, zlt rfl⟩ rfl rfl (fun w s => ?_)
  refine ZS.putR 81 s k_0_34 rfl (zlt rfl) (fun _ => rfl) (fun _ => rfl) m_72 (zlt rfl) (zlt rfl) ⟨rfl, rfl⟩ (fun w s => ?_)
  refine ZW.aload_n k_0_37 rfl ?_
  refine ZS.new 83 2 12 s k_0_38 (zlt rfl) m_82 rfl rfl rfl rfl (fun w s => ?_)
  refine ZW.dup k_0_41 rfl ?_
  refine ZS.call 85 83 94 0 0 s k_0_42 (zlt rfl) (zlt rfl) (by decide) (by rw [vl_36]; decide) (fun Q1 => i_X5_init_82 s) ⟨rfl, zlt rfl⟩ rfl rfl (fun w s => ?_)
  refine ZS.putR 84 s k_0_45 rfl (zlt rfl) (fun _ => rfl) (fun _ => rfl) m_72 (zlt rfl) (zlt rfl) ⟨rfl, rfl⟩ (fun w s => ?_)
  exact ZW.vret k_0_48 vr_0 (kk _ s)
theorem i_X6_init_85 {w : zW} {Q : Option Value → zW → Prop} (s : zST 86 85 94 w) (kk : ∀ w, zST 87 86 96 w → Q none w) : ZM G 41 [.ref 85] w 1 40 Q := by
  refine ZS.ent [some (.ref 85)] vl_41 rfl ?_
  refine ZW.aload_n k_41_0 rfl ?_
  refine ZW.oinit k_41_1 (by decide) (zlt rfl) ?_
  refine ZW.aload_n k_41_4 rfl ?_
  refine ZW.iconst (-1) k_41_5 (by decide) ?_
  refine ZS.putI 95 s k_41_6 rfl (zlt rfl) m_85 (zlt rfl) (by decide) ⟨rfl, rfl⟩ (fun w s => ?_)
  refine ZW.aload_n k_41_9 rfl ?_
  refine ZW.bipush (nI 40) k_41_10 (by decide) ?_
  refine ZS.newa 87 0 0 s k_41_12 (zlt rfl) (zlt rfl) rfl m_86 (by decide) rfl rfl rfl rfl (fun w s => ?_)
  refine ZS.putR 86 s k_41_14 rfl (zlt rfl) (fun _ => rfl) (fun _ => rfl) m_85 (zlt rfl) (zlt rfl) ⟨rfl, rfl⟩ (fun w s => ?_)
  refine ZW.aload_n k_41_17 rfl ?_
  refine ZW.iconst (nI 0) k_41_18 (by decide) ?_
  refine ZS.putI 96 s k_41_19 rfl (zlt rfl) m_85 (zlt rfl) (by decide) ⟨rfl, rfl⟩ (fun w s => ?_)
  exact ZW.vret k_41_22 vr_41 (kk _ s)
theorem i_X6_init_87 {w : zW} {Q : Option Value → zW → Prop} (s : zST 88 87 96 w) (kk : ∀ w, zST 89 88 98 w → Q none w) : ZM G 41 [.ref 87] w 1 40 Q := by
  refine ZS.ent [some (.ref 87)] vl_41 rfl ?_
  refine ZW.aload_n k_41_0 rfl ?_
  refine ZW.oinit k_41_1 (by decide) (zlt rfl) ?_
  refine ZW.aload_n k_41_4 rfl ?_
  refine ZW.iconst (-1) k_41_5 (by decide) ?_
  refine ZS.putI 97 s k_41_6 rfl (zlt rfl) m_87 (zlt rfl) (by decide) ⟨rfl, rfl⟩ (fun w s => ?_)
  refine ZW.aload_n k_41_9 rfl ?_
  refine ZW.bipush (nI 40) k_41_10 (by decide) ?_
  refine ZS.newa 89 0 0 s k_41_12 (zlt rfl) (zlt rfl) rfl m_88 (by decide) rfl rfl rfl rfl (fun w s => ?_)
  refine ZS.putR 88 s k_41_14 rfl (zlt rfl) (fun _ => rfl) (fun _ => rfl) m_87 (zlt rfl) (zlt rfl) ⟨rfl, rfl⟩ (fun w s => ?_)
  refine ZW.aload_n k_41_17 rfl ?_
  refine ZW.iconst (nI 0) k_41_18 (by decide) ?_
  refine ZS.putI 98 s k_41_19 rfl (zlt rfl) m_87 (zlt rfl) (by decide) ⟨rfl, rfl⟩ (fun w s => ?_)
  exact ZW.vret k_41_22 vr_41 (kk _ s)
theorem i_X6_init_89 {w : zW} {Q : Option Value → zW → Prop} (s : zST 90 89 98 w) (kk : ∀ w, zST 91 90 100 w → Q none w) : ZM G 41 [.ref 89] w 1 40 Q := by
  refine ZS.ent [some (.ref 89)] vl_41 rfl ?_
  refine ZW.aload_n k_41_0 rfl ?_
  refine ZW.oinit k_41_1 (by decide) (zlt rfl) ?_
  refine ZW.aload_n k_41_4 rfl ?_
  refine ZW.iconst (-1) k_41_5 (by decide) ?_
  refine ZS.putI 99 s k_41_6 rfl (zlt rfl) m_89 (zlt rfl) (by decide) ⟨rfl, rfl⟩ (fun w s => ?_)
  refine ZW.aload_n k_41_9 rfl ?_
  refine ZW.bipush (nI 40) k_41_10 (by decide) ?_
  refine ZS.newa 91 0 0 s k_41_12 (zlt rfl) (zlt rfl) rfl m_90 (by decide) rfl rfl rfl rfl (fun w s => ?_)
  refine ZS.putR 90 s k_41_14 rfl (zlt rfl) (fun _ => rfl) (fun _ => rfl) m_89 (zlt rfl) (zlt rfl) ⟨rfl, rfl⟩ (fun w s => ?_)
  refine ZW.aload_n k_41_17 rfl ?_
  refine ZW.iconst (nI 0) k_41_18 (by decide) ?_
  refine ZS.putI 100 s k_41_19 rfl (zlt rfl) m_89 (zlt rfl) (by decide) ⟨rfl, rfl⟩ (fun w s => ?_)
  exact ZW.vret k_41_22 vr_41 (kk _ s)
theorem i_X6_init_91 {w : zW} {Q : Option Value → zW → Prop} (s : zST 92 91 100 w) (kk : ∀ w, zST 93 92 102 w → Q none w) : ZM G 41 [.ref 91] w 1 40 Q := by
  refine ZS.ent [some (.ref 91)] vl_41 rfl ?_
  refine ZW.aload_n k_41_0 rfl ?_
  refine ZW.oinit k_41_1 (by decide) (zlt rfl) ?_
  refine ZW.aload_n k_41_4 rfl ?_
  refine ZW.iconst (-1) k_41_5 (by decide) ?_
  refine ZS.putI 101 s k_41_6 rfl (zlt rfl) m_91 (zlt rfl) (by decide) ⟨rfl, rfl⟩ (fun w s => ?_)
  refine ZW.aload_n k_41_9 rfl ?_
  refine ZW.bipush (nI 40) k_41_10 (by decide) ?_
  refine ZS.newa 93 0 0 s k_41_12 (zlt rfl) (zlt rfl) rfl m_92 (by decide) rfl rfl rfl rfl (fun w s => ?_)
  refine ZS.putR 92 s k_41_14 rfl (zlt rfl) (fun _ => rfl) (fun _ => rfl) m_91 (zlt rfl) (zlt rfl) ⟨rfl, rfl⟩ (fun w s => ?_)
  refine ZW.aload_n k_41_17 rfl ?_
  refine ZW.iconst (nI 0) k_41_18 (by decide) ?_
  refine ZS.putI 102 s k_41_19 rfl (zlt rfl) m_91 (zlt rfl) (by decide) ⟨rfl, rfl⟩ (fun w s => ?_)
  exact ZW.vret k_41_22 vr_41 (kk _ s)
theorem i_X10_init_0 {w : zW} {Q : Option Value → zW → Prop} (s : zST 1 0 0 w) (kk : ∀ w, zST 93 93 102 w → Q none w) : ZM G 73 [.ref 0] w 92 989 Q := by
  refine ZS.ent [some (.ref 0), none] vl_73 rfl ?_
  refine ZW.aload_n k_73_0 rfl ?_
  refine ZW.oinit k_73_1 (by decide) (zlt rfl) ?_
  refine ZW.aload_n k_73_4 rfl ?_
  refine ZS.new 2 91 985 s k_73_5 (zlt rfl) m_1 rfl rfl rfl rfl (fun w s => ?_)
  refine ZW.dup k_73_8 rfl ?_
  refine ZS.call 14 12 10 79 899 s k_73_9 (zlt rfl) (zlt rfl) (by decide) (by rw [vl_0]; decide) (fun Q1 => i_X0_init_1 s) ⟨rfl, zlt rfl⟩ rfl rfl (fun w s => ?_)
  refine ZS.putR 13 s k_73_12 rfl (zlt rfl) (fun _ => rfl) (fun _ => rfl) m_0 (zlt rfl) (zlt rfl) ⟨rfl, rfl⟩ (fun w s => ?_)
  refine ZW.aload_n k_73_15 rfl ?_
  refine ZW.iconst (nI 2) k_73_16 (by decide) ?_
  refine ZS.newq 15 78 897 s k_73_17 (zlt rfl) m_14 (by decide) (by decide) rfl rfl rfl rfl (fun w s => ?_)
  refine ZS.putR 14 s k_73_20 rfl (zlt rfl) (fun _ => rfl) (fun _ => rfl) m_0 (zlt rfl) (zlt rfl) ⟨rfl, rfl⟩ (fun w s => ?_)
  refine ZW.aload_n k_73_23 rfl ?_
  refine ZW.iconst (nI 0) k_73_24 (by decide) ?_
  refine ZS.putI 11 s k_73_25 rfl (zlt rfl) m_0 (zlt rfl) (by decide) ⟨rfl, rfl⟩ (fun w s => ?_)
  refine ZW.aload_n k_73_28 rfl ?_
  refine ZS.new 16 77 889 s k_73_29 (zlt rfl) m_15 rfl rfl rfl rfl (fun w s => ?_)
  refine ZW.dup k_73_32 rfl ?_
  refine ZS.call 31 29 30 62 635 s k_73_33 (zlt rfl) (zlt rfl) (by decide) (by rw [vl_13]; decide) (fun Q1 => i_X3_init_15 s) ⟨rfl, zlt rfl⟩ rfl rfl (fun w s => ?_)
  refine ZS.putR 30 s k_73_36 rfl (zlt rfl) (fun _ => rfl) (fun _ => rfl) m_0 (zlt rfl) (zlt rfl) ⟨rfl, rfl⟩ (fun w s => ?_)
  refine ZW.aload_n k_73_39 rfl ?_
  refine ZW.aload_n k_73_40 rfl ?_
  refine ZW.getR (r := 15) k_73_41 (zlt rfl) rfl (s.at m_0 (zlt rfl)) (zlt rfl) (s.ref (by decide +kernel)) (zlt rfl) ?_
  refine ZW.getR (r := 29) k_73_44 (zlt rfl) rfl (s.at m_15 (zlt rfl)) (zlt rfl) (s.ref (by decide +kernel)) (zlt rfl) ?_
  refine ZS.putR 31 s k_73_47 rfl (zlt rfl) (fun _ => rfl) (fun _ => rfl) m_0 (zlt rfl) (zlt rfl) ⟨rfl, rfl⟩ (fun w s => ?_)
  refine ZW.aload_n k_73_50 rfl ?_
  refine ZS.new 32 61 627 s k_73_51 (zlt rfl) m_31 rfl rfl rfl rfl (fun w s => ?_)
  refine ZW.dup k_73_54 rfl ?_
  refine ZS.call 34 33 36 59 597 s k_73_55 (zlt rfl) (zlt rfl) (by decide) (by rw [vl_54]; decide) (fun Q1 => i_X8_init_31 s) ⟨rfl, zlt rfl⟩ rfl rfl (fun w s => ?_)
  refine ZS.putR 34 s k_73_58 rfl (zlt rfl) (fun _ => rfl) (fun _ => rfl) m_0 (zlt rfl) (zlt rfl) ⟨rfl, rfl⟩ (fun w s => ?_)
  refine ZW.aload_n k_73_61 rfl ?_
  refine ZS.new 35 58 588 s k_73_62 (zlt rfl) m_34 rfl rfl rfl rfl (fun w s => ?_)
  refine ZW.dup k_73_65 rfl ?_
  refine ZS.call 54 53 71 39 375 s k_73_66 (zlt rfl) (zlt rfl) (by decide) (by rw [vl_26]; decide) (fun Q1 => i_X4_init_34 s) ⟨rfl, zlt rfl⟩ rfl rfl (fun w s => ?_)
  refine ZS.putR 54 s k_73_69 rfl (zlt rfl) (fun _ => rfl) (fun _ => rfl) m_0 (zlt rfl) (zlt rfl) ⟨rfl, rfl⟩ (fun w s => ?_)
  refine ZW.aload_n k_73_72 rfl ?_
  refine ZS.new 55 38 371 s k_73_73 (zlt rfl) m_54 rfl rfl rfl rfl (fun w s => ?_)
  refine ZW.dup k_73_76 rfl ?_
  refine ZS.call 58 57 72 35 356 s k_73_77 (zlt rfl) (zlt rfl) (by decide) (by rw [vl_3]; decide) (fun Q1 => i_X1_init_54 s) ⟨rfl, zlt rfl⟩ rfl rfl (fun w s => ?_)
  refine ZS.putR 58 s k_73_80 rfl (zlt rfl) (fun _ => rfl) (fun _ => rfl) m_0 (zlt rfl) (zlt rfl) ⟨rfl, rfl⟩ (fun w s => ?_)
  refine ZW.aload_n k_73_83 rfl ?_
  refine ZW.iconst (nI 4) k_73_84 (by decide) ?_
  refine ZS.newq 59 34 352 s k_73_85 (zlt rfl) m_58 (by decide) (by decide) rfl rfl rfl rfl (fun w s => ?_)
  refine ZS.putR 59 s k_73_88 rfl (zlt rfl) (fun _ => rfl) (fun _ => rfl) m_0 (zlt rfl) (zlt rfl) ⟨rfl, rfl⟩ (fun w s => ?_)
  refine ZW.aload_n k_73_91 rfl ?_
  refine ZW.iconst (nI 0) k_73_92 (by decide) ?_
  refine ZS.putI 73 s k_73_93 rfl (zlt rfl) m_0 (zlt rfl) (by decide) ⟨rfl, rfl⟩ (fun w s => ?_)
  refine ZW.aload_n k_73_96 rfl ?_
  refine ZW.iconst (nI 0) k_73_97 (by decide) ?_
  refine ZS.putI 74 s k_73_98 rfl (zlt rfl) m_0 (zlt rfl) (by decide) ⟨rfl, rfl⟩ (fun w s => ?_)
  refine ZW.iconst (nI 0) k_73_101 (by decide) ?_
  refine ZW.istore_n [some (.ref 0), some (.int (nI 0))] k_73_102 (by rw [vl_73]; decide) rfl ?_
  refine ZW.iload_n k_73_103 rfl ?_
  refine ZW.iconst (nI 2) k_73_104 (by decide) ?_
  refine ZW.icmp_ge k_73_105 (fun z => absurd z (by decide)) (fun _ => ?_)
  refine ZW.aload_n k_73_108 rfl ?_
  refine ZW.getR (r := 14) k_73_109 (zlt rfl) rfl (s.at m_0 (zlt rfl)) (zlt rfl) (s.ref (by decide +kernel)) (zlt rfl) ?_
  refine ZW.iload_n k_73_112 rfl ?_
  refine ZS.new 60 33 348 s k_73_113 (zlt rfl) m_59 rfl rfl rfl rfl (fun w s => ?_)
  refine ZW.dup k_73_116 rfl ?_
  refine ZS.call 72 71 84 21 262 s k_73_117 (zlt rfl) (zlt rfl) (by decide) (by rw [vl_0]; decide) (fun Q1 => i_X0_init_59 s) ⟨rfl, zlt rfl⟩ rfl rfl (fun w s => ?_)
  refine ZS.aast 72 0 s k_73_120 (zlt rfl) m_14 (zlt rfl) rfl (zlt rfl) (zlt rfl) m_59 (zlt rfl) ⟨rfl, rfl⟩ (fun w s => ?_)
  refine ZW.iinc (nI 1) [some (.ref 0), some (.int (nI 1))] k_73_121 rfl (by decide) (by rw [vl_73]; decide) rfl ?_
  refine ZW.goto k_73_124 ?_
  refine ZW.iload_n k_73_103 rfl ?_
  refine ZW.iconst (nI 2) k_73_104 (by decide) ?_
  refine ZW.icmp_ge k_73_105 (fun z => absurd z (by decide)) (fun _ => ?_)
  refine ZW.aload_n k_73_108 rfl ?_
  refine ZW.getR (r := 14) k_73_109 (zlt rfl) rfl (s.at m_0 (zlt rfl)) (zlt rfl) (s.ref (by decide +kernel)) (zlt rfl) ?_
  refine ZW.iload_n k_73_112 rfl ?_
  refine ZS.new 73 20 258 s k_73_113 (zlt rfl) m_72 rfl rfl rfl rfl (fun w s => ?_)
  refine ZW.dup k_73_116 rfl ?_
  refine ZS.call 85 84 94 8 172 s k_73_117 (zlt rfl) (zlt rfl) (by decide) (by rw [vl_0]; decide) (fun Q1 => i_X0_init_72 s) ⟨rfl, zlt rfl⟩ rfl rfl (fun w s => ?_)
  refine ZS.aast 85 1 s k_73_120 (zlt rfl) m_14 (zlt rfl) rfl (zlt rfl) (zlt rfl) m_72 (zlt rfl) ⟨rfl, rfl⟩ (fun w s => ?_)
  refine ZW.iinc (nI 2) [some (.ref 0), some (.int (nI 2))] k_73_121 rfl (by decide) (by rw [vl_73]; decide) rfl ?_
  refine ZW.goto k_73_124 ?_
  refine ZW.iload_n k_73_103 rfl ?_
  refine ZW.iconst (nI 2) k_73_104 (by decide) ?_
  refine ZW.icmp_ge k_73_105 (fun _ => ?_) (fun z => absurd (by decide) z)
  refine ZW.iconst (nI 0) k_73_127 (by decide) ?_
  refine ZW.istore_n [some (.ref 0), some (.int (nI 0))] k_73_128 (by rw [vl_73]; decide) rfl ?_
  refine ZW.iload_n k_73_129 rfl ?_
  refine ZW.iconst (nI 4) k_73_130 (by decide) ?_
  refine ZW.icmp_ge k_73_131 (fun z => absurd z (by decide)) (fun _ => ?_)
  refine ZW.aload_n k_73_134 rfl ?_
  refine ZW.getR (r := 58) k_73_135 (zlt rfl) rfl (s.at m_0 (zlt rfl)) (zlt rfl) (s.ref (by decide +kernel)) (zlt rfl) ?_
  refine ZW.iload_n k_73_138 rfl ?_
  refine ZS.new 86 7 169 s k_73_139 (zlt rfl) m_85 rfl rfl rfl rfl (fun w s => ?_)
  refine ZW.dup k_73_142 rfl ?_
  refine ZS.call 87 86 96 6 129 s k_73_143 (zlt rfl) (zlt rfl) (by decide) (by rw [vl_41]; decide) (fun Q1 => i_X6_init_85 s) ⟨rfl, zlt rfl⟩ rfl rfl (fun w s => ?_)
  refine ZS.aast 87 0 s k_73_146 (zlt rfl) m_58 (zlt rfl) rfl (zlt rfl) (zlt rfl) m_85 (zlt rfl) ⟨rfl, rfl⟩ (fun w s => ?_)
  refine ZW.iinc (nI 1) [some (.ref 0), some (.int (nI 1))] k_73_147 rfl (by decide) (by rw [vl_73]; decide) rfl ?_
  refine ZW.goto k_73_150 ?_
  refine ZW.iload_n k_73_129 rfl ?_
  refine ZW.iconst (nI 4) k_73_130 (by decide) ?_
  refine ZW.icmp_ge k_73_131 (fun z => absurd z (by decide)) (fun _ => ?_)
  refine ZW.aload_n k_73_134 rfl ?_
  refine ZW.getR (r := 58) k_73_135 (zlt rfl) rfl (s.at m_0 (zlt rfl)) (zlt rfl) (s.ref (by decide +kernel)) (zlt rfl) ?_
  refine ZW.iload_n k_73_138 rfl ?_
  refine ZS.new 88 5 126 s k_73_139 (zlt rfl) m_87 rfl rfl rfl rfl (fun w s => ?_)
  refine ZW.dup k_73_142 rfl ?_
  refine ZS.call 89 88 98 4 86 s k_73_143 (zlt rfl) (zlt rfl) (by decide) (by rw [vl_41]; decide) (fun Q1 => i_X6_init_87 s) ⟨rfl, zlt rfl⟩ rfl rfl (fun w s => ?_)
  refine ZS.aast 89 1 s k_73_146 (zlt rfl) m_58 (zlt rfl) rfl (zlt rfl) (zlt rfl) m_87 (zlt rfl) ⟨rfl, rfl⟩ (fun w s => ?_)
  refine ZW.iinc (nI 2) [some (.ref 0), some (.int (nI 2))] k_73_147 rfl (by decide) (by rw [vl_73]; decide) rfl ?_
  refine ZW.goto k_73_150 ?_
  refine ZW.iload_n k_73_129 rfl ?_
  refine ZW.iconst (nI 4) k_73_130 (by decide) ?_
  refine ZW.icmp_ge k_73_131 (fun z => absurd z (by decide)) (fun _ => ?_)
  refine ZW.aload_n k_73_134 rfl ?_
  refine ZW.getR (r := 58) k_73_135 (zlt rfl) rfl (s.at m_0 (zlt rfl)) (zlt rfl) (s.ref (by decide +kernel)) (zlt rfl) ?_
  refine ZW.iload_n k_73_138 rfl ?_
  refine ZS.new 90 3 83 s k_73_139 (zlt rfl) m_89 rfl rfl rfl rfl (fun w s => ?_)
  refine ZW.dup k_73_142 rfl ?_
  refine ZS.call 91 90 100 2 43 s k_73_143 (zlt rfl) (zlt rfl) (by decide) (by rw [vl_41]; decide) (fun Q1 => i_X6_init_89 s) ⟨rfl, zlt rfl⟩ rfl rfl (fun w s => ?_)
  refine ZS.aast 91 2 s k_73_146 (zlt rfl) m_58 (zlt rfl) rfl (zlt rfl) (zlt rfl) m_89 (zlt rfl) ⟨rfl, rfl⟩ (fun w s => ?_)
  refine ZW.iinc (nI 3) [some (.ref 0), some (.int (nI 3))] k_73_147 rfl (by decide) (by rw [vl_73]; decide) rfl ?_
  refine ZW.goto k_73_150 ?_
  refine ZW.iload_n k_73_129 rfl ?_
  refine ZW.iconst (nI 4) k_73_130 (by decide) ?_
  refine ZW.icmp_ge k_73_131 (fun z => absurd z (by decide)) (fun _ => ?_)
  refine ZW.aload_n k_73_134 rfl ?_
  refine ZW.getR (r := 58) k_73_135 (zlt rfl) rfl (s.at m_0 (zlt rfl)) (zlt rfl) (s.ref (by decide +kernel)) (zlt rfl) ?_
  refine ZW.iload_n k_73_138 rfl ?_
  refine ZS.new 92 1 40 s k_73_139 (zlt rfl) m_91 rfl rfl rfl rfl (fun w s => ?_)
  refine ZW.dup k_73_142 rfl ?_
  refine ZS.call 93 92 102 0 0 s k_73_143 (zlt rfl) (zlt rfl) (by decide) (by rw [vl_41]; decide) (fun Q1 => i_X6_init_91 s) ⟨rfl, zlt rfl⟩ rfl rfl (fun w s => ?_)
  refine ZS.aast 93 3 s k_73_146 (zlt rfl) m_58 (zlt rfl) rfl (zlt rfl) (zlt rfl) m_91 (zlt rfl) ⟨rfl, rfl⟩ (fun w s => ?_)
  refine ZW.iinc (nI 4) [some (.ref 0), some (.int (nI 4))] k_73_147 rfl (by decide) (by rw [vl_73]; decide) rfl ?_
  refine ZW.goto k_73_150 ?_
  refine ZW.iload_n k_73_129 rfl ?_
  refine ZW.iconst (nI 4) k_73_130 (by decide) ?_
  refine ZW.icmp_ge k_73_131 (fun _ => ?_) (fun z => absurd (by decide) z)
  exact ZW.vret k_73_153 vr_73 (kk _ s)
theorem i_X11_init_93 {w : zW} {Q : Option Value → zW → Prop} (s : zST 94 93 102 w) (kk : ∀ w, zST 111 110 102 w → ZW G 130 139 [some (.ref 93), none] [] w 0 0 Q) : ZM G 130 [.ref 93] w 17 729 Q := by
  refine ZS.ent [some (.ref 93), none] vl_130 rfl ?_
  refine ZW.aload_n k_130_0 rfl ?_
  refine ZW.oinit k_130_1 (by decide) (zlt rfl) ?_
  refine ZW.aload_n k_130_4 rfl ?_
  refine ZW.sipush (nI 174) k_130_5 (by decide) ?_
  refine ZS.newa 95 16 555 s k_130_8 (zlt rfl) (zlt rfl) rfl m_94 (by decide) rfl rfl rfl rfl (fun w s => ?_)
  refine ZS.putR 94 s k_130_10 rfl (zlt rfl) (fun _ => rfl) (fun _ => rfl) m_93 (zlt rfl) (zlt rfl) ⟨rfl, rfl⟩ (fun w s => ?_)
  refine ZW.aload_n k_130_13 rfl ?_
  refine ZW.bipush (nI 58) k_130_14 (by decide) ?_
  refine ZS.newa 96 15 497 s k_130_16 (zlt rfl) (zlt rfl) rfl m_95 (by decide) rfl rfl rfl rfl (fun w s => ?_)
  refine ZS.putR 95 s k_130_18 rfl (zlt rfl) (fun _ => rfl) (fun _ => rfl) m_93 (zlt rfl) (zlt rfl) ⟨rfl, rfl⟩ (fun w s => ?_)
  refine ZW.aload_n k_130_21 rfl ?_
  refine ZW.iconst (nI 2) k_130_22 (by decide) ?_
  refine ZS.newa 97 14 495 s k_130_23 (zlt rfl) (zlt rfl) rfl m_96 (by decide) rfl rfl rfl rfl (fun w s => ?_)
  refine ZS.putR 96 s k_130_25 rfl (zlt rfl) (fun _ => rfl) (fun _ => rfl) m_93 (zlt rfl) (zlt rfl) ⟨rfl, rfl⟩ (fun w s => ?_)
  refine ZW.aload_n k_130_28 rfl ?_
  refine ZW.bipush (nI 6) k_130_29 (by decide) ?_
  refine ZS.newa 98 13 489 s k_130_31 (zlt rfl) (zlt rfl) rfl m_97 (by decide) rfl rfl rfl rfl (fun w s => ?_)
  refine ZS.putR 97 s k_130_33 rfl (zlt rfl) (fun _ => rfl) (fun _ => rfl) m_93 (zlt rfl) (zlt rfl) ⟨rfl, rfl⟩ (fun w s => ?_)
  refine ZW.aload_n k_130_36 rfl ?_
  refine ZW.bipush (nI 6) k_130_37 (by decide) ?_
  refine ZS.newa 99 12 483 s k_130_39 (zlt rfl) (zlt rfl) rfl m_98 (by decide) rfl rfl rfl rfl (fun w s => ?_)
  refine ZS.putR 98 s k_130_41 rfl (zlt rfl) (fun _ => rfl) (fun _ => rfl) m_93 (zlt rfl) (zlt rfl) ⟨rfl, rfl⟩ (fun w s => ?_)
  refine ZW.aload_n k_130_44 rfl ?_
  refine ZW.bipush (nI 6) k_130_45 (by decide) ?_
  refine ZS.newa 100 11 477 s k_130_47 (zlt rfl) (zlt rfl) rfl m_99 (by decide) rfl rfl rfl rfl (fun w s => ?_)
  refine ZS.putR 99 s k_130_49 rfl (zlt rfl) (fun _ => rfl) (fun _ => rfl) m_93 (zlt rfl) (zlt rfl) ⟨rfl, rfl⟩ (fun w s => ?_)
  refine ZW.aload_n k_130_52 rfl ?_
  refine ZW.bipush (nI 58) k_130_53 (by decide) ?_
  refine ZS.newa 101 10 419 s k_130_55 (zlt rfl) (zlt rfl) rfl m_100 (by decide) rfl rfl rfl rfl (fun w s => ?_)
  refine ZS.putR 100 s k_130_57 rfl (zlt rfl) (fun _ => rfl) (fun _ => rfl) m_93 (zlt rfl) (zlt rfl) ⟨rfl, rfl⟩ (fun w s => ?_)
  refine ZW.aload_n k_130_60 rfl ?_
  refine ZW.bipush (nI 6) k_130_61 (by decide) ?_
  refine ZS.newa 102 9 413 s k_130_63 (zlt rfl) (zlt rfl) rfl m_101 (by decide) rfl rfl rfl rfl (fun w s => ?_)
  refine ZS.putR 101 s k_130_65 rfl (zlt rfl) (fun _ => rfl) (fun _ => rfl) m_93 (zlt rfl) (zlt rfl) ⟨rfl, rfl⟩ (fun w s => ?_)
  refine ZW.aload_n k_130_68 rfl ?_
  refine ZW.bipush (nI 6) k_130_69 (by decide) ?_
  refine ZS.newa 103 8 407 s k_130_71 (zlt rfl) (zlt rfl) rfl m_102 (by decide) rfl rfl rfl rfl (fun w s => ?_)
  refine ZS.putR 102 s k_130_73 rfl (zlt rfl) (fun _ => rfl) (fun _ => rfl) m_93 (zlt rfl) (zlt rfl) ⟨rfl, rfl⟩ (fun w s => ?_)
  refine ZW.aload_n k_130_76 rfl ?_
  refine ZW.bipush (nI 6) k_130_77 (by decide) ?_
  refine ZS.newa 104 7 401 s k_130_79 (zlt rfl) (zlt rfl) rfl m_103 (by decide) rfl rfl rfl rfl (fun w s => ?_)
  refine ZS.putR 103 s k_130_81 rfl (zlt rfl) (fun _ => rfl) (fun _ => rfl) m_93 (zlt rfl) (zlt rfl) ⟨rfl, rfl⟩ (fun w s => ?_)
  refine ZW.aload_n k_130_84 rfl ?_
  refine ZW.sipush (nI 160) k_130_85 (by decide) ?_
  refine ZS.newa 105 6 241 s k_130_88 (zlt rfl) (zlt rfl) rfl m_104 (by decide) rfl rfl rfl rfl (fun w s => ?_)
  refine ZS.putR 104 s k_130_90 rfl (zlt rfl) (fun _ => rfl) (fun _ => rfl) m_93 (zlt rfl) (zlt rfl) ⟨rfl, rfl⟩ (fun w s => ?_)
  refine ZW.aload_n k_130_93 rfl ?_
  refine ZW.bipush (nI 10) k_130_94 (by decide) ?_
  refine ZS.newa 106 5 231 s k_130_96 (zlt rfl) (zlt rfl) rfl m_105 (by decide) rfl rfl rfl rfl (fun w s => ?_)
  refine ZS.putR 105 s k_130_98 rfl (zlt rfl) (fun _ => rfl) (fun _ => rfl) m_93 (zlt rfl) (zlt rfl) ⟨rfl, rfl⟩ (fun w s => ?_)
  refine ZW.aload_n k_130_101 rfl ?_
  refine ZW.iconst (nI 5) k_130_102 (by decide) ?_
  refine ZS.newa 107 4 226 s k_130_103 (zlt rfl) (zlt rfl) rfl m_106 (by decide) rfl rfl rfl rfl (fun w s => ?_)
  refine ZS.putR 106 s k_130_105 rfl (zlt rfl) (fun _ => rfl) (fun _ => rfl) m_93 (zlt rfl) (zlt rfl) ⟨rfl, rfl⟩ (fun w s => ?_)
  refine ZW.aload_n k_130_108 rfl ?_
  refine ZW.iconst (nI 4) k_130_109 (by decide) ?_
  refine ZS.newa 108 3 222 s k_130_110 (zlt rfl) (zlt rfl) rfl m_107 (by decide) rfl rfl rfl rfl (fun w s => ?_)
  refine ZS.putR 107 s k_130_112 rfl (zlt rfl) (fun _ => rfl) (fun _ => rfl) m_93 (zlt rfl) (zlt rfl) ⟨rfl, rfl⟩ (fun w s => ?_)
  refine ZW.aload_n k_130_115 rfl ?_
  refine ZW.iconst (nI 4) k_130_116 (by decide) ?_
  refine ZS.newa 109 2 218 s k_130_117 (zlt rfl) (zlt rfl) rfl m_108 (by decide) rfl rfl rfl rfl (fun w s => ?_)
  refine ZS.putR 108 s k_130_119 rfl (zlt rfl) (fun _ => rfl) (fun _ => rfl) m_93 (zlt rfl) (zlt rfl) ⟨rfl, rfl⟩ (fun w s => ?_)
  refine ZW.aload_n k_130_122 rfl ?_
  refine ZW.sipush (nI 160) k_130_123 (by decide) ?_
  refine ZS.newa 110 1 58 s k_130_126 (zlt rfl) (zlt rfl) rfl m_109 (by decide) rfl rfl rfl rfl (fun w s => ?_)
  refine ZS.putR 109 s k_130_128 rfl (zlt rfl) (fun _ => rfl) (fun _ => rfl) m_93 (zlt rfl) (zlt rfl) ⟨rfl, rfl⟩ (fun w s => ?_)
  refine ZW.aload_n k_130_131 rfl ?_
  refine ZW.bipush (nI 58) k_130_132 (by decide) ?_
  refine ZS.newa 111 0 0 s k_130_134 (zlt rfl) (zlt rfl) rfl m_110 (by decide) rfl rfl rfl rfl (fun w s => ?_)
  refine ZS.putR 110 s k_130_136 rfl (zlt rfl) (fun _ => rfl) (fun _ => rfl) m_93 (zlt rfl) (zlt rfl) ⟨rfl, rfl⟩ (fun w s => ?_)
  exact kk _ s
end MADE
