/-! THE TEXT: the reference's other helper, its lines -/
theorem zpu_id {I : zI} {q k : Nat} {x : Int32} (h : x = I q k) : zpu I q k x = I := by
  funext p
  funext j
  rw [zpu_at]
  split
  · rename_i z; obtain ⟨rfl, rfl⟩ := z; exact h
  · rfl
/-- what a told pair adds: nothing for slips and plans -/
def xm (one bo a b : Nat) : Int32 := if one = 1 then hm bo a b else nI 0 ||| nI 0
section OTHER
variable {G : zG} {I : zI} {L : zJ} {Q : zP} {T : zTp} {p s e c h a : Nat} {w : Int32}
theorem c_readOtherF10 (ft : FT I c s) (hw : I 93 15 = w) (hq : Q (some (.int (nI 0))) I L) : Zm G 146 [.ref 93, .int (nI a), .int (nI 1), .int (nI 0)] I L Q := by
  have f1 := ft.1
  have f3 := ft.2.2.1
  have f4 := ft.2.2.2
  refine Zm.go [some (.ref _), some (.int _), some (.int _), some (.int _), none, none] vl_146 rfl ?_
  refine Zp.aload_n k_146_0 rfl ?_
  refine Zp.iconst (nI 0) k_146_1 (by decide) ?_
  refine Zp.iconst (nI 4) k_146_2 (by decide) ?_
  refine Zp.callv2I v_143 k_146_3 m_93 (Nat.le_of_ble_eq_true rfl) (Nat.le_of_ble_eq_true rfl) (c_lookedF ft ⟨_, rfl, ?_⟩)
  refine Zp.istore [some (.ref _), some (.int _), some (.int _), some (.int _), some (.int _), none] k_146_6 (Nat.lt_of_lt_of_eq (zlt rfl : 4 < 6) vl_146.symm) rfl ?_
  refine Zp.aload_n k_146_8 rfl ?_
  refine Zp.getV k_146_9 rfl (zlt rfl) m_93 f1 ?_
  refine Zp.if_neN k_146_12 (by omega) (fun c_12 => ?_) (fun c_12 => absurd c_12 (by omega))
  refine Zp.iload_n k_146_31 rfl ?_
  refine Zp.if_eqN k_146_32 (by omega) (fun c => absurd c (by decide)) (fun _ => ?_)
  refine Zp.aload_n k_146_35 rfl ?_
  refine Zp.getV k_146_36 rfl (zlt rfl) m_93 hw ?_
  refine Zp.iconst (nI 5) k_146_39 (by decide) ?_
  refine Zp.iload_n k_146_40 rfl ?_
  refine Zp.imulN k_146_41 ?_
  refine Zp.iload k_146_42 rfl ?_
  refine Zp.iaddN k_146_44 ?_
  refine Zp.ishr k_146_45 ?_
  refine Zp.iconst (nI 1) k_146_46 (by decide) ?_
  refine Zp.iand k_146_47 ?_
  refine Zp.iconst (nI 1) k_146_48 (by decide) ?_
  refine Zp.icmp_eq k_146_49 (fun c_49 => ?_) (fun c_49 => ?_)
  · refine Zp.iconst (nI 1) k_146_73 (by decide) ?_
    refine Zp.goto k_146_74 ?_
    refine Zp.istore [some (.ref _), some (.int _), some (.int _), some (.int _), some (.int _), some (.int _)] k_146_78 (Nat.lt_of_lt_of_eq (zlt rfl : 5 < 6) vl_146.symm) rfl ?_
    refine Zp.aload_n k_146_80 rfl ?_
    refine Zp.getV k_146_81 rfl (zlt rfl) m_93 f1 ?_
    refine Zp.if_neN k_146_84 (by omega) (fun c_84 => ?_) (fun c_84 => absurd c_84 (by omega))
    refine Zp.aload_n k_146_102 rfl ?_
    refine Zp.getV k_146_103 rfl (zlt rfl) m_93 f1 ?_
    refine Zp.if_neN k_146_106 (by omega) (fun c_106 => ?_) (fun c_106 => absurd c_106 (by omega))
    refine Zp.aload_n k_146_173 rfl ?_
    refine Zp.callv0V v_142 k_146_174 m_93 (Nat.le_of_ble_eq_true rfl) (Nat.le_of_ble_eq_true rfl) (c_nextF f1 f3 f4 ⟨rfl, ?_⟩)
    refine Zp.iload k_146_177 rfl ?_
    refine Zp.iret _ k_146_179 vr_146 rfl ?_
    exact hq
  · refine Zp.iload_n k_146_52 rfl ?_
    refine Zp.if_eqN k_146_53 (by omega) (fun _ => ?_) (fun c => absurd c (by decide))
    refine Zp.iconst (nI 0) k_146_77 (by decide) ?_
    refine Zp.istore [some (.ref _), some (.int _), some (.int _), some (.int _), some (.int _), some (.int _)] k_146_78 (Nat.lt_of_lt_of_eq (zlt rfl : 5 < 6) vl_146.symm) rfl ?_
    refine Zp.aload_n k_146_80 rfl ?_
    refine Zp.getV k_146_81 rfl (zlt rfl) m_93 f1 ?_
    refine Zp.if_neN k_146_84 (by omega) (fun c_84 => ?_) (fun c_84 => absurd c_84 (by omega))
    refine Zp.aload_n k_146_102 rfl ?_
    refine Zp.getV k_146_103 rfl (zlt rfl) m_93 f1 ?_
    refine Zp.if_neN k_146_106 (by omega) (fun c_106 => ?_) (fun c_106 => absurd c_106 (by omega))
    refine Zp.aload_n k_146_173 rfl ?_
    refine Zp.callv0V v_142 k_146_174 m_93 (Nat.le_of_ble_eq_true rfl) (Nat.le_of_ble_eq_true rfl) (c_nextF f1 f3 f4 ⟨rfl, ?_⟩)
    refine Zp.iload k_146_177 rfl ?_
    refine Zp.iret _ k_146_179 vr_146 rfl ?_
    exact hq
theorem c_readOtherF11 (ft : FT I c s) (hw : I 93 15 = w) (hq : Q (some (.int (nI 0))) I L) : Zm G 146 [.ref 93, .int (nI a), .int (nI 1), .int (nI 1)] I L Q := by
  have f1 := ft.1
  have f3 := ft.2.2.1
  have f4 := ft.2.2.2
  refine Zm.go [some (.ref _), some (.int _), some (.int _), some (.int _), none, none] vl_146 rfl ?_
  refine Zp.aload_n k_146_0 rfl ?_
  refine Zp.iconst (nI 0) k_146_1 (by decide) ?_
  refine Zp.iconst (nI 4) k_146_2 (by decide) ?_
  refine Zp.callv2I v_143 k_146_3 m_93 (Nat.le_of_ble_eq_true rfl) (Nat.le_of_ble_eq_true rfl) (c_lookedF ft ⟨_, rfl, ?_⟩)
  refine Zp.istore [some (.ref _), some (.int _), some (.int _), some (.int _), some (.int _), none] k_146_6 (Nat.lt_of_lt_of_eq (zlt rfl : 4 < 6) vl_146.symm) rfl ?_
  refine Zp.aload_n k_146_8 rfl ?_
  refine Zp.getV k_146_9 rfl (zlt rfl) m_93 f1 ?_
  refine Zp.if_neN k_146_12 (by omega) (fun c_12 => ?_) (fun c_12 => absurd c_12 (by omega))
  refine Zp.iload_n k_146_31 rfl ?_
  refine Zp.if_eqN k_146_32 (by omega) (fun c => absurd c (by decide)) (fun _ => ?_)
  refine Zp.aload_n k_146_35 rfl ?_
  refine Zp.getV k_146_36 rfl (zlt rfl) m_93 hw ?_
  refine Zp.iconst (nI 5) k_146_39 (by decide) ?_
  refine Zp.iload_n k_146_40 rfl ?_
  refine Zp.imulN k_146_41 ?_
  refine Zp.iload k_146_42 rfl ?_
  refine Zp.iaddN k_146_44 ?_
  refine Zp.ishr k_146_45 ?_
  refine Zp.iconst (nI 1) k_146_46 (by decide) ?_
  refine Zp.iand k_146_47 ?_
  refine Zp.iconst (nI 1) k_146_48 (by decide) ?_
  refine Zp.icmp_eq k_146_49 (fun c_49 => ?_) (fun c_49 => ?_)
  · refine Zp.iconst (nI 1) k_146_73 (by decide) ?_
    refine Zp.goto k_146_74 ?_
    refine Zp.istore [some (.ref _), some (.int _), some (.int _), some (.int _), some (.int _), some (.int _)] k_146_78 (Nat.lt_of_lt_of_eq (zlt rfl : 5 < 6) vl_146.symm) rfl ?_
    refine Zp.aload_n k_146_80 rfl ?_
    refine Zp.getV k_146_81 rfl (zlt rfl) m_93 f1 ?_
    refine Zp.if_neN k_146_84 (by omega) (fun c_84 => ?_) (fun c_84 => absurd c_84 (by omega))
    refine Zp.aload_n k_146_102 rfl ?_
    refine Zp.getV k_146_103 rfl (zlt rfl) m_93 f1 ?_
    refine Zp.if_neN k_146_106 (by omega) (fun c_106 => ?_) (fun c_106 => absurd c_106 (by omega))
    refine Zp.aload_n k_146_173 rfl ?_
    refine Zp.callv0V v_142 k_146_174 m_93 (Nat.le_of_ble_eq_true rfl) (Nat.le_of_ble_eq_true rfl) (c_nextF f1 f3 f4 ⟨rfl, ?_⟩)
    refine Zp.iload k_146_177 rfl ?_
    refine Zp.iret _ k_146_179 vr_146 rfl ?_
    exact hq
  · refine Zp.iload_n k_146_52 rfl ?_
    refine Zp.if_eqN k_146_53 (by omega) (fun c => absurd c (by decide)) (fun _ => ?_)
    refine Zp.aload_n k_146_56 rfl ?_
    refine Zp.getV k_146_57 rfl (zlt rfl) m_93 hw ?_
    refine Zp.iconst (nI 5) k_146_60 (by decide) ?_
    refine Zp.iload k_146_61 rfl ?_
    refine Zp.imulN k_146_63 ?_
    refine Zp.iload_n k_146_64 rfl ?_
    refine Zp.iaddN k_146_65 ?_
    refine Zp.ishr k_146_66 ?_
    refine Zp.iconst (nI 1) k_146_67 (by decide) ?_
    refine Zp.iand k_146_68 ?_
    refine Zp.iconst (nI 1) k_146_69 (by decide) ?_
    refine Zp.icmp_ne k_146_70 (fun c_70 => ?_) (fun c_70 => ?_)
    · refine Zp.iconst (nI 0) k_146_77 (by decide) ?_
      refine Zp.istore [some (.ref _), some (.int _), some (.int _), some (.int _), some (.int _), some (.int _)] k_146_78 (Nat.lt_of_lt_of_eq (zlt rfl : 5 < 6) vl_146.symm) rfl ?_
      refine Zp.aload_n k_146_80 rfl ?_
      refine Zp.getV k_146_81 rfl (zlt rfl) m_93 f1 ?_
      refine Zp.if_neN k_146_84 (by omega) (fun c_84 => ?_) (fun c_84 => absurd c_84 (by omega))
      refine Zp.aload_n k_146_102 rfl ?_
      refine Zp.getV k_146_103 rfl (zlt rfl) m_93 f1 ?_
      refine Zp.if_neN k_146_106 (by omega) (fun c_106 => ?_) (fun c_106 => absurd c_106 (by omega))
      refine Zp.aload_n k_146_173 rfl ?_
      refine Zp.callv0V v_142 k_146_174 m_93 (Nat.le_of_ble_eq_true rfl) (Nat.le_of_ble_eq_true rfl) (c_nextF f1 f3 f4 ⟨rfl, ?_⟩)
      refine Zp.iload k_146_177 rfl ?_
      refine Zp.iret _ k_146_179 vr_146 rfl ?_
      exact hq
    · refine Zp.iconst (nI 1) k_146_73 (by decide) ?_
      refine Zp.goto k_146_74 ?_
      refine Zp.istore [some (.ref _), some (.int _), some (.int _), some (.int _), some (.int _), some (.int _)] k_146_78 (Nat.lt_of_lt_of_eq (zlt rfl : 5 < 6) vl_146.symm) rfl ?_
      refine Zp.aload_n k_146_80 rfl ?_
      refine Zp.getV k_146_81 rfl (zlt rfl) m_93 f1 ?_
      refine Zp.if_neN k_146_84 (by omega) (fun c_84 => ?_) (fun c_84 => absurd c_84 (by omega))
      refine Zp.aload_n k_146_102 rfl ?_
      refine Zp.getV k_146_103 rfl (zlt rfl) m_93 f1 ?_
      refine Zp.if_neN k_146_106 (by omega) (fun c_106 => ?_) (fun c_106 => absurd c_106 (by omega))
      refine Zp.aload_n k_146_173 rfl ?_
      refine Zp.callv0V v_142 k_146_174 m_93 (Nat.le_of_ble_eq_true rfl) (Nat.le_of_ble_eq_true rfl) (c_nextF f1 f3 f4 ⟨rfl, ?_⟩)
      refine Zp.iload k_146_177 rfl ?_
      refine Zp.iret _ k_146_179 vr_146 rfl ?_
      exact hq
theorem c_readOtherF00 (ft : FT I c s) (hw : I 93 15 = w) (hq : Q (some (.int (nI 0))) I L) : Zm G 146 [.ref 93, .int (nI a), .int (nI 0), .int (nI 0)] I L Q := by
  have f1 := ft.1
  have f3 := ft.2.2.1
  have f4 := ft.2.2.2
  refine Zm.go [some (.ref _), some (.int _), some (.int _), some (.int _), none, none] vl_146 rfl ?_
  refine Zp.aload_n k_146_0 rfl ?_
  refine Zp.iconst (nI 0) k_146_1 (by decide) ?_
  refine Zp.iconst (nI 4) k_146_2 (by decide) ?_
  refine Zp.callv2I v_143 k_146_3 m_93 (Nat.le_of_ble_eq_true rfl) (Nat.le_of_ble_eq_true rfl) (c_lookedF ft ⟨_, rfl, ?_⟩)
  refine Zp.istore [some (.ref _), some (.int _), some (.int _), some (.int _), some (.int _), none] k_146_6 (Nat.lt_of_lt_of_eq (zlt rfl : 4 < 6) vl_146.symm) rfl ?_
  refine Zp.aload_n k_146_8 rfl ?_
  refine Zp.getV k_146_9 rfl (zlt rfl) m_93 f1 ?_
  refine Zp.if_neN k_146_12 (by omega) (fun c_12 => ?_) (fun c_12 => absurd c_12 (by omega))
  refine Zp.iload_n k_146_31 rfl ?_
  refine Zp.if_eqN k_146_32 (by omega) (fun _ => ?_) (fun c => absurd c (by decide))
  refine Zp.iload_n k_146_52 rfl ?_
  refine Zp.if_eqN k_146_53 (by omega) (fun _ => ?_) (fun c => absurd c (by decide))
  refine Zp.iconst (nI 0) k_146_77 (by decide) ?_
  refine Zp.istore [some (.ref _), some (.int _), some (.int _), some (.int _), some (.int _), some (.int _)] k_146_78 (Nat.lt_of_lt_of_eq (zlt rfl : 5 < 6) vl_146.symm) rfl ?_
  refine Zp.aload_n k_146_80 rfl ?_
  refine Zp.getV k_146_81 rfl (zlt rfl) m_93 f1 ?_
  refine Zp.if_neN k_146_84 (by omega) (fun c_84 => ?_) (fun c_84 => absurd c_84 (by omega))
  refine Zp.aload_n k_146_102 rfl ?_
  refine Zp.getV k_146_103 rfl (zlt rfl) m_93 f1 ?_
  refine Zp.if_neN k_146_106 (by omega) (fun c_106 => ?_) (fun c_106 => absurd c_106 (by omega))
  refine Zp.aload_n k_146_173 rfl ?_
  refine Zp.callv0V v_142 k_146_174 m_93 (Nat.le_of_ble_eq_true rfl) (Nat.le_of_ble_eq_true rfl) (c_nextF f1 f3 f4 ⟨rfl, ?_⟩)
  refine Zp.iload k_146_177 rfl ?_
  refine Zp.iret _ k_146_179 vr_146 rfl ?_
  exact hq
theorem c_readOtherM10 (tp : TpM I T) (to : To T) (hp : p ≤ T.1) (rt : RT I T p) (hg : HG (I 93 16) h) (hh : h ≤ 5) (hw : I 93 15 = w) (ha : a ≤ 4)
    (hbad : ∀ c s' v I', (rdH T a p = .inl (c, s') ∨ (∃ b e, rdH T a p = .inr (b, e) ∧  ¬ (w &&& hm 0 a b) = 0 ∧ c = 4 ∧ s' = (tok T p).2.1)) → v ≤ 4 → FT I' c s' → FrH I I' → Q (some (.int (nI v))) I' L)
    (hok : ∀ b e I', rdH T a p = .inr (b, e) → (w &&& hm 0 a b) = 0 → RT I' T e → HG (I' 93 16) (max h (b + 1)) → I' 93 15 = w ||| hm 0 a b → FrW I I' → Q (some (.int (nI b))) I' L) : Zm G 146 [.ref 93, .int (nI a), .int (nI 1), .int (nI 0)] I L Q := by
  have bad : ∀ c s' v I2, (rdH T a p = .inl (c, s') ∨ (∃ b e, rdH T a p = .inr (b, e) ∧  ¬ (w &&& hm 0 a b) = 0 ∧ c = 4 ∧ s' = (tok T p).2.1)) → v ≤ 4 → FT I2 c s' → FrH I I2 → I2 93 15 = w → Zp G 146 31 [some (.ref 93), some (.int (nI a)), some (.int (nI 1)), some (.int (nI 0)), some (.int (nI v)), none] [] I2 L Q := by
    intro c s' v I2 hr hv ft f2 hw2
    have f1 := ft.1
    have f3 := ft.2.2.1
    have f4 := ft.2.2.2
    refine Zp.iload_n k_146_31 rfl ?_
    refine Zp.if_eqN k_146_32 (by omega) (fun c => absurd c (by decide)) (fun _ => ?_)
    refine Zp.aload_n k_146_35 rfl ?_
    refine Zp.getV k_146_36 rfl (zlt rfl) m_93 hw2 ?_
    refine Zp.iconst (nI 5) k_146_39 (by decide) ?_
    refine Zp.iload_n k_146_40 rfl ?_
    refine Zp.imulN k_146_41 ?_
    refine Zp.iload k_146_42 rfl ?_
    refine Zp.iaddN k_146_44 ?_
    refine Zp.ishr k_146_45 ?_
    refine Zp.iconst (nI 1) k_146_46 (by decide) ?_
    refine Zp.iand k_146_47 ?_
    refine Zp.iconst (nI 1) k_146_48 (by decide) ?_
    refine Zp.icmp_eq k_146_49 (fun c_49 => ?_) (fun c_49 => ?_)
    · refine Zp.iconst (nI 1) k_146_73 (by decide) ?_
      refine Zp.goto k_146_74 ?_
      refine Zp.istore [some (.ref _), some (.int _), some (.int _), some (.int _), some (.int _), some (.int _)] k_146_78 (Nat.lt_of_lt_of_eq (zlt rfl : 5 < 6) vl_146.symm) rfl ?_
      refine Zp.aload_n k_146_80 rfl ?_
      refine Zp.getV k_146_81 rfl (zlt rfl) m_93 f1 ?_
      refine Zp.if_neN k_146_84 (by omega) (fun c_84 => ?_) (fun c_84 => absurd c_84 (by omega))
      refine Zp.aload_n k_146_102 rfl ?_
      refine Zp.getV k_146_103 rfl (zlt rfl) m_93 f1 ?_
      refine Zp.if_neN k_146_106 (by omega) (fun c_106 => ?_) (fun c_106 => absurd c_106 (by omega))
      refine Zp.aload_n k_146_173 rfl ?_
      refine Zp.callv0V v_142 k_146_174 m_93 (Nat.le_of_ble_eq_true rfl) (Nat.le_of_ble_eq_true rfl) (c_nextF f1 f3 f4 ⟨rfl, ?_⟩)
      refine Zp.iload k_146_177 rfl ?_
      refine Zp.iret _ k_146_179 vr_146 rfl ?_
      exact hbad c s' v I2 hr hv ft f2
    · refine Zp.iload_n k_146_52 rfl ?_
      refine Zp.if_eqN k_146_53 (by omega) (fun _ => ?_) (fun c => absurd c (by decide))
      refine Zp.iconst (nI 0) k_146_77 (by decide) ?_
      refine Zp.istore [some (.ref _), some (.int _), some (.int _), some (.int _), some (.int _), some (.int _)] k_146_78 (Nat.lt_of_lt_of_eq (zlt rfl : 5 < 6) vl_146.symm) rfl ?_
      refine Zp.aload_n k_146_80 rfl ?_
      refine Zp.getV k_146_81 rfl (zlt rfl) m_93 f1 ?_
      refine Zp.if_neN k_146_84 (by omega) (fun c_84 => ?_) (fun c_84 => absurd c_84 (by omega))
      refine Zp.aload_n k_146_102 rfl ?_
      refine Zp.getV k_146_103 rfl (zlt rfl) m_93 f1 ?_
      refine Zp.if_neN k_146_106 (by omega) (fun c_106 => ?_) (fun c_106 => absurd c_106 (by omega))
      refine Zp.aload_n k_146_173 rfl ?_
      refine Zp.callv0V v_142 k_146_174 m_93 (Nat.le_of_ble_eq_true rfl) (Nat.le_of_ble_eq_true rfl) (c_nextF f1 f3 f4 ⟨rfl, ?_⟩)
      refine Zp.iload k_146_177 rfl ?_
      refine Zp.iret _ k_146_179 vr_146 rfl ?_
      exact hbad c s' v I2 hr hv ft f2
  have bad0 : ∀ c s' I2, rdN T 0 4 p = .inl (c, s') → FT I2 c s' → FrN I I2 → Zp G 146 6 [some (.ref 93), some (.int (nI a)), some (.int (nI 1)), some (.int (nI 0)), none, none] [.int (nI 0)] I2 L Q := by
    intro c s' I2 hr ft f2
    have f1 := ft.1
    have f3 := ft.2.2.1
    have f4 := ft.2.2.2
    have e1 : rdH T a p = .inl (c, s') := by unfold rdH; rw [hr]
    refine Zp.istore [some (.ref _), some (.int _), some (.int _), some (.int _), some (.int _), none] k_146_6 (Nat.lt_of_lt_of_eq (zlt rfl : 4 < 6) vl_146.symm) rfl ?_
    refine Zp.aload_n k_146_8 rfl ?_
    refine Zp.getV k_146_9 rfl (zlt rfl) m_93 f1 ?_
    refine Zp.if_neN k_146_12 (by omega) (fun c_12 => ?_) (fun c_12 => absurd c_12 (by omega))
    exact bad c s' 0 I2 (Or.inl e1) (by decide) ft f2.h ((f2.2 15 (by omega)).trans hw)
  have ok : ∀ v e, rdN T 0 4 p = .inr (v, e) → Zp G 146 6 [some (.ref 93), some (.int (nI a)), some (.int (nI 1)), some (.int (nI 0)), none, none] [.int (nI v)] I L Q := by
    intro v e hr
    obtain ⟨r1, r2, r3, r4, r5, r6, r7⟩ := rdN_ok hp hr
    obtain ⟨g1, g2, g3, g4⟩ := rt.2.2 (by omega)
    rw [r6] at g2
    have r20 := rt.1
    have e1 : rdH T a p = if (v : Int) = a then .inl (3, (tok T p).2.1) else .inr (v, e) := by unfold rdH; rw [hr]
    have tb := hm_0 w ha r2
    have t1 := told_r w (show 5 * a + v < 25 by omega)
    have t2 := told_r w (show 5 * v + a < 25 by omega)
    have fin : ∀ I3 : zI, ¬ (v : Int) = a → (w &&& hm 0 a v) = 0 → RT I3 T e → HG (I3 93 16) (max h (v + 1)) → I3 93 15 = w ||| hm 0 a v → FrW I I3 → Zp G 146 177 [some (.ref 93), some (.int (nI a)), some (.int (nI 1)), some (.int (nI 0)), some (.int (nI v)), some (.int (nI 0))] [] I3 L Q := by
      intro I3 hne ht rt3 hg3 hw3 f3
      refine Zp.iload k_146_177 rfl ?_
      refine Zp.iret _ k_146_179 vr_146 rfl ?_
      exact hok v e I3 (by rw [e1, if_neg hne]) ht rt3 hg3 hw3 f3
    have hgm : ∀ x : Int32, x = (if (I 93 16).toInt < v then nI v else I 93 16) → HG x (max h (v + 1)) := by
      intro x hx
      obtain ⟨y1, y2⟩ := hg
      have ev := nI_toInt (n := v) (by omega)
      have hx2 : x.toInt = if (I 93 16).toInt < v then (v : Int) else (I 93 16).toInt := by
        rw [hx]
        split
        · exact ev
        · rfl
      unfold HG
      by_cases h0 : h = 0
      · have := y1 h0
        constructor <;> intro <;> (split at hx2 <;> omega)
      · have := y2 h0
        constructor <;> intro <;> (split at hx2 <;> omega)
    have toldbad : ¬ (w &&& hm 0 a v) = 0 → ¬ (v : Int) = a → Zp G 146 78 [some (.ref 93), some (.int (nI a)), some (.int (nI 1)), some (.int (nI 0)), some (.int (nI v)), none] [.int (nI 1)] I L Q := by
      intro ht hne
      refine Zp.istore [some (.ref _), some (.int _), some (.int _), some (.int _), some (.int _), some (.int _)] k_146_78 (Nat.lt_of_lt_of_eq (zlt rfl : 5 < 6) vl_146.symm) rfl ?_
      refine Zp.aload_n k_146_80 rfl ?_
      refine Zp.getV k_146_81 rfl (zlt rfl) m_93 g1 ?_
      refine Zp.if_neN k_146_84 (by omega) (fun c_84 => absurd c_84 (by omega)) (fun c_84 => ?_)
      refine Zp.aload_n k_146_87 rfl ?_
      refine Zp.iload k_146_88 rfl ?_
      refine Zp.if_neN k_146_90 (by omega) (fun _ => ?_) (fun c => absurd c (by decide))
      refine Zp.iconst (nI 0) k_146_97 (by decide) ?_
      refine Zp.iconst (nI 4) k_146_98 (by decide) ?_
      refine Zp.callv2V v_137 k_146_99 m_93 (Nat.le_of_ble_eq_true rfl) (Nat.le_of_ble_eq_true rfl) (c_needsM g1 (by decide) (by decide) r20 (fun z => absurd z (by decide)) (fun z z2 => ⟨rfl, ?_⟩))
      refine Zp.aload_n k_146_102 rfl ?_
      refine Zp.getV k_146_103 rfl (zlt rfl) m_93 ((zpu_k _ 93 _ (by decide)).trans (zpu_s _ _ _ _)) ?_
      refine Zp.if_neN k_146_106 (by omega) (fun c_106 => ?_) (fun c_106 => absurd c_106 (by omega))
      refine Zp.aload_n k_146_173 rfl ?_
      refine Zp.callv0V v_142 k_146_174 m_93 (Nat.le_of_ble_eq_true rfl) (Nat.le_of_ble_eq_true rfl) (c_nextF (c := 4) ((zpu_k _ 93 _ (by decide)).trans (zpu_s _ _ _ _)) (by decide) (by decide) ⟨rfl, ?_⟩)
      refine Zp.iload k_146_177 rfl ?_
      refine Zp.iret _ k_146_179 vr_146 rfl ?_
      exact hbad 4 _ v _ (Or.inr ⟨v, e, by rw [e1, if_neg hne], ht, rfl, rfl⟩) r2 ⟨by rw [zpu_k _ _ _ (by decide), zpu_s], zpu_s _ _ _ _, by decide, by decide⟩ (((FrN.rf I).pu _ (by decide)).pu _ (by decide)).h
    have toldok : (w &&& hm 0 a v) = 0 → ¬ (v : Int) = a → Zp G 146 78 [some (.ref 93), some (.int (nI a)), some (.int (nI 1)), some (.int (nI 0)), some (.int (nI v)), none] [.int (nI 0)] I L Q := by
      intro ht hne
      have hx : w ||| ((nI 1 <<< (nI (5 * a + v) &&& 31)) ||| nI 0) = w ||| hm 0 a v := by
        unfold hm; rw [if_neg (by decide), Nat.mul_comm a 5]
      have nxt : ∀ I3 : zI, I3 93 15 = w ||| hm 0 a v → (I3 93 16 = if (I 93 16).toInt < v then nI v else I 93 16) → (∀ q, q ≠ 93 → I3 q = I q) → (∀ j, j ≠ 15 → j ≠ 16 → I3 93 j = I 93 j) → Zp G 146 173 [some (.ref 93), some (.int (nI a)), some (.int (nI 1)), some (.int (nI 0)), some (.int (nI v)), some (.int (nI 0))] [] I3 L Q := by
        intro I3 y15 y16 yq yj
        have fw : FrW I I3 := ⟨yq, fun j _ a b => yj j b a⟩
        refine Zp.aload_n k_146_173 rfl ?_
        refine Zp.callv0V v_142 k_146_174 m_93 (Nat.le_of_ble_eq_true rfl) (Nat.le_of_ble_eq_true rfl) (c_nextM (p := e) (T := T) (tp.w fw) to r4 ((yj 23 (by decide) (by decide)).trans g1) ((yj 19 (by decide) (by decide)).trans g2) (fun I4 rt4 f4 => ⟨rfl, ?_⟩))
        exact fin I4 hne ht rt4 (by rw [f4.2 16 (by omega)]; exact hgm _ y16) ((f4.2 15 (by omega)).trans y15) (fw.tr f4.h.w)
      refine Zp.istore [some (.ref _), some (.int _), some (.int _), some (.int _), some (.int _), some (.int _)] k_146_78 (Nat.lt_of_lt_of_eq (zlt rfl : 5 < 6) vl_146.symm) rfl ?_
      refine Zp.aload_n k_146_80 rfl ?_
      refine Zp.getV k_146_81 rfl (zlt rfl) m_93 g1 ?_
      refine Zp.if_neN k_146_84 (by omega) (fun c_84 => absurd c_84 (by omega)) (fun c_84 => ?_)
      refine Zp.aload_n k_146_87 rfl ?_
      refine Zp.iload k_146_88 rfl ?_
      refine Zp.if_neN k_146_90 (by omega) (fun c => absurd c (by decide)) (fun _ => ?_)
      refine Zp.iconst (nI 1) k_146_93 (by decide) ?_
      refine Zp.goto k_146_94 ?_
      refine Zp.iconst (nI 4) k_146_98 (by decide) ?_
      refine Zp.callv2V v_137 k_146_99 m_93 (Nat.le_of_ble_eq_true rfl) (Nat.le_of_ble_eq_true rfl) (c_needsM g1 (by decide) (by decide) r20 (fun z => ⟨rfl, ?_⟩) (fun z z2 => absurd z (by decide)))
      refine Zp.aload_n k_146_102 rfl ?_
      refine Zp.getV k_146_103 rfl (zlt rfl) m_93 g1 ?_
      refine Zp.if_neN k_146_106 (by omega) (fun c_106 => absurd c_106 (by omega)) (fun c_106 => ?_)
      refine Zp.aload_n k_146_109 rfl ?_
      refine Zp.dup k_146_110 rfl ?_
      refine Zp.getV k_146_111 rfl (zlt rfl) m_93 hw ?_
      refine Zp.iload_n k_146_114 rfl ?_
      refine Zp.if_eqN k_146_115 (by omega) (fun c => absurd c (by decide)) (fun _ => ?_)
      refine Zp.iconst (nI 1) k_146_118 (by decide) ?_
      refine Zp.iconst (nI 5) k_146_119 (by decide) ?_
      refine Zp.iload_n k_146_120 rfl ?_
      refine Zp.imulN k_146_121 ?_
      refine Zp.iload k_146_122 rfl ?_
      refine Zp.iaddN k_146_124 ?_
      refine Zp.ishl k_146_125 ?_
      refine Zp.goto k_146_126 ?_
      refine Zp.iload_n k_146_130 rfl ?_
      refine Zp.if_eqN k_146_131 (by omega) (fun _ => ?_) (fun c => absurd c (by decide))
      refine Zp.iconst (nI 0) k_146_145 (by decide) ?_
      refine Zp.ior k_146_146 ?_
      refine Zp.ior k_146_147 ?_
      rw [hx]
      refine Zp.putI k_146_148 rfl (zlt rfl) m_93 ?_
      refine Zp.aload_n k_146_151 rfl ?_
      refine Zp.iload k_146_152 rfl ?_
      refine Zp.aload_n k_146_154 rfl ?_
      refine Zp.getV k_146_155 rfl (zlt rfl) m_93 (show _ = I 93 16 by first | rfl | exact zpu_k _ _ _ (by decide)) ?_
      refine Zp.icmp_leZ _ _ k_146_158 (nI_toInt (by omega)) rfl (fun c_158 => ?_) (fun c_158 => ?_)
      · refine Zp.aload_n k_146_166 rfl ?_
        refine Zp.getV k_146_167 rfl (zlt rfl) m_93 (show _ = I 93 16 by first | rfl | exact zpu_k _ _ _ (by decide)) ?_
        refine Zp.putI k_146_170 rfl (zlt rfl) m_93 ?_
        first | exact nxt _ (by rw [zpu_k _ _ _ (by decide), zpu_s]) (by rw [zpu_s, if_pos (by omega)]) (fun q z => by rw [zpu_q _ _ _ z, zpu_q _ _ _ z]) (fun j z z2 => by rw [zpu_k _ _ _ z2, zpu_k _ _ _ z]) | exact nxt _ (by rw [zpu_k _ _ _ (by decide), zpu_s]) (by rw [zpu_s, if_neg (by omega)]) (fun q z => by rw [zpu_q _ _ _ z, zpu_q _ _ _ z]) (fun j z z2 => by rw [zpu_k _ _ _ z2, zpu_k _ _ _ z])
      · refine Zp.iload k_146_161 rfl ?_
        refine Zp.goto k_146_163 ?_
        refine Zp.putI k_146_170 rfl (zlt rfl) m_93 ?_
        first | exact nxt _ (by rw [zpu_k _ _ _ (by decide), zpu_s]) (by rw [zpu_s, if_pos (by omega)]) (fun q z => by rw [zpu_q _ _ _ z, zpu_q _ _ _ z]) (fun j z z2 => by rw [zpu_k _ _ _ z2, zpu_k _ _ _ z]) | exact nxt _ (by rw [zpu_k _ _ _ (by decide), zpu_s]) (by rw [zpu_s, if_neg (by omega)]) (fun q z => by rw [zpu_q _ _ _ z, zpu_q _ _ _ z]) (fun j z z2 => by rw [zpu_k _ _ _ z2, zpu_k _ _ _ z])
    have told : ¬ (v : Int) = a → Zp G 146 31 [some (.ref 93), some (.int (nI a)), some (.int (nI 1)), some (.int (nI 0)), some (.int (nI v)), none] [] I L Q := by
      intro hne
      refine Zp.iload_n k_146_31 rfl ?_
      refine Zp.if_eqN k_146_32 (by omega) (fun c => absurd c (by decide)) (fun _ => ?_)
      refine Zp.aload_n k_146_35 rfl ?_
      refine Zp.getV k_146_36 rfl (zlt rfl) m_93 hw ?_
      refine Zp.iconst (nI 5) k_146_39 (by decide) ?_
      refine Zp.iload_n k_146_40 rfl ?_
      refine Zp.imulN k_146_41 ?_
      refine Zp.iload k_146_42 rfl ?_
      refine Zp.iaddN k_146_44 ?_
      refine Zp.ishr k_146_45 ?_
      refine Zp.iconst (nI 1) k_146_46 (by decide) ?_
      refine Zp.iand k_146_47 ?_
      refine Zp.iconst (nI 1) k_146_48 (by decide) ?_
      refine Zp.icmp_eq k_146_49 (fun c_49 => ?_) (fun c_49 => ?_)
      · refine Zp.iconst (nI 1) k_146_73 (by decide) ?_
        refine Zp.goto k_146_74 ?_
        first
          | exact toldbad (fun z => by
              have z1 := tb.mp z
              first
                | (have z2 := t1.mp c_49; rw [z1] at z2; exact absurd z2 (by simp))
                | (have z2 := t2.mp (by assumption); rw [z1.2] at z2; exact absurd z2 (by simp))) hne
          | exact toldok (tb.mpr (Bool.eq_false_iff.mpr (fun z => c_49 (t1.mpr z)))) hne
      · refine Zp.iload_n k_146_52 rfl ?_
        refine Zp.if_eqN k_146_53 (by omega) (fun _ => ?_) (fun c => absurd c (by decide))
        refine Zp.iconst (nI 0) k_146_77 (by decide) ?_
        first
          | exact toldbad (fun z => by
              have z1 := tb.mp z
              first
                | (have z2 := t1.mp c_49; rw [z1] at z2; exact absurd z2 (by simp))
                | (have z2 := t2.mp (by assumption); rw [z1.2] at z2; exact absurd z2 (by simp))) hne
          | exact toldok (tb.mpr (Bool.eq_false_iff.mpr (fun z => c_49 (t1.mpr z)))) hne
    refine Zp.istore [some (.ref _), some (.int _), some (.int _), some (.int _), some (.int _), none] k_146_6 (Nat.lt_of_lt_of_eq (zlt rfl : 4 < 6) vl_146.symm) rfl ?_
    refine Zp.aload_n k_146_8 rfl ?_
    refine Zp.getV k_146_9 rfl (zlt rfl) m_93 g1 ?_
    refine Zp.if_neN k_146_12 (by omega) (fun c_12 => absurd c_12 (by omega)) (fun c_12 => ?_)
    refine Zp.aload_n k_146_15 rfl ?_
    refine Zp.iload k_146_16 rfl ?_
    refine Zp.iload_n k_146_18 rfl ?_
    refine Zp.icmp_eqN k_146_19 (by omega) (by omega) (fun c_19 => ?_) (fun c_19 => ?_)
    · refine Zp.iconst (nI 0) k_146_26 (by decide) ?_
      refine Zp.iconst (nI 3) k_146_27 (by decide) ?_
      refine Zp.callv2V v_137 k_146_28 m_93 (Nat.le_of_ble_eq_true rfl) (Nat.le_of_ble_eq_true rfl) (c_needsM g1 (by decide) (by decide) r20 (fun z => ⟨rfl, ?_⟩) (fun z z2 => ⟨rfl, ?_⟩))
      · first
        | exact told (by omega)
        | (exfalso; omega)
      · first
        | (exfalso; omega)
        | exact bad 3 _ v _ (Or.inl (by rw [e1, if_pos (by omega)])) r2 ⟨by rw [zpu_k _ _ _ (by decide), zpu_s], zpu_s _ _ _ _, by decide, by decide⟩ (((FrN.rf I).pu _ (by decide)).pu _ (by decide)).h (by rw [zpu_k _ _ _ (by decide), zpu_k _ _ _ (by decide)]; exact hw)
    · refine Zp.iconst (nI 1) k_146_22 (by decide) ?_
      refine Zp.goto k_146_23 ?_
      refine Zp.iconst (nI 3) k_146_27 (by decide) ?_
      refine Zp.callv2V v_137 k_146_28 m_93 (Nat.le_of_ble_eq_true rfl) (Nat.le_of_ble_eq_true rfl) (c_needsM g1 (by decide) (by decide) r20 (fun z => ⟨rfl, ?_⟩) (fun z z2 => ⟨rfl, ?_⟩))
      · first
        | exact told (by omega)
        | (exfalso; omega)
      · first
        | (exfalso; omega)
        | exact bad 3 _ v _ (Or.inl (by rw [e1, if_pos (by omega)])) r2 ⟨by rw [zpu_k _ _ _ (by decide), zpu_s], zpu_s _ _ _ _, by decide, by decide⟩ (((FrN.rf I).pu _ (by decide)).pu _ (by decide)).h (by rw [zpu_k _ _ _ (by decide), zpu_k _ _ _ (by decide)]; exact hw)
  refine Zm.go [some (.ref _), some (.int _), some (.int _), some (.int _), none, none] vl_146 rfl ?_
  refine Zp.aload_n k_146_0 rfl ?_
  refine Zp.iconst (nI 0) k_146_1 (by decide) ?_
  refine Zp.iconst (nI 4) k_146_2 (by decide) ?_
  refine Zp.callv2I v_143 k_146_3 m_93 (Nat.le_of_ble_eq_true rfl) (Nat.le_of_ble_eq_true rfl) (c_lookedM rt to hp (by decide) (by decide) (fun c s' I2 hr _ ft f2 => ⟨_, rfl, bad0 c s' I2 hr ft f2⟩) (fun v e hr => ⟨_, rfl, ok v e hr⟩))
  
theorem c_readOtherM11 (tp : TpM I T) (to : To T) (hp : p ≤ T.1) (rt : RT I T p) (hg : HG (I 93 16) h) (hh : h ≤ 5) (hw : I 93 15 = w) (ha : a ≤ 4)
    (hbad : ∀ c s' v I', (rdH T a p = .inl (c, s') ∨ (∃ b e, rdH T a p = .inr (b, e) ∧  ¬ (w &&& hm 1 a b) = 0 ∧ c = 4 ∧ s' = (tok T p).2.1)) → v ≤ 4 → FT I' c s' → FrH I I' → Q (some (.int (nI v))) I' L)
    (hok : ∀ b e I', rdH T a p = .inr (b, e) → (w &&& hm 1 a b) = 0 → RT I' T e → HG (I' 93 16) (max h (b + 1)) → I' 93 15 = w ||| hm 1 a b → FrW I I' → Q (some (.int (nI b))) I' L) : Zm G 146 [.ref 93, .int (nI a), .int (nI 1), .int (nI 1)] I L Q := by
  have bad : ∀ c s' v I2, (rdH T a p = .inl (c, s') ∨ (∃ b e, rdH T a p = .inr (b, e) ∧  ¬ (w &&& hm 1 a b) = 0 ∧ c = 4 ∧ s' = (tok T p).2.1)) → v ≤ 4 → FT I2 c s' → FrH I I2 → I2 93 15 = w → Zp G 146 31 [some (.ref 93), some (.int (nI a)), some (.int (nI 1)), some (.int (nI 1)), some (.int (nI v)), none] [] I2 L Q := by
    intro c s' v I2 hr hv ft f2 hw2
    have f1 := ft.1
    have f3 := ft.2.2.1
    have f4 := ft.2.2.2
    refine Zp.iload_n k_146_31 rfl ?_
    refine Zp.if_eqN k_146_32 (by omega) (fun c => absurd c (by decide)) (fun _ => ?_)
    refine Zp.aload_n k_146_35 rfl ?_
    refine Zp.getV k_146_36 rfl (zlt rfl) m_93 hw2 ?_
    refine Zp.iconst (nI 5) k_146_39 (by decide) ?_
    refine Zp.iload_n k_146_40 rfl ?_
    refine Zp.imulN k_146_41 ?_
    refine Zp.iload k_146_42 rfl ?_
    refine Zp.iaddN k_146_44 ?_
    refine Zp.ishr k_146_45 ?_
    refine Zp.iconst (nI 1) k_146_46 (by decide) ?_
    refine Zp.iand k_146_47 ?_
    refine Zp.iconst (nI 1) k_146_48 (by decide) ?_
    refine Zp.icmp_eq k_146_49 (fun c_49 => ?_) (fun c_49 => ?_)
    · refine Zp.iconst (nI 1) k_146_73 (by decide) ?_
      refine Zp.goto k_146_74 ?_
      refine Zp.istore [some (.ref _), some (.int _), some (.int _), some (.int _), some (.int _), some (.int _)] k_146_78 (Nat.lt_of_lt_of_eq (zlt rfl : 5 < 6) vl_146.symm) rfl ?_
      refine Zp.aload_n k_146_80 rfl ?_
      refine Zp.getV k_146_81 rfl (zlt rfl) m_93 f1 ?_
      refine Zp.if_neN k_146_84 (by omega) (fun c_84 => ?_) (fun c_84 => absurd c_84 (by omega))
      refine Zp.aload_n k_146_102 rfl ?_
      refine Zp.getV k_146_103 rfl (zlt rfl) m_93 f1 ?_
      refine Zp.if_neN k_146_106 (by omega) (fun c_106 => ?_) (fun c_106 => absurd c_106 (by omega))
      refine Zp.aload_n k_146_173 rfl ?_
      refine Zp.callv0V v_142 k_146_174 m_93 (Nat.le_of_ble_eq_true rfl) (Nat.le_of_ble_eq_true rfl) (c_nextF f1 f3 f4 ⟨rfl, ?_⟩)
      refine Zp.iload k_146_177 rfl ?_
      refine Zp.iret _ k_146_179 vr_146 rfl ?_
      exact hbad c s' v I2 hr hv ft f2
    · refine Zp.iload_n k_146_52 rfl ?_
      refine Zp.if_eqN k_146_53 (by omega) (fun c => absurd c (by decide)) (fun _ => ?_)
      refine Zp.aload_n k_146_56 rfl ?_
      refine Zp.getV k_146_57 rfl (zlt rfl) m_93 hw2 ?_
      refine Zp.iconst (nI 5) k_146_60 (by decide) ?_
      refine Zp.iload k_146_61 rfl ?_
      refine Zp.imulN k_146_63 ?_
      refine Zp.iload_n k_146_64 rfl ?_
      refine Zp.iaddN k_146_65 ?_
      refine Zp.ishr k_146_66 ?_
      refine Zp.iconst (nI 1) k_146_67 (by decide) ?_
      refine Zp.iand k_146_68 ?_
      refine Zp.iconst (nI 1) k_146_69 (by decide) ?_
      refine Zp.icmp_ne k_146_70 (fun c_70 => ?_) (fun c_70 => ?_)
      · refine Zp.iconst (nI 0) k_146_77 (by decide) ?_
        refine Zp.istore [some (.ref _), some (.int _), some (.int _), some (.int _), some (.int _), some (.int _)] k_146_78 (Nat.lt_of_lt_of_eq (zlt rfl : 5 < 6) vl_146.symm) rfl ?_
        refine Zp.aload_n k_146_80 rfl ?_
        refine Zp.getV k_146_81 rfl (zlt rfl) m_93 f1 ?_
        refine Zp.if_neN k_146_84 (by omega) (fun c_84 => ?_) (fun c_84 => absurd c_84 (by omega))
        refine Zp.aload_n k_146_102 rfl ?_
        refine Zp.getV k_146_103 rfl (zlt rfl) m_93 f1 ?_
        refine Zp.if_neN k_146_106 (by omega) (fun c_106 => ?_) (fun c_106 => absurd c_106 (by omega))
        refine Zp.aload_n k_146_173 rfl ?_
        refine Zp.callv0V v_142 k_146_174 m_93 (Nat.le_of_ble_eq_true rfl) (Nat.le_of_ble_eq_true rfl) (c_nextF f1 f3 f4 ⟨rfl, ?_⟩)
        refine Zp.iload k_146_177 rfl ?_
        refine Zp.iret _ k_146_179 vr_146 rfl ?_
        exact hbad c s' v I2 hr hv ft f2
      · refine Zp.iconst (nI 1) k_146_73 (by decide) ?_
        refine Zp.goto k_146_74 ?_
        refine Zp.istore [some (.ref _), some (.int _), some (.int _), some (.int _), some (.int _), some (.int _)] k_146_78 (Nat.lt_of_lt_of_eq (zlt rfl : 5 < 6) vl_146.symm) rfl ?_
        refine Zp.aload_n k_146_80 rfl ?_
        refine Zp.getV k_146_81 rfl (zlt rfl) m_93 f1 ?_
        refine Zp.if_neN k_146_84 (by omega) (fun c_84 => ?_) (fun c_84 => absurd c_84 (by omega))
        refine Zp.aload_n k_146_102 rfl ?_
        refine Zp.getV k_146_103 rfl (zlt rfl) m_93 f1 ?_
        refine Zp.if_neN k_146_106 (by omega) (fun c_106 => ?_) (fun c_106 => absurd c_106 (by omega))
        refine Zp.aload_n k_146_173 rfl ?_
        refine Zp.callv0V v_142 k_146_174 m_93 (Nat.le_of_ble_eq_true rfl) (Nat.le_of_ble_eq_true rfl) (c_nextF f1 f3 f4 ⟨rfl, ?_⟩)
        refine Zp.iload k_146_177 rfl ?_
        refine Zp.iret _ k_146_179 vr_146 rfl ?_
        exact hbad c s' v I2 hr hv ft f2
  have bad0 : ∀ c s' I2, rdN T 0 4 p = .inl (c, s') → FT I2 c s' → FrN I I2 → Zp G 146 6 [some (.ref 93), some (.int (nI a)), some (.int (nI 1)), some (.int (nI 1)), none, none] [.int (nI 0)] I2 L Q := by
    intro c s' I2 hr ft f2
    have f1 := ft.1
    have f3 := ft.2.2.1
    have f4 := ft.2.2.2
    have e1 : rdH T a p = .inl (c, s') := by unfold rdH; rw [hr]
    refine Zp.istore [some (.ref _), some (.int _), some (.int _), some (.int _), some (.int _), none] k_146_6 (Nat.lt_of_lt_of_eq (zlt rfl : 4 < 6) vl_146.symm) rfl ?_
    refine Zp.aload_n k_146_8 rfl ?_
    refine Zp.getV k_146_9 rfl (zlt rfl) m_93 f1 ?_
    refine Zp.if_neN k_146_12 (by omega) (fun c_12 => ?_) (fun c_12 => absurd c_12 (by omega))
    exact bad c s' 0 I2 (Or.inl e1) (by decide) ft f2.h ((f2.2 15 (by omega)).trans hw)
  have ok : ∀ v e, rdN T 0 4 p = .inr (v, e) → Zp G 146 6 [some (.ref 93), some (.int (nI a)), some (.int (nI 1)), some (.int (nI 1)), none, none] [.int (nI v)] I L Q := by
    intro v e hr
    obtain ⟨r1, r2, r3, r4, r5, r6, r7⟩ := rdN_ok hp hr
    obtain ⟨g1, g2, g3, g4⟩ := rt.2.2 (by omega)
    rw [r6] at g2
    have r20 := rt.1
    have e1 : rdH T a p = if (v : Int) = a then .inl (3, (tok T p).2.1) else .inr (v, e) := by unfold rdH; rw [hr]
    have tb := hm_1 w ha r2
    have t1 := told_r w (show 5 * a + v < 25 by omega)
    have t2 := told_r w (show 5 * v + a < 25 by omega)
    have fin : ∀ I3 : zI, ¬ (v : Int) = a → (w &&& hm 1 a v) = 0 → RT I3 T e → HG (I3 93 16) (max h (v + 1)) → I3 93 15 = w ||| hm 1 a v → FrW I I3 → Zp G 146 177 [some (.ref 93), some (.int (nI a)), some (.int (nI 1)), some (.int (nI 1)), some (.int (nI v)), some (.int (nI 0))] [] I3 L Q := by
      intro I3 hne ht rt3 hg3 hw3 f3
      refine Zp.iload k_146_177 rfl ?_
      refine Zp.iret _ k_146_179 vr_146 rfl ?_
      exact hok v e I3 (by rw [e1, if_neg hne]) ht rt3 hg3 hw3 f3
    have hgm : ∀ x : Int32, x = (if (I 93 16).toInt < v then nI v else I 93 16) → HG x (max h (v + 1)) := by
      intro x hx
      obtain ⟨y1, y2⟩ := hg
      have ev := nI_toInt (n := v) (by omega)
      have hx2 : x.toInt = if (I 93 16).toInt < v then (v : Int) else (I 93 16).toInt := by
        rw [hx]
        split
        · exact ev
        · rfl
      unfold HG
      by_cases h0 : h = 0
      · have := y1 h0
        constructor <;> intro <;> (split at hx2 <;> omega)
      · have := y2 h0
        constructor <;> intro <;> (split at hx2 <;> omega)
    have toldbad : ¬ (w &&& hm 1 a v) = 0 → ¬ (v : Int) = a → Zp G 146 78 [some (.ref 93), some (.int (nI a)), some (.int (nI 1)), some (.int (nI 1)), some (.int (nI v)), none] [.int (nI 1)] I L Q := by
      intro ht hne
      refine Zp.istore [some (.ref _), some (.int _), some (.int _), some (.int _), some (.int _), some (.int _)] k_146_78 (Nat.lt_of_lt_of_eq (zlt rfl : 5 < 6) vl_146.symm) rfl ?_
      refine Zp.aload_n k_146_80 rfl ?_
      refine Zp.getV k_146_81 rfl (zlt rfl) m_93 g1 ?_
      refine Zp.if_neN k_146_84 (by omega) (fun c_84 => absurd c_84 (by omega)) (fun c_84 => ?_)
      refine Zp.aload_n k_146_87 rfl ?_
      refine Zp.iload k_146_88 rfl ?_
      refine Zp.if_neN k_146_90 (by omega) (fun _ => ?_) (fun c => absurd c (by decide))
      refine Zp.iconst (nI 0) k_146_97 (by decide) ?_
      refine Zp.iconst (nI 4) k_146_98 (by decide) ?_
      refine Zp.callv2V v_137 k_146_99 m_93 (Nat.le_of_ble_eq_true rfl) (Nat.le_of_ble_eq_true rfl) (c_needsM g1 (by decide) (by decide) r20 (fun z => absurd z (by decide)) (fun z z2 => ⟨rfl, ?_⟩))
      refine Zp.aload_n k_146_102 rfl ?_
      refine Zp.getV k_146_103 rfl (zlt rfl) m_93 ((zpu_k _ 93 _ (by decide)).trans (zpu_s _ _ _ _)) ?_
      refine Zp.if_neN k_146_106 (by omega) (fun c_106 => ?_) (fun c_106 => absurd c_106 (by omega))
      refine Zp.aload_n k_146_173 rfl ?_
      refine Zp.callv0V v_142 k_146_174 m_93 (Nat.le_of_ble_eq_true rfl) (Nat.le_of_ble_eq_true rfl) (c_nextF (c := 4) ((zpu_k _ 93 _ (by decide)).trans (zpu_s _ _ _ _)) (by decide) (by decide) ⟨rfl, ?_⟩)
      refine Zp.iload k_146_177 rfl ?_
      refine Zp.iret _ k_146_179 vr_146 rfl ?_
      exact hbad 4 _ v _ (Or.inr ⟨v, e, by rw [e1, if_neg hne], ht, rfl, rfl⟩) r2 ⟨by rw [zpu_k _ _ _ (by decide), zpu_s], zpu_s _ _ _ _, by decide, by decide⟩ (((FrN.rf I).pu _ (by decide)).pu _ (by decide)).h
    have toldok : (w &&& hm 1 a v) = 0 → ¬ (v : Int) = a → Zp G 146 78 [some (.ref 93), some (.int (nI a)), some (.int (nI 1)), some (.int (nI 1)), some (.int (nI v)), none] [.int (nI 0)] I L Q := by
      intro ht hne
      have hx : w ||| ((nI 1 <<< (nI (5 * a + v) &&& 31)) ||| (nI 1 <<< (nI (5 * v + a) &&& 31))) = w ||| hm 1 a v := by
        unfold hm; rw [if_pos rfl, Nat.mul_comm a 5, Nat.mul_comm v 5]
      have nxt : ∀ I3 : zI, I3 93 15 = w ||| hm 1 a v → (I3 93 16 = if (I 93 16).toInt < v then nI v else I 93 16) → (∀ q, q ≠ 93 → I3 q = I q) → (∀ j, j ≠ 15 → j ≠ 16 → I3 93 j = I 93 j) → Zp G 146 173 [some (.ref 93), some (.int (nI a)), some (.int (nI 1)), some (.int (nI 1)), some (.int (nI v)), some (.int (nI 0))] [] I3 L Q := by
        intro I3 y15 y16 yq yj
        have fw : FrW I I3 := ⟨yq, fun j _ a b => yj j b a⟩
        refine Zp.aload_n k_146_173 rfl ?_
        refine Zp.callv0V v_142 k_146_174 m_93 (Nat.le_of_ble_eq_true rfl) (Nat.le_of_ble_eq_true rfl) (c_nextM (p := e) (T := T) (tp.w fw) to r4 ((yj 23 (by decide) (by decide)).trans g1) ((yj 19 (by decide) (by decide)).trans g2) (fun I4 rt4 f4 => ⟨rfl, ?_⟩))
        exact fin I4 hne ht rt4 (by rw [f4.2 16 (by omega)]; exact hgm _ y16) ((f4.2 15 (by omega)).trans y15) (fw.tr f4.h.w)
      refine Zp.istore [some (.ref _), some (.int _), some (.int _), some (.int _), some (.int _), some (.int _)] k_146_78 (Nat.lt_of_lt_of_eq (zlt rfl : 5 < 6) vl_146.symm) rfl ?_
      refine Zp.aload_n k_146_80 rfl ?_
      refine Zp.getV k_146_81 rfl (zlt rfl) m_93 g1 ?_
      refine Zp.if_neN k_146_84 (by omega) (fun c_84 => absurd c_84 (by omega)) (fun c_84 => ?_)
      refine Zp.aload_n k_146_87 rfl ?_
      refine Zp.iload k_146_88 rfl ?_
      refine Zp.if_neN k_146_90 (by omega) (fun c => absurd c (by decide)) (fun _ => ?_)
      refine Zp.iconst (nI 1) k_146_93 (by decide) ?_
      refine Zp.goto k_146_94 ?_
      refine Zp.iconst (nI 4) k_146_98 (by decide) ?_
      refine Zp.callv2V v_137 k_146_99 m_93 (Nat.le_of_ble_eq_true rfl) (Nat.le_of_ble_eq_true rfl) (c_needsM g1 (by decide) (by decide) r20 (fun z => ⟨rfl, ?_⟩) (fun z z2 => absurd z (by decide)))
      refine Zp.aload_n k_146_102 rfl ?_
      refine Zp.getV k_146_103 rfl (zlt rfl) m_93 g1 ?_
      refine Zp.if_neN k_146_106 (by omega) (fun c_106 => absurd c_106 (by omega)) (fun c_106 => ?_)
      refine Zp.aload_n k_146_109 rfl ?_
      refine Zp.dup k_146_110 rfl ?_
      refine Zp.getV k_146_111 rfl (zlt rfl) m_93 hw ?_
      refine Zp.iload_n k_146_114 rfl ?_
      refine Zp.if_eqN k_146_115 (by omega) (fun c => absurd c (by decide)) (fun _ => ?_)
      refine Zp.iconst (nI 1) k_146_118 (by decide) ?_
      refine Zp.iconst (nI 5) k_146_119 (by decide) ?_
      refine Zp.iload_n k_146_120 rfl ?_
      refine Zp.imulN k_146_121 ?_
      refine Zp.iload k_146_122 rfl ?_
      refine Zp.iaddN k_146_124 ?_
      refine Zp.ishl k_146_125 ?_
      refine Zp.goto k_146_126 ?_
      refine Zp.iload_n k_146_130 rfl ?_
      refine Zp.if_eqN k_146_131 (by omega) (fun c => absurd c (by decide)) (fun _ => ?_)
      refine Zp.iconst (nI 1) k_146_134 (by decide) ?_
      refine Zp.iconst (nI 5) k_146_135 (by decide) ?_
      refine Zp.iload k_146_136 rfl ?_
      refine Zp.imulN k_146_138 ?_
      refine Zp.iload_n k_146_139 rfl ?_
      refine Zp.iaddN k_146_140 ?_
      refine Zp.ishl k_146_141 ?_
      refine Zp.goto k_146_142 ?_
      refine Zp.ior k_146_146 ?_
      refine Zp.ior k_146_147 ?_
      rw [hx]
      refine Zp.putI k_146_148 rfl (zlt rfl) m_93 ?_
      refine Zp.aload_n k_146_151 rfl ?_
      refine Zp.iload k_146_152 rfl ?_
      refine Zp.aload_n k_146_154 rfl ?_
      refine Zp.getV k_146_155 rfl (zlt rfl) m_93 (show _ = I 93 16 by first | rfl | exact zpu_k _ _ _ (by decide)) ?_
      refine Zp.icmp_leZ _ _ k_146_158 (nI_toInt (by omega)) rfl (fun c_158 => ?_) (fun c_158 => ?_)
      · refine Zp.aload_n k_146_166 rfl ?_
        refine Zp.getV k_146_167 rfl (zlt rfl) m_93 (show _ = I 93 16 by first | rfl | exact zpu_k _ _ _ (by decide)) ?_
        refine Zp.putI k_146_170 rfl (zlt rfl) m_93 ?_
        first | exact nxt _ (by rw [zpu_k _ _ _ (by decide), zpu_s]) (by rw [zpu_s, if_pos (by omega)]) (fun q z => by rw [zpu_q _ _ _ z, zpu_q _ _ _ z]) (fun j z z2 => by rw [zpu_k _ _ _ z2, zpu_k _ _ _ z]) | exact nxt _ (by rw [zpu_k _ _ _ (by decide), zpu_s]) (by rw [zpu_s, if_neg (by omega)]) (fun q z => by rw [zpu_q _ _ _ z, zpu_q _ _ _ z]) (fun j z z2 => by rw [zpu_k _ _ _ z2, zpu_k _ _ _ z])
      · refine Zp.iload k_146_161 rfl ?_
        refine Zp.goto k_146_163 ?_
        refine Zp.putI k_146_170 rfl (zlt rfl) m_93 ?_
        first | exact nxt _ (by rw [zpu_k _ _ _ (by decide), zpu_s]) (by rw [zpu_s, if_pos (by omega)]) (fun q z => by rw [zpu_q _ _ _ z, zpu_q _ _ _ z]) (fun j z z2 => by rw [zpu_k _ _ _ z2, zpu_k _ _ _ z]) | exact nxt _ (by rw [zpu_k _ _ _ (by decide), zpu_s]) (by rw [zpu_s, if_neg (by omega)]) (fun q z => by rw [zpu_q _ _ _ z, zpu_q _ _ _ z]) (fun j z z2 => by rw [zpu_k _ _ _ z2, zpu_k _ _ _ z])
    have told : ¬ (v : Int) = a → Zp G 146 31 [some (.ref 93), some (.int (nI a)), some (.int (nI 1)), some (.int (nI 1)), some (.int (nI v)), none] [] I L Q := by
      intro hne
      refine Zp.iload_n k_146_31 rfl ?_
      refine Zp.if_eqN k_146_32 (by omega) (fun c => absurd c (by decide)) (fun _ => ?_)
      refine Zp.aload_n k_146_35 rfl ?_
      refine Zp.getV k_146_36 rfl (zlt rfl) m_93 hw ?_
      refine Zp.iconst (nI 5) k_146_39 (by decide) ?_
      refine Zp.iload_n k_146_40 rfl ?_
      refine Zp.imulN k_146_41 ?_
      refine Zp.iload k_146_42 rfl ?_
      refine Zp.iaddN k_146_44 ?_
      refine Zp.ishr k_146_45 ?_
      refine Zp.iconst (nI 1) k_146_46 (by decide) ?_
      refine Zp.iand k_146_47 ?_
      refine Zp.iconst (nI 1) k_146_48 (by decide) ?_
      refine Zp.icmp_eq k_146_49 (fun c_49 => ?_) (fun c_49 => ?_)
      · refine Zp.iconst (nI 1) k_146_73 (by decide) ?_
        refine Zp.goto k_146_74 ?_
        first
          | exact toldbad (fun z => by
              have z1 := tb.mp z
              first
                | (have z2 := t1.mp c_49; rw [z1.1] at z2; exact absurd z2 (by simp))
                | (have z2 := t2.mp (by assumption); rw [z1.2] at z2; exact absurd z2 (by simp))) hne
          | exact toldok (tb.mpr ⟨Bool.eq_false_iff.mpr (fun z => c_49 (t1.mpr z)), Bool.eq_false_iff.mpr (fun z => c_70 (t2.mpr z))⟩) hne
      · refine Zp.iload_n k_146_52 rfl ?_
        refine Zp.if_eqN k_146_53 (by omega) (fun c => absurd c (by decide)) (fun _ => ?_)
        refine Zp.aload_n k_146_56 rfl ?_
        refine Zp.getV k_146_57 rfl (zlt rfl) m_93 hw ?_
        refine Zp.iconst (nI 5) k_146_60 (by decide) ?_
        refine Zp.iload k_146_61 rfl ?_
        refine Zp.imulN k_146_63 ?_
        refine Zp.iload_n k_146_64 rfl ?_
        refine Zp.iaddN k_146_65 ?_
        refine Zp.ishr k_146_66 ?_
        refine Zp.iconst (nI 1) k_146_67 (by decide) ?_
        refine Zp.iand k_146_68 ?_
        refine Zp.iconst (nI 1) k_146_69 (by decide) ?_
        refine Zp.icmp_ne k_146_70 (fun c_70 => ?_) (fun c_70 => ?_)
        · refine Zp.iconst (nI 0) k_146_77 (by decide) ?_
          first
            | exact toldbad (fun z => by
                have z1 := tb.mp z
                first
                  | (have z2 := t1.mp c_49; rw [z1.1] at z2; exact absurd z2 (by simp))
                  | (have z2 := t2.mp (by assumption); rw [z1.2] at z2; exact absurd z2 (by simp))) hne
            | exact toldok (tb.mpr ⟨Bool.eq_false_iff.mpr (fun z => c_49 (t1.mpr z)), Bool.eq_false_iff.mpr (fun z => c_70 (t2.mpr z))⟩) hne
        · refine Zp.iconst (nI 1) k_146_73 (by decide) ?_
          refine Zp.goto k_146_74 ?_
          first
            | exact toldbad (fun z => by
                have z1 := tb.mp z
                first
                  | (have z2 := t1.mp c_49; rw [z1.1] at z2; exact absurd z2 (by simp))
                  | (have z2 := t2.mp (by assumption); rw [z1.2] at z2; exact absurd z2 (by simp))) hne
            | exact toldok (tb.mpr ⟨Bool.eq_false_iff.mpr (fun z => c_49 (t1.mpr z)), Bool.eq_false_iff.mpr (fun z => c_70 (t2.mpr z))⟩) hne
    refine Zp.istore [some (.ref _), some (.int _), some (.int _), some (.int _), some (.int _), none] k_146_6 (Nat.lt_of_lt_of_eq (zlt rfl : 4 < 6) vl_146.symm) rfl ?_
    refine Zp.aload_n k_146_8 rfl ?_
    refine Zp.getV k_146_9 rfl (zlt rfl) m_93 g1 ?_
    refine Zp.if_neN k_146_12 (by omega) (fun c_12 => absurd c_12 (by omega)) (fun c_12 => ?_)
    refine Zp.aload_n k_146_15 rfl ?_
    refine Zp.iload k_146_16 rfl ?_
    refine Zp.iload_n k_146_18 rfl ?_
    refine Zp.icmp_eqN k_146_19 (by omega) (by omega) (fun c_19 => ?_) (fun c_19 => ?_)
    · refine Zp.iconst (nI 0) k_146_26 (by decide) ?_
      refine Zp.iconst (nI 3) k_146_27 (by decide) ?_
      refine Zp.callv2V v_137 k_146_28 m_93 (Nat.le_of_ble_eq_true rfl) (Nat.le_of_ble_eq_true rfl) (c_needsM g1 (by decide) (by decide) r20 (fun z => ⟨rfl, ?_⟩) (fun z z2 => ⟨rfl, ?_⟩))
      · first
        | exact told (by omega)
        | (exfalso; omega)
      · first
        | (exfalso; omega)
        | exact bad 3 _ v _ (Or.inl (by rw [e1, if_pos (by omega)])) r2 ⟨by rw [zpu_k _ _ _ (by decide), zpu_s], zpu_s _ _ _ _, by decide, by decide⟩ (((FrN.rf I).pu _ (by decide)).pu _ (by decide)).h (by rw [zpu_k _ _ _ (by decide), zpu_k _ _ _ (by decide)]; exact hw)
    · refine Zp.iconst (nI 1) k_146_22 (by decide) ?_
      refine Zp.goto k_146_23 ?_
      refine Zp.iconst (nI 3) k_146_27 (by decide) ?_
      refine Zp.callv2V v_137 k_146_28 m_93 (Nat.le_of_ble_eq_true rfl) (Nat.le_of_ble_eq_true rfl) (c_needsM g1 (by decide) (by decide) r20 (fun z => ⟨rfl, ?_⟩) (fun z z2 => ⟨rfl, ?_⟩))
      · first
        | exact told (by omega)
        | (exfalso; omega)
      · first
        | (exfalso; omega)
        | exact bad 3 _ v _ (Or.inl (by rw [e1, if_pos (by omega)])) r2 ⟨by rw [zpu_k _ _ _ (by decide), zpu_s], zpu_s _ _ _ _, by decide, by decide⟩ (((FrN.rf I).pu _ (by decide)).pu _ (by decide)).h (by rw [zpu_k _ _ _ (by decide), zpu_k _ _ _ (by decide)]; exact hw)
  refine Zm.go [some (.ref _), some (.int _), some (.int _), some (.int _), none, none] vl_146 rfl ?_
  refine Zp.aload_n k_146_0 rfl ?_
  refine Zp.iconst (nI 0) k_146_1 (by decide) ?_
  refine Zp.iconst (nI 4) k_146_2 (by decide) ?_
  refine Zp.callv2I v_143 k_146_3 m_93 (Nat.le_of_ble_eq_true rfl) (Nat.le_of_ble_eq_true rfl) (c_lookedM rt to hp (by decide) (by decide) (fun c s' I2 hr _ ft f2 => ⟨_, rfl, bad0 c s' I2 hr ft f2⟩) (fun v e hr => ⟨_, rfl, ok v e hr⟩))
  
theorem c_readOtherM00 (tp : TpM I T) (to : To T) (hp : p ≤ T.1) (rt : RT I T p) (hg : HG (I 93 16) h) (hh : h ≤ 5) (hw : I 93 15 = w) (ha : a ≤ 4)
    (hbad : ∀ c s' v I', (rdH T a p = .inl (c, s') ∨ (∃ b e, rdH T a p = .inr (b, e) ∧ False ∧ ¬ (w &&& hm 0 a b) = 0 ∧ c = 4 ∧ s' = (tok T p).2.1)) → v ≤ 4 → FT I' c s' → FrH I I' → Q (some (.int (nI v))) I' L)
    (hok : ∀ b e I', rdH T a p = .inr (b, e) →  RT I' T e → HG (I' 93 16) (max h (b + 1)) → I' 93 15 = w → FrW I I' → Q (some (.int (nI b))) I' L) : Zm G 146 [.ref 93, .int (nI a), .int (nI 0), .int (nI 0)] I L Q := by
  have bad : ∀ c s' v I2, (rdH T a p = .inl (c, s') ∨ (∃ b e, rdH T a p = .inr (b, e) ∧ False ∧ ¬ (w &&& hm 0 a b) = 0 ∧ c = 4 ∧ s' = (tok T p).2.1)) → v ≤ 4 → FT I2 c s' → FrH I I2 → I2 93 15 = w → Zp G 146 31 [some (.ref 93), some (.int (nI a)), some (.int (nI 0)), some (.int (nI 0)), some (.int (nI v)), none] [] I2 L Q := by
    intro c s' v I2 hr hv ft f2 hw2
    have f1 := ft.1
    have f3 := ft.2.2.1
    have f4 := ft.2.2.2
    refine Zp.iload_n k_146_31 rfl ?_
    refine Zp.if_eqN k_146_32 (by omega) (fun _ => ?_) (fun c => absurd c (by decide))
    refine Zp.iload_n k_146_52 rfl ?_
    refine Zp.if_eqN k_146_53 (by omega) (fun _ => ?_) (fun c => absurd c (by decide))
    refine Zp.iconst (nI 0) k_146_77 (by decide) ?_
    refine Zp.istore [some (.ref _), some (.int _), some (.int _), some (.int _), some (.int _), some (.int _)] k_146_78 (Nat.lt_of_lt_of_eq (zlt rfl : 5 < 6) vl_146.symm) rfl ?_
    refine Zp.aload_n k_146_80 rfl ?_
    refine Zp.getV k_146_81 rfl (zlt rfl) m_93 f1 ?_
    refine Zp.if_neN k_146_84 (by omega) (fun c_84 => ?_) (fun c_84 => absurd c_84 (by omega))
    refine Zp.aload_n k_146_102 rfl ?_
    refine Zp.getV k_146_103 rfl (zlt rfl) m_93 f1 ?_
    refine Zp.if_neN k_146_106 (by omega) (fun c_106 => ?_) (fun c_106 => absurd c_106 (by omega))
    refine Zp.aload_n k_146_173 rfl ?_
    refine Zp.callv0V v_142 k_146_174 m_93 (Nat.le_of_ble_eq_true rfl) (Nat.le_of_ble_eq_true rfl) (c_nextF f1 f3 f4 ⟨rfl, ?_⟩)
    refine Zp.iload k_146_177 rfl ?_
    refine Zp.iret _ k_146_179 vr_146 rfl ?_
    exact hbad c s' v I2 hr hv ft f2
  have bad0 : ∀ c s' I2, rdN T 0 4 p = .inl (c, s') → FT I2 c s' → FrN I I2 → Zp G 146 6 [some (.ref 93), some (.int (nI a)), some (.int (nI 0)), some (.int (nI 0)), none, none] [.int (nI 0)] I2 L Q := by
    intro c s' I2 hr ft f2
    have f1 := ft.1
    have f3 := ft.2.2.1
    have f4 := ft.2.2.2
    have e1 : rdH T a p = .inl (c, s') := by unfold rdH; rw [hr]
    refine Zp.istore [some (.ref _), some (.int _), some (.int _), some (.int _), some (.int _), none] k_146_6 (Nat.lt_of_lt_of_eq (zlt rfl : 4 < 6) vl_146.symm) rfl ?_
    refine Zp.aload_n k_146_8 rfl ?_
    refine Zp.getV k_146_9 rfl (zlt rfl) m_93 f1 ?_
    refine Zp.if_neN k_146_12 (by omega) (fun c_12 => ?_) (fun c_12 => absurd c_12 (by omega))
    exact bad c s' 0 I2 (Or.inl e1) (by decide) ft f2.h ((f2.2 15 (by omega)).trans hw)
  have ok : ∀ v e, rdN T 0 4 p = .inr (v, e) → Zp G 146 6 [some (.ref 93), some (.int (nI a)), some (.int (nI 0)), some (.int (nI 0)), none, none] [.int (nI v)] I L Q := by
    intro v e hr
    obtain ⟨r1, r2, r3, r4, r5, r6, r7⟩ := rdN_ok hp hr
    obtain ⟨g1, g2, g3, g4⟩ := rt.2.2 (by omega)
    rw [r6] at g2
    have r20 := rt.1
    have e1 : rdH T a p = if (v : Int) = a then .inl (3, (tok T p).2.1) else .inr (v, e) := by unfold rdH; rw [hr]
    have fin : ∀ I3 : zI, ¬ (v : Int) = a →  RT I3 T e → HG (I3 93 16) (max h (v + 1)) → I3 93 15 = w → FrW I I3 → Zp G 146 177 [some (.ref 93), some (.int (nI a)), some (.int (nI 0)), some (.int (nI 0)), some (.int (nI v)), some (.int (nI 0))] [] I3 L Q := by
      intro I3 hne  rt3 hg3 hw3 f3
      refine Zp.iload k_146_177 rfl ?_
      refine Zp.iret _ k_146_179 vr_146 rfl ?_
      exact hok v e I3 (by rw [e1, if_neg hne])  rt3 hg3 hw3 f3
    have hgm : ∀ x : Int32, x = (if (I 93 16).toInt < v then nI v else I 93 16) → HG x (max h (v + 1)) := by
      intro x hx
      obtain ⟨y1, y2⟩ := hg
      have ev := nI_toInt (n := v) (by omega)
      have hx2 : x.toInt = if (I 93 16).toInt < v then (v : Int) else (I 93 16).toInt := by
        rw [hx]
        split
        · exact ev
        · rfl
      unfold HG
      by_cases h0 : h = 0
      · have := y1 h0
        constructor <;> intro <;> (split at hx2 <;> omega)
      · have := y2 h0
        constructor <;> intro <;> (split at hx2 <;> omega)
    have toldbad : False → ¬ (v : Int) = a → Zp G 146 78 [some (.ref 93), some (.int (nI a)), some (.int (nI 0)), some (.int (nI 0)), some (.int (nI v)), none] [.int (nI 1)] I L Q := by
      intro ht hne
      exact ht.elim
    have toldok :  ¬ (v : Int) = a → Zp G 146 78 [some (.ref 93), some (.int (nI a)), some (.int (nI 0)), some (.int (nI 0)), some (.int (nI v)), none] [.int (nI 0)] I L Q := by
      intro  hne
      have hx : w ||| (nI 0 ||| nI 0) = w := by
        apply b_ext; intro j hj; rw [b_or, b_or, show (nI 0) = (0 : Int32) from rfl, b_zero j hj]; simp
      have nxt : ∀ I3 : zI, I3 93 15 = w → (I3 93 16 = if (I 93 16).toInt < v then nI v else I 93 16) → (∀ q, q ≠ 93 → I3 q = I q) → (∀ j, j ≠ 15 → j ≠ 16 → I3 93 j = I 93 j) → Zp G 146 173 [some (.ref 93), some (.int (nI a)), some (.int (nI 0)), some (.int (nI 0)), some (.int (nI v)), some (.int (nI 0))] [] I3 L Q := by
        intro I3 y15 y16 yq yj
        have fw : FrW I I3 := ⟨yq, fun j _ a b => yj j b a⟩
        refine Zp.aload_n k_146_173 rfl ?_
        refine Zp.callv0V v_142 k_146_174 m_93 (Nat.le_of_ble_eq_true rfl) (Nat.le_of_ble_eq_true rfl) (c_nextM (p := e) (T := T) (tp.w fw) to r4 ((yj 23 (by decide) (by decide)).trans g1) ((yj 19 (by decide) (by decide)).trans g2) (fun I4 rt4 f4 => ⟨rfl, ?_⟩))
        exact fin I4 hne  rt4 (by rw [f4.2 16 (by omega)]; exact hgm _ y16) ((f4.2 15 (by omega)).trans y15) (fw.tr f4.h.w)
      refine Zp.istore [some (.ref _), some (.int _), some (.int _), some (.int _), some (.int _), some (.int _)] k_146_78 (Nat.lt_of_lt_of_eq (zlt rfl : 5 < 6) vl_146.symm) rfl ?_
      refine Zp.aload_n k_146_80 rfl ?_
      refine Zp.getV k_146_81 rfl (zlt rfl) m_93 g1 ?_
      refine Zp.if_neN k_146_84 (by omega) (fun c_84 => absurd c_84 (by omega)) (fun c_84 => ?_)
      refine Zp.aload_n k_146_87 rfl ?_
      refine Zp.iload k_146_88 rfl ?_
      refine Zp.if_neN k_146_90 (by omega) (fun c => absurd c (by decide)) (fun _ => ?_)
      refine Zp.iconst (nI 1) k_146_93 (by decide) ?_
      refine Zp.goto k_146_94 ?_
      refine Zp.iconst (nI 4) k_146_98 (by decide) ?_
      refine Zp.callv2V v_137 k_146_99 m_93 (Nat.le_of_ble_eq_true rfl) (Nat.le_of_ble_eq_true rfl) (c_needsM g1 (by decide) (by decide) r20 (fun z => ⟨rfl, ?_⟩) (fun z z2 => absurd z (by decide)))
      refine Zp.aload_n k_146_102 rfl ?_
      refine Zp.getV k_146_103 rfl (zlt rfl) m_93 g1 ?_
      refine Zp.if_neN k_146_106 (by omega) (fun c_106 => absurd c_106 (by omega)) (fun c_106 => ?_)
      refine Zp.aload_n k_146_109 rfl ?_
      refine Zp.dup k_146_110 rfl ?_
      refine Zp.getV k_146_111 rfl (zlt rfl) m_93 hw ?_
      refine Zp.iload_n k_146_114 rfl ?_
      refine Zp.if_eqN k_146_115 (by omega) (fun _ => ?_) (fun c => absurd c (by decide))
      refine Zp.iconst (nI 0) k_146_129 (by decide) ?_
      refine Zp.iload_n k_146_130 rfl ?_
      refine Zp.if_eqN k_146_131 (by omega) (fun _ => ?_) (fun c => absurd c (by decide))
      refine Zp.iconst (nI 0) k_146_145 (by decide) ?_
      refine Zp.ior k_146_146 ?_
      refine Zp.ior k_146_147 ?_
      rw [hx]
      refine Zp.putI k_146_148 rfl (zlt rfl) m_93 ?_
      refine Zp.aload_n k_146_151 rfl ?_
      refine Zp.iload k_146_152 rfl ?_
      refine Zp.aload_n k_146_154 rfl ?_
      refine Zp.getV k_146_155 rfl (zlt rfl) m_93 (show _ = I 93 16 by first | rfl | exact zpu_k _ _ _ (by decide)) ?_
      refine Zp.icmp_leZ _ _ k_146_158 (nI_toInt (by omega)) rfl (fun c_158 => ?_) (fun c_158 => ?_)
      · refine Zp.aload_n k_146_166 rfl ?_
        refine Zp.getV k_146_167 rfl (zlt rfl) m_93 (show _ = I 93 16 by first | rfl | exact zpu_k _ _ _ (by decide)) ?_
        refine Zp.putI k_146_170 rfl (zlt rfl) m_93 ?_
        first | exact nxt _ (by rw [zpu_k _ _ _ (by decide), zpu_s]) (by rw [zpu_s, if_pos (by omega)]) (fun q z => by rw [zpu_q _ _ _ z, zpu_q _ _ _ z]) (fun j z z2 => by rw [zpu_k _ _ _ z2, zpu_k _ _ _ z]) | exact nxt _ (by rw [zpu_k _ _ _ (by decide), zpu_s]) (by rw [zpu_s, if_neg (by omega)]) (fun q z => by rw [zpu_q _ _ _ z, zpu_q _ _ _ z]) (fun j z z2 => by rw [zpu_k _ _ _ z2, zpu_k _ _ _ z])
      · refine Zp.iload k_146_161 rfl ?_
        refine Zp.goto k_146_163 ?_
        refine Zp.putI k_146_170 rfl (zlt rfl) m_93 ?_
        first | exact nxt _ (by rw [zpu_k _ _ _ (by decide), zpu_s]) (by rw [zpu_s, if_pos (by omega)]) (fun q z => by rw [zpu_q _ _ _ z, zpu_q _ _ _ z]) (fun j z z2 => by rw [zpu_k _ _ _ z2, zpu_k _ _ _ z]) | exact nxt _ (by rw [zpu_k _ _ _ (by decide), zpu_s]) (by rw [zpu_s, if_neg (by omega)]) (fun q z => by rw [zpu_q _ _ _ z, zpu_q _ _ _ z]) (fun j z z2 => by rw [zpu_k _ _ _ z2, zpu_k _ _ _ z])
    have told : ¬ (v : Int) = a → Zp G 146 31 [some (.ref 93), some (.int (nI a)), some (.int (nI 0)), some (.int (nI 0)), some (.int (nI v)), none] [] I L Q := by
      intro hne
      refine Zp.iload_n k_146_31 rfl ?_
      refine Zp.if_eqN k_146_32 (by omega) (fun _ => ?_) (fun c => absurd c (by decide))
      refine Zp.iload_n k_146_52 rfl ?_
      refine Zp.if_eqN k_146_53 (by omega) (fun _ => ?_) (fun c => absurd c (by decide))
      refine Zp.iconst (nI 0) k_146_77 (by decide) ?_
      exact toldok hne
    refine Zp.istore [some (.ref _), some (.int _), some (.int _), some (.int _), some (.int _), none] k_146_6 (Nat.lt_of_lt_of_eq (zlt rfl : 4 < 6) vl_146.symm) rfl ?_
    refine Zp.aload_n k_146_8 rfl ?_
    refine Zp.getV k_146_9 rfl (zlt rfl) m_93 g1 ?_
    refine Zp.if_neN k_146_12 (by omega) (fun c_12 => absurd c_12 (by omega)) (fun c_12 => ?_)
    refine Zp.aload_n k_146_15 rfl ?_
    refine Zp.iload k_146_16 rfl ?_
    refine Zp.iload_n k_146_18 rfl ?_
    refine Zp.icmp_eqN k_146_19 (by omega) (by omega) (fun c_19 => ?_) (fun c_19 => ?_)
    · refine Zp.iconst (nI 0) k_146_26 (by decide) ?_
      refine Zp.iconst (nI 3) k_146_27 (by decide) ?_
      refine Zp.callv2V v_137 k_146_28 m_93 (Nat.le_of_ble_eq_true rfl) (Nat.le_of_ble_eq_true rfl) (c_needsM g1 (by decide) (by decide) r20 (fun z => ⟨rfl, ?_⟩) (fun z z2 => ⟨rfl, ?_⟩))
      · first
        | exact told (by omega)
        | (exfalso; omega)
      · first
        | (exfalso; omega)
        | exact bad 3 _ v _ (Or.inl (by rw [e1, if_pos (by omega)])) r2 ⟨by rw [zpu_k _ _ _ (by decide), zpu_s], zpu_s _ _ _ _, by decide, by decide⟩ (((FrN.rf I).pu _ (by decide)).pu _ (by decide)).h (by rw [zpu_k _ _ _ (by decide), zpu_k _ _ _ (by decide)]; exact hw)
    · refine Zp.iconst (nI 1) k_146_22 (by decide) ?_
      refine Zp.goto k_146_23 ?_
      refine Zp.iconst (nI 3) k_146_27 (by decide) ?_
      refine Zp.callv2V v_137 k_146_28 m_93 (Nat.le_of_ble_eq_true rfl) (Nat.le_of_ble_eq_true rfl) (c_needsM g1 (by decide) (by decide) r20 (fun z => ⟨rfl, ?_⟩) (fun z z2 => ⟨rfl, ?_⟩))
      · first
        | exact told (by omega)
        | (exfalso; omega)
      · first
        | (exfalso; omega)
        | exact bad 3 _ v _ (Or.inl (by rw [e1, if_pos (by omega)])) r2 ⟨by rw [zpu_k _ _ _ (by decide), zpu_s], zpu_s _ _ _ _, by decide, by decide⟩ (((FrN.rf I).pu _ (by decide)).pu _ (by decide)).h (by rw [zpu_k _ _ _ (by decide), zpu_k _ _ _ (by decide)]; exact hw)
  refine Zm.go [some (.ref _), some (.int _), some (.int _), some (.int _), none, none] vl_146 rfl ?_
  refine Zp.aload_n k_146_0 rfl ?_
  refine Zp.iconst (nI 0) k_146_1 (by decide) ?_
  refine Zp.iconst (nI 4) k_146_2 (by decide) ?_
  refine Zp.callv2I v_143 k_146_3 m_93 (Nat.le_of_ble_eq_true rfl) (Nat.le_of_ble_eq_true rfl) (c_lookedM rt to hp (by decide) (by decide) (fun c s' I2 hr _ ft f2 => ⟨_, rfl, bad0 c s' I2 hr ft f2⟩) (fun v e hr => ⟨_, rfl, ok v e hr⟩))
  
end OTHER
