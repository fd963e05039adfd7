/-! THE BEST ROW, THE FEWEST: both sides -/
section BEST0
variable {G : zG} {A : zQs} {I : zI} {L : zJ} {Q : zP}
/-- the reference's loop over rows, behind the first one -/
theorem c_bestLoopM {n c n' : Nat} (ho : Ao A) (hn : n' ≤ 4) (hP : 0 < n' → 0 < np (sn (kS (aK A)))) (h0 : 0 < np (sn (kS (aK A))) ^ n')
    (hend : ∀ I2, PicM A I2 → FrM I I2 → Zp G 199 176 [some (.ref 93), some (.int (nI n)), some (.int (nI c)), some (.int (nI n')), some (.int (nI (sdone (rT (kS (aK A)) n' (bsF (kS (aK A)) n' (np (sn (kS (aK A))) ^ n' - 1)))))), some (.int (nI (sm (sht (rT (kS (aK A)) n' (bsF (kS (aK A)) n' (np (sn (kS (aK A))) ^ n' - 1)))) 25))), some (.int (nI (bsF (kS (aK A)) n' (np (sn (kS (aK A))) ^ n' - 1)))), some (.int (nI (np (sn (kS (aK A))) ^ n'))), none] [] I2 L Q) :
    ∀ k i (I1 : zI), i + 1 + k = np (sn (kS (aK A))) ^ n' → PicM A I1 → FrM I I1 → (∀ j, j < np (sn (kS (aK A))) → I1 105 j = nI (pt (sn (kS (aK A))) j)) → Zp G 199 64 [some (.ref 93), some (.int (nI n)), some (.int (nI c)), some (.int (nI n')), some (.int (nI (sdone (rT (kS (aK A)) n' (bsF (kS (aK A)) n' i))))), some (.int (nI (sm (sht (rT (kS (aK A)) n' (bsF (kS (aK A)) n' i))) 25))), some (.int (nI (bsF (kS (aK A)) n' i))), some (.int (nI (i + 1))), none] [] I1 L Q := by
  obtain ⟨⟨so, sz, sst, lo, po, eo⟩, ok0, ok1, oi0, oi1, ot, ob, of_, or_, oh⟩ := id ho
  obtain ⟨o1, o2, o3, o4, o5, o6, o7⟩ := id so
  obtain ⟨p1, p2, p3⟩ := id lo
  obtain ⟨u1, u2⟩ := id po
  obtain ⟨e1, e2⟩ := id eo
  have z3 := (cn_0 (sn (kS (aK A))) (by omega)).2.2
  have hpw := pw_le z3 hn
  intro k
  induction k with
  | zero =>
    intro i I1 hi pm1 f1 h105
    have e : i + 1 = np (sn (kS (aK A))) ^ n' := by omega
    have e2 : i = np (sn (kS (aK A))) ^ n' - 1 := by omega
    have m3 : I1 93 3 = nI (sn (kS (aK A))) := pm1.1
    have hend1 := hend I1 pm1 f1
    rw [← e2, ← e] at hend1
    refine Zp.iload k_199_64 rfl ?_
    refine Zp.aload_n k_199_66 rfl ?_
    refine Zp.iload_n k_199_67 rfl ?_
    refine Zp.callv1I v_195 k_199_68 m_93 (Nat.le_of_ble_eq_true rfl) (Nat.le_of_ble_eq_true rfl) (c_rowsOfM m3 (by omega) (by omega) ⟨_, rfl, ?_⟩)
    refine Zp.icmp_geN k_199_71 (by omega) (by omega) (fun c_71 => ?_) (fun c_71 => absurd c_71 (by omega))
    exact hend1
  | succ k ih =>
    intro i I1 hi pm1 f1 h105
    have m3 : I1 93 3 = nI (sn (kS (aK A))) := pm1.1
    have hb : bsF (kS (aK A)) n' (i + 1) = if sdone (rT (kS (aK A)) n' (bsF (kS (aK A)) n' i)) < sdone (rT (kS (aK A)) n' (i + 1)) ∨ sdone (rT (kS (aK A)) n' (i + 1)) = sdone (rT (kS (aK A)) n' (bsF (kS (aK A)) n' i)) ∧ sm (sht (rT (kS (aK A)) n' (i + 1))) 25 < sm (sht (rT (kS (aK A)) n' (bsF (kS (aK A)) n' i))) 25 then i + 1 else bsF (kS (aK A)) n' i := rfl
    have d1 := (rT_o so n' (i + 1)).2.2.2.1
    have d2 := (rT_o so n' (bsF (kS (aK A)) n' i)).2.2.2.1
    have d3 := rT_sm so n' (i + 1)
    have d4 := rT_sm so n' (bsF (kS (aK A)) n' i)
    have bl : ∀ j, bsF (kS (aK A)) n' j ≤ j := by
      intro j
      induction j with
      | zero => exact Nat.le_refl 0
      | succ j ihj =>
        unfold bsF
        split
        · exact Nat.le_refl _
        · omega
    have bl1 := bl i
    have ih1 := fun I2 => ih (i + 1) I2 (by omega)
    rw [hb] at ih1
    refine Zp.iload k_199_64 rfl ?_
    refine Zp.aload_n k_199_66 rfl ?_
    refine Zp.iload_n k_199_67 rfl ?_
    refine Zp.callv1I v_195 k_199_68 m_93 (Nat.le_of_ble_eq_true rfl) (Nat.le_of_ble_eq_true rfl) (c_rowsOfM m3 (by omega) (by omega) ⟨_, rfl, ?_⟩)
    refine Zp.icmp_geN k_199_71 (by omega) (by omega) (fun c_71 => absurd c_71 (by omega)) (fun c_71 => ?_)
    refine Zp.aload_n k_199_74 rfl ?_
    refine Zp.iload k_199_75 rfl ?_
    refine Zp.iload_n k_199_77 rfl ?_
    refine Zp.callv2V v_197 k_199_78 m_93 (Nat.le_of_ble_eq_true rfl) (Nat.le_of_ble_eq_true rfl) (c_stirsRowM pm1 ho h105 hn hP (by omega) (fun I2 pm2 mq f2 => ⟨rfl, ?_⟩))
    refine Zp.aload_n k_199_81 rfl ?_
    refine Zp.getR k_199_82 rfl (zlt rfl) m_93 r_93_1 ?_
    refine Zp.bipush (nI 33) k_199_85 (by decide) ?_
    refine Zp.iald _ k_199_87 m_95 rfl (by omega) (zlt rfl) mq.2.2.2.2.2.1 ?_
    refine Zp.iload k_199_88 rfl ?_
    refine Zp.icmp_gtN k_199_90 (by omega) (by omega) (fun c_90 => ?_) (fun c_90 => ?_)
    · refine Zp.iconst (nI 1) k_199_114 (by decide) ?_
      refine Zp.goto k_199_115 ?_
      refine Zp.istore [some (.ref _), some (.int _), some (.int _), some (.int _), some (.int _), some (.int _), some (.int _), some (.int _), some (.int _)] k_199_119 (Nat.lt_of_lt_of_eq (zlt rfl : 8 < 9) vl_199.symm) rfl ?_
      refine Zp.iload k_199_121 rfl ?_
      refine Zp.if_eqN k_199_123 (by omega) (fun c => absurd c (by decide)) (fun _ => ?_)
      refine Zp.iload k_199_126 rfl ?_
      refine Zp.goto k_199_128 ?_
      refine Zp.istore [some (.ref _), some (.int _), some (.int _), some (.int _), some (.int _), some (.int _), some (.int _), some (.int _), some (.int _)] k_199_133 (Nat.lt_of_lt_of_eq (zlt rfl : 6 < 9) vl_199.symm) rfl ?_
      refine Zp.iload k_199_135 rfl ?_
      refine Zp.if_eqN k_199_137 (by omega) (fun c => absurd c (by decide)) (fun _ => ?_)
      refine Zp.aload_n k_199_140 rfl ?_
      refine Zp.callv0I v_170 k_199_141 m_93 (Nat.le_of_ble_eq_true rfl) (Nat.le_of_ble_eq_true rfl) (c_allHateM mq (rT_o so n' (i + 1)) ⟨_, rfl, ?_⟩)
      refine Zp.goto k_199_144 ?_
      refine Zp.istore [some (.ref _), some (.int _), some (.int _), some (.int _), some (.int _), some (.int _), some (.int _), some (.int _), some (.int _)] k_199_149 (Nat.lt_of_lt_of_eq (zlt rfl : 5 < 9) vl_199.symm) rfl ?_
      refine Zp.iload k_199_151 rfl ?_
      refine Zp.if_eqN k_199_153 (by omega) (fun c => absurd c (by decide)) (fun _ => ?_)
      refine Zp.aload_n k_199_156 rfl ?_
      refine Zp.getR k_199_157 rfl (zlt rfl) m_93 r_93_1 ?_
      refine Zp.bipush (nI 33) k_199_160 (by decide) ?_
      refine Zp.iald _ k_199_162 m_95 rfl (by omega) (zlt rfl) mq.2.2.2.2.2.1 ?_
      refine Zp.goto k_199_163 ?_
      refine Zp.istore [some (.ref _), some (.int _), some (.int _), some (.int _), some (.int _), some (.int _), some (.int _), some (.int _), some (.int _)] k_199_168 (Nat.lt_of_lt_of_eq (zlt rfl : 4 < 9) vl_199.symm) rfl ?_
      refine Zp.iinc (nI (_ + 1)) [some (.ref _), some (.int _), some (.int _), some (.int _), some (.int _), some (.int _), some (.int _), some (.int _), some (.int _)] k_199_170 rfl (nI_1 _) (Nat.lt_of_lt_of_eq (zlt rfl : 7 < 9) vl_199.symm) rfl ?_
      refine Zp.goto k_199_173 ?_
      have ih2 := ih1 I2 pm2 (fun q h => (f2 q (by omega)).trans (f1 q h)) (fun j hj => by rw [f2 105 (by decide)]; exact h105 j hj)
      first
        | (rw [if_pos (by omega)] at ih2; exact Zp.locs _ (zle_sub (by simp [zle])) ih2)
        | (rw [if_neg (by omega)] at ih2; exact Zp.locs _ (zle_sub (by simp [zle])) ih2)
    · refine Zp.aload_n k_199_93 rfl ?_
      refine Zp.getR k_199_94 rfl (zlt rfl) m_93 r_93_1 ?_
      refine Zp.bipush (nI 33) k_199_97 (by decide) ?_
      refine Zp.iald _ k_199_99 m_95 rfl (by omega) (zlt rfl) mq.2.2.2.2.2.1 ?_
      refine Zp.iload k_199_100 rfl ?_
      refine Zp.icmp_neN k_199_102 (by omega) (by omega) (fun c_102 => ?_) (fun c_102 => ?_)
      · refine Zp.iconst (nI 0) k_199_118 (by decide) ?_
        refine Zp.istore [some (.ref _), some (.int _), some (.int _), some (.int _), some (.int _), some (.int _), some (.int _), some (.int _), some (.int _)] k_199_119 (Nat.lt_of_lt_of_eq (zlt rfl : 8 < 9) vl_199.symm) rfl ?_
        refine Zp.iload k_199_121 rfl ?_
        refine Zp.if_eqN k_199_123 (by omega) (fun _ => ?_) (fun c => absurd c (by decide))
        refine Zp.iload k_199_131 rfl ?_
        refine Zp.istore [some (.ref _), some (.int _), some (.int _), some (.int _), some (.int _), some (.int _), some (.int _), some (.int _), some (.int _)] k_199_133 (Nat.lt_of_lt_of_eq (zlt rfl : 6 < 9) vl_199.symm) rfl ?_
        refine Zp.iload k_199_135 rfl ?_
        refine Zp.if_eqN k_199_137 (by omega) (fun _ => ?_) (fun c => absurd c (by decide))
        refine Zp.iload k_199_147 rfl ?_
        refine Zp.istore [some (.ref _), some (.int _), some (.int _), some (.int _), some (.int _), some (.int _), some (.int _), some (.int _), some (.int _)] k_199_149 (Nat.lt_of_lt_of_eq (zlt rfl : 5 < 9) vl_199.symm) rfl ?_
        refine Zp.iload k_199_151 rfl ?_
        refine Zp.if_eqN k_199_153 (by omega) (fun _ => ?_) (fun c => absurd c (by decide))
        refine Zp.iload k_199_166 rfl ?_
        refine Zp.istore [some (.ref _), some (.int _), some (.int _), some (.int _), some (.int _), some (.int _), some (.int _), some (.int _), some (.int _)] k_199_168 (Nat.lt_of_lt_of_eq (zlt rfl : 4 < 9) vl_199.symm) rfl ?_
        refine Zp.iinc (nI (_ + 1)) [some (.ref _), some (.int _), some (.int _), some (.int _), some (.int _), some (.int _), some (.int _), some (.int _), some (.int _)] k_199_170 rfl (nI_1 _) (Nat.lt_of_lt_of_eq (zlt rfl : 7 < 9) vl_199.symm) rfl ?_
        refine Zp.goto k_199_173 ?_
        have ih2 := ih1 I2 pm2 (fun q h => (f2 q (by omega)).trans (f1 q h)) (fun j hj => by rw [f2 105 (by decide)]; exact h105 j hj)
        first
          | (rw [if_pos (by omega)] at ih2; exact Zp.locs _ (zle_sub (by simp [zle])) ih2)
          | (rw [if_neg (by omega)] at ih2; exact Zp.locs _ (zle_sub (by simp [zle])) ih2)
      · refine Zp.aload_n k_199_105 rfl ?_
        refine Zp.callv0I v_170 k_199_106 m_93 (Nat.le_of_ble_eq_true rfl) (Nat.le_of_ble_eq_true rfl) (c_allHateM mq (rT_o so n' (i + 1)) ⟨_, rfl, ?_⟩)
        refine Zp.iload k_199_109 rfl ?_
        refine Zp.icmp_geN k_199_111 (by omega) (by omega) (fun c_111 => ?_) (fun c_111 => ?_)
        · refine Zp.iconst (nI 0) k_199_118 (by decide) ?_
          refine Zp.istore [some (.ref _), some (.int _), some (.int _), some (.int _), some (.int _), some (.int _), some (.int _), some (.int _), some (.int _)] k_199_119 (Nat.lt_of_lt_of_eq (zlt rfl : 8 < 9) vl_199.symm) rfl ?_
          refine Zp.iload k_199_121 rfl ?_
          refine Zp.if_eqN k_199_123 (by omega) (fun _ => ?_) (fun c => absurd c (by decide))
          refine Zp.iload k_199_131 rfl ?_
          refine Zp.istore [some (.ref _), some (.int _), some (.int _), some (.int _), some (.int _), some (.int _), some (.int _), some (.int _), some (.int _)] k_199_133 (Nat.lt_of_lt_of_eq (zlt rfl : 6 < 9) vl_199.symm) rfl ?_
          refine Zp.iload k_199_135 rfl ?_
          refine Zp.if_eqN k_199_137 (by omega) (fun _ => ?_) (fun c => absurd c (by decide))
          refine Zp.iload k_199_147 rfl ?_
          refine Zp.istore [some (.ref _), some (.int _), some (.int _), some (.int _), some (.int _), some (.int _), some (.int _), some (.int _), some (.int _)] k_199_149 (Nat.lt_of_lt_of_eq (zlt rfl : 5 < 9) vl_199.symm) rfl ?_
          refine Zp.iload k_199_151 rfl ?_
          refine Zp.if_eqN k_199_153 (by omega) (fun _ => ?_) (fun c => absurd c (by decide))
          refine Zp.iload k_199_166 rfl ?_
          refine Zp.istore [some (.ref _), some (.int _), some (.int _), some (.int _), some (.int _), some (.int _), some (.int _), some (.int _), some (.int _)] k_199_168 (Nat.lt_of_lt_of_eq (zlt rfl : 4 < 9) vl_199.symm) rfl ?_
          refine Zp.iinc (nI (_ + 1)) [some (.ref _), some (.int _), some (.int _), some (.int _), some (.int _), some (.int _), some (.int _), some (.int _), some (.int _)] k_199_170 rfl (nI_1 _) (Nat.lt_of_lt_of_eq (zlt rfl : 7 < 9) vl_199.symm) rfl ?_
          refine Zp.goto k_199_173 ?_
          have ih2 := ih1 I2 pm2 (fun q h => (f2 q (by omega)).trans (f1 q h)) (fun j hj => by rw [f2 105 (by decide)]; exact h105 j hj)
          first
            | (rw [if_pos (by omega)] at ih2; exact Zp.locs _ (zle_sub (by simp [zle])) ih2)
            | (rw [if_neg (by omega)] at ih2; exact Zp.locs _ (zle_sub (by simp [zle])) ih2)
        · refine Zp.iconst (nI 1) k_199_114 (by decide) ?_
          refine Zp.goto k_199_115 ?_
          refine Zp.istore [some (.ref _), some (.int _), some (.int _), some (.int _), some (.int _), some (.int _), some (.int _), some (.int _), some (.int _)] k_199_119 (Nat.lt_of_lt_of_eq (zlt rfl : 8 < 9) vl_199.symm) rfl ?_
          refine Zp.iload k_199_121 rfl ?_
          refine Zp.if_eqN k_199_123 (by omega) (fun c => absurd c (by decide)) (fun _ => ?_)
          refine Zp.iload k_199_126 rfl ?_
          refine Zp.goto k_199_128 ?_
          refine Zp.istore [some (.ref _), some (.int _), some (.int _), some (.int _), some (.int _), some (.int _), some (.int _), some (.int _), some (.int _)] k_199_133 (Nat.lt_of_lt_of_eq (zlt rfl : 6 < 9) vl_199.symm) rfl ?_
          refine Zp.iload k_199_135 rfl ?_
          refine Zp.if_eqN k_199_137 (by omega) (fun c => absurd c (by decide)) (fun _ => ?_)
          refine Zp.aload_n k_199_140 rfl ?_
          refine Zp.callv0I v_170 k_199_141 m_93 (Nat.le_of_ble_eq_true rfl) (Nat.le_of_ble_eq_true rfl) (c_allHateM mq (rT_o so n' (i + 1)) ⟨_, rfl, ?_⟩)
          refine Zp.goto k_199_144 ?_
          refine Zp.istore [some (.ref _), some (.int _), some (.int _), some (.int _), some (.int _), some (.int _), some (.int _), some (.int _), some (.int _)] k_199_149 (Nat.lt_of_lt_of_eq (zlt rfl : 5 < 9) vl_199.symm) rfl ?_
          refine Zp.iload k_199_151 rfl ?_
          refine Zp.if_eqN k_199_153 (by omega) (fun c => absurd c (by decide)) (fun _ => ?_)
          refine Zp.aload_n k_199_156 rfl ?_
          refine Zp.getR k_199_157 rfl (zlt rfl) m_93 r_93_1 ?_
          refine Zp.bipush (nI 33) k_199_160 (by decide) ?_
          refine Zp.iald _ k_199_162 m_95 rfl (by omega) (zlt rfl) mq.2.2.2.2.2.1 ?_
          refine Zp.goto k_199_163 ?_
          refine Zp.istore [some (.ref _), some (.int _), some (.int _), some (.int _), some (.int _), some (.int _), some (.int _), some (.int _), some (.int _)] k_199_168 (Nat.lt_of_lt_of_eq (zlt rfl : 4 < 9) vl_199.symm) rfl ?_
          refine Zp.iinc (nI (_ + 1)) [some (.ref _), some (.int _), some (.int _), some (.int _), some (.int _), some (.int _), some (.int _), some (.int _), some (.int _)] k_199_170 rfl (nI_1 _) (Nat.lt_of_lt_of_eq (zlt rfl : 7 < 9) vl_199.symm) rfl ?_
          refine Zp.goto k_199_173 ?_
          have ih2 := ih1 I2 pm2 (fun q h => (f2 q (by omega)).trans (f1 q h)) (fun j hj => by rw [f2 105 (by decide)]; exact h105 j hj)
          first
            | (rw [if_pos (by omega)] at ih2; exact Zp.locs _ (zle_sub (by simp [zle])) ih2)
            | (rw [if_neg (by omega)] at ih2; exact Zp.locs _ (zle_sub (by simp [zle])) ih2)
/-- from the loop's start -/
theorem c_bestStartM {n c n' : Nat} (pm : PicM A I) (ho : Ao A) (hn : n' ≤ 4) (hP : 0 < n' → 0 < np (sn (kS (aK A)))) (h0 : 0 < np (sn (kS (aK A))) ^ n')
    (hend : ∀ I2, PicM A I2 → FrM I I2 → Zp G 199 176 [some (.ref 93), some (.int (nI n)), some (.int (nI c)), some (.int (nI n')), some (.int (nI (sdone (rT (kS (aK A)) n' (bsF (kS (aK A)) n' (np (sn (kS (aK A))) ^ n' - 1)))))), some (.int (nI (sm (sht (rT (kS (aK A)) n' (bsF (kS (aK A)) n' (np (sn (kS (aK A))) ^ n' - 1)))) 25))), some (.int (nI (bsF (kS (aK A)) n' (np (sn (kS (aK A))) ^ n' - 1)))), some (.int (nI (np (sn (kS (aK A))) ^ n'))), none] [] I2 L Q) :
    Zp G 199 48 [some (.ref 93), some (.int (nI n)), some (.int (nI c)), some (.int (nI n')), none, none, none, none, none] [] I L Q := by
  obtain ⟨⟨so, sz, sst, lo, po, eo⟩, ok0, ok1, oi0, oi1, ot, ob, of_, or_, oh⟩ := id ho
  obtain ⟨o1, o2, o3, o4, o5, o6, o7⟩ := id so
  obtain ⟨p1, p2, p3⟩ := id lo
  obtain ⟨u1, u2⟩ := id po
  obtain ⟨e1, e2⟩ := id eo
  have z3 := (cn_0 (sn (kS (aK A))) (by omega)).2.2
  have hpw := pw_le z3 hn
  have m3 : I 93 3 = nI (sn (kS (aK A))) := pm.1
  have d1 := (rT_o so n' 0).2.2.2.1
  have d3 := rT_sm so n' 0
  have first1 : ∀ I1, PicM A I1 → FrM I I1 → (∀ j, j < np (sn (kS (aK A))) → I1 105 j = nI (pt (sn (kS (aK A))) j)) → Zp G 199 64 [some (.ref 93), some (.int (nI n)), some (.int (nI c)), some (.int (nI n')), some (.int (-1)), some (.int (nI 0)), some (.int (nI 0)), some (.int (nI 0)), none] [] I1 L Q := by
    intro I1 pm1 f1 h105
    have m31 : I1 93 3 = nI (sn (kS (aK A))) := pm1.1
    refine Zp.iload k_199_64 rfl ?_
    refine Zp.aload_n k_199_66 rfl ?_
    refine Zp.iload_n k_199_67 rfl ?_
    refine Zp.callv1I v_195 k_199_68 m_93 (Nat.le_of_ble_eq_true rfl) (Nat.le_of_ble_eq_true rfl) (c_rowsOfM m31 (by omega) (by omega) ⟨_, rfl, ?_⟩)
    refine Zp.icmp_geN k_199_71 (by omega) (by omega) (fun c_71 => absurd c_71 (by omega)) (fun c_71 => ?_)
    refine Zp.aload_n k_199_74 rfl ?_
    refine Zp.iload k_199_75 rfl ?_
    refine Zp.iload_n k_199_77 rfl ?_
    refine Zp.callv2V v_197 k_199_78 m_93 (Nat.le_of_ble_eq_true rfl) (Nat.le_of_ble_eq_true rfl) (c_stirsRowM pm1 ho h105 hn hP (by omega) (fun I2 pm2 mq f2 => ⟨rfl, ?_⟩))
    refine Zp.aload_n k_199_81 rfl ?_
    refine Zp.getR k_199_82 rfl (zlt rfl) m_93 r_93_1 ?_
    refine Zp.bipush (nI 33) k_199_85 (by decide) ?_
    refine Zp.iald _ k_199_87 m_95 rfl (by omega) (zlt rfl) mq.2.2.2.2.2.1 ?_
    refine Zp.iload k_199_88 rfl ?_
    refine Zp.icmp_gtZ _ (-1) k_199_90 (nI_toInt (by omega)) (by decide) (fun c_90 => ?_) (fun c_90 => absurd c_90 (by omega))
    refine Zp.iconst (nI 1) k_199_114 (by decide) ?_
    refine Zp.goto k_199_115 ?_
    refine Zp.istore [some (.ref _), some (.int _), some (.int _), some (.int _), some (.int _), some (.int _), some (.int _), some (.int _), some (.int _)] k_199_119 (Nat.lt_of_lt_of_eq (zlt rfl : 8 < 9) vl_199.symm) rfl ?_
    refine Zp.iload k_199_121 rfl ?_
    refine Zp.if_eqN k_199_123 (by omega) (fun c => absurd c (by decide)) (fun _ => ?_)
    refine Zp.iload k_199_126 rfl ?_
    refine Zp.goto k_199_128 ?_
    refine Zp.istore [some (.ref _), some (.int _), some (.int _), some (.int _), some (.int _), some (.int _), some (.int _), some (.int _), some (.int _)] k_199_133 (Nat.lt_of_lt_of_eq (zlt rfl : 6 < 9) vl_199.symm) rfl ?_
    refine Zp.iload k_199_135 rfl ?_
    refine Zp.if_eqN k_199_137 (by omega) (fun c => absurd c (by decide)) (fun _ => ?_)
    refine Zp.aload_n k_199_140 rfl ?_
    refine Zp.callv0I v_170 k_199_141 m_93 (Nat.le_of_ble_eq_true rfl) (Nat.le_of_ble_eq_true rfl) (c_allHateM mq (rT_o so n' 0) ⟨_, rfl, ?_⟩)
    refine Zp.goto k_199_144 ?_
    refine Zp.istore [some (.ref _), some (.int _), some (.int _), some (.int _), some (.int _), some (.int _), some (.int _), some (.int _), some (.int _)] k_199_149 (Nat.lt_of_lt_of_eq (zlt rfl : 5 < 9) vl_199.symm) rfl ?_
    refine Zp.iload k_199_151 rfl ?_
    refine Zp.if_eqN k_199_153 (by omega) (fun c => absurd c (by decide)) (fun _ => ?_)
    refine Zp.aload_n k_199_156 rfl ?_
    refine Zp.getR k_199_157 rfl (zlt rfl) m_93 r_93_1 ?_
    refine Zp.bipush (nI 33) k_199_160 (by decide) ?_
    refine Zp.iald _ k_199_162 m_95 rfl (by omega) (zlt rfl) mq.2.2.2.2.2.1 ?_
    refine Zp.goto k_199_163 ?_
    refine Zp.istore [some (.ref _), some (.int _), some (.int _), some (.int _), some (.int _), some (.int _), some (.int _), some (.int _), some (.int _)] k_199_168 (Nat.lt_of_lt_of_eq (zlt rfl : 4 < 9) vl_199.symm) rfl ?_
    refine Zp.iinc (nI (_ + 1)) [some (.ref _), some (.int _), some (.int _), some (.int _), some (.int _), some (.int _), some (.int _), some (.int _), some (.int _)] k_199_170 rfl (nI_1 _) (Nat.lt_of_lt_of_eq (zlt rfl : 7 < 9) vl_199.symm) rfl ?_
    refine Zp.goto k_199_173 ?_
    exact Zp.locs _ (zle_sub (by simp [zle, bsF])) (c_bestLoopM (I := I) ho hn hP h0 hend (np (sn (kS (aK A))) ^ n' - 1) 0 I2 (by omega) pm2 (fun q h => (f2 q (by omega)).trans (f1 q h)) (fun j hj => by rw [f2 105 (by decide)]; exact h105 j hj))
  refine Zp.iconst (-1) k_199_48 (by decide) ?_
  refine Zp.istore [some (.ref _), some (.int _), some (.int _), some (.int _), some (.int _), none, none, none, none] k_199_49 (Nat.lt_of_lt_of_eq (zlt rfl : 4 < 9) vl_199.symm) rfl ?_
  refine Zp.iconst (nI 0) k_199_51 (by decide) ?_
  refine Zp.istore [some (.ref _), some (.int _), some (.int _), some (.int _), some (.int _), some (.int _), none, none, none] k_199_52 (Nat.lt_of_lt_of_eq (zlt rfl : 5 < 9) vl_199.symm) rfl ?_
  refine Zp.iconst (nI 0) k_199_54 (by decide) ?_
  refine Zp.istore [some (.ref _), some (.int _), some (.int _), some (.int _), some (.int _), some (.int _), some (.int _), none, none] k_199_55 (Nat.lt_of_lt_of_eq (zlt rfl : 6 < 9) vl_199.symm) rfl ?_
  refine Zp.aload_n k_199_57 rfl ?_
  refine Zp.callv0V v_198 k_199_58 m_93 (Nat.le_of_ble_eq_true rfl) (Nat.le_of_ble_eq_true rfl) (c_findPairsM m3 (by omega) (fun I1 g1 g2 => ⟨rfl, ?_⟩))
  refine Zp.iconst (nI 0) k_199_61 (by decide) ?_
  refine Zp.istore [some (.ref _), some (.int _), some (.int _), some (.int _), some (.int _), some (.int _), some (.int _), some (.int _), none] k_199_62 (Nat.lt_of_lt_of_eq (zlt rfl : 7 < 9) vl_199.symm) rfl ?_
  exact first1 I1 (pm.fr (by rw [g2 93 (by decide)]) (by rw [g2 93 (by decide)]) (by rw [g2 93 (by decide)]) (by rw [g2 93 (by decide)]) (by rw [g2 93 (by decide)]) (fun q h => g2 q (by omega))) (fun q h => g2 q (by omega)) g1
end BEST0
section BEST1
variable {G : zG} {A : zQs} {x y : Int32}
theorem PicC.row_ {A : zQs} {I I' : zI} (h : PicC A I) (e : ∀ q, q < 34 ∨ 53 < q → I' q = I q) : PicC A I' := h.fr fun q hq => e q (by omega)
theorem c_asks {G : zG} {I : zI} {L : zJ} {Q : zP} {x : Int32} {u : Int} (hx : x.toInt = u) (hq : Q (some (.int (zbo (10 ≤ u ∧ u ≤ 13)))) I L) : Zm G 102 [.int x] I L Q := by
  refine Zm.go [some (.int _)] vl_102 rfl ?_
  refine Zp.iload_n k_102_0 rfl ?_
  refine Zp.bipush (nI 10) k_102_1 (by decide) ?_
  refine Zp.bipush (nI 13) k_102_3 (by decide) ?_
  refine Zp.calls3I vs_129 k_102_5 (Nat.le_of_ble_eq_true rfl) (Nat.le_of_ble_eq_true rfl) (c_isWithin hx (nI_toInt (by decide)) (nI_toInt (by decide)) ⟨_, rfl, ?_⟩)
  refine Zp.iret _ k_102_8 vr_102 (zbo_narrow _) ?_
  exact hq
theorem bsF_le (S : zSo) (n : Nat) : ∀ j, bsF S n j ≤ j
  | 0 => Nat.le_refl 0
  | j + 1 => by
    have ihj := bsF_le S n j
    unfold bsF
    split
    · exact Nat.le_refl _
    · omega
theorem B_best (ho : Ao A) : zBoth G 100 199 [.int x, .int y] A := by
  obtain ⟨⟨so, sz, sst, lo, po, eo⟩, ok0, ok1, oi0, oi1, ot, ob, of_, or_, oh⟩ := id ho
  obtain ⟨o1, o2, o3, o4, o5, o6, o7⟩ := id so
  obtain ⟨p1, p2, p3⟩ := id lo
  obtain ⟨u1, u2⟩ := id po
  obtain ⟨e1, e2⟩ := id eo
  have z3 := (cn_0 (sn (kS (aK A))) (by omega)).2.2
  by_cases v : 0 ≤ x.toInt ∧ x.toInt ≤ 4
  · obtain ⟨n, hn, rfl, en⟩ := zin_nI (n := 5) v.1 (by omega)
    have hr := rN_le (kS (aK A)) n
    have hr2 : np (sn (kS (aK A))) = 0 → rN (kS (aK A)) n = 0 := fun z => if_pos z
    have hr3 : np (sn (kS (aK A))) ≠ 0 → rN (kS (aK A)) n = n := fun z => if_neg z
    have hrp : 0 < rN (kS (aK A)) n → 0 < np (sn (kS (aK A))) := fun h => rN_pos h
    have hp0 := rN_pw (kS (aK A)) n
    have hpw := pw_le z3 (show rN (kS (aK A)) n ≤ 4 by omega)
    have bl := bsF_le (kS (aK A)) (rN (kS (aK A)) n) (np (sn (kS (aK A))) ^ rN (kS (aK A)) n - 1)
    obtain ⟨r, er⟩ : ∃ r, bsF (kS (aK A)) (rN (kS (aK A)) n) (np (sn (kS (aK A))) ^ rN (kS (aK A)) n - 1) = r := ⟨_, rfl⟩
    have d1 := (rT_o so (rN (kS (aK A)) n) r).2.2.2.1
    have d3 := rT_sm so (rN (kS (aK A)) n) r
    by_cases w : 0 ≤ y.toInt ∧ y.toInt ≤ 1
    · obtain ⟨c, hc, rfl, ec⟩ := zin_nI (n := 2) w.1 (by omega)
      refine ⟨.int (nI (if c = 0 then sdone (rT (kS (aK A)) (rN (kS (aK A)) n) r) else sm (sht (rT (kS (aK A)) (rN (kS (aK A)) n) r)) 25)), A, ho, fun I L Q pc hq => ?_, fun I L Q pm hq => ?_⟩
      · obtain ⟨⟨hp, lp, pp, ep⟩, hk, hi0, hi1, ht, hb, hf, hr, hh⟩ := id pc
        refine Zm.go [some (.ref _), some (.int _), some (.int _)] vl_100 rfl ?_
        refine Zp.iload_n k_100_0 rfl ?_
        refine Zp.iconst (nI 0) k_100_1 (by decide) ?_
        refine Zp.iconst (nI 4) k_100_2 (by decide) ?_
        refine Zp.calls3I vs_129 k_100_3 (Nat.le_of_ble_eq_true rfl) (Nat.le_of_ble_eq_true rfl) (c_isWithin (nI_toInt (by omega)) (nI_toInt (by omega)) (nI_toInt (by omega)) ⟨_, rfl, ?_⟩)
        refine Zp.if_eqB k_100_6 (fun c_6 => absurd c_6 (by omega)) (fun c_6 => ?_)
        refine Zp.iload_n k_100_9 rfl ?_
        refine Zp.iconst (nI 0) k_100_10 (by decide) ?_
        refine Zp.iconst (nI 1) k_100_11 (by decide) ?_
        refine Zp.calls3I vs_129 k_100_12 (Nat.le_of_ble_eq_true rfl) (Nat.le_of_ble_eq_true rfl) (c_isWithin (nI_toInt (by omega)) (nI_toInt (by omega)) (nI_toInt (by omega)) ⟨_, rfl, ?_⟩)
        refine Zp.if_neB k_100_15 (fun c_15 => ?_) (fun c_15 => absurd c_15 (by omega))
        refine Zp.aload_n k_100_27 rfl ?_
        refine Zp.getR k_100_28 rfl (zlt rfl) m_0 r_0_6 ?_
        refine Zp.aload_n k_100_31 rfl ?_
        refine Zp.getR k_100_32 rfl (zlt rfl) m_0 r_0_0 ?_
        refine Zp.getR k_100_35 rfl (zlt rfl) m_1 r_1_0 ?_
        refine Zp.iload_n k_100_38 rfl ?_
        refine Zp.callv2V v_27 k_100_39 m_34 (Nat.le_of_ble_eq_true rfl) (Nat.le_of_ble_eq_true rfl) (c_seekBest hp so (by omega) (by omega) (fun I2 rf f2 => ⟨rfl, ?_⟩))
        rw [er] at rf
        refine Zp.iload_n k_100_42 rfl ?_
        refine Zp.if_neN k_100_43 (by omega) (fun c_43 => ?_) (fun c_43 => ?_)
        · refine Zp.iload_n k_100_54 rfl ?_
          refine Zp.iconst (nI 1) k_100_55 (by decide) ?_
          refine Zp.icmp_neN k_100_56 (by omega) (by omega) (fun c_56 => ?_) (fun c_56 => ?_)
          · exfalso; omega
          · refine Zp.aload_n k_100_59 rfl ?_
            refine Zp.getR k_100_60 rfl (zlt rfl) m_0 r_0_6 ?_
            refine Zp.getV k_100_63 rfl (zlt rfl) m_34 rf.2.1 ?_
            refine Zp.goto k_100_66 ?_
            refine Zp.iret _ k_100_80 vr_100 rfl ?_
            have hq1 := hq I2 (pc.row_ f2) (fun q h => f2 q (by omega))
            first | (rw [if_pos c_43] at hq1; exact hq1) | (rw [if_neg c_43] at hq1; exact hq1)
        · refine Zp.aload_n k_100_46 rfl ?_
          refine Zp.getR k_100_47 rfl (zlt rfl) m_0 r_0_6 ?_
          refine Zp.getV k_100_50 rfl (zlt rfl) m_34 rf.1 ?_
          refine Zp.iret _ k_100_53 vr_100 rfl ?_
          have hq1 := hq I2 (pc.row_ f2) (fun q h => f2 q (by omega))
          first | (rw [if_pos c_43] at hq1; exact hq1) | (rw [if_neg c_43] at hq1; exact hq1)
      · obtain ⟨m3, ⟨mp, xp⟩, m4, ms1, ms2, ms3, mk0, mk1, mi0, mi1, mt, mb, mf, mr, mh⟩ := id pm
        have fin : ∀ I2, PicM A I2 → FrM I I2 → Zp G 199 176 [some (.ref 93), some (.int (nI n)), some (.int (nI c)), some (.int (nI (rN (kS (aK A)) n))), some (.int (nI (sdone (rT (kS (aK A)) (rN (kS (aK A)) n) (bsF (kS (aK A)) (rN (kS (aK A)) n) (np (sn (kS (aK A))) ^ rN (kS (aK A)) n - 1)))))), some (.int (nI (sm (sht (rT (kS (aK A)) (rN (kS (aK A)) n) (bsF (kS (aK A)) (rN (kS (aK A)) n) (np (sn (kS (aK A))) ^ rN (kS (aK A)) n - 1)))) 25))), some (.int (nI (bsF (kS (aK A)) (rN (kS (aK A)) n) (np (sn (kS (aK A))) ^ rN (kS (aK A)) n - 1)))), some (.int (nI (np (sn (kS (aK A))) ^ rN (kS (aK A)) n))), none] [] I2 L Q := by
          intro I2 pm2 f2
          rw [er]
          have hq1 := hq I2 L pm2 f2
          refine Zp.iload_n k_199_176 rfl ?_
          refine Zp.calls1I vs_158 k_199_177 (Nat.le_of_ble_eq_true rfl) (Nat.le_of_ble_eq_true rfl) (c_isPartM ⟨_, rfl, ?_⟩)
          refine Zp.if_eqB k_199_180 (fun c_180 => absurd c_180 (by omega)) (fun c_180 => ?_)
          refine Zp.iload_n k_199_183 rfl ?_
          refine Zp.if_neN k_199_184 (by omega) (fun c_184 => ?_) (fun c_184 => ?_)
          · refine Zp.iload k_199_192 rfl ?_
            refine Zp.iret _ k_199_194 vr_199 rfl ?_
            first | (rw [if_pos c_184] at hq1; exact hq1) | (rw [if_neg c_184] at hq1; exact hq1)
          · refine Zp.iload k_199_187 rfl ?_
            refine Zp.goto k_199_189 ?_
            refine Zp.iret _ k_199_194 vr_199 rfl ?_
            first | (rw [if_pos c_184] at hq1; exact hq1) | (rw [if_neg c_184] at hq1; exact hq1)
        have st : ∀ v, v = rN (kS (aK A)) n → Zp G 199 48 [some (.ref 93), some (.int (nI n)), some (.int (nI c)), some (.int (nI v)), none, none, none, none, none] [] I L Q := fun v hv => by
          subst hv
          exact c_bestStartM pm ho (by omega) hrp hp0 fin
        refine Zm.go [some (.ref _), some (.int _), some (.int _), none, none, none, none, none, none] vl_199 rfl ?_
        refine Zp.iload_n k_199_0 rfl ?_
        refine Zp.i2l k_199_1 ?_
        refine Zp.lconst (lN 0) k_199_2 (by decide) ?_
        refine Zp.ldc2 (lN 4) k_199_3 (by decide) ?_
        refine Zp.calls3I vs_131 k_199_6 (Nat.le_of_ble_eq_true rfl) (Nat.le_of_ble_eq_true rfl) (c_in (zi2n (by omega)) (lN_z (by decide)) (lN_z (by decide)) ⟨_, rfl, ?_⟩)
        refine Zp.if_eqB k_199_9 (fun c_9 => absurd c_9 (by omega)) (fun c_9 => ?_)
        refine Zp.iload_n k_199_12 rfl ?_
        refine Zp.calls1I vs_158 k_199_13 (Nat.le_of_ble_eq_true rfl) (Nat.le_of_ble_eq_true rfl) (c_isPartM ⟨_, rfl, ?_⟩)
        refine Zp.if_neB k_199_16 (fun c_16 => ?_) (fun c_16 => absurd c_16 (by omega))
        refine Zp.aload_n k_199_35 rfl ?_
        refine Zp.callv0I v_193 k_199_36 m_93 (Nat.le_of_ble_eq_true rfl) (Nat.le_of_ble_eq_true rfl) (c_pairsM m3 (by omega) ⟨_, rfl, ?_⟩)
        refine Zp.if_neN k_199_39 (by omega) (fun c_39 => ?_) (fun c_39 => ?_)
        · refine Zp.iload_n k_199_46 rfl ?_
          refine Zp.istore_n [some (.ref _), some (.int _), some (.int _), some (.int _), none, none, none, none, none] k_199_47 (Nat.lt_of_lt_of_eq (zlt rfl : 3 < 9) vl_199.symm) rfl ?_
          first | exact st 0 (hr2 (by omega)).symm | exact st n (hr3 (by omega)).symm
        · refine Zp.iconst (nI 0) k_199_42 (by decide) ?_
          refine Zp.goto k_199_43 ?_
          refine Zp.istore_n [some (.ref _), some (.int _), some (.int _), some (.int _), none, none, none, none, none] k_199_47 (Nat.lt_of_lt_of_eq (zlt rfl : 3 < 9) vl_199.symm) rfl ?_
          first | exact st 0 (hr2 (by omega)).symm | exact st n (hr3 (by omega)).symm
    · by_cases t : 10 ≤ y.toInt ∧ y.toInt ≤ 13
      · obtain ⟨c, hc, rfl, ec⟩ := zin_nI (n := 14) (x := y) (by omega) (by omega)
        refine ⟨.int (if c - 10 < rN (kS (aK A)) n then nI (rwP (sn (kS (aK A))) (rN (kS (aK A)) n) r (c - 10)) else -4), A, ho, fun I L Q pc hq => ?_, fun I L Q pm hq => ?_⟩
        · obtain ⟨⟨hp, lp, pp, ep⟩, hk, hi0, hi1, ht, hb, hf, hr, hh⟩ := id pc
          refine Zm.go [some (.ref _), some (.int _), some (.int _)] vl_100 rfl ?_
          refine Zp.iload_n k_100_0 rfl ?_
          refine Zp.iconst (nI 0) k_100_1 (by decide) ?_
          refine Zp.iconst (nI 4) k_100_2 (by decide) ?_
          refine Zp.calls3I vs_129 k_100_3 (Nat.le_of_ble_eq_true rfl) (Nat.le_of_ble_eq_true rfl) (c_isWithin (nI_toInt (by omega)) (nI_toInt (by omega)) (nI_toInt (by omega)) ⟨_, rfl, ?_⟩)
          refine Zp.if_eqB k_100_6 (fun c_6 => absurd c_6 (by omega)) (fun c_6 => ?_)
          refine Zp.iload_n k_100_9 rfl ?_
          refine Zp.iconst (nI 0) k_100_10 (by decide) ?_
          refine Zp.iconst (nI 1) k_100_11 (by decide) ?_
          refine Zp.calls3I vs_129 k_100_12 (Nat.le_of_ble_eq_true rfl) (Nat.le_of_ble_eq_true rfl) (c_isWithin (nI_toInt (by omega)) (nI_toInt (by omega)) (nI_toInt (by omega)) ⟨_, rfl, ?_⟩)
          refine Zp.if_neB k_100_15 (fun c_15 => absurd c_15 (by omega)) (fun c_15 => ?_)
          refine Zp.iload_n k_100_18 rfl ?_
          refine Zp.calls1I vs_102 k_100_19 (Nat.le_of_ble_eq_true rfl) (Nat.le_of_ble_eq_true rfl) (c_asks (nI_toInt (by omega)) ⟨_, rfl, ?_⟩)
          refine Zp.if_neB k_100_22 (fun c_22 => ?_) (fun c_22 => absurd c_22 (by omega))
          refine Zp.aload_n k_100_27 rfl ?_
          refine Zp.getR k_100_28 rfl (zlt rfl) m_0 r_0_6 ?_
          refine Zp.aload_n k_100_31 rfl ?_
          refine Zp.getR k_100_32 rfl (zlt rfl) m_0 r_0_0 ?_
          refine Zp.getR k_100_35 rfl (zlt rfl) m_1 r_1_0 ?_
          refine Zp.iload_n k_100_38 rfl ?_
          refine Zp.callv2V v_27 k_100_39 m_34 (Nat.le_of_ble_eq_true rfl) (Nat.le_of_ble_eq_true rfl) (c_seekBest hp so (by omega) (by omega) (fun I2 rf f2 => ⟨rfl, ?_⟩))
          rw [er] at rf
          refine Zp.iload_n k_100_42 rfl ?_
          refine Zp.if_neN k_100_43 (by omega) (fun c_43 => ?_) (fun c_43 => absurd c_43 (by omega))
          refine Zp.iload_n k_100_54 rfl ?_
          refine Zp.iconst (nI 1) k_100_55 (by decide) ?_
          refine Zp.icmp_neN k_100_56 (by omega) (by omega) (fun c_56 => ?_) (fun c_56 => absurd c_56 (by omega))
          refine Zp.aload_n k_100_69 rfl ?_
          refine Zp.getR k_100_70 rfl (zlt rfl) m_0 r_0_6 ?_
          refine Zp.iload_n k_100_73 rfl ?_
          refine Zp.bipush (nI 10) k_100_74 (by decide) ?_
          refine Zp.isubN k_100_76 (by omega) ?_
          refine Zp.callv1I v_29 k_100_77 m_34 (Nat.le_of_ble_eq_true rfl) (Nat.le_of_ble_eq_true rfl) (c_foundPair rf.2.2.1 (by omega) rf.2.2.2 (fun i hi hl => ⟨_, rfl, ?_⟩) (fun hno => ⟨_, rfl, ?_⟩))
          · refine Zp.iret _ k_100_80 vr_100 rfl ?_
            have e1 := nI_toInt (n := c - 10) (by omega)
            have e2 : i = c - 10 := by omega
            subst e2
            have hq1 := hq I2 (pc.row_ f2) (fun q h => f2 q (by omega))
            rw [if_pos hl] at hq1
            exact hq1
          · refine Zp.iret _ k_100_80 vr_100 rfl ?_
            have e1 := nI_toInt (n := c - 10) (by omega)
            have hq1 := hq I2 (pc.row_ f2) (fun q h => f2 q (by omega))
            rw [if_neg (by omega)] at hq1
            exact hq1
        · obtain ⟨m3, ⟨mp, xp⟩, m4, ms1, ms2, ms3, mk0, mk1, mi0, mi1, mt, mb, mf, mr, mh⟩ := id pm
          have fin : ∀ I2, PicM A I2 → FrM I I2 → Zp G 199 176 [some (.ref 93), some (.int (nI n)), some (.int (nI c)), some (.int (nI (rN (kS (aK A)) n))), some (.int (nI (sdone (rT (kS (aK A)) (rN (kS (aK A)) n) (bsF (kS (aK A)) (rN (kS (aK A)) n) (np (sn (kS (aK A))) ^ rN (kS (aK A)) n - 1)))))), some (.int (nI (sm (sht (rT (kS (aK A)) (rN (kS (aK A)) n) (bsF (kS (aK A)) (rN (kS (aK A)) n) (np (sn (kS (aK A))) ^ rN (kS (aK A)) n - 1)))) 25))), some (.int (nI (bsF (kS (aK A)) (rN (kS (aK A)) n) (np (sn (kS (aK A))) ^ rN (kS (aK A)) n - 1)))), some (.int (nI (np (sn (kS (aK A))) ^ rN (kS (aK A)) n))), none] [] I2 L Q := by
            intro I2 pm2 f2
            rw [er]
            have hq1 := hq I2 L pm2 f2
            have m32 : I2 93 3 = nI (sn (kS (aK A))) := pm2.1
            refine Zp.iload_n k_199_176 rfl ?_
            refine Zp.calls1I vs_158 k_199_177 (Nat.le_of_ble_eq_true rfl) (Nat.le_of_ble_eq_true rfl) (c_isPartM ⟨_, rfl, ?_⟩)
            refine Zp.if_eqB k_199_180 (fun c_180 => ?_) (fun c_180 => absurd c_180 (by omega))
            refine Zp.iload_n k_199_195 rfl ?_
            refine Zp.bipush (nI 10) k_199_196 (by decide) ?_
            refine Zp.isubN k_199_198 (by omega) ?_
            refine Zp.iload_n k_199_199 rfl ?_
            refine Zp.icmp_geN k_199_200 (by omega) (by omega) (fun c_200 => ?_) (fun c_200 => ?_)
            · refine Zp.bipush (-4) k_199_217 (by decide) ?_
              refine Zp.iret _ k_199_219 vr_199 rfl ?_
              first | (rw [if_pos (by omega)] at hq1; exact hq1) | (rw [if_neg (by omega)] at hq1; exact hq1)
            · refine Zp.aload_n k_199_203 rfl ?_
              refine Zp.iload k_199_204 rfl ?_
              refine Zp.iload_n k_199_206 rfl ?_
              refine Zp.iload_n k_199_207 rfl ?_
              refine Zp.bipush (nI 10) k_199_208 (by decide) ?_
              refine Zp.isubN k_199_210 (by omega) ?_
              refine Zp.callv3I v_196 k_199_211 m_93 (Nat.le_of_ble_eq_true rfl) (Nat.le_of_ble_eq_true rfl) (c_pairInM m32 (by omega) (by omega) (by omega) (hrp (by omega)) (by omega) ⟨_, rfl, ?_⟩)
              refine Zp.goto k_199_214 ?_
              refine Zp.iret _ k_199_219 vr_199 rfl ?_
              first | (rw [if_pos (by omega)] at hq1; exact hq1) | (rw [if_neg (by omega)] at hq1; exact hq1)
          have st : ∀ v, v = rN (kS (aK A)) n → Zp G 199 48 [some (.ref 93), some (.int (nI n)), some (.int (nI c)), some (.int (nI v)), none, none, none, none, none] [] I L Q := fun v hv => by
            subst hv
            exact c_bestStartM pm ho (by omega) hrp hp0 fin
          refine Zm.go [some (.ref _), some (.int _), some (.int _), none, none, none, none, none, none] vl_199 rfl ?_
          refine Zp.iload_n k_199_0 rfl ?_
          refine Zp.i2l k_199_1 ?_
          refine Zp.lconst (lN 0) k_199_2 (by decide) ?_
          refine Zp.ldc2 (lN 4) k_199_3 (by decide) ?_
          refine Zp.calls3I vs_131 k_199_6 (Nat.le_of_ble_eq_true rfl) (Nat.le_of_ble_eq_true rfl) (c_in (zi2n (by omega)) (lN_z (by decide)) (lN_z (by decide)) ⟨_, rfl, ?_⟩)
          refine Zp.if_eqB k_199_9 (fun c_9 => absurd c_9 (by omega)) (fun c_9 => ?_)
          refine Zp.iload_n k_199_12 rfl ?_
          refine Zp.calls1I vs_158 k_199_13 (Nat.le_of_ble_eq_true rfl) (Nat.le_of_ble_eq_true rfl) (c_isPartM ⟨_, rfl, ?_⟩)
          refine Zp.if_neB k_199_16 (fun c_16 => absurd c_16 (by omega)) (fun c_16 => ?_)
          refine Zp.iload_n k_199_19 rfl ?_
          refine Zp.i2l k_199_20 ?_
          refine Zp.ldc2 (lN 10) k_199_21 (by decide) ?_
          refine Zp.ldc2 (lN 13) k_199_24 (by decide) ?_
          refine Zp.calls3I vs_131 k_199_27 (Nat.le_of_ble_eq_true rfl) (Nat.le_of_ble_eq_true rfl) (c_in (zi2n (by omega)) (lN_z (by decide)) (lN_z (by decide)) ⟨_, rfl, ?_⟩)
          refine Zp.if_neB k_199_30 (fun c_30 => ?_) (fun c_30 => absurd c_30 (by omega))
          refine Zp.aload_n k_199_35 rfl ?_
          refine Zp.callv0I v_193 k_199_36 m_93 (Nat.le_of_ble_eq_true rfl) (Nat.le_of_ble_eq_true rfl) (c_pairsM m3 (by omega) ⟨_, rfl, ?_⟩)
          refine Zp.if_neN k_199_39 (by omega) (fun c_39 => ?_) (fun c_39 => ?_)
          · refine Zp.iload_n k_199_46 rfl ?_
            refine Zp.istore_n [some (.ref _), some (.int _), some (.int _), some (.int _), none, none, none, none, none] k_199_47 (Nat.lt_of_lt_of_eq (zlt rfl : 3 < 9) vl_199.symm) rfl ?_
            first | exact st 0 (hr2 (by omega)).symm | exact st n (hr3 (by omega)).symm
          · refine Zp.iconst (nI 0) k_199_42 (by decide) ?_
            refine Zp.goto k_199_43 ?_
            refine Zp.istore_n [some (.ref _), some (.int _), some (.int _), some (.int _), none, none, none, none, none] k_199_47 (Nat.lt_of_lt_of_eq (zlt rfl : 3 < 9) vl_199.symm) rfl ?_
            first | exact st 0 (hr2 (by omega)).symm | exact st n (hr3 (by omega)).symm
      · refine ⟨.int (-1), A, ho, fun I L Q pc hq => ?_, fun I L Q pm hq => ?_⟩
        · obtain ⟨⟨hp, lp, pp, ep⟩, hk, hi0, hi1, ht, hb, hf, hr, hh⟩ := id pc
          refine Zm.go [some (.ref _), some (.int _), some (.int _)] vl_100 rfl ?_
          refine Zp.iload_n k_100_0 rfl ?_
          refine Zp.iconst (nI 0) k_100_1 (by decide) ?_
          refine Zp.iconst (nI 4) k_100_2 (by decide) ?_
          refine Zp.calls3I vs_129 k_100_3 (Nat.le_of_ble_eq_true rfl) (Nat.le_of_ble_eq_true rfl) (c_isWithin (nI_toInt (by omega)) (nI_toInt (by omega)) (nI_toInt (by omega)) ⟨_, rfl, ?_⟩)
          refine Zp.if_eqB k_100_6 (fun c_6 => absurd c_6 (by omega)) (fun c_6 => ?_)
          refine Zp.iload_n k_100_9 rfl ?_
          refine Zp.iconst (nI 0) k_100_10 (by decide) ?_
          refine Zp.iconst (nI 1) k_100_11 (by decide) ?_
          refine Zp.calls3I vs_129 k_100_12 (Nat.le_of_ble_eq_true rfl) (Nat.le_of_ble_eq_true rfl) (c_isWithin rfl (nI_toInt (by omega)) (nI_toInt (by omega)) ⟨_, rfl, ?_⟩)
          refine Zp.if_neB k_100_15 (fun c_15 => absurd c_15 (by omega)) (fun c_15 => ?_)
          refine Zp.iload_n k_100_18 rfl ?_
          refine Zp.calls1I vs_102 k_100_19 (Nat.le_of_ble_eq_true rfl) (Nat.le_of_ble_eq_true rfl) (c_asks rfl ⟨_, rfl, ?_⟩)
          refine Zp.if_neB k_100_22 (fun c_22 => absurd c_22 (by omega)) (fun c_22 => ?_)
          refine Zp.iconst (-1) k_100_25 (by decide) ?_
          refine Zp.iret _ k_100_26 vr_100 rfl ?_
          exact hq I pc (FrC.rf I)
        · obtain ⟨m3, ⟨mp, xp⟩, m4, ms1, ms2, ms3, mk0, mk1, mi0, mi1, mt, mb, mf, mr, mh⟩ := id pm
          refine Zm.go [some (.ref _), some (.int _), some (.int _), none, none, none, none, none, none] vl_199 rfl ?_
          refine Zp.iload_n k_199_0 rfl ?_
          refine Zp.i2l k_199_1 ?_
          refine Zp.lconst (lN 0) k_199_2 (by decide) ?_
          refine Zp.ldc2 (lN 4) k_199_3 (by decide) ?_
          refine Zp.calls3I vs_131 k_199_6 (Nat.le_of_ble_eq_true rfl) (Nat.le_of_ble_eq_true rfl) (c_in (zi2n (by omega)) (lN_z (by decide)) (lN_z (by decide)) ⟨_, rfl, ?_⟩)
          refine Zp.if_eqB k_199_9 (fun c_9 => absurd c_9 (by omega)) (fun c_9 => ?_)
          refine Zp.iload_n k_199_12 rfl ?_
          refine Zp.calls1I vs_158 k_199_13 (Nat.le_of_ble_eq_true rfl) (Nat.le_of_ble_eq_true rfl) (c_isPartM ⟨_, rfl, ?_⟩)
          refine Zp.if_neB k_199_16 (fun c_16 => absurd c_16 (by omega)) (fun c_16 => ?_)
          refine Zp.iload_n k_199_19 rfl ?_
          refine Zp.i2l k_199_20 ?_
          refine Zp.ldc2 (lN 10) k_199_21 (by decide) ?_
          refine Zp.ldc2 (lN 13) k_199_24 (by decide) ?_
          refine Zp.calls3I vs_131 k_199_27 (Nat.le_of_ble_eq_true rfl) (Nat.le_of_ble_eq_true rfl) (c_in (zi2l _) (lN_z (by decide)) (lN_z (by decide)) ⟨_, rfl, ?_⟩)
          refine Zp.if_neB k_199_30 (fun c_30 => absurd c_30 (by omega)) (fun c_30 => ?_)
          refine Zp.iconst (-1) k_199_33 (by decide) ?_
          refine Zp.iret _ k_199_34 vr_199 rfl ?_
          first | exact hq I L pm (FrM.rf I) | exact hq I2 L pm2 (fun q hq => s2 q (by omega))
  · refine ⟨.int (-1), A, ho, fun I L Q pc hq => ?_, fun I L Q pm hq => ?_⟩
    · obtain ⟨⟨hp, lp, pp, ep⟩, hk, hi0, hi1, ht, hb, hf, hr, hh⟩ := id pc
      refine Zm.go [some (.ref _), some (.int _), some (.int _)] vl_100 rfl ?_
      refine Zp.iload_n k_100_0 rfl ?_
      refine Zp.iconst (nI 0) k_100_1 (by decide) ?_
      refine Zp.iconst (nI 4) k_100_2 (by decide) ?_
      refine Zp.calls3I vs_129 k_100_3 (Nat.le_of_ble_eq_true rfl) (Nat.le_of_ble_eq_true rfl) (c_isWithin rfl (nI_toInt (by omega)) (nI_toInt (by omega)) ⟨_, rfl, ?_⟩)
      refine Zp.if_eqB k_100_6 (fun c_6 => ?_) (fun c_6 => absurd c_6 (by omega))
      refine Zp.iconst (-1) k_100_25 (by decide) ?_
      refine Zp.iret _ k_100_26 vr_100 rfl ?_
      exact hq I pc (FrC.rf I)
    · obtain ⟨m3, ⟨mp, xp⟩, m4, ms1, ms2, ms3, mk0, mk1, mi0, mi1, mt, mb, mf, mr, mh⟩ := id pm
      refine Zm.go [some (.ref _), some (.int _), some (.int _), none, none, none, none, none, none] vl_199 rfl ?_
      refine Zp.iload_n k_199_0 rfl ?_
      refine Zp.i2l k_199_1 ?_
      refine Zp.lconst (lN 0) k_199_2 (by decide) ?_
      refine Zp.ldc2 (lN 4) k_199_3 (by decide) ?_
      refine Zp.calls3I vs_131 k_199_6 (Nat.le_of_ble_eq_true rfl) (Nat.le_of_ble_eq_true rfl) (c_in (zi2l _) (lN_z (by decide)) (lN_z (by decide)) ⟨_, rfl, ?_⟩)
      refine Zp.if_eqB k_199_9 (fun c_9 => ?_) (fun c_9 => absurd c_9 (by omega))
      refine Zp.iconst (-1) k_199_33 (by decide) ?_
      refine Zp.iret _ k_199_34 vr_199 rfl ?_
      first | exact hq I L pm (FrM.rf I) | exact hq I2 L pm2 (fun q hq => s2 q (by omega))
end BEST1
